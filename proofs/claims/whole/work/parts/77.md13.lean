/-! THE MODEL: what makes nodes -/
theorem md_nv.new {S : md_A} {k op w : Nat} {fi se x y u v : Int32} (h1 : op ≤ 6) (h2 : 1 ≤ w) (h3 : w ≤ 6) (h6 : 1 ≤ op → ∃ b wb : Nat, b < k ∧ wb ≤ 6 ∧ fi = nI b ∧ S.2.2.2.2.2.2.2.2.2.2 b = nI wb ∧ (op = 3 ∨ op = 4 ∨ op = 5 → ∃ d wd : Nat, d < k ∧ wd ≤ 6 ∧ se = nI d ∧ S.2.2.2.2.2.2.2.2.2.2 d = nI wd ∧ (op = 3 → wb + wd ≤ 6))) (h7 : op = 1 ∨ op = 3 ∨ op = 6 → ∃ ca : Nat, ca < 6 ∧ x = nI ca) (h8 : op = 1 → u = -1 ∨ ∃ cc : Nat, cc < 6 ∧ u = nI cc) (h9 : op = 2 → ∃ N : Nat, N < 10 ^ 6 ∧ x = nI N ∧ ∀ c : Nat, N / 10 ^ c ≠ 0 → 1 ≤ N / 10 ^ c % 10 ∧ N / 10 ^ c % 10 ≤ 6) (h10 : op = 3 ∨ op = 6 → ∃ cb : Nat, cb < 6 ∧ y = nI cb) : md_nv (S.1, S.2.1, S.2.2.1, upd S.2.2.2.1 k (nI op), upd S.2.2.2.2.1 k fi, upd S.2.2.2.2.2.1 k se, upd S.2.2.2.2.2.2.1 k x, upd S.2.2.2.2.2.2.2.1 k y, upd S.2.2.2.2.2.2.2.2.1 k u, upd S.2.2.2.2.2.2.2.2.2.1 k v, upd S.2.2.2.2.2.2.2.2.2.2 k (nI w)) k := by
  refine ⟨op, w, h1, h2, h3, upd_at, upd_at, fun q => ?_, fun q => ?_, fun q => ?_, fun q => ?_, fun q => ?_⟩
  · obtain ⟨b, wb, i1, i2, i3, i4, i5⟩ := h6 q
    refine ⟨b, wb, i1, i2, upd_at.trans i3, (upd_lt i1).trans i4, fun q2 => ?_⟩
    obtain ⟨d, wd, j1, j2, j3, j4, j5⟩ := i5 q2
    exact ⟨d, wd, j1, j2, upd_at.trans j3, (upd_lt j1).trans j4, j5⟩
  · obtain ⟨c, i1, i2⟩ := h7 q
    exact ⟨c, i1, upd_at.trans i2⟩
  · rcases h8 q with i | ⟨c, i1, i2⟩
    · exact Or.inl (upd_at.trans i)
    · exact Or.inr ⟨c, i1, upd_at.trans i2⟩
  · obtain ⟨N, i1, i2, i3⟩ := h9 q
    exact ⟨N, i1, upd_at.trans i2, i3⟩
  · obtain ⟨c, i1, i2⟩ := h10 q
    exact ⟨c, i1, upd_at.trans i2⟩
theorem md_nkz {z : sh_S} {j : Nat} {k r w : Int32} (hn : ¬ sh_nn z (nI j)) (hw : sh_w z (nI j) = w) (hz : (r = nI 0 ∧ (k < 0 ∨ w ≤ k)) ∨ (r = nI 1 ∧ ¬ (k < 0 ∨ w ≤ k))) : (r = nI 0 ∧ sh_nk z (nI j) k) ∨ (r = nI 1 ∧ ¬ sh_nk z (nI j) k) := by
  subst hw
  exact hz.imp (fun a => ⟨a.1, Or.inr a.2⟩) (fun a => ⟨a.1, fun e => e.elim hn a.2⟩)
theorem md_co {z : sh_S} {j w : Nat} {k : Int32} (hw : sh_w z (nI j) = nI w) (hw6 : w ≤ 6) (hz : ¬ sh_nk z (nI j) k) : ∃ c : Nat, c < 6 ∧ k = nI c := by
  obtain ⟨c, h1, h2⟩ := nI_of_lt (k := w) (by omega) (fun e => hz (Or.inr (Or.inl e))) (fun e => hz (Or.inr (Or.inr (by rw [hw]; exact e))))
  exact ⟨c, by omega, h2⟩
theorem md_un.nd {ids : Nat → ClassId} {h : rl_H} {m : Nat} {T : md_T} {fu : Int32} {k : Nat} {S : md_A} {z : sh_S} (H : md_un ids h m T fu k S z) {q : Int32} (hn : ¬ sh_nn z q) : ∃ j w : Nat, j < z.2.2.2.1 ∧ j < 16 ∧ q = nI j ∧ 1 ≤ w ∧ w ≤ 6 ∧ S.2.2.2.2.2.2.2.2.2.2 j = nI w ∧ sh_w z (nI j) = nI w := by
  obtain ⟨-, -, -, -, -, ⟨hnc, hn16⟩, hnw, -, hnv, -, -⟩ := H
  obtain ⟨j, hj, e⟩ := nI_of_lt (k := z.2.2.2.1) (by omega) (fun e => hn (Or.inl e)) (fun e => hn (Or.inr e))
  obtain ⟨op, w, -, h2, h3, -, h5, -⟩ := hnv j hj
  refine ⟨j, w, hj, by omega, e, h2, h3, h5, ?_⟩
  unfold sh_w
  rw [rl_cl (N := 16) (by omega) (by decide), ← hnw]
  exact h5

set_option maxHeartbeats 4000000 in
set_option maxRecDepth 100000 in
theorem cm_X8_isNode (l : Launch) (D : va_G) (ids : Nat → ClassId) (H0 : Heap) (h : rl_H) (n : Nat) (m : Nat) (T : md_T) (fu : Int32) (k : Nat) (S : md_A) (z : sh_S) (q : Int32) (hu : md_un ids h m T fu k S z) : rl_Met l (rl_e D ids H0) rl_BW rl_Ns yX8_isNode cX8_isNode 2 (some .boolean) ({ frames := 0, cells := 0, slots := 0, locals := 0 }) [.ref m, .int q] h n (fun v h' n' => ∃ r : Int32, v = some (.int r) ∧ h' = h ∧ n' = n ∧ ((r = nI 0 ∧ sh_nn z q) ∨ (r = nI 1 ∧ ¬ sh_nn z q))) := by
  obtain ⟨hq, hs, ⟨hsc, hsc4⟩, hwf, ⟨hrr, hr36⟩, ⟨hnc, hn16⟩, hnw, hpr, hnv, hwv, wrc, hrc6, hrc⟩ := id hu
  have g0 := hq.1
  refine rl_Met.of (by decide +kernel) (Nat.le_of_ble_eq_true rfl) ?_
  intro X hC hB
  show rl_G X (rl_e D ids H0) 0 [some (.ref m), some (.int q)] [] h n 0 0
  refine o_iload_n hC dX8_isNode_0 (by rfl) ?_
  refine o_if_lt (tgt := 16) hC dX8_isNode_1 (by decide) (fun c_1 => ?_) (fun c_1 => ?_)
  · refine o_iconst (v := nI 0) hC dX8_isNode_16 (by decide +kernel) ?_
    refine o_zret hC hB dX8_isNode_17 (by first | rfl | decide +kernel) (Nat.le_of_ble_eq_true rfl) (Nat.le_of_ble_eq_true rfl) ?_
    first
    | exact ⟨_, rfl, rfl, rfl, Or.inl ⟨rfl, Or.inl c_1⟩⟩
    | exact ⟨_, rfl, rfl, rfl, Or.inl ⟨rfl, Or.inr c_9⟩⟩
    | exact ⟨_, rfl, rfl, rfl, Or.inr ⟨rfl, fun e => e.elim c_1 c_9⟩⟩
  · refine o_iload_n hC dX8_isNode_4 (by rfl) ?_
    refine o_aload_n hC dX8_isNode_5 (by rfl) ?_
    refine o_getf (v := .int (nI z.2.2.2.1)) hC (fX8_119 hC rfl) dX8_isNode_6 (by repeat (first | with_reducible assumption | (rw [rl_u_s]; done) | (rw [rl_u_s]; rfl) | rw [rl_u_n (by first | with_reducible assumption | omega)])) (by rw [← hnc]; rfl) ?_
    refine o_icmp_ge (tgt := 16) hC dX8_isNode_9 (by decide) (fun c_9 => ?_) (fun c_9 => ?_)
    · refine o_iconst (v := nI 0) hC dX8_isNode_16 (by decide +kernel) ?_
      refine o_zret hC hB dX8_isNode_17 (by first | rfl | decide +kernel) (Nat.le_of_ble_eq_true rfl) (Nat.le_of_ble_eq_true rfl) ?_
      first
      | exact ⟨_, rfl, rfl, rfl, Or.inl ⟨rfl, Or.inl c_1⟩⟩
      | exact ⟨_, rfl, rfl, rfl, Or.inl ⟨rfl, Or.inr c_9⟩⟩
      | exact ⟨_, rfl, rfl, rfl, Or.inr ⟨rfl, fun e => e.elim c_1 c_9⟩⟩
    · refine o_iconst (v := nI 1) hC dX8_isNode_12 (by decide +kernel) ?_
      refine o_goto (tgt := 17) hC dX8_isNode_13 (by decide) ?_
      refine o_zret hC hB dX8_isNode_17 (by first | rfl | decide +kernel) (Nat.le_of_ble_eq_true rfl) (Nat.le_of_ble_eq_true rfl) ?_
      first
      | exact ⟨_, rfl, rfl, rfl, Or.inl ⟨rfl, Or.inl c_1⟩⟩
      | exact ⟨_, rfl, rfl, rfl, Or.inl ⟨rfl, Or.inr c_9⟩⟩
      | exact ⟨_, rfl, rfl, rfl, Or.inr ⟨rfl, fun e => e.elim c_1 c_9⟩⟩

set_option maxHeartbeats 4000000 in
set_option maxRecDepth 100000 in
theorem cm_X8_isColumn (l : Launch) (D : va_G) (ids : Nat → ClassId) (H0 : Heap) (h : rl_H) (n : Nat) (m : Nat) (T : md_T) (fu : Int32) (k : Nat) (S : md_A) (z : sh_S) (j : Nat) (c : Int32) (hu : md_un ids h m T fu k S z) (hj : j < 16) : rl_Met l (rl_e D ids H0) rl_BW rl_Ns yX8_isColumn cX8_isColumn 3 (some .boolean) ({ frames := 0, cells := 0, slots := 0, locals := 0 }) [.ref m, .int (nI j), .int c] h n (fun v h' n' => ∃ r : Int32, v = some (.int r) ∧ h' = h ∧ n' = n ∧ ((r = nI 0 ∧ (c < 0 ∨ S.2.2.2.2.2.2.2.2.2.2 j ≤ c)) ∨ (r = nI 1 ∧ ¬ (c < 0 ∨ S.2.2.2.2.2.2.2.2.2.2 j ≤ c)))) := by
  obtain ⟨hq, hs, ⟨hsc, hsc4⟩, hwf, ⟨hrr, hr36⟩, ⟨hnc, hn16⟩, hnw, hpr, hnv, hwv, wrc, hrc6, hrc⟩ := id hu
  have g0 := hq.1
  obtain ⟨a1, a2, a3, a4, a5, a6, a7, a8, a9, a10, a11⟩ := id hs
  refine rl_Met.of (by decide +kernel) (Nat.le_of_ble_eq_true rfl) ?_
  intro X hC hB
  show rl_G X (rl_e D ids H0) 0 [some (.ref m), some (.int (nI j)), some (.int c)] [] h n 0 0
  refine o_iload_n hC dX8_isColumn_0 (by rfl) ?_
  refine o_if_lt (tgt := 18) hC dX8_isColumn_1 (by decide) (fun c_1 => ?_) (fun c_1 => ?_)
  · refine o_iconst (v := nI 0) hC dX8_isColumn_18 (by decide +kernel) ?_
    refine o_zret hC hB dX8_isColumn_19 (by first | rfl | decide +kernel) (Nat.le_of_ble_eq_true rfl) (Nat.le_of_ble_eq_true rfl) ?_
    first
    | exact ⟨_, rfl, rfl, rfl, Or.inl ⟨rfl, Or.inl c_1⟩⟩
    | exact ⟨_, rfl, rfl, rfl, Or.inl ⟨rfl, Or.inr c_11⟩⟩
    | exact ⟨_, rfl, rfl, rfl, Or.inr ⟨rfl, fun e => e.elim c_1 c_11⟩⟩
  · refine o_iload_n hC dX8_isColumn_4 (by rfl) ?_
    refine o_aload_n hC dX8_isColumn_5 (by rfl) ?_
    refine o_getf hC (fX8_40 hC rfl) dX8_isColumn_6 (by repeat (first | with_reducible assumption | (rw [rl_u_s]; done) | (rw [rl_u_s]; rfl) | rw [rl_u_n (by first | with_reducible assumption | omega)])) (by first | rfl | with_reducible assumption) ?_
    refine o_iload_n hC dX8_isColumn_9 (by rfl) ?_
    refine o_ialdN (t0 := 0) hC rfl dX8_isColumn_10 (by repeat (first | with_reducible assumption | (rw [rl_u_s]; done) | (rw [rl_u_s]; rfl) | rw [rl_u_n (by first | with_reducible assumption | omega)])) (by omega) (by decide) ?_
    refine o_icmp_ge (tgt := 18) hC dX8_isColumn_11 (by decide) (fun c_11 => ?_) (fun c_11 => ?_)
    · refine o_iconst (v := nI 0) hC dX8_isColumn_18 (by decide +kernel) ?_
      refine o_zret hC hB dX8_isColumn_19 (by first | rfl | decide +kernel) (Nat.le_of_ble_eq_true rfl) (Nat.le_of_ble_eq_true rfl) ?_
      first
      | exact ⟨_, rfl, rfl, rfl, Or.inl ⟨rfl, Or.inl c_1⟩⟩
      | exact ⟨_, rfl, rfl, rfl, Or.inl ⟨rfl, Or.inr c_11⟩⟩
      | exact ⟨_, rfl, rfl, rfl, Or.inr ⟨rfl, fun e => e.elim c_1 c_11⟩⟩
    · refine o_iconst (v := nI 1) hC dX8_isColumn_14 (by decide +kernel) ?_
      refine o_goto (tgt := 19) hC dX8_isColumn_15 (by decide) ?_
      refine o_zret hC hB dX8_isColumn_19 (by first | rfl | decide +kernel) (Nat.le_of_ble_eq_true rfl) (Nat.le_of_ble_eq_true rfl) ?_
      first
      | exact ⟨_, rfl, rfl, rfl, Or.inl ⟨rfl, Or.inl c_1⟩⟩
      | exact ⟨_, rfl, rfl, rfl, Or.inl ⟨rfl, Or.inr c_11⟩⟩
      | exact ⟨_, rfl, rfl, rfl, Or.inr ⟨rfl, fun e => e.elim c_1 c_11⟩⟩

set_option maxHeartbeats 4000000 in
set_option maxRecDepth 100000 in
theorem cm_X8_node (l : Launch) (D : va_G) (ids : Nat → ClassId) (H0 : Heap) (h : rl_H) (n : Nat) (m : Nat) (T : md_T) (fu : Int32) (k : Nat) (S : md_A) (z : sh_S) (op fi se x y u vv w : Int32) (hu : md_un ids h m T fu k S z) (hv : z.2.2.2.1 < 16 → md_nv (S.1, S.2.1, S.2.2.1, upd S.2.2.2.1 z.2.2.2.1 op, upd S.2.2.2.2.1 z.2.2.2.1 fi, upd S.2.2.2.2.2.1 z.2.2.2.1 se, upd S.2.2.2.2.2.2.1 z.2.2.2.1 x, upd S.2.2.2.2.2.2.2.1 z.2.2.2.1 y, upd S.2.2.2.2.2.2.2.2.1 z.2.2.2.1 u, upd S.2.2.2.2.2.2.2.2.2.1 z.2.2.2.1 vv, upd S.2.2.2.2.2.2.2.2.2.2 z.2.2.2.1 w) z.2.2.2.1) : rl_Met l (rl_e D ids H0) rl_BW rl_Ns yX8_node cX8_node 9 (some .int) ({ frames := 0, cells := 0, slots := 0, locals := 0 }) [.ref m, .int op, .int fi, .int se, .int x, .int y, .int u, .int vv, .int w] h n (fun v h' n' => ∃ r : Int32, v = some (.int r) ∧ n' = n ∧ mdx ids h' m T (sh_node z w).2 (fun S' => (S' = S ∧ (sh_node z w).2 = z) ∨ ∃ w9 : Int32, S' = (S.1, S.2.1, S.2.2.1, upd S.2.2.2.1 z.2.2.2.1 op, upd S.2.2.2.2.1 z.2.2.2.1 fi, upd S.2.2.2.2.2.1 z.2.2.2.1 se, upd S.2.2.2.2.2.2.1 z.2.2.2.1 x, upd S.2.2.2.2.2.2.2.1 z.2.2.2.1 y, upd S.2.2.2.2.2.2.2.2.1 z.2.2.2.1 u, upd S.2.2.2.2.2.2.2.2.2.1 z.2.2.2.1 vv, upd S.2.2.2.2.2.2.2.2.2.2 z.2.2.2.1 w9) ∧ (sh_node z w).2.2.2.2.1 = z.2.2.2.1 + 1) (∀ q : Nat, m + 12 ≤ q → q < m + 23 → h' q = h q) ∧ r = (sh_node z w).1 ∧ rl_fr h h' m (m + 23)) := by
  obtain ⟨hq, hs, ⟨hsc, hsc4⟩, hwf, ⟨hrr, hr36⟩, ⟨hnc, hn16⟩, hnw, hpr, hnv, hwv, wrc, hrc6, hrc⟩ := id hu
  have g0 := hq.1
  obtain ⟨-, gk, ⟨⟨cl, g12⟩, ⟨tu, g13, b13⟩, ⟨im, g14⟩, ⟨te, g15, b15⟩, ⟨ne, g16⟩, ⟨la, g17⟩, ⟨hn, g18⟩, ⟨hl, g19⟩, ⟨tp, g20⟩, ⟨gr, g21, b21⟩, ⟨it, g22⟩⟩, gf⟩ := id hq
  obtain ⟨a1, a2, a3, a4, a5, a6, a7, a8, a9, a10, a11⟩ := id hs
  refine rl_Met.of (by decide +kernel) (Nat.le_of_ble_eq_true rfl) ?_
  intro X hC hB
  show rl_G X (rl_e D ids H0) 0 [some (.ref m), some (.int op), some (.int fi), some (.int se), some (.int x), some (.int y), some (.int u), some (.int vv), some (.int w)] [] h n 0 0
  refine o_aload_n hC dX8_node_0 (by rfl) ?_
  refine o_getf (v := .int (nI z.2.2.2.1)) hC (fX8_119 hC rfl) dX8_node_1 (by repeat (first | with_reducible assumption | (rw [rl_u_s]; done) | (rw [rl_u_s]; rfl) | rw [rl_u_n (by first | with_reducible assumption | omega)])) (by rw [← hnc]; rfl) ?_
  refine o_bipush (v := nI 16) hC dX8_node_4 (by decide +kernel) ?_
  refine o_icmp_ne (tgt := 12) hC dX8_node_6 (by decide) (fun c_6 => ?_) (fun c_6 => ?_)
  · have n16b : z.2.2.2.1 ≠ 16 := nI_eq_of c_6
    refine o_aload_n hC dX8_node_12 (by rfl) ?_
    refine o_getf hC (fX8_19 hC rfl) dX8_node_13 (by repeat (first | with_reducible assumption | (rw [rl_u_s]; done) | (rw [rl_u_s]; rfl) | rw [rl_u_n (by first | with_reducible assumption | omega)])) (by first | rfl | with_reducible assumption) ?_
    refine o_aload_n hC dX8_node_16 (by rfl) ?_
    refine o_getf (v := .int (nI z.2.2.2.1)) hC (fX8_119 hC rfl) dX8_node_17 (by repeat (first | with_reducible assumption | (rw [rl_u_s]; done) | (rw [rl_u_s]; rfl) | rw [rl_u_n (by first | with_reducible assumption | omega)])) (by rw [← hnc]; rfl) ?_
    refine o_iload_n hC dX8_node_20 (by rfl) ?_
    refine o_iastN (t0 := 0) hC rfl dX8_node_21 (by repeat (first | with_reducible assumption | (rw [rl_u_s]; done) | (rw [rl_u_s]; rfl) | rw [rl_u_n (by first | with_reducible assumption | omega)])) (by omega) (by decide) ?_
    refine o_aload_n hC dX8_node_22 (by rfl) ?_
    refine o_getf hC (fX8_22 hC rfl) dX8_node_23 (by repeat (first | with_reducible assumption | (rw [rl_u_s]; done) | (rw [rl_u_s]; rfl) | rw [rl_u_n (by first | with_reducible assumption | omega)])) (by first | rfl | with_reducible assumption) ?_
    refine o_aload_n hC dX8_node_26 (by rfl) ?_
    refine o_getf (v := .int (nI z.2.2.2.1)) hC (fX8_119 hC rfl) dX8_node_27 (by repeat (first | with_reducible assumption | (rw [rl_u_s]; done) | (rw [rl_u_s]; rfl) | rw [rl_u_n (by first | with_reducible assumption | omega)])) (by rw [← hnc]; rfl) ?_
    refine o_iload_n hC dX8_node_30 (by rfl) ?_
    refine o_iastN (t0 := 0) hC rfl dX8_node_31 (by repeat (first | with_reducible assumption | (rw [rl_u_s]; done) | (rw [rl_u_s]; rfl) | rw [rl_u_n (by first | with_reducible assumption | omega)])) (by omega) (by decide) ?_
    refine o_aload_n hC dX8_node_32 (by rfl) ?_
    refine o_getf hC (fX8_25 hC rfl) dX8_node_33 (by repeat (first | with_reducible assumption | (rw [rl_u_s]; done) | (rw [rl_u_s]; rfl) | rw [rl_u_n (by first | with_reducible assumption | omega)])) (by first | rfl | with_reducible assumption) ?_
    refine o_aload_n hC dX8_node_36 (by rfl) ?_
    refine o_getf (v := .int (nI z.2.2.2.1)) hC (fX8_119 hC rfl) dX8_node_37 (by repeat (first | with_reducible assumption | (rw [rl_u_s]; done) | (rw [rl_u_s]; rfl) | rw [rl_u_n (by first | with_reducible assumption | omega)])) (by rw [← hnc]; rfl) ?_
    refine o_iload_n hC dX8_node_40 (by rfl) ?_
    refine o_iastN (t0 := 0) hC rfl dX8_node_41 (by repeat (first | with_reducible assumption | (rw [rl_u_s]; done) | (rw [rl_u_s]; rfl) | rw [rl_u_n (by first | with_reducible assumption | omega)])) (by omega) (by decide) ?_
    refine o_aload_n hC dX8_node_42 (by rfl) ?_
    refine o_getf hC (fX8_28 hC rfl) dX8_node_43 (by repeat (first | with_reducible assumption | (rw [rl_u_s]; done) | (rw [rl_u_s]; rfl) | rw [rl_u_n (by first | with_reducible assumption | omega)])) (by first | rfl | with_reducible assumption) ?_
    refine o_aload_n hC dX8_node_46 (by rfl) ?_
    refine o_getf (v := .int (nI z.2.2.2.1)) hC (fX8_119 hC rfl) dX8_node_47 (by repeat (first | with_reducible assumption | (rw [rl_u_s]; done) | (rw [rl_u_s]; rfl) | rw [rl_u_n (by first | with_reducible assumption | omega)])) (by rw [← hnc]; rfl) ?_
    refine o_iload hC dX8_node_50 (by rfl) ?_
    refine o_iastN (t0 := 0) hC rfl dX8_node_52 (by repeat (first | with_reducible assumption | (rw [rl_u_s]; done) | (rw [rl_u_s]; rfl) | rw [rl_u_n (by first | with_reducible assumption | omega)])) (by omega) (by decide) ?_
    refine o_aload_n hC dX8_node_53 (by rfl) ?_
    refine o_getf hC (fX8_31 hC rfl) dX8_node_54 (by repeat (first | with_reducible assumption | (rw [rl_u_s]; done) | (rw [rl_u_s]; rfl) | rw [rl_u_n (by first | with_reducible assumption | omega)])) (by first | rfl | with_reducible assumption) ?_
    refine o_aload_n hC dX8_node_57 (by rfl) ?_
    refine o_getf (v := .int (nI z.2.2.2.1)) hC (fX8_119 hC rfl) dX8_node_58 (by repeat (first | with_reducible assumption | (rw [rl_u_s]; done) | (rw [rl_u_s]; rfl) | rw [rl_u_n (by first | with_reducible assumption | omega)])) (by rw [← hnc]; rfl) ?_
    refine o_iload hC dX8_node_61 (by rfl) ?_
    refine o_iastN (t0 := 0) hC rfl dX8_node_63 (by repeat (first | with_reducible assumption | (rw [rl_u_s]; done) | (rw [rl_u_s]; rfl) | rw [rl_u_n (by first | with_reducible assumption | omega)])) (by omega) (by decide) ?_
    refine o_aload_n hC dX8_node_64 (by rfl) ?_
    refine o_getf hC (fX8_34 hC rfl) dX8_node_65 (by repeat (first | with_reducible assumption | (rw [rl_u_s]; done) | (rw [rl_u_s]; rfl) | rw [rl_u_n (by first | with_reducible assumption | omega)])) (by first | rfl | with_reducible assumption) ?_
    refine o_aload_n hC dX8_node_68 (by rfl) ?_
    refine o_getf (v := .int (nI z.2.2.2.1)) hC (fX8_119 hC rfl) dX8_node_69 (by repeat (first | with_reducible assumption | (rw [rl_u_s]; done) | (rw [rl_u_s]; rfl) | rw [rl_u_n (by first | with_reducible assumption | omega)])) (by rw [← hnc]; rfl) ?_
    refine o_iload hC dX8_node_72 (by rfl) ?_
    refine o_iastN (t0 := 0) hC rfl dX8_node_74 (by repeat (first | with_reducible assumption | (rw [rl_u_s]; done) | (rw [rl_u_s]; rfl) | rw [rl_u_n (by first | with_reducible assumption | omega)])) (by omega) (by decide) ?_
    refine o_aload_n hC dX8_node_75 (by rfl) ?_
    refine o_getf hC (fX8_37 hC rfl) dX8_node_76 (by repeat (first | with_reducible assumption | (rw [rl_u_s]; done) | (rw [rl_u_s]; rfl) | rw [rl_u_n (by first | with_reducible assumption | omega)])) (by first | rfl | with_reducible assumption) ?_
    refine o_aload_n hC dX8_node_79 (by rfl) ?_
    refine o_getf (v := .int (nI z.2.2.2.1)) hC (fX8_119 hC rfl) dX8_node_80 (by repeat (first | with_reducible assumption | (rw [rl_u_s]; done) | (rw [rl_u_s]; rfl) | rw [rl_u_n (by first | with_reducible assumption | omega)])) (by rw [← hnc]; rfl) ?_
    refine o_iload hC dX8_node_83 (by rfl) ?_
    refine o_iastN (t0 := 0) hC rfl dX8_node_85 (by repeat (first | with_reducible assumption | (rw [rl_u_s]; done) | (rw [rl_u_s]; rfl) | rw [rl_u_n (by first | with_reducible assumption | omega)])) (by omega) (by decide) ?_
    refine o_aload_n hC dX8_node_86 (by rfl) ?_
    refine o_getf hC (fX8_40 hC rfl) dX8_node_87 (by repeat (first | with_reducible assumption | (rw [rl_u_s]; done) | (rw [rl_u_s]; rfl) | rw [rl_u_n (by first | with_reducible assumption | omega)])) (by first | rfl | with_reducible assumption) ?_
    refine o_aload_n hC dX8_node_90 (by rfl) ?_
    refine o_getf (v := .int (nI z.2.2.2.1)) hC (fX8_119 hC rfl) dX8_node_91 (by repeat (first | with_reducible assumption | (rw [rl_u_s]; done) | (rw [rl_u_s]; rfl) | rw [rl_u_n (by first | with_reducible assumption | omega)])) (by rw [← hnc]; rfl) ?_
    refine o_iload hC dX8_node_94 (by rfl) ?_
    refine o_iastN (t0 := 0) hC rfl dX8_node_96 (by repeat (first | with_reducible assumption | (rw [rl_u_s]; done) | (rw [rl_u_s]; rfl) | rw [rl_u_n (by first | with_reducible assumption | omega)])) (by omega) (by decide) ?_
    refine o_aload_n hC dX8_node_97 (by rfl) ?_
    refine o_dup hC dX8_node_98 rfl ?_
    refine o_getf (v := .int (nI z.2.2.2.1)) hC (fX8_119 hC rfl) dX8_node_99 (by repeat (first | with_reducible assumption | (rw [rl_u_s]; done) | (rw [rl_u_s]; rfl) | rw [rl_u_n (by first | with_reducible assumption | omega)])) (by rw [← hnc]; rfl) ?_
    refine o_iconst (v := nI 1) hC dX8_node_102 (by decide +kernel) ?_
    refine o_iadd hC dX8_node_103 ?_
    try rw [nI_add]
    refine o_putf hC (fX8_119 hC rfl) (fwX8 rfl rfl rfl (Or.inl rfl)) dX8_node_104 (by repeat (first | with_reducible assumption | (rw [rl_u_s]; done) | (rw [rl_u_s]; rfl) | rw [rl_u_n (by first | with_reducible assumption | omega)])) (Nat.le_of_ble_eq_true rfl) ?_
    try simp only [List.set_cons_zero, List.set_cons_succ]
    refine o_aload_n hC dX8_node_107 (by rfl) ?_
    refine o_getf hC (fX8_119 hC rfl) dX8_node_108 (by repeat (first | with_reducible assumption | (rw [rl_u_s]; done) | (rw [rl_u_s]; rfl) | rw [rl_u_n (by first | with_reducible assumption | omega)])) (by first | rfl | with_reducible assumption) ?_
    refine o_iconst (v := nI 1) hC dX8_node_111 (by decide +kernel) ?_
    refine o_isub hC dX8_node_112 ?_
    rw [rl_pred z.2.2.2.1]
    refine o_iret hC hB dX8_node_113 (Nat.le_of_ble_eq_true rfl) (Nat.le_of_ble_eq_true rfl) ?_
    have n16 : z.2.2.2.1 ≠ 16 := nI_eq_of c_6
    have e : sh_node z w = (nI z.2.2.2.1, (z.1, z.2.1, z.2.2.1, z.2.2.2.1 + 1, upd z.2.2.2.2.1 z.2.2.2.1 w, z.2.2.2.2.2)) := if_neg (by omega)
    have nv2 : ∀ a : Nat, a < z.2.2.2.1 + 1 → md_nv (S.1, S.2.1, S.2.2.1, upd S.2.2.2.1 z.2.2.2.1 op, upd S.2.2.2.2.1 z.2.2.2.1 fi, upd S.2.2.2.2.2.1 z.2.2.2.1 se, upd S.2.2.2.2.2.2.1 z.2.2.2.1 x, upd S.2.2.2.2.2.2.2.1 z.2.2.2.1 y, upd S.2.2.2.2.2.2.2.2.1 z.2.2.2.1 u, upd S.2.2.2.2.2.2.2.2.2.1 z.2.2.2.1 vv, upd S.2.2.2.2.2.2.2.2.2.2 z.2.2.2.1 w) a := fun a ha => by
      by_cases ea : a = z.2.2.2.1
      · rw [ea]
        exact hv (by omega)
      · exact (hnv a (by omega)).up (by omega)
    exact ⟨_, rfl, rfl, (by rw [e]; exact ⟨(T.1, T.2.1, T.2.2.1, T.2.2.2.1, nI (z.2.2.2.1 + 1), T.2.2.2.2.2), fu, k, (S.1, S.2.1, S.2.2.1, upd S.2.2.2.1 z.2.2.2.1 op, upd S.2.2.2.2.1 z.2.2.2.1 fi, upd S.2.2.2.2.2.1 z.2.2.2.1 se, upd S.2.2.2.2.2.2.1 z.2.2.2.1 x, upd S.2.2.2.2.2.2.2.1 z.2.2.2.1 y, upd S.2.2.2.2.2.2.2.2.1 z.2.2.2.1 u, upd S.2.2.2.2.2.2.2.2.2.1 z.2.2.2.1 vv, upd S.2.2.2.2.2.2.2.2.2.2 z.2.2.2.1 w), ⟨⟨by repeat (first | with_reducible assumption | (rw [rl_u_s]; done) | (rw [rl_u_s]; rfl) | rw [rl_u_n (by first | with_reducible assumption | omega)]), gk, ⟨⟨cl, by repeat (first | with_reducible assumption | (rw [rl_u_s]; done) | (rw [rl_u_s]; rfl) | rw [rl_u_n (by first | with_reducible assumption | omega)])⟩, ⟨tu, by repeat (first | with_reducible assumption | (rw [rl_u_s]; done) | (rw [rl_u_s]; rfl) | rw [rl_u_n (by first | with_reducible assumption | omega)]), b13⟩, ⟨im, by repeat (first | with_reducible assumption | (rw [rl_u_s]; done) | (rw [rl_u_s]; rfl) | rw [rl_u_n (by first | with_reducible assumption | omega)])⟩, ⟨te, by repeat (first | with_reducible assumption | (rw [rl_u_s]; done) | (rw [rl_u_s]; rfl) | rw [rl_u_n (by first | with_reducible assumption | omega)]), b15⟩, ⟨ne, by repeat (first | with_reducible assumption | (rw [rl_u_s]; done) | (rw [rl_u_s]; rfl) | rw [rl_u_n (by first | with_reducible assumption | omega)])⟩, ⟨la, by repeat (first | with_reducible assumption | (rw [rl_u_s]; done) | (rw [rl_u_s]; rfl) | rw [rl_u_n (by first | with_reducible assumption | omega)])⟩, ⟨hn, by repeat (first | with_reducible assumption | (rw [rl_u_s]; done) | (rw [rl_u_s]; rfl) | rw [rl_u_n (by first | with_reducible assumption | omega)])⟩, ⟨hl, by repeat (first | with_reducible assumption | (rw [rl_u_s]; done) | (rw [rl_u_s]; rfl) | rw [rl_u_n (by first | with_reducible assumption | omega)])⟩, ⟨tp, by repeat (first | with_reducible assumption | (rw [rl_u_s]; done) | (rw [rl_u_s]; rfl) | rw [rl_u_n (by first | with_reducible assumption | omega)])⟩, ⟨gr, by repeat (first | with_reducible assumption | (rw [rl_u_s]; done) | (rw [rl_u_s]; rfl) | rw [rl_u_n (by first | with_reducible assumption | omega)]), b21⟩, ⟨it, by repeat (first | with_reducible assumption | (rw [rl_u_s]; done) | (rw [rl_u_s]; rfl) | rw [rl_u_n (by first | with_reducible assumption | omega)])⟩⟩, fun _ _ _ => rfl⟩, ⟨by repeat (first | with_reducible assumption | (rw [rl_u_s]; done) | (rw [rl_u_s]; rfl) | rw [rl_u_n (by first | with_reducible assumption | omega)]), by repeat (first | with_reducible assumption | (rw [rl_u_s]; done) | (rw [rl_u_s]; rfl) | rw [rl_u_n (by first | with_reducible assumption | omega)]), by repeat (first | with_reducible assumption | (rw [rl_u_s]; done) | (rw [rl_u_s]; rfl) | rw [rl_u_n (by first | with_reducible assumption | omega)]), by repeat (first | with_reducible assumption | (rw [rl_u_s]; done) | (rw [rl_u_s]; rfl) | rw [rl_u_n (by first | with_reducible assumption | omega)]), by repeat (first | with_reducible assumption | (rw [rl_u_s]; done) | (rw [rl_u_s]; rfl) | rw [rl_u_n (by first | with_reducible assumption | omega)]), by repeat (first | with_reducible assumption | (rw [rl_u_s]; done) | (rw [rl_u_s]; rfl) | rw [rl_u_n (by first | with_reducible assumption | omega)]), by repeat (first | with_reducible assumption | (rw [rl_u_s]; done) | (rw [rl_u_s]; rfl) | rw [rl_u_n (by first | with_reducible assumption | omega)]), by repeat (first | with_reducible assumption | (rw [rl_u_s]; done) | (rw [rl_u_s]; rfl) | rw [rl_u_n (by first | with_reducible assumption | omega)]), by repeat (first | with_reducible assumption | (rw [rl_u_s]; done) | (rw [rl_u_s]; rfl) | rw [rl_u_n (by first | with_reducible assumption | omega)]), by repeat (first | with_reducible assumption | (rw [rl_u_s]; done) | (rw [rl_u_s]; rfl) | rw [rl_u_n (by first | with_reducible assumption | omega)]), by repeat (first | with_reducible assumption | (rw [rl_u_s]; done) | (rw [rl_u_s]; rfl) | rw [rl_u_n (by first | with_reducible assumption | omega)])⟩, ⟨hsc, hsc4⟩, hwf, ⟨hrr, hr36⟩, ⟨rfl, (by show z.2.2.2.1 + 1 ≤ 16; omega)⟩, (by show upd S.2.2.2.2.2.2.2.2.2.2 z.2.2.2.1 w = upd z.2.2.2.2.1 z.2.2.2.1 w; rw [hnw]), hpr, nv2, hwv, ⟨wrc, hrc6, hrc⟩⟩, rfl, Or.inr ⟨w, rfl, rfl⟩, fun q a b => by repeat (first | rfl | rw [rl_u_n (by omega)])⟩), (by rw [e]), fun q hq => by repeat (first | rfl | rw [rl_u_n (by omega)])⟩
  · refine o_bipush (v := (-4 : Int32)) hC dX8_node_9 (by decide +kernel) ?_
    refine o_iret hC hB dX8_node_11 (Nat.le_of_ble_eq_true rfl) (Nat.le_of_ble_eq_true rfl) ?_
    (have e : sh_node z w = (-4, z) := sh_node_n (by have := nI_inj2 (by omega) (by decide) c_6; omega); exact ⟨_, rfl, rfl, (by rw [e]; exact ⟨_, _, _, _, hu, rfl, Or.inl ⟨rfl, rfl⟩, fun _ _ _ => rfl⟩), (by rw [e]), rl_fr.rf⟩)
