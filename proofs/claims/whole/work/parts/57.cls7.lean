/-! RowLineage in every state: what Nodes are; openNode -/
/-- a table, whatever it holds -/
def tbi (ids : Nat → ClassId) (h : rl_H) (a w : Nat) : Prop := ∃ (sz : Nat) (P : Nat → Nat) (S : tb_S), tb_at ids h a sz w P S ∧ ∀ i j : Nat, i < 80 → j < 80 → P i = P j → i = j
/-- Node k is made of earlier ones, and its numbers are such that its table can be filled -/
def cl_cv (N : Nat → Nat → Int32) (k : Nat) : Prop := ∃ op w w1 w2 : Nat, N k 0 = nI op ∧ N k 1 = nI w ∧ 1 ≤ w ∧ nd_ok op w (N k 4) (N k 5) (N k 6) (N k 7) w1 w2 ∧ ((N k 2 = -1 ∨ ∃ i : Nat, i < k ∧ N k 2 = nI i) ∧ (N k 3 = -1 ∨ ∃ i : Nat, i < k ∧ N k 3 = nI i)) ∧ (1 ≤ op → ∃ i : Nat, i < k ∧ N k 2 = nI i ∧ N i 1 = nI w1 ∧ w1 ≤ 6) ∧ (op = 3 ∨ op = 4 ∨ op = 5 → ∃ j : Nat, j < k ∧ N k 3 = nI j ∧ N j 1 = nI w2 ∧ w2 ≤ 6)
theorem cl_cv.of {N N' : Nat → Nat → Int32} {k : Nat} (H : cl_cv N k) (e : ∀ i : Nat, i ≤ k → ∀ f : Nat, f < 8 → N' i f = N i f) : cl_cv N' k := by
  obtain ⟨op, w, w1, w2, a1, a2, a3, a4, a7, a5, a6⟩ := H
  refine ⟨op, w, w1, w2, ?_, ?_, a3, ?_, ?_, fun q => ?_, fun q => ?_⟩
  · rw [e k (Nat.le_refl _) 0 (by decide)]; exact a1
  · rw [e k (Nat.le_refl _) 1 (by decide)]; exact a2
  · rw [e k (Nat.le_refl _) 4 (by decide), e k (Nat.le_refl _) 5 (by decide), e k (Nat.le_refl _) 6 (by decide), e k (Nat.le_refl _) 7 (by decide)]; exact a4
  · rw [e k (Nat.le_refl _) 2 (by decide), e k (Nat.le_refl _) 3 (by decide)]; exact a7
  · obtain ⟨i, i1, i2, i3⟩ := a5 q
    exact ⟨i, i1, by rw [e k (Nat.le_refl _) 2 (by decide)]; exact i2, by rw [e i (by omega) 1 (by decide)]; exact i3⟩
  · obtain ⟨i, i1, i2, i3⟩ := a6 q
    exact ⟨i, i1, by rw [e k (Nat.le_refl _) 3 (by decide)]; exact i2, by rw [e i (by omega) 1 (by decide)]; exact i3⟩
def cl_ok (ids : Nat → ClassId) (h : rl_H) (n x L : Nat) (s : cl_S) (c : cl_N) : Prop :=
  cl_at ids h x s c ∧ x + 70 ≤ L ∧ L ≤ n ∧ (∀ k : Nat, k < c.2.1 → L ≤ c.1 k ∧ c.1 k + 403 ≤ n) ∧ (∀ i : Nat, i < s.2.2.2.1 → ∃ w : Nat, 1 ≤ w ∧ w ≤ 4 ∧ s.1 i = nI w) ∧ (∀ k : Nat, k < c.2.2.1 → cl_cv c.2.2.2.1 k) ∧ (∀ k : Nat, k < c.2.2.1 → c.2.2.2.1 k 8 ≠ nI 0 → ∀ w : Nat, w ≤ 6 → c.2.2.2.1 k 1 = nI w → tb_ok ids h (c.1 k + 1) w)
/-- nothing else below L has changed -/
def cl_fr (h h' : rl_H) (x L : Nat) : Prop := ∀ q : Nat, q < L → (q < x ∨ x + 70 ≤ q) → h' q = h q
theorem cl_fr.rf {h : rl_H} {x L : Nat} : cl_fr h h x L := fun _ _ _ => rfl
theorem cl_fr.tr {h h1 h2 : rl_H} {x L : Nat} (a : cl_fr h h1 x L) (b : cl_fr h1 h2 x L) : cl_fr h h2 x L := fun q z w => (b q z w).trans (a q z w)
theorem cl_at.eqv {ids : Nat → ClassId} {h h' : rl_H} {x L : Nat} {s : cl_S} {c : cl_N} (H : cl_at ids h x s c) (hL : ∀ k : Nat, k < c.2.1 → L ≤ c.1 k) (he : ∀ q : Nat, (x ≤ q ∧ q < x + 70) ∨ L ≤ q → h' q = h q) : cl_at ids h' x s c := by
  obtain ⟨c1, c2, ⟨gp, c3⟩, ⟨pn, c4, c5⟩, ⟨pt, c6, c7⟩, c8, c9, c10, c11, c12, c13, c14, c15⟩ := H
  refine ⟨(he x (by omega)).trans c1, c2.eqv (fun q a b => he q (by omega)), ⟨gp, c3.eqv (fun q a b => he q (by omega))⟩, ⟨pn, (he _ (by omega)).trans c4, c5⟩, ⟨pt, (he _ (by omega)).trans c6, c7⟩, (he _ (by omega)).trans c8, c9.eqv (fun q a b => he q (by omega)), c10, c11, fun k hk => (he _ (Or.inr (hL k hk))).trans (c12 k hk), fun k hk => ?_, c14, c15⟩
  obtain ⟨wd, hw⟩ := c13 k hk
  exact ⟨wd, hw.eqv (fun q a b => he q (Or.inr (Nat.le_trans (hL k hk) (by omega))))⟩
theorem cl_ok.eqv {ids : Nat → ClassId} {h h' : rl_H} {n n' x L : Nat} {s : cl_S} {c : cl_N} (H : cl_ok ids h n x L s c) (hn : n ≤ n') (he : ∀ q : Nat, (x ≤ q ∧ q < x + 70) ∨ L ≤ q → h' q = h q) : cl_ok ids h' n' x L s c := by
  obtain ⟨k1, k2, k3, k4, k5, k6, k7⟩ := H
  refine ⟨k1.eqv (fun k hk => (k4 k hk).1) he, k2, Nat.le_trans k3 hn, fun k hk => ⟨(k4 k hk).1, Nat.le_trans (k4 k hk).2 hn⟩, k5, k6, fun k hk a w b e => ?_⟩
  have hk2 : k < c.2.1 := Nat.lt_of_lt_of_le hk k1.2.2.2.2.2.2.2.1
  exact (k7 k hk a w b e).eqv (fun q a b => he q (Or.inr (Nat.le_trans (k4 k hk2).1 (by omega))))
/-- a Node is another -/
theorem cl_at.nd {ids : Nat → ClassId} {h h' : rl_H} {x k : Nat} {s : cl_S} {c : cl_N} (H : cl_at ids h x s c) (hk : k < c.2.1) (N : Nat → Nat → Int32) (h1 : h' (c.1 k) = some (cl_nd N k)) (h2 : ∀ i : Nat, i ≠ k → N i = c.2.2.2.1 i) (he : ∀ q : Nat, q ≠ c.1 k → h' q = h q) : cl_at ids h' x s (c.1, c.2.1, c.2.2.1, N, c.2.2.2.2.1, c.2.2.2.2.2) := by
  obtain ⟨c1, c2, ⟨gp, c3⟩, ⟨pn, c4, c5⟩, ⟨pt, c6, c7⟩, c8, c9, c10, c11, c12, c13, c14, c15⟩ := H
  have z := c14 k hk
  refine ⟨(he x (by omega)).trans c1, c2.eqv (fun q a b => he q (by omega)), ⟨gp, c3.eqv (fun q a b => he q (by omega))⟩, ⟨pn, (he _ (by omega)).trans c4, c5⟩, ⟨pt, (he _ (by omega)).trans c6, c7⟩, (he _ (by omega)).trans c8, c9.eqv (fun q a b => he q (by omega)), c10, c11, fun i hi => ?_, fun i hi => ?_, c14, c15⟩
  · have hi : i < c.2.1 := hi
    show h' (c.1 i) = some (cl_nd N i)
    by_cases e : i = k
    · subst e
      exact h1
    · rw [he _ (fun q => by rcases Nat.lt_or_gt_of_ne e with w | w; (have := c15 i k w hk; omega); (have := c15 k i w hi; omega)), c12 i hi]
      unfold cl_nd
      rw [h2 i e]
  · have hi : i < c.2.1 := hi
    obtain ⟨wd, hw⟩ := c13 i hi
    refine ⟨wd, hw.eqv (fun q a b => he q (fun e => ?_))⟩
    have a : c.1 i + 1 ≤ q := a
    have b : q < c.1 i + 1 + 402 := b
    rcases Nat.lt_trichotomy i k with w | w | w
    · have := c15 i k w hk
      omega
    · subst w
      omega
    · have := c15 k i w hi
      omega
/-- one more is made -/
theorem cl_at.mk {ids : Nat → ClassId} {h h' : rl_H} {n x wd : Nat} {s : cl_S} {c : cl_N} (H : cl_at ids h x s c) (hm : c.2.1 < 16) (hx : x + 70 ≤ n) (hb : ∀ k : Nat, k < c.2.1 → c.1 k + 403 ≤ n) (pn pt : Nat → Option Nat) (g4 : h' (x + 63) = some (.inl (ids 5, 16, .inr (.inr (.inr (.inr pn)))))) (g5 : ∀ k : Nat, k < 16 → pn k = if k < c.2.1 + 1 then some (va_up c.1 c.2.1 n k) else none) (g6 : h' (x + 64) = some (.inl (ids 6, 16, .inr (.inr (.inr (.inr pt)))))) (g7 : ∀ k : Nat, k < 16 → pt k = if k < c.2.1 + 1 then some (va_up c.1 c.2.1 n k + 1) else none) (N : Nat → Nat → Int32) (hN : ∀ i : Nat, i ≠ c.2.1 → N i = c.2.2.2.1 i) (g8 : h' n = some (cl_nd N c.2.1)) (g9 : tb_ok ids h' (n + 1) wd) (he : ∀ q : Nat, q < n → q ≠ x + 63 → q ≠ x + 64 → h' q = h q) : cl_at ids h' x s (va_up c.1 c.2.1 n, c.2.1 + 1, c.2.2.1, N, c.2.2.2.2.1, c.2.2.2.2.2) := by
  obtain ⟨c1, c2, ⟨gp, c3⟩, -, -, c8, c9, c10, c11, c12, c13, c14, c15⟩ := H
  refine ⟨(he x (by omega) (by omega) (by omega)).trans c1, c2.eqv (fun q a b => he q (by omega) (by omega) (by omega)), ⟨gp, c3.eqv (fun q a b => he q (by omega) (by omega) (by omega))⟩, ⟨pn, g4, g5⟩, ⟨pt, g6, g7⟩, (he _ (by omega) (by omega) (by omega)).trans c8, c9.eqv (fun q a b => he q (by omega) (by omega) (by omega)), Nat.le_succ_of_le c10, hm, fun k hk => ?_, fun k hk => ?_, fun k hk => ?_, fun i j hij hj => ?_⟩
  · have hk : k < c.2.1 + 1 := hk
    show h' (va_up c.1 c.2.1 n k) = some (cl_nd N k)
    by_cases e : k = c.2.1
    · subst e
      rw [va_up_self]
      exact g8
    · rw [va_up_ne _ _ e]
      have z := hb k (by omega)
      have z2 := c14 k (by omega)
      rw [he _ (by omega) (by omega) (by omega), c12 k (by omega)]
      unfold cl_nd
      rw [hN k e]
  · have hk : k < c.2.1 + 1 := hk
    show ∃ wd, tb_ok ids h' (va_up c.1 c.2.1 n k + 1) wd
    by_cases e : k = c.2.1
    · subst e
      rw [va_up_self]
      exact ⟨_, g9⟩
    · rw [va_up_ne _ _ e]
      have z := hb k (by omega)
      have z2 := c14 k (by omega)
      obtain ⟨w, hw⟩ := c13 k (by omega)
      exact ⟨w, hw.eqv (fun q a b => he q (by omega) (by omega) (by omega))⟩
  · have hk : k < c.2.1 + 1 := hk
    show x + 70 ≤ va_up c.1 c.2.1 n k
    by_cases e : k = c.2.1
    · subst e
      rw [va_up_self]
      exact hx
    · rw [va_up_ne _ _ e]
      exact c14 k (by omega)
  · have hj : j < c.2.1 + 1 := hj
    show va_up c.1 c.2.1 n i + 403 ≤ va_up c.1 c.2.1 n j
    rw [va_up_ne _ _ (show i ≠ c.2.1 by omega)]
    by_cases e : j = c.2.1
    · subst e
      rw [va_up_self]
      exact hb i (by omega)
    · rw [va_up_ne _ _ e]
      exact c15 i j hij (by omega)
def cl_de (N : Nat → Nat → Int32) (k : Nat) (op wd fi se : Int32) : Nat → Nat → Int32 := fun j i => if j = k then (match i with | 0 => op | 1 => wd | 2 => fi | 3 => se | 8 => nI 0 | i => N k i) else N j i
def cl_dt (N : Nat → Nat → Int32) (k : Nat) (a b d e : Int32) : Nat → Nat → Int32 := fun j i => if j = k then (match i with | 4 => a | 5 => b | 6 => d | 7 => e | i => N k i) else N j i
def cl_ze (N : Nat → Nat → Int32) (k : Nat) : Nat → Nat → Int32 := fun j i => if j = k then nI 0 else N j i

set_option maxHeartbeats 4000000 in
set_option maxRecDepth 100000 in
theorem cg_X7_openNode (l : Launch) (D : va_G) (ids : Nat → ClassId) (H0 : Heap) (h : rl_H) (n : Nat) (x L : Nat) (s : cl_S) (c : cl_N) (op wd fi se : Int32) (hk : cl_ok ids h n x L s c) (h16 : c.2.2.1 < 16) : rl_Met l (rl_e D ids H0) rl_BW rl_Ns yX7_openNode cX7_openNode 5 (some (.object "RowLineage$Node")) ({ frames := 4, cells := 403, slots := 2892, locals := 78 }) [.ref x, .int op, .int wd, .int fi, .int se] h n (fun v h' n' => ∃ (na : Nat → Nat) (mk : Nat) (N : Nat → Nat → Int32), v = some (.ref (na c.2.2.1)) ∧ n ≤ n' ∧ n' ≤ n + 403 ∧ c.2.2.1 < mk ∧ cl_ok ids h' n' x L s (na, mk, c.2.2.1, N, c.2.2.2.2.1, c.2.2.2.2.2) ∧ (∀ i : Nat, i < c.2.2.1 → N i = c.2.2.2.1 i) ∧ N c.2.2.1 0 = op ∧ N c.2.2.1 1 = wd ∧ N c.2.2.1 2 = fi ∧ N c.2.2.1 3 = se ∧ N c.2.2.1 8 = nI 0 ∧ cl_fr h h' x L ∧ c.2.1 ≤ mk ∧ (∀ i : Nat, i < c.2.1 → na i = c.1 i) ∧ (∀ i : Nat, i < c.2.1 → ∀ q : Nat, c.1 i + 1 ≤ q → q < c.1 i + 403 → h' q = h q) ∧ ∀ k : Nat, k < mk → c.2.1 ≤ k → tbi ids h' (na k + 1) 0) := by
  obtain ⟨hc, k2, k3, k4, k5, k6, k7⟩ := id hk
  obtain ⟨c1, c2, c3, ⟨pn, c4, c5⟩, ⟨pt, c6, c7⟩, c8, c9, c10, c11, c12, c13, c14, c15⟩ := id hc
  refine rl_Met.of (by decide +kernel) (Nat.le_of_ble_eq_true rfl) ?_
  intro X hC hB
  show rl_G X (rl_e D ids H0) 0 [some (.ref x), some (.int op), some (.int wd), some (.int fi), some (.int se)] [] h n 0 0
  by_cases hlt : c.2.2.1 < c.2.1
  · have m1 := c12 _ hlt
    unfold cl_nd at m1
    have z1 := c14 _ hlt
    have z2 := (k4 _ hlt).1
    refine o_aload_n hC dX7_openNode_0 (by rfl) ?_
    refine o_getf hC (fX7_25 hC rfl) dX7_openNode_1 (by repeat (first | with_reducible assumption | (rw [rl_u_s]; done) | (rw [rl_u_s]; rfl) | rw [rl_u_n (by first | with_reducible assumption | omega)])) (by first | rfl | with_reducible assumption) ?_
    refine o_aload_n hC dX7_openNode_4 (by rfl) ?_
    refine o_getf hC (fX7_78 hC rfl) dX7_openNode_5 (by repeat (first | with_reducible assumption | (rw [rl_u_s]; done) | (rw [rl_u_s]; rfl) | rw [rl_u_n (by first | with_reducible assumption | omega)])) (by first | rfl | with_reducible assumption) ?_
    refine o_aaldN (t0 := 5) (k := c.2.2.1) hC rfl dX7_openNode_8 c4 (by omega) (by decide) ?_
    rw [c5 _ (by omega), if_pos hlt]
    show rl_G X _ _ _ (.ref _ :: _) _ _ _ _
    refine o_ifnonnull (tgt := 46) hC dX7_openNode_9 (by decide) ?_
    refine o_aload_n hC dX7_openNode_46 (by rfl) ?_
    refine o_getf hC (fX7_25 hC rfl) dX7_openNode_47 (by repeat (first | with_reducible assumption | (rw [rl_u_s]; done) | (rw [rl_u_s]; rfl) | rw [rl_u_n (by first | with_reducible assumption | omega)])) (by first | rfl | with_reducible assumption) ?_
    refine o_aload_n hC dX7_openNode_50 (by rfl) ?_
    refine o_getf hC (fX7_78 hC rfl) dX7_openNode_51 (by repeat (first | with_reducible assumption | (rw [rl_u_s]; done) | (rw [rl_u_s]; rfl) | rw [rl_u_n (by first | with_reducible assumption | omega)])) (by first | rfl | with_reducible assumption) ?_
    refine o_aaldN (t0 := 5) (k := c.2.2.1) hC rfl dX7_openNode_54 c4 (by omega) (by decide) ?_
    rw [c5 _ (by omega), if_pos hlt]
    show rl_G X _ _ _ (.ref _ :: _) _ _ _ _
    refine o_iload_n hC dX7_openNode_55 (by rfl) ?_
    refine o_iload_n hC dX7_openNode_56 (by rfl) ?_
    refine o_iload_n hC dX7_openNode_57 (by rfl) ?_
    refine o_iload hC dX7_openNode_58 (by rfl) ?_
    refine o_callV4 hC rl_BW_good rl_Ns_nw (by exact hB.2.2.2.2.2) YX1_describe IX1_describe VX1_describe (mX7_230 hC) (by rw [hB.1]; exact ct_X1_describe l D ids H0 _ _ (c.1 c.2.2.1) _ _ _ _ _ _ _ _ _ _ _ _ _ m1) (by exact m1) rfl rfl (Nat.le_of_ble_eq_true rfl) (by rw [hB.2.1]; first | exact Nat.le_of_ble_eq_true rfl | (dsimp only; omega)) (by rw [hB.2.1]; first | exact Nat.le_of_ble_eq_true rfl | (dsimp only; omega)) (by rw [hB.2.1]; first | exact Nat.le_of_ble_eq_true rfl | (dsimp only; omega)) (by rw [hB.2.1]; first | exact Nat.le_of_ble_eq_true rfl | (dsimp only; omega)) dX7_openNode_60 (fun v h_60 n_60 p_60 => ?_)
    obtain ⟨rfl, rfl, d1, d2⟩ := p_60
    have e1 := (d2 x (by omega)).trans c1
    have e4 := (d2 (x + 63) (by omega)).trans c4
    try dsimp only [Option.toList, List.cons_append, List.nil_append]
    refine o_aload_n hC dX7_openNode_63 (by rfl) ?_
    refine o_getf hC (fX7_25 hC rfl) dX7_openNode_64 (by repeat (first | with_reducible assumption | (rw [rl_u_s]; done) | (rw [rl_u_s]; rfl) | rw [rl_u_n (by first | with_reducible assumption | omega)])) (by first | rfl | with_reducible assumption) ?_
    refine o_aload_n hC dX7_openNode_67 (by rfl) ?_
    refine o_getf hC (fX7_78 hC rfl) dX7_openNode_68 (by repeat (first | with_reducible assumption | (rw [rl_u_s]; done) | (rw [rl_u_s]; rfl) | rw [rl_u_n (by first | with_reducible assumption | omega)])) (by first | rfl | with_reducible assumption) ?_
    refine o_aaldN (t0 := 5) (k := c.2.2.1) hC rfl dX7_openNode_71 e4 (by omega) (by decide) ?_
    rw [c5 _ (by omega), if_pos hlt]
    show rl_G X _ _ _ (.ref _ :: _) _ _ _ _
    refine o_aret hC hB (by first | exact Or.inl ⟨_, rfl⟩ | exact Or.inr ⟨_, rfl⟩) (by first | exact Or.inl rfl | exact Or.inr ⟨_, rfl⟩) dX7_openNode_72 (Nat.le_of_ble_eq_true rfl) (Nat.le_of_ble_eq_true rfl) ?_
    refine ⟨c.1, c.2.1, cl_de c.2.2.2.1 c.2.2.1 op wd fi se, rfl, Nat.le_refl _, by omega, hlt, ⟨hc.nd hlt _ ?_ (fun i hi => ?_) d2, k2, k3, k4, k5, fun k hk => ?_, fun k hk a w b e => ?_⟩, fun i hi => ?_, if_pos rfl, if_pos rfl, if_pos rfl, if_pos rfl, if_pos rfl, fun q a b => d2 q (by omega), Nat.le_refl _, fun _ _ => rfl, fun i hi q a b => ?_, fun k g1 g2 => absurd g1 (by omega)⟩
    · rw [d1]
      unfold cl_nd cl_de
      simp only [if_true]
    · funext f
      exact if_neg hi
    · have hk : k < c.2.2.1 := hk
      exact (k6 k hk).of (fun i hi f _ => if_neg (by omega))
    · have hk : k < c.2.2.1 := hk
      have e0 : cl_de c.2.2.2.1 c.2.2.1 op wd fi se k = c.2.2.2.1 k := by
        funext f
        exact if_neg (by omega)
      have a : cl_de c.2.2.2.1 c.2.2.1 op wd fi se k 8 ≠ nI 0 := a
      have e : cl_de c.2.2.2.1 c.2.2.1 op wd fi se k 1 = nI w := e
      rw [e0] at a e
      refine (k7 k hk a w b e).eqv (fun q a b => d2 q ?_)
      have a : c.1 k + 1 ≤ q := a
      have b : q < c.1 k + 1 + 402 := b
      have := c15 k c.2.2.1 hk hlt
      omega
    · funext f
      exact if_neg (by omega)
    · refine d2 q ?_
      rcases Nat.lt_trichotomy i c.2.2.1 with u | u | u
      · have := c15 i _ u hlt
        omega
      · subst u
        omega
      · have := c15 _ i u hi
        omega
  · refine o_aload_n hC dX7_openNode_0 (by rfl) ?_
    refine o_getf hC (fX7_25 hC rfl) dX7_openNode_1 (by repeat (first | with_reducible assumption | (rw [rl_u_s]; done) | (rw [rl_u_s]; rfl) | rw [rl_u_n (by first | with_reducible assumption | omega)])) (by first | rfl | with_reducible assumption) ?_
    refine o_aload_n hC dX7_openNode_4 (by rfl) ?_
    refine o_getf hC (fX7_78 hC rfl) dX7_openNode_5 (by repeat (first | with_reducible assumption | (rw [rl_u_s]; done) | (rw [rl_u_s]; rfl) | rw [rl_u_n (by first | with_reducible assumption | omega)])) (by first | rfl | with_reducible assumption) ?_
    refine o_aaldN (t0 := 5) (k := c.2.2.1) hC rfl dX7_openNode_8 c4 (by omega) (by decide) ?_
    rw [c5 _ (by omega), if_neg hlt]
    show rl_G X _ _ _ (.null :: _) _ _ _ _
    refine o_ifnonnullN hC dX7_openNode_9 ?_
    refine o_aload_n hC dX7_openNode_12 (by rfl) ?_
    refine o_getf hC (fX7_25 hC rfl) dX7_openNode_13 (by repeat (first | with_reducible assumption | (rw [rl_u_s]; done) | (rw [rl_u_s]; rfl) | rw [rl_u_n (by first | with_reducible assumption | omega)])) (by first | rfl | with_reducible assumption) ?_
    refine o_aload_n hC dX7_openNode_16 (by rfl) ?_
    refine o_getf hC (fX7_78 hC rfl) dX7_openNode_17 (by repeat (first | with_reducible assumption | (rw [rl_u_s]; done) | (rw [rl_u_s]; rfl) | rw [rl_u_n (by first | with_reducible assumption | omega)])) (by first | rfl | with_reducible assumption) ?_
    refine o_new (ci := 1) (fs := [.int (nI 0), .int (nI 0), .int (nI 0), .int (nI 0), .int (nI 0), .int (nI 0), .int (nI 0), .int (nI 0), .int (nI 0)]) hC rfl uX1 tyX1 tyX1_ok kX7_23 iX1 zX1 (by decide +kernel) (by rw [hB.2.1]; first | exact Nat.le_of_ble_eq_true rfl | (dsimp only; omega)) (by rw [hB.2.1]; first | exact Nat.le_of_ble_eq_true rfl | (dsimp only; omega)) dX7_openNode_20 ?_
    refine o_dup hC dX7_openNode_23 rfl ?_
    refine o_callI0 hC rl_BW_good rl_Ns_nw (by exact hB.2.2.2.2.2) YX1_init rfl IX1_init (mX7_229 hC) (by rw [hB.1]; exact ct_X1_init l D ids H0 _ _ n) (Nat.le_of_ble_eq_true rfl) (by rw [hB.2.1]; first | exact Nat.le_of_ble_eq_true rfl | (dsimp only; omega)) (by rw [hB.2.1]; first | exact Nat.le_of_ble_eq_true rfl | (dsimp only; omega)) (by rw [hB.2.1]; first | exact Nat.le_of_ble_eq_true rfl | (dsimp only; omega)) (by rw [hB.2.1]; first | exact Nat.le_of_ble_eq_true rfl | (dsimp only; omega)) dX7_openNode_24 (fun v h_24 n_24 p_24 => ?_)
    obtain ⟨rfl, rfl, rfl⟩ := p_24
    try dsimp only [Option.toList, List.cons_append, List.nil_append]
    refine o_aastN (t0 := 5) (vs := [.int (nI 0), .int (nI 0), .int (nI 0), .int (nI 0), .int (nI 0), .int (nI 0), .int (nI 0), .int (nI 0), .int (nI 0)]) (k := c.2.2.1) hC rfl rfl dX7_openNode_27 (by repeat (first | with_reducible assumption | (rw [rl_u_s]; done) | (rw [rl_u_s]; rfl) | rw [rl_u_n (by first | with_reducible assumption | omega)])) rl_u_s (by omega) (by decide) ?_
    refine o_aload_n hC dX7_openNode_28 (by rfl) ?_
    refine o_getf hC (fX7_31 hC rfl) dX7_openNode_29 (by repeat (first | with_reducible assumption | (rw [rl_u_s]; done) | (rw [rl_u_s]; rfl) | rw [rl_u_n (by first | with_reducible assumption | omega)])) (by first | rfl | with_reducible assumption) ?_
    refine o_aload_n hC dX7_openNode_32 (by rfl) ?_
    refine o_getf hC (fX7_78 hC rfl) dX7_openNode_33 (by repeat (first | with_reducible assumption | (rw [rl_u_s]; done) | (rw [rl_u_s]; rfl) | rw [rl_u_n (by first | with_reducible assumption | omega)])) (by first | rfl | with_reducible assumption) ?_
    refine o_new (ci := 4) (fs := [.null, .int (nI 0), .int (nI 0)]) hC rfl uX4 tyX4 tyX4_ok kX7_29 iX4 zX4 (by decide +kernel) (by rw [hB.2.1]; first | exact Nat.le_of_ble_eq_true rfl | (dsimp only; omega)) (by rw [hB.2.1]; first | exact Nat.le_of_ble_eq_true rfl | (dsimp only; omega)) dX7_openNode_36 ?_
    refine o_dup hC dX7_openNode_39 rfl ?_
    refine o_bipush (v := nI 80) hC dX7_openNode_40 (by decide +kernel) ?_
    refine o_callI1 hC rl_BW_good rl_Ns_nw (by exact hB.2.2.2.2.2) YX4_init rfl IX4_init (mX7_35 hC) (by rw [hB.1]; exact ct_X4_init l D ids H0 _ _ (n + 1) 80 rl_u_s rfl (by decide)) (Nat.le_of_ble_eq_true rfl) (by rw [hB.2.1]; first | exact Nat.le_of_ble_eq_true rfl | (dsimp only; omega)) (by rw [hB.2.1]; first | exact Nat.le_of_ble_eq_true rfl | (dsimp only; omega)) (by rw [hB.2.1]; first | exact Nat.le_of_ble_eq_true rfl | (dsimp only; omega)) (by rw [hB.2.1]; first | exact Nat.le_of_ble_eq_true rfl | (dsimp only; omega)) dX7_openNode_42 (fun v h_42 n_42 p_42 => ?_)
    obtain ⟨rfl, rfl, p, t1, t2, t3, t4, fr42⟩ := p_42
    try dsimp only [Option.toList, List.cons_append, List.nil_append]
    have em : c.2.2.1 = c.2.1 := by omega
    have g4 : h_42 (x + 63) = some (.inl (ids 5, 16, .inr (.inr (.inr (.inr (va_up pn c.2.2.1 (some n))))))) := by
      repeat (first | with_reducible assumption | (rw [rl_u_s]; done) | (rw [rl_u_s]; rfl) | rw [rl_u_n (by first | with_reducible assumption | omega)] | rw [fr42 _ (by omega)])
    have g1 : h_42 x = some (.inr (7, [.ref (x + 1), .ref (x + 41), .ref (x + 63), .ref (x + 64), .ref (x + 65), .ref (x + 67), .int (nI c.2.2.1), .int c.2.2.2.2.1, .long c.2.2.2.2.2])) := by
      repeat (first | with_reducible assumption | (rw [rl_u_s]; done) | (rw [rl_u_s]; rfl) | rw [rl_u_n (by first | with_reducible assumption | omega)] | rw [fr42 _ (by omega)])
    have g8 : h_42 n = some (.inr (1, [.int (nI 0), .int (nI 0), .int (nI 0), .int (nI 0), .int (nI 0), .int (nI 0), .int (nI 0), .int (nI 0), .int (nI 0)])) := by
      repeat (first | with_reducible assumption | (rw [rl_u_s]; done) | (rw [rl_u_s]; rfl) | rw [rl_u_n (by first | with_reducible assumption | omega)] | rw [fr42 _ (by omega)])
    have gq : ∀ q, q < n → q ≠ x + 63 → h_42 q = h q := fun q a1 a2 => by
      rw [fr42 q (by omega), rl_u_n (by omega), rl_u_n (by omega), rl_u_n (by omega)]
    refine o_aastN (t0 := 6) (vs := [.ref (n + 1 + 1), .int (nI 0), .int (nI 0)]) (k := c.2.2.1) hC rfl rfl dX7_openNode_45 (by repeat (first | with_reducible assumption | (rw [rl_u_s]; done) | (rw [rl_u_s]; rfl) | rw [rl_u_n (by first | with_reducible assumption | omega)] | rw [fr42 _ (by omega)])) t1 (by omega) (by decide) ?_
    refine o_aload_n hC dX7_openNode_46 (by rfl) ?_
    refine o_getf hC (fX7_25 hC rfl) dX7_openNode_47 (by repeat (first | with_reducible assumption | (rw [rl_u_s]; done) | (rw [rl_u_s]; rfl) | rw [rl_u_n (by first | with_reducible assumption | omega)])) (by first | rfl | with_reducible assumption) ?_
    refine o_aload_n hC dX7_openNode_50 (by rfl) ?_
    refine o_getf hC (fX7_78 hC rfl) dX7_openNode_51 (by repeat (first | with_reducible assumption | (rw [rl_u_s]; done) | (rw [rl_u_s]; rfl) | rw [rl_u_n (by first | with_reducible assumption | omega)])) (by first | rfl | with_reducible assumption) ?_
    refine o_aaldN (t0 := 5) (k := c.2.2.1) hC rfl dX7_openNode_54 ((rl_u_n (by omega)).trans g4) (by omega) (by decide) ?_
    rw [va_up_self]
    show rl_G X _ _ _ (.ref _ :: _) _ _ _ _
    refine o_iload_n hC dX7_openNode_55 (by rfl) ?_
    refine o_iload_n hC dX7_openNode_56 (by rfl) ?_
    refine o_iload_n hC dX7_openNode_57 (by rfl) ?_
    refine o_iload hC dX7_openNode_58 (by rfl) ?_
    refine o_callV4 hC rl_BW_good rl_Ns_nw (by exact hB.2.2.2.2.2) YX1_describe IX1_describe VX1_describe (mX7_230 hC) (by rw [hB.1]; exact ct_X1_describe l D ids H0 _ _ n _ _ _ _ _ _ _ _ _ _ _ _ _ ((rl_u_n (by omega)).trans g8)) (by exact (rl_u_n (by omega)).trans g8) rfl rfl (Nat.le_of_ble_eq_true rfl) (by rw [hB.2.1]; first | exact Nat.le_of_ble_eq_true rfl | (dsimp only; omega)) (by rw [hB.2.1]; first | exact Nat.le_of_ble_eq_true rfl | (dsimp only; omega)) (by rw [hB.2.1]; first | exact Nat.le_of_ble_eq_true rfl | (dsimp only; omega)) (by rw [hB.2.1]; first | exact Nat.le_of_ble_eq_true rfl | (dsimp only; omega)) dX7_openNode_60 (fun v h_60 n_60 p_60 => ?_)
    obtain ⟨rfl, rfl, d1, d2⟩ := p_60
    have e1 := (d2 x (by omega)).trans ((rl_u_n (by omega)).trans g1)
    have e4 := (d2 (x + 63) (by omega)).trans ((rl_u_n (by omega)).trans g4)
    have e6 := (d2 (x + 64) (by omega)).trans rl_u_s
    have dq : ∀ q, q < n → q ≠ x + 63 → q ≠ x + 64 → h_60 q = h q := fun q a1 a2 a3 => by
      rw [d2 q (by omega), rl_u_n (by omega), gq q a1 a2]
    try dsimp only [Option.toList, List.cons_append, List.nil_append]
    refine o_aload_n hC dX7_openNode_63 (by rfl) ?_
    refine o_getf hC (fX7_25 hC rfl) dX7_openNode_64 (by repeat (first | with_reducible assumption | (rw [rl_u_s]; done) | (rw [rl_u_s]; rfl) | rw [rl_u_n (by first | with_reducible assumption | omega)])) (by first | rfl | with_reducible assumption) ?_
    refine o_aload_n hC dX7_openNode_67 (by rfl) ?_
    refine o_getf hC (fX7_78 hC rfl) dX7_openNode_68 (by repeat (first | with_reducible assumption | (rw [rl_u_s]; done) | (rw [rl_u_s]; rfl) | rw [rl_u_n (by first | with_reducible assumption | omega)])) (by first | rfl | with_reducible assumption) ?_
    refine o_aaldN (t0 := 5) (k := c.2.2.1) hC rfl dX7_openNode_71 e4 (by omega) (by decide) ?_
    rw [va_up_self]
    show rl_G X _ _ _ (.ref _ :: _) _ _ _ _
    refine o_aret hC hB (by first | exact Or.inl ⟨_, rfl⟩ | exact Or.inr ⟨_, rfl⟩) (by first | exact Or.inl rfl | exact Or.inr ⟨_, rfl⟩) dX7_openNode_72 (Nat.le_of_ble_eq_true rfl) (Nat.le_of_ble_eq_true rfl) ?_
    have tb0 : tb_at ids h_60 (n + 1) 0 0 (fun i => i) (fun _ _ => 0, fun _ _ => 0, fun _ _ => 0, fun _ => 0) := by
      refine ⟨?_, ⟨p, ?_, fun i hi => ?_⟩, fun i hi => hi, fun i hi => ?_, Nat.zero_le _, Nat.zero_le _⟩
      · rw [d2 _ (by omega), rl_u_n (by omega)]
        exact t1
      · rw [d2 _ (by omega), rl_u_n (by omega)]
        exact t2
      · rw [t3 i hi, if_pos hi]
      · exact (t4 i hi).eqv (fun q a b => by rw [d2 q (by omega), rl_u_n (by omega)])
    have tb : tb_ok ids h_60 (n + 1) 0 := ⟨_, _, _, tb0⟩
    have NE : ∀ i : Nat, i ≠ c.2.1 → cl_de (cl_ze c.2.2.2.1 c.2.2.1) c.2.2.1 op wd fi se i = c.2.2.2.1 i := fun i hi => by
      funext f
      exact (if_neg (by omega)).trans (if_neg (by omega))
    refine ⟨va_up c.1 c.2.1 n, c.2.1 + 1, cl_de (cl_ze c.2.2.2.1 c.2.2.1) c.2.2.1 op wd fi se, ?_, by omega, by omega, by omega, ⟨hc.mk (wd := 0) (h' := h_60) (by omega) (by omega) (fun k hk => (k4 k hk).2) (va_up pn c.2.2.1 (some n)) (va_up pt c.2.2.1 (some (n + 1))) e4 (fun k hk => ?_) e6 (fun k hk => ?_) _ NE ?_ tb dq, k2, by omega, fun k hk => ?_, k5, fun k hk => ?_, fun k hk a w b e => ?_⟩, fun i hi => NE i (by omega), if_pos rfl, if_pos rfl, if_pos rfl, if_pos rfl, if_pos rfl, fun q a b => dq q (by omega) (by omega) (by omega), by omega, fun i hi => va_up_ne _ _ (by omega), fun i hi q a b => ?_, fun k g1 g2 => ?_⟩
    · rw [em, va_up_self]
    · by_cases e : k = c.2.1
      · subst e
        rw [em, va_up_self, va_up_self, if_pos (by omega)]
      · rw [em, va_up_ne _ _ e, va_up_ne _ _ e, c5 k hk]
        by_cases e2 : k < c.2.1
        · rw [if_pos e2, if_pos (by omega)]
        · rw [if_neg e2, if_neg (by omega)]
    · by_cases e : k = c.2.1
      · subst e
        rw [em, va_up_self, va_up_self, if_pos (by omega)]
      · rw [em, va_up_ne _ _ e, va_up_ne _ _ e, c7 k hk]
        by_cases e2 : k < c.2.1
        · rw [if_pos e2, if_pos (by omega)]
        · rw [if_neg e2, if_neg (by omega)]
    · rw [d1, ← em]
      unfold cl_nd cl_de cl_ze
      simp only [if_true]
    · have hk : k < c.2.1 + 1 := hk
      show L ≤ va_up c.1 c.2.1 n k ∧ va_up c.1 c.2.1 n k + 403 ≤ _
      by_cases e : k = c.2.1
      · subst e
        rw [va_up_self]
        exact ⟨by omega, by omega⟩
      · rw [va_up_ne _ _ e]
        have := k4 k (by omega)
        exact ⟨this.1, by omega⟩
    · have hk : k < c.2.2.1 := hk
      exact (k6 k hk).of (fun i hi f _ => congrFun (NE i (by omega)) f)
    · have hk : k < c.2.2.1 := hk
      have a : cl_de (cl_ze c.2.2.2.1 c.2.2.1) c.2.2.1 op wd fi se k 8 ≠ nI 0 := a
      have e : cl_de (cl_ze c.2.2.2.1 c.2.2.1) c.2.2.1 op wd fi se k 1 = nI w := e
      rw [NE k (by omega)] at a e
      show tb_ok ids h_60 (va_up c.1 c.2.1 n k + 1) w
      rw [va_up_ne _ _ (show k ≠ c.2.1 by omega)]
      have z1 := c14 k (by omega)
      have z2 := k4 k (by omega)
      exact (k7 k hk a w b e).eqv (fun q a b => dq q (by omega) (by omega) (by omega))
    · have z1 := c14 i hi
      have z2 := k4 i hi
      exact dq q (by omega) (by omega) (by omega)
    · obtain rfl : k = c.2.1 := by omega
      rw [va_up_self]
      exact ⟨0, _, _, tb0, fun i j _ _ e => e⟩
