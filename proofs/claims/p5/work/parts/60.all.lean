section
/-! RowLineage in every state: what Nodes are; openNode -/
/-- a table, whatever it holds -/
def tbi (ids : Nat → ClassId) (h : rl_H) (a w : Nat) : Prop := ∃ (sz : Nat) (P : Nat → Nat) (S : tb_S), tb_at ids h a sz w P S ∧ ∀ i j : Nat, i < 80 → j < 80 → P i = P j → i = j
/-- Node k is made of earlier ones, and its numbers are such that its table can be filled -/
def cl_cv (N : Nat → Nat → Int32) (k : Nat) : Prop := ∃ op w w1 w2 : Nat, N k 0 = nI op ∧ N k 1 = nI w ∧ 1 ≤ w ∧ nd_ok op w (N k 4) (N k 5) (N k 6) (N k 7) w1 w2 ∧ ((N k 2 = -1 ∨ ∃ i : Nat, i < k ∧ N k 2 = nI i) ∧ (N k 3 = -1 ∨ ∃ i : Nat, i < k ∧ N k 3 = nI i)) ∧ (1 ≤ op → ∃ i : Nat, i < k ∧ N k 2 = nI i ∧ N i 1 = nI w1 ∧ w1 ≤ 6) ∧ (op = 3 ∨ op = 4 ∨ op = 5 → ∃ j : Nat, j < k ∧ N k 3 = nI j ∧ N j 1 = nI w2 ∧ w2 ≤ 6)
theorem cl_cv.of {N N' : Nat → Nat → Int32} {k : Nat} (H : cl_cv N k) (e : ∀ i : Nat, i ≤ k → ∀ f : Nat, f < 8 → N' i f = N i f) : cl_cv N' k := by
  obtain ⟨op, w, w1, w2, a1, a2, a3, a4, a7, a5, a6⟩ := H
  refine ⟨op, w, w1, w2, ?_, ?_, a3, ?_, ?_, fun q => ?_, fun q => ?_⟩
  · rw [e k (Nat.le_refl _) 0 (by decide)]; exact a1
  · rw [e k (Nat.le_refl _) 1 (by decide)]; exact a2
  · rw [e k (Nat.le_refl _) 4 (by decide), e k (Nat.le_refl _) 5 (by decide), e k (Nat.le_refl _) 6 (by decide), e k (Nat.le_refl _) 7 (by decide)]; exact a4
  · rw [e k (Nat.le_refl _) 2 (by decide), e k (Nat.le_refl _) 3 (by decide)]; exact a7
  · obtain ⟨i, i1, i2, i3⟩ := a5 q
    exact ⟨i, i1, by rw [e k (Nat.le_refl _) 2 (by decide)]; exact i2, by rw [e i (by omega) 1 (by decide)]; exact i3⟩
  · obtain ⟨i, i1, i2, i3⟩ := a6 q
    exact ⟨i, i1, by rw [e k (Nat.le_refl _) 3 (by decide)]; exact i2, by rw [e i (by omega) 1 (by decide)]; exact i3⟩
def cl_ok (ids : Nat → ClassId) (h : rl_H) (n x L : Nat) (s : cl_S) (c : cl_N) : Prop :=
  cl_at ids h x s c ∧ x + 70 ≤ L ∧ L ≤ n ∧ (∀ k : Nat, k < c.2.1 → L ≤ c.1 k ∧ c.1 k + 403 ≤ n) ∧ (∀ i : Nat, i < s.2.2.2.1 → ∃ w : Nat, 1 ≤ w ∧ w ≤ 4 ∧ s.1 i = nI w) ∧ (∀ k : Nat, k < c.2.2.1 → cl_cv c.2.2.2.1 k) ∧ (∀ k : Nat, k < c.2.2.1 → c.2.2.2.1 k 8 ≠ nI 0 → ∀ w : Nat, w ≤ 6 → c.2.2.2.1 k 1 = nI w → tb_ok ids h (c.1 k + 1) w)
/-- nothing else below L has changed -/
def cl_fr (h h' : rl_H) (x L : Nat) : Prop := ∀ q : Nat, q < L → (q < x ∨ x + 70 ≤ q) → h' q = h q
theorem cl_fr.rf {h : rl_H} {x L : Nat} : cl_fr h h x L := fun _ _ _ => rfl
theorem cl_fr.tr {h h1 h2 : rl_H} {x L : Nat} (a : cl_fr h h1 x L) (b : cl_fr h1 h2 x L) : cl_fr h h2 x L := fun q z w => (b q z w).trans (a q z w)
theorem cl_at.eqv {ids : Nat → ClassId} {h h' : rl_H} {x L : Nat} {s : cl_S} {c : cl_N} (H : cl_at ids h x s c) (hL : ∀ k : Nat, k < c.2.1 → L ≤ c.1 k) (he : ∀ q : Nat, (x ≤ q ∧ q < x + 70) ∨ L ≤ q → h' q = h q) : cl_at ids h' x s c := by
  obtain ⟨c1, c2, ⟨gp, c3⟩, ⟨pn, c4, c5⟩, ⟨pt, c6, c7⟩, c8, c9, c10, c11, c12, c13, c14, c15⟩ := H
  refine ⟨(he x (by omega)).trans c1, c2.eqv (fun q a b => he q (by omega)), ⟨gp, c3.eqv (fun q a b => he q (by omega))⟩, ⟨pn, (he _ (by omega)).trans c4, c5⟩, ⟨pt, (he _ (by omega)).trans c6, c7⟩, (he _ (by omega)).trans c8, c9.eqv (fun q a b => he q (by omega)), c10, c11, fun k hk => (he _ (Or.inr (hL k hk))).trans (c12 k hk), fun k hk => ?_, c14, c15⟩
  obtain ⟨wd, hw⟩ := c13 k hk
  exact ⟨wd, hw.eqv (fun q a b => he q (Or.inr (Nat.le_trans (hL k hk) (by omega))))⟩
theorem cl_ok.eqv {ids : Nat → ClassId} {h h' : rl_H} {n n' x L : Nat} {s : cl_S} {c : cl_N} (H : cl_ok ids h n x L s c) (hn : n ≤ n') (he : ∀ q : Nat, (x ≤ q ∧ q < x + 70) ∨ L ≤ q → h' q = h q) : cl_ok ids h' n' x L s c := by
  obtain ⟨k1, k2, k3, k4, k5, k6, k7⟩ := H
  refine ⟨k1.eqv (fun k hk => (k4 k hk).1) he, k2, Nat.le_trans k3 hn, fun k hk => ⟨(k4 k hk).1, Nat.le_trans (k4 k hk).2 hn⟩, k5, k6, fun k hk a w b e => ?_⟩
  have hk2 : k < c.2.1 := Nat.lt_of_lt_of_le hk k1.2.2.2.2.2.2.2.1
  exact (k7 k hk a w b e).eqv (fun q a b => he q (Or.inr (Nat.le_trans (k4 k hk2).1 (by omega))))
/-- a Node is another -/
theorem cl_at.nd {ids : Nat → ClassId} {h h' : rl_H} {x k : Nat} {s : cl_S} {c : cl_N} (H : cl_at ids h x s c) (hk : k < c.2.1) (N : Nat → Nat → Int32) (h1 : h' (c.1 k) = some (cl_nd N k)) (h2 : ∀ i : Nat, i ≠ k → N i = c.2.2.2.1 i) (he : ∀ q : Nat, q ≠ c.1 k → h' q = h q) : cl_at ids h' x s (c.1, c.2.1, c.2.2.1, N, c.2.2.2.2.1, c.2.2.2.2.2) := by
  obtain ⟨c1, c2, ⟨gp, c3⟩, ⟨pn, c4, c5⟩, ⟨pt, c6, c7⟩, c8, c9, c10, c11, c12, c13, c14, c15⟩ := H
  have z := c14 k hk
  refine ⟨(he x (by omega)).trans c1, c2.eqv (fun q a b => he q (by omega)), ⟨gp, c3.eqv (fun q a b => he q (by omega))⟩, ⟨pn, (he _ (by omega)).trans c4, c5⟩, ⟨pt, (he _ (by omega)).trans c6, c7⟩, (he _ (by omega)).trans c8, c9.eqv (fun q a b => he q (by omega)), c10, c11, fun i hi => ?_, fun i hi => ?_, c14, c15⟩
  · have hi : i < c.2.1 := hi
    show h' (c.1 i) = some (cl_nd N i)
    by_cases e : i = k
    · subst e
      exact h1
    · rw [he _ (fun q => by rcases Nat.lt_or_gt_of_ne e with w | w; (have := c15 i k w hk; omega); (have := c15 k i w hi; omega)), c12 i hi]
      unfold cl_nd
      rw [h2 i e]
  · have hi : i < c.2.1 := hi
    obtain ⟨wd, hw⟩ := c13 i hi
    refine ⟨wd, hw.eqv (fun q a b => he q (fun e => ?_))⟩
    have a : c.1 i + 1 ≤ q := a
    have b : q < c.1 i + 1 + 402 := b
    rcases Nat.lt_trichotomy i k with w | w | w
    · have := c15 i k w hk
      omega
    · subst w
      omega
    · have := c15 k i w hi
      omega
/-- one more is made -/
theorem cl_at.mk {ids : Nat → ClassId} {h h' : rl_H} {n x wd : Nat} {s : cl_S} {c : cl_N} (H : cl_at ids h x s c) (hm : c.2.1 < 16) (hx : x + 70 ≤ n) (hb : ∀ k : Nat, k < c.2.1 → c.1 k + 403 ≤ n) (pn pt : Nat → Option Nat) (g4 : h' (x + 63) = some (.inl (ids 5, 16, .inr (.inr (.inr (.inr pn)))))) (g5 : ∀ k : Nat, k < 16 → pn k = if k < c.2.1 + 1 then some (va_up c.1 c.2.1 n k) else none) (g6 : h' (x + 64) = some (.inl (ids 6, 16, .inr (.inr (.inr (.inr pt)))))) (g7 : ∀ k : Nat, k < 16 → pt k = if k < c.2.1 + 1 then some (va_up c.1 c.2.1 n k + 1) else none) (N : Nat → Nat → Int32) (hN : ∀ i : Nat, i ≠ c.2.1 → N i = c.2.2.2.1 i) (g8 : h' n = some (cl_nd N c.2.1)) (g9 : tb_ok ids h' (n + 1) wd) (he : ∀ q : Nat, q < n → q ≠ x + 63 → q ≠ x + 64 → h' q = h q) : cl_at ids h' x s (va_up c.1 c.2.1 n, c.2.1 + 1, c.2.2.1, N, c.2.2.2.2.1, c.2.2.2.2.2) := by
  obtain ⟨c1, c2, ⟨gp, c3⟩, -, -, c8, c9, c10, c11, c12, c13, c14, c15⟩ := H
  refine ⟨(he x (by omega) (by omega) (by omega)).trans c1, c2.eqv (fun q a b => he q (by omega) (by omega) (by omega)), ⟨gp, c3.eqv (fun q a b => he q (by omega) (by omega) (by omega))⟩, ⟨pn, g4, g5⟩, ⟨pt, g6, g7⟩, (he _ (by omega) (by omega) (by omega)).trans c8, c9.eqv (fun q a b => he q (by omega) (by omega) (by omega)), Nat.le_succ_of_le c10, hm, fun k hk => ?_, fun k hk => ?_, fun k hk => ?_, fun i j hij hj => ?_⟩
  · have hk : k < c.2.1 + 1 := hk
    show h' (va_up c.1 c.2.1 n k) = some (cl_nd N k)
    by_cases e : k = c.2.1
    · subst e
      rw [va_up_self]
      exact g8
    · rw [va_up_ne _ _ e]
      have z := hb k (by omega)
      have z2 := c14 k (by omega)
      rw [he _ (by omega) (by omega) (by omega), c12 k (by omega)]
      unfold cl_nd
      rw [hN k e]
  · have hk : k < c.2.1 + 1 := hk
    show ∃ wd, tb_ok ids h' (va_up c.1 c.2.1 n k + 1) wd
    by_cases e : k = c.2.1
    · subst e
      rw [va_up_self]
      exact ⟨_, g9⟩
    · rw [va_up_ne _ _ e]
      have z := hb k (by omega)
      have z2 := c14 k (by omega)
      obtain ⟨w, hw⟩ := c13 k (by omega)
      exact ⟨w, hw.eqv (fun q a b => he q (by omega) (by omega) (by omega))⟩
  · have hk : k < c.2.1 + 1 := hk
    show x + 70 ≤ va_up c.1 c.2.1 n k
    by_cases e : k = c.2.1
    · subst e
      rw [va_up_self]
      exact hx
    · rw [va_up_ne _ _ e]
      exact c14 k (by omega)
  · have hj : j < c.2.1 + 1 := hj
    show va_up c.1 c.2.1 n i + 403 ≤ va_up c.1 c.2.1 n j
    rw [va_up_ne _ _ (show i ≠ c.2.1 by omega)]
    by_cases e : j = c.2.1
    · subst e
      rw [va_up_self]
      exact hb i (by omega)
    · rw [va_up_ne _ _ e]
      exact c15 i j hij (by omega)
def cl_de (N : Nat → Nat → Int32) (k : Nat) (op wd fi se : Int32) : Nat → Nat → Int32 := fun j i => if j = k then (match i with | 0 => op | 1 => wd | 2 => fi | 3 => se | 8 => nI 0 | i => N k i) else N j i
def cl_dt (N : Nat → Nat → Int32) (k : Nat) (a b d e : Int32) : Nat → Nat → Int32 := fun j i => if j = k then (match i with | 4 => a | 5 => b | 6 => d | 7 => e | i => N k i) else N j i
def cl_ze (N : Nat → Nat → Int32) (k : Nat) : Nat → Nat → Int32 := fun j i => if j = k then nI 0 else N j i

set_option maxHeartbeats 4000000 in
set_option maxRecDepth 100000 in
theorem cg_X7_openNode (l : Launch) (D : va_G) (ids : Nat → ClassId) (H0 : Heap) (h : rl_H) (n : Nat) (x L : Nat) (s : cl_S) (c : cl_N) (op wd fi se : Int32) (hk : cl_ok ids h n x L s c) (h16 : c.2.2.1 < 16) : rl_Met l (rl_e D ids H0) rl_BW rl_Ns yX7_openNode cX7_openNode 5 (some (.object "RowLineage$Node")) ({ frames := 4, cells := 403, slots := 2892, locals := 78 }) [.ref x, .int op, .int wd, .int fi, .int se] h n (fun v h' n' => ∃ (na : Nat → Nat) (mk : Nat) (N : Nat → Nat → Int32), v = some (.ref (na c.2.2.1)) ∧ n ≤ n' ∧ n' ≤ n + 403 ∧ c.2.2.1 < mk ∧ cl_ok ids h' n' x L s (na, mk, c.2.2.1, N, c.2.2.2.2.1, c.2.2.2.2.2) ∧ (∀ i : Nat, i < c.2.2.1 → N i = c.2.2.2.1 i) ∧ N c.2.2.1 0 = op ∧ N c.2.2.1 1 = wd ∧ N c.2.2.1 2 = fi ∧ N c.2.2.1 3 = se ∧ N c.2.2.1 8 = nI 0 ∧ cl_fr h h' x L ∧ c.2.1 ≤ mk ∧ (∀ i : Nat, i < c.2.1 → na i = c.1 i) ∧ (∀ i : Nat, i < c.2.1 → ∀ q : Nat, c.1 i + 1 ≤ q → q < c.1 i + 403 → h' q = h q) ∧ ∀ k : Nat, k < mk → c.2.1 ≤ k → tbi ids h' (na k + 1) 0) := by
  obtain ⟨hc, k2, k3, k4, k5, k6, k7⟩ := id hk
  obtain ⟨c1, c2, c3, ⟨pn, c4, c5⟩, ⟨pt, c6, c7⟩, c8, c9, c10, c11, c12, c13, c14, c15⟩ := id hc
  refine rl_Met.of (by decide +kernel) (Nat.le_of_ble_eq_true rfl) ?_
  intro X hC hB
  show rl_G X (rl_e D ids H0) 0 [some (.ref x), some (.int op), some (.int wd), some (.int fi), some (.int se)] [] h n 0 0
  by_cases hlt : c.2.2.1 < c.2.1
  · have m1 := c12 _ hlt
    unfold cl_nd at m1
    have z1 := c14 _ hlt
    have z2 := (k4 _ hlt).1
    refine o_aload_n hC dX7_openNode_0 (by rfl) ?_
    refine o_getf hC (fX7_25 hC rfl) dX7_openNode_1 (by repeat (first | with_reducible assumption | (rw [rl_u_s]; done) | (rw [rl_u_s]; rfl) | rw [rl_u_n (by first | with_reducible assumption | omega)])) (by first | rfl | with_reducible assumption) ?_
    refine o_aload_n hC dX7_openNode_4 (by rfl) ?_
    refine o_getf hC (fX7_78 hC rfl) dX7_openNode_5 (by repeat (first | with_reducible assumption | (rw [rl_u_s]; done) | (rw [rl_u_s]; rfl) | rw [rl_u_n (by first | with_reducible assumption | omega)])) (by first | rfl | with_reducible assumption) ?_
    refine o_aaldN (t0 := 5) (k := c.2.2.1) hC rfl dX7_openNode_8 c4 (by omega) (by decide) ?_
    rw [c5 _ (by omega), if_pos hlt]
    show rl_G X _ _ _ (.ref _ :: _) _ _ _ _
    refine o_ifnonnull (tgt := 46) hC dX7_openNode_9 (by decide) ?_
    refine o_aload_n hC dX7_openNode_46 (by rfl) ?_
    refine o_getf hC (fX7_25 hC rfl) dX7_openNode_47 (by repeat (first | with_reducible assumption | (rw [rl_u_s]; done) | (rw [rl_u_s]; rfl) | rw [rl_u_n (by first | with_reducible assumption | omega)])) (by first | rfl | with_reducible assumption) ?_
    refine o_aload_n hC dX7_openNode_50 (by rfl) ?_
    refine o_getf hC (fX7_78 hC rfl) dX7_openNode_51 (by repeat (first | with_reducible assumption | (rw [rl_u_s]; done) | (rw [rl_u_s]; rfl) | rw [rl_u_n (by first | with_reducible assumption | omega)])) (by first | rfl | with_reducible assumption) ?_
    refine o_aaldN (t0 := 5) (k := c.2.2.1) hC rfl dX7_openNode_54 c4 (by omega) (by decide) ?_
    rw [c5 _ (by omega), if_pos hlt]
    show rl_G X _ _ _ (.ref _ :: _) _ _ _ _
    refine o_iload_n hC dX7_openNode_55 (by rfl) ?_
    refine o_iload_n hC dX7_openNode_56 (by rfl) ?_
    refine o_iload_n hC dX7_openNode_57 (by rfl) ?_
    refine o_iload hC dX7_openNode_58 (by rfl) ?_
    refine o_callV4 hC rl_BW_good rl_Ns_nw (by exact hB.2.2.2.2.2) YX1_describe IX1_describe VX1_describe (mX7_230 hC) (by rw [hB.1]; exact ct_X1_describe l D ids H0 _ _ (c.1 c.2.2.1) _ _ _ _ _ _ _ _ _ _ _ _ _ m1) (by exact m1) rfl rfl (Nat.le_of_ble_eq_true rfl) (by rw [hB.2.1]; first | exact Nat.le_of_ble_eq_true rfl | (dsimp only; omega)) (by rw [hB.2.1]; first | exact Nat.le_of_ble_eq_true rfl | (dsimp only; omega)) (by rw [hB.2.1]; first | exact Nat.le_of_ble_eq_true rfl | (dsimp only; omega)) (by rw [hB.2.1]; first | exact Nat.le_of_ble_eq_true rfl | (dsimp only; omega)) dX7_openNode_60 (fun v h_60 n_60 p_60 => ?_)
    obtain ⟨rfl, rfl, d1, d2⟩ := p_60
    have e1 := (d2 x (by omega)).trans c1
    have e4 := (d2 (x + 63) (by omega)).trans c4
    try dsimp only [Option.toList, List.cons_append, List.nil_append]
    refine o_aload_n hC dX7_openNode_63 (by rfl) ?_
    refine o_getf hC (fX7_25 hC rfl) dX7_openNode_64 (by repeat (first | with_reducible assumption | (rw [rl_u_s]; done) | (rw [rl_u_s]; rfl) | rw [rl_u_n (by first | with_reducible assumption | omega)])) (by first | rfl | with_reducible assumption) ?_
    refine o_aload_n hC dX7_openNode_67 (by rfl) ?_
    refine o_getf hC (fX7_78 hC rfl) dX7_openNode_68 (by repeat (first | with_reducible assumption | (rw [rl_u_s]; done) | (rw [rl_u_s]; rfl) | rw [rl_u_n (by first | with_reducible assumption | omega)])) (by first | rfl | with_reducible assumption) ?_
    refine o_aaldN (t0 := 5) (k := c.2.2.1) hC rfl dX7_openNode_71 e4 (by omega) (by decide) ?_
    rw [c5 _ (by omega), if_pos hlt]
    show rl_G X _ _ _ (.ref _ :: _) _ _ _ _
    refine o_aret hC hB (by first | exact Or.inl ⟨_, rfl⟩ | exact Or.inr ⟨_, rfl⟩) (by first | exact Or.inl rfl | exact Or.inr ⟨_, rfl⟩) dX7_openNode_72 (Nat.le_of_ble_eq_true rfl) (Nat.le_of_ble_eq_true rfl) ?_
    refine ⟨c.1, c.2.1, cl_de c.2.2.2.1 c.2.2.1 op wd fi se, rfl, Nat.le_refl _, by omega, hlt, ⟨hc.nd hlt _ ?_ (fun i hi => ?_) d2, k2, k3, k4, k5, fun k hk => ?_, fun k hk a w b e => ?_⟩, fun i hi => ?_, if_pos rfl, if_pos rfl, if_pos rfl, if_pos rfl, if_pos rfl, fun q a b => d2 q (by omega), Nat.le_refl _, fun _ _ => rfl, fun i hi q a b => ?_, fun k g1 g2 => absurd g1 (by omega)⟩
    · rw [d1]
      unfold cl_nd cl_de
      simp only [if_true]
    · funext f
      exact if_neg hi
    · have hk : k < c.2.2.1 := hk
      exact (k6 k hk).of (fun i hi f _ => if_neg (by omega))
    · have hk : k < c.2.2.1 := hk
      have e0 : cl_de c.2.2.2.1 c.2.2.1 op wd fi se k = c.2.2.2.1 k := by
        funext f
        exact if_neg (by omega)
      have a : cl_de c.2.2.2.1 c.2.2.1 op wd fi se k 8 ≠ nI 0 := a
      have e : cl_de c.2.2.2.1 c.2.2.1 op wd fi se k 1 = nI w := e
      rw [e0] at a e
      refine (k7 k hk a w b e).eqv (fun q a b => d2 q ?_)
      have a : c.1 k + 1 ≤ q := a
      have b : q < c.1 k + 1 + 402 := b
      have := c15 k c.2.2.1 hk hlt
      omega
    · funext f
      exact if_neg (by omega)
    · refine d2 q ?_
      rcases Nat.lt_trichotomy i c.2.2.1 with u | u | u
      · have := c15 i _ u hlt
        omega
      · subst u
        omega
      · have := c15 _ i u hi
        omega
  · refine o_aload_n hC dX7_openNode_0 (by rfl) ?_
    refine o_getf hC (fX7_25 hC rfl) dX7_openNode_1 (by repeat (first | with_reducible assumption | (rw [rl_u_s]; done) | (rw [rl_u_s]; rfl) | rw [rl_u_n (by first | with_reducible assumption | omega)])) (by first | rfl | with_reducible assumption) ?_
    refine o_aload_n hC dX7_openNode_4 (by rfl) ?_
    refine o_getf hC (fX7_78 hC rfl) dX7_openNode_5 (by repeat (first | with_reducible assumption | (rw [rl_u_s]; done) | (rw [rl_u_s]; rfl) | rw [rl_u_n (by first | with_reducible assumption | omega)])) (by first | rfl | with_reducible assumption) ?_
    refine o_aaldN (t0 := 5) (k := c.2.2.1) hC rfl dX7_openNode_8 c4 (by omega) (by decide) ?_
    rw [c5 _ (by omega), if_neg hlt]
    show rl_G X _ _ _ (.null :: _) _ _ _ _
    refine o_ifnonnullN hC dX7_openNode_9 ?_
    refine o_aload_n hC dX7_openNode_12 (by rfl) ?_
    refine o_getf hC (fX7_25 hC rfl) dX7_openNode_13 (by repeat (first | with_reducible assumption | (rw [rl_u_s]; done) | (rw [rl_u_s]; rfl) | rw [rl_u_n (by first | with_reducible assumption | omega)])) (by first | rfl | with_reducible assumption) ?_
    refine o_aload_n hC dX7_openNode_16 (by rfl) ?_
    refine o_getf hC (fX7_78 hC rfl) dX7_openNode_17 (by repeat (first | with_reducible assumption | (rw [rl_u_s]; done) | (rw [rl_u_s]; rfl) | rw [rl_u_n (by first | with_reducible assumption | omega)])) (by first | rfl | with_reducible assumption) ?_
    refine o_new (ci := 1) (fs := [.int (nI 0), .int (nI 0), .int (nI 0), .int (nI 0), .int (nI 0), .int (nI 0), .int (nI 0), .int (nI 0), .int (nI 0)]) hC rfl uX1 tyX1 tyX1_ok kX7_23 iX1 zX1 (by decide +kernel) (by rw [hB.2.1]; first | exact Nat.le_of_ble_eq_true rfl | (dsimp only; omega)) (by rw [hB.2.1]; first | exact Nat.le_of_ble_eq_true rfl | (dsimp only; omega)) dX7_openNode_20 ?_
    refine o_dup hC dX7_openNode_23 rfl ?_
    refine o_callI0 hC rl_BW_good rl_Ns_nw (by exact hB.2.2.2.2.2) YX1_init rfl IX1_init (mX7_229 hC) (by rw [hB.1]; exact ct_X1_init l D ids H0 _ _ n) (Nat.le_of_ble_eq_true rfl) (by rw [hB.2.1]; first | exact Nat.le_of_ble_eq_true rfl | (dsimp only; omega)) (by rw [hB.2.1]; first | exact Nat.le_of_ble_eq_true rfl | (dsimp only; omega)) (by rw [hB.2.1]; first | exact Nat.le_of_ble_eq_true rfl | (dsimp only; omega)) (by rw [hB.2.1]; first | exact Nat.le_of_ble_eq_true rfl | (dsimp only; omega)) dX7_openNode_24 (fun v h_24 n_24 p_24 => ?_)
    obtain ⟨rfl, rfl, rfl⟩ := p_24
    try dsimp only [Option.toList, List.cons_append, List.nil_append]
    refine o_aastN (t0 := 5) (vs := [.int (nI 0), .int (nI 0), .int (nI 0), .int (nI 0), .int (nI 0), .int (nI 0), .int (nI 0), .int (nI 0), .int (nI 0)]) (k := c.2.2.1) hC rfl rfl dX7_openNode_27 (by repeat (first | with_reducible assumption | (rw [rl_u_s]; done) | (rw [rl_u_s]; rfl) | rw [rl_u_n (by first | with_reducible assumption | omega)])) rl_u_s (by omega) (by decide) ?_
    refine o_aload_n hC dX7_openNode_28 (by rfl) ?_
    refine o_getf hC (fX7_31 hC rfl) dX7_openNode_29 (by repeat (first | with_reducible assumption | (rw [rl_u_s]; done) | (rw [rl_u_s]; rfl) | rw [rl_u_n (by first | with_reducible assumption | omega)])) (by first | rfl | with_reducible assumption) ?_
    refine o_aload_n hC dX7_openNode_32 (by rfl) ?_
    refine o_getf hC (fX7_78 hC rfl) dX7_openNode_33 (by repeat (first | with_reducible assumption | (rw [rl_u_s]; done) | (rw [rl_u_s]; rfl) | rw [rl_u_n (by first | with_reducible assumption | omega)])) (by first | rfl | with_reducible assumption) ?_
    refine o_new (ci := 4) (fs := [.null, .int (nI 0), .int (nI 0)]) hC rfl uX4 tyX4 tyX4_ok kX7_29 iX4 zX4 (by decide +kernel) (by rw [hB.2.1]; first | exact Nat.le_of_ble_eq_true rfl | (dsimp only; omega)) (by rw [hB.2.1]; first | exact Nat.le_of_ble_eq_true rfl | (dsimp only; omega)) dX7_openNode_36 ?_
    refine o_dup hC dX7_openNode_39 rfl ?_
    refine o_bipush (v := nI 80) hC dX7_openNode_40 (by decide +kernel) ?_
    refine o_callI1 hC rl_BW_good rl_Ns_nw (by exact hB.2.2.2.2.2) YX4_init rfl IX4_init (mX7_35 hC) (by rw [hB.1]; exact ct_X4_init l D ids H0 _ _ (n + 1) 80 rl_u_s rfl (by decide)) (Nat.le_of_ble_eq_true rfl) (by rw [hB.2.1]; first | exact Nat.le_of_ble_eq_true rfl | (dsimp only; omega)) (by rw [hB.2.1]; first | exact Nat.le_of_ble_eq_true rfl | (dsimp only; omega)) (by rw [hB.2.1]; first | exact Nat.le_of_ble_eq_true rfl | (dsimp only; omega)) (by rw [hB.2.1]; first | exact Nat.le_of_ble_eq_true rfl | (dsimp only; omega)) dX7_openNode_42 (fun v h_42 n_42 p_42 => ?_)
    obtain ⟨rfl, rfl, p, t1, t2, t3, t4, fr42⟩ := p_42
    try dsimp only [Option.toList, List.cons_append, List.nil_append]
    have em : c.2.2.1 = c.2.1 := by omega
    have g4 : h_42 (x + 63) = some (.inl (ids 5, 16, .inr (.inr (.inr (.inr (va_up pn c.2.2.1 (some n))))))) := by
      repeat (first | with_reducible assumption | (rw [rl_u_s]; done) | (rw [rl_u_s]; rfl) | rw [rl_u_n (by first | with_reducible assumption | omega)] | rw [fr42 _ (by omega)])
    have g1 : h_42 x = some (.inr (7, [.ref (x + 1), .ref (x + 41), .ref (x + 63), .ref (x + 64), .ref (x + 65), .ref (x + 67), .int (nI c.2.2.1), .int c.2.2.2.2.1, .long c.2.2.2.2.2])) := by
      repeat (first | with_reducible assumption | (rw [rl_u_s]; done) | (rw [rl_u_s]; rfl) | rw [rl_u_n (by first | with_reducible assumption | omega)] | rw [fr42 _ (by omega)])
    have g8 : h_42 n = some (.inr (1, [.int (nI 0), .int (nI 0), .int (nI 0), .int (nI 0), .int (nI 0), .int (nI 0), .int (nI 0), .int (nI 0), .int (nI 0)])) := by
      repeat (first | with_reducible assumption | (rw [rl_u_s]; done) | (rw [rl_u_s]; rfl) | rw [rl_u_n (by first | with_reducible assumption | omega)] | rw [fr42 _ (by omega)])
    have gq : ∀ q, q < n → q ≠ x + 63 → h_42 q = h q := fun q a1 a2 => by
      rw [fr42 q (by omega), rl_u_n (by omega), rl_u_n (by omega), rl_u_n (by omega)]
    refine o_aastN (t0 := 6) (vs := [.ref (n + 1 + 1), .int (nI 0), .int (nI 0)]) (k := c.2.2.1) hC rfl rfl dX7_openNode_45 (by repeat (first | with_reducible assumption | (rw [rl_u_s]; done) | (rw [rl_u_s]; rfl) | rw [rl_u_n (by first | with_reducible assumption | omega)] | rw [fr42 _ (by omega)])) t1 (by omega) (by decide) ?_
    refine o_aload_n hC dX7_openNode_46 (by rfl) ?_
    refine o_getf hC (fX7_25 hC rfl) dX7_openNode_47 (by repeat (first | with_reducible assumption | (rw [rl_u_s]; done) | (rw [rl_u_s]; rfl) | rw [rl_u_n (by first | with_reducible assumption | omega)])) (by first | rfl | with_reducible assumption) ?_
    refine o_aload_n hC dX7_openNode_50 (by rfl) ?_
    refine o_getf hC (fX7_78 hC rfl) dX7_openNode_51 (by repeat (first | with_reducible assumption | (rw [rl_u_s]; done) | (rw [rl_u_s]; rfl) | rw [rl_u_n (by first | with_reducible assumption | omega)])) (by first | rfl | with_reducible assumption) ?_
    refine o_aaldN (t0 := 5) (k := c.2.2.1) hC rfl dX7_openNode_54 ((rl_u_n (by omega)).trans g4) (by omega) (by decide) ?_
    rw [va_up_self]
    show rl_G X _ _ _ (.ref _ :: _) _ _ _ _
    refine o_iload_n hC dX7_openNode_55 (by rfl) ?_
    refine o_iload_n hC dX7_openNode_56 (by rfl) ?_
    refine o_iload_n hC dX7_openNode_57 (by rfl) ?_
    refine o_iload hC dX7_openNode_58 (by rfl) ?_
    refine o_callV4 hC rl_BW_good rl_Ns_nw (by exact hB.2.2.2.2.2) YX1_describe IX1_describe VX1_describe (mX7_230 hC) (by rw [hB.1]; exact ct_X1_describe l D ids H0 _ _ n _ _ _ _ _ _ _ _ _ _ _ _ _ ((rl_u_n (by omega)).trans g8)) (by exact (rl_u_n (by omega)).trans g8) rfl rfl (Nat.le_of_ble_eq_true rfl) (by rw [hB.2.1]; first | exact Nat.le_of_ble_eq_true rfl | (dsimp only; omega)) (by rw [hB.2.1]; first | exact Nat.le_of_ble_eq_true rfl | (dsimp only; omega)) (by rw [hB.2.1]; first | exact Nat.le_of_ble_eq_true rfl | (dsimp only; omega)) (by rw [hB.2.1]; first | exact Nat.le_of_ble_eq_true rfl | (dsimp only; omega)) dX7_openNode_60 (fun v h_60 n_60 p_60 => ?_)
    obtain ⟨rfl, rfl, d1, d2⟩ := p_60
    have e1 := (d2 x (by omega)).trans ((rl_u_n (by omega)).trans g1)
    have e4 := (d2 (x + 63) (by omega)).trans ((rl_u_n (by omega)).trans g4)
    have e6 := (d2 (x + 64) (by omega)).trans rl_u_s
    have dq : ∀ q, q < n → q ≠ x + 63 → q ≠ x + 64 → h_60 q = h q := fun q a1 a2 a3 => by
      rw [d2 q (by omega), rl_u_n (by omega), gq q a1 a2]
    try dsimp only [Option.toList, List.cons_append, List.nil_append]
    refine o_aload_n hC dX7_openNode_63 (by rfl) ?_
    refine o_getf hC (fX7_25 hC rfl) dX7_openNode_64 (by repeat (first | with_reducible assumption | (rw [rl_u_s]; done) | (rw [rl_u_s]; rfl) | rw [rl_u_n (by first | with_reducible assumption | omega)])) (by first | rfl | with_reducible assumption) ?_
    refine o_aload_n hC dX7_openNode_67 (by rfl) ?_
    refine o_getf hC (fX7_78 hC rfl) dX7_openNode_68 (by repeat (first | with_reducible assumption | (rw [rl_u_s]; done) | (rw [rl_u_s]; rfl) | rw [rl_u_n (by first | with_reducible assumption | omega)])) (by first | rfl | with_reducible assumption) ?_
    refine o_aaldN (t0 := 5) (k := c.2.2.1) hC rfl dX7_openNode_71 e4 (by omega) (by decide) ?_
    rw [va_up_self]
    show rl_G X _ _ _ (.ref _ :: _) _ _ _ _
    refine o_aret hC hB (by first | exact Or.inl ⟨_, rfl⟩ | exact Or.inr ⟨_, rfl⟩) (by first | exact Or.inl rfl | exact Or.inr ⟨_, rfl⟩) dX7_openNode_72 (Nat.le_of_ble_eq_true rfl) (Nat.le_of_ble_eq_true rfl) ?_
    have tb0 : tb_at ids h_60 (n + 1) 0 0 (fun i => i) (fun _ _ => 0, fun _ _ => 0, fun _ _ => 0, fun _ => 0) := by
      refine ⟨?_, ⟨p, ?_, fun i hi => ?_⟩, fun i hi => hi, fun i hi => ?_, Nat.zero_le _, Nat.zero_le _⟩
      · rw [d2 _ (by omega), rl_u_n (by omega)]
        exact t1
      · rw [d2 _ (by omega), rl_u_n (by omega)]
        exact t2
      · rw [t3 i hi, if_pos hi]
      · exact (t4 i hi).eqv (fun q a b => by rw [d2 q (by omega), rl_u_n (by omega)])
    have tb : tb_ok ids h_60 (n + 1) 0 := ⟨_, _, _, tb0⟩
    have NE : ∀ i : Nat, i ≠ c.2.1 → cl_de (cl_ze c.2.2.2.1 c.2.2.1) c.2.2.1 op wd fi se i = c.2.2.2.1 i := fun i hi => by
      funext f
      exact (if_neg (by omega)).trans (if_neg (by omega))
    refine ⟨va_up c.1 c.2.1 n, c.2.1 + 1, cl_de (cl_ze c.2.2.2.1 c.2.2.1) c.2.2.1 op wd fi se, ?_, by omega, by omega, by omega, ⟨hc.mk (wd := 0) (h' := h_60) (by omega) (by omega) (fun k hk => (k4 k hk).2) (va_up pn c.2.2.1 (some n)) (va_up pt c.2.2.1 (some (n + 1))) e4 (fun k hk => ?_) e6 (fun k hk => ?_) _ NE ?_ tb dq, k2, by omega, fun k hk => ?_, k5, fun k hk => ?_, fun k hk a w b e => ?_⟩, fun i hi => NE i (by omega), if_pos rfl, if_pos rfl, if_pos rfl, if_pos rfl, if_pos rfl, fun q a b => dq q (by omega) (by omega) (by omega), by omega, fun i hi => va_up_ne _ _ (by omega), fun i hi q a b => ?_, fun k g1 g2 => ?_⟩
    · rw [em, va_up_self]
    · by_cases e : k = c.2.1
      · subst e
        rw [em, va_up_self, va_up_self, if_pos (by omega)]
      · rw [em, va_up_ne _ _ e, va_up_ne _ _ e, c5 k hk]
        by_cases e2 : k < c.2.1
        · rw [if_pos e2, if_pos (by omega)]
        · rw [if_neg e2, if_neg (by omega)]
    · by_cases e : k = c.2.1
      · subst e
        rw [em, va_up_self, va_up_self, if_pos (by omega)]
      · rw [em, va_up_ne _ _ e, va_up_ne _ _ e, c7 k hk]
        by_cases e2 : k < c.2.1
        · rw [if_pos e2, if_pos (by omega)]
        · rw [if_neg e2, if_neg (by omega)]
    · rw [d1, ← em]
      unfold cl_nd cl_de cl_ze
      simp only [if_true]
    · have hk : k < c.2.1 + 1 := hk
      show L ≤ va_up c.1 c.2.1 n k ∧ va_up c.1 c.2.1 n k + 403 ≤ _
      by_cases e : k = c.2.1
      · subst e
        rw [va_up_self]
        exact ⟨by omega, by omega⟩
      · rw [va_up_ne _ _ e]
        have := k4 k (by omega)
        exact ⟨this.1, by omega⟩
    · have hk : k < c.2.2.1 := hk
      exact (k6 k hk).of (fun i hi f _ => congrFun (NE i (by omega)) f)
    · have hk : k < c.2.2.1 := hk
      have a : cl_de (cl_ze c.2.2.2.1 c.2.2.1) c.2.2.1 op wd fi se k 8 ≠ nI 0 := a
      have e : cl_de (cl_ze c.2.2.2.1 c.2.2.1) c.2.2.1 op wd fi se k 1 = nI w := e
      rw [NE k (by omega)] at a e
      show tb_ok ids h_60 (va_up c.1 c.2.1 n k + 1) w
      rw [va_up_ne _ _ (show k ≠ c.2.1 by omega)]
      have z1 := c14 k (by omega)
      have z2 := k4 k (by omega)
      exact (k7 k hk a w b e).eqv (fun q a b => dq q (by omega) (by omega) (by omega))
    · have z1 := c14 i hi
      have z2 := k4 i hi
      exact dq q (by omega) (by omega) (by omega)
    · obtain rfl : k = c.2.1 := by omega
      rw [va_up_self]
      exact ⟨0, _, _, tb0, fun i j _ _ e => e⟩
end
section
/-! what both tell without running: sources, widths, rows, nodes, node widths, present -/
abbrev sh_S : Type := Nat × (Nat → Int32) × Nat × Nat × (Nat → Int32) × Int64
abbrev sh_R (s : cl_S) (c : cl_N) (z : sh_S) : Prop := s.2.2.2.1 = z.1 ∧ s.1 = z.2.1 ∧ s.2.2.2.2 = z.2.2.1 ∧ c.2.2.1 = z.2.2.2.1 ∧ (∀ k : Nat, k < c.2.2.1 → c.2.2.2.1 k 1 = z.2.2.2.2.1 k) ∧ c.2.2.2.2.2 = z.2.2.2.2.2
def sh_node (z : sh_S) (w : Int32) : Int32 × sh_S := if 16 ≤ z.2.2.2.1 then (-4, z) else (nI z.2.2.2.1, (z.1, z.2.1, z.2.2.1, z.2.2.2.1 + 1, upd z.2.2.2.2.1 z.2.2.2.1 w, z.2.2.2.2.2))
abbrev sh_nn (z : sh_S) (q : Int32) : Prop := q < 0 ∨ nI z.2.2.2.1 ≤ q
abbrev sh_w (z : sh_S) (q : Int32) : Int32 := z.2.2.2.2.1 q.toNatClampNeg
abbrev sh_nk (z : sh_S) (q k : Int32) : Prop := sh_nn z q ∨ k < 0 ∨ sh_w z q ≤ k
def sh_scan (z : sh_S) (q : Int32) : Int32 × sh_S := if q < 0 ∨ nI z.1 ≤ q then (-1, z) else sh_node z (z.2.1 q.toNatClampNeg)
def sh_pick (z : sh_S) (q k sg ot : Int32) : Int32 × sh_S := if sh_nk z q k ∨ (ot ≠ -1 ∧ sh_nk z q ot) then (-1, z) else if sg < 0 ∨ ¬ sg ≤ nI 2 then (-2, z) else sh_node z (sh_w z q)
def sh_join (z : sh_S) (a b i j : Int32) : Int32 × sh_S := if sh_nk z a i ∨ sh_nk z b j then (-1, z) else if ¬ sh_w z a + sh_w z b ≤ nI 6 then (-2, z) else sh_node z (sh_w z a + sh_w z b)
def sh_pair (z : sh_S) (a b : Int32) : Int32 × sh_S := if sh_nn z a ∨ sh_nn z b then (-1, z) else if sh_w z a ≠ sh_w z b then (-2, z) else sh_node z (sh_w z a)
def sh_fold (z : sh_S) (q k j kd : Int32) : Int32 × sh_S := if sh_nk z q k ∨ sh_nk z q j then (-1, z) else if kd < 0 ∨ ¬ kd ≤ nI 3 then (-2, z) else sh_node z (nI 2)
theorem cl_wd {ids : Nat → ClassId} {h : rl_H} {n x L : Nat} {s : cl_S} {c : cl_N} (H : cl_ok ids h n x L s c) {j : Nat} (hj : j < c.2.2.1) : ∃ w : Nat, 1 ≤ w ∧ w ≤ 6 ∧ c.2.2.2.1 j 1 = nI w := by
  obtain ⟨op, w, w1, w2, -, a2, a3, a4, -, -, -⟩ := H.2.2.2.2.2.1 j hj
  exact ⟨w, a3, a4.2.1, a2⟩
theorem cl_nc {ids : Nat → ClassId} {h : rl_H} {n x L : Nat} {s : cl_S} {c : cl_N} (H : cl_ok ids h n x L s c) : c.2.2.1 ≤ c.2.1 ∧ c.2.1 ≤ 16 := ⟨H.1.2.2.2.2.2.2.2.1, H.1.2.2.2.2.2.2.2.2.1⟩
theorem sh_R.w {ids : Nat → ClassId} {h : rl_H} {n x L : Nat} {s : cl_S} {c : cl_N} {z : sh_S} (H : cl_ok ids h n x L s c) (R : sh_R s c z) {j : Nat} (hj : j < c.2.2.1) : sh_w z (nI j) = c.2.2.2.1 j 1 := by
  have := cl_nc H
  unfold sh_w
  rw [rl_cl (N := 16) (by omega) (by decide)]
  exact (R.2.2.2.2.1 j hj).symm
/-- a node, or not -/
theorem sh_R.nn {ids : Nat → ClassId} {h : rl_H} {n x L : Nat} {s : cl_S} {c : cl_N} {z : sh_S} (H : cl_ok ids h n x L s c) (R : sh_R s c z) {q : Int32} : (∃ j : Nat, j < c.2.2.1 ∧ q = nI j) ↔ ¬ sh_nn z q := by
  have hn := cl_nc H
  constructor
  · rintro ⟨j, hj, rfl⟩ e
    rcases e with e | e
    · exact nI_pos (by omega) e
    · rw [← R.2.2.2.1] at e
      exact nI_ge hj (by omega) e
  · intro e
    unfold sh_nn at e
    rw [← R.2.2.2.1] at e
    exact nI_of_lt (by omega) (fun q => e (Or.inl q)) (fun q => e (Or.inr q))
theorem sh_R.nk {ids : Nat → ClassId} {h : rl_H} {n x L : Nat} {s : cl_S} {c : cl_N} {z : sh_S} (H : cl_ok ids h n x L s c) (R : sh_R s c z) {q k : Int32} : (∃ j : Nat, j < c.2.2.1 ∧ q = nI j ∧ ¬ k < 0 ∧ ¬ c.2.2.2.1 j 1 ≤ k) ↔ ¬ sh_nk z q k := by
  constructor
  · rintro ⟨j, hj, rfl, e1, e2⟩ e
    rcases e with e | e | e
    · exact (sh_R.nn H R).mp ⟨j, hj, rfl⟩ e
    · exact e1 e
    · rw [sh_R.w H R hj] at e
      exact e2 e
  · intro e
    obtain ⟨j, hj, rfl⟩ := (sh_R.nn H R (q := q)).mpr (fun q => e (Or.inl q))
    exact ⟨j, hj, rfl, fun q => e (Or.inr (Or.inl q)), fun q => e (Or.inr (Or.inr (by rw [sh_R.w H R hj]; exact q)))⟩
theorem sh_node_n {z : sh_S} {w : Int32} (h : ¬ z.2.2.2.1 < 16) : sh_node z w = (-4, z) := if_pos (by omega)
theorem sh_R.add {s : cl_S} {c : cl_N} {z : sh_S} (R : sh_R s c z) {na : Nat → Nat} {mk : Nat} {N : Nat → Nat → Int32} {w a b d e : Int32} (h16 : c.2.2.1 < 16) (h1 : ∀ i : Nat, i < c.2.2.1 → N i = c.2.2.2.1 i) (h2 : N c.2.2.1 1 = w) : sh_R s (na, mk, c.2.2.1 + 1, cl_dt N c.2.2.1 a b d e, c.2.2.2.2.1, c.2.2.2.2.2) (sh_node z w).2 ∧ (sh_node z w).1 = nI c.2.2.1 := by
  obtain ⟨r1, r2, r3, r4, r5, r6⟩ := R
  unfold sh_node
  rw [if_neg (by omega)]
  refine ⟨⟨r1, r2, r3, congrArg (· + 1) r4, fun k hk => ?_, r6⟩, by rw [r4]⟩
  have hk : k < c.2.2.1 + 1 := hk
  show cl_dt N c.2.2.1 a b d e k 1 = upd z.2.2.2.2.1 z.2.2.2.1 w k
  unfold cl_dt upd
  by_cases q : k = c.2.2.1
  · subst q
    rw [if_pos rfl, if_pos r4]
    exact h2
  · rw [if_neg q, if_neg (by omega), h1 k (by omega)]
    exact r5 k (by omega)
theorem cl_ok.add {ids : Nat → ClassId} {h h' : rl_H} {n x L nc mk : Nat} {s : cl_S} {na : Nat → Nat} {N : Nat → Nat → Int32} {rs : Int32} {pr : Int64} (H : cl_ok ids h n x L s (na, mk, nc, N, rs, pr)) (hlt : nc < mk) {a b d e : Int32} (h1 : h' (na nc) = some (nd_v (N nc 0) (N nc 1) (N nc 2) (N nc 3) a b d e (N nc 8))) (he : ∀ q : Nat, q ≠ na nc → h' q = h q) (h8 : N nc 8 = nI 0) (hv : cl_cv (cl_dt N nc a b d e) nc) : cl_ok ids (rl_u h' x (.inr (7, [.ref (x + 1), .ref (x + 41), .ref (x + 63), .ref (x + 64), .ref (x + 65), .ref (x + 67), .int (nI (nc + 1)), .int rs, .long pr]))) n x L s (na, mk, nc + 1, cl_dt N nc a b d e, rs, pr) ∧ cl_fr h (rl_u h' x (.inr (7, [.ref (x + 1), .ref (x + 41), .ref (x + 63), .ref (x + 64), .ref (x + 65), .ref (x + 67), .int (nI (nc + 1)), .int rs, .long pr]))) x L := by
  obtain ⟨k1, k2, k3, k4, k5, k6, k7⟩ := H
  have k4 : ∀ k : Nat, k < mk → L ≤ na k ∧ na k + 403 ≤ n := k4
  have n1 : cl_at ids h' x s (na, mk, nc, cl_dt N nc a b d e, rs, pr) := by
    refine k1.nd (k := nc) hlt _ ?_ (fun i hi => ?_) he
    · refine h1.trans ?_
      unfold cl_nd cl_dt nd_v
      simp only [if_true]
    · funext f
      exact if_neg hi
  have z := k4 nc hlt
  refine ⟨⟨n1.nc (nc + 1) hlt rs pr, k2, k3, k4, k5, fun k hk => ?_, fun k hk a1 w b1 e1 => ?_⟩, fun q q1 q2 => ?_⟩
  · have hk : k < nc + 1 := hk
    by_cases e0 : k = nc
    · subst e0
      exact hv
    · exact (k6 k (show k < nc by omega)).of (fun i hi f _ => if_neg (by omega))
  · have hk : k < nc + 1 := hk
    have a1 : cl_dt N nc a b d e k 8 ≠ nI 0 := a1
    have e1 : cl_dt N nc a b d e k 1 = nI w := e1
    by_cases e0 : k = nc
    · subst e0
      refine absurd ?_ a1
      unfold cl_dt
      rw [if_pos rfl]
      exact h8
    · have hk2 : k < nc := by omega
      have ee : cl_dt N nc a b d e k = N k := by
        funext f
        exact if_neg e0
      rw [ee] at a1 e1
      have z2 := k4 k (by omega)
      have z3 : na k + 403 ≤ na nc := k1.2.2.2.2.2.2.2.2.2.2.2.2 k nc hk2 hlt
      exact (k7 k hk2 a1 w b1 e1).eqv (fun q q1 q2 => by
        have q1 : na k + 1 ≤ q := q1
        have q2 : q < na k + 1 + 402 := q2
        rw [rl_u_n (by omega), he q (by omega)])
  · rw [rl_u_n (by omega), he q (by omega)]
theorem cl_cv.new {N : Nat → Nat → Int32} {k op w w1 w2 : Nat} {a b d e f0 f1 f2 f3 : Int32} (g0 : N k 0 = f0) (g1 : N k 1 = f1) (g2 : N k 2 = f2) (g3 : N k 3 = f3) (h0 : f0 = nI op) (h1 : f1 = nI w) (hw : 1 ≤ w) (hn : nd_ok op w a b d e w1 w2) (p2 : f2 = -1 ∨ ∃ i : Nat, i < k ∧ f2 = nI i) (p3 : f3 = -1 ∨ ∃ i : Nat, i < k ∧ f3 = nI i) (hf : 1 ≤ op → ∃ i : Nat, i < k ∧ f2 = nI i ∧ N i 1 = nI w1 ∧ w1 ≤ 6) (hs : op = 3 ∨ op = 4 ∨ op = 5 → ∃ j : Nat, j < k ∧ f3 = nI j ∧ N j 1 = nI w2 ∧ w2 ≤ 6) : cl_cv (cl_dt N k a b d e) k := by
  subst h0 h1
  refine ⟨op, w, w1, w2, (if_pos rfl).trans g0, (if_pos rfl).trans g1, hw, ?_, ⟨?_, ?_⟩, fun q => ?_, fun q => ?_⟩
  · unfold cl_dt
    simp only [if_true]
    exact hn
  · rw [show cl_dt N k a b d e k 2 = f2 from (if_pos rfl).trans g2]
    exact p2
  · rw [show cl_dt N k a b d e k 3 = f3 from (if_pos rfl).trans g3]
    exact p3
  · obtain ⟨i, i1, i2, i3⟩ := hf q
    exact ⟨i, i1, (if_pos rfl).trans (g2.trans i2), (if_neg (by omega)).trans i3.1, i3.2⟩
  · obtain ⟨i, i1, i2, i3⟩ := hs q
    exact ⟨i, i1, (if_pos rfl).trans (g3.trans i2), (if_neg (by omega)).trans i3.1, i3.2⟩

/-- what a maker of nodes leaves -/
def cl_ad (ids : Nat → ClassId) (h h' : rl_H) (c c' : cl_N) (f0 f2 f3 f4 f5 f6 f7 : Int32) : Prop := (c' = c ∧ h' = h) ∨ (c'.2.2.1 = c.2.2.1 + 1 ∧ c.2.1 ≤ c'.2.1 ∧ (∀ i : Nat, i < c.2.1 → c'.1 i = c.1 i) ∧ (∀ i : Nat, i < c.2.2.1 → c'.2.2.2.1 i = c.2.2.2.1 i) ∧ (c'.2.2.2.1 c.2.2.1 0 = f0 ∧ c'.2.2.2.1 c.2.2.1 2 = f2 ∧ c'.2.2.2.1 c.2.2.1 3 = f3 ∧ c'.2.2.2.1 c.2.2.1 4 = f4 ∧ c'.2.2.2.1 c.2.2.1 5 = f5 ∧ c'.2.2.2.1 c.2.2.1 6 = f6 ∧ c'.2.2.2.1 c.2.2.1 7 = f7 ∧ c'.2.2.2.1 c.2.2.1 8 = nI 0) ∧ c'.2.2.2.2 = c.2.2.2.2 ∧ (∀ i : Nat, i < c.2.1 → ∀ q : Nat, c.1 i + 1 ≤ q → q < c.1 i + 403 → h' q = h q) ∧ ∀ k : Nat, k < c'.2.1 → c.2.1 ≤ k → ∃ wd : Nat, tbi ids h' (c'.1 k + 1) wd)
theorem cl_ad.mk {ids : Nat → ClassId} {h h1 h2 : rl_H} {x mk : Nat} {s : cl_S} {c : cl_N} {na : Nat → Nat} {N : Nat → Nat → Int32} {a b d e f0 f2 f3 : Int32} (hlt : c.2.2.1 < mk) (A : cl_at ids h1 x s (na, mk, c.2.2.1, N, c.2.2.2.2.1, c.2.2.2.2.2)) (d2 : ∀ q : Nat, q ≠ na c.2.2.1 → x + 70 ≤ q → h2 q = h1 q) (o2 : ∀ i : Nat, i < c.2.2.1 → N i = c.2.2.2.1 i) (g0 : N c.2.2.1 0 = f0) (g2 : N c.2.2.1 2 = f2) (g3 : N c.2.2.1 3 = f3) (g8 : N c.2.2.1 8 = nI 0) (o4 : c.2.1 ≤ mk) (o5 : ∀ i : Nat, i < c.2.1 → na i = c.1 i) (o6 : ∀ i : Nat, i < c.2.1 → ∀ q : Nat, c.1 i + 1 ≤ q → q < c.1 i + 403 → h1 q = h q) (o7 : ∀ k : Nat, k < mk → c.2.1 ≤ k → tbi ids h1 (na k + 1) 0) : cl_ad ids h h2 c (na, mk, c.2.2.1 + 1, cl_dt N c.2.2.1 a b d e, c.2.2.2.2.1, c.2.2.2.2.2) f0 f2 f3 a b d e := by
  have c15 : ∀ i j : Nat, i < j → j < mk → na i + 403 ≤ na j := A.2.2.2.2.2.2.2.2.2.2.2.2
  have c14 : ∀ k : Nat, k < mk → x + 70 ≤ na k := A.2.2.2.2.2.2.2.2.2.2.2.1
  have sep : ∀ k : Nat, k < mk → ∀ q : Nat, na k + 1 ≤ q → q < na k + 403 → q ≠ na c.2.2.1 := fun k hk q q1 q2 => by
    rcases Nat.lt_trichotomy k c.2.2.1 with u | u | u
    · have := c15 k _ u hlt
      omega
    · subst u
      omega
    · have := c15 _ k u hk
      omega
  refine Or.inr ⟨rfl, o4, o5, fun i hi => (funext (fun f => if_neg (by omega))).trans (o2 i hi), ⟨(if_pos rfl).trans g0, (if_pos rfl).trans g2, (if_pos rfl).trans g3, if_pos rfl, if_pos rfl, if_pos rfl, if_pos rfl, (if_pos rfl).trans g8⟩, rfl, fun i hi q q1 q2 => ?_, fun k hk g => ?_⟩
  · have e := o5 i hi
    have y := c14 i (by omega)
    exact (d2 q (sep i (by omega) q (by omega) (by omega)) (by omega)).trans (o6 i hi q q1 q2)
  · obtain ⟨sz, P, S, t, hP⟩ := o7 k hk g
    have hk : k < mk := hk
    have y := c14 k hk
    exact ⟨0, sz, P, S, t.eqv (fun q q1 q2 => by
      have q1 : na k + 1 ≤ q := q1
      have q2 : q < na k + 1 + 402 := q2
      exact d2 q (sep k hk q q1 (by omega)) (by omega)), hP⟩

set_option maxHeartbeats 4000000 in
set_option maxRecDepth 100000 in
theorem cg_X7_scan (l : Launch) (D : va_G) (ids : Nat → ClassId) (H0 : Heap) (h : rl_H) (n : Nat) (x L : Nat) (s : cl_S) (c : cl_N) (z : sh_S) (q : Int32) (hk : cl_ok ids h n x L s c) (hR : sh_R s c z) : rl_Met l (rl_e D ids H0) rl_BW rl_Ns yX7_scan cX7_scan 2 (some .int) ({ frames := 5, cells := 403, slots := 2892, locals := 102 }) [.ref x, .int q] h n (fun v h' n' => ∃ (r : Int32) (c' : cl_N), v = some (.int r) ∧ n ≤ n' ∧ n' ≤ n + 403 ∧ cl_ok ids h' n' x L s c' ∧ sh_R s c' (sh_scan z q).2 ∧ r = (sh_scan z q).1 ∧ cl_fr h h' x L ∧ cl_ad ids h h' c c' (nI 0) (-1) (-1) (-1) (-1) (nI 0) q) := by
  obtain ⟨hc, k2, k3, k4, k5, k6, k7⟩ := id hk
  obtain ⟨c1, c2, c3, ⟨pn, c4, c5⟩, ⟨pt, c6, c7⟩, c8, c9, c10, c11, c12, c13, c14, c15⟩ := id hc
  obtain ⟨s1, s2, s3, s4, s5, s6, s7⟩ := id c2
  refine rl_Met.of (by decide +kernel) (Nat.le_of_ble_eq_true rfl) ?_
  intro X hC hB
  show rl_G X (rl_e D ids H0) 0 [some (.ref x), some (.int q)] [] h n 0 0
  refine o_aload_n hC dX7_scan_0 (by rfl) ?_
  refine o_getf hC (fX7_10 hC rfl) dX7_scan_1 (by repeat (first | with_reducible assumption | (rw [rl_u_s]; done) | (rw [rl_u_s]; rfl) | rw [rl_u_n (by first | with_reducible assumption | omega)])) (by first | rfl | with_reducible assumption) ?_
  refine o_iload_n hC dX7_scan_4 (by rfl) ?_
  refine o_callV1 hC rl_BW_good rl_Ns_nw (by exact hB.2.2.2.2.2) YX3_isSource IX3_isSource VX3_isSource (mX7_60 hC) (by rw [hB.1]; exact ct_X3_isSource l D ids H0 _ _ (x + 1) _ _ _ _ _ _ c2) (by exact c2.1) rfl rfl (Nat.le_of_ble_eq_true rfl) (by rw [hB.2.1]; first | exact Nat.le_of_ble_eq_true rfl | (dsimp only; omega)) (by rw [hB.2.1]; first | exact Nat.le_of_ble_eq_true rfl | (dsimp only; omega)) (by rw [hB.2.1]; first | exact Nat.le_of_ble_eq_true rfl | (dsimp only; omega)) (by rw [hB.2.1]; first | exact Nat.le_of_ble_eq_true rfl | (dsimp only; omega)) dX7_scan_5 (fun v h_5 n_5 p_5 => ?_)
  obtain ⟨rfl, rfl, rfl⟩ := p_5
  try dsimp only [Option.toList, List.cons_append, List.nil_append]
  by_cases hr : q < 0 ∨ nI s.2.2.2.1 ≤ q
  · rw [if_pos hr]
    refine o_if_ne (tgt := 13) hC dX7_scan_8 (by decide) (fun c_8 => ?_) (fun c_8 => ?_)
    · exact absurd rfl c_8
    · refine o_iconst (v := (-1 : Int32)) hC dX7_scan_11 (by decide +kernel) ?_
      refine o_iret hC hB dX7_scan_12 (Nat.le_of_ble_eq_true rfl) (Nat.le_of_ble_eq_true rfl) ?_
      (have e : sh_scan z q = (-1, z) := if_pos (by rw [← hR.1]; exact hr); exact ⟨_, c, rfl, Nat.le_refl _, by omega, hk, (by rw [e]; exact hR), (by rw [e]), cl_fr.rf, Or.inl ⟨rfl, rfl⟩⟩)
  · rw [if_neg hr]
    obtain ⟨j, hj, rfl⟩ := nI_of_lt (by omega) (fun w => hr (Or.inl w)) (fun w => hr (Or.inr w))
    obtain ⟨w, w1, w2, w3⟩ := k5 j hj
    have en : ¬ (nI j < 0 ∨ nI z.1 ≤ nI j) := by rw [← hR.1]; exact hr
    refine o_if_ne (tgt := 13) hC dX7_scan_8 (by decide) (fun c_8 => ?_) (fun c_8 => ?_)
    · refine o_aload_n hC dX7_scan_13 (by rfl) ?_
      refine o_getf hC (fX7_78 hC rfl) dX7_scan_14 (by repeat (first | with_reducible assumption | (rw [rl_u_s]; done) | (rw [rl_u_s]; rfl) | rw [rl_u_n (by first | with_reducible assumption | omega)])) (by first | rfl | with_reducible assumption) ?_
      refine o_bipush (v := nI 16) hC dX7_scan_17 (by decide +kernel) ?_
      refine o_icmp_lt (tgt := 25) hC dX7_scan_19 (by decide) (fun c_19 => ?_) (fun c_19 => ?_)
      · have h16 : c.2.2.1 < 16 := by
          rcases Nat.lt_or_ge c.2.2.1 16 with w | w
          · exact w
          · exact absurd c_19 (nI_nlt w (by omega))
        refine o_aload_n hC dX7_scan_25 (by rfl) ?_
        refine o_iconst (v := nI 0) hC dX7_scan_26 (by decide +kernel) ?_
        refine o_aload_n hC dX7_scan_27 (by rfl) ?_
        refine o_getf hC (fX7_10 hC rfl) dX7_scan_28 (by repeat (first | with_reducible assumption | (rw [rl_u_s]; done) | (rw [rl_u_s]; rfl) | rw [rl_u_n (by first | with_reducible assumption | omega)])) (by first | rfl | with_reducible assumption) ?_
        refine o_getf hC (fX7_81 hC rfl) dX7_scan_31 (by repeat (first | with_reducible assumption | (rw [rl_u_s]; done) | (rw [rl_u_s]; rfl) | rw [rl_u_n (by first | with_reducible assumption | omega)])) (by first | rfl | with_reducible assumption) ?_
        refine o_iload_n hC dX7_scan_34 (by rfl) ?_
        refine o_ialdN (t0 := 0) (k := j) hC rfl dX7_scan_35 s2 (by omega) (by decide) ?_
        refine o_iconst (v := (-1 : Int32)) hC dX7_scan_36 (by decide +kernel) ?_
        refine o_iconst (v := (-1 : Int32)) hC dX7_scan_37 (by decide +kernel) ?_
        refine o_callV4 hC rl_BW_good rl_Ns_nw (by exact hB.2.2.2.2.2) YX7_openNode IX7_openNode VX7_openNode (mX7_85 hC) (by rw [hB.1]; exact cg_X7_openNode l D ids H0 _ _ x L s c _ _ _ _ hk h16) (by exact c1) rfl rfl (Nat.le_of_ble_eq_true rfl) (by rw [hB.2.1]; first | exact Nat.le_of_ble_eq_true rfl | (dsimp only; omega)) (by rw [hB.2.1]; first | exact Nat.le_of_ble_eq_true rfl | (dsimp only; omega)) (by rw [hB.2.1]; first | exact Nat.le_of_ble_eq_true rfl | (dsimp only; omega)) (by rw [hB.2.1]; first | exact Nat.le_of_ble_eq_true rfl | (dsimp only; omega)) dX7_scan_38 (fun v h_38 n_38 p_38 => ?_)
        obtain ⟨na, mk, N, rfl, n1, n2, hlt, o1, o2, g0, g1, g2, g3, g8, of, o4, o5, o6, o7⟩ := p_38
        have m2 : h_38 (na c.2.2.1) = some (cl_nd N c.2.2.1) := o1.1.2.2.2.2.2.2.2.2.2.1 _ hlt
        unfold cl_nd at m2
        have zz : x + 70 ≤ na c.2.2.1 := o1.1.2.2.2.2.2.2.2.2.2.2.2.1 _ hlt
        try dsimp only [Option.toList, List.cons_append, List.nil_append]
        refine o_iconst (v := (-1 : Int32)) hC dX7_scan_41 (by decide +kernel) ?_
        refine o_iconst (v := (-1 : Int32)) hC dX7_scan_42 (by decide +kernel) ?_
        refine o_iconst (v := nI 0) hC dX7_scan_43 (by decide +kernel) ?_
        refine o_iload_n hC dX7_scan_44 (by rfl) ?_
        refine o_callV4 hC rl_BW_good rl_Ns_nw (by exact hB.2.2.2.2.2) YX1_detail IX1_detail VX1_detail (mX7_89 hC) (by rw [hB.1]; exact ct_X1_detail l D ids H0 _ _ (na c.2.2.1) _ _ _ _ _ _ _ _ _ _ _ _ _ m2) (by exact m2) rfl rfl (Nat.le_of_ble_eq_true rfl) (by rw [hB.2.1]; first | exact Nat.le_of_ble_eq_true rfl | (dsimp only; omega)) (by rw [hB.2.1]; first | exact Nat.le_of_ble_eq_true rfl | (dsimp only; omega)) (by rw [hB.2.1]; first | exact Nat.le_of_ble_eq_true rfl | (dsimp only; omega)) (by rw [hB.2.1]; first | exact Nat.le_of_ble_eq_true rfl | (dsimp only; omega)) dX7_scan_45 (fun v h_45 n_45 p_45 => ?_)
        obtain ⟨rfl, rfl, d1, d2⟩ := p_45
        have e1 := (d2 x (by omega)).trans o1.1.1
        try dsimp only [Option.toList, List.cons_append, List.nil_append]
        refine o_aload_n hC dX7_scan_48 (by rfl) ?_
        refine o_dup hC dX7_scan_49 rfl ?_
        refine o_getf hC (fX7_78 hC rfl) dX7_scan_50 (by repeat (first | with_reducible assumption | (rw [rl_u_s]; done) | (rw [rl_u_s]; rfl) | rw [rl_u_n (by first | with_reducible assumption | omega)])) (by first | rfl | with_reducible assumption) ?_
        refine o_dup_x1 hC dX7_scan_53 rfl rfl ?_
        refine o_iconst (v := nI 1) hC dX7_scan_54 (by decide +kernel) ?_
        refine o_iadd hC dX7_scan_55 ?_
        rw [nI_add c.2.2.1 1]
        refine o_putf hC (fX7_78 hC rfl) (fwX7 rfl rfl rfl (Or.inl rfl)) dX7_scan_56 (by repeat (first | with_reducible assumption | (rw [rl_u_s]; done) | (rw [rl_u_s]; rfl) | rw [rl_u_n (by first | with_reducible assumption | omega)])) (Nat.le_of_ble_eq_true rfl) ?_
        try simp only [List.set_cons_zero, List.set_cons_succ]
        refine o_iret hC hB dX7_scan_59 (Nat.le_of_ble_eq_true rfl) (Nat.le_of_ble_eq_true rfl) ?_
        (obtain ⟨r1, r2⟩ := o1.add hlt d1 d2 g8 (cl_cv.new (op := 0) (w := w) (w1 := 0) (w2 := 0) g0 g1 g2 g3 rfl w3 w1 ⟨by decide, by omega, fun q => absurd q (by decide), fun q => absurd q (by decide), fun q => absurd q (by decide), fun q => absurd q (by decide)⟩ (Or.inl rfl) (Or.inl rfl) (fun q => absurd q (by decide)) (fun q => absurd q (by decide))); obtain ⟨r3, r4⟩ := hR.add (na := na) (mk := mk) h16 o2 g1; have e : sh_scan z (nI j) = sh_node z _ := (if_neg en).trans (congrArg (sh_node z) (by rw [rl_cl (N := 4) (by omega) (by decide), ← hR.2.1])); exact ⟨_, _, rfl, n1, n2, r1, (by rw [e]; exact r3), (by rw [e]; exact r4.symm), of.tr r2, cl_ad.mk hlt o1.1 (fun q a b => (rl_u_n (by omega)).trans (d2 q a)) o2 g0 g2 g3 g8 o4 o5 o6 o7⟩)
      · refine o_bipush (v := (-4 : Int32)) hC dX7_scan_22 (by decide +kernel) ?_
        refine o_iret hC hB dX7_scan_24 (Nat.le_of_ble_eq_true rfl) (Nat.le_of_ble_eq_true rfl) ?_
        (have e : sh_scan z (nI j) = (-4, z) := (if_neg en).trans (sh_node_n (fun w => c_19 (by rw [hR.2.2.2.1]; exact nI_lt w (by decide)))); exact ⟨_, c, rfl, Nat.le_refl _, by omega, hk, (by rw [e]; exact hR), (by rw [e]), cl_fr.rf, Or.inl ⟨rfl, rfl⟩⟩)
    · exact absurd c_8 (by decide +kernel)
end
section
/-! RowLineage in every state: pick, join, unite, minus, fold, cols -/

theorem sh_R.nkz {ids : Nat → ClassId} {h : rl_H} {n x L : Nat} {s : cl_S} {c : cl_N} {z : sh_S} (H : cl_ok ids h n x L s c) (R : sh_R s c z) {q k r : Int32} (hz : (r = nI 0 ∧ ¬ ∃ j : Nat, j < c.2.2.1 ∧ q = nI j ∧ ¬ k < 0 ∧ ¬ c.2.2.2.1 j 1 ≤ k) ∨ (r = nI 1 ∧ ∃ j : Nat, j < c.2.2.1 ∧ q = nI j ∧ ¬ k < 0 ∧ ¬ c.2.2.2.1 j 1 ≤ k)) : (r = nI 0 ∧ sh_nk z q k) ∨ (r = nI 1 ∧ ¬ sh_nk z q k) :=
  hz.imp (fun a => ⟨a.1, Decidable.not_not.mp (fun w => a.2 ((sh_R.nk H R).mpr w))⟩) (fun a => ⟨a.1, (sh_R.nk H R).mp a.2⟩)
theorem sh_R.nnz {ids : Nat → ClassId} {h : rl_H} {n x L : Nat} {s : cl_S} {c : cl_N} {z : sh_S} (H : cl_ok ids h n x L s c) (R : sh_R s c z) {q r : Int32} (hz : (r = nI 0 ∧ ¬ ∃ j : Nat, j < c.2.2.1 ∧ q = nI j) ∨ (r = nI 1 ∧ ∃ j : Nat, j < c.2.2.1 ∧ q = nI j)) : (r = nI 0 ∧ sh_nn z q) ∨ (r = nI 1 ∧ ¬ sh_nn z q) :=
  hz.imp (fun a => ⟨a.1, Decidable.not_not.mp (fun w => a.2 ((sh_R.nn H R).mpr w))⟩) (fun a => ⟨a.1, (sh_R.nn H R).mp a.2⟩)
theorem sh_R.co {ids : Nat → ClassId} {h : rl_H} {n x L : Nat} {s : cl_S} {c : cl_N} {z : sh_S} (H : cl_ok ids h n x L s c) (R : sh_R s c z) {q k : Int32} (hz : ¬ sh_nk z q k) : ∃ k' : Nat, k' < 6 ∧ k = nI k' := by
  obtain ⟨j, hj, -, a1, a2⟩ := (sh_R.nk H R).mpr hz
  obtain ⟨w, -, w6, w7⟩ := cl_wd H hj
  obtain ⟨c5, h5, e5⟩ := nI_of_lt (k := w) (by omega) a1 (by rw [← w7]; exact a2)
  exact ⟨c5, by omega, e5⟩
theorem sh_R.nd {ids : Nat → ClassId} {h : rl_H} {n x L : Nat} {s : cl_S} {c : cl_N} {z : sh_S} (H : cl_ok ids h n x L s c) (R : sh_R s c z) {q : Int32} (hz : ¬ sh_nn z q) : ∃ j w : Nat, j < c.2.2.1 ∧ q = nI j ∧ 1 ≤ w ∧ w ≤ 6 ∧ c.2.2.2.1 j 1 = nI w ∧ sh_w z (nI j) = nI w ∧ h (c.1 j) = some (cl_nd c.2.2.2.1 j) := by
  obtain ⟨j, hj, e⟩ := (sh_R.nn H R).mpr hz
  obtain ⟨w, w1, w2, w3⟩ := cl_wd H hj
  exact ⟨j, w, hj, e, w1, w2, w3, (sh_R.w H R hj).trans w3, H.1.2.2.2.2.2.2.2.2.2.1 _ (Nat.lt_of_lt_of_le hj (cl_nc H).1)⟩

set_option maxHeartbeats 4000000 in
set_option maxRecDepth 100000 in
theorem cg_X7_pick (l : Launch) (D : va_G) (ids : Nat → ClassId) (H0 : Heap) (h : rl_H) (n : Nat) (x L : Nat) (s : cl_S) (c : cl_N) (z : sh_S) (q kk sg ot vv : Int32) (hk : cl_ok ids h n x L s c) (hR : sh_R s c z) : rl_Met l (rl_e D ids H0) rl_BW rl_Ns yX7_pick cX7_pick 6 (some .int) ({ frames := 5, cells := 403, slots := 2892, locals := 102 }) [.ref x, .int q, .int kk, .int sg, .int ot, .int vv] h n (fun v h' n' => ∃ (r : Int32) (c' : cl_N), v = some (.int r) ∧ n ≤ n' ∧ n' ≤ n + 403 ∧ cl_ok ids h' n' x L s c' ∧ sh_R s c' (sh_pick z q kk sg ot).2 ∧ r = (sh_pick z q kk sg ot).1 ∧ cl_fr h h' x L ∧ cl_ad ids h h' c c' (nI 1) q (-1) kk ot sg vv) := by
  obtain ⟨hc, k2, k3, k4, k5, k6, k7⟩ := id hk
  obtain ⟨c1, c2, c3, ⟨pn, c4, c5⟩, ⟨pt, c6, c7⟩, c8, c9, c10, c11, c12, c13, c14, c15⟩ := id hc
  refine rl_Met.of (by decide +kernel) (Nat.le_of_ble_eq_true rfl) ?_
  intro X hC hB
  show rl_G X (rl_e D ids H0) 0 [some (.ref x), some (.int q), some (.int kk), some (.int sg), some (.int ot), some (.int vv)] [] h n 0 0
  refine o_aload_n hC dX7_pick_0 (by rfl) ?_
  refine o_iload_n hC dX7_pick_1 (by rfl) ?_
  refine o_iload_n hC dX7_pick_2 (by rfl) ?_
  refine o_callV2 hC rl_BW_good rl_Ns_nw (by exact hB.2.2.2.2.2) YX7_hasColumn IX7_hasColumn VX7_hasColumn (mX7_93 hC) (by rw [hB.1]; exact cg_X7_hasColumn l D ids H0 _ _ x s c _ _ hc) (by exact c1) rfl rfl (Nat.le_of_ble_eq_true rfl) (by rw [hB.2.1]; first | exact Nat.le_of_ble_eq_true rfl | (dsimp only; omega)) (by rw [hB.2.1]; first | exact Nat.le_of_ble_eq_true rfl | (dsimp only; omega)) (by rw [hB.2.1]; first | exact Nat.le_of_ble_eq_true rfl | (dsimp only; omega)) (by rw [hB.2.1]; first | exact Nat.le_of_ble_eq_true rfl | (dsimp only; omega)) dX7_pick_3 (fun v h_3 n_3 p_3 => ?_)
  obtain ⟨z3, rfl, rfl, rfl, hz3⟩ := p_3
  replace hz3 := sh_R.nkz hk hR hz3
  try dsimp only [Option.toList, List.cons_append, List.nil_append]
  refine o_if_eq (tgt := 25) hC dX7_pick_6 (by decide) (fun c_6 => ?_) (fun c_6 => ?_)
  · refine o_iconst (v := (-1 : Int32)) hC dX7_pick_25 (by decide +kernel) ?_
    refine o_iret hC hB dX7_pick_26 (Nat.le_of_ble_eq_true rfl) (Nat.le_of_ble_eq_true rfl) ?_
    first
    | (have e : sh_pick z q kk sg ot = (-1, z) := if_pos (Or.inl (hz3.elim (fun a => a.2) (fun a => absurd (c_6.symm.trans a.1) (by decide +kernel)))); exact ⟨_, c, rfl, Nat.le_refl _, by omega, hk, (by rw [e]; exact hR), (by rw [e]), cl_fr.rf, Or.inl ⟨rfl, rfl⟩⟩)
    | (have e : sh_pick z q kk sg ot = (-1, z) := if_pos (Or.inr ⟨c_12, (hz19.elim (fun a => a.2) (fun a => absurd (c_22.symm.trans a.1) (by decide +kernel)))⟩); exact ⟨_, c, rfl, Nat.le_refl _, by omega, hk, (by rw [e]; exact hR), (by rw [e]), cl_fr.rf, Or.inl ⟨rfl, rfl⟩⟩)
  · refine o_iload hC dX7_pick_9 (by rfl) ?_
    refine o_iconst (v := (-1 : Int32)) hC dX7_pick_11 (by decide +kernel) ?_
    refine o_icmp_eq (tgt := 27) hC dX7_pick_12 (by decide) (fun c_12 => ?_) (fun c_12 => ?_)
    · have nk : ¬ (sh_nk z q kk ∨ (ot ≠ -1 ∧ sh_nk z q ot)) := by
        first
        | exact fun w => w.elim (hz3.elim (fun a => absurd a.1 c_6) (fun a => a.2)) (fun w => w.1 c_12)
        | exact fun w => w.elim (hz3.elim (fun a => absurd a.1 c_6) (fun a => a.2)) (fun w => (hz19.elim (fun a => absurd a.1 c_22) (fun a => a.2)) w.2)
      refine o_iload_n hC dX7_pick_27 (by rfl) ?_
      refine o_if_lt (tgt := 36) hC dX7_pick_28 (by decide) (fun c_28 => ?_) (fun c_28 => ?_)
      · refine o_bipush (v := (-2 : Int32)) hC dX7_pick_36 (by decide +kernel) ?_
        refine o_iret hC hB dX7_pick_38 (Nat.le_of_ble_eq_true rfl) (Nat.le_of_ble_eq_true rfl) ?_
        first
        | (have e : sh_pick z q kk sg ot = (-2, z) := (if_neg nk).trans (if_pos (Or.inl c_28)); exact ⟨_, c, rfl, Nat.le_refl _, by omega, hk, (by rw [e]; exact hR), (by rw [e]), cl_fr.rf, Or.inl ⟨rfl, rfl⟩⟩)
        | (have e : sh_pick z q kk sg ot = (-2, z) := (if_neg nk).trans (if_pos (Or.inr c_33)); exact ⟨_, c, rfl, Nat.le_refl _, by omega, hk, (by rw [e]; exact hR), (by rw [e]), cl_fr.rf, Or.inl ⟨rfl, rfl⟩⟩)
      · refine o_iload_n hC dX7_pick_31 (by rfl) ?_
        refine o_iconst (v := nI 2) hC dX7_pick_32 (by decide +kernel) ?_
        refine o_icmp_le (tgt := 39) hC dX7_pick_33 (by decide) (fun c_33 => ?_) (fun c_33 => ?_)
        · obtain ⟨c9, hc9, rfl⟩ := sh_R.co hk hR (fun w => nk (Or.inl w))
          have hot : ot = -1 ∨ ∃ c5 : Nat, c5 < 6 ∧ ot = nI c5 := by
            by_cases eo : ot = -1
            · exact Or.inl eo
            · exact Or.inr (sh_R.co hk hR (fun w => nk (Or.inr ⟨eo, w⟩)))
          obtain ⟨kd, hkd, rfl⟩ := nI_of2 (M := nI 2) (nI_toInt (by decide)) c_28 c_33
          obtain ⟨j, w, hj, rfl, w1, w2, w3, w4, m1⟩ := sh_R.nd hk hR (fun w => nk (Or.inl (Or.inl w)))
          unfold cl_nd at m1
          refine o_aload_n hC dX7_pick_39 (by rfl) ?_
          refine o_getf hC (fX7_78 hC rfl) dX7_pick_40 (by repeat (first | with_reducible assumption | (rw [rl_u_s]; done) | (rw [rl_u_s]; rfl) | rw [rl_u_n (by first | with_reducible assumption | omega)])) (by first | rfl | with_reducible assumption) ?_
          refine o_bipush (v := nI 16) hC dX7_pick_43 (by decide +kernel) ?_
          refine o_icmp_lt (tgt := 51) hC dX7_pick_45 (by decide) (fun c_45 => ?_) (fun c_45 => ?_)
          · have h16 : c.2.2.1 < 16 := by
              rcases Nat.lt_or_ge c.2.2.1 16 with w | w
              · exact w
              · exact absurd c_45 (nI_nlt w (by omega))
            refine o_aload_n hC dX7_pick_51 (by rfl) ?_
            refine o_iconst (v := nI 1) hC dX7_pick_52 (by decide +kernel) ?_
            refine o_aload_n hC dX7_pick_53 (by rfl) ?_
            refine o_getf hC (fX7_25 hC rfl) dX7_pick_54 (by repeat (first | with_reducible assumption | (rw [rl_u_s]; done) | (rw [rl_u_s]; rfl) | rw [rl_u_n (by first | with_reducible assumption | omega)])) (by first | rfl | with_reducible assumption) ?_
            refine o_iload_n hC dX7_pick_57 (by rfl) ?_
            refine o_aaldN (t0 := 5) (k := j) hC rfl dX7_pick_58 c4 (by omega) (by decide) ?_
            rw [c5 _ (by omega), if_pos (by omega)]
            show rl_G X _ _ _ (.ref _ :: _) _ _ _ _
            refine o_getf hC (fX7_97 hC rfl) dX7_pick_59 (by repeat (first | with_reducible assumption | (rw [rl_u_s]; done) | (rw [rl_u_s]; rfl) | rw [rl_u_n (by first | with_reducible assumption | omega)])) (by first | rfl | with_reducible assumption) ?_
            refine o_iload_n hC dX7_pick_62 (by rfl) ?_
            refine o_iconst (v := (-1 : Int32)) hC dX7_pick_63 (by decide +kernel) ?_
            refine o_callV4 hC rl_BW_good rl_Ns_nw (by exact hB.2.2.2.2.2) YX7_openNode IX7_openNode VX7_openNode (mX7_85 hC) (by rw [hB.1]; exact cg_X7_openNode l D ids H0 _ _ x L s c _ _ _ _ hk h16) (by exact c1) rfl rfl (Nat.le_of_ble_eq_true rfl) (by rw [hB.2.1]; first | exact Nat.le_of_ble_eq_true rfl | (dsimp only; omega)) (by rw [hB.2.1]; first | exact Nat.le_of_ble_eq_true rfl | (dsimp only; omega)) (by rw [hB.2.1]; first | exact Nat.le_of_ble_eq_true rfl | (dsimp only; omega)) (by rw [hB.2.1]; first | exact Nat.le_of_ble_eq_true rfl | (dsimp only; omega)) dX7_pick_64 (fun v h_64 n_64 p_64 => ?_)
            obtain ⟨na, mk, N, rfl, n1, n2, hlt, o1, o2, g0, g1, g2, g3, g8, of, o4, o5, o6, o7⟩ := p_64
            have m2 : h_64 (na c.2.2.1) = some (cl_nd N c.2.2.1) := o1.1.2.2.2.2.2.2.2.2.2.1 _ hlt
            unfold cl_nd at m2
            have zz : x + 70 ≤ na c.2.2.1 := o1.1.2.2.2.2.2.2.2.2.2.2.2.1 _ hlt
            try dsimp only [Option.toList, List.cons_append, List.nil_append]
            refine o_iload_n hC dX7_pick_67 (by rfl) ?_
            refine o_iload hC dX7_pick_68 (by rfl) ?_
            refine o_iload_n hC dX7_pick_70 (by rfl) ?_
            refine o_iload hC dX7_pick_71 (by rfl) ?_
            refine o_callV4 hC rl_BW_good rl_Ns_nw (by exact hB.2.2.2.2.2) YX1_detail IX1_detail VX1_detail (mX7_89 hC) (by rw [hB.1]; exact ct_X1_detail l D ids H0 _ _ (na c.2.2.1) _ _ _ _ _ _ _ _ _ _ _ _ _ m2) (by exact m2) rfl rfl (Nat.le_of_ble_eq_true rfl) (by rw [hB.2.1]; first | exact Nat.le_of_ble_eq_true rfl | (dsimp only; omega)) (by rw [hB.2.1]; first | exact Nat.le_of_ble_eq_true rfl | (dsimp only; omega)) (by rw [hB.2.1]; first | exact Nat.le_of_ble_eq_true rfl | (dsimp only; omega)) (by rw [hB.2.1]; first | exact Nat.le_of_ble_eq_true rfl | (dsimp only; omega)) dX7_pick_73 (fun v h_73 n_73 p_73 => ?_)
            obtain ⟨rfl, rfl, d1, d2⟩ := p_73
            have e1 := (d2 x (by omega)).trans o1.1.1
            try dsimp only [Option.toList, List.cons_append, List.nil_append]
            refine o_aload_n hC dX7_pick_76 (by rfl) ?_
            refine o_dup hC dX7_pick_77 rfl ?_
            refine o_getf hC (fX7_78 hC rfl) dX7_pick_78 (by repeat (first | with_reducible assumption | (rw [rl_u_s]; done) | (rw [rl_u_s]; rfl) | rw [rl_u_n (by first | with_reducible assumption | omega)])) (by first | rfl | with_reducible assumption) ?_
            refine o_dup_x1 hC dX7_pick_81 rfl rfl ?_
            refine o_iconst (v := nI 1) hC dX7_pick_82 (by decide +kernel) ?_
            refine o_iadd hC dX7_pick_83 ?_
            rw [nI_add c.2.2.1 1]
            refine o_putf hC (fX7_78 hC rfl) (fwX7 rfl rfl rfl (Or.inl rfl)) dX7_pick_84 (by repeat (first | with_reducible assumption | (rw [rl_u_s]; done) | (rw [rl_u_s]; rfl) | rw [rl_u_n (by first | with_reducible assumption | omega)])) (Nat.le_of_ble_eq_true rfl) ?_
            try simp only [List.set_cons_zero, List.set_cons_succ]
            refine o_iret hC hB dX7_pick_87 (Nat.le_of_ble_eq_true rfl) (Nat.le_of_ble_eq_true rfl) ?_
            (obtain ⟨r1, r2⟩ := o1.add hlt d1 d2 g8 (cl_cv.new (op := 1) (w := w) (w1 := w) (w2 := 0) g0 g1 g2 g3 rfl w3 w1 ⟨by decide, w2, fun _ => ⟨⟨c9, hc9, rfl⟩, hot, ⟨kd, hkd, rfl⟩⟩, fun q => absurd q (by decide), fun q => absurd q (by decide), fun q => absurd q (by decide)⟩ (Or.inr ⟨j, hj, rfl⟩) (Or.inl rfl) (fun _ => ⟨j, hj, rfl, by rw [o2 j hj]; exact ⟨w3, w2⟩⟩) (fun q => absurd q (by decide))); obtain ⟨r3, r4⟩ := hR.add (na := na) (mk := mk) h16 o2 g1; have e : sh_pick z (nI j) (nI c9) (nI kd) ot = sh_node z _ := ((if_neg nk).trans (if_neg (fun w => w.elim c_28 (fun w => w c_33)))).trans (congrArg (sh_node z) (w4.trans w3.symm)); exact ⟨_, _, rfl, n1, n2, r1, (by rw [e]; exact r3), (by rw [e]; exact r4.symm), of.tr r2, cl_ad.mk hlt o1.1 (fun q a b => (rl_u_n (by omega)).trans (d2 q a)) o2 g0 g2 g3 g8 o4 o5 o6 o7⟩)
          · refine o_bipush (v := (-4 : Int32)) hC dX7_pick_48 (by decide +kernel) ?_
            refine o_iret hC hB dX7_pick_50 (Nat.le_of_ble_eq_true rfl) (Nat.le_of_ble_eq_true rfl) ?_
            (have e : sh_pick z (nI j) (nI c9) (nI kd) ot = (-4, z) := ((if_neg nk).trans (if_neg (fun w => w.elim c_28 (fun w => w c_33)))).trans (sh_node_n (fun w => c_45 (by rw [hR.2.2.2.1]; exact nI_lt w (by decide)))); exact ⟨_, c, rfl, Nat.le_refl _, by omega, hk, (by rw [e]; exact hR), (by rw [e]), cl_fr.rf, Or.inl ⟨rfl, rfl⟩⟩)
        · refine o_bipush (v := (-2 : Int32)) hC dX7_pick_36 (by decide +kernel) ?_
          refine o_iret hC hB dX7_pick_38 (Nat.le_of_ble_eq_true rfl) (Nat.le_of_ble_eq_true rfl) ?_
          first
          | (have e : sh_pick z q kk sg ot = (-2, z) := (if_neg nk).trans (if_pos (Or.inl c_28)); exact ⟨_, c, rfl, Nat.le_refl _, by omega, hk, (by rw [e]; exact hR), (by rw [e]), cl_fr.rf, Or.inl ⟨rfl, rfl⟩⟩)
          | (have e : sh_pick z q kk sg ot = (-2, z) := (if_neg nk).trans (if_pos (Or.inr c_33)); exact ⟨_, c, rfl, Nat.le_refl _, by omega, hk, (by rw [e]; exact hR), (by rw [e]), cl_fr.rf, Or.inl ⟨rfl, rfl⟩⟩)
    · refine o_aload_n hC dX7_pick_15 (by rfl) ?_
      refine o_iload_n hC dX7_pick_16 (by rfl) ?_
      refine o_iload hC dX7_pick_17 (by rfl) ?_
      refine o_callV2 hC rl_BW_good rl_Ns_nw (by exact hB.2.2.2.2.2) YX7_hasColumn IX7_hasColumn VX7_hasColumn (mX7_93 hC) (by rw [hB.1]; exact cg_X7_hasColumn l D ids H0 _ _ x s c _ _ hc) (by exact c1) rfl rfl (Nat.le_of_ble_eq_true rfl) (by rw [hB.2.1]; first | exact Nat.le_of_ble_eq_true rfl | (dsimp only; omega)) (by rw [hB.2.1]; first | exact Nat.le_of_ble_eq_true rfl | (dsimp only; omega)) (by rw [hB.2.1]; first | exact Nat.le_of_ble_eq_true rfl | (dsimp only; omega)) (by rw [hB.2.1]; first | exact Nat.le_of_ble_eq_true rfl | (dsimp only; omega)) dX7_pick_19 (fun v h_19 n_19 p_19 => ?_)
      obtain ⟨z19, rfl, rfl, rfl, hz19⟩ := p_19
      replace hz19 := sh_R.nkz hk hR hz19
      try dsimp only [Option.toList, List.cons_append, List.nil_append]
      refine o_if_ne (tgt := 27) hC dX7_pick_22 (by decide) (fun c_22 => ?_) (fun c_22 => ?_)
      · have nk : ¬ (sh_nk z q kk ∨ (ot ≠ -1 ∧ sh_nk z q ot)) := by
          first
          | exact fun w => w.elim (hz3.elim (fun a => absurd a.1 c_6) (fun a => a.2)) (fun w => w.1 c_12)
          | exact fun w => w.elim (hz3.elim (fun a => absurd a.1 c_6) (fun a => a.2)) (fun w => (hz19.elim (fun a => absurd a.1 c_22) (fun a => a.2)) w.2)
        refine o_iload_n hC dX7_pick_27 (by rfl) ?_
        refine o_if_lt (tgt := 36) hC dX7_pick_28 (by decide) (fun c_28 => ?_) (fun c_28 => ?_)
        · refine o_bipush (v := (-2 : Int32)) hC dX7_pick_36 (by decide +kernel) ?_
          refine o_iret hC hB dX7_pick_38 (Nat.le_of_ble_eq_true rfl) (Nat.le_of_ble_eq_true rfl) ?_
          first
          | (have e : sh_pick z q kk sg ot = (-2, z) := (if_neg nk).trans (if_pos (Or.inl c_28)); exact ⟨_, c, rfl, Nat.le_refl _, by omega, hk, (by rw [e]; exact hR), (by rw [e]), cl_fr.rf, Or.inl ⟨rfl, rfl⟩⟩)
          | (have e : sh_pick z q kk sg ot = (-2, z) := (if_neg nk).trans (if_pos (Or.inr c_33)); exact ⟨_, c, rfl, Nat.le_refl _, by omega, hk, (by rw [e]; exact hR), (by rw [e]), cl_fr.rf, Or.inl ⟨rfl, rfl⟩⟩)
        · refine o_iload_n hC dX7_pick_31 (by rfl) ?_
          refine o_iconst (v := nI 2) hC dX7_pick_32 (by decide +kernel) ?_
          refine o_icmp_le (tgt := 39) hC dX7_pick_33 (by decide) (fun c_33 => ?_) (fun c_33 => ?_)
          · obtain ⟨c9, hc9, rfl⟩ := sh_R.co hk hR (fun w => nk (Or.inl w))
            have hot : ot = -1 ∨ ∃ c5 : Nat, c5 < 6 ∧ ot = nI c5 := by
              by_cases eo : ot = -1
              · exact Or.inl eo
              · exact Or.inr (sh_R.co hk hR (fun w => nk (Or.inr ⟨eo, w⟩)))
            obtain ⟨kd, hkd, rfl⟩ := nI_of2 (M := nI 2) (nI_toInt (by decide)) c_28 c_33
            obtain ⟨j, w, hj, rfl, w1, w2, w3, w4, m1⟩ := sh_R.nd hk hR (fun w => nk (Or.inl (Or.inl w)))
            unfold cl_nd at m1
            refine o_aload_n hC dX7_pick_39 (by rfl) ?_
            refine o_getf hC (fX7_78 hC rfl) dX7_pick_40 (by repeat (first | with_reducible assumption | (rw [rl_u_s]; done) | (rw [rl_u_s]; rfl) | rw [rl_u_n (by first | with_reducible assumption | omega)])) (by first | rfl | with_reducible assumption) ?_
            refine o_bipush (v := nI 16) hC dX7_pick_43 (by decide +kernel) ?_
            refine o_icmp_lt (tgt := 51) hC dX7_pick_45 (by decide) (fun c_45 => ?_) (fun c_45 => ?_)
            · have h16 : c.2.2.1 < 16 := by
                rcases Nat.lt_or_ge c.2.2.1 16 with w | w
                · exact w
                · exact absurd c_45 (nI_nlt w (by omega))
              refine o_aload_n hC dX7_pick_51 (by rfl) ?_
              refine o_iconst (v := nI 1) hC dX7_pick_52 (by decide +kernel) ?_
              refine o_aload_n hC dX7_pick_53 (by rfl) ?_
              refine o_getf hC (fX7_25 hC rfl) dX7_pick_54 (by repeat (first | with_reducible assumption | (rw [rl_u_s]; done) | (rw [rl_u_s]; rfl) | rw [rl_u_n (by first | with_reducible assumption | omega)])) (by first | rfl | with_reducible assumption) ?_
              refine o_iload_n hC dX7_pick_57 (by rfl) ?_
              refine o_aaldN (t0 := 5) (k := j) hC rfl dX7_pick_58 c4 (by omega) (by decide) ?_
              rw [c5 _ (by omega), if_pos (by omega)]
              show rl_G X _ _ _ (.ref _ :: _) _ _ _ _
              refine o_getf hC (fX7_97 hC rfl) dX7_pick_59 (by repeat (first | with_reducible assumption | (rw [rl_u_s]; done) | (rw [rl_u_s]; rfl) | rw [rl_u_n (by first | with_reducible assumption | omega)])) (by first | rfl | with_reducible assumption) ?_
              refine o_iload_n hC dX7_pick_62 (by rfl) ?_
              refine o_iconst (v := (-1 : Int32)) hC dX7_pick_63 (by decide +kernel) ?_
              refine o_callV4 hC rl_BW_good rl_Ns_nw (by exact hB.2.2.2.2.2) YX7_openNode IX7_openNode VX7_openNode (mX7_85 hC) (by rw [hB.1]; exact cg_X7_openNode l D ids H0 _ _ x L s c _ _ _ _ hk h16) (by exact c1) rfl rfl (Nat.le_of_ble_eq_true rfl) (by rw [hB.2.1]; first | exact Nat.le_of_ble_eq_true rfl | (dsimp only; omega)) (by rw [hB.2.1]; first | exact Nat.le_of_ble_eq_true rfl | (dsimp only; omega)) (by rw [hB.2.1]; first | exact Nat.le_of_ble_eq_true rfl | (dsimp only; omega)) (by rw [hB.2.1]; first | exact Nat.le_of_ble_eq_true rfl | (dsimp only; omega)) dX7_pick_64 (fun v h_64 n_64 p_64 => ?_)
              obtain ⟨na, mk, N, rfl, n1, n2, hlt, o1, o2, g0, g1, g2, g3, g8, of, o4, o5, o6, o7⟩ := p_64
              have m2 : h_64 (na c.2.2.1) = some (cl_nd N c.2.2.1) := o1.1.2.2.2.2.2.2.2.2.2.1 _ hlt
              unfold cl_nd at m2
              have zz : x + 70 ≤ na c.2.2.1 := o1.1.2.2.2.2.2.2.2.2.2.2.2.1 _ hlt
              try dsimp only [Option.toList, List.cons_append, List.nil_append]
              refine o_iload_n hC dX7_pick_67 (by rfl) ?_
              refine o_iload hC dX7_pick_68 (by rfl) ?_
              refine o_iload_n hC dX7_pick_70 (by rfl) ?_
              refine o_iload hC dX7_pick_71 (by rfl) ?_
              refine o_callV4 hC rl_BW_good rl_Ns_nw (by exact hB.2.2.2.2.2) YX1_detail IX1_detail VX1_detail (mX7_89 hC) (by rw [hB.1]; exact ct_X1_detail l D ids H0 _ _ (na c.2.2.1) _ _ _ _ _ _ _ _ _ _ _ _ _ m2) (by exact m2) rfl rfl (Nat.le_of_ble_eq_true rfl) (by rw [hB.2.1]; first | exact Nat.le_of_ble_eq_true rfl | (dsimp only; omega)) (by rw [hB.2.1]; first | exact Nat.le_of_ble_eq_true rfl | (dsimp only; omega)) (by rw [hB.2.1]; first | exact Nat.le_of_ble_eq_true rfl | (dsimp only; omega)) (by rw [hB.2.1]; first | exact Nat.le_of_ble_eq_true rfl | (dsimp only; omega)) dX7_pick_73 (fun v h_73 n_73 p_73 => ?_)
              obtain ⟨rfl, rfl, d1, d2⟩ := p_73
              have e1 := (d2 x (by omega)).trans o1.1.1
              try dsimp only [Option.toList, List.cons_append, List.nil_append]
              refine o_aload_n hC dX7_pick_76 (by rfl) ?_
              refine o_dup hC dX7_pick_77 rfl ?_
              refine o_getf hC (fX7_78 hC rfl) dX7_pick_78 (by repeat (first | with_reducible assumption | (rw [rl_u_s]; done) | (rw [rl_u_s]; rfl) | rw [rl_u_n (by first | with_reducible assumption | omega)])) (by first | rfl | with_reducible assumption) ?_
              refine o_dup_x1 hC dX7_pick_81 rfl rfl ?_
              refine o_iconst (v := nI 1) hC dX7_pick_82 (by decide +kernel) ?_
              refine o_iadd hC dX7_pick_83 ?_
              rw [nI_add c.2.2.1 1]
              refine o_putf hC (fX7_78 hC rfl) (fwX7 rfl rfl rfl (Or.inl rfl)) dX7_pick_84 (by repeat (first | with_reducible assumption | (rw [rl_u_s]; done) | (rw [rl_u_s]; rfl) | rw [rl_u_n (by first | with_reducible assumption | omega)])) (Nat.le_of_ble_eq_true rfl) ?_
              try simp only [List.set_cons_zero, List.set_cons_succ]
              refine o_iret hC hB dX7_pick_87 (Nat.le_of_ble_eq_true rfl) (Nat.le_of_ble_eq_true rfl) ?_
              (obtain ⟨r1, r2⟩ := o1.add hlt d1 d2 g8 (cl_cv.new (op := 1) (w := w) (w1 := w) (w2 := 0) g0 g1 g2 g3 rfl w3 w1 ⟨by decide, w2, fun _ => ⟨⟨c9, hc9, rfl⟩, hot, ⟨kd, hkd, rfl⟩⟩, fun q => absurd q (by decide), fun q => absurd q (by decide), fun q => absurd q (by decide)⟩ (Or.inr ⟨j, hj, rfl⟩) (Or.inl rfl) (fun _ => ⟨j, hj, rfl, by rw [o2 j hj]; exact ⟨w3, w2⟩⟩) (fun q => absurd q (by decide))); obtain ⟨r3, r4⟩ := hR.add (na := na) (mk := mk) h16 o2 g1; have e : sh_pick z (nI j) (nI c9) (nI kd) ot = sh_node z _ := ((if_neg nk).trans (if_neg (fun w => w.elim c_28 (fun w => w c_33)))).trans (congrArg (sh_node z) (w4.trans w3.symm)); exact ⟨_, _, rfl, n1, n2, r1, (by rw [e]; exact r3), (by rw [e]; exact r4.symm), of.tr r2, cl_ad.mk hlt o1.1 (fun q a b => (rl_u_n (by omega)).trans (d2 q a)) o2 g0 g2 g3 g8 o4 o5 o6 o7⟩)
            · refine o_bipush (v := (-4 : Int32)) hC dX7_pick_48 (by decide +kernel) ?_
              refine o_iret hC hB dX7_pick_50 (Nat.le_of_ble_eq_true rfl) (Nat.le_of_ble_eq_true rfl) ?_
              (have e : sh_pick z (nI j) (nI c9) (nI kd) ot = (-4, z) := ((if_neg nk).trans (if_neg (fun w => w.elim c_28 (fun w => w c_33)))).trans (sh_node_n (fun w => c_45 (by rw [hR.2.2.2.1]; exact nI_lt w (by decide)))); exact ⟨_, c, rfl, Nat.le_refl _, by omega, hk, (by rw [e]; exact hR), (by rw [e]), cl_fr.rf, Or.inl ⟨rfl, rfl⟩⟩)
          · refine o_bipush (v := (-2 : Int32)) hC dX7_pick_36 (by decide +kernel) ?_
            refine o_iret hC hB dX7_pick_38 (Nat.le_of_ble_eq_true rfl) (Nat.le_of_ble_eq_true rfl) ?_
            first
            | (have e : sh_pick z q kk sg ot = (-2, z) := (if_neg nk).trans (if_pos (Or.inl c_28)); exact ⟨_, c, rfl, Nat.le_refl _, by omega, hk, (by rw [e]; exact hR), (by rw [e]), cl_fr.rf, Or.inl ⟨rfl, rfl⟩⟩)
            | (have e : sh_pick z q kk sg ot = (-2, z) := (if_neg nk).trans (if_pos (Or.inr c_33)); exact ⟨_, c, rfl, Nat.le_refl _, by omega, hk, (by rw [e]; exact hR), (by rw [e]), cl_fr.rf, Or.inl ⟨rfl, rfl⟩⟩)
      · refine o_iconst (v := (-1 : Int32)) hC dX7_pick_25 (by decide +kernel) ?_
        refine o_iret hC hB dX7_pick_26 (Nat.le_of_ble_eq_true rfl) (Nat.le_of_ble_eq_true rfl) ?_
        first
        | (have e : sh_pick z q kk sg ot = (-1, z) := if_pos (Or.inl (hz3.elim (fun a => a.2) (fun a => absurd (c_6.symm.trans a.1) (by decide +kernel)))); exact ⟨_, c, rfl, Nat.le_refl _, by omega, hk, (by rw [e]; exact hR), (by rw [e]), cl_fr.rf, Or.inl ⟨rfl, rfl⟩⟩)
        | (have e : sh_pick z q kk sg ot = (-1, z) := if_pos (Or.inr ⟨c_12, (hz19.elim (fun a => a.2) (fun a => absurd (c_22.symm.trans a.1) (by decide +kernel)))⟩); exact ⟨_, c, rfl, Nat.le_refl _, by omega, hk, (by rw [e]; exact hR), (by rw [e]), cl_fr.rf, Or.inl ⟨rfl, rfl⟩⟩)

set_option maxHeartbeats 4000000 in
set_option maxRecDepth 100000 in
theorem cg_X7_join (l : Launch) (D : va_G) (ids : Nat → ClassId) (H0 : Heap) (h : rl_H) (n : Nat) (x L : Nat) (s : cl_S) (c : cl_N) (z : sh_S) (a b i j : Int32) (hk : cl_ok ids h n x L s c) (hR : sh_R s c z) : rl_Met l (rl_e D ids H0) rl_BW rl_Ns yX7_join cX7_join 6 (some .int) ({ frames := 5, cells := 403, slots := 2892, locals := 102 }) [.ref x, .int a, .int b, .int i, .int j] h n (fun v h' n' => ∃ (r : Int32) (c' : cl_N), v = some (.int r) ∧ n ≤ n' ∧ n' ≤ n + 403 ∧ cl_ok ids h' n' x L s c' ∧ sh_R s c' (sh_join z a b i j).2 ∧ r = (sh_join z a b i j).1 ∧ cl_fr h h' x L ∧ cl_ad ids h h' c c' (nI 3) a b i j (nI 0) (nI 0)) := by
  obtain ⟨hc, k2, k3, k4, k5, k6, k7⟩ := id hk
  obtain ⟨c1, c2, c3, ⟨pn, c4, c5⟩, ⟨pt, c6, c7⟩, c8, c9, c10, c11, c12, c13, c14, c15⟩ := id hc
  refine rl_Met.of (by decide +kernel) (Nat.le_of_ble_eq_true rfl) ?_
  intro X hC hB
  show rl_G X (rl_e D ids H0) 0 [some (.ref x), some (.int a), some (.int b), some (.int i), some (.int j), none] [] h n 0 0
  refine o_aload_n hC dX7_join_0 (by rfl) ?_
  refine o_iload_n hC dX7_join_1 (by rfl) ?_
  refine o_iload_n hC dX7_join_2 (by rfl) ?_
  refine o_callV2 hC rl_BW_good rl_Ns_nw (by exact hB.2.2.2.2.2) YX7_hasColumn IX7_hasColumn VX7_hasColumn (mX7_93 hC) (by rw [hB.1]; exact cg_X7_hasColumn l D ids H0 _ _ x s c _ _ hc) (by exact c1) rfl rfl (Nat.le_of_ble_eq_true rfl) (by rw [hB.2.1]; first | exact Nat.le_of_ble_eq_true rfl | (dsimp only; omega)) (by rw [hB.2.1]; first | exact Nat.le_of_ble_eq_true rfl | (dsimp only; omega)) (by rw [hB.2.1]; first | exact Nat.le_of_ble_eq_true rfl | (dsimp only; omega)) (by rw [hB.2.1]; first | exact Nat.le_of_ble_eq_true rfl | (dsimp only; omega)) dX7_join_3 (fun v h_3 n_3 p_3 => ?_)
  obtain ⟨z3, rfl, rfl, rfl, hz3⟩ := p_3
  replace hz3 := sh_R.nkz hk hR hz3
  try dsimp only [Option.toList, List.cons_append, List.nil_append]
  refine o_if_eq (tgt := 19) hC dX7_join_6 (by decide) (fun c_6 => ?_) (fun c_6 => ?_)
  · refine o_iconst (v := (-1 : Int32)) hC dX7_join_19 (by decide +kernel) ?_
    refine o_iret hC hB dX7_join_20 (Nat.le_of_ble_eq_true rfl) (Nat.le_of_ble_eq_true rfl) ?_
    first
    | (have e : sh_join z a b i j = (-1, z) := if_pos (Or.inl (hz3.elim (fun a => a.2) (fun a => absurd (c_6.symm.trans a.1) (by decide +kernel)))); exact ⟨_, c, rfl, Nat.le_refl _, by omega, hk, (by rw [e]; exact hR), (by rw [e]), cl_fr.rf, Or.inl ⟨rfl, rfl⟩⟩)
    | (have e : sh_join z a b i j = (-1, z) := if_pos (Or.inr (hz13.elim (fun a => a.2) (fun a => absurd (c_16.symm.trans a.1) (by decide +kernel)))); exact ⟨_, c, rfl, Nat.le_refl _, by omega, hk, (by rw [e]; exact hR), (by rw [e]), cl_fr.rf, Or.inl ⟨rfl, rfl⟩⟩)
  · refine o_aload_n hC dX7_join_9 (by rfl) ?_
    refine o_iload_n hC dX7_join_10 (by rfl) ?_
    refine o_iload hC dX7_join_11 (by rfl) ?_
    refine o_callV2 hC rl_BW_good rl_Ns_nw (by exact hB.2.2.2.2.2) YX7_hasColumn IX7_hasColumn VX7_hasColumn (mX7_93 hC) (by rw [hB.1]; exact cg_X7_hasColumn l D ids H0 _ _ x s c _ _ hc) (by exact c1) rfl rfl (Nat.le_of_ble_eq_true rfl) (by rw [hB.2.1]; first | exact Nat.le_of_ble_eq_true rfl | (dsimp only; omega)) (by rw [hB.2.1]; first | exact Nat.le_of_ble_eq_true rfl | (dsimp only; omega)) (by rw [hB.2.1]; first | exact Nat.le_of_ble_eq_true rfl | (dsimp only; omega)) (by rw [hB.2.1]; first | exact Nat.le_of_ble_eq_true rfl | (dsimp only; omega)) dX7_join_13 (fun v h_13 n_13 p_13 => ?_)
    obtain ⟨z13, rfl, rfl, rfl, hz13⟩ := p_13
    replace hz13 := sh_R.nkz hk hR hz13
    try dsimp only [Option.toList, List.cons_append, List.nil_append]
    refine o_if_ne (tgt := 21) hC dX7_join_16 (by decide) (fun c_16 => ?_) (fun c_16 => ?_)
    · have nk : ¬ (sh_nk z a i ∨ sh_nk z b j) := fun w => w.elim (hz3.elim (fun a => absurd a.1 c_6) (fun a => a.2)) (hz13.elim (fun a => absurd a.1 c_16) (fun a => a.2))
      obtain ⟨ci, hci, rfl⟩ := sh_R.co hk hR (fun w => nk (Or.inl w))
      obtain ⟨cj, hcj, rfl⟩ := sh_R.co hk hR (fun w => nk (Or.inr w))
      obtain ⟨ja, wa, hja, rfl, w1a, w2a, w3a, w4a, m1a⟩ := sh_R.nd hk hR (fun w => nk (Or.inl (Or.inl w)))
      unfold cl_nd at m1a
      obtain ⟨jb, wb, hjb, rfl, w1b, w2b, w3b, w4b, m1b⟩ := sh_R.nd hk hR (fun w => nk (Or.inr (Or.inl w)))
      unfold cl_nd at m1b
      have ew : sh_w z (nI ja) + sh_w z (nI jb) = nI (wa + wb) := by rw [w4a, w4b, nI_add]
      refine o_aload_n hC dX7_join_21 (by rfl) ?_
      refine o_getf hC (fX7_25 hC rfl) dX7_join_22 (by repeat (first | with_reducible assumption | (rw [rl_u_s]; done) | (rw [rl_u_s]; rfl) | rw [rl_u_n (by first | with_reducible assumption | omega)])) (by first | rfl | with_reducible assumption) ?_
      refine o_iload_n hC dX7_join_25 (by rfl) ?_
      refine o_aaldN (t0 := 5) (k := ja) hC rfl dX7_join_26 c4 (by omega) (by decide) ?_
      rw [c5 _ (by omega), if_pos (by omega)]
      show rl_G X _ _ _ (.ref _ :: _) _ _ _ _
      refine o_getf hC (fX7_97 hC rfl) dX7_join_27 (by repeat (first | with_reducible assumption | (rw [rl_u_s]; done) | (rw [rl_u_s]; rfl) | rw [rl_u_n (by first | with_reducible assumption | omega)])) (by first | rfl | with_reducible assumption) ?_
      refine o_aload_n hC dX7_join_30 (by rfl) ?_
      refine o_getf hC (fX7_25 hC rfl) dX7_join_31 (by repeat (first | with_reducible assumption | (rw [rl_u_s]; done) | (rw [rl_u_s]; rfl) | rw [rl_u_n (by first | with_reducible assumption | omega)])) (by first | rfl | with_reducible assumption) ?_
      refine o_iload_n hC dX7_join_34 (by rfl) ?_
      refine o_aaldN (t0 := 5) (k := jb) hC rfl dX7_join_35 c4 (by omega) (by decide) ?_
      rw [c5 _ (by omega), if_pos (by omega)]
      show rl_G X _ _ _ (.ref _ :: _) _ _ _ _
      refine o_getf hC (fX7_97 hC rfl) dX7_join_36 (by repeat (first | with_reducible assumption | (rw [rl_u_s]; done) | (rw [rl_u_s]; rfl) | rw [rl_u_n (by first | with_reducible assumption | omega)])) (by first | rfl | with_reducible assumption) ?_
      refine o_iadd hC dX7_join_39 ?_
      rw [w3a, w3b, nI_add]
      refine o_istore hC dX7_join_40 (Nat.le_of_ble_eq_true rfl) ?_
      refine o_iload hC dX7_join_42 (by rfl) ?_
      refine o_bipush (v := nI 6) hC dX7_join_44 (by decide +kernel) ?_
      refine o_icmp_le (tgt := 52) hC dX7_join_46 (by decide) (fun c_46 => ?_) (fun c_46 => ?_)
      · have hw6 : wa + wb ≤ 6 := (nI_leI (by omega) (by decide)).mp c_46
        refine o_aload_n hC dX7_join_52 (by rfl) ?_
        refine o_getf hC (fX7_78 hC rfl) dX7_join_53 (by repeat (first | with_reducible assumption | (rw [rl_u_s]; done) | (rw [rl_u_s]; rfl) | rw [rl_u_n (by first | with_reducible assumption | omega)])) (by first | rfl | with_reducible assumption) ?_
        refine o_bipush (v := nI 16) hC dX7_join_56 (by decide +kernel) ?_
        refine o_icmp_lt (tgt := 64) hC dX7_join_58 (by decide) (fun c_58 => ?_) (fun c_58 => ?_)
        · have h16 : c.2.2.1 < 16 := by
            rcases Nat.lt_or_ge c.2.2.1 16 with w | w
            · exact w
            · exact absurd c_58 (nI_nlt w (by omega))
          refine o_aload_n hC dX7_join_64 (by rfl) ?_
          refine o_iconst (v := nI 3) hC dX7_join_65 (by decide +kernel) ?_
          refine o_iload hC dX7_join_66 (by rfl) ?_
          refine o_iload_n hC dX7_join_68 (by rfl) ?_
          refine o_iload_n hC dX7_join_69 (by rfl) ?_
          refine o_callV4 hC rl_BW_good rl_Ns_nw (by exact hB.2.2.2.2.2) YX7_openNode IX7_openNode VX7_openNode (mX7_85 hC) (by rw [hB.1]; exact cg_X7_openNode l D ids H0 _ _ x L s c _ _ _ _ hk h16) (by exact c1) rfl rfl (Nat.le_of_ble_eq_true rfl) (by rw [hB.2.1]; first | exact Nat.le_of_ble_eq_true rfl | (dsimp only; omega)) (by rw [hB.2.1]; first | exact Nat.le_of_ble_eq_true rfl | (dsimp only; omega)) (by rw [hB.2.1]; first | exact Nat.le_of_ble_eq_true rfl | (dsimp only; omega)) (by rw [hB.2.1]; first | exact Nat.le_of_ble_eq_true rfl | (dsimp only; omega)) dX7_join_70 (fun v h_70 n_70 p_70 => ?_)
          obtain ⟨na, mk, N, rfl, n1, n2, hlt, o1, o2, g0, g1, g2, g3, g8, of, o4, o5, o6, o7⟩ := p_70
          have m2 : h_70 (na c.2.2.1) = some (cl_nd N c.2.2.1) := o1.1.2.2.2.2.2.2.2.2.2.1 _ hlt
          unfold cl_nd at m2
          have zz : x + 70 ≤ na c.2.2.1 := o1.1.2.2.2.2.2.2.2.2.2.2.2.1 _ hlt
          try dsimp only [Option.toList, List.cons_append, List.nil_append]
          refine o_iload_n hC dX7_join_73 (by rfl) ?_
          refine o_iload hC dX7_join_74 (by rfl) ?_
          refine o_iconst (v := nI 0) hC dX7_join_76 (by decide +kernel) ?_
          refine o_iconst (v := nI 0) hC dX7_join_77 (by decide +kernel) ?_
          refine o_callV4 hC rl_BW_good rl_Ns_nw (by exact hB.2.2.2.2.2) YX1_detail IX1_detail VX1_detail (mX7_89 hC) (by rw [hB.1]; exact ct_X1_detail l D ids H0 _ _ (na c.2.2.1) _ _ _ _ _ _ _ _ _ _ _ _ _ m2) (by exact m2) rfl rfl (Nat.le_of_ble_eq_true rfl) (by rw [hB.2.1]; first | exact Nat.le_of_ble_eq_true rfl | (dsimp only; omega)) (by rw [hB.2.1]; first | exact Nat.le_of_ble_eq_true rfl | (dsimp only; omega)) (by rw [hB.2.1]; first | exact Nat.le_of_ble_eq_true rfl | (dsimp only; omega)) (by rw [hB.2.1]; first | exact Nat.le_of_ble_eq_true rfl | (dsimp only; omega)) dX7_join_78 (fun v h_78 n_78 p_78 => ?_)
          obtain ⟨rfl, rfl, d1, d2⟩ := p_78
          have e1 := (d2 x (by omega)).trans o1.1.1
          try dsimp only [Option.toList, List.cons_append, List.nil_append]
          refine o_aload_n hC dX7_join_81 (by rfl) ?_
          refine o_dup hC dX7_join_82 rfl ?_
          refine o_getf hC (fX7_78 hC rfl) dX7_join_83 (by repeat (first | with_reducible assumption | (rw [rl_u_s]; done) | (rw [rl_u_s]; rfl) | rw [rl_u_n (by first | with_reducible assumption | omega)])) (by first | rfl | with_reducible assumption) ?_
          refine o_dup_x1 hC dX7_join_86 rfl rfl ?_
          refine o_iconst (v := nI 1) hC dX7_join_87 (by decide +kernel) ?_
          refine o_iadd hC dX7_join_88 ?_
          rw [nI_add c.2.2.1 1]
          refine o_putf hC (fX7_78 hC rfl) (fwX7 rfl rfl rfl (Or.inl rfl)) dX7_join_89 (by repeat (first | with_reducible assumption | (rw [rl_u_s]; done) | (rw [rl_u_s]; rfl) | rw [rl_u_n (by first | with_reducible assumption | omega)])) (Nat.le_of_ble_eq_true rfl) ?_
          try simp only [List.set_cons_zero, List.set_cons_succ]
          refine o_iret hC hB dX7_join_92 (Nat.le_of_ble_eq_true rfl) (Nat.le_of_ble_eq_true rfl) ?_
          (obtain ⟨r1, r2⟩ := o1.add hlt d1 d2 g8 (cl_cv.new (op := 3) (w := wa + wb) (w1 := wa) (w2 := wb) g0 g1 g2 g3 rfl rfl (by omega) ⟨by decide, hw6, fun q => absurd q (by decide), fun q => absurd q (by decide), fun _ => ⟨⟨ci, hci, rfl⟩, ⟨cj, hcj, rfl⟩, hw6⟩, fun q => absurd q (by decide)⟩ (Or.inr ⟨ja, hja, rfl⟩) (Or.inr ⟨jb, hjb, rfl⟩) (fun _ => ⟨ja, hja, rfl, by rw [o2 ja hja]; exact ⟨w3a, w2a⟩⟩) (fun _ => ⟨jb, hjb, rfl, by rw [o2 jb hjb]; exact ⟨w3b, w2b⟩⟩)); obtain ⟨r3, r4⟩ := hR.add (na := na) (mk := mk) h16 o2 g1; have e : sh_join z (nI ja) (nI jb) (nI ci) (nI cj) = sh_node z _ := ((if_neg nk).trans (if_neg (fun w => w (by rw [ew]; exact c_46)))).trans (congrArg (sh_node z) ew); exact ⟨_, _, rfl, n1, n2, r1, (by rw [e]; exact r3), (by rw [e]; exact r4.symm), of.tr r2, cl_ad.mk hlt o1.1 (fun q a b => (rl_u_n (by omega)).trans (d2 q a)) o2 g0 g2 g3 g8 o4 o5 o6 o7⟩)
        · refine o_bipush (v := (-4 : Int32)) hC dX7_join_61 (by decide +kernel) ?_
          refine o_iret hC hB dX7_join_63 (Nat.le_of_ble_eq_true rfl) (Nat.le_of_ble_eq_true rfl) ?_
          (have e : sh_join z (nI ja) (nI jb) (nI ci) (nI cj) = (-4, z) := ((if_neg nk).trans (if_neg (fun w => w (by rw [ew]; exact c_46)))).trans (sh_node_n (fun w => c_58 (by rw [hR.2.2.2.1]; exact nI_lt w (by decide)))); exact ⟨_, c, rfl, Nat.le_refl _, by omega, hk, (by rw [e]; exact hR), (by rw [e]), cl_fr.rf, Or.inl ⟨rfl, rfl⟩⟩)
      · refine o_bipush (v := (-2 : Int32)) hC dX7_join_49 (by decide +kernel) ?_
        refine o_iret hC hB dX7_join_51 (Nat.le_of_ble_eq_true rfl) (Nat.le_of_ble_eq_true rfl) ?_
        (have e : sh_join z (nI ja) (nI jb) (nI ci) (nI cj) = (-2, z) := (if_neg nk).trans (if_pos (by rw [ew]; exact c_46)); exact ⟨_, c, rfl, Nat.le_refl _, by omega, hk, (by rw [e]; exact hR), (by rw [e]), cl_fr.rf, Or.inl ⟨rfl, rfl⟩⟩)
    · refine o_iconst (v := (-1 : Int32)) hC dX7_join_19 (by decide +kernel) ?_
      refine o_iret hC hB dX7_join_20 (Nat.le_of_ble_eq_true rfl) (Nat.le_of_ble_eq_true rfl) ?_
      first
      | (have e : sh_join z a b i j = (-1, z) := if_pos (Or.inl (hz3.elim (fun a => a.2) (fun a => absurd (c_6.symm.trans a.1) (by decide +kernel)))); exact ⟨_, c, rfl, Nat.le_refl _, by omega, hk, (by rw [e]; exact hR), (by rw [e]), cl_fr.rf, Or.inl ⟨rfl, rfl⟩⟩)
      | (have e : sh_join z a b i j = (-1, z) := if_pos (Or.inr (hz13.elim (fun a => a.2) (fun a => absurd (c_16.symm.trans a.1) (by decide +kernel)))); exact ⟨_, c, rfl, Nat.le_refl _, by omega, hk, (by rw [e]; exact hR), (by rw [e]), cl_fr.rf, Or.inl ⟨rfl, rfl⟩⟩)

set_option maxHeartbeats 4000000 in
set_option maxRecDepth 100000 in
theorem cg_X7_addAlikeNode (l : Launch) (D : va_G) (ids : Nat → ClassId) (H0 : Heap) (h : rl_H) (n : Nat) (x L : Nat) (s : cl_S) (c : cl_N) (z : sh_S) (op : Nat) (a b : Int32) (hk : cl_ok ids h n x L s c) (hR : sh_R s c z) (hop : op = 4 ∨ op = 5) : rl_Met l (rl_e D ids H0) rl_BW rl_Ns yX7_addAlikeNode cX7_addAlikeNode 4 (some .int) ({ frames := 5, cells := 403, slots := 2892, locals := 102 }) [.ref x, .int (nI op), .int a, .int b] h n (fun v h' n' => ∃ (r : Int32) (c' : cl_N), v = some (.int r) ∧ n ≤ n' ∧ n' ≤ n + 403 ∧ cl_ok ids h' n' x L s c' ∧ sh_R s c' (sh_pair z a b).2 ∧ r = (sh_pair z a b).1 ∧ cl_fr h h' x L ∧ cl_ad ids h h' c c' (nI op) a b (-1) (-1) (nI 0) (nI 0)) := by
  obtain ⟨hc, k2, k3, k4, k5, k6, k7⟩ := id hk
  obtain ⟨c1, c2, c3, ⟨pn, c4, c5⟩, ⟨pt, c6, c7⟩, c8, c9, c10, c11, c12, c13, c14, c15⟩ := id hc
  refine rl_Met.of (by decide +kernel) (Nat.le_of_ble_eq_true rfl) ?_
  intro X hC hB
  show rl_G X (rl_e D ids H0) 0 [some (.ref x), some (.int (nI op)), some (.int a), some (.int b)] [] h n 0 0
  refine o_aload_n hC dX7_addAlikeNode_0 (by rfl) ?_
  refine o_iload_n hC dX7_addAlikeNode_1 (by rfl) ?_
  refine o_callV1 hC rl_BW_good rl_Ns_nw (by exact hB.2.2.2.2.2) YX7_isNode IX7_isNode VX7_isNode (mX7_100 hC) (by rw [hB.1]; exact cg_X7_isNode l D ids H0 _ _ x s c _ hc) (by exact c1) rfl rfl (Nat.le_of_ble_eq_true rfl) (by rw [hB.2.1]; first | exact Nat.le_of_ble_eq_true rfl | (dsimp only; omega)) (by rw [hB.2.1]; first | exact Nat.le_of_ble_eq_true rfl | (dsimp only; omega)) (by rw [hB.2.1]; first | exact Nat.le_of_ble_eq_true rfl | (dsimp only; omega)) (by rw [hB.2.1]; first | exact Nat.le_of_ble_eq_true rfl | (dsimp only; omega)) dX7_addAlikeNode_2 (fun v h_2 n_2 p_2 => ?_)
  obtain ⟨z2, rfl, rfl, rfl, hz2⟩ := p_2
  replace hz2 := sh_R.nnz hk hR hz2
  try dsimp only [Option.toList, List.cons_append, List.nil_append]
  refine o_if_eq (tgt := 16) hC dX7_addAlikeNode_5 (by decide) (fun c_5 => ?_) (fun c_5 => ?_)
  · refine o_iconst (v := (-1 : Int32)) hC dX7_addAlikeNode_16 (by decide +kernel) ?_
    refine o_iret hC hB dX7_addAlikeNode_17 (Nat.le_of_ble_eq_true rfl) (Nat.le_of_ble_eq_true rfl) ?_
    first
    | (have e : sh_pair z a b = (-1, z) := if_pos (Or.inl (hz2.elim (fun a => a.2) (fun a => absurd (c_5.symm.trans a.1) (by decide +kernel)))); exact ⟨_, c, rfl, Nat.le_refl _, by omega, hk, (by rw [e]; exact hR), (by rw [e]), cl_fr.rf, Or.inl ⟨rfl, rfl⟩⟩)
    | (have e : sh_pair z a b = (-1, z) := if_pos (Or.inr (hz10.elim (fun a => a.2) (fun a => absurd (c_13.symm.trans a.1) (by decide +kernel)))); exact ⟨_, c, rfl, Nat.le_refl _, by omega, hk, (by rw [e]; exact hR), (by rw [e]), cl_fr.rf, Or.inl ⟨rfl, rfl⟩⟩)
  · refine o_aload_n hC dX7_addAlikeNode_8 (by rfl) ?_
    refine o_iload_n hC dX7_addAlikeNode_9 (by rfl) ?_
    refine o_callV1 hC rl_BW_good rl_Ns_nw (by exact hB.2.2.2.2.2) YX7_isNode IX7_isNode VX7_isNode (mX7_100 hC) (by rw [hB.1]; exact cg_X7_isNode l D ids H0 _ _ x s c _ hc) (by exact c1) rfl rfl (Nat.le_of_ble_eq_true rfl) (by rw [hB.2.1]; first | exact Nat.le_of_ble_eq_true rfl | (dsimp only; omega)) (by rw [hB.2.1]; first | exact Nat.le_of_ble_eq_true rfl | (dsimp only; omega)) (by rw [hB.2.1]; first | exact Nat.le_of_ble_eq_true rfl | (dsimp only; omega)) (by rw [hB.2.1]; first | exact Nat.le_of_ble_eq_true rfl | (dsimp only; omega)) dX7_addAlikeNode_10 (fun v h_10 n_10 p_10 => ?_)
    obtain ⟨z10, rfl, rfl, rfl, hz10⟩ := p_10
    replace hz10 := sh_R.nnz hk hR hz10
    try dsimp only [Option.toList, List.cons_append, List.nil_append]
    refine o_if_ne (tgt := 18) hC dX7_addAlikeNode_13 (by decide) (fun c_13 => ?_) (fun c_13 => ?_)
    · have nk : ¬ (sh_nn z a ∨ sh_nn z b) := fun w => w.elim (hz2.elim (fun a => absurd a.1 c_5) (fun a => a.2)) (hz10.elim (fun a => absurd a.1 c_13) (fun a => a.2))
      obtain ⟨ja, wa, hja, rfl, w1a, w2a, w3a, w4a, m1a⟩ := sh_R.nd hk hR (fun w => nk (Or.inl w))
      unfold cl_nd at m1a
      obtain ⟨jb, wb, hjb, rfl, w1b, w2b, w3b, w4b, m1b⟩ := sh_R.nd hk hR (fun w => nk (Or.inr w))
      unfold cl_nd at m1b
      refine o_aload_n hC dX7_addAlikeNode_18 (by rfl) ?_
      refine o_getf hC (fX7_25 hC rfl) dX7_addAlikeNode_19 (by repeat (first | with_reducible assumption | (rw [rl_u_s]; done) | (rw [rl_u_s]; rfl) | rw [rl_u_n (by first | with_reducible assumption | omega)])) (by first | rfl | with_reducible assumption) ?_
      refine o_iload_n hC dX7_addAlikeNode_22 (by rfl) ?_
      refine o_aaldN (t0 := 5) (k := ja) hC rfl dX7_addAlikeNode_23 c4 (by omega) (by decide) ?_
      rw [c5 _ (by omega), if_pos (by omega)]
      show rl_G X _ _ _ (.ref _ :: _) _ _ _ _
      refine o_getf hC (fX7_97 hC rfl) dX7_addAlikeNode_24 (by repeat (first | with_reducible assumption | (rw [rl_u_s]; done) | (rw [rl_u_s]; rfl) | rw [rl_u_n (by first | with_reducible assumption | omega)])) (by first | rfl | with_reducible assumption) ?_
      refine o_aload_n hC dX7_addAlikeNode_27 (by rfl) ?_
      refine o_getf hC (fX7_25 hC rfl) dX7_addAlikeNode_28 (by repeat (first | with_reducible assumption | (rw [rl_u_s]; done) | (rw [rl_u_s]; rfl) | rw [rl_u_n (by first | with_reducible assumption | omega)])) (by first | rfl | with_reducible assumption) ?_
      refine o_iload_n hC dX7_addAlikeNode_31 (by rfl) ?_
      refine o_aaldN (t0 := 5) (k := jb) hC rfl dX7_addAlikeNode_32 c4 (by omega) (by decide) ?_
      rw [c5 _ (by omega), if_pos (by omega)]
      show rl_G X _ _ _ (.ref _ :: _) _ _ _ _
      refine o_getf hC (fX7_97 hC rfl) dX7_addAlikeNode_33 (by repeat (first | with_reducible assumption | (rw [rl_u_s]; done) | (rw [rl_u_s]; rfl) | rw [rl_u_n (by first | with_reducible assumption | omega)])) (by first | rfl | with_reducible assumption) ?_
      refine o_icmp_eq (tgt := 42) hC dX7_addAlikeNode_36 (by decide) (fun c_36 => ?_) (fun c_36 => ?_)
      · refine o_aload_n hC dX7_addAlikeNode_42 (by rfl) ?_
        refine o_getf hC (fX7_78 hC rfl) dX7_addAlikeNode_43 (by repeat (first | with_reducible assumption | (rw [rl_u_s]; done) | (rw [rl_u_s]; rfl) | rw [rl_u_n (by first | with_reducible assumption | omega)])) (by first | rfl | with_reducible assumption) ?_
        refine o_bipush (v := nI 16) hC dX7_addAlikeNode_46 (by decide +kernel) ?_
        refine o_icmp_lt (tgt := 54) hC dX7_addAlikeNode_48 (by decide) (fun c_48 => ?_) (fun c_48 => ?_)
        · have h16 : c.2.2.1 < 16 := by
            rcases Nat.lt_or_ge c.2.2.1 16 with w | w
            · exact w
            · exact absurd c_48 (nI_nlt w (by omega))
          refine o_aload_n hC dX7_addAlikeNode_54 (by rfl) ?_
          refine o_iload_n hC dX7_addAlikeNode_55 (by rfl) ?_
          refine o_aload_n hC dX7_addAlikeNode_56 (by rfl) ?_
          refine o_getf hC (fX7_25 hC rfl) dX7_addAlikeNode_57 (by repeat (first | with_reducible assumption | (rw [rl_u_s]; done) | (rw [rl_u_s]; rfl) | rw [rl_u_n (by first | with_reducible assumption | omega)])) (by first | rfl | with_reducible assumption) ?_
          refine o_iload_n hC dX7_addAlikeNode_60 (by rfl) ?_
          refine o_aaldN (t0 := 5) (k := ja) hC rfl dX7_addAlikeNode_61 c4 (by omega) (by decide) ?_
          rw [c5 _ (by omega), if_pos (by omega)]
          show rl_G X _ _ _ (.ref _ :: _) _ _ _ _
          refine o_getf hC (fX7_97 hC rfl) dX7_addAlikeNode_62 (by repeat (first | with_reducible assumption | (rw [rl_u_s]; done) | (rw [rl_u_s]; rfl) | rw [rl_u_n (by first | with_reducible assumption | omega)])) (by first | rfl | with_reducible assumption) ?_
          refine o_iload_n hC dX7_addAlikeNode_65 (by rfl) ?_
          refine o_iload_n hC dX7_addAlikeNode_66 (by rfl) ?_
          refine o_callV4 hC rl_BW_good rl_Ns_nw (by exact hB.2.2.2.2.2) YX7_openNode IX7_openNode VX7_openNode (mX7_85 hC) (by rw [hB.1]; exact cg_X7_openNode l D ids H0 _ _ x L s c _ _ _ _ hk h16) (by exact c1) rfl rfl (Nat.le_of_ble_eq_true rfl) (by rw [hB.2.1]; first | exact Nat.le_of_ble_eq_true rfl | (dsimp only; omega)) (by rw [hB.2.1]; first | exact Nat.le_of_ble_eq_true rfl | (dsimp only; omega)) (by rw [hB.2.1]; first | exact Nat.le_of_ble_eq_true rfl | (dsimp only; omega)) (by rw [hB.2.1]; first | exact Nat.le_of_ble_eq_true rfl | (dsimp only; omega)) dX7_addAlikeNode_67 (fun v h_67 n_67 p_67 => ?_)
          obtain ⟨na, mk, N, rfl, n1, n2, hlt, o1, o2, g0, g1, g2, g3, g8, of, o4, o5, o6, o7⟩ := p_67
          have m2 : h_67 (na c.2.2.1) = some (cl_nd N c.2.2.1) := o1.1.2.2.2.2.2.2.2.2.2.1 _ hlt
          unfold cl_nd at m2
          have zz : x + 70 ≤ na c.2.2.1 := o1.1.2.2.2.2.2.2.2.2.2.2.2.1 _ hlt
          try dsimp only [Option.toList, List.cons_append, List.nil_append]
          refine o_iconst (v := (-1 : Int32)) hC dX7_addAlikeNode_70 (by decide +kernel) ?_
          refine o_iconst (v := (-1 : Int32)) hC dX7_addAlikeNode_71 (by decide +kernel) ?_
          refine o_iconst (v := nI 0) hC dX7_addAlikeNode_72 (by decide +kernel) ?_
          refine o_iconst (v := nI 0) hC dX7_addAlikeNode_73 (by decide +kernel) ?_
          refine o_callV4 hC rl_BW_good rl_Ns_nw (by exact hB.2.2.2.2.2) YX1_detail IX1_detail VX1_detail (mX7_89 hC) (by rw [hB.1]; exact ct_X1_detail l D ids H0 _ _ (na c.2.2.1) _ _ _ _ _ _ _ _ _ _ _ _ _ m2) (by exact m2) rfl rfl (Nat.le_of_ble_eq_true rfl) (by rw [hB.2.1]; first | exact Nat.le_of_ble_eq_true rfl | (dsimp only; omega)) (by rw [hB.2.1]; first | exact Nat.le_of_ble_eq_true rfl | (dsimp only; omega)) (by rw [hB.2.1]; first | exact Nat.le_of_ble_eq_true rfl | (dsimp only; omega)) (by rw [hB.2.1]; first | exact Nat.le_of_ble_eq_true rfl | (dsimp only; omega)) dX7_addAlikeNode_74 (fun v h_74 n_74 p_74 => ?_)
          obtain ⟨rfl, rfl, d1, d2⟩ := p_74
          have e1 := (d2 x (by omega)).trans o1.1.1
          try dsimp only [Option.toList, List.cons_append, List.nil_append]
          refine o_aload_n hC dX7_addAlikeNode_77 (by rfl) ?_
          refine o_dup hC dX7_addAlikeNode_78 rfl ?_
          refine o_getf hC (fX7_78 hC rfl) dX7_addAlikeNode_79 (by repeat (first | with_reducible assumption | (rw [rl_u_s]; done) | (rw [rl_u_s]; rfl) | rw [rl_u_n (by first | with_reducible assumption | omega)])) (by first | rfl | with_reducible assumption) ?_
          refine o_dup_x1 hC dX7_addAlikeNode_82 rfl rfl ?_
          refine o_iconst (v := nI 1) hC dX7_addAlikeNode_83 (by decide +kernel) ?_
          refine o_iadd hC dX7_addAlikeNode_84 ?_
          rw [nI_add c.2.2.1 1]
          refine o_putf hC (fX7_78 hC rfl) (fwX7 rfl rfl rfl (Or.inl rfl)) dX7_addAlikeNode_85 (by repeat (first | with_reducible assumption | (rw [rl_u_s]; done) | (rw [rl_u_s]; rfl) | rw [rl_u_n (by first | with_reducible assumption | omega)])) (Nat.le_of_ble_eq_true rfl) ?_
          try simp only [List.set_cons_zero, List.set_cons_succ]
          refine o_iret hC hB dX7_addAlikeNode_88 (Nat.le_of_ble_eq_true rfl) (Nat.le_of_ble_eq_true rfl) ?_
          (obtain ⟨r1, r2⟩ := o1.add hlt d1 d2 g8 (cl_cv.new (op := op) (w := wa) (w1 := wa) (w2 := wb) g0 g1 g2 g3 rfl w3a w1a ⟨by omega, w2a, fun q => absurd q (by omega), fun q => absurd q (by omega), fun q => absurd q (by omega), fun q => absurd q (by omega)⟩ (Or.inr ⟨ja, hja, rfl⟩) (Or.inr ⟨jb, hjb, rfl⟩) (fun _ => ⟨ja, hja, rfl, by rw [o2 ja hja]; exact ⟨w3a, w2a⟩⟩) (fun _ => ⟨jb, hjb, rfl, by rw [o2 jb hjb]; exact ⟨w3b, w2b⟩⟩)); obtain ⟨r3, r4⟩ := hR.add (na := na) (mk := mk) h16 o2 g1; have e : sh_pair z (nI ja) (nI jb) = sh_node z _ := ((if_neg nk).trans (if_neg (fun w => w ((w4a.trans w3a.symm).trans (c_36.trans (w3b.trans w4b.symm)))))).trans (congrArg (sh_node z) (w4a.trans w3a.symm)); exact ⟨_, _, rfl, n1, n2, r1, (by rw [e]; exact r3), (by rw [e]; exact r4.symm), of.tr r2, cl_ad.mk hlt o1.1 (fun q a b => (rl_u_n (by omega)).trans (d2 q a)) o2 g0 g2 g3 g8 o4 o5 o6 o7⟩)
        · refine o_bipush (v := (-4 : Int32)) hC dX7_addAlikeNode_51 (by decide +kernel) ?_
          refine o_iret hC hB dX7_addAlikeNode_53 (Nat.le_of_ble_eq_true rfl) (Nat.le_of_ble_eq_true rfl) ?_
          (have e : sh_pair z (nI ja) (nI jb) = (-4, z) := ((if_neg nk).trans (if_neg (fun w => w ((w4a.trans w3a.symm).trans (c_36.trans (w3b.trans w4b.symm)))))).trans (sh_node_n (fun w => c_48 (by rw [hR.2.2.2.1]; exact nI_lt w (by decide)))); exact ⟨_, c, rfl, Nat.le_refl _, by omega, hk, (by rw [e]; exact hR), (by rw [e]), cl_fr.rf, Or.inl ⟨rfl, rfl⟩⟩)
      · refine o_bipush (v := (-2 : Int32)) hC dX7_addAlikeNode_39 (by decide +kernel) ?_
        refine o_iret hC hB dX7_addAlikeNode_41 (Nat.le_of_ble_eq_true rfl) (Nat.le_of_ble_eq_true rfl) ?_
        (have e : sh_pair z (nI ja) (nI jb) = (-2, z) := (if_neg nk).trans (if_pos (fun w => c_36 ((w3a.trans w4a.symm).trans (w.trans (w4b.trans w3b.symm))))); exact ⟨_, c, rfl, Nat.le_refl _, by omega, hk, (by rw [e]; exact hR), (by rw [e]), cl_fr.rf, Or.inl ⟨rfl, rfl⟩⟩)
    · refine o_iconst (v := (-1 : Int32)) hC dX7_addAlikeNode_16 (by decide +kernel) ?_
      refine o_iret hC hB dX7_addAlikeNode_17 (Nat.le_of_ble_eq_true rfl) (Nat.le_of_ble_eq_true rfl) ?_
      first
      | (have e : sh_pair z a b = (-1, z) := if_pos (Or.inl (hz2.elim (fun a => a.2) (fun a => absurd (c_5.symm.trans a.1) (by decide +kernel)))); exact ⟨_, c, rfl, Nat.le_refl _, by omega, hk, (by rw [e]; exact hR), (by rw [e]), cl_fr.rf, Or.inl ⟨rfl, rfl⟩⟩)
      | (have e : sh_pair z a b = (-1, z) := if_pos (Or.inr (hz10.elim (fun a => a.2) (fun a => absurd (c_13.symm.trans a.1) (by decide +kernel)))); exact ⟨_, c, rfl, Nat.le_refl _, by omega, hk, (by rw [e]; exact hR), (by rw [e]), cl_fr.rf, Or.inl ⟨rfl, rfl⟩⟩)

set_option maxHeartbeats 4000000 in
set_option maxRecDepth 100000 in
theorem cg_X7_unite (l : Launch) (D : va_G) (ids : Nat → ClassId) (H0 : Heap) (h : rl_H) (n : Nat) (x L : Nat) (s : cl_S) (c : cl_N) (z : sh_S) (a b : Int32) (hk : cl_ok ids h n x L s c) (hR : sh_R s c z) : rl_Met l (rl_e D ids H0) rl_BW rl_Ns yX7_unite cX7_unite 3 (some .int) ({ frames := 6, cells := 403, slots := 2892, locals := 125 }) [.ref x, .int a, .int b] h n (fun v h' n' => ∃ (r : Int32) (c' : cl_N), v = some (.int r) ∧ n ≤ n' ∧ n' ≤ n + 403 ∧ cl_ok ids h' n' x L s c' ∧ sh_R s c' (sh_pair z a b).2 ∧ r = (sh_pair z a b).1 ∧ cl_fr h h' x L ∧ cl_ad ids h h' c c' (nI 4) a b (-1) (-1) (nI 0) (nI 0)) := by
  obtain ⟨hc, k2, k3, k4, k5, k6, k7⟩ := id hk
  obtain ⟨c1, c2, c3, ⟨pn, c4, c5⟩, ⟨pt, c6, c7⟩, c8, c9, c10, c11, c12, c13, c14, c15⟩ := id hc
  refine rl_Met.of (by decide +kernel) (Nat.le_of_ble_eq_true rfl) ?_
  intro X hC hB
  show rl_G X (rl_e D ids H0) 0 [some (.ref x), some (.int a), some (.int b)] [] h n 0 0
  refine o_aload_n hC dX7_unite_0 (by rfl) ?_
  refine o_iconst (v := nI 4) hC dX7_unite_1 (by decide +kernel) ?_
  refine o_iload_n hC dX7_unite_2 (by rfl) ?_
  refine o_iload_n hC dX7_unite_3 (by rfl) ?_
  refine o_callV3 hC rl_BW_good rl_Ns_nw (by exact hB.2.2.2.2.2) YX7_addAlikeNode IX7_addAlikeNode VX7_addAlikeNode (mX7_113 hC) (by rw [hB.1]; exact cg_X7_addAlikeNode l D ids H0 _ _ x L s c z 4 _ _ hk hR (by decide)) (by exact c1) rfl rfl (Nat.le_of_ble_eq_true rfl) (by rw [hB.2.1]; first | exact Nat.le_of_ble_eq_true rfl | (dsimp only; omega)) (by rw [hB.2.1]; first | exact Nat.le_of_ble_eq_true rfl | (dsimp only; omega)) (by rw [hB.2.1]; first | exact Nat.le_of_ble_eq_true rfl | (dsimp only; omega)) (by rw [hB.2.1]; first | exact Nat.le_of_ble_eq_true rfl | (dsimp only; omega)) dX7_unite_4 (fun v h_4 n_4 p_4 => ?_)
  obtain ⟨r, c', rfl, q1, q2, q3, q4, q5, q6⟩ := p_4
  try dsimp only [Option.toList, List.cons_append, List.nil_append]
  refine o_iret hC hB dX7_unite_7 (Nat.le_of_ble_eq_true rfl) (Nat.le_of_ble_eq_true rfl) ?_
  exact ⟨_, _, rfl, q1, q2, q3, q4, q5, q6⟩

set_option maxHeartbeats 4000000 in
set_option maxRecDepth 100000 in
theorem cg_X7_minus (l : Launch) (D : va_G) (ids : Nat → ClassId) (H0 : Heap) (h : rl_H) (n : Nat) (x L : Nat) (s : cl_S) (c : cl_N) (z : sh_S) (a b : Int32) (hk : cl_ok ids h n x L s c) (hR : sh_R s c z) : rl_Met l (rl_e D ids H0) rl_BW rl_Ns yX7_minus cX7_minus 3 (some .int) ({ frames := 6, cells := 403, slots := 2892, locals := 125 }) [.ref x, .int a, .int b] h n (fun v h' n' => ∃ (r : Int32) (c' : cl_N), v = some (.int r) ∧ n ≤ n' ∧ n' ≤ n + 403 ∧ cl_ok ids h' n' x L s c' ∧ sh_R s c' (sh_pair z a b).2 ∧ r = (sh_pair z a b).1 ∧ cl_fr h h' x L ∧ cl_ad ids h h' c c' (nI 5) a b (-1) (-1) (nI 0) (nI 0)) := by
  obtain ⟨hc, k2, k3, k4, k5, k6, k7⟩ := id hk
  obtain ⟨c1, c2, c3, ⟨pn, c4, c5⟩, ⟨pt, c6, c7⟩, c8, c9, c10, c11, c12, c13, c14, c15⟩ := id hc
  refine rl_Met.of (by decide +kernel) (Nat.le_of_ble_eq_true rfl) ?_
  intro X hC hB
  show rl_G X (rl_e D ids H0) 0 [some (.ref x), some (.int a), some (.int b)] [] h n 0 0
  refine o_aload_n hC dX7_minus_0 (by rfl) ?_
  refine o_iconst (v := nI 5) hC dX7_minus_1 (by decide +kernel) ?_
  refine o_iload_n hC dX7_minus_2 (by rfl) ?_
  refine o_iload_n hC dX7_minus_3 (by rfl) ?_
  refine o_callV3 hC rl_BW_good rl_Ns_nw (by exact hB.2.2.2.2.2) YX7_addAlikeNode IX7_addAlikeNode VX7_addAlikeNode (mX7_113 hC) (by rw [hB.1]; exact cg_X7_addAlikeNode l D ids H0 _ _ x L s c z 5 _ _ hk hR (by decide)) (by exact c1) rfl rfl (Nat.le_of_ble_eq_true rfl) (by rw [hB.2.1]; first | exact Nat.le_of_ble_eq_true rfl | (dsimp only; omega)) (by rw [hB.2.1]; first | exact Nat.le_of_ble_eq_true rfl | (dsimp only; omega)) (by rw [hB.2.1]; first | exact Nat.le_of_ble_eq_true rfl | (dsimp only; omega)) (by rw [hB.2.1]; first | exact Nat.le_of_ble_eq_true rfl | (dsimp only; omega)) dX7_minus_4 (fun v h_4 n_4 p_4 => ?_)
  obtain ⟨r, c', rfl, q1, q2, q3, q4, q5, q6⟩ := p_4
  try dsimp only [Option.toList, List.cons_append, List.nil_append]
  refine o_iret hC hB dX7_minus_7 (Nat.le_of_ble_eq_true rfl) (Nat.le_of_ble_eq_true rfl) ?_
  exact ⟨_, _, rfl, q1, q2, q3, q4, q5, q6⟩

set_option maxHeartbeats 4000000 in
set_option maxRecDepth 100000 in
theorem cg_X7_fold (l : Launch) (D : va_G) (ids : Nat → ClassId) (H0 : Heap) (h : rl_H) (n : Nat) (x L : Nat) (s : cl_S) (c : cl_N) (z : sh_S) (q kk j kd : Int32) (hk : cl_ok ids h n x L s c) (hR : sh_R s c z) : rl_Met l (rl_e D ids H0) rl_BW rl_Ns yX7_fold cX7_fold 5 (some .int) ({ frames := 5, cells := 403, slots := 2892, locals := 102 }) [.ref x, .int q, .int kk, .int j, .int kd] h n (fun v h' n' => ∃ (r : Int32) (c' : cl_N), v = some (.int r) ∧ n ≤ n' ∧ n' ≤ n + 403 ∧ cl_ok ids h' n' x L s c' ∧ sh_R s c' (sh_fold z q kk j kd).2 ∧ r = (sh_fold z q kk j kd).1 ∧ cl_fr h h' x L ∧ cl_ad ids h h' c c' (nI 6) q (-1) kk j kd (nI 0)) := by
  obtain ⟨hc, k2, k3, k4, k5, k6, k7⟩ := id hk
  obtain ⟨c1, c2, c3, ⟨pn, c4, c5⟩, ⟨pt, c6, c7⟩, c8, c9, c10, c11, c12, c13, c14, c15⟩ := id hc
  refine rl_Met.of (by decide +kernel) (Nat.le_of_ble_eq_true rfl) ?_
  intro X hC hB
  show rl_G X (rl_e D ids H0) 0 [some (.ref x), some (.int q), some (.int kk), some (.int j), some (.int kd)] [] h n 0 0
  refine o_aload_n hC dX7_fold_0 (by rfl) ?_
  refine o_iload_n hC dX7_fold_1 (by rfl) ?_
  refine o_iload_n hC dX7_fold_2 (by rfl) ?_
  refine o_callV2 hC rl_BW_good rl_Ns_nw (by exact hB.2.2.2.2.2) YX7_hasColumn IX7_hasColumn VX7_hasColumn (mX7_93 hC) (by rw [hB.1]; exact cg_X7_hasColumn l D ids H0 _ _ x s c _ _ hc) (by exact c1) rfl rfl (Nat.le_of_ble_eq_true rfl) (by rw [hB.2.1]; first | exact Nat.le_of_ble_eq_true rfl | (dsimp only; omega)) (by rw [hB.2.1]; first | exact Nat.le_of_ble_eq_true rfl | (dsimp only; omega)) (by rw [hB.2.1]; first | exact Nat.le_of_ble_eq_true rfl | (dsimp only; omega)) (by rw [hB.2.1]; first | exact Nat.le_of_ble_eq_true rfl | (dsimp only; omega)) dX7_fold_3 (fun v h_3 n_3 p_3 => ?_)
  obtain ⟨z3, rfl, rfl, rfl, hz3⟩ := p_3
  replace hz3 := sh_R.nkz hk hR hz3
  try dsimp only [Option.toList, List.cons_append, List.nil_append]
  refine o_if_eq (tgt := 18) hC dX7_fold_6 (by decide) (fun c_6 => ?_) (fun c_6 => ?_)
  · refine o_iconst (v := (-1 : Int32)) hC dX7_fold_18 (by decide +kernel) ?_
    refine o_iret hC hB dX7_fold_19 (Nat.le_of_ble_eq_true rfl) (Nat.le_of_ble_eq_true rfl) ?_
    first
    | (have e : sh_fold z q kk j kd = (-1, z) := if_pos (Or.inl (hz3.elim (fun a => a.2) (fun a => absurd (c_6.symm.trans a.1) (by decide +kernel)))); exact ⟨_, c, rfl, Nat.le_refl _, by omega, hk, (by rw [e]; exact hR), (by rw [e]), cl_fr.rf, Or.inl ⟨rfl, rfl⟩⟩)
    | (have e : sh_fold z q kk j kd = (-1, z) := if_pos (Or.inr (hz12.elim (fun a => a.2) (fun a => absurd (c_15.symm.trans a.1) (by decide +kernel)))); exact ⟨_, c, rfl, Nat.le_refl _, by omega, hk, (by rw [e]; exact hR), (by rw [e]), cl_fr.rf, Or.inl ⟨rfl, rfl⟩⟩)
  · refine o_aload_n hC dX7_fold_9 (by rfl) ?_
    refine o_iload_n hC dX7_fold_10 (by rfl) ?_
    refine o_iload_n hC dX7_fold_11 (by rfl) ?_
    refine o_callV2 hC rl_BW_good rl_Ns_nw (by exact hB.2.2.2.2.2) YX7_hasColumn IX7_hasColumn VX7_hasColumn (mX7_93 hC) (by rw [hB.1]; exact cg_X7_hasColumn l D ids H0 _ _ x s c _ _ hc) (by exact c1) rfl rfl (Nat.le_of_ble_eq_true rfl) (by rw [hB.2.1]; first | exact Nat.le_of_ble_eq_true rfl | (dsimp only; omega)) (by rw [hB.2.1]; first | exact Nat.le_of_ble_eq_true rfl | (dsimp only; omega)) (by rw [hB.2.1]; first | exact Nat.le_of_ble_eq_true rfl | (dsimp only; omega)) (by rw [hB.2.1]; first | exact Nat.le_of_ble_eq_true rfl | (dsimp only; omega)) dX7_fold_12 (fun v h_12 n_12 p_12 => ?_)
    obtain ⟨z12, rfl, rfl, rfl, hz12⟩ := p_12
    replace hz12 := sh_R.nkz hk hR hz12
    try dsimp only [Option.toList, List.cons_append, List.nil_append]
    refine o_if_ne (tgt := 20) hC dX7_fold_15 (by decide) (fun c_15 => ?_) (fun c_15 => ?_)
    · refine o_iload hC dX7_fold_20 (by rfl) ?_
      refine o_if_lt (tgt := 31) hC dX7_fold_22 (by decide) (fun c_22 => ?_) (fun c_22 => ?_)
      · refine o_bipush (v := (-2 : Int32)) hC dX7_fold_31 (by decide +kernel) ?_
        refine o_iret hC hB dX7_fold_33 (Nat.le_of_ble_eq_true rfl) (Nat.le_of_ble_eq_true rfl) ?_
        first
        | (have e : sh_fold z q kk j kd = (-2, z) := (if_neg (fun w => w.elim (hz3.elim (fun a => absurd a.1 c_6) (fun a => a.2)) (hz12.elim (fun a => absurd a.1 c_15) (fun a => a.2)))).trans (if_pos (Or.inl c_22)); exact ⟨_, c, rfl, Nat.le_refl _, by omega, hk, (by rw [e]; exact hR), (by rw [e]), cl_fr.rf, Or.inl ⟨rfl, rfl⟩⟩)
        | (have e : sh_fold z q kk j kd = (-2, z) := (if_neg (fun w => w.elim (hz3.elim (fun a => absurd a.1 c_6) (fun a => a.2)) (hz12.elim (fun a => absurd a.1 c_15) (fun a => a.2)))).trans (if_pos (Or.inr c_28)); exact ⟨_, c, rfl, Nat.le_refl _, by omega, hk, (by rw [e]; exact hR), (by rw [e]), cl_fr.rf, Or.inl ⟨rfl, rfl⟩⟩)
      · refine o_iload hC dX7_fold_25 (by rfl) ?_
        refine o_iconst (v := nI 3) hC dX7_fold_27 (by decide +kernel) ?_
        refine o_icmp_le (tgt := 34) hC dX7_fold_28 (by decide) (fun c_28 => ?_) (fun c_28 => ?_)
        · have nk : ¬ (sh_nk z q kk ∨ sh_nk z q j) := fun w => w.elim (hz3.elim (fun a => absurd a.1 c_6) (fun a => a.2)) (hz12.elim (fun a => absurd a.1 c_15) (fun a => a.2))
          obtain ⟨ck, hck, rfl⟩ := sh_R.co hk hR (fun w => nk (Or.inl w))
          obtain ⟨cj, hcj, rfl⟩ := sh_R.co hk hR (fun w => nk (Or.inr w))
          obtain ⟨k0, hk0, rfl⟩ := nI_of2 (M := nI 3) (nI_toInt (by decide)) c_22 c_28
          obtain ⟨i, w, hj, rfl, w1, w2, w3, w4, m1⟩ := sh_R.nd hk hR (fun w => nk (Or.inl (Or.inl w)))
          unfold cl_nd at m1
          refine o_aload_n hC dX7_fold_34 (by rfl) ?_
          refine o_getf hC (fX7_78 hC rfl) dX7_fold_35 (by repeat (first | with_reducible assumption | (rw [rl_u_s]; done) | (rw [rl_u_s]; rfl) | rw [rl_u_n (by first | with_reducible assumption | omega)])) (by first | rfl | with_reducible assumption) ?_
          refine o_bipush (v := nI 16) hC dX7_fold_38 (by decide +kernel) ?_
          refine o_icmp_lt (tgt := 46) hC dX7_fold_40 (by decide) (fun c_40 => ?_) (fun c_40 => ?_)
          · have h16 : c.2.2.1 < 16 := by
              rcases Nat.lt_or_ge c.2.2.1 16 with w | w
              · exact w
              · exact absurd c_40 (nI_nlt w (by omega))
            refine o_aload_n hC dX7_fold_46 (by rfl) ?_
            refine o_bipush (v := nI 6) hC dX7_fold_47 (by decide +kernel) ?_
            refine o_iconst (v := nI 2) hC dX7_fold_49 (by decide +kernel) ?_
            refine o_iload_n hC dX7_fold_50 (by rfl) ?_
            refine o_iconst (v := (-1 : Int32)) hC dX7_fold_51 (by decide +kernel) ?_
            refine o_callV4 hC rl_BW_good rl_Ns_nw (by exact hB.2.2.2.2.2) YX7_openNode IX7_openNode VX7_openNode (mX7_85 hC) (by rw [hB.1]; exact cg_X7_openNode l D ids H0 _ _ x L s c _ _ _ _ hk h16) (by exact c1) rfl rfl (Nat.le_of_ble_eq_true rfl) (by rw [hB.2.1]; first | exact Nat.le_of_ble_eq_true rfl | (dsimp only; omega)) (by rw [hB.2.1]; first | exact Nat.le_of_ble_eq_true rfl | (dsimp only; omega)) (by rw [hB.2.1]; first | exact Nat.le_of_ble_eq_true rfl | (dsimp only; omega)) (by rw [hB.2.1]; first | exact Nat.le_of_ble_eq_true rfl | (dsimp only; omega)) dX7_fold_52 (fun v h_52 n_52 p_52 => ?_)
            obtain ⟨na, mk, N, rfl, n1, n2, hlt, o1, o2, g0, g1, g2, g3, g8, of, o4, o5, o6, o7⟩ := p_52
            have m2 : h_52 (na c.2.2.1) = some (cl_nd N c.2.2.1) := o1.1.2.2.2.2.2.2.2.2.2.1 _ hlt
            unfold cl_nd at m2
            have zz : x + 70 ≤ na c.2.2.1 := o1.1.2.2.2.2.2.2.2.2.2.2.2.1 _ hlt
            try dsimp only [Option.toList, List.cons_append, List.nil_append]
            refine o_iload_n hC dX7_fold_55 (by rfl) ?_
            refine o_iload_n hC dX7_fold_56 (by rfl) ?_
            refine o_iload hC dX7_fold_57 (by rfl) ?_
            refine o_iconst (v := nI 0) hC dX7_fold_59 (by decide +kernel) ?_
            refine o_callV4 hC rl_BW_good rl_Ns_nw (by exact hB.2.2.2.2.2) YX1_detail IX1_detail VX1_detail (mX7_89 hC) (by rw [hB.1]; exact ct_X1_detail l D ids H0 _ _ (na c.2.2.1) _ _ _ _ _ _ _ _ _ _ _ _ _ m2) (by exact m2) rfl rfl (Nat.le_of_ble_eq_true rfl) (by rw [hB.2.1]; first | exact Nat.le_of_ble_eq_true rfl | (dsimp only; omega)) (by rw [hB.2.1]; first | exact Nat.le_of_ble_eq_true rfl | (dsimp only; omega)) (by rw [hB.2.1]; first | exact Nat.le_of_ble_eq_true rfl | (dsimp only; omega)) (by rw [hB.2.1]; first | exact Nat.le_of_ble_eq_true rfl | (dsimp only; omega)) dX7_fold_60 (fun v h_60 n_60 p_60 => ?_)
            obtain ⟨rfl, rfl, d1, d2⟩ := p_60
            have e1 := (d2 x (by omega)).trans o1.1.1
            try dsimp only [Option.toList, List.cons_append, List.nil_append]
            refine o_aload_n hC dX7_fold_63 (by rfl) ?_
            refine o_dup hC dX7_fold_64 rfl ?_
            refine o_getf hC (fX7_78 hC rfl) dX7_fold_65 (by repeat (first | with_reducible assumption | (rw [rl_u_s]; done) | (rw [rl_u_s]; rfl) | rw [rl_u_n (by first | with_reducible assumption | omega)])) (by first | rfl | with_reducible assumption) ?_
            refine o_dup_x1 hC dX7_fold_68 rfl rfl ?_
            refine o_iconst (v := nI 1) hC dX7_fold_69 (by decide +kernel) ?_
            refine o_iadd hC dX7_fold_70 ?_
            rw [nI_add c.2.2.1 1]
            refine o_putf hC (fX7_78 hC rfl) (fwX7 rfl rfl rfl (Or.inl rfl)) dX7_fold_71 (by repeat (first | with_reducible assumption | (rw [rl_u_s]; done) | (rw [rl_u_s]; rfl) | rw [rl_u_n (by first | with_reducible assumption | omega)])) (Nat.le_of_ble_eq_true rfl) ?_
            try simp only [List.set_cons_zero, List.set_cons_succ]
            refine o_iret hC hB dX7_fold_74 (Nat.le_of_ble_eq_true rfl) (Nat.le_of_ble_eq_true rfl) ?_
            (obtain ⟨r1, r2⟩ := o1.add hlt d1 d2 g8 (cl_cv.new (op := 6) (w := 2) (w1 := w) (w2 := 0) g0 g1 g2 g3 rfl rfl (by decide) ⟨by decide, by decide, fun q => absurd q (by decide), fun q => absurd q (by decide), fun q => absurd q (by decide), fun _ => ⟨⟨ck, hck, rfl⟩, ⟨cj, hcj, rfl⟩, ⟨k0, hk0, rfl⟩⟩⟩ (Or.inr ⟨i, hj, rfl⟩) (Or.inl rfl) (fun _ => ⟨i, hj, rfl, by rw [o2 i hj]; exact ⟨w3, w2⟩⟩) (fun q => absurd q (by decide))); obtain ⟨r3, r4⟩ := hR.add (na := na) (mk := mk) h16 o2 g1; have e : sh_fold z (nI i) (nI ck) (nI cj) (nI k0) = sh_node z _ := ((if_neg nk).trans (if_neg (fun w => w.elim c_22 (fun w => w c_28)))); exact ⟨_, _, rfl, n1, n2, r1, (by rw [e]; exact r3), (by rw [e]; exact r4.symm), of.tr r2, cl_ad.mk hlt o1.1 (fun q a b => (rl_u_n (by omega)).trans (d2 q a)) o2 g0 g2 g3 g8 o4 o5 o6 o7⟩)
          · refine o_bipush (v := (-4 : Int32)) hC dX7_fold_43 (by decide +kernel) ?_
            refine o_iret hC hB dX7_fold_45 (Nat.le_of_ble_eq_true rfl) (Nat.le_of_ble_eq_true rfl) ?_
            (have e : sh_fold z (nI i) (nI ck) (nI cj) (nI k0) = (-4, z) := ((if_neg nk).trans (if_neg (fun w => w.elim c_22 (fun w => w c_28)))).trans (sh_node_n (fun w => c_40 (by rw [hR.2.2.2.1]; exact nI_lt w (by decide)))); exact ⟨_, c, rfl, Nat.le_refl _, by omega, hk, (by rw [e]; exact hR), (by rw [e]), cl_fr.rf, Or.inl ⟨rfl, rfl⟩⟩)
        · refine o_bipush (v := (-2 : Int32)) hC dX7_fold_31 (by decide +kernel) ?_
          refine o_iret hC hB dX7_fold_33 (Nat.le_of_ble_eq_true rfl) (Nat.le_of_ble_eq_true rfl) ?_
          first
          | (have e : sh_fold z q kk j kd = (-2, z) := (if_neg (fun w => w.elim (hz3.elim (fun a => absurd a.1 c_6) (fun a => a.2)) (hz12.elim (fun a => absurd a.1 c_15) (fun a => a.2)))).trans (if_pos (Or.inl c_22)); exact ⟨_, c, rfl, Nat.le_refl _, by omega, hk, (by rw [e]; exact hR), (by rw [e]), cl_fr.rf, Or.inl ⟨rfl, rfl⟩⟩)
          | (have e : sh_fold z q kk j kd = (-2, z) := (if_neg (fun w => w.elim (hz3.elim (fun a => absurd a.1 c_6) (fun a => a.2)) (hz12.elim (fun a => absurd a.1 c_15) (fun a => a.2)))).trans (if_pos (Or.inr c_28)); exact ⟨_, c, rfl, Nat.le_refl _, by omega, hk, (by rw [e]; exact hR), (by rw [e]), cl_fr.rf, Or.inl ⟨rfl, rfl⟩⟩)
    · refine o_iconst (v := (-1 : Int32)) hC dX7_fold_18 (by decide +kernel) ?_
      refine o_iret hC hB dX7_fold_19 (Nat.le_of_ble_eq_true rfl) (Nat.le_of_ble_eq_true rfl) ?_
      first
      | (have e : sh_fold z q kk j kd = (-1, z) := if_pos (Or.inl (hz3.elim (fun a => a.2) (fun a => absurd (c_6.symm.trans a.1) (by decide +kernel)))); exact ⟨_, c, rfl, Nat.le_refl _, by omega, hk, (by rw [e]; exact hR), (by rw [e]), cl_fr.rf, Or.inl ⟨rfl, rfl⟩⟩)
      | (have e : sh_fold z q kk j kd = (-1, z) := if_pos (Or.inr (hz12.elim (fun a => a.2) (fun a => absurd (c_15.symm.trans a.1) (by decide +kernel)))); exact ⟨_, c, rfl, Nat.le_refl _, by omega, hk, (by rw [e]; exact hR), (by rw [e]), cl_fr.rf, Or.inl ⟨rfl, rfl⟩⟩)
end
section
/-! digits; cols -/
theorem dg_least_le : ∀ (f r l : Nat), dg_least f r l ≤ l
  | 0, _, l => Nat.le_refl l
  | f + 1, r, l => by
    unfold dg_least
    split
    · exact Nat.le_refl l
    · refine Nat.le_trans (dg_least_le f _ _) ?_
      split <;> omega
theorem dg_least_ge : ∀ (f r l : Nat), dg_least f r l ≠ 0 → ∀ c : Nat, c < f → r / 10 ^ c ≠ 0 → 1 ≤ r / 10 ^ c % 10
  | 0, _, _, _, c, hc, _ => absurd hc (Nat.not_lt_zero c)
  | f + 1, r, l, h, c, hc, hr => by
    unfold dg_least at h
    split at h
    · rename_i e
      subst e
      rw [Nat.zero_div] at hr
      exact absurd rfl hr
    · cases c with
      | zero =>
        rw [Nat.pow_zero, Nat.div_one]
        have h2 := dg_least_le f (r / 10) (if r % 10 < l then r % 10 else l)
        have h3 : (if r % 10 < l then r % 10 else l) ≤ r % 10 := by split <;> omega
        exact Nat.lt_of_lt_of_le (Nat.pos_of_ne_zero h) (Nat.le_trans h2 h3)
      | succ c =>
        have e : r / 10 ^ (c + 1) = r / 10 / 10 ^ c := by rw [Nat.div_div_eq_div_mul, Nat.pow_succ, Nat.mul_comm]
        rw [e] at hr ⊢
        exact dg_least_ge f _ _ h c (by omega) hr
theorem dg_great_ge : ∀ (f r l : Nat), l ≤ dg_great f r l
  | 0, _, l => Nat.le_refl l
  | f + 1, r, l => by
    unfold dg_great
    split
    · exact Nat.le_refl l
    · refine Nat.le_trans ?_ (dg_great_ge f _ _)
      split <;> omega
theorem dg_great_le : ∀ (f r l : Nat), ∀ c : Nat, c < f → r / 10 ^ c % 10 ≤ dg_great f r l
  | 0, _, _, c, hc => absurd hc (Nat.not_lt_zero c)
  | f + 1, r, l, c, hc => by
    unfold dg_great
    split
    · rename_i e
      subst e
      rw [Nat.zero_div]
      exact Nat.zero_le _
    · cases c with
      | zero =>
        rw [Nat.pow_zero, Nat.div_one]
        refine Nat.le_trans ?_ (dg_great_ge f _ _)
        split <;> omega
      | succ c =>
        have e : r / 10 ^ (c + 1) = r / 10 / 10 ^ c := by rw [Nat.div_div_eq_div_mul, Nat.pow_succ, Nat.mul_comm]
        rw [e]
        exact dg_great_le f _ _ c (by omega)
theorem dg_count_in : ∀ (f r k c : Nat), c < dg_count f r k → k ≤ c → r / 10 ^ (c - k) ≠ 0 ∧ c - k < f
  | 0, _, k, c, h1, h2 => absurd h1 (Nat.not_lt.mpr h2)
  | f + 1, r, k, c, h1, h2 => by
    unfold dg_count at h1
    split at h1
    · omega
    · rename_i e
      rcases Nat.eq_or_lt_of_le h2 with q | q
      · subst q
        rw [Nat.sub_self, Nat.pow_zero, Nat.div_one]
        exact ⟨e, by omega⟩
      · obtain ⟨a, b⟩ := dg_count_in f (r / 10) (k + 1) c h1 q
        have e2 : r / 10 ^ (c - k) = r / 10 / 10 ^ (c - (k + 1)) := by rw [Nat.div_div_eq_div_mul, show c - k = (c - (k + 1)) + 1 by omega, Nat.pow_succ, Nat.mul_comm]
        rw [e2]
        exact ⟨a, by omega⟩
theorem dg_count_ub : ∀ (j f r k : Nat), r < 10 ^ j → dg_count f r k ≤ k + j
  | _, 0, _, k, _ => Nat.le_add_right _ _
  | 0, f + 1, r, k, h => by
    unfold dg_count
    rw [if_pos (by rw [Nat.pow_zero] at h; omega)]
    exact Nat.le_add_right _ _
  | j + 1, f + 1, r, k, h => by
    unfold dg_count
    split
    · exact Nat.le_add_right _ _
    · have := dg_count_ub j f (r / 10) (k + 1) (by rw [Nat.pow_succ] at h; omega)
      omega
theorem dg_count_lb : ∀ (f r k : Nat), k ≤ dg_count f r k
  | 0, _, k => Nat.le_refl k
  | f + 1, r, k => by
    unfold dg_count
    split
    · exact Nat.le_refl k
    · exact Nat.le_trans (Nat.le_succ k) (dg_count_lb f (r / 10) (k + 1))
def sh_cols (z : sh_S) (q d : Int32) : Int32 × sh_S := if sh_nn z q then (-1, z) else if d < nI 1 ∨ (999999 : Int32) < d ∨ dg_least 7 d.toNatClampNeg 9 = 0 then (-2, z) else if sh_w z q < nI (dg_great 7 d.toNatClampNeg 0) then (-1, z) else sh_node z (nI (dg_count 7 d.toNatClampNeg 0))
theorem dg_n7 : ∀ (f r l : Nat), l < 10 → dg_great f r l < 10
  | 0, _, l, h => h
  | f + 1, r, l, h => by
    unfold dg_great
    split
    · exact h
    · exact dg_n7 f _ _ (by split <;> omega)

set_option maxHeartbeats 4000000 in
set_option maxRecDepth 100000 in
theorem cg_X7_cols (l : Launch) (D : va_G) (ids : Nat → ClassId) (H0 : Heap) (h : rl_H) (n : Nat) (x L : Nat) (s : cl_S) (c : cl_N) (z : sh_S) (q d : Int32) (hk : cl_ok ids h n x L s c) (hR : sh_R s c z) : rl_Met l (rl_e D ids H0) rl_BW rl_Ns yX7_cols cX7_cols 3 (some .int) ({ frames := 5, cells := 403, slots := 2892, locals := 102 }) [.ref x, .int q, .int d] h n (fun v h' n' => ∃ (r : Int32) (c' : cl_N), v = some (.int r) ∧ n ≤ n' ∧ n' ≤ n + 403 ∧ cl_ok ids h' n' x L s c' ∧ sh_R s c' (sh_cols z q d).2 ∧ r = (sh_cols z q d).1 ∧ cl_fr h h' x L ∧ cl_ad ids h h' c c' (nI 2) q (-1) (-1) (-1) (nI 0) d) := by
  obtain ⟨hc, k2, k3, k4, k5, k6, k7⟩ := id hk
  obtain ⟨c1, c2, c3, ⟨pn, c4, c5⟩, ⟨pt, c6, c7⟩, c8, c9, c10, c11, c12, c13, c14, c15⟩ := id hc
  refine rl_Met.of (by decide +kernel) (Nat.le_of_ble_eq_true rfl) ?_
  intro X hC hB
  show rl_G X (rl_e D ids H0) 0 [some (.ref x), some (.int q), some (.int d)] [] h n 0 0
  refine o_aload_n hC dX7_cols_0 (by rfl) ?_
  refine o_iload_n hC dX7_cols_1 (by rfl) ?_
  refine o_callV1 hC rl_BW_good rl_Ns_nw (by exact hB.2.2.2.2.2) YX7_isNode IX7_isNode VX7_isNode (mX7_100 hC) (by rw [hB.1]; exact cg_X7_isNode l D ids H0 _ _ x s c _ hc) (by exact c1) rfl rfl (Nat.le_of_ble_eq_true rfl) (by rw [hB.2.1]; first | exact Nat.le_of_ble_eq_true rfl | (dsimp only; omega)) (by rw [hB.2.1]; first | exact Nat.le_of_ble_eq_true rfl | (dsimp only; omega)) (by rw [hB.2.1]; first | exact Nat.le_of_ble_eq_true rfl | (dsimp only; omega)) (by rw [hB.2.1]; first | exact Nat.le_of_ble_eq_true rfl | (dsimp only; omega)) dX7_cols_2 (fun v h_2 n_2 p_2 => ?_)
  obtain ⟨z2, rfl, rfl, rfl, hz2⟩ := p_2
  replace hz2 := sh_R.nnz hk hR hz2
  try dsimp only [Option.toList, List.cons_append, List.nil_append]
  refine o_if_ne (tgt := 10) hC dX7_cols_5 (by decide) (fun c_5 => ?_) (fun c_5 => ?_)
  · have nn : ¬ sh_nn z q := (hz2.elim (fun a => absurd a.1 c_5) (fun a => a.2))
    obtain ⟨j, w, hj, rfl, w1, w2, w3, w4, m1⟩ := sh_R.nd hk hR nn
    unfold cl_nd at m1
    refine o_iload_n hC dX7_cols_10 (by rfl) ?_
    refine o_iconst (v := nI 1) hC dX7_cols_11 (by decide +kernel) ?_
    refine o_icmp_lt (tgt := 28) hC dX7_cols_12 (by decide) (fun c_12 => ?_) (fun c_12 => ?_)
    · refine o_bipush (v := (-2 : Int32)) hC dX7_cols_28 (by decide +kernel) ?_
      refine o_iret hC hB dX7_cols_30 (Nat.le_of_ble_eq_true rfl) (Nat.le_of_ble_eq_true rfl) ?_
      first
      | (have e : sh_cols z (nI j) d = (-2, z) := (if_neg nn).trans (if_pos (Or.inl c_12)); exact ⟨_, c, rfl, Nat.le_refl _, by omega, hk, (by rw [e]; exact hR), (by rw [e]), cl_fr.rf, Or.inl ⟨rfl, rfl⟩⟩)
      | (have e : sh_cols z (nI j) d = (-2, z) := (if_neg nn).trans (if_pos (Or.inr (Or.inl c_18))); exact ⟨_, c, rfl, Nat.le_refl _, by omega, hk, (by rw [e]; exact hR), (by rw [e]), cl_fr.rf, Or.inl ⟨rfl, rfl⟩⟩)
      | (have e : sh_cols z (nI j) (nI N0) = (-2, z) := (if_neg nn).trans (if_pos (Or.inr (Or.inr (by rw [hcl]; exact nI_inj2 (Nat.lt_of_le_of_lt (dg_least_le 7 N0 9) (by decide)) (by decide) c_25)))); exact ⟨_, c, rfl, Nat.le_refl _, by omega, hk, (by rw [e]; exact hR), (by rw [e]), cl_fr.rf, Or.inl ⟨rfl, rfl⟩⟩)
    · refine o_iload_n hC dX7_cols_15 (by rfl) ?_
      refine o_ldc hC nX7_103 dX7_cols_16 ?_
      refine o_icmp_gt (tgt := 28) hC dX7_cols_18 (by decide) (fun c_18 => ?_) (fun c_18 => ?_)
      · refine o_bipush (v := (-2 : Int32)) hC dX7_cols_28 (by decide +kernel) ?_
        refine o_iret hC hB dX7_cols_30 (Nat.le_of_ble_eq_true rfl) (Nat.le_of_ble_eq_true rfl) ?_
        first
        | (have e : sh_cols z (nI j) d = (-2, z) := (if_neg nn).trans (if_pos (Or.inl c_12)); exact ⟨_, c, rfl, Nat.le_refl _, by omega, hk, (by rw [e]; exact hR), (by rw [e]), cl_fr.rf, Or.inl ⟨rfl, rfl⟩⟩)
        | (have e : sh_cols z (nI j) d = (-2, z) := (if_neg nn).trans (if_pos (Or.inr (Or.inl c_18))); exact ⟨_, c, rfl, Nat.le_refl _, by omega, hk, (by rw [e]; exact hR), (by rw [e]), cl_fr.rf, Or.inl ⟨rfl, rfl⟩⟩)
        | (have e : sh_cols z (nI j) (nI N0) = (-2, z) := (if_neg nn).trans (if_pos (Or.inr (Or.inr (by rw [hcl]; exact nI_inj2 (Nat.lt_of_le_of_lt (dg_least_le 7 N0 9) (by decide)) (by decide) c_25)))); exact ⟨_, c, rfl, Nat.le_refl _, by omega, hk, (by rw [e]; exact hR), (by rw [e]), cl_fr.rf, Or.inl ⟨rfl, rfl⟩⟩)
      · obtain ⟨N0, hN0, rfl⟩ := nI_of2 (M := (999999 : Int32)) (n := 999999) (by decide +kernel) (fun w => c_12 (Int32.lt_of_lt_of_le w (by decide +kernel))) (Int32.not_lt.mp c_18)
        have hcl : (nI N0).toNatClampNeg = N0 := rl_cl (N := 1000000) (by omega) (by decide)
        have h7 : N0 < 10 ^ 7 := Nat.lt_of_le_of_lt hN0 (by decide)
        refine o_iload_n hC dX7_cols_21 (by rfl) ?_
        refine o_callS1 hC rl_BW_good rl_Ns_nw (by exact hB.2.2.2.2.2) YX7_leastDigit SX7_leastDigit (mX7_104 hC) (by rw [hB.1]; exact ct_X7_leastDigit l D ids H0 _ _ N0 h7) (Nat.le_of_ble_eq_true rfl) (by rw [hB.2.1]; first | exact Nat.le_of_ble_eq_true rfl | (dsimp only; omega)) (by rw [hB.2.1]; first | exact Nat.le_of_ble_eq_true rfl | (dsimp only; omega)) (by rw [hB.2.1]; first | exact Nat.le_of_ble_eq_true rfl | (dsimp only; omega)) (by rw [hB.2.1]; first | exact Nat.le_of_ble_eq_true rfl | (dsimp only; omega)) dX7_cols_22 (fun v h_22 n_22 p_22 => ?_)
        obtain ⟨rfl, rfl, rfl⟩ := p_22
        try dsimp only [Option.toList, List.cons_append, List.nil_append]
        refine o_if_ne (tgt := 31) hC dX7_cols_25 (by decide) (fun c_25 => ?_) (fun c_25 => ?_)
        · refine o_iload_n hC dX7_cols_31 (by rfl) ?_
          refine o_callS1 hC rl_BW_good rl_Ns_nw (by exact hB.2.2.2.2.2) YX7_greatestDigit SX7_greatestDigit (mX7_107 hC) (by rw [hB.1]; exact ct_X7_greatestDigit l D ids H0 _ _ N0 h7) (Nat.le_of_ble_eq_true rfl) (by rw [hB.2.1]; first | exact Nat.le_of_ble_eq_true rfl | (dsimp only; omega)) (by rw [hB.2.1]; first | exact Nat.le_of_ble_eq_true rfl | (dsimp only; omega)) (by rw [hB.2.1]; first | exact Nat.le_of_ble_eq_true rfl | (dsimp only; omega)) (by rw [hB.2.1]; first | exact Nat.le_of_ble_eq_true rfl | (dsimp only; omega)) dX7_cols_32 (fun v h_32 n_32 p_32 => ?_)
          obtain ⟨rfl, rfl, rfl⟩ := p_32
          try dsimp only [Option.toList, List.cons_append, List.nil_append]
          refine o_aload_n hC dX7_cols_35 (by rfl) ?_
          refine o_getf hC (fX7_25 hC rfl) dX7_cols_36 (by repeat (first | with_reducible assumption | (rw [rl_u_s]; done) | (rw [rl_u_s]; rfl) | rw [rl_u_n (by first | with_reducible assumption | omega)])) (by first | rfl | with_reducible assumption) ?_
          refine o_iload_n hC dX7_cols_39 (by rfl) ?_
          refine o_aaldN (t0 := 5) (k := j) hC rfl dX7_cols_40 c4 (by omega) (by decide) ?_
          rw [c5 _ (by omega), if_pos (by omega)]
          show rl_G X _ _ _ (.ref _ :: _) _ _ _ _
          refine o_getf hC (fX7_97 hC rfl) dX7_cols_41 (by repeat (first | with_reducible assumption | (rw [rl_u_s]; done) | (rw [rl_u_s]; rfl) | rw [rl_u_n (by first | with_reducible assumption | omega)])) (by first | rfl | with_reducible assumption) ?_
          refine o_icmp_le (tgt := 49) hC dX7_cols_44 (by decide) (fun c_44 => ?_) (fun c_44 => ?_)
          · refine o_aload_n hC dX7_cols_49 (by rfl) ?_
            refine o_getf hC (fX7_78 hC rfl) dX7_cols_50 (by repeat (first | with_reducible assumption | (rw [rl_u_s]; done) | (rw [rl_u_s]; rfl) | rw [rl_u_n (by first | with_reducible assumption | omega)])) (by first | rfl | with_reducible assumption) ?_
            refine o_bipush (v := nI 16) hC dX7_cols_53 (by decide +kernel) ?_
            refine o_icmp_lt (tgt := 61) hC dX7_cols_55 (by decide) (fun c_55 => ?_) (fun c_55 => ?_)
            · have h16 : c.2.2.1 < 16 := by
                rcases Nat.lt_or_ge c.2.2.1 16 with w | w
                · exact w
                · exact absurd c_55 (nI_nlt w (by omega))
              refine o_aload_n hC dX7_cols_61 (by rfl) ?_
              refine o_iconst (v := nI 2) hC dX7_cols_62 (by decide +kernel) ?_
              refine o_iload_n hC dX7_cols_63 (by rfl) ?_
              refine o_callS1 hC rl_BW_good rl_Ns_nw (by exact hB.2.2.2.2.2) YX7_digitCount SX7_digitCount (mX7_110 hC) (by rw [hB.1]; exact ct_X7_digitCount l D ids H0 _ _ N0 h7) (Nat.le_of_ble_eq_true rfl) (by rw [hB.2.1]; first | exact Nat.le_of_ble_eq_true rfl | (dsimp only; omega)) (by rw [hB.2.1]; first | exact Nat.le_of_ble_eq_true rfl | (dsimp only; omega)) (by rw [hB.2.1]; first | exact Nat.le_of_ble_eq_true rfl | (dsimp only; omega)) (by rw [hB.2.1]; first | exact Nat.le_of_ble_eq_true rfl | (dsimp only; omega)) dX7_cols_64 (fun v h_64 n_64 p_64 => ?_)
              obtain ⟨rfl, rfl, rfl⟩ := p_64
              try dsimp only [Option.toList, List.cons_append, List.nil_append]
              refine o_iload_n hC dX7_cols_67 (by rfl) ?_
              refine o_iconst (v := (-1 : Int32)) hC dX7_cols_68 (by decide +kernel) ?_
              refine o_callV4 hC rl_BW_good rl_Ns_nw (by exact hB.2.2.2.2.2) YX7_openNode IX7_openNode VX7_openNode (mX7_85 hC) (by rw [hB.1]; exact cg_X7_openNode l D ids H0 _ _ x L s c _ _ _ _ hk h16) (by exact c1) rfl rfl (Nat.le_of_ble_eq_true rfl) (by rw [hB.2.1]; first | exact Nat.le_of_ble_eq_true rfl | (dsimp only; omega)) (by rw [hB.2.1]; first | exact Nat.le_of_ble_eq_true rfl | (dsimp only; omega)) (by rw [hB.2.1]; first | exact Nat.le_of_ble_eq_true rfl | (dsimp only; omega)) (by rw [hB.2.1]; first | exact Nat.le_of_ble_eq_true rfl | (dsimp only; omega)) dX7_cols_69 (fun v h_69 n_69 p_69 => ?_)
              obtain ⟨na, mk, N, rfl, n1, n2, hlt, o1, o2, g0, g1, g2, g3, g8, of, o4, o5, o6, o7⟩ := p_69
              have m2 : h_69 (na c.2.2.1) = some (cl_nd N c.2.2.1) := o1.1.2.2.2.2.2.2.2.2.2.1 _ hlt
              unfold cl_nd at m2
              have zz : x + 70 ≤ na c.2.2.1 := o1.1.2.2.2.2.2.2.2.2.2.2.2.1 _ hlt
              try dsimp only [Option.toList, List.cons_append, List.nil_append]
              refine o_iconst (v := (-1 : Int32)) hC dX7_cols_72 (by decide +kernel) ?_
              refine o_iconst (v := (-1 : Int32)) hC dX7_cols_73 (by decide +kernel) ?_
              refine o_iconst (v := nI 0) hC dX7_cols_74 (by decide +kernel) ?_
              refine o_iload_n hC dX7_cols_75 (by rfl) ?_
              refine o_callV4 hC rl_BW_good rl_Ns_nw (by exact hB.2.2.2.2.2) YX1_detail IX1_detail VX1_detail (mX7_89 hC) (by rw [hB.1]; exact ct_X1_detail l D ids H0 _ _ (na c.2.2.1) _ _ _ _ _ _ _ _ _ _ _ _ _ m2) (by exact m2) rfl rfl (Nat.le_of_ble_eq_true rfl) (by rw [hB.2.1]; first | exact Nat.le_of_ble_eq_true rfl | (dsimp only; omega)) (by rw [hB.2.1]; first | exact Nat.le_of_ble_eq_true rfl | (dsimp only; omega)) (by rw [hB.2.1]; first | exact Nat.le_of_ble_eq_true rfl | (dsimp only; omega)) (by rw [hB.2.1]; first | exact Nat.le_of_ble_eq_true rfl | (dsimp only; omega)) dX7_cols_76 (fun v h_76 n_76 p_76 => ?_)
              obtain ⟨rfl, rfl, d1, d2⟩ := p_76
              have e1 := (d2 x (by omega)).trans o1.1.1
              try dsimp only [Option.toList, List.cons_append, List.nil_append]
              refine o_aload_n hC dX7_cols_79 (by rfl) ?_
              refine o_dup hC dX7_cols_80 rfl ?_
              refine o_getf hC (fX7_78 hC rfl) dX7_cols_81 (by repeat (first | with_reducible assumption | (rw [rl_u_s]; done) | (rw [rl_u_s]; rfl) | rw [rl_u_n (by first | with_reducible assumption | omega)])) (by first | rfl | with_reducible assumption) ?_
              refine o_dup_x1 hC dX7_cols_84 rfl rfl ?_
              refine o_iconst (v := nI 1) hC dX7_cols_85 (by decide +kernel) ?_
              refine o_iadd hC dX7_cols_86 ?_
              rw [nI_add c.2.2.1 1]
              refine o_putf hC (fX7_78 hC rfl) (fwX7 rfl rfl rfl (Or.inl rfl)) dX7_cols_87 (by repeat (first | with_reducible assumption | (rw [rl_u_s]; done) | (rw [rl_u_s]; rfl) | rw [rl_u_n (by first | with_reducible assumption | omega)])) (Nat.le_of_ble_eq_true rfl) ?_
              try simp only [List.set_cons_zero, List.set_cons_succ]
              refine o_iret hC hB dX7_cols_90 (Nat.le_of_ble_eq_true rfl) (Nat.le_of_ble_eq_true rfl) ?_
              (obtain ⟨r1, r2⟩ := o1.add hlt d1 d2 g8 (by
                   have l0 : dg_least 7 N0 9 ≠ 0 := fun w => c_25 (by rw [w]; rfl)
                   have g6 : dg_great 7 N0 0 ≤ 6 := by
                     have := (nI_leI (Nat.lt_trans (dg_n7 7 N0 0 (by decide)) (by decide)) (by omega)).mp (show nI (dg_great 7 N0 0) ≤ nI w by rw [← w3]; exact c_44)
                     omega
                   have u6 : dg_count 7 N0 0 ≤ 0 + 6 := dg_count_ub 6 7 N0 0 (Nat.lt_of_le_of_lt hN0 (by decide))
                   have lb : 1 ≤ dg_count 7 N0 0 := by
                     have n0 : N0 ≠ 0 := fun w => c_12 (by rw [w]; decide +kernel)
                     rw [dg_count, if_neg n0]
                     exact dg_count_lb 6 _ _
                   exact cl_cv.new (op := 2) (w := dg_count 7 N0 0) (w1 := w) (w2 := 0) g0 g1 g2 g3 rfl rfl lb ⟨by decide, by omega, fun q => absurd q (by decide), fun _ => ⟨N0, by omega, rfl, fun c hc => by
                     obtain ⟨a, b⟩ := dg_count_in 7 N0 0 c hc (Nat.zero_le _)
                     exact ⟨dg_least_ge 7 N0 9 l0 c b a, Nat.le_trans (dg_great_le 7 N0 0 c b) g6⟩⟩, fun q => absurd q (by decide), fun q => absurd q (by decide)⟩ (Or.inr ⟨j, hj, rfl⟩) (Or.inl rfl) (fun _ => ⟨j, hj, rfl, by rw [o2 j hj]; exact ⟨w3, w2⟩⟩) (fun q => absurd q (by decide))); obtain ⟨r3, r4⟩ := hR.add (na := na) (mk := mk) (a := -1) (b := -1) (d := nI 0) (e := nI N0) h16 o2 g1; have e : sh_cols z (nI j) (nI N0) = sh_node z (nI (dg_count 7 N0 0)) := ((if_neg nn).trans ((if_neg (fun w => w.elim c_12 (fun w => w.elim c_18 (fun w => c_25 (by rw [hcl] at w; rw [w]; rfl))))).trans (if_neg (fun w => by rw [hcl, w4] at w; rw [w3] at c_44; exact Int32.not_lt.mpr c_44 w)))).trans (by rw [hcl]); exact ⟨_, _, rfl, n1, n2, r1, (by rw [e]; exact r3), (by rw [e]; exact r4.symm), of.tr r2, cl_ad.mk hlt o1.1 (fun q a b => (rl_u_n (by omega)).trans (d2 q a)) o2 g0 g2 g3 g8 o4 o5 o6 o7⟩)
            · refine o_bipush (v := (-4 : Int32)) hC dX7_cols_58 (by decide +kernel) ?_
              refine o_iret hC hB dX7_cols_60 (Nat.le_of_ble_eq_true rfl) (Nat.le_of_ble_eq_true rfl) ?_
              (have e : sh_cols z (nI j) (nI N0) = (-4, z) := ((if_neg nn).trans ((if_neg (fun w => w.elim c_12 (fun w => w.elim c_18 (fun w => c_25 (by rw [hcl] at w; rw [w]; rfl))))).trans (if_neg (fun w => by rw [hcl, w4] at w; rw [w3] at c_44; exact Int32.not_lt.mpr c_44 w)))).trans (sh_node_n (fun w => c_55 (by rw [hR.2.2.2.1]; exact nI_lt w (by decide)))); exact ⟨_, c, rfl, Nat.le_refl _, by omega, hk, (by rw [e]; exact hR), (by rw [e]), cl_fr.rf, Or.inl ⟨rfl, rfl⟩⟩)
          · refine o_iconst (v := (-1 : Int32)) hC dX7_cols_47 (by decide +kernel) ?_
            refine o_iret hC hB dX7_cols_48 (Nat.le_of_ble_eq_true rfl) (Nat.le_of_ble_eq_true rfl) ?_
            (have e : sh_cols z (nI j) (nI N0) = (-1, z) := (if_neg nn).trans ((if_neg (fun w => w.elim c_12 (fun w => w.elim c_18 (fun w => c_25 (by rw [hcl] at w; rw [w]; rfl))))).trans (if_pos (by rw [hcl, w4, ← w3]; exact Int32.not_le.mp c_44))); exact ⟨_, c, rfl, Nat.le_refl _, by omega, hk, (by rw [e]; exact hR), (by rw [e]), cl_fr.rf, Or.inl ⟨rfl, rfl⟩⟩)
        · refine o_bipush (v := (-2 : Int32)) hC dX7_cols_28 (by decide +kernel) ?_
          refine o_iret hC hB dX7_cols_30 (Nat.le_of_ble_eq_true rfl) (Nat.le_of_ble_eq_true rfl) ?_
          first
          | (have e : sh_cols z (nI j) d = (-2, z) := (if_neg nn).trans (if_pos (Or.inl c_12)); exact ⟨_, c, rfl, Nat.le_refl _, by omega, hk, (by rw [e]; exact hR), (by rw [e]), cl_fr.rf, Or.inl ⟨rfl, rfl⟩⟩)
          | (have e : sh_cols z (nI j) d = (-2, z) := (if_neg nn).trans (if_pos (Or.inr (Or.inl c_18))); exact ⟨_, c, rfl, Nat.le_refl _, by omega, hk, (by rw [e]; exact hR), (by rw [e]), cl_fr.rf, Or.inl ⟨rfl, rfl⟩⟩)
          | (have e : sh_cols z (nI j) (nI N0) = (-2, z) := (if_neg nn).trans (if_pos (Or.inr (Or.inr (by rw [hcl]; exact nI_inj2 (Nat.lt_of_le_of_lt (dg_least_le 7 N0 9) (by decide)) (by decide) c_25)))); exact ⟨_, c, rfl, Nat.le_refl _, by omega, hk, (by rw [e]; exact hR), (by rw [e]), cl_fr.rf, Or.inl ⟨rfl, rfl⟩⟩)
  · refine o_iconst (v := (-1 : Int32)) hC dX7_cols_8 (by decide +kernel) ?_
    refine o_iret hC hB dX7_cols_9 (Nat.le_of_ble_eq_true rfl) (Nat.le_of_ble_eq_true rfl) ?_
    (have e : sh_cols z q d = (-1, z) := if_pos (hz2.elim (fun a => a.2) (fun a => absurd (c_5.symm.trans a.1) (by decide +kernel))); exact ⟨_, c, rfl, Nat.le_refl _, by omega, hk, (by rw [e]; exact hR), (by rw [e]), cl_fr.rf, Or.inl ⟨rfl, rfl⟩⟩)
end
section
/-! RowLineage in every state: neededNodes, run -/
theorem nb_and (a b s : Int64) : ((a ||| b) >>> s) &&& 1 = ((a >>> s) &&& 1) ||| ((b >>> s) &&& 1) := by
  apply Int64.toBitVec_inj.mp
  simp only [Int64.toBitVec_and, Int64.toBitVec_or, Int64.toBitVec_shiftRight, BitVec.sshiftRight_eq', BitVec.sshiftRight_or_distrib]
  ext i
  simp [Bool.and_or_distrib_right]
theorem nb_zero (a b : Int64) : a ||| b = 0 ↔ a = 0 ∧ b = 0 := by
  rw [← Int64.toBitVec_inj, ← Int64.toBitVec_inj, ← Int64.toBitVec_inj, Int64.toBitVec_or]
  exact BitVec.or_eq_zero_iff
/-- bit k is there -/
abbrev nb (b : Int64) (k : Nat) : Prop := ¬ lg_cmp ((b >>> ((nI k).toInt64 &&& 63)) &&& 1) 0 = 0
theorem nb_or (a b : Int64) (k : Nat) : nb (a ||| b) k ↔ nb a k ∨ nb b k := by
  unfold nb
  rw [nb_and, lg_cmp_eq, lg_cmp_eq, lg_cmp_eq, nb_zero]
  by_cases h1 : a >>> ((nI k).toInt64 &&& 63) &&& 1 = 0
  · by_cases h2 : b >>> ((nI k).toInt64 &&& 63) &&& 1 = 0
    · simp only [h1, h2]; decide
    · simp only [h1, h2]; decide
  · simp only [h1]; simp
abbrev nb_bit (i : Nat) : Int64 := (1 : Int64) <<< ((nI i).toInt64 &&& 63)
theorem nb_self : ∀ i : Nat, i < 16 → nb (nb_bit i) i := by decide +kernel
theorem nb_else : ∀ i : Nat, i < 16 → ∀ k : Nat, k < 16 → i ≠ k → ¬ nb (nb_bit i) k := by decide +kernel
theorem nb_0 : ∀ k : Nat, k < 16 → ¬ nb 0 k := by decide +kernel
/-- what node k is made of is needed with it -/
def nb_np (N : Nat → Nat → Int32) (b : Int64) (k : Nat) : Prop := nb b k → ∀ i : Nat, i < k → (N k 2 = nI i ∨ N k 3 = nI i) → nb b i

set_option maxHeartbeats 4000000 in
set_option maxRecDepth 100000 in
theorem cb_X7_bitOfNode (l : Launch) (D : va_G) (ids : Nat → ClassId) (H0 : Heap) (h : rl_H) (n : Nat) (x : Nat) (s : cl_S) (c : cl_N) (q : Int32) (hc : cl_at ids h x s c) : rl_Met l (rl_e D ids H0) rl_BW rl_Ns yX7_bitOfNode cX7_bitOfNode 2 (some .long) ({ frames := 1, cells := 0, slots := 0, locals := 21 }) [.ref x, .int q] h n (fun v h' n' => ∃ r : Int64, v = some (.long r) ∧ h' = h ∧ n' = n ∧ ((r = 0 ∧ ¬ (∃ j : Nat, j < c.2.2.1 ∧ q = nI j)) ∨ ∃ j : Nat, j < c.2.2.1 ∧ q = nI j ∧ r = nb_bit j)) := by
  obtain ⟨c1, c2, c3, ⟨pn, c4, c5⟩, ⟨pt, c6, c7⟩, c8, c9, c10, c11, c12, c13, c14, c15⟩ := id hc
  refine rl_Met.of (by decide +kernel) (Nat.le_of_ble_eq_true rfl) ?_
  intro X hC hB
  show rl_G X (rl_e D ids H0) 0 [some (.ref x), some (.int q)] [] h n 0 0
  refine o_aload_n hC dX7_bitOfNode_0 (by rfl) ?_
  refine o_iload_n hC dX7_bitOfNode_1 (by rfl) ?_
  refine o_callV1 hC rl_BW_good rl_Ns_nw (by exact hB.2.2.2.2.2) YX7_isNode IX7_isNode VX7_isNode (mX7_100 hC) (by rw [hB.1]; exact cg_X7_isNode l D ids H0 _ _ x s c _ hc) (by exact c1) rfl rfl (Nat.le_of_ble_eq_true rfl) (by rw [hB.2.1]; first | exact Nat.le_of_ble_eq_true rfl | (dsimp only; omega)) (by rw [hB.2.1]; first | exact Nat.le_of_ble_eq_true rfl | (dsimp only; omega)) (by rw [hB.2.1]; first | exact Nat.le_of_ble_eq_true rfl | (dsimp only; omega)) (by rw [hB.2.1]; first | exact Nat.le_of_ble_eq_true rfl | (dsimp only; omega)) dX7_bitOfNode_2 (fun v h_2 n_2 p_2 => ?_)
  obtain ⟨z, rfl, rfl, rfl, hz⟩ := p_2
  try dsimp only [Option.toList, List.cons_append, List.nil_append]
  refine o_if_eq (tgt := 14) hC dX7_bitOfNode_5 (by decide) (fun c_5 => ?_) (fun c_5 => ?_)
  · refine o_lconst (v := 0) hC dX7_bitOfNode_14 (by decide +kernel) ?_
    refine o_lret hC hB dX7_bitOfNode_15 (Nat.le_of_ble_eq_true rfl) (Nat.le_of_ble_eq_true rfl) ?_
    first
    | exact ⟨_, rfl, rfl, rfl, Or.inl ⟨rfl, hz.elim (fun q => q.2) (fun q => absurd (c_5.symm.trans q.1) (by decide +kernel))⟩⟩
    | exact (hz.elim (fun q => absurd q.1 c_5) (fun q => q.2)).elim (fun j hj => ⟨_, rfl, rfl, rfl, Or.inr ⟨j, hj.1, hj.2, by rw [hj.2]⟩⟩)
  · refine o_lconst (v := 1) hC dX7_bitOfNode_8 (by decide +kernel) ?_
    refine o_iload_n hC dX7_bitOfNode_9 (by rfl) ?_
    refine o_lshl hC dX7_bitOfNode_10 ?_
    refine o_goto (tgt := 15) hC dX7_bitOfNode_11 (by decide) ?_
    refine o_lret hC hB dX7_bitOfNode_15 (Nat.le_of_ble_eq_true rfl) (Nat.le_of_ble_eq_true rfl) ?_
    first
    | exact ⟨_, rfl, rfl, rfl, Or.inl ⟨rfl, hz.elim (fun q => q.2) (fun q => absurd (c_5.symm.trans q.1) (by decide +kernel))⟩⟩
    | exact (hz.elim (fun q => absurd q.1 c_5) (fun q => q.2)).elim (fun j hj => ⟨_, rfl, rfl, rfl, Or.inr ⟨j, hj.1, hj.2, by rw [hj.2]⟩⟩)

set_option maxHeartbeats 4000000 in
set_option maxRecDepth 100000 in
theorem cg_X7_neededNodes (l : Launch) (D : va_G) (ids : Nat → ClassId) (H0 : Heap) (h : rl_H) (n : Nat) (x L : Nat) (s : cl_S) (c : cl_N) (j : Nat) (hk : cl_ok ids h n x L s c) (hj : j < c.2.2.1) : rl_Met l (rl_e D ids H0) rl_BW rl_Ns yX7_neededNodes cX7_neededNodes 5 (some .long) ({ frames := 2, cells := 0, slots := 0, locals := 42 }) [.ref x, .int (nI j)] h n (fun v h' n' => ∃ b : Int64, v = some (.long b) ∧ h' = h ∧ n' = n ∧ ∀ k : Nat, k ≤ j → nb_np c.2.2.2.1 b k) := by
  obtain ⟨hc, k2, k3, k4, k5, k6, k7⟩ := id hk
  obtain ⟨c1, c2, c3, ⟨pn, c4, c5⟩, ⟨pt, c6, c7⟩, c8, c9, c10, c11, c12, c13, c14, c15⟩ := id hc
  refine rl_Met.of (by decide +kernel) (Nat.le_of_ble_eq_true rfl) ?_
  intro X hC hB
  have loop : ∀ (t : Nat) (b : Int64), t ≤ j + 1 → (∀ k : Nat, t ≤ k → k ≤ j → nb_np c.2.2.2.1 b k) → rl_G X (rl_e D ids H0) 7 [some (.ref x), some (.int (nI j)), some (.long b), none, some (.int (nI t + Int32.ofInt (-1)))] [] h n 0 0 := by
    intro t
    induction t with
    | zero =>
      intro b ht hp
      refine o_iload hC dX7_neededNodes_7 (by rfl) ?_
      refine o_if_lt (tgt := 61) hC dX7_neededNodes_9 (by decide) (fun c_9 => ?_) (fun c_9 => ?_)
      · refine o_lload_n hC dX7_neededNodes_61 (by rfl) ?_
        refine o_lret hC hB dX7_neededNodes_62 (Nat.le_of_ble_eq_true rfl) (Nat.le_of_ble_eq_true rfl) ?_
        exact ⟨_, rfl, rfl, rfl, fun k hk => hp k (Nat.zero_le _) hk⟩
      · exact absurd (by decide +kernel) c_9
    | succ t ih =>
      intro b ht hp
      rw [rl_dec t]
      have nc16 := cl_nc hk
      have m1 := c12 t (by omega)
      unfold cl_nd at m1
      obtain ⟨op, w, w1, w2, -, -, -, -, ⟨f1, f2⟩, -, -⟩ := k6 t (by omega)
      refine o_iload hC dX7_neededNodes_7 (by rfl) ?_
      refine o_if_lt (tgt := 61) hC dX7_neededNodes_9 (by decide) (fun c_9 => ?_) (fun c_9 => ?_)
      · exact absurd c_9 (nI_pos (by omega))
      · refine o_lload_n hC dX7_neededNodes_12 (by rfl) ?_
        refine o_iload hC dX7_neededNodes_13 (by rfl) ?_
        refine o_lshr hC dX7_neededNodes_15 ?_
        refine o_lconst (v := 1) hC dX7_neededNodes_16 (by decide +kernel) ?_
        refine o_land hC dX7_neededNodes_17 ?_
        refine o_lconst (v := 0) hC dX7_neededNodes_18 (by decide +kernel) ?_
        refine o_lcmp hC dX7_neededNodes_19 ?_
        refine o_if_eq (tgt := 55) hC dX7_neededNodes_20 (by decide) (fun c_20 => ?_) (fun c_20 => ?_)
        · refine o_iinc hC dX7_neededNodes_55 (by rfl) rfl (Nat.le_of_ble_eq_true rfl) ?_
          refine o_goto (tgt := 7) hC dX7_neededNodes_58 (by decide) ?_
          refine ih _ (by omega) (fun k g1 g2 => ?_)
          by_cases e : k = t
          · subst e
            first
            | exact fun w => absurd c_20 w
            | (intro w i hi hp
               have ii : i < c.2.2.1 := by omega
               rw [nb_or, nb_or]
               rcases hp with hp | hp
               · rcases hr35 with ⟨-, u⟩ | ⟨i2, u1, u2, rfl⟩
                 · exact absurd ⟨i, ii, hp⟩ u
                 · have := nI_inj2 (by omega) (by omega) (hp.symm.trans u2)
                   subst this
                   exact Or.inr (Or.inl (nb_self _ (by omega)))
               · rcases hr49 with ⟨-, u⟩ | ⟨i2, u1, u2, rfl⟩
                 · exact absurd ⟨i, ii, hp⟩ u
                 · have := nI_inj2 (by omega) (by omega) (hp.symm.trans u2)
                   subst this
                   exact Or.inr (Or.inr (nb_self _ (by omega))))
          · first
            | exact hp k (by omega) g2
            | (intro w i hi hq
               rw [nb_or, nb_or] at w
               have w0 : nb b k := by
                 rcases w with w | w | w
                 · exact w
                 · rcases hr35 with ⟨rfl, u⟩ | ⟨i2, u1, u2, rfl⟩
                   · exact absurd w (nb_0 k (by omega))
                   · rcases f1 with f1 | ⟨i3, f3, f4⟩
                     · exact absurd (f1.symm.trans u2) (fun z => absurd (z ▸ (show (-1 : Int32) < 0 by decide +kernel)) (nI_pos (by omega)))
                     · have := nI_inj2 (by omega) (by omega) (f4.symm.trans u2)
                       exact absurd w (nb_else i2 (by omega) k (by omega) (by omega))
                 · rcases hr49 with ⟨rfl, u⟩ | ⟨i2, u1, u2, rfl⟩
                   · exact absurd w (nb_0 k (by omega))
                   · rcases f2 with f1 | ⟨i3, f3, f4⟩
                     · exact absurd (f1.symm.trans u2) (fun z => absurd (z ▸ (show (-1 : Int32) < 0 by decide +kernel)) (nI_pos (by omega)))
                     · have := nI_inj2 (by omega) (by omega) (f4.symm.trans u2)
                       exact absurd w (nb_else i2 (by omega) k (by omega) (by omega))
               rw [nb_or]
               exact Or.inl (hp k (by omega) g2 w0 i hi hq))
        · refine o_lload_n hC dX7_neededNodes_23 (by rfl) ?_
          refine o_aload_n hC dX7_neededNodes_24 (by rfl) ?_
          refine o_aload_n hC dX7_neededNodes_25 (by rfl) ?_
          refine o_getf hC (fX7_25 hC rfl) dX7_neededNodes_26 (by repeat (first | with_reducible assumption | (rw [rl_u_s]; done) | (rw [rl_u_s]; rfl) | rw [rl_u_n (by first | with_reducible assumption | omega)])) (by first | rfl | with_reducible assumption) ?_
          refine o_iload hC dX7_neededNodes_29 (by rfl) ?_
          refine o_aaldN (t0 := 5) (k := t) hC rfl dX7_neededNodes_31 c4 (by omega) (by decide) ?_
          rw [c5 _ (by omega), if_pos (by omega)]
          show rl_G X _ _ _ (.ref _ :: _) _ _ _ _
          refine o_getf hC (fX7_124 hC rfl) dX7_neededNodes_32 (by repeat (first | with_reducible assumption | (rw [rl_u_s]; done) | (rw [rl_u_s]; rfl) | rw [rl_u_n (by first | with_reducible assumption | omega)])) (by first | rfl | with_reducible assumption) ?_
          refine o_callV1 hC rl_BW_good rl_Ns_nw (by exact hB.2.2.2.2.2) YX7_bitOfNode IX7_bitOfNode VX7_bitOfNode (mX7_233 hC) (by rw [hB.1]; exact cb_X7_bitOfNode l D ids H0 _ _ x s c _ hc) (by exact c1) rfl rfl (Nat.le_of_ble_eq_true rfl) (by rw [hB.2.1]; first | exact Nat.le_of_ble_eq_true rfl | (dsimp only; omega)) (by rw [hB.2.1]; first | exact Nat.le_of_ble_eq_true rfl | (dsimp only; omega)) (by rw [hB.2.1]; first | exact Nat.le_of_ble_eq_true rfl | (dsimp only; omega)) (by rw [hB.2.1]; first | exact Nat.le_of_ble_eq_true rfl | (dsimp only; omega)) dX7_neededNodes_35 (fun v h_35 n_35 p_35 => ?_)
          obtain ⟨r35, rfl, rfl, rfl, hr35⟩ := p_35
          try dsimp only [Option.toList, List.cons_append, List.nil_append]
          refine o_aload_n hC dX7_neededNodes_38 (by rfl) ?_
          refine o_aload_n hC dX7_neededNodes_39 (by rfl) ?_
          refine o_getf hC (fX7_25 hC rfl) dX7_neededNodes_40 (by repeat (first | with_reducible assumption | (rw [rl_u_s]; done) | (rw [rl_u_s]; rfl) | rw [rl_u_n (by first | with_reducible assumption | omega)])) (by first | rfl | with_reducible assumption) ?_
          refine o_iload hC dX7_neededNodes_43 (by rfl) ?_
          refine o_aaldN (t0 := 5) (k := t) hC rfl dX7_neededNodes_45 c4 (by omega) (by decide) ?_
          rw [c5 _ (by omega), if_pos (by omega)]
          show rl_G X _ _ _ (.ref _ :: _) _ _ _ _
          refine o_getf hC (fX7_131 hC rfl) dX7_neededNodes_46 (by repeat (first | with_reducible assumption | (rw [rl_u_s]; done) | (rw [rl_u_s]; rfl) | rw [rl_u_n (by first | with_reducible assumption | omega)])) (by first | rfl | with_reducible assumption) ?_
          refine o_callV1 hC rl_BW_good rl_Ns_nw (by exact hB.2.2.2.2.2) YX7_bitOfNode IX7_bitOfNode VX7_bitOfNode (mX7_233 hC) (by rw [hB.1]; exact cb_X7_bitOfNode l D ids H0 _ _ x s c _ hc) (by exact c1) rfl rfl (Nat.le_of_ble_eq_true rfl) (by rw [hB.2.1]; first | exact Nat.le_of_ble_eq_true rfl | (dsimp only; omega)) (by rw [hB.2.1]; first | exact Nat.le_of_ble_eq_true rfl | (dsimp only; omega)) (by rw [hB.2.1]; first | exact Nat.le_of_ble_eq_true rfl | (dsimp only; omega)) (by rw [hB.2.1]; first | exact Nat.le_of_ble_eq_true rfl | (dsimp only; omega)) dX7_neededNodes_49 (fun v h_49 n_49 p_49 => ?_)
          obtain ⟨r49, rfl, rfl, rfl, hr49⟩ := p_49
          try dsimp only [Option.toList, List.cons_append, List.nil_append]
          refine o_lor hC dX7_neededNodes_52 ?_
          refine o_lor hC dX7_neededNodes_53 ?_
          refine o_lstore_n hC dX7_neededNodes_54 (Nat.le_of_ble_eq_true rfl) ?_
          refine o_iinc hC dX7_neededNodes_55 (by rfl) rfl (Nat.le_of_ble_eq_true rfl) ?_
          refine o_goto (tgt := 7) hC dX7_neededNodes_58 (by decide) ?_
          refine ih _ (by omega) (fun k g1 g2 => ?_)
          by_cases e : k = t
          · subst e
            first
            | exact fun w => absurd c_20 w
            | (intro w i hi hp
               have ii : i < c.2.2.1 := by omega
               rw [nb_or, nb_or]
               rcases hp with hp | hp
               · rcases hr35 with ⟨-, u⟩ | ⟨i2, u1, u2, rfl⟩
                 · exact absurd ⟨i, ii, hp⟩ u
                 · have := nI_inj2 (by omega) (by omega) (hp.symm.trans u2)
                   subst this
                   exact Or.inr (Or.inl (nb_self _ (by omega)))
               · rcases hr49 with ⟨-, u⟩ | ⟨i2, u1, u2, rfl⟩
                 · exact absurd ⟨i, ii, hp⟩ u
                 · have := nI_inj2 (by omega) (by omega) (hp.symm.trans u2)
                   subst this
                   exact Or.inr (Or.inr (nb_self _ (by omega))))
          · first
            | exact hp k (by omega) g2
            | (intro w i hi hq
               rw [nb_or, nb_or] at w
               have w0 : nb b k := by
                 rcases w with w | w | w
                 · exact w
                 · rcases hr35 with ⟨rfl, u⟩ | ⟨i2, u1, u2, rfl⟩
                   · exact absurd w (nb_0 k (by omega))
                   · rcases f1 with f1 | ⟨i3, f3, f4⟩
                     · exact absurd (f1.symm.trans u2) (fun z => absurd (z ▸ (show (-1 : Int32) < 0 by decide +kernel)) (nI_pos (by omega)))
                     · have := nI_inj2 (by omega) (by omega) (f4.symm.trans u2)
                       exact absurd w (nb_else i2 (by omega) k (by omega) (by omega))
                 · rcases hr49 with ⟨rfl, u⟩ | ⟨i2, u1, u2, rfl⟩
                   · exact absurd w (nb_0 k (by omega))
                   · rcases f2 with f1 | ⟨i3, f3, f4⟩
                     · exact absurd (f1.symm.trans u2) (fun z => absurd (z ▸ (show (-1 : Int32) < 0 by decide +kernel)) (nI_pos (by omega)))
                     · have := nI_inj2 (by omega) (by omega) (f4.symm.trans u2)
                       exact absurd w (nb_else i2 (by omega) k (by omega) (by omega))
               rw [nb_or]
               exact Or.inl (hp k (by omega) g2 w0 i hi hq))
  show rl_G X (rl_e D ids H0) 0 [some (.ref x), some (.int (nI j)), none, none, none] [] h n 0 0
  refine o_lconst (v := 1) hC dX7_neededNodes_0 (by decide +kernel) ?_
  refine o_iload_n hC dX7_neededNodes_1 (by rfl) ?_
  refine o_lshl hC dX7_neededNodes_2 ?_
  refine o_lstore_n hC dX7_neededNodes_3 (Nat.le_of_ble_eq_true rfl) ?_
  refine o_iload_n hC dX7_neededNodes_4 (by rfl) ?_
  refine o_istore hC dX7_neededNodes_5 (Nat.le_of_ble_eq_true rfl) ?_
  have lp := loop (j + 1) ((1 : Int64) <<< ((nI j).toInt64 &&& 63)) (Nat.le_refl _) (fun k g1 g2 => absurd g1 (by omega))
  rw [rl_dec j] at lp
  exact lp

/-- the state of a Node is another -/
def cl_st (N : Nat → Nat → Int32) (t : Nat) (v : Int32) : Nat → Nat → Int32 := fun k f => if k = t ∧ f = 8 then v else N k f
theorem cl_st_8 {N : Nat → Nat → Int32} {t : Nat} {v : Int32} {k f : Nat} (h : f < 8) : cl_st N t v k f = N k f := if_neg (by omega)
theorem cl_ok.fl {ids : Nat → ClassId} {h h2 : rl_H} {n x L t w : Nat} {s : cl_S} {c : cl_N} (H : cl_ok ids h n x L s c) (ht : t < c.2.2.1) (hw : c.2.2.2.1 t 1 = nI w) (hw6 : w ≤ 6) (g1 : ∃ gp : Nat → Option Nat, op_sh ids h2 (x + 41) (x + 1) gp) (g2 : tb_ok ids h2 (c.1 t + 1) w) (g3 : rl_g2 h h2 (x + 41) (x + 41 + 22) (c.1 t + 1) (c.1 t + 1 + 402)) (v : Int32) : cl_ok ids (rl_u h2 (c.1 t) (cl_nd (cl_st c.2.2.2.1 t v) t)) n x L s (c.1, c.2.1, c.2.2.1, cl_st c.2.2.2.1 t v, c.2.2.2.2.1, c.2.2.2.2.2) ∧ cl_fr h (rl_u h2 (c.1 t) (cl_nd (cl_st c.2.2.2.1 t v) t)) x L := by
  have nc16 := cl_nc H
  obtain ⟨k1, k2, k3, k4, k5, k6, k7⟩ := H
  have htm : t < c.2.1 := by omega
  have z := k4 t htm
  have e2 : cl_at ids h2 x s c := by
    obtain ⟨c1, c2, -, ⟨pn, c4, c5⟩, ⟨pt, c6, c7⟩, c8, c9, c10, c11, c12, c13, c14, c15⟩ := k1
    refine ⟨(g3 x (by omega) (by omega)).trans c1, c2.eqv (fun q a b => g3 q (by omega) (by omega)), g1, ⟨pn, (g3 _ (by omega) (by omega)).trans c4, c5⟩, ⟨pt, (g3 _ (by omega) (by omega)).trans c6, c7⟩, (g3 _ (by omega) (by omega)).trans c8, c9.eqv (fun q a b => g3 q (by omega) (by omega)), c10, c11, fun k hk => ?_, fun k hk => ?_, c14, c15⟩
    · have y1 := k4 k hk
      refine (g3 _ (by omega) ?_).trans (c12 k hk)
      rcases Nat.lt_trichotomy k t with q | q | q
      · have := c15 k t q htm
        omega
      · subst q
        omega
      · have := c15 t k q hk
        omega
    · by_cases q : k = t
      · subst q
        exact ⟨_, g2⟩
      · obtain ⟨wd, hw⟩ := c13 k hk
        have y1 := k4 k hk
        refine ⟨wd, hw.eqv (fun q a b => g3 q (by omega) ?_)⟩
        rcases Nat.lt_or_gt_of_ne ‹k ≠ t› with u | u
        · have := c15 k t u htm
          omega
        · have := c15 t k u hk
          omega
  have c15 := k1.2.2.2.2.2.2.2.2.2.2.2.2
  refine ⟨⟨e2.nd htm (cl_st c.2.2.2.1 t v) rl_u_s (fun i hi => ?_) (fun q hq => rl_u_n hq), k2, k3, k4, k5, fun k hk => ?_, fun k hk a0 w' b0 e0 => ?_⟩, fun q a b => ?_⟩
  · funext f
    exact if_neg (fun q => hi q.1)
  · exact (k6 k hk).of (fun i _ f hf => cl_st_8 hf)
  · have hk : k < c.2.2.1 := hk
    have a : cl_st c.2.2.2.1 t v k 8 ≠ nI 0 := a0
    have b : w' ≤ 6 := b0
    have e : c.2.2.2.1 k 1 = nI w' := (cl_st_8 (by decide)).symm.trans e0
    clear e0
    by_cases q : k = t
    · subst q
      have := nI_inj2 (by omega) (by omega) (hw.symm.trans e)
      subst this
      exact g2.eqv (fun q a b => rl_u_n (by have a : c.1 k + 1 ≤ q := a; omega))
    · have a2 : c.2.2.2.1 k 8 ≠ nI 0 := fun u => a ((if_neg (fun w => q w.1)).trans u)
      have y1 := k4 k (by omega)
      refine (k7 k hk a2 w' b e).eqv (fun q2 a b => ?_)
      have a : c.1 k + 1 ≤ q2 := a
      have b : q2 < c.1 k + 1 + 402 := b
      rcases Nat.lt_or_gt_of_ne q with u | u
      · have := c15 k t u htm
        rw [rl_u_n (by omega), g3 q2 (by omega) (by omega)]
      · have := c15 t k u (by omega)
        rw [rl_u_n (by omega), g3 q2 (by omega) (by omega)]
  · rw [rl_u_n (by omega), g3 q (by omega) (by omega)]
theorem cl_ok.rs {ids : Nat → ClassId} {h : rl_H} {n x L : Nat} {s : cl_S} {c : cl_N} (H : cl_ok ids h n x L s c) (rs : Int32) (pr : Int64) : cl_ok ids (rl_u h x (.inr (7, [.ref (x + 1), .ref (x + 41), .ref (x + 63), .ref (x + 64), .ref (x + 65), .ref (x + 67), .int (nI c.2.2.1), .int rs, .long pr]))) n x L s (c.1, c.2.1, c.2.2.1, c.2.2.2.1, rs, pr) := by
  have nc16 := cl_nc H
  obtain ⟨k1, k2, k3, k4, k5, k6, k7⟩ := H
  refine ⟨k1.rp rs pr, k2, k3, k4, k5, k6, fun k hk a w b e => (k7 k hk a w b e).eqv (fun q a b => rl_u_n ?_)⟩
  have hk : k < c.2.2.1 := hk
  have := k4 k (by omega)
  have a : c.1 k + 1 ≤ q := a
  omega

theorem cl_nd_st (N : Nat → Nat → Int32) (t : Nat) (v : Int32) : cl_nd (cl_st N t v) t = .inr (1, [.int (N t 0), .int (N t 1), .int (N t 2), .int (N t 3), .int (N t 4), .int (N t 5), .int (N t 6), .int (N t 7), .int v]) := by
  unfold cl_nd cl_st
  simp

set_option maxHeartbeats 4000000 in
set_option maxRecDepth 100000 in
theorem cg_X7_run (l : Launch) (D : va_G) (ids : Nat → ClassId) (H0 : Heap) (h : rl_H) (n : Nat) (x L : Nat) (s : cl_S) (c : cl_N) (q : Int32) (hk : cl_ok ids h n x L s c) : rl_Met l (rl_e D ids H0) rl_BW rl_Ns yX7_run cX7_run 9 (some .int) ({ frames := 7, cells := 0, slots := 0, locals := 226 }) [.ref x, .int q] h n (fun v h' n' => ∃ (r : Int32) (N' : Nat → Nat → Int32) (rs : Int32), v = some (.int r) ∧ n' = n ∧ cl_ok ids h' n x L s (c.1, c.2.1, c.2.2.1, N', rs, c.2.2.2.2.2) ∧ (∀ k f : Nat, f < 8 → N' k f = c.2.2.2.1 k f) ∧ cl_fr h h' x L) := by
  obtain ⟨hc, k2, k3, k4, k5, k6, k7⟩ := id hk
  obtain ⟨c1, c2, c3, ⟨pn, c4, c5⟩, ⟨pt, c6, c7⟩, c8, c9, c10, c11, c12, c13, c14, c15⟩ := id hc
  refine rl_Met.of (by decide +kernel) (Nat.le_of_ble_eq_true rfl) ?_
  intro X hC hB
  show rl_G X (rl_e D ids H0) 0 [some (.ref x), some (.int q), none, none, none, none, none, none, none] [] h n 0 0
  refine o_aload_n hC dX7_run_0 (by rfl) ?_
  refine o_iload_n hC dX7_run_1 (by rfl) ?_
  refine o_callV1 hC rl_BW_good rl_Ns_nw (by exact hB.2.2.2.2.2) YX7_isNode IX7_isNode VX7_isNode (mX7_100 hC) (by rw [hB.1]; exact cg_X7_isNode l D ids H0 _ _ x s c _ hc) (by exact c1) rfl rfl (Nat.le_of_ble_eq_true rfl) (by rw [hB.2.1]; first | exact Nat.le_of_ble_eq_true rfl | (dsimp only; omega)) (by rw [hB.2.1]; first | exact Nat.le_of_ble_eq_true rfl | (dsimp only; omega)) (by rw [hB.2.1]; first | exact Nat.le_of_ble_eq_true rfl | (dsimp only; omega)) (by rw [hB.2.1]; first | exact Nat.le_of_ble_eq_true rfl | (dsimp only; omega)) dX7_run_2 (fun v h_2 n_2 p_2 => ?_)
  obtain ⟨z, rfl, rfl, rfl, hz⟩ := p_2
  try dsimp only [Option.toList, List.cons_append, List.nil_append]
  refine o_if_ne (tgt := 10) hC dX7_run_5 (by decide) (fun c_5 => ?_) (fun c_5 => ?_)
  · have nc16 := cl_nc hk
    obtain ⟨j, hj, rfl⟩ : (∃ j : Nat, j < c.2.2.1 ∧ q = nI j) := hz.elim (fun q => absurd q.1 c_5) (fun q => q.2)
    refine o_aload_n hC dX7_run_10 (by rfl) ?_
    refine o_iload_n hC dX7_run_11 (by rfl) ?_
    refine o_callV1 hC rl_BW_good rl_Ns_nw (by exact hB.2.2.2.2.2) YX7_neededNodes IX7_neededNodes VX7_neededNodes (mX7_117 hC) (by rw [hB.1]; exact cg_X7_neededNodes l D ids H0 _ _ x L s c j hk hj) (by exact c1) rfl rfl (Nat.le_of_ble_eq_true rfl) (by rw [hB.2.1]; first | exact Nat.le_of_ble_eq_true rfl | (dsimp only; omega)) (by rw [hB.2.1]; first | exact Nat.le_of_ble_eq_true rfl | (dsimp only; omega)) (by rw [hB.2.1]; first | exact Nat.le_of_ble_eq_true rfl | (dsimp only; omega)) (by rw [hB.2.1]; first | exact Nat.le_of_ble_eq_true rfl | (dsimp only; omega)) dX7_run_12 (fun v h_12 n_12 p_12 => ?_)
    obtain ⟨b, rfl, rfl, rfl, hp⟩ := p_12
    try dsimp only [Option.toList, List.cons_append, List.nil_append]
    refine o_lstore_n hC dX7_run_15 (Nat.le_of_ble_eq_true rfl) ?_
    refine o_iconst (v := nI 0) hC dX7_run_16 (by decide +kernel) ?_
    refine o_istore hC dX7_run_17 (Nat.le_of_ble_eq_true rfl) ?_
    have loop : ∀ (m t : Nat) (h1 : rl_H) (N1 : Nat → Nat → Int32) (o5 o6 o7 o8 : Option Value), t + m = j + 1 → cl_ok ids h1 n_12 x L s (c.1, c.2.1, c.2.2.1, N1, c.2.2.2.2.1, c.2.2.2.2.2) → (∀ k f : Nat, f < 8 → N1 k f = c.2.2.2.1 k f) → (∀ k : Nat, k < t → nb b k → N1 k 8 ≠ nI 0) → cl_fr h_12 h1 x L → rl_G X (rl_e D ids H0) 19 [some (.ref x), some (.int (nI j)), some (.long b), none, some (.int (nI t)), o5, o6, o7, o8] [] h1 n_12 0 0 := by
      intro m
      induction m with
      | zero =>
        intro t h1 N1 o5 o6 o7 o8 hm hk1 hN hst hfr
        obtain ⟨k1, k2, k3, k4, k5, k6, k7⟩ := id hk1
        obtain ⟨c1, c2, ⟨gp, c3⟩, ⟨pn, c4, c5⟩, ⟨pt, c6, c7⟩, c8, c9, c10, c11, c12, c13, c14, c15⟩ := id k1
        obtain ⟨wd, sz, P, S, t1, -⟩ := c13 j (show j < c.2.1 by omega)
        have t1 : h1 (c.1 j + 1) = some (.inr (4, [.ref (c.1 j + 1 + 1), .int (nI sz), .int (nI wd)])) := t1
        have y0 : x + 70 ≤ c.1 j := c14 j (show j < c.2.1 by omega)
        refine o_iload hC dX7_run_19 (by rfl) ?_
        refine o_iload_n hC dX7_run_21 (by rfl) ?_
        refine o_icmp_gt (tgt := 147) hC dX7_run_22 (by decide) (fun c_22 => ?_) (fun c_22 => ?_)
        · refine o_aload_n hC dX7_run_147 (by rfl) ?_
          refine o_iload_n hC dX7_run_148 (by rfl) ?_
          refine o_putf hC (fX7_49 hC rfl) (fwX7 rfl rfl rfl (Or.inl rfl)) dX7_run_149 (by repeat (first | with_reducible assumption | (rw [rl_u_s]; done) | (rw [rl_u_s]; rfl) | rw [rl_u_n (by first | with_reducible assumption | omega)])) (Nat.le_of_ble_eq_true rfl) ?_
          try simp only [List.set_cons_zero, List.set_cons_succ]
          refine o_aload_n hC dX7_run_152 (by rfl) ?_
          refine o_getf hC (fX7_31 hC rfl) dX7_run_153 (by repeat (first | with_reducible assumption | (rw [rl_u_s]; done) | (rw [rl_u_s]; rfl) | rw [rl_u_n (by first | with_reducible assumption | omega)])) (by first | rfl | with_reducible assumption) ?_
          refine o_iload_n hC dX7_run_156 (by rfl) ?_
          refine o_aaldN (t0 := 6) (k := j) hC rfl dX7_run_157 ((rl_u_n (by omega)).trans c6) (by omega) (by decide) ?_
          rw [c7 _ (by omega), if_pos (show j < c.2.1 by omega)]
          show rl_G X _ _ _ (.ref (c.1 j + 1) :: _) _ _ _ _
          refine o_getf hC (fX7_138 hC rfl) dX7_run_158 (by repeat (first | with_reducible assumption | (rw [rl_u_s]; done) | (rw [rl_u_s]; rfl) | rw [rl_u_n (by first | with_reducible assumption | omega)])) (by first | rfl | with_reducible assumption) ?_
          refine o_iret hC hB dX7_run_161 (Nat.le_of_ble_eq_true rfl) (Nat.le_of_ble_eq_true rfl) ?_
          exact ⟨_, N1, nI j, rfl, rfl, hk1.rs (nI j) _, hN, fun q a b => (rl_u_n (by omega)).trans (hfr q a b)⟩
        · exact absurd (nI_lt (by omega) (by omega)) c_22
      | succ m ih =>
        intro t h1 N1 o5 o6 o7 o8 hm hk1 hN hst hfr
        obtain ⟨k1, k2, k3, k4, k5, k6, k7⟩ := id hk1
        obtain ⟨c1, c2, ⟨gp, c3⟩, ⟨pn, c4, c5⟩, ⟨pt, c6, c7⟩, c8, c9, c10, c11, c12, c13, c14, c15⟩ := id k1
        have m1 : h1 (c.1 t) = some (cl_nd N1 t) := c12 t (show t < c.2.1 by omega)
        unfold cl_nd at m1
        refine o_iload hC dX7_run_19 (by rfl) ?_
        refine o_iload_n hC dX7_run_21 (by rfl) ?_
        refine o_icmp_gt (tgt := 147) hC dX7_run_22 (by decide) (fun c_22 => ?_) (fun c_22 => ?_)
        · exact absurd c_22 (nI_nlt (by omega) (by omega))
        · refine o_aload_n hC dX7_run_25 (by rfl) ?_
          refine o_getf hC (fX7_25 hC rfl) dX7_run_26 (by repeat (first | with_reducible assumption | (rw [rl_u_s]; done) | (rw [rl_u_s]; rfl) | rw [rl_u_n (by first | with_reducible assumption | omega)])) (by first | rfl | with_reducible assumption) ?_
          refine o_iload hC dX7_run_29 (by rfl) ?_
          refine o_aaldN (t0 := 5) (k := t) hC rfl dX7_run_31 c4 (by omega) (by decide) ?_
          rw [c5 _ (by omega), if_pos (show t < c.2.1 by omega)]
          show rl_G X _ _ _ (.ref (c.1 t) :: _) _ _ _ _
          refine o_astore hC dX7_run_32 (Nat.le_of_ble_eq_true rfl) ?_
          refine o_lload_n hC dX7_run_34 (by rfl) ?_
          refine o_iload hC dX7_run_35 (by rfl) ?_
          refine o_lshr hC dX7_run_37 ?_
          refine o_lconst (v := 1) hC dX7_run_38 (by decide +kernel) ?_
          refine o_land hC dX7_run_39 ?_
          refine o_lconst (v := 0) hC dX7_run_40 (by decide +kernel) ?_
          refine o_lcmp hC dX7_run_41 ?_
          refine o_if_eq (tgt := 49) hC dX7_run_42 (by decide) (fun c_42 => ?_) (fun c_42 => ?_)
          · refine o_iconst (v := nI 0) hC dX7_run_49 (by decide +kernel) ?_
            refine o_istore hC dX7_run_50 (Nat.le_of_ble_eq_true rfl) ?_
            refine o_iload hC dX7_run_52 (by rfl) ?_
            refine o_if_eq (tgt := 124) hC dX7_run_54 (by decide) (fun _ => ?_) (fun q => absurd rfl q)
            refine o_iload hC dX7_run_124 (by rfl) ?_
            refine o_if_eq (tgt := 141) hC dX7_run_126 (by decide) (fun _ => ?_) (fun q => absurd rfl q)
            refine o_iinc hC dX7_run_141 (by rfl) (rl_inc _) (Nat.le_of_ble_eq_true rfl) ?_
            refine o_goto (tgt := 19) hC dX7_run_144 (by decide) ?_
            refine ih (t + 1) _ N1 _ _ _ _ (by omega) hk1 hN (fun k hk hb => ?_) hfr
            by_cases e : k = t
            · subst e
              exact absurd c_42 hb
            · exact hst k (by omega) hb
          · refine o_iconst (v := nI 1) hC dX7_run_45 (by decide +kernel) ?_
            refine o_goto (tgt := 50) hC dX7_run_46 (by decide) ?_
            refine o_istore hC dX7_run_50 (Nat.le_of_ble_eq_true rfl) ?_
            refine o_iload hC dX7_run_52 (by rfl) ?_
            refine o_if_eq (tgt := 124) hC dX7_run_54 (by decide) (fun q => absurd q (by decide +kernel)) (fun c_54 => ?_)
            refine o_aload hC dX7_run_57 (by rfl) ?_
            refine o_getf hC (fX7_121 hC rfl) dX7_run_59 (by repeat (first | with_reducible assumption | (rw [rl_u_s]; done) | (rw [rl_u_s]; rfl) | rw [rl_u_n (by first | with_reducible assumption | omega)])) (by first | rfl | with_reducible assumption) ?_
            refine o_if_ne (tgt := 124) hC dX7_run_62 (by decide) (fun c_62 => ?_) (fun c_62 => ?_)
            · refine o_iload hC dX7_run_124 (by rfl) ?_
              refine o_if_eq (tgt := 141) hC dX7_run_126 (by decide) (fun q => absurd q (by decide +kernel)) (fun c_126 => ?_)
              refine o_aload hC dX7_run_129 (by rfl) ?_
              refine o_getf hC (fX7_121 hC rfl) dX7_run_131 (by repeat (first | with_reducible assumption | (rw [rl_u_s]; done) | (rw [rl_u_s]; rfl) | rw [rl_u_n (by first | with_reducible assumption | omega)])) (by first | rfl | with_reducible assumption) ?_
              refine o_iconst (v := nI 2) hC dX7_run_134 (by decide +kernel) ?_
              refine o_icmp_ne (tgt := 141) hC dX7_run_135 (by decide) (fun c_135 => ?_) (fun c_135 => ?_)
              · refine o_iinc hC dX7_run_141 (by rfl) (rl_inc _) (Nat.le_of_ble_eq_true rfl) ?_
                refine o_goto (tgt := 19) hC dX7_run_144 (by decide) ?_
                refine ih (t + 1) _ N1 _ _ _ _ (by omega) hk1 hN (fun k hk hb => ?_) hfr
                by_cases e : k = t
                · subst e
                  exact c_62
                · exact hst k (by omega) hb
              · refine o_bipush (v := (-4 : Int32)) hC dX7_run_138 (by decide +kernel) ?_
                refine o_iret hC hB dX7_run_140 (Nat.le_of_ble_eq_true rfl) (Nat.le_of_ble_eq_true rfl) ?_
                exact ⟨_, N1, _, rfl, rfl, hk1, hN, hfr⟩
            · obtain ⟨op, w, w1, w2, a1, a2, a3, a4, -, a5, a6⟩ := k6 t (show t < c.2.2.1 by omega)
              have a1 : N1 t 0 = nI op := a1
              have a2 : N1 t 1 = nI w := a2
              have a4 : nd_ok op w (N1 t 4) (N1 t 5) (N1 t 6) (N1 t 7) w1 w2 := a4
              have cl1 := hp t (by omega) c_42
              have y0 : x + 70 ≤ c.1 t := c14 t (show t < c.2.1 by omega)
              refine o_aload_n hC dX7_run_65 (by rfl) ?_
              refine o_aload hC dX7_run_66 (by rfl) ?_
              refine o_getf hC (fX7_124 hC rfl) dX7_run_68 (by repeat (first | with_reducible assumption | (rw [rl_u_s]; done) | (rw [rl_u_s]; rfl) | rw [rl_u_n (by first | with_reducible assumption | omega)])) (by first | rfl | with_reducible assumption) ?_
              refine o_callV1 hC rl_BW_good rl_Ns_nw (by exact hB.2.2.2.2.2) YX7_tableOf IX7_tableOf VX7_tableOf (mX7_127 hC) (by rw [hB.1]; exact cg_X7_tableOf l D ids H0 _ _ x s (c.1, c.2.1, c.2.2.1, N1, c.2.2.2.2.1, c.2.2.2.2.2) _ k1) (by exact c1) rfl rfl (Nat.le_of_ble_eq_true rfl) (by rw [hB.2.1]; first | exact Nat.le_of_ble_eq_true rfl | (dsimp only; omega)) (by rw [hB.2.1]; first | exact Nat.le_of_ble_eq_true rfl | (dsimp only; omega)) (by rw [hB.2.1]; first | exact Nat.le_of_ble_eq_true rfl | (dsimp only; omega)) (by rw [hB.2.1]; first | exact Nat.le_of_ble_eq_true rfl | (dsimp only; omega)) dX7_run_71 (fun v h_71 n_71 p_71 => ?_)
              obtain ⟨z71, rfl, rfl, rfl, hz71⟩ := p_71
              try dsimp only [Option.toList, List.cons_append, List.nil_append]
              refine o_astore hC dX7_run_74 (Nat.le_of_ble_eq_true rfl) ?_
              refine o_aload_n hC dX7_run_76 (by rfl) ?_
              refine o_aload hC dX7_run_77 (by rfl) ?_
              refine o_getf hC (fX7_131 hC rfl) dX7_run_79 (by repeat (first | with_reducible assumption | (rw [rl_u_s]; done) | (rw [rl_u_s]; rfl) | rw [rl_u_n (by first | with_reducible assumption | omega)])) (by first | rfl | with_reducible assumption) ?_
              refine o_callV1 hC rl_BW_good rl_Ns_nw (by exact hB.2.2.2.2.2) YX7_tableOf IX7_tableOf VX7_tableOf (mX7_127 hC) (by rw [hB.1]; exact cg_X7_tableOf l D ids H0 _ _ x s (c.1, c.2.1, c.2.2.1, N1, c.2.2.2.2.1, c.2.2.2.2.2) _ k1) (by exact c1) rfl rfl (Nat.le_of_ble_eq_true rfl) (by rw [hB.2.1]; first | exact Nat.le_of_ble_eq_true rfl | (dsimp only; omega)) (by rw [hB.2.1]; first | exact Nat.le_of_ble_eq_true rfl | (dsimp only; omega)) (by rw [hB.2.1]; first | exact Nat.le_of_ble_eq_true rfl | (dsimp only; omega)) (by rw [hB.2.1]; first | exact Nat.le_of_ble_eq_true rfl | (dsimp only; omega)) dX7_run_82 (fun v h_82 n_82 p_82 => ?_)
              obtain ⟨z82, rfl, rfl, rfl, hz82⟩ := p_82
              try dsimp only [Option.toList, List.cons_append, List.nil_append]
              refine o_astore hC dX7_run_85 (Nat.le_of_ble_eq_true rfl) ?_
              have A1 : ∃ (sz1 : Nat) (P1 : Nat → Nat) (S1 : tb_S), (1 ≤ op) → tb_at ids h_82 z71 sz1 w1 P1 S1 ∧ (x + 41 + 22 ≤ z71 ∨ z71 + 402 ≤ x + 41) ∧ (z71 + 402 ≤ c.1 t + 1 ∨ c.1 t + 1 + 402 ≤ z71) := by
                by_cases q : 1 ≤ op
                · obtain ⟨i, i1, i2, i3, wi⟩ := a5 q
                  have i2 : N1 t 2 = nI i := i2
                  have i3 : N1 i 1 = nI w1 := i3
                  have i4 := hst i i1 (cl1 i i1 (Or.inl ((hN t 2 (by decide)).symm.trans i2)))
                  rcases hz71 with ⟨-, u⟩ | ⟨i5, u1, u2, rfl⟩
                  · exact absurd ⟨i, show i < c.2.2.1 by omega, i2⟩ u
                  · have u1 : i5 < c.2.2.1 := u1
                    have := nI_inj2 (by omega) (by omega) (i2.symm.trans u2)
                    subst this
                    obtain ⟨sz1, P1, S1, e⟩ := k7 i u1 i4 _ wi i3
                    have y1 : c.1 i + 403 ≤ c.1 t := c15 i t i1 (show t < c.2.1 by omega)
                    have y2 : x + 70 ≤ c.1 i := c14 i (show i < c.2.1 by omega)
                    exact ⟨sz1, P1, S1, fun _ => ⟨e, Or.inl (show x + 41 + 22 ≤ c.1 i + 1 by omega), Or.inl (show c.1 i + 1 + 402 ≤ c.1 t + 1 by omega)⟩⟩
                · exact ⟨0, fun _ => 0, (fun _ _ => 0, fun _ _ => 0, fun _ _ => 0, fun _ => 0), fun u => absurd u q⟩
              have A2 : ∃ (sz1 : Nat) (P1 : Nat → Nat) (S1 : tb_S), (op = 3 ∨ op = 4 ∨ op = 5) → tb_at ids h_82 z82 sz1 w2 P1 S1 ∧ (x + 41 + 22 ≤ z82 ∨ z82 + 402 ≤ x + 41) ∧ (z82 + 402 ≤ c.1 t + 1 ∨ c.1 t + 1 + 402 ≤ z82) := by
                by_cases q : op = 3 ∨ op = 4 ∨ op = 5
                · obtain ⟨i, i1, i2, i3, wi⟩ := a6 q
                  have i2 : N1 t 3 = nI i := i2
                  have i3 : N1 i 1 = nI w2 := i3
                  have i4 := hst i i1 (cl1 i i1 (Or.inr ((hN t 3 (by decide)).symm.trans i2)))
                  rcases hz82 with ⟨-, u⟩ | ⟨i5, u1, u2, rfl⟩
                  · exact absurd ⟨i, show i < c.2.2.1 by omega, i2⟩ u
                  · have u1 : i5 < c.2.2.1 := u1
                    have := nI_inj2 (by omega) (by omega) (i2.symm.trans u2)
                    subst this
                    obtain ⟨sz1, P1, S1, e⟩ := k7 i u1 i4 _ wi i3
                    have y1 : c.1 i + 403 ≤ c.1 t := c15 i t i1 (show t < c.2.1 by omega)
                    have y2 : x + 70 ≤ c.1 i := c14 i (show i < c.2.1 by omega)
                    exact ⟨sz1, P1, S1, fun _ => ⟨e, Or.inl (show x + 41 + 22 ≤ c.1 i + 1 by omega), Or.inl (show c.1 i + 1 + 402 ≤ c.1 t + 1 by omega)⟩⟩
                · exact ⟨0, fun _ => 0, (fun _ _ => 0, fun _ _ => 0, fun _ _ => 0, fun _ => 0), fun u => absurd u q⟩
              obtain ⟨sz1, P1, S1, A1⟩ := A1
              obtain ⟨sz2, P2, S2, A2⟩ := A2
              obtain ⟨wd0, ht0⟩ := c13 t (show t < c.2.1 by omega)
              have m2 := m1
              rw [a1, a2] at m2
              refine o_aload hC dX7_run_87 (by rfl) ?_
              refine o_aload_n hC dX7_run_89 (by rfl) ?_
              refine o_getf hC (fX7_19 hC rfl) dX7_run_90 (by repeat (first | with_reducible assumption | (rw [rl_u_s]; done) | (rw [rl_u_s]; rfl) | rw [rl_u_n (by first | with_reducible assumption | omega)])) (by first | rfl | with_reducible assumption) ?_
              refine o_aload hC dX7_run_93 (by rfl) ?_
              refine o_aload_n hC dX7_run_95 (by rfl) ?_
              refine o_getf hC (fX7_10 hC rfl) dX7_run_96 (by repeat (first | with_reducible assumption | (rw [rl_u_s]; done) | (rw [rl_u_s]; rfl) | rw [rl_u_n (by first | with_reducible assumption | omega)])) (by first | rfl | with_reducible assumption) ?_
              refine o_aload hC dX7_run_99 (by rfl) ?_
              refine o_aload hC dX7_run_101 (by rfl) ?_
              refine o_aload_n hC dX7_run_103 (by rfl) ?_
              refine o_getf hC (fX7_31 hC rfl) dX7_run_104 (by repeat (first | with_reducible assumption | (rw [rl_u_s]; done) | (rw [rl_u_s]; rfl) | rw [rl_u_n (by first | with_reducible assumption | omega)])) (by first | rfl | with_reducible assumption) ?_
              refine o_iload hC dX7_run_107 (by rfl) ?_
              refine o_aaldN (t0 := 6) (k := t) hC rfl dX7_run_109 c6 (by omega) (by decide) ?_
              rw [c7 _ (by omega), if_pos (show t < c.2.1 by omega)]
              show rl_G X _ _ _ (.ref (c.1 t + 1) :: _) _ _ _ _
              refine o_callV5 hC rl_BW_good rl_Ns_nw (by exact hB.2.2.2.2.2) YX2_fill IX2_fill VX2_fill (mX7_134 hC) (by rw [hB.1]; exact ct_X2_fill l D ids H0 _ _ (x + 41) (x + 1) (c.1 t + 1) w wd0 op (c.1 t) z71 z82 sz1 sz2 w1 w2 _ _ gp P1 P2 S1 S2 _ _ _ _ _ _ _ _ _ _ c3 ht0 c2 m2 a4 (by omega) (by omega) (by omega) (by omega) (by omega) A1 A2) (by exact c3.1) rfl rfl (Nat.le_of_ble_eq_true rfl) (by rw [hB.2.1]; first | exact Nat.le_of_ble_eq_true rfl | (dsimp only; omega)) (by rw [hB.2.1]; first | exact Nat.le_of_ble_eq_true rfl | (dsimp only; omega)) (by rw [hB.2.1]; first | exact Nat.le_of_ble_eq_true rfl | (dsimp only; omega)) (by rw [hB.2.1]; first | exact Nat.le_of_ble_eq_true rfl | (dsimp only; omega)) dX7_run_110 (fun v h_110 n_110 p_110 => ?_)
              obtain ⟨xr, rfl, rfl, q0, q1, q2, q3⟩ := p_110
              have m3 := (q3 (c.1 t) (by omega) (by omega)).trans m1
              try dsimp only [Option.toList, List.cons_append, List.nil_append]
              refine o_if_eq (tgt := 120) hC dX7_run_113 (by decide) (fun c_113 => ?_) (fun c_113 => ?_)
              · refine o_iconst (v := nI 2) hC dX7_run_120 (by decide +kernel) ?_
                refine o_putf hC (fX7_121 hC rfl) (fwX1 rfl rfl rfl (Or.inl rfl)) dX7_run_121 (by exact m3) (Nat.le_of_ble_eq_true rfl) ?_
                try simp only [List.set_cons_zero, List.set_cons_succ]
                obtain ⟨f1, f2⟩ := hk1.fl (t := t) (w := w) (show t < c.2.2.1 by omega) a2 a4.2.1 q1 q2 q3 (nI 2)
                rw [cl_nd_st] at f1 f2
                refine o_iload hC dX7_run_124 (by rfl) ?_
                refine o_if_eq (tgt := 141) hC dX7_run_126 (by decide) (fun q => absurd q (by decide +kernel)) (fun c_126 => ?_)
                refine o_aload hC dX7_run_129 (by rfl) ?_
                refine o_getf hC (fX7_121 hC rfl) dX7_run_131 (by repeat (first | with_reducible assumption | (rw [rl_u_s]; done) | (rw [rl_u_s]; rfl) | rw [rl_u_n (by first | with_reducible assumption | omega)])) (by first | rfl | with_reducible assumption) ?_
                refine o_iconst (v := nI 2) hC dX7_run_134 (by decide +kernel) ?_
                refine o_icmp_ne (tgt := 141) hC dX7_run_135 (by decide) (fun c_135 => ?_) (fun c_135 => ?_)
                · refine o_iinc hC dX7_run_141 (by rfl) (rl_inc _) (Nat.le_of_ble_eq_true rfl) ?_
                  refine o_goto (tgt := 19) hC dX7_run_144 (by decide) ?_
                  refine ih (t + 1) _ (cl_st N1 t (nI 2)) _ _ _ _ (by omega) f1 (fun k f hf => (cl_st_8 hf).trans (hN k f hf)) (fun k hk hb => ?_) (hfr.tr f2)
                  by_cases e : k = t
                  · subst e
                    rw [show cl_st N1 k (nI 2) k 8 = nI 2 from if_pos ⟨rfl, rfl⟩]
                    decide +kernel
                  · exact fun u => hst k (by omega) hb ((if_neg (fun w => e w.1)).symm.trans u)
                · refine o_bipush (v := (-4 : Int32)) hC dX7_run_138 (by decide +kernel) ?_
                  refine o_iret hC hB dX7_run_140 (Nat.le_of_ble_eq_true rfl) (Nat.le_of_ble_eq_true rfl) ?_
                  exact ⟨_, cl_st N1 t (nI 2), _, rfl, rfl, f1, fun k f hf => (cl_st_8 hf).trans (hN k f hf), hfr.tr f2⟩
              · refine o_iconst (v := nI 1) hC dX7_run_116 (by decide +kernel) ?_
                refine o_goto (tgt := 121) hC dX7_run_117 (by decide) ?_
                refine o_putf hC (fX7_121 hC rfl) (fwX1 rfl rfl rfl (Or.inl rfl)) dX7_run_121 (by exact m3) (Nat.le_of_ble_eq_true rfl) ?_
                try simp only [List.set_cons_zero, List.set_cons_succ]
                obtain ⟨f1, f2⟩ := hk1.fl (t := t) (w := w) (show t < c.2.2.1 by omega) a2 a4.2.1 q1 q2 q3 (nI 1)
                rw [cl_nd_st] at f1 f2
                refine o_iload hC dX7_run_124 (by rfl) ?_
                refine o_if_eq (tgt := 141) hC dX7_run_126 (by decide) (fun q => absurd q (by decide +kernel)) (fun c_126 => ?_)
                refine o_aload hC dX7_run_129 (by rfl) ?_
                refine o_getf hC (fX7_121 hC rfl) dX7_run_131 (by repeat (first | with_reducible assumption | (rw [rl_u_s]; done) | (rw [rl_u_s]; rfl) | rw [rl_u_n (by first | with_reducible assumption | omega)])) (by first | rfl | with_reducible assumption) ?_
                refine o_iconst (v := nI 2) hC dX7_run_134 (by decide +kernel) ?_
                refine o_icmp_ne (tgt := 141) hC dX7_run_135 (by decide) (fun c_135 => ?_) (fun c_135 => ?_)
                · refine o_iinc hC dX7_run_141 (by rfl) (rl_inc _) (Nat.le_of_ble_eq_true rfl) ?_
                  refine o_goto (tgt := 19) hC dX7_run_144 (by decide) ?_
                  refine ih (t + 1) _ (cl_st N1 t (nI 1)) _ _ _ _ (by omega) f1 (fun k f hf => (cl_st_8 hf).trans (hN k f hf)) (fun k hk hb => ?_) (hfr.tr f2)
                  by_cases e : k = t
                  · subst e
                    rw [show cl_st N1 k (nI 1) k 8 = nI 1 from if_pos ⟨rfl, rfl⟩]
                    decide +kernel
                  · exact fun u => hst k (by omega) hb ((if_neg (fun w => e w.1)).symm.trans u)
                · refine o_bipush (v := (-4 : Int32)) hC dX7_run_138 (by decide +kernel) ?_
                  refine o_iret hC hB dX7_run_140 (Nat.le_of_ble_eq_true rfl) (Nat.le_of_ble_eq_true rfl) ?_
                  exact ⟨_, cl_st N1 t (nI 1), _, rfl, rfl, f1, fun k f hf => (cl_st_8 hf).trans (hN k f hf), hfr.tr f2⟩
    exact loop (j + 1) 0 _ c.2.2.2.1 _ _ _ _ (by omega) hk (fun _ _ _ => rfl) (fun k hk => absurd hk (by omega)) cl_fr.rf
  · refine o_iconst (v := (-1 : Int32)) hC dX7_run_8 (by decide +kernel) ?_
    refine o_iret hC hB dX7_run_9 (Nat.le_of_ble_eq_true rfl) (Nat.le_of_ble_eq_true rfl) ?_
    exact ⟨_, c.2.2.2.1, _, rfl, rfl, hk, fun _ _ _ => rfl, cl_fr.rf⟩
end
section
/-! RowLineage in every state: ways, holds, made, under, forward, count, matters, blame, told -/

set_option maxHeartbeats 4000000 in
set_option maxRecDepth 100000 in
theorem ct_X7_asNumber (l : Launch) (D : va_G) (ids : Nat → ClassId) (H0 : Heap) (h : rl_H) (n : Nat) (q : Int32)  : rl_Met l (rl_e D ids H0) rl_BW rl_Ns yX7_asNumber cX7_asNumber 1 (some .int) ({ frames := 0, cells := 0, slots := 0, locals := 0 }) [.int q] h n (fun v h' n' => ∃ r : Int32, v = some (.int r) ∧ h' = h ∧ n' = n) := by
  refine rl_Met.of (by decide +kernel) (Nat.le_of_ble_eq_true rfl) ?_
  intro X hC hB
  show rl_G X (rl_e D ids H0) 0 [some (.int q)] [] h n 0 0
  refine o_iload_n hC dX7_asNumber_0 (by rfl) ?_
  refine o_if_eq (tgt := 8) hC dX7_asNumber_1 (by decide) (fun c_1 => ?_) (fun c_1 => ?_)
  · refine o_iconst (v := nI 0) hC dX7_asNumber_8 (by decide +kernel) ?_
    refine o_iret hC hB dX7_asNumber_9 (Nat.le_of_ble_eq_true rfl) (Nat.le_of_ble_eq_true rfl) ?_
    exact ⟨_, rfl, rfl, rfl⟩
  · refine o_iconst (v := nI 1) hC dX7_asNumber_4 (by decide +kernel) ?_
    refine o_goto (tgt := 9) hC dX7_asNumber_5 (by decide) ?_
    refine o_iret hC hB dX7_asNumber_9 (Nat.le_of_ble_eq_true rfl) (Nat.le_of_ble_eq_true rfl) ?_
    exact ⟨_, rfl, rfl, rfl⟩

set_option maxHeartbeats 4000000 in
set_option maxRecDepth 100000 in
theorem cg_X7_ways (l : Launch) (D : va_G) (ids : Nat → ClassId) (H0 : Heap) (h : rl_H) (n : Nat) (x : Nat) (s : cl_S) (c : cl_N) (q : Int32) (hc : cl_at ids h x s c) : rl_Met l (rl_e D ids H0) rl_BW rl_Ns yX7_ways cX7_ways 3 (some .int) ({ frames := 3, cells := 0, slots := 0, locals := 64 }) [.ref x, .int q] h n (fun v h' n' => ∃ r : Int32, v = some (.int r) ∧ h' = h ∧ n' = n) := by
  obtain ⟨c1, c2, c3, ⟨pn, c4, c5⟩, ⟨pt, c6, c7⟩, c8, c9, c10, c11, c12, c13, c14, c15⟩ := id hc
  refine rl_Met.of (by decide +kernel) (Nat.le_of_ble_eq_true rfl) ?_
  intro X hC hB
  show rl_G X (rl_e D ids H0) 0 [some (.ref x), some (.int q), none] [] h n 0 0
  refine o_aload_n hC dX7_ways_0 (by rfl) ?_
  refine o_iload_n hC dX7_ways_1 (by rfl) ?_
  refine o_callV1 hC rl_BW_good rl_Ns_nw (by exact hB.2.2.2.2.2) YX7_resultTuple IX7_resultTuple VX7_resultTuple (mX7_141 hC) (by rw [hB.1]; exact cg_X7_resultTuple l D ids H0 _ _ x s c _ hc) (by exact c1) rfl rfl (Nat.le_of_ble_eq_true rfl) (by rw [hB.2.1]; first | exact Nat.le_of_ble_eq_true rfl | (dsimp only; omega)) (by rw [hB.2.1]; first | exact Nat.le_of_ble_eq_true rfl | (dsimp only; omega)) (by rw [hB.2.1]; first | exact Nat.le_of_ble_eq_true rfl | (dsimp only; omega)) (by rw [hB.2.1]; first | exact Nat.le_of_ble_eq_true rfl | (dsimp only; omega)) dX7_ways_2 (fun v h_2 n_2 p_2 => ?_)
  obtain ⟨zv, rfl, rfl, rfl, hz⟩ := p_2
  try dsimp only [Option.toList, List.cons_append, List.nil_append]
  rcases hz with rfl | ⟨j, i, hj, hi, hrs, rfl⟩
  · try dsimp only [Option.toList, List.cons_append, List.nil_append]
    refine o_astore_nN hC dX7_ways_5 (Nat.le_of_ble_eq_true rfl) ?_
    refine o_aload_nN hC dX7_ways_6 (by rfl) ?_
    refine o_ifnonnullN hC dX7_ways_7 ?_
    refine o_iconst (v := (-1 : Int32)) hC dX7_ways_10 (by decide +kernel) ?_
    refine o_goto (tgt := 21) hC dX7_ways_11 (by decide) ?_
    refine o_iret hC hB dX7_ways_21 (Nat.le_of_ble_eq_true rfl) (Nat.le_of_ble_eq_true rfl) ?_
    exact ⟨_, rfl, rfl, rfl⟩
  · try dsimp only [Option.toList, List.cons_append, List.nil_append]
    obtain ⟨wd, sz, P, S, t1, ⟨tf, t2, t3⟩, t4, t5, t6, t7⟩ := c13 j (by omega)
    obtain ⟨e1, e2, e3⟩ := t5 i hi
    obtain ⟨w1, w2, w3, w4⟩ := id e3
    refine o_astore_n hC dX7_ways_5 (Nat.le_of_ble_eq_true rfl) ?_
    refine o_aload_n hC dX7_ways_6 (by rfl) ?_
    refine o_ifnonnull (tgt := 14) hC dX7_ways_7 (by decide) ?_
    refine o_aload_n hC dX7_ways_14 (by rfl) ?_
    refine o_getf hC (fX7_160 hC rfl) dX7_ways_15 (by repeat (first | with_reducible assumption | (rw [rl_u_s]; done) | (rw [rl_u_s]; rfl) | rw [rl_u_n (by first | with_reducible assumption | omega)])) (by first | rfl | with_reducible assumption) ?_
    refine o_getf hC (fX7_163 hC rfl) dX7_ways_18 (by repeat (first | with_reducible assumption | (rw [rl_u_s]; done) | (rw [rl_u_s]; rfl) | rw [rl_u_n (by first | with_reducible assumption | omega)])) (by first | rfl | with_reducible assumption) ?_
    refine o_iret hC hB dX7_ways_21 (Nat.le_of_ble_eq_true rfl) (Nat.le_of_ble_eq_true rfl) ?_
    exact ⟨_, rfl, rfl, rfl⟩

set_option maxHeartbeats 4000000 in
set_option maxRecDepth 100000 in
theorem cg_X7_holds (l : Launch) (D : va_G) (ids : Nat → ClassId) (H0 : Heap) (h : rl_H) (n : Nat) (x : Nat) (s : cl_S) (c : cl_N) (q : Int32) (hc : cl_at ids h x s c) : rl_Met l (rl_e D ids H0) rl_BW rl_Ns yX7_holds cX7_holds 3 (some .int) ({ frames := 3, cells := 0, slots := 0, locals := 64 }) [.ref x, .int q] h n (fun v h' n' => ∃ r : Int32, v = some (.int r) ∧ h' = h ∧ n' = n) := by
  obtain ⟨c1, c2, c3, ⟨pn, c4, c5⟩, ⟨pt, c6, c7⟩, c8, c9, c10, c11, c12, c13, c14, c15⟩ := id hc
  refine rl_Met.of (by decide +kernel) (Nat.le_of_ble_eq_true rfl) ?_
  intro X hC hB
  show rl_G X (rl_e D ids H0) 0 [some (.ref x), some (.int q), none] [] h n 0 0
  refine o_aload_n hC dX7_holds_0 (by rfl) ?_
  refine o_iload_n hC dX7_holds_1 (by rfl) ?_
  refine o_callV1 hC rl_BW_good rl_Ns_nw (by exact hB.2.2.2.2.2) YX7_resultTuple IX7_resultTuple VX7_resultTuple (mX7_141 hC) (by rw [hB.1]; exact cg_X7_resultTuple l D ids H0 _ _ x s c _ hc) (by exact c1) rfl rfl (Nat.le_of_ble_eq_true rfl) (by rw [hB.2.1]; first | exact Nat.le_of_ble_eq_true rfl | (dsimp only; omega)) (by rw [hB.2.1]; first | exact Nat.le_of_ble_eq_true rfl | (dsimp only; omega)) (by rw [hB.2.1]; first | exact Nat.le_of_ble_eq_true rfl | (dsimp only; omega)) (by rw [hB.2.1]; first | exact Nat.le_of_ble_eq_true rfl | (dsimp only; omega)) dX7_holds_2 (fun v h_2 n_2 p_2 => ?_)
  obtain ⟨zv, rfl, rfl, rfl, hz⟩ := p_2
  try dsimp only [Option.toList, List.cons_append, List.nil_append]
  rcases hz with rfl | ⟨j, i, hj, hi, hrs, rfl⟩
  · try dsimp only [Option.toList, List.cons_append, List.nil_append]
    refine o_astore_nN hC dX7_holds_5 (Nat.le_of_ble_eq_true rfl) ?_
    refine o_aload_nN hC dX7_holds_6 (by rfl) ?_
    refine o_ifnonnullN hC dX7_holds_7 ?_
    refine o_iconst (v := (-1 : Int32)) hC dX7_holds_10 (by decide +kernel) ?_
    refine o_goto (tgt := 28) hC dX7_holds_11 (by decide) ?_
    refine o_iret hC hB dX7_holds_28 (Nat.le_of_ble_eq_true rfl) (Nat.le_of_ble_eq_true rfl) ?_
    exact ⟨_, rfl, rfl, rfl⟩
  · try dsimp only [Option.toList, List.cons_append, List.nil_append]
    obtain ⟨wd, sz, P, S, t1, ⟨tf, t2, t3⟩, t4, t5, t6, t7⟩ := c13 j (by omega)
    obtain ⟨e1, e2, e3⟩ := t5 i hi
    obtain ⟨w1, w2, w3, w4⟩ := id e3
    refine o_astore_n hC dX7_holds_5 (Nat.le_of_ble_eq_true rfl) ?_
    refine o_aload_n hC dX7_holds_6 (by rfl) ?_
    refine o_ifnonnull (tgt := 14) hC dX7_holds_7 (by decide) ?_
    refine o_aload_n hC dX7_holds_14 (by rfl) ?_
    refine o_getf hC (fX7_160 hC rfl) dX7_holds_15 (by repeat (first | with_reducible assumption | (rw [rl_u_s]; done) | (rw [rl_u_s]; rfl) | rw [rl_u_n (by first | with_reducible assumption | omega)])) (by first | rfl | with_reducible assumption) ?_
    refine o_aload_n hC dX7_holds_18 (by rfl) ?_
    refine o_getf hC (fX7_71 hC rfl) dX7_holds_19 (by repeat (first | with_reducible assumption | (rw [rl_u_s]; done) | (rw [rl_u_s]; rfl) | rw [rl_u_n (by first | with_reducible assumption | omega)])) (by first | rfl | with_reducible assumption) ?_
    refine o_callV1 hC rl_BW_good rl_Ns_nw (by exact hB.2.2.2.2.2) YX6_holdsWith IX6_holdsWith VX6_holdsWith (mX7_183 hC) (by rw [hB.1]; exact ct_X6_holdsWith l D ids H0 _ _ (c.1 j + 1 + 2 + 5 * i + 2) _ _ _ _ e3) (by exact e3.1) rfl rfl (Nat.le_of_ble_eq_true rfl) (by rw [hB.2.1]; first | exact Nat.le_of_ble_eq_true rfl | (dsimp only; omega)) (by rw [hB.2.1]; first | exact Nat.le_of_ble_eq_true rfl | (dsimp only; omega)) (by rw [hB.2.1]; first | exact Nat.le_of_ble_eq_true rfl | (dsimp only; omega)) (by rw [hB.2.1]; first | exact Nat.le_of_ble_eq_true rfl | (dsimp only; omega)) dX7_holds_22 (fun v h_22 n_22 p_22 => ?_)
    obtain ⟨rfl, rfl, rfl⟩ := p_22
    try dsimp only [Option.toList, List.cons_append, List.nil_append]
    refine o_callS1 hC rl_BW_good rl_Ns_nw (by exact hB.2.2.2.2.2) YX7_asNumber SX7_asNumber (mX7_187 hC) (by rw [hB.1]; exact ct_X7_asNumber l D ids H0 _ _ _) (Nat.le_of_ble_eq_true rfl) (by rw [hB.2.1]; first | exact Nat.le_of_ble_eq_true rfl | (dsimp only; omega)) (by rw [hB.2.1]; first | exact Nat.le_of_ble_eq_true rfl | (dsimp only; omega)) (by rw [hB.2.1]; first | exact Nat.le_of_ble_eq_true rfl | (dsimp only; omega)) (by rw [hB.2.1]; first | exact Nat.le_of_ble_eq_true rfl | (dsimp only; omega)) dX7_holds_25 (fun v h_25 n_25 p_25 => ?_)
    obtain ⟨an25, rfl, rfl, rfl⟩ := p_25
    try dsimp only [Option.toList, List.cons_append, List.nil_append]
    refine o_iret hC hB dX7_holds_28 (Nat.le_of_ble_eq_true rfl) (Nat.le_of_ble_eq_true rfl) ?_
    exact ⟨_, rfl, rfl, rfl⟩

set_option maxHeartbeats 4000000 in
set_option maxRecDepth 100000 in
theorem cg_X7_made (l : Launch) (D : va_G) (ids : Nat → ClassId) (H0 : Heap) (h : rl_H) (n : Nat) (x : Nat) (s : cl_S) (c : cl_N) (q : Int32) (hc : cl_at ids h x s c) : rl_Met l (rl_e D ids H0) rl_BW rl_Ns yX7_made cX7_made 3 (some .int) ({ frames := 3, cells := 0, slots := 0, locals := 64 }) [.ref x, .int q] h n (fun v h' n' => ∃ r : Int32, v = some (.int r) ∧ h' = h ∧ n' = n) := by
  obtain ⟨c1, c2, c3, ⟨pn, c4, c5⟩, ⟨pt, c6, c7⟩, c8, c9, c10, c11, c12, c13, c14, c15⟩ := id hc
  refine rl_Met.of (by decide +kernel) (Nat.le_of_ble_eq_true rfl) ?_
  intro X hC hB
  show rl_G X (rl_e D ids H0) 0 [some (.ref x), some (.int q), none] [] h n 0 0
  refine o_aload_n hC dX7_made_0 (by rfl) ?_
  refine o_iload_n hC dX7_made_1 (by rfl) ?_
  refine o_callV1 hC rl_BW_good rl_Ns_nw (by exact hB.2.2.2.2.2) YX7_resultTuple IX7_resultTuple VX7_resultTuple (mX7_141 hC) (by rw [hB.1]; exact cg_X7_resultTuple l D ids H0 _ _ x s c _ hc) (by exact c1) rfl rfl (Nat.le_of_ble_eq_true rfl) (by rw [hB.2.1]; first | exact Nat.le_of_ble_eq_true rfl | (dsimp only; omega)) (by rw [hB.2.1]; first | exact Nat.le_of_ble_eq_true rfl | (dsimp only; omega)) (by rw [hB.2.1]; first | exact Nat.le_of_ble_eq_true rfl | (dsimp only; omega)) (by rw [hB.2.1]; first | exact Nat.le_of_ble_eq_true rfl | (dsimp only; omega)) dX7_made_2 (fun v h_2 n_2 p_2 => ?_)
  obtain ⟨zv, rfl, rfl, rfl, hz⟩ := p_2
  try dsimp only [Option.toList, List.cons_append, List.nil_append]
  rcases hz with rfl | ⟨j, i, hj, hi, hrs, rfl⟩
  · try dsimp only [Option.toList, List.cons_append, List.nil_append]
    refine o_astore_nN hC dX7_made_5 (Nat.le_of_ble_eq_true rfl) ?_
    refine o_aload_nN hC dX7_made_6 (by rfl) ?_
    refine o_ifnonnullN hC dX7_made_7 ?_
    refine o_iconst (v := (-1 : Int32)) hC dX7_made_10 (by decide +kernel) ?_
    refine o_goto (tgt := 25) hC dX7_made_11 (by decide) ?_
    refine o_iret hC hB dX7_made_25 (Nat.le_of_ble_eq_true rfl) (Nat.le_of_ble_eq_true rfl) ?_
    exact ⟨_, rfl, rfl, rfl⟩
  · try dsimp only [Option.toList, List.cons_append, List.nil_append]
    obtain ⟨wd, sz, P, S, t1, ⟨tf, t2, t3⟩, t4, t5, t6, t7⟩ := c13 j (by omega)
    obtain ⟨e1, e2, e3⟩ := t5 i hi
    obtain ⟨w1, w2, w3, w4⟩ := id e3
    refine o_astore_n hC dX7_made_5 (Nat.le_of_ble_eq_true rfl) ?_
    refine o_aload_n hC dX7_made_6 (by rfl) ?_
    refine o_ifnonnull (tgt := 14) hC dX7_made_7 (by decide) ?_
    refine o_aload_n hC dX7_made_14 (by rfl) ?_
    refine o_getf hC (fX7_160 hC rfl) dX7_made_15 (by repeat (first | with_reducible assumption | (rw [rl_u_s]; done) | (rw [rl_u_s]; rfl) | rw [rl_u_n (by first | with_reducible assumption | omega)])) (by first | rfl | with_reducible assumption) ?_
    refine o_aload_n hC dX7_made_18 (by rfl) ?_
    refine o_getf hC (fX7_71 hC rfl) dX7_made_19 (by repeat (first | with_reducible assumption | (rw [rl_u_s]; done) | (rw [rl_u_s]; rfl) | rw [rl_u_n (by first | with_reducible assumption | omega)])) (by first | rfl | with_reducible assumption) ?_
    refine o_callV1 hC rl_BW_good rl_Ns_nw (by exact hB.2.2.2.2.2) YX6_firstThatHolds IX6_firstThatHolds VX6_firstThatHolds (mX7_191 hC) (by rw [hB.1]; exact ct_X6_firstThatHolds l D ids H0 _ _ (c.1 j + 1 + 2 + 5 * i + 2) _ _ _ _ e3) (by exact e3.1) rfl rfl (Nat.le_of_ble_eq_true rfl) (by rw [hB.2.1]; first | exact Nat.le_of_ble_eq_true rfl | (dsimp only; omega)) (by rw [hB.2.1]; first | exact Nat.le_of_ble_eq_true rfl | (dsimp only; omega)) (by rw [hB.2.1]; first | exact Nat.le_of_ble_eq_true rfl | (dsimp only; omega)) (by rw [hB.2.1]; first | exact Nat.le_of_ble_eq_true rfl | (dsimp only; omega)) dX7_made_22 (fun v h_22 n_22 p_22 => ?_)
    obtain ⟨rfl, rfl, rfl⟩ := p_22
    try dsimp only [Option.toList, List.cons_append, List.nil_append]
    refine o_iret hC hB dX7_made_25 (Nat.le_of_ble_eq_true rfl) (Nat.le_of_ble_eq_true rfl) ?_
    exact ⟨_, rfl, rfl, rfl⟩

set_option maxHeartbeats 4000000 in
set_option maxRecDepth 100000 in
theorem cg_X7_under (l : Launch) (D : va_G) (ids : Nat → ClassId) (H0 : Heap) (h : rl_H) (n : Nat) (x : Nat) (s : cl_S) (c : cl_N) (q : Int32) (st : Int64) (hc : cl_at ids h x s c) : rl_Met l (rl_e D ids H0) rl_BW rl_Ns yX7_under cX7_under 5 (some .int) ({ frames := 3, cells := 0, slots := 0, locals := 64 }) [.ref x, .int q, .long st] h n (fun v h' n' => ∃ r : Int32, v = some (.int r) ∧ h' = h ∧ n' = n) := by
  obtain ⟨c1, c2, c3, ⟨pn, c4, c5⟩, ⟨pt, c6, c7⟩, c8, c9, c10, c11, c12, c13, c14, c15⟩ := id hc
  obtain ⟨s1, s2, s3, s4, s5, s6, s7⟩ := id c2
  refine rl_Met.of (by decide +kernel) (Nat.le_of_ble_eq_true rfl) ?_
  intro X hC hB
  show rl_G X (rl_e D ids H0) 0 [some (.ref x), some (.int q), some (.long st), none, none] [] h n 0 0
  refine o_aload_n hC dX7_under_0 (by rfl) ?_
  refine o_iload_n hC dX7_under_1 (by rfl) ?_
  refine o_callV1 hC rl_BW_good rl_Ns_nw (by exact hB.2.2.2.2.2) YX7_resultTuple IX7_resultTuple VX7_resultTuple (mX7_141 hC) (by rw [hB.1]; exact cg_X7_resultTuple l D ids H0 _ _ x s c _ hc) (by exact c1) rfl rfl (Nat.le_of_ble_eq_true rfl) (by rw [hB.2.1]; first | exact Nat.le_of_ble_eq_true rfl | (dsimp only; omega)) (by rw [hB.2.1]; first | exact Nat.le_of_ble_eq_true rfl | (dsimp only; omega)) (by rw [hB.2.1]; first | exact Nat.le_of_ble_eq_true rfl | (dsimp only; omega)) (by rw [hB.2.1]; first | exact Nat.le_of_ble_eq_true rfl | (dsimp only; omega)) dX7_under_2 (fun v h_2 n_2 p_2 => ?_)
  obtain ⟨zv, rfl, rfl, rfl, hz⟩ := p_2
  try dsimp only [Option.toList, List.cons_append, List.nil_append]
  rcases hz with rfl | ⟨j, i, hj, hi, hrs, rfl⟩
  · try dsimp only [Option.toList, List.cons_append, List.nil_append]
    refine o_astoreN hC dX7_under_5 (Nat.le_of_ble_eq_true rfl) ?_
    refine o_aloadN hC dX7_under_7 (by rfl) ?_
    refine o_ifnonnullN hC dX7_under_9 ?_
    refine o_iconst (v := (-1 : Int32)) hC dX7_under_12 (by decide +kernel) ?_
    refine o_iret hC hB dX7_under_13 (Nat.le_of_ble_eq_true rfl) (Nat.le_of_ble_eq_true rfl) ?_
    exact ⟨_, rfl, rfl, rfl⟩
  · try dsimp only [Option.toList, List.cons_append, List.nil_append]
    obtain ⟨wd, sz, P, S, t1, ⟨tf, t2, t3⟩, t4, t5, t6, t7⟩ := c13 j (by omega)
    obtain ⟨e1, e2, e3⟩ := t5 i hi
    obtain ⟨w1, w2, w3, w4⟩ := id e3
    refine o_astore hC dX7_under_5 (Nat.le_of_ble_eq_true rfl) ?_
    refine o_aload hC dX7_under_7 (by rfl) ?_
    refine o_ifnonnull (tgt := 14) hC dX7_under_9 (by decide) ?_
    refine o_lload_n hC dX7_under_14 (by rfl) ?_
    refine o_aload_n hC dX7_under_15 (by rfl) ?_
    refine o_getf hC (fX7_10 hC rfl) dX7_under_16 (by repeat (first | with_reducible assumption | (rw [rl_u_s]; done) | (rw [rl_u_s]; rfl) | rw [rl_u_n (by first | with_reducible assumption | omega)])) (by first | rfl | with_reducible assumption) ?_
    refine o_getf hC (fX7_64 hC rfl) dX7_under_19 (by repeat (first | with_reducible assumption | (rw [rl_u_s]; done) | (rw [rl_u_s]; rfl) | rw [rl_u_n (by first | with_reducible assumption | omega)])) (by first | rfl | with_reducible assumption) ?_
    refine o_lushr hC dX7_under_22 ?_
    refine o_lconst (v := 0) hC dX7_under_23 (by decide +kernel) ?_
    refine o_lcmp hC dX7_under_24 ?_
    refine o_if_eq (tgt := 31) hC dX7_under_25 (by decide) (fun c_25 => ?_) (fun c_25 => ?_)
    · refine o_aload hC dX7_under_31 (by rfl) ?_
      refine o_getf hC (fX7_160 hC rfl) dX7_under_33 (by repeat (first | with_reducible assumption | (rw [rl_u_s]; done) | (rw [rl_u_s]; rfl) | rw [rl_u_n (by first | with_reducible assumption | omega)])) (by first | rfl | with_reducible assumption) ?_
      refine o_lload_n hC dX7_under_36 (by rfl) ?_
      refine o_callV1 hC rl_BW_good rl_Ns_nw (by exact hB.2.2.2.2.2) YX6_holdsWith IX6_holdsWith VX6_holdsWith (mX7_183 hC) (by rw [hB.1]; exact ct_X6_holdsWith l D ids H0 _ _ (c.1 j + 1 + 2 + 5 * i + 2) _ _ _ _ e3) (by exact e3.1) rfl rfl (Nat.le_of_ble_eq_true rfl) (by rw [hB.2.1]; first | exact Nat.le_of_ble_eq_true rfl | (dsimp only; omega)) (by rw [hB.2.1]; first | exact Nat.le_of_ble_eq_true rfl | (dsimp only; omega)) (by rw [hB.2.1]; first | exact Nat.le_of_ble_eq_true rfl | (dsimp only; omega)) (by rw [hB.2.1]; first | exact Nat.le_of_ble_eq_true rfl | (dsimp only; omega)) dX7_under_37 (fun v h_37 n_37 p_37 => ?_)
      obtain ⟨rfl, rfl, rfl⟩ := p_37
      try dsimp only [Option.toList, List.cons_append, List.nil_append]
      refine o_callS1 hC rl_BW_good rl_Ns_nw (by exact hB.2.2.2.2.2) YX7_asNumber SX7_asNumber (mX7_187 hC) (by rw [hB.1]; exact ct_X7_asNumber l D ids H0 _ _ _) (Nat.le_of_ble_eq_true rfl) (by rw [hB.2.1]; first | exact Nat.le_of_ble_eq_true rfl | (dsimp only; omega)) (by rw [hB.2.1]; first | exact Nat.le_of_ble_eq_true rfl | (dsimp only; omega)) (by rw [hB.2.1]; first | exact Nat.le_of_ble_eq_true rfl | (dsimp only; omega)) (by rw [hB.2.1]; first | exact Nat.le_of_ble_eq_true rfl | (dsimp only; omega)) dX7_under_40 (fun v h_40 n_40 p_40 => ?_)
      obtain ⟨an40, rfl, rfl, rfl⟩ := p_40
      try dsimp only [Option.toList, List.cons_append, List.nil_append]
      refine o_iret hC hB dX7_under_43 (Nat.le_of_ble_eq_true rfl) (Nat.le_of_ble_eq_true rfl) ?_
      exact ⟨_, rfl, rfl, rfl⟩
    · refine o_bipush (v := (-2 : Int32)) hC dX7_under_28 (by decide +kernel) ?_
      refine o_iret hC hB dX7_under_30 (Nat.le_of_ble_eq_true rfl) (Nat.le_of_ble_eq_true rfl) ?_
      exact ⟨_, rfl, rfl, rfl⟩

set_option maxHeartbeats 4000000 in
set_option maxRecDepth 100000 in
theorem cg_X7_count (l : Launch) (D : va_G) (ids : Nat → ClassId) (H0 : Heap) (h : rl_H) (n : Nat) (x : Nat) (s : cl_S) (c : cl_N) (q : Int32) (hc : cl_at ids h x s c) : rl_Met l (rl_e D ids H0) rl_BW rl_Ns yX7_count cX7_count 4 (some .int) ({ frames := 14, cells := 0, slots := 0, locals := 424 }) [.ref x, .int q] h n (fun v h' n' => ∃ r : Int32, v = some (.int r) ∧ h' = h ∧ n' = n) := by
  obtain ⟨c1, c2, c3, ⟨pn, c4, c5⟩, ⟨pt, c6, c7⟩, c8, c9, c10, c11, c12, c13, c14, c15⟩ := id hc
  refine rl_Met.of (by decide +kernel) (Nat.le_of_ble_eq_true rfl) ?_
  intro X hC hB
  show rl_G X (rl_e D ids H0) 0 [some (.ref x), some (.int q), none, none] [] h n 0 0
  refine o_aload_n hC dX7_count_0 (by rfl) ?_
  refine o_iload_n hC dX7_count_1 (by rfl) ?_
  refine o_callV1 hC rl_BW_good rl_Ns_nw (by exact hB.2.2.2.2.2) YX7_resultTuple IX7_resultTuple VX7_resultTuple (mX7_141 hC) (by rw [hB.1]; exact cg_X7_resultTuple l D ids H0 _ _ x s c _ hc) (by exact c1) rfl rfl (Nat.le_of_ble_eq_true rfl) (by rw [hB.2.1]; first | exact Nat.le_of_ble_eq_true rfl | (dsimp only; omega)) (by rw [hB.2.1]; first | exact Nat.le_of_ble_eq_true rfl | (dsimp only; omega)) (by rw [hB.2.1]; first | exact Nat.le_of_ble_eq_true rfl | (dsimp only; omega)) (by rw [hB.2.1]; first | exact Nat.le_of_ble_eq_true rfl | (dsimp only; omega)) dX7_count_2 (fun v h_2 n_2 p_2 => ?_)
  obtain ⟨zv, rfl, rfl, rfl, hz⟩ := p_2
  try dsimp only [Option.toList, List.cons_append, List.nil_append]
  rcases hz with rfl | ⟨j, i, hj, hi, hrs, rfl⟩
  · try dsimp only [Option.toList, List.cons_append, List.nil_append]
    refine o_astore_nN hC dX7_count_5 (Nat.le_of_ble_eq_true rfl) ?_
    refine o_aload_nN hC dX7_count_6 (by rfl) ?_
    refine o_ifnonnullN hC dX7_count_7 ?_
    refine o_iconst (v := (-1 : Int32)) hC dX7_count_10 (by decide +kernel) ?_
    refine o_iret hC hB dX7_count_11 (Nat.le_of_ble_eq_true rfl) (Nat.le_of_ble_eq_true rfl) ?_
    exact ⟨_, rfl, rfl, rfl⟩
  · try dsimp only [Option.toList, List.cons_append, List.nil_append]
    obtain ⟨wd, sz, P, S, t1, ⟨tf, t2, t3⟩, t4, t5, t6, t7⟩ := c13 j (by omega)
    obtain ⟨e1, e2, e3⟩ := t5 i hi
    obtain ⟨w1, w2, w3, w4⟩ := id e3
    refine o_astore_n hC dX7_count_5 (Nat.le_of_ble_eq_true rfl) ?_
    refine o_aload_n hC dX7_count_6 (by rfl) ?_
    refine o_ifnonnull (tgt := 12) hC dX7_count_7 (by decide) ?_
    refine o_aload_n hC dX7_count_12 (by rfl) ?_
    refine o_getf hC (fX7_160 hC rfl) dX7_count_13 (by repeat (first | with_reducible assumption | (rw [rl_u_s]; done) | (rw [rl_u_s]; rfl) | rw [rl_u_n (by first | with_reducible assumption | omega)])) (by first | rfl | with_reducible assumption) ?_
    refine o_callV0 hC rl_BW_good rl_Ns_nw (by exact hB.2.2.2.2.2) YX6_rowsOfTerms IX6_rowsOfTerms VX6_rowsOfTerms (mX7_199 hC) (by rw [hB.1]; exact ct_X6_rowsOfTerms l D ids H0 _ _ (c.1 j + 1 + 2 + 5 * i + 2) _ _ _ e3) (by exact e3.1) rfl rfl (Nat.le_of_ble_eq_true rfl) (by rw [hB.2.1]; first | exact Nat.le_of_ble_eq_true rfl | (dsimp only; omega)) (by rw [hB.2.1]; first | exact Nat.le_of_ble_eq_true rfl | (dsimp only; omega)) (by rw [hB.2.1]; first | exact Nat.le_of_ble_eq_true rfl | (dsimp only; omega)) (by rw [hB.2.1]; first | exact Nat.le_of_ble_eq_true rfl | (dsimp only; omega)) dX7_count_16 (fun v h_16 n_16 p_16 => ?_)
    obtain ⟨rfl, rfl, rfl⟩ := p_16
    try dsimp only [Option.toList, List.cons_append, List.nil_append]
    refine o_callS1 hC rl_BW_good rl_Ns_nw (by exact hB.2.2.2.2.2) YJ13_bitCount_95d88 SJ13_bitCount_95d88 (mX7_203 hC) (by rw [hB.1]; exact ct_J13_bitCount_95d88 l D ids H0 _ _ _) (Nat.le_of_ble_eq_true rfl) (by rw [hB.2.1]; first | exact Nat.le_of_ble_eq_true rfl | (dsimp only; omega)) (by rw [hB.2.1]; first | exact Nat.le_of_ble_eq_true rfl | (dsimp only; omega)) (by rw [hB.2.1]; first | exact Nat.le_of_ble_eq_true rfl | (dsimp only; omega)) (by rw [hB.2.1]; first | exact Nat.le_of_ble_eq_true rfl | (dsimp only; omega)) dX7_count_19 (fun v h_19 n_19 p_19 => ?_)
    obtain ⟨rfl, rfl, rfl⟩ := p_19
    try dsimp only [Option.toList, List.cons_append, List.nil_append]
    refine o_istore_n hC dX7_count_22 (Nat.le_of_ble_eq_true rfl) ?_
    refine o_iload_n hC dX7_count_23 (by rfl) ?_
    refine o_bipush (v := nI 16) hC dX7_count_24 (by decide +kernel) ?_
    refine o_icmp_le (tgt := 32) hC dX7_count_26 (by decide) (fun c_26 => ?_) (fun c_26 => ?_)
    · refine o_iconst (v := nI 1) hC dX7_count_32 (by decide +kernel) ?_
      refine o_iload_n hC dX7_count_33 (by rfl) ?_
      refine o_ishl hC dX7_count_34 ?_
      refine o_aload_n hC dX7_count_35 (by rfl) ?_
      refine o_getf hC (fX7_160 hC rfl) dX7_count_36 (by repeat (first | with_reducible assumption | (rw [rl_u_s]; done) | (rw [rl_u_s]; rfl) | rw [rl_u_n (by first | with_reducible assumption | omega)])) (by first | rfl | with_reducible assumption) ?_
      refine o_iconst (v := nI 0) hC dX7_count_39 (by decide +kernel) ?_
      refine o_lconst (v := 0) hC dX7_count_40 (by decide +kernel) ?_
      refine o_lconst (v := 0) hC dX7_count_41 (by decide +kernel) ?_
      refine o_iload_n hC dX7_count_42 (by rfl) ?_
      refine o_callS5 hC rl_BW_good rl_Ns_nw (by exact hB.2.2.2.2.2) YX7_setsWithNone SX7_setsWithNone (mX7_208 hC) (by rw [hB.1]; exact ct_X7_setsWithNone l D ids H0 _ _ (c.1 j + 1 + 2 + 5 * i + 2) _ _ _ _ e3 _ 0 _ _ (Nat.zero_add _)) (Nat.le_of_ble_eq_true rfl) (by rw [hB.2.1]; first | exact Nat.le_of_ble_eq_true rfl | (dsimp only; omega)) (by rw [hB.2.1]; first | exact Nat.le_of_ble_eq_true rfl | (dsimp only; omega)) (by rw [hB.2.1]; first | exact Nat.le_of_ble_eq_true rfl | (dsimp only; omega)) (by rw [hB.2.1]; first | exact Nat.le_of_ble_eq_true rfl | (dsimp only; omega)) dX7_count_43 (fun v h_43 n_43 p_43 => ?_)
      obtain ⟨sw43, rfl, rfl, rfl⟩ := p_43
      try dsimp only [Option.toList, List.cons_append, List.nil_append]
      refine o_isub hC dX7_count_46 ?_
      refine o_iret hC hB dX7_count_47 (Nat.le_of_ble_eq_true rfl) (Nat.le_of_ble_eq_true rfl) ?_
      exact ⟨_, rfl, rfl, rfl⟩
    · refine o_bipush (v := (-4 : Int32)) hC dX7_count_29 (by decide +kernel) ?_
      refine o_iret hC hB dX7_count_31 (Nat.le_of_ble_eq_true rfl) (Nat.le_of_ble_eq_true rfl) ?_
      exact ⟨_, rfl, rfl, rfl⟩

set_option maxHeartbeats 4000000 in
set_option maxRecDepth 100000 in
theorem cg_X7_leastDropsToBreak (l : Launch) (D : va_G) (ids : Nat → ClassId) (H0 : Heap) (h : rl_H) (n : Nat) (x : Nat) (s : cl_S) (c : cl_N) (w k : Nat) (f g : Nat → Int64) (hc : cl_at ids h x s c) (hw : ws_at ids h w f g k) : rl_Met l (rl_e D ids H0) rl_BW rl_Ns yX7_leastDropsToBreak cX7_leastDropsToBreak 3 (some .int) ({ frames := 14, cells := 0, slots := 0, locals := 374 }) [.ref x, .ref w] h n (fun v h' n' => ∃ r : Int32, v = some (.int r) ∧ h' = h ∧ n' = n) := by
  obtain ⟨c1, c2, c3, ⟨pn, c4, c5⟩, ⟨pt, c6, c7⟩, c8, c9, c10, c11, c12, c13, c14, c15⟩ := id hc
  refine rl_Met.of (by decide +kernel) (Nat.le_of_ble_eq_true rfl) ?_
  intro X hC hB
  have loop : ∀ (m t : Nat), t + m = 13 → rl_G X (rl_e D ids H0) 2 [some (.ref x), some (.ref w), some (.int (nI t))] [] h n 0 0 := by
    intro m
    induction m with
    | zero =>
      intro t hm
      refine o_iload_n hC dX7_leastDropsToBreak_2 (by rfl) ?_
      refine o_bipush (v := nI 12) hC dX7_leastDropsToBreak_3 (by decide +kernel) ?_
      refine o_icmp_gt (tgt := 28) hC dX7_leastDropsToBreak_5 (by decide) (fun c_5 => ?_) (fun c_5 => ?_)
      · refine o_iconst (v := (-1 : Int32)) hC dX7_leastDropsToBreak_28 (by decide +kernel) ?_
        refine o_iret hC hB dX7_leastDropsToBreak_29 (Nat.le_of_ble_eq_true rfl) (Nat.le_of_ble_eq_true rfl) ?_
        exact ⟨_, rfl, rfl, rfl⟩
      · exact absurd (nI_lt (by omega) (by omega)) c_5
    | succ m ih =>
      intro t hm
      refine o_iload_n hC dX7_leastDropsToBreak_2 (by rfl) ?_
      refine o_bipush (v := nI 12) hC dX7_leastDropsToBreak_3 (by decide +kernel) ?_
      refine o_icmp_gt (tgt := 28) hC dX7_leastDropsToBreak_5 (by decide) (fun c_5 => ?_) (fun c_5 => ?_)
      · exact absurd c_5 (nI_nlt (by omega) (by omega))
      · refine o_aload_n hC dX7_leastDropsToBreak_8 (by rfl) ?_
        refine o_aload_n hC dX7_leastDropsToBreak_9 (by rfl) ?_
        refine o_getf hC (fX7_71 hC rfl) dX7_leastDropsToBreak_10 (by repeat (first | with_reducible assumption | (rw [rl_u_s]; done) | (rw [rl_u_s]; rfl) | rw [rl_u_n (by first | with_reducible assumption | omega)])) (by first | rfl | with_reducible assumption) ?_
        refine o_iload_n hC dX7_leastDropsToBreak_13 (by rfl) ?_
        refine o_callS3 hC rl_BW_good rl_Ns_nw (by exact hB.2.2.2.2.2) YX7_canBreak SX7_canBreak (mX7_255 hC) (by rw [hB.1]; exact ct_X7_canBreak l D ids H0 _ _ w k f g hw t _ (by omega)) (Nat.le_of_ble_eq_true rfl) (by rw [hB.2.1]; first | exact Nat.le_of_ble_eq_true rfl | (dsimp only; omega)) (by rw [hB.2.1]; first | exact Nat.le_of_ble_eq_true rfl | (dsimp only; omega)) (by rw [hB.2.1]; first | exact Nat.le_of_ble_eq_true rfl | (dsimp only; omega)) (by rw [hB.2.1]; first | exact Nat.le_of_ble_eq_true rfl | (dsimp only; omega)) dX7_leastDropsToBreak_14 (fun v h_14 n_14 p_14 => ?_)
        obtain ⟨cb, rfl, rfl, rfl, -⟩ := p_14
        try dsimp only [Option.toList, List.cons_append, List.nil_append]
        refine o_if_eq (tgt := 22) hC dX7_leastDropsToBreak_17 (by decide) (fun c_17 => ?_) (fun c_17 => ?_)
        · refine o_iinc hC dX7_leastDropsToBreak_22 (by rfl) (rl_inc _) (Nat.le_of_ble_eq_true rfl) ?_
          refine o_goto (tgt := 2) hC dX7_leastDropsToBreak_25 (by decide) ?_
          exact ih (t + 1) (by omega)
        · refine o_iload_n hC dX7_leastDropsToBreak_20 (by rfl) ?_
          refine o_iret hC hB dX7_leastDropsToBreak_21 (Nat.le_of_ble_eq_true rfl) (Nat.le_of_ble_eq_true rfl) ?_
          exact ⟨_, rfl, rfl, rfl⟩
  show rl_G X (rl_e D ids H0) 0 [some (.ref x), some (.ref w), none] [] h n 0 0
  refine o_iconst (v := nI 0) hC dX7_leastDropsToBreak_0 (by decide +kernel) ?_
  refine o_istore_n hC dX7_leastDropsToBreak_1 (Nat.le_of_ble_eq_true rfl) ?_
  exact loop 13 0 (by omega)

set_option maxHeartbeats 4000000 in
set_option maxRecDepth 100000 in
theorem cg_X7_blame (l : Launch) (D : va_G) (ids : Nat → ClassId) (H0 : Heap) (h : rl_H) (n : Nat) (x : Nat) (s : cl_S) (c : cl_N) (q : Int32) (hc : cl_at ids h x s c) : rl_Met l (rl_e D ids H0) rl_BW rl_Ns yX7_blame cX7_blame 5 (some .int) ({ frames := 15, cells := 0, slots := 0, locals := 396 }) [.ref x, .int q] h n (fun v h' n' => ∃ r : Int32, v = some (.int r) ∧ h' = h ∧ n' = n) := by
  obtain ⟨c1, c2, c3, ⟨pn, c4, c5⟩, ⟨pt, c6, c7⟩, c8, c9, c10, c11, c12, c13, c14, c15⟩ := id hc
  refine rl_Met.of (by decide +kernel) (Nat.le_of_ble_eq_true rfl) ?_
  intro X hC hB
  show rl_G X (rl_e D ids H0) 0 [some (.ref x), some (.int q), none, none, none] [] h n 0 0
  refine o_aload_n hC dX7_blame_0 (by rfl) ?_
  refine o_iload_n hC dX7_blame_1 (by rfl) ?_
  refine o_callV1 hC rl_BW_good rl_Ns_nw (by exact hB.2.2.2.2.2) YX7_resultTuple IX7_resultTuple VX7_resultTuple (mX7_141 hC) (by rw [hB.1]; exact cg_X7_resultTuple l D ids H0 _ _ x s c _ hc) (by exact c1) rfl rfl (Nat.le_of_ble_eq_true rfl) (by rw [hB.2.1]; first | exact Nat.le_of_ble_eq_true rfl | (dsimp only; omega)) (by rw [hB.2.1]; first | exact Nat.le_of_ble_eq_true rfl | (dsimp only; omega)) (by rw [hB.2.1]; first | exact Nat.le_of_ble_eq_true rfl | (dsimp only; omega)) (by rw [hB.2.1]; first | exact Nat.le_of_ble_eq_true rfl | (dsimp only; omega)) dX7_blame_2 (fun v h_2 n_2 p_2 => ?_)
  obtain ⟨zv, rfl, rfl, rfl, hz⟩ := p_2
  try dsimp only [Option.toList, List.cons_append, List.nil_append]
  rcases hz with rfl | ⟨j, i, hj, hi, hrs, rfl⟩
  · try dsimp only [Option.toList, List.cons_append, List.nil_append]
    refine o_astore_nN hC dX7_blame_5 (Nat.le_of_ble_eq_true rfl) ?_
    refine o_aload_nN hC dX7_blame_6 (by rfl) ?_
    refine o_ifnonnullN hC dX7_blame_7 ?_
    refine o_iconst (v := (-1 : Int32)) hC dX7_blame_10 (by decide +kernel) ?_
    refine o_iret hC hB dX7_blame_11 (Nat.le_of_ble_eq_true rfl) (Nat.le_of_ble_eq_true rfl) ?_
    exact ⟨_, rfl, rfl, rfl⟩
  · try dsimp only [Option.toList, List.cons_append, List.nil_append]
    obtain ⟨wd, sz, P, S, t1, ⟨tf, t2, t3⟩, t4, t5, t6, t7⟩ := c13 j (by omega)
    obtain ⟨e1, e2, e3⟩ := t5 i hi
    obtain ⟨w1, w2, w3, w4⟩ := id e3
    refine o_astore_n hC dX7_blame_5 (Nat.le_of_ble_eq_true rfl) ?_
    refine o_aload_n hC dX7_blame_6 (by rfl) ?_
    refine o_ifnonnull (tgt := 12) hC dX7_blame_7 (by decide) ?_
    refine o_aload_n hC dX7_blame_12 (by rfl) ?_
    refine o_getf hC (fX7_160 hC rfl) dX7_blame_13 (by repeat (first | with_reducible assumption | (rw [rl_u_s]; done) | (rw [rl_u_s]; rfl) | rw [rl_u_n (by first | with_reducible assumption | omega)])) (by first | rfl | with_reducible assumption) ?_
    refine o_aload_n hC dX7_blame_16 (by rfl) ?_
    refine o_getf hC (fX7_71 hC rfl) dX7_blame_17 (by repeat (first | with_reducible assumption | (rw [rl_u_s]; done) | (rw [rl_u_s]; rfl) | rw [rl_u_n (by first | with_reducible assumption | omega)])) (by first | rfl | with_reducible assumption) ?_
    refine o_callV1 hC rl_BW_good rl_Ns_nw (by exact hB.2.2.2.2.2) YX6_holdsWith IX6_holdsWith VX6_holdsWith (mX7_183 hC) (by rw [hB.1]; exact ct_X6_holdsWith l D ids H0 _ _ (c.1 j + 1 + 2 + 5 * i + 2) _ _ _ _ e3) (by exact e3.1) rfl rfl (Nat.le_of_ble_eq_true rfl) (by rw [hB.2.1]; first | exact Nat.le_of_ble_eq_true rfl | (dsimp only; omega)) (by rw [hB.2.1]; first | exact Nat.le_of_ble_eq_true rfl | (dsimp only; omega)) (by rw [hB.2.1]; first | exact Nat.le_of_ble_eq_true rfl | (dsimp only; omega)) (by rw [hB.2.1]; first | exact Nat.le_of_ble_eq_true rfl | (dsimp only; omega)) dX7_blame_20 (fun v h_20 n_20 p_20 => ?_)
    obtain ⟨rfl, rfl, rfl⟩ := p_20
    try dsimp only [Option.toList, List.cons_append, List.nil_append]
    refine o_istore_n hC dX7_blame_23 (Nat.le_of_ble_eq_true rfl) ?_
    refine o_iload_n hC dX7_blame_24 (by rfl) ?_
    refine o_if_eq (tgt := 32) hC dX7_blame_25 (by decide) (fun c_25 => ?_) (fun c_25 => ?_)
    · refine o_aload_n hC dX7_blame_32 (by rfl) ?_
      refine o_getf hC (fX7_160 hC rfl) dX7_blame_33 (by repeat (first | with_reducible assumption | (rw [rl_u_s]; done) | (rw [rl_u_s]; rfl) | rw [rl_u_n (by first | with_reducible assumption | omega)])) (by first | rfl | with_reducible assumption) ?_
      refine o_aload_n hC dX7_blame_36 (by rfl) ?_
      refine o_getf hC (fX7_71 hC rfl) dX7_blame_37 (by repeat (first | with_reducible assumption | (rw [rl_u_s]; done) | (rw [rl_u_s]; rfl) | rw [rl_u_n (by first | with_reducible assumption | omega)])) (by first | rfl | with_reducible assumption) ?_
      refine o_callV1 hC rl_BW_good rl_Ns_nw (by exact hB.2.2.2.2.2) YX6_leastDropsToHold IX6_leastDropsToHold VX6_leastDropsToHold (mX7_216 hC) (by rw [hB.1]; exact ct_X6_leastDropsToHold l D ids H0 _ _ (c.1 j + 1 + 2 + 5 * i + 2) _ _ _ _ e3) (by exact e3.1) rfl rfl (Nat.le_of_ble_eq_true rfl) (by rw [hB.2.1]; first | exact Nat.le_of_ble_eq_true rfl | (dsimp only; omega)) (by rw [hB.2.1]; first | exact Nat.le_of_ble_eq_true rfl | (dsimp only; omega)) (by rw [hB.2.1]; first | exact Nat.le_of_ble_eq_true rfl | (dsimp only; omega)) (by rw [hB.2.1]; first | exact Nat.le_of_ble_eq_true rfl | (dsimp only; omega)) dX7_blame_40 (fun v h_40 n_40 p_40 => ?_)
      obtain ⟨ld, rfl, rfl, rfl⟩ := p_40
      try dsimp only [Option.toList, List.cons_append, List.nil_append]
      refine o_istore hC dX7_blame_43 (Nat.le_of_ble_eq_true rfl) ?_
      refine o_iload hC dX7_blame_45 (by rfl) ?_
      refine o_iconst (v := (-1 : Int32)) hC dX7_blame_47 (by decide +kernel) ?_
      refine o_icmp_ne (tgt := 53) hC dX7_blame_48 (by decide) (fun c_48 => ?_) (fun c_48 => ?_)
      · refine o_aload_n hC dX7_blame_53 (by rfl) ?_
        refine o_getf hC (fX7_160 hC rfl) dX7_blame_54 (by repeat (first | with_reducible assumption | (rw [rl_u_s]; done) | (rw [rl_u_s]; rfl) | rw [rl_u_n (by first | with_reducible assumption | omega)])) (by first | rfl | with_reducible assumption) ?_
        refine o_callV0 hC rl_BW_good rl_Ns_nw (by exact hB.2.2.2.2.2) YX6_rowsOfTerms IX6_rowsOfTerms VX6_rowsOfTerms (mX7_199 hC) (by rw [hB.1]; exact ct_X6_rowsOfTerms l D ids H0 _ _ (c.1 j + 1 + 2 + 5 * i + 2) _ _ _ e3) (by exact e3.1) rfl rfl (Nat.le_of_ble_eq_true rfl) (by rw [hB.2.1]; first | exact Nat.le_of_ble_eq_true rfl | (dsimp only; omega)) (by rw [hB.2.1]; first | exact Nat.le_of_ble_eq_true rfl | (dsimp only; omega)) (by rw [hB.2.1]; first | exact Nat.le_of_ble_eq_true rfl | (dsimp only; omega)) (by rw [hB.2.1]; first | exact Nat.le_of_ble_eq_true rfl | (dsimp only; omega)) dX7_blame_57 (fun v h_57 n_57 p_57 => ?_)
        obtain ⟨rfl, rfl, rfl⟩ := p_57
        try dsimp only [Option.toList, List.cons_append, List.nil_append]
        refine o_callS1 hC rl_BW_good rl_Ns_nw (by exact hB.2.2.2.2.2) YJ13_bitCount_95d88 SJ13_bitCount_95d88 (mX7_203 hC) (by rw [hB.1]; exact ct_J13_bitCount_95d88 l D ids H0 _ _ _) (Nat.le_of_ble_eq_true rfl) (by rw [hB.2.1]; first | exact Nat.le_of_ble_eq_true rfl | (dsimp only; omega)) (by rw [hB.2.1]; first | exact Nat.le_of_ble_eq_true rfl | (dsimp only; omega)) (by rw [hB.2.1]; first | exact Nat.le_of_ble_eq_true rfl | (dsimp only; omega)) (by rw [hB.2.1]; first | exact Nat.le_of_ble_eq_true rfl | (dsimp only; omega)) dX7_blame_60 (fun v h_60 n_60 p_60 => ?_)
        obtain ⟨rfl, rfl, rfl⟩ := p_60
        try dsimp only [Option.toList, List.cons_append, List.nil_append]
        refine o_bipush (v := nI 16) hC dX7_blame_63 (by decide +kernel) ?_
        refine o_icmp_le (tgt := 71) hC dX7_blame_65 (by decide) (fun c_65 => ?_) (fun c_65 => ?_)
        · refine o_iload_n hC dX7_blame_71 (by rfl) ?_
          refine o_if_eq (tgt := 86) hC dX7_blame_72 (by decide) (fun c_72 => ?_) (fun c_72 => ?_)
          · refine o_iload hC dX7_blame_86 (by rfl) ?_
            refine o_iret hC hB dX7_blame_88 (Nat.le_of_ble_eq_true rfl) (Nat.le_of_ble_eq_true rfl) ?_
            exact ⟨_, rfl, rfl, rfl⟩
          · refine o_aload_n hC dX7_blame_75 (by rfl) ?_
            refine o_aload_n hC dX7_blame_76 (by rfl) ?_
            refine o_getf hC (fX7_160 hC rfl) dX7_blame_77 (by repeat (first | with_reducible assumption | (rw [rl_u_s]; done) | (rw [rl_u_s]; rfl) | rw [rl_u_n (by first | with_reducible assumption | omega)])) (by first | rfl | with_reducible assumption) ?_
            refine o_callV1 hC rl_BW_good rl_Ns_nw (by exact hB.2.2.2.2.2) YX7_leastDropsToBreak IX7_leastDropsToBreak VX7_leastDropsToBreak (mX7_219 hC) (by rw [hB.1]; exact cg_X7_leastDropsToBreak l D ids H0 _ _ x s c (c.1 j + 1 + 2 + 5 * i + 2) _ _ _ hc e3) (by exact c1) rfl rfl (Nat.le_of_ble_eq_true rfl) (by rw [hB.2.1]; first | exact Nat.le_of_ble_eq_true rfl | (dsimp only; omega)) (by rw [hB.2.1]; first | exact Nat.le_of_ble_eq_true rfl | (dsimp only; omega)) (by rw [hB.2.1]; first | exact Nat.le_of_ble_eq_true rfl | (dsimp only; omega)) (by rw [hB.2.1]; first | exact Nat.le_of_ble_eq_true rfl | (dsimp only; omega)) dX7_blame_80 (fun v h_80 n_80 p_80 => ?_)
            obtain ⟨lb, rfl, rfl, rfl⟩ := p_80
            try dsimp only [Option.toList, List.cons_append, List.nil_append]
            refine o_goto (tgt := 88) hC dX7_blame_83 (by decide) ?_
            refine o_iret hC hB dX7_blame_88 (Nat.le_of_ble_eq_true rfl) (Nat.le_of_ble_eq_true rfl) ?_
            exact ⟨_, rfl, rfl, rfl⟩
        · refine o_bipush (v := (-4 : Int32)) hC dX7_blame_68 (by decide +kernel) ?_
          refine o_iret hC hB dX7_blame_70 (Nat.le_of_ble_eq_true rfl) (Nat.le_of_ble_eq_true rfl) ?_
          exact ⟨_, rfl, rfl, rfl⟩
      · refine o_iconst (v := (-1 : Int32)) hC dX7_blame_51 (by decide +kernel) ?_
        refine o_iret hC hB dX7_blame_52 (Nat.le_of_ble_eq_true rfl) (Nat.le_of_ble_eq_true rfl) ?_
        exact ⟨_, rfl, rfl, rfl⟩
    · refine o_iconst (v := nI 0) hC dX7_blame_28 (by decide +kernel) ?_
      refine o_goto (tgt := 43) hC dX7_blame_29 (by decide) ?_
      refine o_istore hC dX7_blame_43 (Nat.le_of_ble_eq_true rfl) ?_
      refine o_iload hC dX7_blame_45 (by rfl) ?_
      refine o_iconst (v := (-1 : Int32)) hC dX7_blame_47 (by decide +kernel) ?_
      refine o_icmp_ne (tgt := 53) hC dX7_blame_48 (by decide) (fun c_48 => ?_) (fun c_48 => ?_)
      · refine o_aload_n hC dX7_blame_53 (by rfl) ?_
        refine o_getf hC (fX7_160 hC rfl) dX7_blame_54 (by repeat (first | with_reducible assumption | (rw [rl_u_s]; done) | (rw [rl_u_s]; rfl) | rw [rl_u_n (by first | with_reducible assumption | omega)])) (by first | rfl | with_reducible assumption) ?_
        refine o_callV0 hC rl_BW_good rl_Ns_nw (by exact hB.2.2.2.2.2) YX6_rowsOfTerms IX6_rowsOfTerms VX6_rowsOfTerms (mX7_199 hC) (by rw [hB.1]; exact ct_X6_rowsOfTerms l D ids H0 _ _ (c.1 j + 1 + 2 + 5 * i + 2) _ _ _ e3) (by exact e3.1) rfl rfl (Nat.le_of_ble_eq_true rfl) (by rw [hB.2.1]; first | exact Nat.le_of_ble_eq_true rfl | (dsimp only; omega)) (by rw [hB.2.1]; first | exact Nat.le_of_ble_eq_true rfl | (dsimp only; omega)) (by rw [hB.2.1]; first | exact Nat.le_of_ble_eq_true rfl | (dsimp only; omega)) (by rw [hB.2.1]; first | exact Nat.le_of_ble_eq_true rfl | (dsimp only; omega)) dX7_blame_57 (fun v h_57 n_57 p_57 => ?_)
        obtain ⟨rfl, rfl, rfl⟩ := p_57
        try dsimp only [Option.toList, List.cons_append, List.nil_append]
        refine o_callS1 hC rl_BW_good rl_Ns_nw (by exact hB.2.2.2.2.2) YJ13_bitCount_95d88 SJ13_bitCount_95d88 (mX7_203 hC) (by rw [hB.1]; exact ct_J13_bitCount_95d88 l D ids H0 _ _ _) (Nat.le_of_ble_eq_true rfl) (by rw [hB.2.1]; first | exact Nat.le_of_ble_eq_true rfl | (dsimp only; omega)) (by rw [hB.2.1]; first | exact Nat.le_of_ble_eq_true rfl | (dsimp only; omega)) (by rw [hB.2.1]; first | exact Nat.le_of_ble_eq_true rfl | (dsimp only; omega)) (by rw [hB.2.1]; first | exact Nat.le_of_ble_eq_true rfl | (dsimp only; omega)) dX7_blame_60 (fun v h_60 n_60 p_60 => ?_)
        obtain ⟨rfl, rfl, rfl⟩ := p_60
        try dsimp only [Option.toList, List.cons_append, List.nil_append]
        refine o_bipush (v := nI 16) hC dX7_blame_63 (by decide +kernel) ?_
        refine o_icmp_le (tgt := 71) hC dX7_blame_65 (by decide) (fun c_65 => ?_) (fun c_65 => ?_)
        · refine o_iload_n hC dX7_blame_71 (by rfl) ?_
          refine o_if_eq (tgt := 86) hC dX7_blame_72 (by decide) (fun c_72 => ?_) (fun c_72 => ?_)
          · refine o_iload hC dX7_blame_86 (by rfl) ?_
            refine o_iret hC hB dX7_blame_88 (Nat.le_of_ble_eq_true rfl) (Nat.le_of_ble_eq_true rfl) ?_
            exact ⟨_, rfl, rfl, rfl⟩
          · refine o_aload_n hC dX7_blame_75 (by rfl) ?_
            refine o_aload_n hC dX7_blame_76 (by rfl) ?_
            refine o_getf hC (fX7_160 hC rfl) dX7_blame_77 (by repeat (first | with_reducible assumption | (rw [rl_u_s]; done) | (rw [rl_u_s]; rfl) | rw [rl_u_n (by first | with_reducible assumption | omega)])) (by first | rfl | with_reducible assumption) ?_
            refine o_callV1 hC rl_BW_good rl_Ns_nw (by exact hB.2.2.2.2.2) YX7_leastDropsToBreak IX7_leastDropsToBreak VX7_leastDropsToBreak (mX7_219 hC) (by rw [hB.1]; exact cg_X7_leastDropsToBreak l D ids H0 _ _ x s c (c.1 j + 1 + 2 + 5 * i + 2) _ _ _ hc e3) (by exact c1) rfl rfl (Nat.le_of_ble_eq_true rfl) (by rw [hB.2.1]; first | exact Nat.le_of_ble_eq_true rfl | (dsimp only; omega)) (by rw [hB.2.1]; first | exact Nat.le_of_ble_eq_true rfl | (dsimp only; omega)) (by rw [hB.2.1]; first | exact Nat.le_of_ble_eq_true rfl | (dsimp only; omega)) (by rw [hB.2.1]; first | exact Nat.le_of_ble_eq_true rfl | (dsimp only; omega)) dX7_blame_80 (fun v h_80 n_80 p_80 => ?_)
            obtain ⟨lb, rfl, rfl, rfl⟩ := p_80
            try dsimp only [Option.toList, List.cons_append, List.nil_append]
            refine o_goto (tgt := 88) hC dX7_blame_83 (by decide) ?_
            refine o_iret hC hB dX7_blame_88 (Nat.le_of_ble_eq_true rfl) (Nat.le_of_ble_eq_true rfl) ?_
            exact ⟨_, rfl, rfl, rfl⟩
        · refine o_bipush (v := (-4 : Int32)) hC dX7_blame_68 (by decide +kernel) ?_
          refine o_iret hC hB dX7_blame_70 (Nat.le_of_ble_eq_true rfl) (Nat.le_of_ble_eq_true rfl) ?_
          exact ⟨_, rfl, rfl, rfl⟩
      · refine o_iconst (v := (-1 : Int32)) hC dX7_blame_51 (by decide +kernel) ?_
        refine o_iret hC hB dX7_blame_52 (Nat.le_of_ble_eq_true rfl) (Nat.le_of_ble_eq_true rfl) ?_
        exact ⟨_, rfl, rfl, rfl⟩

set_option maxHeartbeats 4000000 in
set_option maxRecDepth 100000 in
theorem cg_X7_forward (l : Launch) (D : va_G) (ids : Nat → ClassId) (H0 : Heap) (h : rl_H) (n : Nat) (x : Nat) (s : cl_S) (c : cl_N) (q : Int32) (hc : cl_at ids h x s c) : rl_Met l (rl_e D ids H0) rl_BW rl_Ns yX7_forward cX7_forward 6 (some .int) ({ frames := 2, cells := 0, slots := 0, locals := 45 }) [.ref x, .int q] h n (fun v h' n' => ∃ r : Int32, v = some (.int r) ∧ h' = h ∧ n' = n) := by
  obtain ⟨c1, c2, c3, ⟨pn, c4, c5⟩, ⟨pt, c6, c7⟩, c8, c9, c10, c11, c12, c13, c14, c15⟩ := id hc
  refine rl_Met.of (by decide +kernel) (Nat.le_of_ble_eq_true rfl) ?_
  intro X hC hB
  show rl_G X (rl_e D ids H0) 0 [some (.ref x), some (.int q), none, none, none, none] [] h n 0 0
  refine o_aload_n hC dX7_forward_0 (by rfl) ?_
  refine o_getf hC (fX7_10 hC rfl) dX7_forward_1 (by repeat (first | with_reducible assumption | (rw [rl_u_s]; done) | (rw [rl_u_s]; rfl) | rw [rl_u_n (by first | with_reducible assumption | omega)])) (by first | rfl | with_reducible assumption) ?_
  refine o_iload_n hC dX7_forward_4 (by rfl) ?_
  refine o_callV1 hC rl_BW_good rl_Ns_nw (by exact hB.2.2.2.2.2) YX3_isRow IX3_isRow VX3_isRow (mX7_178 hC) (by rw [hB.1]; exact ct_X3_isRow l D ids H0 _ _ (x + 1) _ _ _ _ _ _ c2) (by exact c2.1) rfl rfl (Nat.le_of_ble_eq_true rfl) (by rw [hB.2.1]; first | exact Nat.le_of_ble_eq_true rfl | (dsimp only; omega)) (by rw [hB.2.1]; first | exact Nat.le_of_ble_eq_true rfl | (dsimp only; omega)) (by rw [hB.2.1]; first | exact Nat.le_of_ble_eq_true rfl | (dsimp only; omega)) (by rw [hB.2.1]; first | exact Nat.le_of_ble_eq_true rfl | (dsimp only; omega)) dX7_forward_5 (fun v h_5 n_5 p_5 => ?_)
  obtain ⟨rfl, rfl, rfl⟩ := p_5
  try dsimp only [Option.toList, List.cons_append, List.nil_append]
  by_cases hr : q < 0 ∨ nI s.2.2.2.2 ≤ q
  · rw [if_pos hr]
    refine o_if_ne (tgt := 13) hC dX7_forward_8 (by decide) (fun c_8 => ?_) (fun c_8 => ?_)
    · exact absurd rfl c_8
    · refine o_iconst (v := (-1 : Int32)) hC dX7_forward_11 (by decide +kernel) ?_
      refine o_iret hC hB dX7_forward_12 (Nat.le_of_ble_eq_true rfl) (Nat.le_of_ble_eq_true rfl) ?_
      exact ⟨_, rfl, rfl, rfl⟩
  · rw [if_neg hr]
    refine o_if_ne (tgt := 13) hC dX7_forward_8 (by decide) (fun c_8 => ?_) (fun c_8 => ?_)
    · refine o_aload_n hC dX7_forward_13 (by rfl) ?_
      refine o_aload_n hC dX7_forward_14 (by rfl) ?_
      refine o_getf hC (fX7_49 hC rfl) dX7_forward_15 (by repeat (first | with_reducible assumption | (rw [rl_u_s]; done) | (rw [rl_u_s]; rfl) | rw [rl_u_n (by first | with_reducible assumption | omega)])) (by first | rfl | with_reducible assumption) ?_
      refine o_callV1 hC rl_BW_good rl_Ns_nw (by exact hB.2.2.2.2.2) YX7_tableOf IX7_tableOf VX7_tableOf (mX7_127 hC) (by rw [hB.1]; exact cg_X7_tableOf l D ids H0 _ _ x s c _ hc) (by exact c1) rfl rfl (Nat.le_of_ble_eq_true rfl) (by rw [hB.2.1]; first | exact Nat.le_of_ble_eq_true rfl | (dsimp only; omega)) (by rw [hB.2.1]; first | exact Nat.le_of_ble_eq_true rfl | (dsimp only; omega)) (by rw [hB.2.1]; first | exact Nat.le_of_ble_eq_true rfl | (dsimp only; omega)) (by rw [hB.2.1]; first | exact Nat.le_of_ble_eq_true rfl | (dsimp only; omega)) dX7_forward_18 (fun v h_18 n_18 p_18 => ?_)
      obtain ⟨z18, rfl, rfl, rfl, hz⟩ := p_18
      try dsimp only [Option.toList, List.cons_append, List.nil_append]
      rcases hz with ⟨rfl, -⟩ | ⟨j, hj, e, rfl⟩
      · try dsimp only [Option.toList, List.cons_append, List.nil_append]
        refine o_astore_n hC dX7_forward_21 (Nat.le_of_ble_eq_true rfl) ?_
        refine o_iconst (v := nI 0) hC dX7_forward_22 (by decide +kernel) ?_
        refine o_istore_n hC dX7_forward_23 (Nat.le_of_ble_eq_true rfl) ?_
        refine o_iconst (v := nI 0) hC dX7_forward_24 (by decide +kernel) ?_
        refine o_istore hC dX7_forward_25 (Nat.le_of_ble_eq_true rfl) ?_
        refine o_iload hC dX7_forward_27 (by rfl) ?_
        refine o_aload_n hC dX7_forward_29 (by rfl) ?_
        refine o_getf hC (fX7_138 hC rfl) dX7_forward_30 (by repeat (first | with_reducible assumption | (rw [rl_u_s]; done) | (rw [rl_u_s]; rfl) | rw [rl_u_n (by first | with_reducible assumption | omega)])) (by first | rfl | with_reducible assumption) ?_
        refine o_icmp_ge (tgt := 82) hC dX7_forward_33 (by decide) (fun c_33 => ?_) (fun c_33 => ?_)
        · refine o_iload_n hC dX7_forward_82 (by rfl) ?_
          refine o_iret hC hB dX7_forward_83 (Nat.le_of_ble_eq_true rfl) (Nat.le_of_ble_eq_true rfl) ?_
          exact ⟨_, rfl, rfl, rfl⟩
        · exact absurd (nI_le (Nat.le_refl _) (by decide)) c_33
      · try dsimp only [Option.toList, List.cons_append, List.nil_append]
        obtain ⟨wd, sz, P, S, t1, ⟨tf, t2, t3⟩, t4, t5, t6, t7⟩ := c13 j (by omega)
        have loop : ∀ (m t : Nat) (ch : Int32) (o5 : Option Value), t + m = sz → rl_G X (rl_e D ids H0) 27 [some (.ref x), some (.int q), some (.ref (c.1 j + 1)), some (.int ch), some (.int (nI t)), o5] [] h_18 n_18 0 0 := by
          intro m
          induction m with
          | zero =>
            intro t ch o5 hm
            refine o_iload hC dX7_forward_27 (by rfl) ?_
            refine o_aload_n hC dX7_forward_29 (by rfl) ?_
            refine o_getf hC (fX7_138 hC rfl) dX7_forward_30 (by repeat (first | with_reducible assumption | (rw [rl_u_s]; done) | (rw [rl_u_s]; rfl) | rw [rl_u_n (by first | with_reducible assumption | omega)])) (by first | rfl | with_reducible assumption) ?_
            refine o_icmp_ge (tgt := 82) hC dX7_forward_33 (by decide) (fun c_33 => ?_) (fun c_33 => ?_)
            · refine o_iload_n hC dX7_forward_82 (by rfl) ?_
              refine o_iret hC hB dX7_forward_83 (Nat.le_of_ble_eq_true rfl) (Nat.le_of_ble_eq_true rfl) ?_
              exact ⟨_, rfl, rfl, rfl⟩
            · exact absurd (nI_le (by omega) (by omega)) c_33
          | succ m ih =>
            intro t ch o5 hm
            have hb := t4 t (by omega)
            obtain ⟨e1, e2, e3⟩ := t5 (P t) hb
            refine o_iload hC dX7_forward_27 (by rfl) ?_
            refine o_aload_n hC dX7_forward_29 (by rfl) ?_
            refine o_getf hC (fX7_138 hC rfl) dX7_forward_30 (by repeat (first | with_reducible assumption | (rw [rl_u_s]; done) | (rw [rl_u_s]; rfl) | rw [rl_u_n (by first | with_reducible assumption | omega)])) (by first | rfl | with_reducible assumption) ?_
            refine o_icmp_ge (tgt := 82) hC dX7_forward_33 (by decide) (fun c_33 => ?_) (fun c_33 => ?_)
            · exact absurd c_33 (nI_ge (by omega) (by omega))
            · refine o_aload_n hC dX7_forward_36 (by rfl) ?_
              refine o_getf hC (fX7_195 hC rfl) dX7_forward_37 (by repeat (first | with_reducible assumption | (rw [rl_u_s]; done) | (rw [rl_u_s]; rfl) | rw [rl_u_n (by first | with_reducible assumption | omega)])) (by first | rfl | with_reducible assumption) ?_
              refine o_iload hC dX7_forward_40 (by rfl) ?_
              refine o_aaldN (t0 := 3) (k := t) hC rfl dX7_forward_42 t2 (by omega) (by decide) ?_
              rw [t3 _ (by omega)]
              show rl_G X _ _ _ (.ref _ :: _) _ _ _ _
              refine o_getf hC (fX7_160 hC rfl) dX7_forward_43 (by repeat (first | with_reducible assumption | (rw [rl_u_s]; done) | (rw [rl_u_s]; rfl) | rw [rl_u_n (by first | with_reducible assumption | omega)])) (by first | rfl | with_reducible assumption) ?_
              refine o_astore hC dX7_forward_46 (Nat.le_of_ble_eq_true rfl) ?_
              refine o_aload hC dX7_forward_48 (by rfl) ?_
              refine o_aload_n hC dX7_forward_50 (by rfl) ?_
              refine o_getf hC (fX7_71 hC rfl) dX7_forward_51 (by repeat (first | with_reducible assumption | (rw [rl_u_s]; done) | (rw [rl_u_s]; rfl) | rw [rl_u_n (by first | with_reducible assumption | omega)])) (by first | rfl | with_reducible assumption) ?_
              refine o_callV1 hC rl_BW_good rl_Ns_nw (by exact hB.2.2.2.2.2) YX6_holdsWith IX6_holdsWith VX6_holdsWith (mX7_183 hC) (by rw [hB.1]; exact ct_X6_holdsWith l D ids H0 _ _ (c.1 j + 1 + 2 + 5 * P t + 2) _ _ _ _ e3) (by exact e3.1) rfl rfl (Nat.le_of_ble_eq_true rfl) (by rw [hB.2.1]; first | exact Nat.le_of_ble_eq_true rfl | (dsimp only; omega)) (by rw [hB.2.1]; first | exact Nat.le_of_ble_eq_true rfl | (dsimp only; omega)) (by rw [hB.2.1]; first | exact Nat.le_of_ble_eq_true rfl | (dsimp only; omega)) (by rw [hB.2.1]; first | exact Nat.le_of_ble_eq_true rfl | (dsimp only; omega)) dX7_forward_54 (fun v h_54 n_54 p_54 => ?_)
              obtain ⟨rfl, rfl, rfl⟩ := p_54
              try dsimp only [Option.toList, List.cons_append, List.nil_append]
              refine o_aload hC dX7_forward_57 (by rfl) ?_
              refine o_aload_n hC dX7_forward_59 (by rfl) ?_
              refine o_getf hC (fX7_71 hC rfl) dX7_forward_60 (by repeat (first | with_reducible assumption | (rw [rl_u_s]; done) | (rw [rl_u_s]; rfl) | rw [rl_u_n (by first | with_reducible assumption | omega)])) (by first | rfl | with_reducible assumption) ?_
              refine o_lconst (v := 1) hC dX7_forward_63 (by decide +kernel) ?_
              refine o_iload_n hC dX7_forward_64 (by rfl) ?_
              refine o_lshl hC dX7_forward_65 ?_
              refine o_lxor hC dX7_forward_66 ?_
              refine o_callV1 hC rl_BW_good rl_Ns_nw (by exact hB.2.2.2.2.2) YX6_holdsWith IX6_holdsWith VX6_holdsWith (mX7_183 hC) (by rw [hB.1]; exact ct_X6_holdsWith l D ids H0 _ _ (c.1 j + 1 + 2 + 5 * P t + 2) _ _ _ _ e3) (by exact e3.1) rfl rfl (Nat.le_of_ble_eq_true rfl) (by rw [hB.2.1]; first | exact Nat.le_of_ble_eq_true rfl | (dsimp only; omega)) (by rw [hB.2.1]; first | exact Nat.le_of_ble_eq_true rfl | (dsimp only; omega)) (by rw [hB.2.1]; first | exact Nat.le_of_ble_eq_true rfl | (dsimp only; omega)) (by rw [hB.2.1]; first | exact Nat.le_of_ble_eq_true rfl | (dsimp only; omega)) dX7_forward_67 (fun v h_67 n_67 p_67 => ?_)
              obtain ⟨rfl, rfl, rfl⟩ := p_67
              try dsimp only [Option.toList, List.cons_append, List.nil_append]
              refine o_icmp_eq (tgt := 76) hC dX7_forward_70 (by decide) (fun c_70 => ?_) (fun c_70 => ?_)
              · refine o_iinc hC dX7_forward_76 (by rfl) (rl_inc _) (Nat.le_of_ble_eq_true rfl) ?_
                refine o_goto (tgt := 27) hC dX7_forward_79 (by decide) ?_
                exact ih (t + 1) _ _ (by omega)
              · refine o_iinc hC dX7_forward_73 (by rfl) rfl (Nat.le_of_ble_eq_true rfl) ?_
                refine o_iinc hC dX7_forward_76 (by rfl) (rl_inc _) (Nat.le_of_ble_eq_true rfl) ?_
                refine o_goto (tgt := 27) hC dX7_forward_79 (by decide) ?_
                exact ih (t + 1) _ _ (by omega)
        refine o_astore_n hC dX7_forward_21 (Nat.le_of_ble_eq_true rfl) ?_
        refine o_iconst (v := nI 0) hC dX7_forward_22 (by decide +kernel) ?_
        refine o_istore_n hC dX7_forward_23 (Nat.le_of_ble_eq_true rfl) ?_
        refine o_iconst (v := nI 0) hC dX7_forward_24 (by decide +kernel) ?_
        refine o_istore hC dX7_forward_25 (Nat.le_of_ble_eq_true rfl) ?_
        exact loop sz 0 _ _ (by omega)
    · exact absurd c_8 (by decide +kernel)

set_option maxHeartbeats 4000000 in
set_option maxRecDepth 100000 in
theorem cg_X7_told (l : Launch) (D : va_G) (ids : Nat → ClassId) (H0 : Heap) (h : rl_H) (n : Nat) (x : Nat) (s : cl_S) (c : cl_N) (w : Int32) (hc : cl_at ids h x s c) : rl_Met l (rl_e D ids H0) rl_BW rl_Ns yX7_told cX7_told 2 (some .int) ({ frames := 3, cells := 0, slots := 0, locals := 69 }) [.ref x, .int w] h n (fun v h' n' => ∃ r : Int32, v = some (.int r) ∧ h' = h ∧ n' = n) := by
  obtain ⟨c1, c2, c3, ⟨pn, c4, c5⟩, ⟨pt, c6, c7⟩, c8, c9, c10, c11, c12, c13, c14, c15⟩ := id hc
  refine rl_Met.of (by decide +kernel) (Nat.le_of_ble_eq_true rfl) ?_
  intro X hC hB
  show rl_G X (rl_e D ids H0) 0 [some (.ref x), some (.int w)] [] h n 0 0
  refine o_iload_n hC dX7_told_0 (by rfl) ?_
  obtain ⟨h2, h3, h4, h5, h6, h7, h8⟩ := id c2
  by_cases hw : w < 0 ∨ nI 5 < w
  · refine o_tableOut (tgt := 97) hC dX7_told_1 (rl_out (by decide) hw) (by decide) ?_
    refine o_bipush (v := (-2 : Int32)) hC dX7_told_97 (by decide +kernel) ?_
    refine o_iret hC hB dX7_told_99 (Nat.le_of_ble_eq_true rfl) (Nat.le_of_ble_eq_true rfl) ?_
    exact ⟨_, rfl, rfl, rfl⟩
  · obtain ⟨j, hj, rfl⟩ := rl_inn (by decide) hw
    rcases (show j = 0 ∨ j = 1 ∨ j = 2 ∨ j = 3 ∨ j = 4 ∨ j = 5 by omega) with rfl | rfl | rfl | rfl | rfl | rfl
    · refine o_tableIn (off := 39) (tgt := 40) hC dX7_told_1 (by decide +kernel) (by decide +kernel) (by decide +kernel) (by decide) ?_
      refine o_aload_n hC dX7_told_40 (by rfl) ?_
      refine o_getf hC (fX7_10 hC rfl) dX7_told_41 (by repeat (first | with_reducible assumption | (rw [rl_u_s]; done) | (rw [rl_u_s]; rfl) | rw [rl_u_n (by first | with_reducible assumption | omega)])) (by first | rfl | with_reducible assumption) ?_
      refine o_getf hC (fX7_53 hC rfl) dX7_told_44 (by repeat (first | with_reducible assumption | (rw [rl_u_s]; done) | (rw [rl_u_s]; rfl) | rw [rl_u_n (by first | with_reducible assumption | omega)])) (by first | rfl | with_reducible assumption) ?_
      refine o_iret hC hB dX7_told_47 (Nat.le_of_ble_eq_true rfl) (Nat.le_of_ble_eq_true rfl) ?_
      exact ⟨_, rfl, rfl, rfl⟩
    · refine o_tableIn (off := 47) (tgt := 48) hC dX7_told_1 (by decide +kernel) (by decide +kernel) (by decide +kernel) (by decide) ?_
      refine o_aload_n hC dX7_told_48 (by rfl) ?_
      refine o_getf hC (fX7_10 hC rfl) dX7_told_49 (by repeat (first | with_reducible assumption | (rw [rl_u_s]; done) | (rw [rl_u_s]; rfl) | rw [rl_u_n (by first | with_reducible assumption | omega)])) (by first | rfl | with_reducible assumption) ?_
      refine o_getf hC (fX7_64 hC rfl) dX7_told_52 (by repeat (first | with_reducible assumption | (rw [rl_u_s]; done) | (rw [rl_u_s]; rfl) | rw [rl_u_n (by first | with_reducible assumption | omega)])) (by first | rfl | with_reducible assumption) ?_
      refine o_iret hC hB dX7_told_55 (Nat.le_of_ble_eq_true rfl) (Nat.le_of_ble_eq_true rfl) ?_
      exact ⟨_, rfl, rfl, rfl⟩
    · refine o_tableIn (off := 55) (tgt := 56) hC dX7_told_1 (by decide +kernel) (by decide +kernel) (by decide +kernel) (by decide) ?_
      refine o_aload_n hC dX7_told_56 (by rfl) ?_
      refine o_getf hC (fX7_78 hC rfl) dX7_told_57 (by repeat (first | with_reducible assumption | (rw [rl_u_s]; done) | (rw [rl_u_s]; rfl) | rw [rl_u_n (by first | with_reducible assumption | omega)])) (by first | rfl | with_reducible assumption) ?_
      refine o_iret hC hB dX7_told_60 (Nat.le_of_ble_eq_true rfl) (Nat.le_of_ble_eq_true rfl) ?_
      exact ⟨_, rfl, rfl, rfl⟩
    · refine o_tableIn (off := 60) (tgt := 61) hC dX7_told_1 (by decide +kernel) (by decide +kernel) (by decide +kernel) (by decide) ?_
      refine o_aload_n hC dX7_told_61 (by rfl) ?_
      refine o_aload_n hC dX7_told_62 (by rfl) ?_
      refine o_getf hC (fX7_49 hC rfl) dX7_told_63 (by repeat (first | with_reducible assumption | (rw [rl_u_s]; done) | (rw [rl_u_s]; rfl) | rw [rl_u_n (by first | with_reducible assumption | omega)])) (by first | rfl | with_reducible assumption) ?_
      refine o_callV1 hC rl_BW_good rl_Ns_nw (by exact hB.2.2.2.2.2) YX7_tableOf IX7_tableOf VX7_tableOf (mX7_127 hC) (by rw [hB.1]; exact cg_X7_tableOf l D ids H0 _ _ x s c _ hc) (by exact c1) rfl rfl (Nat.le_of_ble_eq_true rfl) (by rw [hB.2.1]; first | exact Nat.le_of_ble_eq_true rfl | (dsimp only; omega)) (by rw [hB.2.1]; first | exact Nat.le_of_ble_eq_true rfl | (dsimp only; omega)) (by rw [hB.2.1]; first | exact Nat.le_of_ble_eq_true rfl | (dsimp only; omega)) (by rw [hB.2.1]; first | exact Nat.le_of_ble_eq_true rfl | (dsimp only; omega)) dX7_told_66 (fun v h_66 n_66 p_66 => ?_)
      obtain ⟨z66, rfl, rfl, rfl, hz⟩ := p_66
      try dsimp only [Option.toList, List.cons_append, List.nil_append]
      rcases hz with ⟨rfl, -⟩ | ⟨j, hj, e, rfl⟩
      · try dsimp only [Option.toList, List.cons_append, List.nil_append]
        refine o_getf hC (fX7_138 hC rfl) dX7_told_69 (by repeat (first | with_reducible assumption | (rw [rl_u_s]; done) | (rw [rl_u_s]; rfl) | rw [rl_u_n (by first | with_reducible assumption | omega)])) (by first | rfl | with_reducible assumption) ?_
        refine o_iret hC hB dX7_told_72 (Nat.le_of_ble_eq_true rfl) (Nat.le_of_ble_eq_true rfl) ?_
        exact ⟨_, rfl, rfl, rfl⟩
      · try dsimp only [Option.toList, List.cons_append, List.nil_append]
        obtain ⟨wd, sz, P, S, ht⟩ := c13 j (by omega)
        have t1 := ht.1
        refine o_getf hC (fX7_138 hC rfl) dX7_told_69 (by repeat (first | with_reducible assumption | (rw [rl_u_s]; done) | (rw [rl_u_s]; rfl) | rw [rl_u_n (by first | with_reducible assumption | omega)])) (by first | rfl | with_reducible assumption) ?_
        refine o_iret hC hB dX7_told_72 (Nat.le_of_ble_eq_true rfl) (Nat.le_of_ble_eq_true rfl) ?_
        exact ⟨_, rfl, rfl, rfl⟩
    · refine o_tableIn (off := 72) (tgt := 73) hC dX7_told_1 (by decide +kernel) (by decide +kernel) (by decide +kernel) (by decide) ?_
      refine o_aload_n hC dX7_told_73 (by rfl) ?_
      refine o_aload_n hC dX7_told_74 (by rfl) ?_
      refine o_getf hC (fX7_49 hC rfl) dX7_told_75 (by repeat (first | with_reducible assumption | (rw [rl_u_s]; done) | (rw [rl_u_s]; rfl) | rw [rl_u_n (by first | with_reducible assumption | omega)])) (by first | rfl | with_reducible assumption) ?_
      refine o_callV1 hC rl_BW_good rl_Ns_nw (by exact hB.2.2.2.2.2) YX7_tableOf IX7_tableOf VX7_tableOf (mX7_127 hC) (by rw [hB.1]; exact cg_X7_tableOf l D ids H0 _ _ x s c _ hc) (by exact c1) rfl rfl (Nat.le_of_ble_eq_true rfl) (by rw [hB.2.1]; first | exact Nat.le_of_ble_eq_true rfl | (dsimp only; omega)) (by rw [hB.2.1]; first | exact Nat.le_of_ble_eq_true rfl | (dsimp only; omega)) (by rw [hB.2.1]; first | exact Nat.le_of_ble_eq_true rfl | (dsimp only; omega)) (by rw [hB.2.1]; first | exact Nat.le_of_ble_eq_true rfl | (dsimp only; omega)) dX7_told_78 (fun v h_78 n_78 p_78 => ?_)
      obtain ⟨z78, rfl, rfl, rfl, hz⟩ := p_78
      try dsimp only [Option.toList, List.cons_append, List.nil_append]
      rcases hz with ⟨rfl, -⟩ | ⟨j, hj, e, rfl⟩
      · try dsimp only [Option.toList, List.cons_append, List.nil_append]
        refine o_aload_n hC dX7_told_81 (by rfl) ?_
        refine o_getf hC (fX7_71 hC rfl) dX7_told_82 (by repeat (first | with_reducible assumption | (rw [rl_u_s]; done) | (rw [rl_u_s]; rfl) | rw [rl_u_n (by first | with_reducible assumption | omega)])) (by first | rfl | with_reducible assumption) ?_
        refine o_callV1 hC rl_BW_good rl_Ns_nw (by exact hB.2.2.2.2.2) YX4_howManyHold IX4_howManyHold VX4_howManyHold (mX7_223 hC) (by rw [hB.1]; exact fr_X4_howManyHold l D ids H0 _ _ (x + 65) _ _ _ c8) (by exact c8) rfl rfl (Nat.le_of_ble_eq_true rfl) (by rw [hB.2.1]; first | exact Nat.le_of_ble_eq_true rfl | (dsimp only; omega)) (by rw [hB.2.1]; first | exact Nat.le_of_ble_eq_true rfl | (dsimp only; omega)) (by rw [hB.2.1]; first | exact Nat.le_of_ble_eq_true rfl | (dsimp only; omega)) (by rw [hB.2.1]; first | exact Nat.le_of_ble_eq_true rfl | (dsimp only; omega)) dX7_told_85 (fun v h_85 n_85 p_85 => ?_)
        obtain ⟨rfl, rfl, rfl⟩ := p_85
        try dsimp only [Option.toList, List.cons_append, List.nil_append]
        refine o_iret hC hB dX7_told_88 (Nat.le_of_ble_eq_true rfl) (Nat.le_of_ble_eq_true rfl) ?_
        exact ⟨_, rfl, rfl, rfl⟩
      · try dsimp only [Option.toList, List.cons_append, List.nil_append]
        obtain ⟨wd, sz, P, S, ht⟩ := c13 j (by omega)
        have t1 := ht.1
        refine o_aload_n hC dX7_told_81 (by rfl) ?_
        refine o_getf hC (fX7_71 hC rfl) dX7_told_82 (by repeat (first | with_reducible assumption | (rw [rl_u_s]; done) | (rw [rl_u_s]; rfl) | rw [rl_u_n (by first | with_reducible assumption | omega)])) (by first | rfl | with_reducible assumption) ?_
        refine o_callV1 hC rl_BW_good rl_Ns_nw (by exact hB.2.2.2.2.2) YX4_howManyHold IX4_howManyHold VX4_howManyHold (mX7_223 hC) (by rw [hB.1]; exact ct_X4_howManyHold l D ids H0 _ _ (c.1 j + 1) sz wd P S _ ht) (by exact t1) rfl rfl (Nat.le_of_ble_eq_true rfl) (by rw [hB.2.1]; first | exact Nat.le_of_ble_eq_true rfl | (dsimp only; omega)) (by rw [hB.2.1]; first | exact Nat.le_of_ble_eq_true rfl | (dsimp only; omega)) (by rw [hB.2.1]; first | exact Nat.le_of_ble_eq_true rfl | (dsimp only; omega)) (by rw [hB.2.1]; first | exact Nat.le_of_ble_eq_true rfl | (dsimp only; omega)) dX7_told_85 (fun v h_85 n_85 p_85 => ?_)
        obtain ⟨rfl, rfl, rfl⟩ := p_85
        try dsimp only [Option.toList, List.cons_append, List.nil_append]
        refine o_iret hC hB dX7_told_88 (Nat.le_of_ble_eq_true rfl) (Nat.le_of_ble_eq_true rfl) ?_
        exact ⟨_, rfl, rfl, rfl⟩
    · refine o_tableIn (off := 88) (tgt := 89) hC dX7_told_1 (by decide +kernel) (by decide +kernel) (by decide +kernel) (by decide) ?_
      refine o_aload_n hC dX7_told_89 (by rfl) ?_
      refine o_getf hC (fX7_71 hC rfl) dX7_told_90 (by repeat (first | with_reducible assumption | (rw [rl_u_s]; done) | (rw [rl_u_s]; rfl) | rw [rl_u_n (by first | with_reducible assumption | omega)])) (by first | rfl | with_reducible assumption) ?_
      refine o_callS1 hC rl_BW_good rl_Ns_nw (by exact hB.2.2.2.2.2) YJ13_bitCount_95d88 SJ13_bitCount_95d88 (mX7_203 hC) (by rw [hB.1]; exact ct_J13_bitCount_95d88 l D ids H0 h n _) (Nat.le_of_ble_eq_true rfl) (by rw [hB.2.1]; first | exact Nat.le_of_ble_eq_true rfl | (dsimp only; omega)) (by rw [hB.2.1]; first | exact Nat.le_of_ble_eq_true rfl | (dsimp only; omega)) (by rw [hB.2.1]; first | exact Nat.le_of_ble_eq_true rfl | (dsimp only; omega)) (by rw [hB.2.1]; first | exact Nat.le_of_ble_eq_true rfl | (dsimp only; omega)) dX7_told_93 (fun v h_93 n_93 p_93 => ?_)
      obtain ⟨rfl, rfl, rfl⟩ := p_93
      try dsimp only [Option.toList, List.cons_append, List.nil_append]
      refine o_iret hC hB dX7_told_96 (Nat.le_of_ble_eq_true rfl) (Nat.le_of_ble_eq_true rfl) ?_
      exact ⟨_, rfl, rfl, rfl⟩
end
section
/-! RowLineage in every state: isSeen, matters -/
theorem cl_ok.dw {ids : Nat → ClassId} {h h' : rl_H} {n x L : Nat} {s : cl_S} {c : cl_N} (H : cl_ok ids h n x L s c) (hd : dr_ok ids h' (x + 42)) (hw : ws_ok ids h' (x + 67)) (he : rl_f2 h h' (x + 42) (x + 67)) : cl_ok ids h' n x L s c ∧ cl_fr h h' x L ∧ ∀ q : Nat, x + 70 ≤ q → h' q = h q := by
  have nc16 := cl_nc H
  obtain ⟨⟨c1, c2, ⟨gp, c3⟩, ⟨pn, c4, c5⟩, ⟨pt, c6, c7⟩, c8, c9, c10, c11, c12, c13, c14, c15⟩, k2, k3, k4, k5, k6, k7⟩ := H
  refine ⟨⟨⟨(he x (by omega) (by omega)).trans c1, c2.eqv (fun q a b => he q (by omega) (by omega)), ⟨gp, c3.dr hd (fun q a b d => he q (by omega) (by omega))⟩, ⟨pn, (he _ (by omega) (by omega)).trans c4, c5⟩, ⟨pt, (he _ (by omega) (by omega)).trans c6, c7⟩, (he _ (by omega) (by omega)).trans c8, hw, c10, c11, fun k hk => ?_, fun k hk => ?_, c14, c15⟩, k2, k3, k4, k5, k6, fun k hk a w b e => ?_⟩, fun q a b => he q (by omega) (by omega), fun q a => he q (by omega) (by omega)⟩
  · have := c14 k hk
    exact (he _ (by omega) (by omega)).trans (c12 k hk)
  · obtain ⟨wd, hw⟩ := c13 k hk
    have := c14 k hk
    exact ⟨wd, hw.eqv (fun q a b => he q (by omega) (by omega))⟩
  · have := c14 k (by omega)
    exact (k7 k hk a w b e).eqv (fun q a b => he q (by omega) (by omega))

set_option maxHeartbeats 4000000 in
set_option maxRecDepth 100000 in
theorem cg_X7_isSeen (l : Launch) (D : va_G) (ids : Nat → ClassId) (H0 : Heap) (h : rl_H) (n : Nat) (x L : Nat) (s : cl_S) (c : cl_N) (w k : Nat) (f g : Nat → Int64) (bt : Int64) (rows : Int32) (hk : cl_ok ids h n x L s c) (hw : ws_at ids h w f g k) (hxw : x + 70 ≤ w) : rl_Met l (rl_e D ids H0) rl_BW rl_Ns yX7_isSeen cX7_isSeen 6 (some .boolean) ({ frames := 14, cells := 0, slots := 0, locals := 424 }) [.ref x, .ref w, .long bt, .int rows] h n (fun v h' n' => ∃ r : Int32, v = some (.int r) ∧ n' = n ∧ cl_ok ids h' n x L s c ∧ cl_fr h h' x L ∧ ∀ q : Nat, x + 70 ≤ q → h' q = h q) := by
  obtain ⟨hc, k2, k3, k4, k5, k6, k7⟩ := id hk
  obtain ⟨c1, c2, c3, ⟨pn, c4, c5⟩, ⟨pt, c6, c7⟩, c8, c9, c10, c11, c12, c13, c14, c15⟩ := id hc
  obtain ⟨gp, c3⟩ := c3
  obtain ⟨o0, ⟨ds, d1⟩, -⟩ := id c3
  obtain ⟨bf, bg, bk, b1⟩ := c9
  refine rl_Met.of (by decide +kernel) (Nat.le_of_ble_eq_true rfl) ?_
  intro X hC hB
  show rl_G X (rl_e D ids H0) 0 [some (.ref x), some (.ref w), some (.long bt), none, some (.int rows), none] [] h n 0 0
  refine o_aload_n hC dX7_isSeen_0 (by rfl) ?_
  refine o_getf hC (fX7_19 hC rfl) dX7_isSeen_1 (by repeat (first | with_reducible assumption | (rw [rl_u_s]; done) | (rw [rl_u_s]; rfl) | rw [rl_u_n (by first | with_reducible assumption | omega)])) (by first | rfl | with_reducible assumption) ?_
  refine o_getf hC (fX7_245 hC rfl) dX7_isSeen_4 (by repeat (first | with_reducible assumption | (rw [rl_u_s]; done) | (rw [rl_u_s]; rfl) | rw [rl_u_n (by first | with_reducible assumption | omega)])) (by first | rfl | with_reducible assumption) ?_
  refine o_aload_n hC dX7_isSeen_7 (by rfl) ?_
  refine o_lload_n hC dX7_isSeen_8 (by rfl) ?_
  refine o_aload_n hC dX7_isSeen_9 (by rfl) ?_
  refine o_getf hC (fX7_45 hC rfl) dX7_isSeen_10 (by repeat (first | with_reducible assumption | (rw [rl_u_s]; done) | (rw [rl_u_s]; rfl) | rw [rl_u_n (by first | with_reducible assumption | omega)])) (by first | rfl | with_reducible assumption) ?_
  refine o_callV3 hC rl_BW_good rl_Ns_nw (by exact hB.2.2.2.2.2) YX0_forget IX0_forget VX0_forget (mX7_249 hC) (by rw [hB.1]; exact ct_X0_forget l D ids H0 _ _ (x + 42) w (x + 67) _ _ _ _ _ _ _ _ d1 hw b1 (by omega) (by omega)) (by exact d1.1) rfl rfl (Nat.le_of_ble_eq_true rfl) (by rw [hB.2.1]; first | exact Nat.le_of_ble_eq_true rfl | (dsimp only; omega)) (by rw [hB.2.1]; first | exact Nat.le_of_ble_eq_true rfl | (dsimp only; omega)) (by rw [hB.2.1]; first | exact Nat.le_of_ble_eq_true rfl | (dsimp only; omega)) (by rw [hB.2.1]; first | exact Nat.le_of_ble_eq_true rfl | (dsimp only; omega)) dX7_isSeen_13 (fun v h_13 n_13 p_13 => ?_)
  obtain ⟨rfl, rfl, xo, q1⟩ := p_13
  have q2 := q1.f2
  obtain ⟨u1, u2⟩ := hk.dw ⟨_, q1.1⟩ (q1.ws b1 (by omega)) q2
  obtain ⟨bf2, bg2, bk2, b2⟩ := u1.1.2.2.2.2.2.2.1
  have v1 := u1.1.1
  have b3 := hw.eqv (h' := h_13) (fun q a b => q2 q (by omega) (by omega))
  have kb := b2.2.2.2
  have kw := b3.2.2.2
  try dsimp only [Option.toList, List.cons_append, List.nil_append]
  refine o_aload_n hC dX7_isSeen_16 (by rfl) ?_
  refine o_getf hC (fX7_45 hC rfl) dX7_isSeen_17 (by repeat (first | with_reducible assumption | (rw [rl_u_s]; done) | (rw [rl_u_s]; rfl) | rw [rl_u_n (by first | with_reducible assumption | omega)])) (by first | rfl | with_reducible assumption) ?_
  refine o_iconst (v := nI 0) hC dX7_isSeen_20 (by decide +kernel) ?_
  refine o_lload_n hC dX7_isSeen_21 (by rfl) ?_
  refine o_lconst (v := 0) hC dX7_isSeen_22 (by decide +kernel) ?_
  refine o_iload hC dX7_isSeen_23 (by rfl) ?_
  refine o_callS5 hC rl_BW_good rl_Ns_nw (by exact hB.2.2.2.2.2) YX7_setsWithNone SX7_setsWithNone (mX7_208 hC) (by rw [hB.1]; exact ct_X7_setsWithNone l D ids H0 _ _ (x + 67) _ _ _ _ b2 _ 0 _ _ (Nat.zero_add _)) (Nat.le_of_ble_eq_true rfl) (by rw [hB.2.1]; first | exact Nat.le_of_ble_eq_true rfl | (dsimp only; omega)) (by rw [hB.2.1]; first | exact Nat.le_of_ble_eq_true rfl | (dsimp only; omega)) (by rw [hB.2.1]; first | exact Nat.le_of_ble_eq_true rfl | (dsimp only; omega)) (by rw [hB.2.1]; first | exact Nat.le_of_ble_eq_true rfl | (dsimp only; omega)) dX7_isSeen_25 (fun v h_25 n_25 p_25 => ?_)
  obtain ⟨sw25, rfl, rfl, rfl⟩ := p_25
  try dsimp only [Option.toList, List.cons_append, List.nil_append]
  refine o_istore hC dX7_isSeen_28 (Nat.le_of_ble_eq_true rfl) ?_
  refine o_aload_n hC dX7_isSeen_30 (by rfl) ?_
  refine o_iconst (v := nI 0) hC dX7_isSeen_31 (by decide +kernel) ?_
  refine o_lload_n hC dX7_isSeen_32 (by rfl) ?_
  refine o_lconst (v := 0) hC dX7_isSeen_33 (by decide +kernel) ?_
  refine o_iload hC dX7_isSeen_34 (by rfl) ?_
  refine o_callS5 hC rl_BW_good rl_Ns_nw (by exact hB.2.2.2.2.2) YX7_setsWithNone SX7_setsWithNone (mX7_208 hC) (by rw [hB.1]; exact ct_X7_setsWithNone l D ids H0 _ _ w _ _ _ _ b3 _ 0 _ _ (Nat.zero_add _)) (Nat.le_of_ble_eq_true rfl) (by rw [hB.2.1]; first | exact Nat.le_of_ble_eq_true rfl | (dsimp only; omega)) (by rw [hB.2.1]; first | exact Nat.le_of_ble_eq_true rfl | (dsimp only; omega)) (by rw [hB.2.1]; first | exact Nat.le_of_ble_eq_true rfl | (dsimp only; omega)) (by rw [hB.2.1]; first | exact Nat.le_of_ble_eq_true rfl | (dsimp only; omega)) dX7_isSeen_36 (fun v h_36 n_36 p_36 => ?_)
  obtain ⟨sw36, rfl, rfl, rfl⟩ := p_36
  try dsimp only [Option.toList, List.cons_append, List.nil_append]
  refine o_iload hC dX7_isSeen_39 (by rfl) ?_
  refine o_icmp_ne (tgt := 58) hC dX7_isSeen_41 (by decide) (fun c_41 => ?_) (fun c_41 => ?_)
  · refine o_iconst (v := nI 1) hC dX7_isSeen_58 (by decide +kernel) ?_
    refine o_goto (tgt := 63) hC dX7_isSeen_59 (by decide) ?_
    refine o_zret hC hB dX7_isSeen_63 (by first | rfl | decide +kernel) (Nat.le_of_ble_eq_true rfl) (Nat.le_of_ble_eq_true rfl) ?_
    exact ⟨_, rfl, rfl, u1, u2⟩
  · refine o_aload_n hC dX7_isSeen_44 (by rfl) ?_
    refine o_iconst (v := nI 0) hC dX7_isSeen_45 (by decide +kernel) ?_
    refine o_lconst (v := 0) hC dX7_isSeen_46 (by decide +kernel) ?_
    refine o_lload_n hC dX7_isSeen_47 (by rfl) ?_
    refine o_iload hC dX7_isSeen_48 (by rfl) ?_
    refine o_callS5 hC rl_BW_good rl_Ns_nw (by exact hB.2.2.2.2.2) YX7_setsWithNone SX7_setsWithNone (mX7_208 hC) (by rw [hB.1]; exact ct_X7_setsWithNone l D ids H0 _ _ w _ _ _ _ b3 _ 0 _ _ (Nat.zero_add _)) (Nat.le_of_ble_eq_true rfl) (by rw [hB.2.1]; first | exact Nat.le_of_ble_eq_true rfl | (dsimp only; omega)) (by rw [hB.2.1]; first | exact Nat.le_of_ble_eq_true rfl | (dsimp only; omega)) (by rw [hB.2.1]; first | exact Nat.le_of_ble_eq_true rfl | (dsimp only; omega)) (by rw [hB.2.1]; first | exact Nat.le_of_ble_eq_true rfl | (dsimp only; omega)) dX7_isSeen_50 (fun v h_50 n_50 p_50 => ?_)
    obtain ⟨sw50, rfl, rfl, rfl⟩ := p_50
    try dsimp only [Option.toList, List.cons_append, List.nil_append]
    refine o_iload hC dX7_isSeen_53 (by rfl) ?_
    refine o_icmp_eq (tgt := 62) hC dX7_isSeen_55 (by decide) (fun c_55 => ?_) (fun c_55 => ?_)
    · refine o_iconst (v := nI 0) hC dX7_isSeen_62 (by decide +kernel) ?_
      refine o_zret hC hB dX7_isSeen_63 (by first | rfl | decide +kernel) (Nat.le_of_ble_eq_true rfl) (Nat.le_of_ble_eq_true rfl) ?_
      exact ⟨_, rfl, rfl, u1, u2⟩
    · refine o_iconst (v := nI 1) hC dX7_isSeen_58 (by decide +kernel) ?_
      refine o_goto (tgt := 63) hC dX7_isSeen_59 (by decide) ?_
      refine o_zret hC hB dX7_isSeen_63 (by first | rfl | decide +kernel) (Nat.le_of_ble_eq_true rfl) (Nat.le_of_ble_eq_true rfl) ?_
      exact ⟨_, rfl, rfl, u1, u2⟩

set_option maxHeartbeats 4000000 in
set_option maxRecDepth 100000 in
theorem cg_X7_matters (l : Launch) (D : va_G) (ids : Nat → ClassId) (H0 : Heap) (h : rl_H) (n : Nat) (x L : Nat) (s : cl_S) (c : cl_N) (q r : Int32) (hk : cl_ok ids h n x L s c) : rl_Met l (rl_e D ids H0) rl_BW rl_Ns yX7_matters cX7_matters 9 (some .int) ({ frames := 15, cells := 0, slots := 0, locals := 449 }) [.ref x, .int q, .int r] h n (fun v h' n' => ∃ z : Int32, v = some (.int z) ∧ n' = n ∧ cl_ok ids h' n x L s c ∧ cl_fr h h' x L ∧ ∀ q : Nat, x + 70 ≤ q → h' q = h q) := by
  obtain ⟨hc, k2, k3, k4, k5, k6, k7⟩ := id hk
  obtain ⟨c1, c2, c3, ⟨pn, c4, c5⟩, ⟨pt, c6, c7⟩, c8, c9, c10, c11, c12, c13, c14, c15⟩ := id hc
  refine rl_Met.of (by decide +kernel) (Nat.le_of_ble_eq_true rfl) ?_
  intro X hC hB
  show rl_G X (rl_e D ids H0) 0 [some (.ref x), some (.int q), some (.int r), none, none, none, none, none, none] [] h n 0 0
  refine o_aload_n hC dX7_matters_0 (by rfl) ?_
  refine o_iload_n hC dX7_matters_1 (by rfl) ?_
  refine o_callV1 hC rl_BW_good rl_Ns_nw (by exact hB.2.2.2.2.2) YX7_resultTuple IX7_resultTuple VX7_resultTuple (mX7_141 hC) (by rw [hB.1]; exact cg_X7_resultTuple l D ids H0 _ _ x s c _ hc) (by exact c1) rfl rfl (Nat.le_of_ble_eq_true rfl) (by rw [hB.2.1]; first | exact Nat.le_of_ble_eq_true rfl | (dsimp only; omega)) (by rw [hB.2.1]; first | exact Nat.le_of_ble_eq_true rfl | (dsimp only; omega)) (by rw [hB.2.1]; first | exact Nat.le_of_ble_eq_true rfl | (dsimp only; omega)) (by rw [hB.2.1]; first | exact Nat.le_of_ble_eq_true rfl | (dsimp only; omega)) dX7_matters_2 (fun v h_2 n_2 p_2 => ?_)
  obtain ⟨zv, rfl, rfl, rfl, hz⟩ := p_2
  try dsimp only [Option.toList, List.cons_append, List.nil_append]
  rcases hz with rfl | ⟨j, i, hj, hi, hrs, rfl⟩
  · try dsimp only [Option.toList, List.cons_append, List.nil_append]
    refine o_astore_nN hC dX7_matters_5 (Nat.le_of_ble_eq_true rfl) ?_
    refine o_aload_nN hC dX7_matters_6 (by rfl) ?_
    refine o_ifnullN (tgt := 21) hC dX7_matters_7 (by decide) ?_
    refine o_iconst (v := (-1 : Int32)) hC dX7_matters_21 (by decide +kernel) ?_
    refine o_iret hC hB dX7_matters_22 (Nat.le_of_ble_eq_true rfl) (Nat.le_of_ble_eq_true rfl) ?_
    first
    | exact ⟨_, rfl, rfl, hk, cl_fr.rf, fun _ _ => rfl⟩
    | exact ⟨_, rfl, rfl, u1, u2⟩
  · try dsimp only [Option.toList, List.cons_append, List.nil_append]
    obtain ⟨wd, sz, P, S, t1, ⟨tf, t2, t3⟩, t4, t5, t6, t7⟩ := c13 j (by omega)
    obtain ⟨e1, e2, e3⟩ := t5 i hi
    obtain ⟨w1, w2, w3, w4⟩ := id e3
    refine o_astore_n hC dX7_matters_5 (Nat.le_of_ble_eq_true rfl) ?_
    refine o_aload_n hC dX7_matters_6 (by rfl) ?_
    refine o_ifnull hC dX7_matters_7 ?_
    refine o_aload_n hC dX7_matters_10 (by rfl) ?_
    refine o_getf hC (fX7_10 hC rfl) dX7_matters_11 (by repeat (first | with_reducible assumption | (rw [rl_u_s]; done) | (rw [rl_u_s]; rfl) | rw [rl_u_n (by first | with_reducible assumption | omega)])) (by first | rfl | with_reducible assumption) ?_
    refine o_iload_n hC dX7_matters_14 (by rfl) ?_
    refine o_callV1 hC rl_BW_good rl_Ns_nw (by exact hB.2.2.2.2.2) YX3_isRow IX3_isRow VX3_isRow (mX7_178 hC) (by rw [hB.1]; exact ct_X3_isRow l D ids H0 _ _ (x + 1) _ _ _ _ _ _ c2) (by exact c2.1) rfl rfl (Nat.le_of_ble_eq_true rfl) (by rw [hB.2.1]; first | exact Nat.le_of_ble_eq_true rfl | (dsimp only; omega)) (by rw [hB.2.1]; first | exact Nat.le_of_ble_eq_true rfl | (dsimp only; omega)) (by rw [hB.2.1]; first | exact Nat.le_of_ble_eq_true rfl | (dsimp only; omega)) (by rw [hB.2.1]; first | exact Nat.le_of_ble_eq_true rfl | (dsimp only; omega)) dX7_matters_15 (fun v h_15 n_15 p_15 => ?_)
    obtain ⟨rfl, rfl, rfl⟩ := p_15
    try dsimp only [Option.toList, List.cons_append, List.nil_append]
    refine o_if_ne (tgt := 23) hC dX7_matters_18 (by decide) (fun c_18 => ?_) (fun c_18 => ?_)
    · refine o_aload_n hC dX7_matters_23 (by rfl) ?_
      refine o_getf hC (fX7_160 hC rfl) dX7_matters_24 (by repeat (first | with_reducible assumption | (rw [rl_u_s]; done) | (rw [rl_u_s]; rfl) | rw [rl_u_n (by first | with_reducible assumption | omega)])) (by first | rfl | with_reducible assumption) ?_
      refine o_callV0 hC rl_BW_good rl_Ns_nw (by exact hB.2.2.2.2.2) YX6_rowsOfTerms IX6_rowsOfTerms VX6_rowsOfTerms (mX7_199 hC) (by rw [hB.1]; exact ct_X6_rowsOfTerms l D ids H0 _ _ (c.1 j + 1 + 2 + 5 * i + 2) _ _ _ e3) (by exact e3.1) rfl rfl (Nat.le_of_ble_eq_true rfl) (by rw [hB.2.1]; first | exact Nat.le_of_ble_eq_true rfl | (dsimp only; omega)) (by rw [hB.2.1]; first | exact Nat.le_of_ble_eq_true rfl | (dsimp only; omega)) (by rw [hB.2.1]; first | exact Nat.le_of_ble_eq_true rfl | (dsimp only; omega)) (by rw [hB.2.1]; first | exact Nat.le_of_ble_eq_true rfl | (dsimp only; omega)) dX7_matters_27 (fun v h_27 n_27 p_27 => ?_)
      obtain ⟨rfl, rfl, rfl⟩ := p_27
      try dsimp only [Option.toList, List.cons_append, List.nil_append]
      refine o_lstore hC dX7_matters_30 (Nat.le_of_ble_eq_true rfl) ?_
      refine o_lload hC dX7_matters_32 (by rfl) ?_
      refine o_callS1 hC rl_BW_good rl_Ns_nw (by exact hB.2.2.2.2.2) YJ13_bitCount_95d88 SJ13_bitCount_95d88 (mX7_203 hC) (by rw [hB.1]; exact ct_J13_bitCount_95d88 l D ids H0 _ _ _) (Nat.le_of_ble_eq_true rfl) (by rw [hB.2.1]; first | exact Nat.le_of_ble_eq_true rfl | (dsimp only; omega)) (by rw [hB.2.1]; first | exact Nat.le_of_ble_eq_true rfl | (dsimp only; omega)) (by rw [hB.2.1]; first | exact Nat.le_of_ble_eq_true rfl | (dsimp only; omega)) (by rw [hB.2.1]; first | exact Nat.le_of_ble_eq_true rfl | (dsimp only; omega)) dX7_matters_34 (fun v h_34 n_34 p_34 => ?_)
      obtain ⟨rfl, rfl, rfl⟩ := p_34
      try dsimp only [Option.toList, List.cons_append, List.nil_append]
      refine o_istore hC dX7_matters_37 (Nat.le_of_ble_eq_true rfl) ?_
      refine o_iload hC dX7_matters_39 (by rfl) ?_
      refine o_bipush (v := nI 16) hC dX7_matters_41 (by decide +kernel) ?_
      refine o_icmp_le (tgt := 49) hC dX7_matters_43 (by decide) (fun c_43 => ?_) (fun c_43 => ?_)
      · refine o_lconst (v := 1) hC dX7_matters_49 (by decide +kernel) ?_
        refine o_iload_n hC dX7_matters_50 (by rfl) ?_
        refine o_lshl hC dX7_matters_51 ?_
        refine o_lstore hC dX7_matters_52 (Nat.le_of_ble_eq_true rfl) ?_
        refine o_lload hC dX7_matters_54 (by rfl) ?_
        refine o_lload hC dX7_matters_56 (by rfl) ?_
        refine o_land hC dX7_matters_58 ?_
        refine o_lconst (v := 0) hC dX7_matters_59 (by decide +kernel) ?_
        refine o_lcmp hC dX7_matters_60 ?_
        refine o_if_ne (tgt := 68) hC dX7_matters_61 (by decide) (fun c_61 => ?_) (fun c_61 => ?_)
        · refine o_aload_n hC dX7_matters_68 (by rfl) ?_
          refine o_aload_n hC dX7_matters_69 (by rfl) ?_
          refine o_getf hC (fX7_160 hC rfl) dX7_matters_70 (by repeat (first | with_reducible assumption | (rw [rl_u_s]; done) | (rw [rl_u_s]; rfl) | rw [rl_u_n (by first | with_reducible assumption | omega)])) (by first | rfl | with_reducible assumption) ?_
          refine o_lload hC dX7_matters_73 (by rfl) ?_
          refine o_iload hC dX7_matters_75 (by rfl) ?_
          refine o_callV3 hC rl_BW_good rl_Ns_nw (by exact hB.2.2.2.2.2) YX7_isSeen IX7_isSeen VX7_isSeen (mX7_212 hC) (by rw [hB.1]; exact cg_X7_isSeen l D ids H0 _ _ x L s c (c.1 j + 1 + 2 + 5 * i + 2) _ _ _ _ _ hk e3 (by have := c14 j (by omega); omega)) (by exact c1) rfl rfl (Nat.le_of_ble_eq_true rfl) (by rw [hB.2.1]; first | exact Nat.le_of_ble_eq_true rfl | (dsimp only; omega)) (by rw [hB.2.1]; first | exact Nat.le_of_ble_eq_true rfl | (dsimp only; omega)) (by rw [hB.2.1]; first | exact Nat.le_of_ble_eq_true rfl | (dsimp only; omega)) (by rw [hB.2.1]; first | exact Nat.le_of_ble_eq_true rfl | (dsimp only; omega)) dX7_matters_77 (fun v h_77 n_77 p_77 => ?_)
          obtain ⟨is, rfl, rfl, u1, u2⟩ := p_77
          try dsimp only [Option.toList, List.cons_append, List.nil_append]
          refine o_callS1 hC rl_BW_good rl_Ns_nw (by exact hB.2.2.2.2.2) YX7_asNumber SX7_asNumber (mX7_187 hC) (by rw [hB.1]; exact ct_X7_asNumber l D ids H0 _ _ _) (Nat.le_of_ble_eq_true rfl) (by rw [hB.2.1]; first | exact Nat.le_of_ble_eq_true rfl | (dsimp only; omega)) (by rw [hB.2.1]; first | exact Nat.le_of_ble_eq_true rfl | (dsimp only; omega)) (by rw [hB.2.1]; first | exact Nat.le_of_ble_eq_true rfl | (dsimp only; omega)) (by rw [hB.2.1]; first | exact Nat.le_of_ble_eq_true rfl | (dsimp only; omega)) dX7_matters_80 (fun v h_80 n_80 p_80 => ?_)
          obtain ⟨an80, rfl, rfl, rfl⟩ := p_80
          try dsimp only [Option.toList, List.cons_append, List.nil_append]
          refine o_iret hC hB dX7_matters_83 (Nat.le_of_ble_eq_true rfl) (Nat.le_of_ble_eq_true rfl) ?_
          first
          | exact ⟨_, rfl, rfl, hk, cl_fr.rf, fun _ _ => rfl⟩
          | exact ⟨_, rfl, rfl, u1, u2⟩
        · refine o_iconst (v := nI 0) hC dX7_matters_64 (by decide +kernel) ?_
          refine o_goto (tgt := 83) hC dX7_matters_65 (by decide) ?_
          refine o_iret hC hB dX7_matters_83 (Nat.le_of_ble_eq_true rfl) (Nat.le_of_ble_eq_true rfl) ?_
          first
          | exact ⟨_, rfl, rfl, hk, cl_fr.rf, fun _ _ => rfl⟩
          | exact ⟨_, rfl, rfl, u1, u2⟩
      · refine o_bipush (v := (-4 : Int32)) hC dX7_matters_46 (by decide +kernel) ?_
        refine o_iret hC hB dX7_matters_48 (Nat.le_of_ble_eq_true rfl) (Nat.le_of_ble_eq_true rfl) ?_
        first
        | exact ⟨_, rfl, rfl, hk, cl_fr.rf, fun _ _ => rfl⟩
        | exact ⟨_, rfl, rfl, u1, u2⟩
    · refine o_iconst (v := (-1 : Int32)) hC dX7_matters_21 (by decide +kernel) ?_
      refine o_iret hC hB dX7_matters_22 (Nat.le_of_ble_eq_true rfl) (Nat.le_of_ble_eq_true rfl) ?_
      first
      | exact ⟨_, rfl, rfl, hk, cl_fr.rf, fun _ _ => rfl⟩
      | exact ⟨_, rfl, rfl, u1, u2⟩
end
section
/-! cell and way in every state; the law's own cell and way catch what they throw -/
theorem zIAE : Cond.initialized "java/lang/IllegalArgumentException" ∈ rl_BW := rl_bw 16 (by decide +kernel) (by decide +kernel)
theorem xIAE : Cond.castable "java/lang/IllegalArgumentException" "java/lang/IllegalArgumentException" ∈ rl_Xs := List.mem_filter.mpr ⟨List.mem_of_getElem? (i := 693) (by decide +kernel), rfl⟩
theorem th1 : ∀ w ∈ (vx_atS RX7 170 "java/lang/IllegalArgumentException" rl_exn).filter goodWord, w ∈ rl_BW := by decide +kernel
theorem th2 : ∀ w ∈ (vx_atS RX7 170 "java/lang/IllegalArgumentException" rl_exn).filter (fun w => !goodWord w), w ∈ rl_Xs := by decide +kernel
theorem th3 : ∀ w ∈ Cond.classLink RX7 166 "java/lang/IllegalArgumentException" :: Cond.initialized "java/lang/IllegalArgumentException" :: vx_atS RX7 170 "java/lang/IllegalArgumentException" rl_exn, vx_ot w = true := by decide +kernel

set_option maxHeartbeats 4000000 in
set_option maxRecDepth 100000 in
theorem cg_X7_cell (l : Launch) (D : va_G) (ids : Nat → ClassId) (H0 : Heap) (h : rl_H) (n : Nat) (x : Nat) (s : cl_S) (c : cl_N) (t k : Int32) (hl : l.stackTraces = false) (hc : cl_at ids h x s c) : rl_MetX l (rl_e D ids H0) rl_BW rl_Ns yX7_cell cX7_cell 4 (some .int) ({ frames := 6, cells := 1, slots := 6, locals := 90 }) [.ref x, .int t, .int k] h n (fun v h' n' => ∃ r : Int32, v = some (.int r) ∧ h' = h ∧ n' = n) (fun C => C = "java/lang/IndexOutOfBoundsException") := by
  obtain ⟨c1, c2, c3, ⟨pn, c4, c5⟩, ⟨pt, c6, c7⟩, c8, c9, c10, c11, c12, c13, c14, c15⟩ := id hc
  refine rl_MetX.of (by decide +kernel) (Nat.le_of_ble_eq_true rfl) ?_
  intro X hC hB hS hn0
  show rl_G X (rl_e D ids H0) 0 [some (.ref x), some (.int t), some (.int k), none] [] h n 0 0
  refine o_aload_n hC dX7_cell_0 (by rfl) ?_
  refine o_iload_n hC dX7_cell_1 (by rfl) ?_
  refine o_callV1 hC rl_BW_good rl_Ns_nw (by exact hB.2.2.2.2.1) YX7_resultTuple IX7_resultTuple VX7_resultTuple (mX7_141 hC) (by rw [hB.1]; exact cg_X7_resultTuple l D ids H0 _ _ x s c _ hc) (by exact c1) rfl rfl (Nat.le_of_ble_eq_true rfl) (by rw [hB.2.1]; first | exact Nat.le_of_ble_eq_true rfl | (dsimp only; omega)) (by rw [hB.2.1]; first | exact Nat.le_of_ble_eq_true rfl | (dsimp only; omega)) (by rw [hB.2.1]; first | exact Nat.le_of_ble_eq_true rfl | (dsimp only; omega)) (by rw [hB.2.1]; first | exact Nat.le_of_ble_eq_true rfl | (dsimp only; omega)) dX7_cell_2 (fun v h_2 n_2 p_2 => ?_)
  obtain ⟨zv, rfl, rfl, rfl, hz⟩ := p_2
  try dsimp only [Option.toList, List.cons_append, List.nil_append]
  rcases hz with rfl | ⟨j, i, hj, hi, hrs, rfl⟩
  · try dsimp only [Option.toList, List.cons_append, List.nil_append]
    refine o_astore_nN hC dX7_cell_5 (Nat.le_of_ble_eq_true rfl) ?_
    refine o_aload_nN hC dX7_cell_6 (by rfl) ?_
    refine o_ifnonnullN hC dX7_cell_7 ?_
    exact o_throwS (cls := "java/lang/IndexOutOfBoundsException") (text := "no such tuple") (names := rl_exn) (ik := 145) (is := 147) (ic := 149) hC hl hB hS hn0 (Nat.le_refl _) (by decide +kernel) (by decide +kernel) kX7_145 zIOB (hS.2.2.2.2.1 (147, "no such tuple") (by decide)) tg1 tg2 tg3 dX7_cell_10 dX7_cell_13 dX7_cell_14 dX7_cell_16 dX7_cell_19 (by decide) (by decide) (by decide) (by decide) (by exact hB.2.2.2.2.1) rfl
  · try dsimp only [Option.toList, List.cons_append, List.nil_append]
    obtain ⟨wd, sz, P, S, t1, ⟨tf, t2, t3⟩, t4, t5, t6, t7⟩ := c13 j (by omega)
    obtain ⟨e1, e2, e3⟩ := t5 i hi
    obtain ⟨w1, w2, w3, w4⟩ := id e3
    refine o_astore_n hC dX7_cell_5 (Nat.le_of_ble_eq_true rfl) ?_
    refine o_aload_n hC dX7_cell_6 (by rfl) ?_
    refine o_ifnonnull (tgt := 20) hC dX7_cell_7 (by decide) ?_
    refine o_iload_n hC dX7_cell_20 (by rfl) ?_
    refine o_if_lt (tgt := 39) hC dX7_cell_21 (by decide) (fun c_21 => ?_) (fun c_21 => ?_)
    · exact o_throwS (cls := "java/lang/IndexOutOfBoundsException") (text := "no such column") (names := rl_exn) (ik := 145) (is := 153) (ic := 149) hC hl hB hS hn0 (Nat.le_refl _) (by decide +kernel) (by decide +kernel) kX7_145 zIOB (hS.2.2.2.2.1 (153, "no such column") (by decide)) tg1 tg2 tg3 dX7_cell_39 dX7_cell_42 dX7_cell_43 dX7_cell_45 dX7_cell_48 (by decide) (by decide) (by decide) (by decide) (by exact hB.2.2.2.2.1) rfl
    · refine o_iload_n hC dX7_cell_24 (by rfl) ?_
      refine o_aload_n hC dX7_cell_25 (by rfl) ?_
      refine o_aload_n hC dX7_cell_26 (by rfl) ?_
      refine o_getf hC (fX7_49 hC rfl) dX7_cell_27 (by repeat (first | with_reducible assumption | (rw [rl_u_s]; done) | (rw [rl_u_s]; rfl) | rw [rl_u_n (by first | with_reducible assumption | omega)])) (by first | rfl | with_reducible assumption) ?_
      refine o_callV1 hC rl_BW_good rl_Ns_nw (by exact hB.2.2.2.2.1) YX7_tableOf IX7_tableOf VX7_tableOf (mX7_127 hC) (by rw [hB.1]; exact cg_X7_tableOf l D ids H0 _ _ x s c _ hc) (by exact c1) rfl rfl (Nat.le_of_ble_eq_true rfl) (by rw [hB.2.1]; first | exact Nat.le_of_ble_eq_true rfl | (dsimp only; omega)) (by rw [hB.2.1]; first | exact Nat.le_of_ble_eq_true rfl | (dsimp only; omega)) (by rw [hB.2.1]; first | exact Nat.le_of_ble_eq_true rfl | (dsimp only; omega)) (by rw [hB.2.1]; first | exact Nat.le_of_ble_eq_true rfl | (dsimp only; omega)) dX7_cell_30 (fun v h_30 n_30 p_30 => ?_)
      obtain ⟨z30, rfl, rfl, rfl, hz3⟩ := p_30
      have hz4 : z30 = c.1 j + 1 := by
        rcases hz3 with ⟨-, u⟩ | ⟨j2, u1, u2, u3⟩
        · exact absurd ⟨j, hj, hrs⟩ u
        · rw [u3, nI_inj2 (by omega) (by omega) (hrs.symm.trans u2)]
      subst hz4
      try dsimp only [Option.toList, List.cons_append, List.nil_append]
      refine o_getf hC (fX7_152 hC rfl) dX7_cell_33 (by repeat (first | with_reducible assumption | (rw [rl_u_s]; done) | (rw [rl_u_s]; rfl) | rw [rl_u_n (by first | with_reducible assumption | omega)])) (by first | rfl | with_reducible assumption) ?_
      refine o_icmp_lt (tgt := 49) hC dX7_cell_36 (by decide) (fun c_36 => ?_) (fun c_36 => ?_)
      · refine o_aload_n hC dX7_cell_49 (by rfl) ?_
        refine o_getf hC (fX7_155 hC rfl) dX7_cell_50 (by repeat (first | with_reducible assumption | (rw [rl_u_s]; done) | (rw [rl_u_s]; rfl) | rw [rl_u_n (by first | with_reducible assumption | omega)])) (by first | rfl | with_reducible assumption) ?_
        refine o_iload_n hC dX7_cell_53 (by rfl) ?_
        obtain ⟨k0, hk0, rfl⟩ := nI_of_lt (k := wd) (by omega) c_21 (fun w => absurd c_36 (Int32.not_lt.mpr w))
        refine o_ialdN (t0 := 0) (k := k0) hC rfl dX7_cell_54 e2 (by omega) (by decide) ?_
        refine o_iretX hC hB dX7_cell_55 (Nat.le_of_ble_eq_true rfl) (Nat.le_of_ble_eq_true rfl) ?_
        exact ⟨_, rfl, rfl, rfl⟩
      · exact o_throwS (cls := "java/lang/IndexOutOfBoundsException") (text := "no such column") (names := rl_exn) (ik := 145) (is := 153) (ic := 149) hC hl hB hS hn0 (Nat.le_refl _) (by decide +kernel) (by decide +kernel) kX7_145 zIOB (hS.2.2.2.2.1 (153, "no such column") (by decide)) tg1 tg2 tg3 dX7_cell_39 dX7_cell_42 dX7_cell_43 dX7_cell_45 dX7_cell_48 (by decide) (by decide) (by decide) (by decide) (by exact hB.2.2.2.2.1) rfl

set_option maxHeartbeats 4000000 in
set_option maxRecDepth 100000 in
theorem cg_X7_way (l : Launch) (D : va_G) (ids : Nat → ClassId) (H0 : Heap) (h : rl_H) (n : Nat) (x : Nat) (s : cl_S) (c : cl_N) (t k w : Int32) (hl : l.stackTraces = false) (hc : cl_at ids h x s c) : rl_MetX l (rl_e D ids H0) rl_BW rl_Ns yX7_way cX7_way 5 (some .long) ({ frames := 6, cells := 1, slots := 6, locals := 90 }) [.ref x, .int t, .int k, .int w] h n (fun v h' n' => ∃ r : Int64, v = some (.long r) ∧ h' = h ∧ n' = n) (fun C => C = "java/lang/IndexOutOfBoundsException" ∨ C = "java/lang/IllegalArgumentException") := by
  obtain ⟨c1, c2, c3, ⟨pn, c4, c5⟩, ⟨pt, c6, c7⟩, c8, c9, c10, c11, c12, c13, c14, c15⟩ := id hc
  refine rl_MetX.of (by decide +kernel) (Nat.le_of_ble_eq_true rfl) ?_
  intro X hC hB hS hn0
  show rl_G X (rl_e D ids H0) 0 [some (.ref x), some (.int t), some (.int k), some (.int w), none] [] h n 0 0
  refine o_aload_n hC dX7_way_0 (by rfl) ?_
  refine o_iload_n hC dX7_way_1 (by rfl) ?_
  refine o_callV1 hC rl_BW_good rl_Ns_nw (by exact hB.2.2.2.2.1) YX7_resultTuple IX7_resultTuple VX7_resultTuple (mX7_141 hC) (by rw [hB.1]; exact cg_X7_resultTuple l D ids H0 _ _ x s c _ hc) (by exact c1) rfl rfl (Nat.le_of_ble_eq_true rfl) (by rw [hB.2.1]; first | exact Nat.le_of_ble_eq_true rfl | (dsimp only; omega)) (by rw [hB.2.1]; first | exact Nat.le_of_ble_eq_true rfl | (dsimp only; omega)) (by rw [hB.2.1]; first | exact Nat.le_of_ble_eq_true rfl | (dsimp only; omega)) (by rw [hB.2.1]; first | exact Nat.le_of_ble_eq_true rfl | (dsimp only; omega)) dX7_way_2 (fun v h_2 n_2 p_2 => ?_)
  obtain ⟨zv, rfl, rfl, rfl, hz⟩ := p_2
  try dsimp only [Option.toList, List.cons_append, List.nil_append]
  rcases hz with rfl | ⟨j, i, hj, hi, hrs, rfl⟩
  · try dsimp only [Option.toList, List.cons_append, List.nil_append]
    refine o_astoreN hC dX7_way_5 (Nat.le_of_ble_eq_true rfl) ?_
    refine o_aloadN hC dX7_way_7 (by rfl) ?_
    refine o_ifnonnullN hC dX7_way_9 ?_
    exact o_throwS (cls := "java/lang/IndexOutOfBoundsException") (text := "no such tuple") (names := rl_exn) (ik := 145) (is := 147) (ic := 149) hC hl hB hS hn0 (Nat.le_refl _) (by decide +kernel) (by decide +kernel) kX7_145 zIOB (hS.2.2.2.2.1 (147, "no such tuple") (by decide)) tg1 tg2 tg3 dX7_way_12 dX7_way_15 dX7_way_16 dX7_way_18 dX7_way_21 (by decide) (by decide) (by decide) (by decide) (by exact hB.2.2.2.2.1) (Or.inl rfl)
  · try dsimp only [Option.toList, List.cons_append, List.nil_append]
    obtain ⟨wd, sz, P, S, t1, ⟨tf, t2, t3⟩, t4, t5, t6, t7⟩ := c13 j (by omega)
    obtain ⟨e1, e2, e3⟩ := t5 i hi
    obtain ⟨w1, w2, w3, w4⟩ := id e3
    refine o_astore hC dX7_way_5 (Nat.le_of_ble_eq_true rfl) ?_
    refine o_aload hC dX7_way_7 (by rfl) ?_
    refine o_ifnonnull (tgt := 22) hC dX7_way_9 (by decide) ?_
    refine o_iload_n hC dX7_way_22 (by rfl) ?_
    refine o_if_lt (tgt := 38) hC dX7_way_23 (by decide) (fun c_23 => ?_) (fun c_23 => ?_)
    · exact o_throwS (cls := "java/lang/IndexOutOfBoundsException") (text := "no such term") (names := rl_exn) (ik := 145) (is := 164) (ic := 149) hC hl hB hS hn0 (Nat.le_refl _) (by decide +kernel) (by decide +kernel) kX7_145 zIOB (hS.2.2.2.2.1 (164, "no such term") (by decide)) tg1 tg2 tg3 dX7_way_38 dX7_way_41 dX7_way_42 dX7_way_44 dX7_way_47 (by decide) (by decide) (by decide) (by decide) (by exact hB.2.2.2.2.1) (Or.inl rfl)
    · refine o_iload_n hC dX7_way_26 (by rfl) ?_
      refine o_aload hC dX7_way_27 (by rfl) ?_
      refine o_getf hC (fX7_160 hC rfl) dX7_way_29 (by repeat (first | with_reducible assumption | (rw [rl_u_s]; done) | (rw [rl_u_s]; rfl) | rw [rl_u_n (by first | with_reducible assumption | omega)])) (by first | rfl | with_reducible assumption) ?_
      refine o_getf hC (fX7_163 hC rfl) dX7_way_32 (by repeat (first | with_reducible assumption | (rw [rl_u_s]; done) | (rw [rl_u_s]; rfl) | rw [rl_u_n (by first | with_reducible assumption | omega)])) (by first | rfl | with_reducible assumption) ?_
      refine o_icmp_lt (tgt := 48) hC dX7_way_35 (by decide) (fun c_35 => ?_) (fun c_35 => ?_)
      · refine o_iload_n hC dX7_way_48 (by rfl) ?_
        refine o_if_eq (tgt := 67) hC dX7_way_49 (by decide) (fun c_49 => ?_) (fun c_49 => ?_)
        · refine o_iload_n hC dX7_way_67 (by rfl) ?_
          refine o_if_ne (tgt := 84) hC dX7_way_68 (by decide) (fun c_68 => ?_) (fun c_68 => ?_)
          · refine o_aload hC dX7_way_84 (by rfl) ?_
            refine o_getf hC (fX7_160 hC rfl) dX7_way_86 (by repeat (first | with_reducible assumption | (rw [rl_u_s]; done) | (rw [rl_u_s]; rfl) | rw [rl_u_n (by first | with_reducible assumption | omega)])) (by first | rfl | with_reducible assumption) ?_
            refine o_getf hC (fX7_175 hC rfl) dX7_way_89 (by repeat (first | with_reducible assumption | (rw [rl_u_s]; done) | (rw [rl_u_s]; rfl) | rw [rl_u_n (by first | with_reducible assumption | omega)])) (by first | rfl | with_reducible assumption) ?_
            refine o_iload_n hC dX7_way_92 (by rfl) ?_
            obtain ⟨k0, hk0, rfl⟩ := nI_of_lt (by omega) c_23 (fun w => absurd c_35 (Int32.not_lt.mpr w))
            refine o_laldN (t0 := 1) (k := k0) hC rfl dX7_way_93 w3 (by omega) (by decide) ?_
            refine o_lretX hC hB dX7_way_94 (Nat.le_of_ble_eq_true rfl) (Nat.le_of_ble_eq_true rfl) ?_
            exact ⟨_, rfl, rfl, rfl⟩
          · refine o_aload hC dX7_way_71 (by rfl) ?_
            refine o_getf hC (fX7_160 hC rfl) dX7_way_73 (by repeat (first | with_reducible assumption | (rw [rl_u_s]; done) | (rw [rl_u_s]; rfl) | rw [rl_u_n (by first | with_reducible assumption | omega)])) (by first | rfl | with_reducible assumption) ?_
            refine o_getf hC (fX7_171 hC rfl) dX7_way_76 (by repeat (first | with_reducible assumption | (rw [rl_u_s]; done) | (rw [rl_u_s]; rfl) | rw [rl_u_n (by first | with_reducible assumption | omega)])) (by first | rfl | with_reducible assumption) ?_
            refine o_iload_n hC dX7_way_79 (by rfl) ?_
            obtain ⟨k0, hk0, rfl⟩ := nI_of_lt (by omega) c_23 (fun w => absurd c_35 (Int32.not_lt.mpr w))
            refine o_laldN (t0 := 1) (k := k0) hC rfl dX7_way_80 w2 (by omega) (by decide) ?_
            refine o_goto (tgt := 94) hC dX7_way_81 (by decide) ?_
            refine o_lretX hC hB dX7_way_94 (Nat.le_of_ble_eq_true rfl) (Nat.le_of_ble_eq_true rfl) ?_
            exact ⟨_, rfl, rfl, rfl⟩
        · refine o_iload_n hC dX7_way_52 (by rfl) ?_
          refine o_iconst (v := nI 1) hC dX7_way_53 (by decide +kernel) ?_
          refine o_icmp_eq (tgt := 67) hC dX7_way_54 (by decide) (fun c_54 => ?_) (fun c_54 => ?_)
          · refine o_iload_n hC dX7_way_67 (by rfl) ?_
            refine o_if_ne (tgt := 84) hC dX7_way_68 (by decide) (fun c_68 => ?_) (fun c_68 => ?_)
            · refine o_aload hC dX7_way_84 (by rfl) ?_
              refine o_getf hC (fX7_160 hC rfl) dX7_way_86 (by repeat (first | with_reducible assumption | (rw [rl_u_s]; done) | (rw [rl_u_s]; rfl) | rw [rl_u_n (by first | with_reducible assumption | omega)])) (by first | rfl | with_reducible assumption) ?_
              refine o_getf hC (fX7_175 hC rfl) dX7_way_89 (by repeat (first | with_reducible assumption | (rw [rl_u_s]; done) | (rw [rl_u_s]; rfl) | rw [rl_u_n (by first | with_reducible assumption | omega)])) (by first | rfl | with_reducible assumption) ?_
              refine o_iload_n hC dX7_way_92 (by rfl) ?_
              obtain ⟨k0, hk0, rfl⟩ := nI_of_lt (by omega) c_23 (fun w => absurd c_35 (Int32.not_lt.mpr w))
              refine o_laldN (t0 := 1) (k := k0) hC rfl dX7_way_93 w3 (by omega) (by decide) ?_
              refine o_lretX hC hB dX7_way_94 (Nat.le_of_ble_eq_true rfl) (Nat.le_of_ble_eq_true rfl) ?_
              exact ⟨_, rfl, rfl, rfl⟩
            · refine o_aload hC dX7_way_71 (by rfl) ?_
              refine o_getf hC (fX7_160 hC rfl) dX7_way_73 (by repeat (first | with_reducible assumption | (rw [rl_u_s]; done) | (rw [rl_u_s]; rfl) | rw [rl_u_n (by first | with_reducible assumption | omega)])) (by first | rfl | with_reducible assumption) ?_
              refine o_getf hC (fX7_171 hC rfl) dX7_way_76 (by repeat (first | with_reducible assumption | (rw [rl_u_s]; done) | (rw [rl_u_s]; rfl) | rw [rl_u_n (by first | with_reducible assumption | omega)])) (by first | rfl | with_reducible assumption) ?_
              refine o_iload_n hC dX7_way_79 (by rfl) ?_
              obtain ⟨k0, hk0, rfl⟩ := nI_of_lt (by omega) c_23 (fun w => absurd c_35 (Int32.not_lt.mpr w))
              refine o_laldN (t0 := 1) (k := k0) hC rfl dX7_way_80 w2 (by omega) (by decide) ?_
              refine o_goto (tgt := 94) hC dX7_way_81 (by decide) ?_
              refine o_lretX hC hB dX7_way_94 (Nat.le_of_ble_eq_true rfl) (Nat.le_of_ble_eq_true rfl) ?_
              exact ⟨_, rfl, rfl, rfl⟩
          · exact o_throwS (cls := "java/lang/IllegalArgumentException") (text := "what is 0 or 1") (names := rl_exn) (ik := 166) (is := 168) (ic := 170) hC hl hB hS hn0 (Nat.le_refl _) (by decide +kernel) (by decide +kernel) kX7_166 zIAE (hS.2.2.2.2.1 (168, "what is 0 or 1") (by decide)) th1 th2 th3 dX7_way_57 dX7_way_60 dX7_way_61 dX7_way_63 dX7_way_66 (by decide) (by decide) (by decide) (by decide) (by exact hB.2.2.2.2.1) (Or.inr rfl)
      · exact o_throwS (cls := "java/lang/IndexOutOfBoundsException") (text := "no such term") (names := rl_exn) (ik := 145) (is := 164) (ic := 149) hC hl hB hS hn0 (Nat.le_refl _) (by decide +kernel) (by decide +kernel) kX7_145 zIOB (hS.2.2.2.2.1 (164, "no such term") (by decide)) tg1 tg2 tg3 dX7_way_38 dX7_way_41 dX7_way_42 dX7_way_44 dX7_way_47 (by decide) (by decide) (by decide) (by decide) (by exact hB.2.2.2.2.1) (Or.inl rfl)

set_option maxHeartbeats 4000000 in
set_option maxRecDepth 100000 in
theorem cg_L_cell (l : Launch) (D : va_G) (ids : Nat → ClassId) (H0 : Heap) (h : rl_H) (n : Nat) (x ou : Nat) (s : cl_S) (c : cl_N) (of : Nat → Int64) (t k : Int32) (hl : l.stackTraces = false) (hc : cl_at ids h x s c) (hou : h ou = some (.inl (ids 1, 1, .inr (.inl of)))) : rl_MetW l (rl_e D ids H0) rl_BW rl_Ns yL_cell cL_cell 5 (some .int) [(0, 10, 13, 13)] ({ frames := 7, cells := 1, slots := 6, locals := 113 }) [.ref x, .int t, .int k, .ref ou] h n (fun v h' n' => ∃ r : Int32, v = some (.int r) ∧ n ≤ n' ∧ (∃ f : Nat → Int64, h' ou = some (.inl (ids 1, 1, .inr (.inl f)))) ∧ ∀ q : Nat, q ≠ ou → h' q = h q) := by
  refine rl_MetW.of (by decide +kernel) (Nat.le_of_ble_eq_true rfl) ?_
  intro X hC hB hS ht0
  have ht : X.2.1.2.2.2.2.exceptionTable.toList = { startPc := 0, endPc := 10, handlerPc := 13, catchType := 13 } :: [] := ht0
  show rl_G X (rl_e D ids H0) 0 [some (.ref x), some (.int t), some (.int k), some (.ref ou), none] [] h n 0 0
  refine o_aload_n hC dL_cell_0 (by rfl) ?_
  refine o_iconst (v := nI 0) hC dL_cell_1 (by decide +kernel) ?_
  refine o_aload_n hC dL_cell_2 (by rfl) ?_
  refine o_iload_n hC dL_cell_3 (by rfl) ?_
  refine o_iload_n hC dL_cell_4 (by rfl) ?_
  refine o_callVX (As := [.int t, .int k]) (rest := [.int (nI 0), .ref ou]) (x := { startPc := 0, endPc := 10, handlerPc := 13, catchType := 13 }) (suf := []) (nm := "java/lang/IndexOutOfBoundsException") hC rl_BW_good rl_Ns_nw hS (by exact hB.2.2.2.2.2) YX7_cell IX7_cell VX7_cell lL_xcell (by rw [hB.1]; exact cg_X7_cell l D ids H0 h n x s c t k hl hc) hc.1 rfl rfl (Nat.le_of_ble_eq_true rfl) (by rw [hB.2.1]; first | exact Nat.le_of_ble_eq_true rfl | (dsimp only; omega)) (by rw [hB.2.1]; first | exact Nat.le_of_ble_eq_true rfl | (dsimp only; omega)) (by rw [hB.2.1]; first | exact Nat.le_of_ble_eq_true rfl | (dsimp only; omega)) (by rw [hB.2.1]; first | exact Nat.le_of_ble_eq_true rfl | (dsimp only; omega)) dL_cell_5 ht (by decide) (by decide) kL_13 (fun F hF => by rw [hF]; exact xIOB) (fun q n2 hn2 => ?_) (fun v h2 n2 p => ?_)
  · refine o_astore hC dL_cell_13 (Nat.le_of_ble_eq_true rfl) ?_
    refine o_iconst (v := nI 1) hC dL_cell_15 (by decide +kernel) ?_
    refine o_iret hC hB dL_cell_16 (Nat.le_of_ble_eq_true rfl) (Nat.le_of_ble_eq_true rfl) ?_
    exact ⟨_, rfl, hn2, ⟨_, hou⟩, fun _ _ => rfl⟩
  · obtain ⟨r, rfl, rfl, rfl⟩ := p
    try dsimp only [Option.toList, List.cons_append, List.nil_append]
    refine o_i2l hC dL_cell_8 ?_
    refine o_lastN (t0 := 1) (k := 0) hC rfl dL_cell_9 hou (by decide) (by decide) ?_
    refine o_goto (tgt := 17) hC dL_cell_10 (by decide) ?_
    refine o_iconst (v := nI 0) hC dL_cell_17 (by decide +kernel) ?_
    refine o_iret hC hB dL_cell_18 (Nat.le_of_ble_eq_true rfl) (Nat.le_of_ble_eq_true rfl) ?_
    exact ⟨_, rfl, Nat.le_refl _, ⟨_, rl_u_s⟩, fun q hq => rl_u_n hq⟩

set_option maxHeartbeats 4000000 in
set_option maxRecDepth 100000 in
theorem cg_L_way (l : Launch) (D : va_G) (ids : Nat → ClassId) (H0 : Heap) (h : rl_H) (n : Nat) (x ou : Nat) (s : cl_S) (c : cl_N) (of : Nat → Int64) (t k w : Int32) (hl : l.stackTraces = false) (hc : cl_at ids h x s c) (hou : h ou = some (.inl (ids 1, 1, .inr (.inl of)))) : rl_MetW l (rl_e D ids H0) rl_BW rl_Ns yL_way cL_way 6 (some .int) [(0, 11, 14, 13), (0, 11, 18, 19)] ({ frames := 7, cells := 1, slots := 6, locals := 114 }) [.ref x, .int t, .int k, .int w, .ref ou] h n (fun v h' n' => ∃ r : Int32, v = some (.int r) ∧ n ≤ n' ∧ (∃ f : Nat → Int64, h' ou = some (.inl (ids 1, 1, .inr (.inl f)))) ∧ ∀ q : Nat, q ≠ ou → h' q = h q) := by
  refine rl_MetW.of (by decide +kernel) (Nat.le_of_ble_eq_true rfl) ?_
  intro X hC hB hS ht0
  have ht : X.2.1.2.2.2.2.exceptionTable.toList = { startPc := 0, endPc := 11, handlerPc := 14, catchType := 13 } :: [{ startPc := 0, endPc := 11, handlerPc := 18, catchType := 19 }] := ht0
  show rl_G X (rl_e D ids H0) 0 [some (.ref x), some (.int t), some (.int k), some (.int w), some (.ref ou), none] [] h n 0 0
  refine o_aload hC dL_way_0 (by rfl) ?_
  refine o_iconst (v := nI 0) hC dL_way_2 (by decide +kernel) ?_
  refine o_aload_n hC dL_way_3 (by rfl) ?_
  refine o_iload_n hC dL_way_4 (by rfl) ?_
  refine o_iload_n hC dL_way_5 (by rfl) ?_
  refine o_iload_n hC dL_way_6 (by rfl) ?_
  refine o_callVY (As := [.int t, .int k, .int w]) (rest := [.int (nI 0), .ref ou]) (x := { startPc := 0, endPc := 11, handlerPc := 14, catchType := 13 }) (x2 := { startPc := 0, endPc := 11, handlerPc := 18, catchType := 19 }) (suf := []) (nm := "java/lang/IndexOutOfBoundsException") (nm2 := "java/lang/IllegalArgumentException") hC rl_BW_good rl_Ns_nw hS (by exact hB.2.2.2.2.2) YX7_way IX7_way VX7_way lL_xway (by rw [hB.1]; exact cg_X7_way l D ids H0 h n x s c t k w hl hc) hc.1 rfl rfl (Nat.le_of_ble_eq_true rfl) (by rw [hB.2.1]; first | exact Nat.le_of_ble_eq_true rfl | (dsimp only; omega)) (by rw [hB.2.1]; first | exact Nat.le_of_ble_eq_true rfl | (dsimp only; omega)) (by rw [hB.2.1]; first | exact Nat.le_of_ble_eq_true rfl | (dsimp only; omega)) (by rw [hB.2.1]; first | exact Nat.le_of_ble_eq_true rfl | (dsimp only; omega)) dL_way_7 ht (by decide) (by decide) kL_13 (by decide) (by decide) kL_19 (fun F hF => by (rcases hF with e | e); (exact Or.inl (by rw [e]; exact xIOB)); (exact Or.inr ⟨⟨e, rfl⟩, by rw [e]; exact xIAE⟩)) (fun q n2 hn2 => ?_) (fun q n2 hn2 => ?_) (fun v h2 n2 p => ?_)
  · refine o_astore hC dL_way_14 (Nat.le_of_ble_eq_true rfl) ?_
    refine o_iconst (v := nI 1) hC dL_way_16 (by decide +kernel) ?_
    refine o_iret hC hB dL_way_17 (Nat.le_of_ble_eq_true rfl) (Nat.le_of_ble_eq_true rfl) ?_
    exact ⟨_, rfl, hn2, ⟨_, hou⟩, fun _ _ => rfl⟩
  · refine o_astore hC dL_way_18 (Nat.le_of_ble_eq_true rfl) ?_
    refine o_iconst (v := nI 2) hC dL_way_20 (by decide +kernel) ?_
    refine o_iret hC hB dL_way_21 (Nat.le_of_ble_eq_true rfl) (Nat.le_of_ble_eq_true rfl) ?_
    exact ⟨_, rfl, hn2, ⟨_, hou⟩, fun _ _ => rfl⟩
  · obtain ⟨r, rfl, rfl, rfl⟩ := p
    try dsimp only [Option.toList, List.cons_append, List.nil_append]
    refine o_lastN (t0 := 1) (k := 0) hC rfl dL_way_10 hou (by decide) (by decide) ?_
    refine o_goto (tgt := 22) hC dL_way_11 (by decide) ?_
    refine o_iconst (v := nI 0) hC dL_way_22 (by decide +kernel) ?_
    refine o_iret hC hB dL_way_23 (Nat.le_of_ble_eq_true rfl) (Nat.le_of_ble_eq_true rfl) ?_
    exact ⟨_, rfl, Nat.le_refl _, ⟨_, rl_u_s⟩, fun q hq => rl_u_n hq⟩
end
