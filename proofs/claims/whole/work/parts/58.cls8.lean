/-! what both tell without running: sources, widths, rows, nodes, node widths, present -/
abbrev sh_S : Type := Nat × (Nat → Int32) × Nat × Nat × (Nat → Int32) × Int64
abbrev sh_R (s : cl_S) (c : cl_N) (z : sh_S) : Prop := s.2.2.2.1 = z.1 ∧ s.1 = z.2.1 ∧ s.2.2.2.2 = z.2.2.1 ∧ c.2.2.1 = z.2.2.2.1 ∧ (∀ k : Nat, k < c.2.2.1 → c.2.2.2.1 k 1 = z.2.2.2.2.1 k) ∧ c.2.2.2.2.2 = z.2.2.2.2.2
def sh_node (z : sh_S) (w : Int32) : Int32 × sh_S := if 16 ≤ z.2.2.2.1 then (-4, z) else (nI z.2.2.2.1, (z.1, z.2.1, z.2.2.1, z.2.2.2.1 + 1, upd z.2.2.2.2.1 z.2.2.2.1 w, z.2.2.2.2.2))
abbrev sh_nn (z : sh_S) (q : Int32) : Prop := q < 0 ∨ nI z.2.2.2.1 ≤ q
abbrev sh_w (z : sh_S) (q : Int32) : Int32 := z.2.2.2.2.1 q.toNatClampNeg
abbrev sh_nk (z : sh_S) (q k : Int32) : Prop := sh_nn z q ∨ k < 0 ∨ sh_w z q ≤ k
def sh_scan (z : sh_S) (q : Int32) : Int32 × sh_S := if q < 0 ∨ nI z.1 ≤ q then (-1, z) else sh_node z (z.2.1 q.toNatClampNeg)
def sh_pick (z : sh_S) (q k sg ot : Int32) : Int32 × sh_S := if sh_nk z q k ∨ (ot ≠ -1 ∧ sh_nk z q ot) then (-1, z) else if sg < 0 ∨ ¬ sg ≤ nI 2 then (-2, z) else sh_node z (sh_w z q)
def sh_join (z : sh_S) (a b i j : Int32) : Int32 × sh_S := if sh_nk z a i ∨ sh_nk z b j then (-1, z) else if ¬ sh_w z a + sh_w z b ≤ nI 6 then (-2, z) else sh_node z (sh_w z a + sh_w z b)
def sh_pair (z : sh_S) (a b : Int32) : Int32 × sh_S := if sh_nn z a ∨ sh_nn z b then (-1, z) else if sh_w z a ≠ sh_w z b then (-2, z) else sh_node z (sh_w z a)
def sh_fold (z : sh_S) (q k j kd : Int32) : Int32 × sh_S := if sh_nk z q k ∨ sh_nk z q j then (-1, z) else if kd < 0 ∨ ¬ kd ≤ nI 3 then (-2, z) else sh_node z (nI 2)
theorem cl_wd {ids : Nat → ClassId} {h : rl_H} {n x L : Nat} {s : cl_S} {c : cl_N} (H : cl_ok ids h n x L s c) {j : Nat} (hj : j < c.2.2.1) : ∃ w : Nat, 1 ≤ w ∧ w ≤ 6 ∧ c.2.2.2.1 j 1 = nI w := by
  obtain ⟨op, w, w1, w2, -, a2, a3, a4, -, -, -⟩ := H.2.2.2.2.2.1 j hj
  exact ⟨w, a3, a4.2.1, a2⟩
theorem cl_nc {ids : Nat → ClassId} {h : rl_H} {n x L : Nat} {s : cl_S} {c : cl_N} (H : cl_ok ids h n x L s c) : c.2.2.1 ≤ c.2.1 ∧ c.2.1 ≤ 16 := ⟨H.1.2.2.2.2.2.2.2.1, H.1.2.2.2.2.2.2.2.2.1⟩
theorem sh_R.w {ids : Nat → ClassId} {h : rl_H} {n x L : Nat} {s : cl_S} {c : cl_N} {z : sh_S} (H : cl_ok ids h n x L s c) (R : sh_R s c z) {j : Nat} (hj : j < c.2.2.1) : sh_w z (nI j) = c.2.2.2.1 j 1 := by
  have := cl_nc H
  unfold sh_w
  rw [rl_cl (N := 16) (by omega) (by decide)]
  exact (R.2.2.2.2.1 j hj).symm
/-- a node, or not -/
theorem sh_R.nn {ids : Nat → ClassId} {h : rl_H} {n x L : Nat} {s : cl_S} {c : cl_N} {z : sh_S} (H : cl_ok ids h n x L s c) (R : sh_R s c z) {q : Int32} : (∃ j : Nat, j < c.2.2.1 ∧ q = nI j) ↔ ¬ sh_nn z q := by
  have hn := cl_nc H
  constructor
  · rintro ⟨j, hj, rfl⟩ e
    rcases e with e | e
    · exact nI_pos (by omega) e
    · rw [← R.2.2.2.1] at e
      exact nI_ge hj (by omega) e
  · intro e
    unfold sh_nn at e
    rw [← R.2.2.2.1] at e
    exact nI_of_lt (by omega) (fun q => e (Or.inl q)) (fun q => e (Or.inr q))
theorem sh_R.nk {ids : Nat → ClassId} {h : rl_H} {n x L : Nat} {s : cl_S} {c : cl_N} {z : sh_S} (H : cl_ok ids h n x L s c) (R : sh_R s c z) {q k : Int32} : (∃ j : Nat, j < c.2.2.1 ∧ q = nI j ∧ ¬ k < 0 ∧ ¬ c.2.2.2.1 j 1 ≤ k) ↔ ¬ sh_nk z q k := by
  constructor
  · rintro ⟨j, hj, rfl, e1, e2⟩ e
    rcases e with e | e | e
    · exact (sh_R.nn H R).mp ⟨j, hj, rfl⟩ e
    · exact e1 e
    · rw [sh_R.w H R hj] at e
      exact e2 e
  · intro e
    obtain ⟨j, hj, rfl⟩ := (sh_R.nn H R (q := q)).mpr (fun q => e (Or.inl q))
    exact ⟨j, hj, rfl, fun q => e (Or.inr (Or.inl q)), fun q => e (Or.inr (Or.inr (by rw [sh_R.w H R hj]; exact q)))⟩
theorem sh_node_n {z : sh_S} {w : Int32} (h : ¬ z.2.2.2.1 < 16) : sh_node z w = (-4, z) := if_pos (by omega)
theorem sh_R.add {s : cl_S} {c : cl_N} {z : sh_S} (R : sh_R s c z) {na : Nat → Nat} {mk : Nat} {N : Nat → Nat → Int32} {w a b d e : Int32} (h16 : c.2.2.1 < 16) (h1 : ∀ i : Nat, i < c.2.2.1 → N i = c.2.2.2.1 i) (h2 : N c.2.2.1 1 = w) : sh_R s (na, mk, c.2.2.1 + 1, cl_dt N c.2.2.1 a b d e, c.2.2.2.2.1, c.2.2.2.2.2) (sh_node z w).2 ∧ (sh_node z w).1 = nI c.2.2.1 := by
  obtain ⟨r1, r2, r3, r4, r5, r6⟩ := R
  unfold sh_node
  rw [if_neg (by omega)]
  refine ⟨⟨r1, r2, r3, congrArg (· + 1) r4, fun k hk => ?_, r6⟩, by rw [r4]⟩
  have hk : k < c.2.2.1 + 1 := hk
  show cl_dt N c.2.2.1 a b d e k 1 = upd z.2.2.2.2.1 z.2.2.2.1 w k
  unfold cl_dt upd
  by_cases q : k = c.2.2.1
  · subst q
    rw [if_pos rfl, if_pos r4]
    exact h2
  · rw [if_neg q, if_neg (by omega), h1 k (by omega)]
    exact r5 k (by omega)
theorem cl_ok.add {ids : Nat → ClassId} {h h' : rl_H} {n x L nc mk : Nat} {s : cl_S} {na : Nat → Nat} {N : Nat → Nat → Int32} {rs : Int32} {pr : Int64} (H : cl_ok ids h n x L s (na, mk, nc, N, rs, pr)) (hlt : nc < mk) {a b d e : Int32} (h1 : h' (na nc) = some (nd_v (N nc 0) (N nc 1) (N nc 2) (N nc 3) a b d e (N nc 8))) (he : ∀ q : Nat, q ≠ na nc → h' q = h q) (h8 : N nc 8 = nI 0) (hv : cl_cv (cl_dt N nc a b d e) nc) : cl_ok ids (rl_u h' x (.inr (7, [.ref (x + 1), .ref (x + 41), .ref (x + 63), .ref (x + 64), .ref (x + 65), .ref (x + 67), .int (nI (nc + 1)), .int rs, .long pr]))) n x L s (na, mk, nc + 1, cl_dt N nc a b d e, rs, pr) ∧ cl_fr h (rl_u h' x (.inr (7, [.ref (x + 1), .ref (x + 41), .ref (x + 63), .ref (x + 64), .ref (x + 65), .ref (x + 67), .int (nI (nc + 1)), .int rs, .long pr]))) x L := by
  obtain ⟨k1, k2, k3, k4, k5, k6, k7⟩ := H
  have k4 : ∀ k : Nat, k < mk → L ≤ na k ∧ na k + 403 ≤ n := k4
  have n1 : cl_at ids h' x s (na, mk, nc, cl_dt N nc a b d e, rs, pr) := by
    refine k1.nd (k := nc) hlt _ ?_ (fun i hi => ?_) he
    · refine h1.trans ?_
      unfold cl_nd cl_dt nd_v
      simp only [if_true]
    · funext f
      exact if_neg hi
  have z := k4 nc hlt
  refine ⟨⟨n1.nc (nc + 1) hlt rs pr, k2, k3, k4, k5, fun k hk => ?_, fun k hk a1 w b1 e1 => ?_⟩, fun q q1 q2 => ?_⟩
  · have hk : k < nc + 1 := hk
    by_cases e0 : k = nc
    · subst e0
      exact hv
    · exact (k6 k (show k < nc by omega)).of (fun i hi f _ => if_neg (by omega))
  · have hk : k < nc + 1 := hk
    have a1 : cl_dt N nc a b d e k 8 ≠ nI 0 := a1
    have e1 : cl_dt N nc a b d e k 1 = nI w := e1
    by_cases e0 : k = nc
    · subst e0
      refine absurd ?_ a1
      unfold cl_dt
      rw [if_pos rfl]
      exact h8
    · have hk2 : k < nc := by omega
      have ee : cl_dt N nc a b d e k = N k := by
        funext f
        exact if_neg e0
      rw [ee] at a1 e1
      have z2 := k4 k (by omega)
      have z3 : na k + 403 ≤ na nc := k1.2.2.2.2.2.2.2.2.2.2.2.2 k nc hk2 hlt
      exact (k7 k hk2 a1 w b1 e1).eqv (fun q q1 q2 => by
        have q1 : na k + 1 ≤ q := q1
        have q2 : q < na k + 1 + 402 := q2
        rw [rl_u_n (by omega), he q (by omega)])
  · rw [rl_u_n (by omega), he q (by omega)]
theorem cl_cv.new {N : Nat → Nat → Int32} {k op w w1 w2 : Nat} {a b d e f0 f1 f2 f3 : Int32} (g0 : N k 0 = f0) (g1 : N k 1 = f1) (g2 : N k 2 = f2) (g3 : N k 3 = f3) (h0 : f0 = nI op) (h1 : f1 = nI w) (hw : 1 ≤ w) (hn : nd_ok op w a b d e w1 w2) (p2 : f2 = -1 ∨ ∃ i : Nat, i < k ∧ f2 = nI i) (p3 : f3 = -1 ∨ ∃ i : Nat, i < k ∧ f3 = nI i) (hf : 1 ≤ op → ∃ i : Nat, i < k ∧ f2 = nI i ∧ N i 1 = nI w1 ∧ w1 ≤ 6) (hs : op = 3 ∨ op = 4 ∨ op = 5 → ∃ j : Nat, j < k ∧ f3 = nI j ∧ N j 1 = nI w2 ∧ w2 ≤ 6) : cl_cv (cl_dt N k a b d e) k := by
  subst h0 h1
  refine ⟨op, w, w1, w2, (if_pos rfl).trans g0, (if_pos rfl).trans g1, hw, ?_, ⟨?_, ?_⟩, fun q => ?_, fun q => ?_⟩
  · unfold cl_dt
    simp only [if_true]
    exact hn
  · rw [show cl_dt N k a b d e k 2 = f2 from (if_pos rfl).trans g2]
    exact p2
  · rw [show cl_dt N k a b d e k 3 = f3 from (if_pos rfl).trans g3]
    exact p3
  · obtain ⟨i, i1, i2, i3⟩ := hf q
    exact ⟨i, i1, (if_pos rfl).trans (g2.trans i2), (if_neg (by omega)).trans i3.1, i3.2⟩
  · obtain ⟨i, i1, i2, i3⟩ := hs q
    exact ⟨i, i1, (if_pos rfl).trans (g3.trans i2), (if_neg (by omega)).trans i3.1, i3.2⟩

/-- what a maker of nodes leaves -/
def cl_ad (ids : Nat → ClassId) (h h' : rl_H) (c c' : cl_N) (f0 f2 f3 f4 f5 f6 f7 : Int32) : Prop := (c' = c ∧ h' = h) ∨ (c'.2.2.1 = c.2.2.1 + 1 ∧ c.2.1 ≤ c'.2.1 ∧ (∀ i : Nat, i < c.2.1 → c'.1 i = c.1 i) ∧ (∀ i : Nat, i < c.2.2.1 → c'.2.2.2.1 i = c.2.2.2.1 i) ∧ (c'.2.2.2.1 c.2.2.1 0 = f0 ∧ c'.2.2.2.1 c.2.2.1 2 = f2 ∧ c'.2.2.2.1 c.2.2.1 3 = f3 ∧ c'.2.2.2.1 c.2.2.1 4 = f4 ∧ c'.2.2.2.1 c.2.2.1 5 = f5 ∧ c'.2.2.2.1 c.2.2.1 6 = f6 ∧ c'.2.2.2.1 c.2.2.1 7 = f7 ∧ c'.2.2.2.1 c.2.2.1 8 = nI 0) ∧ c'.2.2.2.2 = c.2.2.2.2 ∧ (∀ i : Nat, i < c.2.1 → ∀ q : Nat, c.1 i + 1 ≤ q → q < c.1 i + 403 → h' q = h q) ∧ ∀ k : Nat, k < c'.2.1 → c.2.1 ≤ k → ∃ wd : Nat, tbi ids h' (c'.1 k + 1) wd)
theorem cl_ad.mk {ids : Nat → ClassId} {h h1 h2 : rl_H} {x mk : Nat} {s : cl_S} {c : cl_N} {na : Nat → Nat} {N : Nat → Nat → Int32} {a b d e f0 f2 f3 : Int32} (hlt : c.2.2.1 < mk) (A : cl_at ids h1 x s (na, mk, c.2.2.1, N, c.2.2.2.2.1, c.2.2.2.2.2)) (d2 : ∀ q : Nat, q ≠ na c.2.2.1 → x + 70 ≤ q → h2 q = h1 q) (o2 : ∀ i : Nat, i < c.2.2.1 → N i = c.2.2.2.1 i) (g0 : N c.2.2.1 0 = f0) (g2 : N c.2.2.1 2 = f2) (g3 : N c.2.2.1 3 = f3) (g8 : N c.2.2.1 8 = nI 0) (o4 : c.2.1 ≤ mk) (o5 : ∀ i : Nat, i < c.2.1 → na i = c.1 i) (o6 : ∀ i : Nat, i < c.2.1 → ∀ q : Nat, c.1 i + 1 ≤ q → q < c.1 i + 403 → h1 q = h q) (o7 : ∀ k : Nat, k < mk → c.2.1 ≤ k → tbi ids h1 (na k + 1) 0) : cl_ad ids h h2 c (na, mk, c.2.2.1 + 1, cl_dt N c.2.2.1 a b d e, c.2.2.2.2.1, c.2.2.2.2.2) f0 f2 f3 a b d e := by
  have c15 : ∀ i j : Nat, i < j → j < mk → na i + 403 ≤ na j := A.2.2.2.2.2.2.2.2.2.2.2.2
  have c14 : ∀ k : Nat, k < mk → x + 70 ≤ na k := A.2.2.2.2.2.2.2.2.2.2.2.1
  have sep : ∀ k : Nat, k < mk → ∀ q : Nat, na k + 1 ≤ q → q < na k + 403 → q ≠ na c.2.2.1 := fun k hk q q1 q2 => by
    rcases Nat.lt_trichotomy k c.2.2.1 with u | u | u
    · have := c15 k _ u hlt
      omega
    · subst u
      omega
    · have := c15 _ k u hk
      omega
  refine Or.inr ⟨rfl, o4, o5, fun i hi => (funext (fun f => if_neg (by omega))).trans (o2 i hi), ⟨(if_pos rfl).trans g0, (if_pos rfl).trans g2, (if_pos rfl).trans g3, if_pos rfl, if_pos rfl, if_pos rfl, if_pos rfl, (if_pos rfl).trans g8⟩, rfl, fun i hi q q1 q2 => ?_, fun k hk g => ?_⟩
  · have e := o5 i hi
    have y := c14 i (by omega)
    exact (d2 q (sep i (by omega) q (by omega) (by omega)) (by omega)).trans (o6 i hi q q1 q2)
  · obtain ⟨sz, P, S, t, hP⟩ := o7 k hk g
    have hk : k < mk := hk
    have y := c14 k hk
    exact ⟨0, sz, P, S, t.eqv (fun q q1 q2 => by
      have q1 : na k + 1 ≤ q := q1
      have q2 : q < na k + 1 + 402 := q2
      exact d2 q (sep k hk q q1 (by omega)) (by omega)), hP⟩

set_option maxHeartbeats 4000000 in
set_option maxRecDepth 100000 in
theorem cg_X7_scan (l : Launch) (D : va_G) (ids : Nat → ClassId) (H0 : Heap) (h : rl_H) (n : Nat) (x L : Nat) (s : cl_S) (c : cl_N) (z : sh_S) (q : Int32) (hk : cl_ok ids h n x L s c) (hR : sh_R s c z) : rl_Met l (rl_e D ids H0) rl_BW rl_Ns yX7_scan cX7_scan 2 (some .int) ({ frames := 5, cells := 403, slots := 2892, locals := 102 }) [.ref x, .int q] h n (fun v h' n' => ∃ (r : Int32) (c' : cl_N), v = some (.int r) ∧ n ≤ n' ∧ n' ≤ n + 403 ∧ cl_ok ids h' n' x L s c' ∧ sh_R s c' (sh_scan z q).2 ∧ r = (sh_scan z q).1 ∧ cl_fr h h' x L ∧ cl_ad ids h h' c c' (nI 0) (-1) (-1) (-1) (-1) (nI 0) q) := by
  obtain ⟨hc, k2, k3, k4, k5, k6, k7⟩ := id hk
  obtain ⟨c1, c2, c3, ⟨pn, c4, c5⟩, ⟨pt, c6, c7⟩, c8, c9, c10, c11, c12, c13, c14, c15⟩ := id hc
  obtain ⟨s1, s2, s3, s4, s5, s6, s7⟩ := id c2
  refine rl_Met.of (by decide +kernel) (Nat.le_of_ble_eq_true rfl) ?_
  intro X hC hB
  show rl_G X (rl_e D ids H0) 0 [some (.ref x), some (.int q)] [] h n 0 0
  refine o_aload_n hC dX7_scan_0 (by rfl) ?_
  refine o_getf hC (fX7_10 hC rfl) dX7_scan_1 (by repeat (first | with_reducible assumption | (rw [rl_u_s]; done) | (rw [rl_u_s]; rfl) | rw [rl_u_n (by first | with_reducible assumption | omega)])) (by first | rfl | with_reducible assumption) ?_
  refine o_iload_n hC dX7_scan_4 (by rfl) ?_
  refine o_callV1 hC rl_BW_good rl_Ns_nw (by exact hB.2.2.2.2.2) YX3_isSource IX3_isSource VX3_isSource (mX7_60 hC) (by rw [hB.1]; exact ct_X3_isSource l D ids H0 _ _ (x + 1) _ _ _ _ _ _ c2) (by exact c2.1) rfl rfl (Nat.le_of_ble_eq_true rfl) (by rw [hB.2.1]; first | exact Nat.le_of_ble_eq_true rfl | (dsimp only; omega)) (by rw [hB.2.1]; first | exact Nat.le_of_ble_eq_true rfl | (dsimp only; omega)) (by rw [hB.2.1]; first | exact Nat.le_of_ble_eq_true rfl | (dsimp only; omega)) (by rw [hB.2.1]; first | exact Nat.le_of_ble_eq_true rfl | (dsimp only; omega)) dX7_scan_5 (fun v h_5 n_5 p_5 => ?_)
  obtain ⟨rfl, rfl, rfl⟩ := p_5
  try dsimp only [Option.toList, List.cons_append, List.nil_append]
  by_cases hr : q < 0 ∨ nI s.2.2.2.1 ≤ q
  · rw [if_pos hr]
    refine o_if_ne (tgt := 13) hC dX7_scan_8 (by decide) (fun c_8 => ?_) (fun c_8 => ?_)
    · exact absurd rfl c_8
    · refine o_iconst (v := (-1 : Int32)) hC dX7_scan_11 (by decide +kernel) ?_
      refine o_iret hC hB dX7_scan_12 (Nat.le_of_ble_eq_true rfl) (Nat.le_of_ble_eq_true rfl) ?_
      (have e : sh_scan z q = (-1, z) := if_pos (by rw [← hR.1]; exact hr); exact ⟨_, c, rfl, Nat.le_refl _, by omega, hk, (by rw [e]; exact hR), (by rw [e]), cl_fr.rf, Or.inl ⟨rfl, rfl⟩⟩)
  · rw [if_neg hr]
    obtain ⟨j, hj, rfl⟩ := nI_of_lt (by omega) (fun w => hr (Or.inl w)) (fun w => hr (Or.inr w))
    obtain ⟨w, w1, w2, w3⟩ := k5 j hj
    have en : ¬ (nI j < 0 ∨ nI z.1 ≤ nI j) := by rw [← hR.1]; exact hr
    refine o_if_ne (tgt := 13) hC dX7_scan_8 (by decide) (fun c_8 => ?_) (fun c_8 => ?_)
    · refine o_aload_n hC dX7_scan_13 (by rfl) ?_
      refine o_getf hC (fX7_78 hC rfl) dX7_scan_14 (by repeat (first | with_reducible assumption | (rw [rl_u_s]; done) | (rw [rl_u_s]; rfl) | rw [rl_u_n (by first | with_reducible assumption | omega)])) (by first | rfl | with_reducible assumption) ?_
      refine o_bipush (v := nI 16) hC dX7_scan_17 (by decide +kernel) ?_
      refine o_icmp_lt (tgt := 25) hC dX7_scan_19 (by decide) (fun c_19 => ?_) (fun c_19 => ?_)
      · have h16 : c.2.2.1 < 16 := by
          rcases Nat.lt_or_ge c.2.2.1 16 with w | w
          · exact w
          · exact absurd c_19 (nI_nlt w (by omega))
        refine o_aload_n hC dX7_scan_25 (by rfl) ?_
        refine o_iconst (v := nI 0) hC dX7_scan_26 (by decide +kernel) ?_
        refine o_aload_n hC dX7_scan_27 (by rfl) ?_
        refine o_getf hC (fX7_10 hC rfl) dX7_scan_28 (by repeat (first | with_reducible assumption | (rw [rl_u_s]; done) | (rw [rl_u_s]; rfl) | rw [rl_u_n (by first | with_reducible assumption | omega)])) (by first | rfl | with_reducible assumption) ?_
        refine o_getf hC (fX7_81 hC rfl) dX7_scan_31 (by repeat (first | with_reducible assumption | (rw [rl_u_s]; done) | (rw [rl_u_s]; rfl) | rw [rl_u_n (by first | with_reducible assumption | omega)])) (by first | rfl | with_reducible assumption) ?_
        refine o_iload_n hC dX7_scan_34 (by rfl) ?_
        refine o_ialdN (t0 := 0) (k := j) hC rfl dX7_scan_35 s2 (by omega) (by decide) ?_
        refine o_iconst (v := (-1 : Int32)) hC dX7_scan_36 (by decide +kernel) ?_
        refine o_iconst (v := (-1 : Int32)) hC dX7_scan_37 (by decide +kernel) ?_
        refine o_callV4 hC rl_BW_good rl_Ns_nw (by exact hB.2.2.2.2.2) YX7_openNode IX7_openNode VX7_openNode (mX7_85 hC) (by rw [hB.1]; exact cg_X7_openNode l D ids H0 _ _ x L s c _ _ _ _ hk h16) (by exact c1) rfl rfl (Nat.le_of_ble_eq_true rfl) (by rw [hB.2.1]; first | exact Nat.le_of_ble_eq_true rfl | (dsimp only; omega)) (by rw [hB.2.1]; first | exact Nat.le_of_ble_eq_true rfl | (dsimp only; omega)) (by rw [hB.2.1]; first | exact Nat.le_of_ble_eq_true rfl | (dsimp only; omega)) (by rw [hB.2.1]; first | exact Nat.le_of_ble_eq_true rfl | (dsimp only; omega)) dX7_scan_38 (fun v h_38 n_38 p_38 => ?_)
        obtain ⟨na, mk, N, rfl, n1, n2, hlt, o1, o2, g0, g1, g2, g3, g8, of, o4, o5, o6, o7⟩ := p_38
        have m2 : h_38 (na c.2.2.1) = some (cl_nd N c.2.2.1) := o1.1.2.2.2.2.2.2.2.2.2.1 _ hlt
        unfold cl_nd at m2
        have zz : x + 70 ≤ na c.2.2.1 := o1.1.2.2.2.2.2.2.2.2.2.2.2.1 _ hlt
        try dsimp only [Option.toList, List.cons_append, List.nil_append]
        refine o_iconst (v := (-1 : Int32)) hC dX7_scan_41 (by decide +kernel) ?_
        refine o_iconst (v := (-1 : Int32)) hC dX7_scan_42 (by decide +kernel) ?_
        refine o_iconst (v := nI 0) hC dX7_scan_43 (by decide +kernel) ?_
        refine o_iload_n hC dX7_scan_44 (by rfl) ?_
        refine o_callV4 hC rl_BW_good rl_Ns_nw (by exact hB.2.2.2.2.2) YX1_detail IX1_detail VX1_detail (mX7_89 hC) (by rw [hB.1]; exact ct_X1_detail l D ids H0 _ _ (na c.2.2.1) _ _ _ _ _ _ _ _ _ _ _ _ _ m2) (by exact m2) rfl rfl (Nat.le_of_ble_eq_true rfl) (by rw [hB.2.1]; first | exact Nat.le_of_ble_eq_true rfl | (dsimp only; omega)) (by rw [hB.2.1]; first | exact Nat.le_of_ble_eq_true rfl | (dsimp only; omega)) (by rw [hB.2.1]; first | exact Nat.le_of_ble_eq_true rfl | (dsimp only; omega)) (by rw [hB.2.1]; first | exact Nat.le_of_ble_eq_true rfl | (dsimp only; omega)) dX7_scan_45 (fun v h_45 n_45 p_45 => ?_)
        obtain ⟨rfl, rfl, d1, d2⟩ := p_45
        have e1 := (d2 x (by omega)).trans o1.1.1
        try dsimp only [Option.toList, List.cons_append, List.nil_append]
        refine o_aload_n hC dX7_scan_48 (by rfl) ?_
        refine o_dup hC dX7_scan_49 rfl ?_
        refine o_getf hC (fX7_78 hC rfl) dX7_scan_50 (by repeat (first | with_reducible assumption | (rw [rl_u_s]; done) | (rw [rl_u_s]; rfl) | rw [rl_u_n (by first | with_reducible assumption | omega)])) (by first | rfl | with_reducible assumption) ?_
        refine o_dup_x1 hC dX7_scan_53 rfl rfl ?_
        refine o_iconst (v := nI 1) hC dX7_scan_54 (by decide +kernel) ?_
        refine o_iadd hC dX7_scan_55 ?_
        rw [nI_add c.2.2.1 1]
        refine o_putf hC (fX7_78 hC rfl) (fwX7 rfl rfl rfl (Or.inl rfl)) dX7_scan_56 (by repeat (first | with_reducible assumption | (rw [rl_u_s]; done) | (rw [rl_u_s]; rfl) | rw [rl_u_n (by first | with_reducible assumption | omega)])) (Nat.le_of_ble_eq_true rfl) ?_
        try simp only [List.set_cons_zero, List.set_cons_succ]
        refine o_iret hC hB dX7_scan_59 (Nat.le_of_ble_eq_true rfl) (Nat.le_of_ble_eq_true rfl) ?_
        (obtain ⟨r1, r2⟩ := o1.add hlt d1 d2 g8 (cl_cv.new (op := 0) (w := w) (w1 := 0) (w2 := 0) g0 g1 g2 g3 rfl w3 w1 ⟨by decide, by omega, fun q => absurd q (by decide), fun q => absurd q (by decide), fun q => absurd q (by decide), fun q => absurd q (by decide)⟩ (Or.inl rfl) (Or.inl rfl) (fun q => absurd q (by decide)) (fun q => absurd q (by decide))); obtain ⟨r3, r4⟩ := hR.add (na := na) (mk := mk) h16 o2 g1; have e : sh_scan z (nI j) = sh_node z _ := (if_neg en).trans (congrArg (sh_node z) (by rw [rl_cl (N := 4) (by omega) (by decide), ← hR.2.1])); exact ⟨_, _, rfl, n1, n2, r1, (by rw [e]; exact r3), (by rw [e]; exact r4.symm), of.tr r2, cl_ad.mk hlt o1.1 (fun q a b => (rl_u_n (by omega)).trans (d2 q a)) o2 g0 g2 g3 g8 o4 o5 o6 o7⟩)
      · refine o_bipush (v := (-4 : Int32)) hC dX7_scan_22 (by decide +kernel) ?_
        refine o_iret hC hB dX7_scan_24 (Nat.le_of_ble_eq_true rfl) (Nat.le_of_ble_eq_true rfl) ?_
        (have e : sh_scan z (nI j) = (-4, z) := (if_neg en).trans (sh_node_n (fun w => c_19 (by rw [hR.2.2.2.1]; exact nI_lt w (by decide)))); exact ⟨_, c, rfl, Nat.le_refl _, by omega, hk, (by rw [e]; exact hR), (by rw [e]), cl_fr.rf, Or.inl ⟨rfl, rfl⟩⟩)
    · exact absurd c_8 (by decide +kernel)
