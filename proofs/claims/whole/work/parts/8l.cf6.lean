/-! what nodes give -/
def spt (f : Nat → Option (List arow)) (b : Bool) (q : Int32) : Option (List arow) := if b then f (iN q) else some []
def is2 (op : Nat) : Bool := decide (op = 3 ∨ op = 4 ∨ op = 5)
/-- what node k gives, of what the others give -/
def snd1 (sf : Nat → Int32) (cf : Nat → Nat → Int32) (rc : Nat) (N : Nat → Nat → Int32) (k : Nat) (f : Nat → Option (List arow)) : Option (List arow) :=
  (spt f (decide (1 ≤ iN (N k 0))) (N k 2)).bind (fun tb => (spt f (is2 (iN (N k 0))) (N k 3)).bind (fun td => nfn sf cf rc (iN (N k 0)) (iN (N k 1)) (N k 4) (N k 5) (N k 6) (N k 7) tb td))
def smt (sf : Nat → Int32) (cf : Nat → Nat → Int32) (rc : Nat) (N : Nat → Nat → Int32) : Nat → Nat → Option (List arow)
  | 0, _ => none
  | k + 1, j => if j = k then snd1 sf cf rc N k (smt sf cf rc N k) else smt sf cf rc N k j
abbrev sem (sf : Nat → Int32) (cf : Nat → Nat → Int32) (rc : Nat) (N : Nat → Nat → Int32) (k : Nat) : Option (List arow) := smt sf cf rc N (k + 1) k
theorem smt_up (sf : Nat → Int32) (cf : Nat → Nat → Int32) (rc : Nat) (N : Nat → Nat → Int32) : ∀ {m j : Nat}, j < m → smt sf cf rc N m j = sem sf cf rc N j
  | 0, j, h => absurd h (Nat.not_lt_zero j)
  | m + 1, j, h => by
    by_cases e : j = m
    · rw [e]
    · show (if j = m then _ else smt sf cf rc N m j) = _
      rw [if_neg e]
      exact smt_up sf cf rc N (by omega)
theorem smt_eq (sf : Nat → Int32) (cf : Nat → Nat → Int32) (rc : Nat) (N : Nat → Nat → Int32) {N' : Nat → Nat → Int32} : ∀ {m j : Nat}, (∀ i : Nat, i < m → ∀ f : Nat, f < 8 → N' i f = N i f) → smt sf cf rc N' m j = smt sf cf rc N m j
  | 0, j, _ => rfl
  | m + 1, j, h => by
    have ih : smt sf cf rc N' m = smt sf cf rc N m := funext (fun i => smt_eq sf cf rc N (m := m) (j := i) (fun i hi => h i (by omega)))
    show (if j = m then snd1 sf cf rc N' m (smt sf cf rc N' m) else smt sf cf rc N' m j) = (if j = m then snd1 sf cf rc N m (smt sf cf rc N m) else smt sf cf rc N m j)
    rw [ih]
    unfold snd1
    rw [h m (by omega) 0 (by decide), h m (by omega) 1 (by decide), h m (by omega) 2 (by decide), h m (by omega) 3 (by decide), h m (by omega) 4 (by decide), h m (by omega) 5 (by decide), h m (by omega) 6 (by decide), h m (by omega) 7 (by decide)]
theorem sem_eq (sf : Nat → Int32) (cf : Nat → Nat → Int32) (rc : Nat) (N : Nat → Nat → Int32) {N' : Nat → Nat → Int32} {k : Nat} (h : ∀ i : Nat, i ≤ k → ∀ f : Nat, f < 8 → N' i f = N i f) : sem sf cf rc N' k = sem sf cf rc N k := smt_eq sf cf rc N (fun i hi => h i (by omega))
/-- node k is made of earlier ones, and its numbers are as they must be -/
def cl_f (N : Nat → Nat → Int32) (k : Nat) : Prop := ∃ op w w1 w2 : Nat, N k 0 = nI op ∧ N k 1 = nI w ∧ nd_f op w (N k 4) (N k 5) (N k 6) (N k 7) w1 w2 ∧ (1 ≤ op → ∃ i : Nat, i < k ∧ N k 2 = nI i ∧ N i 1 = nI w1) ∧ (is2 op = true → ∃ i : Nat, i < k ∧ N k 3 = nI i ∧ N i 1 = nI w2) ∧ (op = 0 → N k 2 = -1) ∧ (is2 op = false → N k 3 = -1)
theorem cl_f.of {N N' : Nat → Nat → Int32} {k : Nat} (H : cl_f N k) (e : ∀ i : Nat, i ≤ k → ∀ f : Nat, f < 8 → N' i f = N i f) : cl_f N' k := by
  obtain ⟨op, w, w1, w2, a1, a2, a3, a4, a5, a6, a7⟩ := H
  refine ⟨op, w, w1, w2, ?_, ?_, ?_, fun q => ?_, fun q => ?_, fun q => ?_, fun q => ?_⟩
  · rw [e k (Nat.le_refl _) 0 (by decide)]; exact a1
  · rw [e k (Nat.le_refl _) 1 (by decide)]; exact a2
  · rw [e k (Nat.le_refl _) 4 (by decide), e k (Nat.le_refl _) 5 (by decide), e k (Nat.le_refl _) 6 (by decide), e k (Nat.le_refl _) 7 (by decide)]; exact a3
  · obtain ⟨i, i1, i2, i3⟩ := a4 q
    exact ⟨i, i1, by rw [e k (Nat.le_refl _) 2 (by decide)]; exact i2, by rw [e i (by omega) 1 (by decide)]; exact i3⟩
  · obtain ⟨i, i1, i2, i3⟩ := a5 q
    exact ⟨i, i1, by rw [e k (Nat.le_refl _) 3 (by decide)]; exact i2, by rw [e i (by omega) 1 (by decide)]; exact i3⟩
  · rw [e k (Nat.le_refl _) 2 (by decide)]; exact a6 q
  · rw [e k (Nat.le_refl _) 3 (by decide)]; exact a7 q
theorem sem_s (sf : Nat → Int32) (cf : Nat → Nat → Int32) (rc : Nat) (N : Nat → Nat → Int32) {k op w : Nat} (h0 : N k 0 = nI op) (h1 : N k 1 = nI w) (op6 : op ≤ 6) (w6 : w ≤ 6) : sem sf cf rc N k = (spt (smt sf cf rc N k) (decide (1 ≤ op)) (N k 2)).bind (fun tb => (spt (smt sf cf rc N k) (is2 op) (N k 3)).bind (fun td => nfn sf cf rc op w (N k 4) (N k 5) (N k 6) (N k 7) tb td)) := by
  show (if k = k then snd1 sf cf rc N k (smt sf cf rc N k) else _) = _
  rw [if_pos rfl]
  unfold snd1
  rw [h0, h1, iN_nI (by omega), iN_nI (by omega)]
/-- of what its parts give -/
theorem sem_val (sf : Nat → Int32) (cf : Nat → Nat → Int32) (rc : Nat) (N : Nat → Nat → Int32) {k op w : Nat} {tb td : List arow} (h0 : N k 0 = nI op) (h1 : N k 1 = nI w) (op6 : op ≤ 6) (w6 : w ≤ 6) (k16 : k ≤ 16) (p1 : 1 ≤ op → ∃ i : Nat, i < k ∧ N k 2 = nI i ∧ sem sf cf rc N i = some tb) (p2 : is2 op = true → ∃ i : Nat, i < k ∧ N k 3 = nI i ∧ sem sf cf rc N i = some td) (q1 : op = 0 → tb = []) (q2 : is2 op = false → td = []) : sem sf cf rc N k = nfn sf cf rc op w (N k 4) (N k 5) (N k 6) (N k 7) tb td := by
  rw [sem_s sf cf rc N h0 h1 op6 w6]
  have e1 : spt (smt sf cf rc N k) (decide (1 ≤ op)) (N k 2) = some tb := by
    unfold spt
    by_cases e : 1 ≤ op
    · obtain ⟨i, i1, i2, i3⟩ := p1 e
      rw [decide_eq_true e, if_pos rfl, i2, iN_nI (by omega), smt_up sf cf rc N i1, i3]
    · rw [decide_eq_false e, if_neg (by decide), q1 (by omega)]
  have e2 : spt (smt sf cf rc N k) (is2 op) (N k 3) = some td := by
    unfold spt
    cases e : is2 op with
    | true =>
      obtain ⟨i, i1, i2, i3⟩ := p2 e
      rw [if_pos rfl, i2, iN_nI (by omega), smt_up sf cf rc N i1, i3]
    | false => rw [if_neg (by decide), q2 e]
  rw [e1]
  show (spt (smt sf cf rc N k) (is2 op) (N k 3)).bind _ = _
  rw [e2]
  rfl
/-- a part that is FULL makes it FULL -/
theorem sem_none (sf : Nat → Int32) (cf : Nat → Nat → Int32) (rc : Nat) (N : Nat → Nat → Int32) {k i : Nat} (hf : cl_f N k) (k16 : k ≤ 16) (hi : i < k) (hp : N k 2 = nI i ∨ N k 3 = nI i) (hn : sem sf cf rc N i = none) : sem sf cf rc N k = none := by
  obtain ⟨op, w, w1, w2, a1, a2, a3, a4, a5, a6, a7⟩ := hf
  have op6 := a3.1
  have w6 := a3.2.2.1
  rw [sem_s sf cf rc N a1 a2 op6 w6]
  rcases hp with hp | hp
  · have e : 1 ≤ op := Nat.pos_of_ne_zero (fun e => absurd (hp.symm.trans (a6 e)) (nI_m1 (by omega)))
    unfold spt
    rw [decide_eq_true e, if_pos rfl, hp, iN_nI (by omega), smt_up sf cf rc N hi, hn]
    rfl
  · cases e : is2 op with
    | false => exact absurd (hp.symm.trans (a7 e)) (nI_m1 (by omega))
    | true =>
      have e2 : spt (smt sf cf rc N k) true (N k 3) = none := by
        unfold spt
        rw [if_pos rfl, hp, iN_nI (by omega), smt_up sf cf rc N hi, hn]
      cases spt (smt sf cf rc N k) (decide (1 ≤ op)) (N k 2) with
      | none => rfl
      | some tb =>
        show (spt (smt sf cf rc N k) true (N k 3)).bind _ = none
        rw [e2]
        rfl
/-! the class, what its nodes have given -/
abbrev semc (s : cl_S) (c : cl_N) (k : Nat) : Option (List arow) := sem s.2.1 s.2.2.1 s.2.2.2.2 c.2.2.2.1 k
def cl_gv (ids : Nat → ClassId) (h : rl_H) (s : cl_S) (c : cl_N) (k : Nat) : Prop := c.2.2.2.1 k 8 = nI 0 ∨ (c.2.2.2.1 k 8 = nI 1 ∧ ∃ (tab : List arow) (w : Nat), c.2.2.2.1 k 1 = nI w ∧ semc s c k = some tab ∧ ctb ids h (c.1 k + 1) w tab ∧ aok w tab) ∨ (c.2.2.2.1 k 8 = nI 2 ∧ semc s c k = none)
def cl_dp (ids : Nat → ClassId) (h : rl_H) (s : cl_S) (c : cl_N) : Prop := (∀ k : Nat, k < c.2.1 → ∃ wd : Nat, tbi ids h (c.1 k + 1) wd) ∧ (∀ k : Nat, k < c.2.2.1 → cl_f c.2.2.2.1 k) ∧ ∀ k : Nat, k < c.2.2.1 → cl_gv ids h s c k
theorem cl_gv.eqv {ids : Nat → ClassId} {h h' : rl_H} {s : cl_S} {c : cl_N} {k : Nat} (H : cl_gv ids h s c k) (he : ∀ q : Nat, c.1 k + 1 ≤ q → q < c.1 k + 1 + 402 → h' q = h q) : cl_gv ids h' s c k := by
  rcases H with H | ⟨H, tab, w, a1, a2, a3, a4⟩ | H
  · exact Or.inl H
  · exact Or.inr (Or.inl ⟨H, tab, w, a1, a2, a3.eqv he, a4⟩)
  · exact Or.inr (Or.inr H)
theorem cl_dp.eqv {ids : Nat → ClassId} {h h' : rl_H} {s : cl_S} {c : cl_N} (H : cl_dp ids h s c) (hc : c.2.2.1 ≤ c.2.1) (he : ∀ k : Nat, k < c.2.1 → ∀ q : Nat, c.1 k + 1 ≤ q → q < c.1 k + 1 + 402 → h' q = h q) : cl_dp ids h' s c := by
  obtain ⟨h1, h2, h3⟩ := H
  refine ⟨fun k hk => ?_, h2, fun k hk => (h3 k hk).eqv (he k (by omega))⟩
  obtain ⟨wd, hw⟩ := h1 k hk
  exact ⟨wd, hw.eqv (he k hk)⟩
/-- result and present are others -/
theorem cl_dp.rp {ids : Nat → ClassId} {h : rl_H} {s : cl_S} {c : cl_N} (H : cl_dp ids h s c) (rs : Int32) (pr : Int64) : cl_dp ids h s (c.1, c.2.1, c.2.2.1, c.2.2.2.1, rs, pr) := H
/-- table t is filled: its Node's state is v -/
theorem cl_dp.fl {ids : Nat → ClassId} {h h2 h3 : rl_H} {x t w : Nat} {s : cl_S} {c : cl_N} (H : cl_dp ids h s c) (A : cl_at ids h x s c) (ht : t < c.2.2.1) (hw : c.2.2.2.1 t 1 = nI w) (g3 : rl_g2 h h2 (x + 41) (x + 41 + 22) (c.1 t + 1) (c.1 t + 1 + 402)) (h23 : ∀ q : Nat, q ≠ c.1 t → h3 q = h2 q) {r : Option (List arow)} {xr : Int32} (hr : r = semc s c t) (p : pres ids h2 (c.1 t + 1) w r xr) {v : Int32} (hv : (xr = nI 1 ∧ v = nI 1) ∨ (xr = nI 0 ∧ v = nI 2)) : cl_dp ids h3 s (c.1, c.2.1, c.2.2.1, cl_st c.2.2.2.1 t v, c.2.2.2.2.1, c.2.2.2.2.2) := by
  obtain ⟨a1, a2, a3⟩ := H
  have c10 : c.2.2.1 ≤ c.2.1 := A.2.2.2.2.2.2.2.1
  have c14 := A.2.2.2.2.2.2.2.2.2.2.2.1
  have c15 := A.2.2.2.2.2.2.2.2.2.2.2.2
  have htm : t < c.2.1 := by omega
  have yt := c14 t htm
  have sep : ∀ k : Nat, k < c.2.1 → k ≠ t → ∀ q : Nat, c.1 k + 1 ≤ q → q < c.1 k + 1 + 402 → h3 q = h q := fun k hk hkt q q1 q2 => by
    have yk := c14 k hk
    rcases Nat.lt_or_gt_of_ne hkt with u | u
    · have := c15 k t u htm
      rw [h23 q (by omega), g3 q (by omega) (by omega)]
    · have := c15 t k u hk
      rw [h23 q (by omega), g3 q (by omega) (by omega)]
  have own : ∀ q : Nat, c.1 t + 1 ≤ q → q < c.1 t + 1 + 402 → h3 q = h2 q := fun q q1 _ => h23 q (by omega)
  have es : ∀ k : Nat, semc s (c.1, c.2.1, c.2.2.1, cl_st c.2.2.2.1 t v, c.2.2.2.2.1, c.2.2.2.2.2) k = semc s c k := fun k => sem_eq _ _ _ _ (fun i _ f hf => cl_st_8 hf)
  refine ⟨fun k hk => ?_, fun k hk => (a2 k hk).of (fun i _ f hf => cl_st_8 hf), fun k hk => ?_⟩
  · by_cases e : k = t
    · subst e
      rcases p with ⟨tab, -, -, p3, -⟩ | ⟨-, -, p3⟩
      · exact ⟨w, p3.ti.eqv own⟩
      · exact ⟨w, p3.eqv own⟩
    · obtain ⟨wd, hwd⟩ := a1 k hk
      exact ⟨wd, hwd.eqv (sep k hk e)⟩
  · have hk : k < c.2.2.1 := hk
    by_cases e : k = t
    · subst e
      have e8 : cl_st c.2.2.2.1 k v k 8 = v := if_pos ⟨rfl, rfl⟩
      rcases p with ⟨tab, p1, p2, p3, p4⟩ | ⟨p1, p2, p3⟩
      · rcases hv with ⟨v1, v2⟩ | ⟨v1, v2⟩
        · exact Or.inr (Or.inl ⟨e8.trans v2, tab, w, (cl_st_8 (by decide)).trans hw, (es k).trans (hr.symm.trans p1), p3.eqv own, p4⟩)
        · exact absurd (v1.symm.trans p2) (by decide +kernel)
      · rcases hv with ⟨v1, v2⟩ | ⟨v1, v2⟩
        · exact absurd (v1.symm.trans p2) (by decide +kernel)
        · exact Or.inr (Or.inr ⟨e8.trans v2, (es k).trans (hr.symm.trans p1)⟩)
    · have e8 : cl_st c.2.2.2.1 t v k 8 = c.2.2.2.1 k 8 := if_neg (fun q => e q.1)
      rcases (a3 k hk).eqv (sep k (by omega) e) with H | ⟨H, tab, w', b1, b2, b3, b4⟩ | ⟨H, b1⟩
      · exact Or.inl (e8.trans H)
      · exact Or.inr (Or.inl ⟨e8.trans H, tab, w', (cl_st_8 (by decide)).trans b1, (es k).trans b2, b3, b4⟩)
      · exact Or.inr (Or.inr ⟨e8.trans H, (es k).trans b1⟩)

set_option maxHeartbeats 4000000 in
set_option maxRecDepth 100000 in
theorem cd_X7_neededNodes (l : Launch) (D : va_G) (ids : Nat → ClassId) (H0 : Heap) (h : rl_H) (n : Nat) (x L : Nat) (s : cl_S) (c : cl_N) (j : Nat) (Q : Nat → Prop) (hk : cl_ok ids h n x L s c) (hj : j < c.2.2.1) (hQj : Q j) (hQ : ∀ t : Nat, t ≤ j → Q t → ∀ i : Nat, i < t → (c.2.2.2.1 t 2 = nI i ∨ c.2.2.2.1 t 3 = nI i) → Q i) : rl_Met l (rl_e D ids H0) rl_BW rl_Ns yX7_neededNodes cX7_neededNodes 5 (some .long) ({ frames := 2, cells := 0, slots := 0, locals := 42 }) [.ref x, .int (nI j)] h n (fun v h' n' => ∃ b : Int64, v = some (.long b) ∧ h' = h ∧ n' = n ∧ nb b j ∧ (∀ k : Nat, k ≤ j → nb_np c.2.2.2.1 b k) ∧ ∀ k : Nat, k ≤ j → nb b k → Q k) := by
  obtain ⟨hc, k2, k3, k4, k5, k6, k7⟩ := id hk
  obtain ⟨c1, c2, c3, ⟨pn, c4, c5⟩, ⟨pt, c6, c7⟩, c8, c9, c10, c11, c12, c13, c14, c15⟩ := id hc
  refine rl_Met.of (by decide +kernel) (Nat.le_of_ble_eq_true rfl) ?_
  intro X hC hB
  have nc16 := cl_nc hk
  have loop : ∀ (t : Nat) (b : Int64), t ≤ j + 1 → nb b j → (∀ k : Nat, t ≤ k → k ≤ j → nb_np c.2.2.2.1 b k) → (∀ k : Nat, k ≤ j → nb b k → Q k) → rl_G X (rl_e D ids H0) 7 [some (.ref x), some (.int (nI j)), some (.long b), none, some (.int (nI t + Int32.ofInt (-1)))] [] h n 0 0 := by
    intro t
    induction t with
    | zero =>
      intro b ht hbj hp hq
      refine o_iload hC dX7_neededNodes_7 (by rfl) ?_
      refine o_if_lt (tgt := 61) hC dX7_neededNodes_9 (by decide) (fun c_9 => ?_) (fun c_9 => ?_)
      · refine o_lload_n hC dX7_neededNodes_61 (by rfl) ?_
        refine o_lret hC hB dX7_neededNodes_62 (Nat.le_of_ble_eq_true rfl) (Nat.le_of_ble_eq_true rfl) ?_
        exact ⟨_, rfl, rfl, rfl, hbj, fun k hk => hp k (Nat.zero_le _) hk, hq⟩
      · exact absurd (by decide +kernel) c_9
    | succ t ih =>
      intro b ht hbj hp hq
      rw [rl_dec t]
      have nc16 := cl_nc hk
      have m1 := c12 t (by omega)
      unfold cl_nd at m1
      obtain ⟨op, w, w1, w2, -, -, -, -, ⟨f1, f2⟩, -, -⟩ := k6 t (by omega)
      refine o_iload hC dX7_neededNodes_7 (by rfl) ?_
      refine o_if_lt (tgt := 61) hC dX7_neededNodes_9 (by decide) (fun c_9 => ?_) (fun c_9 => ?_)
      · exact absurd c_9 (nI_pos (by omega))
      · refine o_lload_n hC dX7_neededNodes_12 (by rfl) ?_
        refine o_iload hC dX7_neededNodes_13 (by rfl) ?_
        refine o_lshr hC dX7_neededNodes_15 ?_
        refine o_lconst (v := 1) hC dX7_neededNodes_16 (by decide +kernel) ?_
        refine o_land hC dX7_neededNodes_17 ?_
        refine o_lconst (v := 0) hC dX7_neededNodes_18 (by decide +kernel) ?_
        refine o_lcmp hC dX7_neededNodes_19 ?_
        refine o_if_eq (tgt := 55) hC dX7_neededNodes_20 (by decide) (fun c_20 => ?_) (fun c_20 => ?_)
        · refine o_iinc hC dX7_neededNodes_55 (by rfl) rfl (Nat.le_of_ble_eq_true rfl) ?_
          refine o_goto (tgt := 7) hC dX7_neededNodes_58 (by decide) ?_
          refine ih _ (by omega) ?_ (fun k g1 g2 => ?_) (fun k g2 => ?_)
          · first
            | exact hbj
            | (rw [nb_or]; exact Or.inl hbj)
          · by_cases e : k = t
            · subst e
              first
              | exact fun w => absurd c_20 w
              | (intro w i hi hp
                 have ii : i < c.2.2.1 := by omega
                 rw [nb_or, nb_or]
                 rcases hp with hp | hp
                 · rcases hr35 with ⟨-, u⟩ | ⟨i2, u1, u2, rfl⟩
                   · exact absurd ⟨i, ii, hp⟩ u
                   · have := nI_inj2 (by omega) (by omega) (hp.symm.trans u2)
                     subst this
                     exact Or.inr (Or.inl (nb_self _ (by omega)))
                 · rcases hr49 with ⟨-, u⟩ | ⟨i2, u1, u2, rfl⟩
                   · exact absurd ⟨i, ii, hp⟩ u
                   · have := nI_inj2 (by omega) (by omega) (hp.symm.trans u2)
                     subst this
                     exact Or.inr (Or.inr (nb_self _ (by omega))))
            · first
              | exact hp k (by omega) g2
              | (intro w i hi hq
                 rw [nb_or, nb_or] at w
                 have w0 : nb b k := by
                   rcases w with w | w | w
                   · exact w
                   · rcases hr35 with ⟨rfl, u⟩ | ⟨i2, u1, u2, rfl⟩
                     · exact absurd w (nb_0 k (by omega))
                     · rcases f1 with f1 | ⟨i3, f3, f4⟩
                       · exact absurd (u2.symm.trans f1) (nI_m1 (by omega))
                       · have := nI_inj2 (by omega) (by omega) (f4.symm.trans u2)
                         exact absurd w (nb_else i2 (by omega) k (by omega) (by omega))
                   · rcases hr49 with ⟨rfl, u⟩ | ⟨i2, u1, u2, rfl⟩
                     · exact absurd w (nb_0 k (by omega))
                     · rcases f2 with f1 | ⟨i3, f3, f4⟩
                       · exact absurd (u2.symm.trans f1) (nI_m1 (by omega))
                       · have := nI_inj2 (by omega) (by omega) (f4.symm.trans u2)
                         exact absurd w (nb_else i2 (by omega) k (by omega) (by omega))
                 rw [nb_or]
                 exact Or.inl (hp k (by omega) g2 w0 i hi hq))
          · first
            | exact hq k g2
            | (intro w
               have hQt : Q t := hq t (by omega) c_20
               rw [nb_or, nb_or] at w
               rcases w with w | w | w
               · exact hq k g2 w
               · rcases hr35 with ⟨rfl, u⟩ | ⟨i2, u1, u2, rfl⟩
                 · exact absurd w (nb_0 k (by omega))
                 · rcases f1 with f1 | ⟨i3, f3, f4⟩
                   · exact absurd (u2.symm.trans f1) (nI_m1 (by omega))
                   · have := nI_inj2 (by omega) (by omega) (f4.symm.trans u2)
                     by_cases e : i2 = k
                     · subst e
                       exact hQ t (by omega) hQt i2 (by omega) (Or.inl u2)
                     · exact absurd w (nb_else i2 (by omega) k (by omega) e)
               · rcases hr49 with ⟨rfl, u⟩ | ⟨i2, u1, u2, rfl⟩
                 · exact absurd w (nb_0 k (by omega))
                 · rcases f2 with f1 | ⟨i3, f3, f4⟩
                   · exact absurd (u2.symm.trans f1) (nI_m1 (by omega))
                   · have := nI_inj2 (by omega) (by omega) (f4.symm.trans u2)
                     by_cases e : i2 = k
                     · subst e
                       exact hQ t (by omega) hQt i2 (by omega) (Or.inr u2)
                     · exact absurd w (nb_else i2 (by omega) k (by omega) e))
        · refine o_lload_n hC dX7_neededNodes_23 (by rfl) ?_
          refine o_aload_n hC dX7_neededNodes_24 (by rfl) ?_
          refine o_aload_n hC dX7_neededNodes_25 (by rfl) ?_
          refine o_getf hC (fX7_25 hC rfl) dX7_neededNodes_26 (by repeat (first | with_reducible assumption | (rw [rl_u_s]; done) | (rw [rl_u_s]; rfl) | rw [rl_u_n (by first | with_reducible assumption | omega)])) (by first | rfl | with_reducible assumption) ?_
          refine o_iload hC dX7_neededNodes_29 (by rfl) ?_
          refine o_aaldN (t0 := 5) (k := t) hC rfl dX7_neededNodes_31 c4 (by omega) (by decide) ?_
          rw [c5 _ (by omega), if_pos (by omega)]
          show rl_G X _ _ _ (.ref _ :: _) _ _ _ _
          refine o_getf hC (fX7_124 hC rfl) dX7_neededNodes_32 (by repeat (first | with_reducible assumption | (rw [rl_u_s]; done) | (rw [rl_u_s]; rfl) | rw [rl_u_n (by first | with_reducible assumption | omega)])) (by first | rfl | with_reducible assumption) ?_
          refine o_callV1 hC rl_BW_good rl_Ns_nw (by exact hB.2.2.2.2.2) YX7_bitOfNode IX7_bitOfNode VX7_bitOfNode (mX7_233 hC) (by rw [hB.1]; exact cb_X7_bitOfNode l D ids H0 _ _ x s c _ hc) (by exact c1) rfl rfl (Nat.le_of_ble_eq_true rfl) (by rw [hB.2.1]; first | exact Nat.le_of_ble_eq_true rfl | (dsimp only; omega)) (by rw [hB.2.1]; first | exact Nat.le_of_ble_eq_true rfl | (dsimp only; omega)) (by rw [hB.2.1]; first | exact Nat.le_of_ble_eq_true rfl | (dsimp only; omega)) (by rw [hB.2.1]; first | exact Nat.le_of_ble_eq_true rfl | (dsimp only; omega)) dX7_neededNodes_35 (fun v h_35 n_35 p_35 => ?_)
          obtain ⟨r35, rfl, rfl, rfl, hr35⟩ := p_35
          try dsimp only [Option.toList, List.cons_append, List.nil_append]
          refine o_aload_n hC dX7_neededNodes_38 (by rfl) ?_
          refine o_aload_n hC dX7_neededNodes_39 (by rfl) ?_
          refine o_getf hC (fX7_25 hC rfl) dX7_neededNodes_40 (by repeat (first | with_reducible assumption | (rw [rl_u_s]; done) | (rw [rl_u_s]; rfl) | rw [rl_u_n (by first | with_reducible assumption | omega)])) (by first | rfl | with_reducible assumption) ?_
          refine o_iload hC dX7_neededNodes_43 (by rfl) ?_
          refine o_aaldN (t0 := 5) (k := t) hC rfl dX7_neededNodes_45 c4 (by omega) (by decide) ?_
          rw [c5 _ (by omega), if_pos (by omega)]
          show rl_G X _ _ _ (.ref _ :: _) _ _ _ _
          refine o_getf hC (fX7_131 hC rfl) dX7_neededNodes_46 (by repeat (first | with_reducible assumption | (rw [rl_u_s]; done) | (rw [rl_u_s]; rfl) | rw [rl_u_n (by first | with_reducible assumption | omega)])) (by first | rfl | with_reducible assumption) ?_
          refine o_callV1 hC rl_BW_good rl_Ns_nw (by exact hB.2.2.2.2.2) YX7_bitOfNode IX7_bitOfNode VX7_bitOfNode (mX7_233 hC) (by rw [hB.1]; exact cb_X7_bitOfNode l D ids H0 _ _ x s c _ hc) (by exact c1) rfl rfl (Nat.le_of_ble_eq_true rfl) (by rw [hB.2.1]; first | exact Nat.le_of_ble_eq_true rfl | (dsimp only; omega)) (by rw [hB.2.1]; first | exact Nat.le_of_ble_eq_true rfl | (dsimp only; omega)) (by rw [hB.2.1]; first | exact Nat.le_of_ble_eq_true rfl | (dsimp only; omega)) (by rw [hB.2.1]; first | exact Nat.le_of_ble_eq_true rfl | (dsimp only; omega)) dX7_neededNodes_49 (fun v h_49 n_49 p_49 => ?_)
          obtain ⟨r49, rfl, rfl, rfl, hr49⟩ := p_49
          try dsimp only [Option.toList, List.cons_append, List.nil_append]
          refine o_lor hC dX7_neededNodes_52 ?_
          refine o_lor hC dX7_neededNodes_53 ?_
          refine o_lstore_n hC dX7_neededNodes_54 (Nat.le_of_ble_eq_true rfl) ?_
          refine o_iinc hC dX7_neededNodes_55 (by rfl) rfl (Nat.le_of_ble_eq_true rfl) ?_
          refine o_goto (tgt := 7) hC dX7_neededNodes_58 (by decide) ?_
          refine ih _ (by omega) ?_ (fun k g1 g2 => ?_) (fun k g2 => ?_)
          · first
            | exact hbj
            | (rw [nb_or]; exact Or.inl hbj)
          · by_cases e : k = t
            · subst e
              first
              | exact fun w => absurd c_20 w
              | (intro w i hi hp
                 have ii : i < c.2.2.1 := by omega
                 rw [nb_or, nb_or]
                 rcases hp with hp | hp
                 · rcases hr35 with ⟨-, u⟩ | ⟨i2, u1, u2, rfl⟩
                   · exact absurd ⟨i, ii, hp⟩ u
                   · have := nI_inj2 (by omega) (by omega) (hp.symm.trans u2)
                     subst this
                     exact Or.inr (Or.inl (nb_self _ (by omega)))
                 · rcases hr49 with ⟨-, u⟩ | ⟨i2, u1, u2, rfl⟩
                   · exact absurd ⟨i, ii, hp⟩ u
                   · have := nI_inj2 (by omega) (by omega) (hp.symm.trans u2)
                     subst this
                     exact Or.inr (Or.inr (nb_self _ (by omega))))
            · first
              | exact hp k (by omega) g2
              | (intro w i hi hq
                 rw [nb_or, nb_or] at w
                 have w0 : nb b k := by
                   rcases w with w | w | w
                   · exact w
                   · rcases hr35 with ⟨rfl, u⟩ | ⟨i2, u1, u2, rfl⟩
                     · exact absurd w (nb_0 k (by omega))
                     · rcases f1 with f1 | ⟨i3, f3, f4⟩
                       · exact absurd (u2.symm.trans f1) (nI_m1 (by omega))
                       · have := nI_inj2 (by omega) (by omega) (f4.symm.trans u2)
                         exact absurd w (nb_else i2 (by omega) k (by omega) (by omega))
                   · rcases hr49 with ⟨rfl, u⟩ | ⟨i2, u1, u2, rfl⟩
                     · exact absurd w (nb_0 k (by omega))
                     · rcases f2 with f1 | ⟨i3, f3, f4⟩
                       · exact absurd (u2.symm.trans f1) (nI_m1 (by omega))
                       · have := nI_inj2 (by omega) (by omega) (f4.symm.trans u2)
                         exact absurd w (nb_else i2 (by omega) k (by omega) (by omega))
                 rw [nb_or]
                 exact Or.inl (hp k (by omega) g2 w0 i hi hq))
          · first
            | exact hq k g2
            | (intro w
               have hQt : Q t := hq t (by omega) c_20
               rw [nb_or, nb_or] at w
               rcases w with w | w | w
               · exact hq k g2 w
               · rcases hr35 with ⟨rfl, u⟩ | ⟨i2, u1, u2, rfl⟩
                 · exact absurd w (nb_0 k (by omega))
                 · rcases f1 with f1 | ⟨i3, f3, f4⟩
                   · exact absurd (u2.symm.trans f1) (nI_m1 (by omega))
                   · have := nI_inj2 (by omega) (by omega) (f4.symm.trans u2)
                     by_cases e : i2 = k
                     · subst e
                       exact hQ t (by omega) hQt i2 (by omega) (Or.inl u2)
                     · exact absurd w (nb_else i2 (by omega) k (by omega) e)
               · rcases hr49 with ⟨rfl, u⟩ | ⟨i2, u1, u2, rfl⟩
                 · exact absurd w (nb_0 k (by omega))
                 · rcases f2 with f1 | ⟨i3, f3, f4⟩
                   · exact absurd (u2.symm.trans f1) (nI_m1 (by omega))
                   · have := nI_inj2 (by omega) (by omega) (f4.symm.trans u2)
                     by_cases e : i2 = k
                     · subst e
                       exact hQ t (by omega) hQt i2 (by omega) (Or.inr u2)
                     · exact absurd w (nb_else i2 (by omega) k (by omega) e))
  show rl_G X (rl_e D ids H0) 0 [some (.ref x), some (.int (nI j)), none, none, none] [] h n 0 0
  refine o_lconst (v := 1) hC dX7_neededNodes_0 (by decide +kernel) ?_
  refine o_iload_n hC dX7_neededNodes_1 (by rfl) ?_
  refine o_lshl hC dX7_neededNodes_2 ?_
  refine o_lstore_n hC dX7_neededNodes_3 (Nat.le_of_ble_eq_true rfl) ?_
  refine o_iload_n hC dX7_neededNodes_4 (by rfl) ?_
  refine o_istore hC dX7_neededNodes_5 (Nat.le_of_ble_eq_true rfl) ?_
  have lp := loop (j + 1) ((1 : Int64) <<< ((nI j).toInt64 &&& 63)) (Nat.le_refl _) (nb_self j (by omega)) (fun k g1 g2 => absurd g1 (by omega)) (fun k g1 w => by
    by_cases e : j = k
    · rw [← e]
      exact hQj
    · exact absurd w (nb_else j (by omega) k (by omega) e))
  rw [rl_dec j] at lp
  exact lp

set_option maxHeartbeats 4000000 in
set_option maxRecDepth 100000 in
theorem cd_X7_run (l : Launch) (D : va_G) (ids : Nat → ClassId) (H0 : Heap) (h : rl_H) (n : Nat) (x L : Nat) (s : cl_S) (c : cl_N) (q : Int32) (hk : cl_ok ids h n x L s c) (hd : cl_dp ids h s c) : rl_Met l (rl_e D ids H0) rl_BW rl_Ns yX7_run cX7_run 9 (some .int) ({ frames := 7, cells := 0, slots := 0, locals := 226 }) [.ref x, .int q] h n (fun v h' n' => ∃ (r : Int32) (N' : Nat → Nat → Int32) (rs : Int32), v = some (.int r) ∧ n' = n ∧ cl_ok ids h' n x L s (c.1, c.2.1, c.2.2.1, N', rs, c.2.2.2.2.2) ∧ (∀ k f : Nat, f < 8 → N' k f = c.2.2.2.1 k f) ∧ cl_fr h h' x L ∧ cl_dp ids h' s (c.1, c.2.1, c.2.2.1, N', rs, c.2.2.2.2.2) ∧ (∀ k : Nat, c.2.2.2.1 k 8 ≠ nI 0 → N' k 8 = c.2.2.2.1 k 8) ∧ ((¬ (∃ j : Nat, j < c.2.2.1 ∧ q = nI j) ∧ r = -1 ∧ rs = c.2.2.2.2.1) ∨ ∃ j : Nat, j < c.2.2.1 ∧ q = nI j ∧ ((semc s c j = none ∧ r = -4 ∧ rs = c.2.2.2.2.1) ∨ ∃ tab : List arow, semc s c j = some tab ∧ r = nI tab.length ∧ rs = nI j ∧ N' j 8 = nI 1))) := by
  obtain ⟨hc, k2, k3, k4, k5, k6, k7⟩ := id hk
  obtain ⟨c1, c2, c3, ⟨pn, c4, c5⟩, ⟨pt, c6, c7⟩, c8, c9, c10, c11, c12, c13, c14, c15⟩ := id hc
  refine rl_Met.of (by decide +kernel) (Nat.le_of_ble_eq_true rfl) ?_
  intro X hC hB
  show rl_G X (rl_e D ids H0) 0 [some (.ref x), some (.int q), none, none, none, none, none, none, none] [] h n 0 0
  refine o_aload_n hC dX7_run_0 (by rfl) ?_
  refine o_iload_n hC dX7_run_1 (by rfl) ?_
  refine o_callV1 hC rl_BW_good rl_Ns_nw (by exact hB.2.2.2.2.2) YX7_isNode IX7_isNode VX7_isNode (mX7_100 hC) (by rw [hB.1]; exact cg_X7_isNode l D ids H0 _ _ x s c _ hc) (by exact c1) rfl rfl (Nat.le_of_ble_eq_true rfl) (by rw [hB.2.1]; first | exact Nat.le_of_ble_eq_true rfl | (dsimp only; omega)) (by rw [hB.2.1]; first | exact Nat.le_of_ble_eq_true rfl | (dsimp only; omega)) (by rw [hB.2.1]; first | exact Nat.le_of_ble_eq_true rfl | (dsimp only; omega)) (by rw [hB.2.1]; first | exact Nat.le_of_ble_eq_true rfl | (dsimp only; omega)) dX7_run_2 (fun v h_2 n_2 p_2 => ?_)
  obtain ⟨z, rfl, rfl, rfl, hz⟩ := p_2
  try dsimp only [Option.toList, List.cons_append, List.nil_append]
  refine o_if_ne (tgt := 10) hC dX7_run_5 (by decide) (fun c_5 => ?_) (fun c_5 => ?_)
  · have nc16 := cl_nc hk
    obtain ⟨j, hj, rfl⟩ : (∃ j : Nat, j < c.2.2.1 ∧ q = nI j) := hz.elim (fun q => absurd q.1 c_5) (fun q => q.2)
    refine o_aload_n hC dX7_run_10 (by rfl) ?_
    refine o_iload_n hC dX7_run_11 (by rfl) ?_
    refine o_callV1 hC rl_BW_good rl_Ns_nw (by exact hB.2.2.2.2.2) YX7_neededNodes IX7_neededNodes VX7_neededNodes (mX7_117 hC) (by rw [hB.1]; exact cd_X7_neededNodes l D ids H0 _ _ x L s c j (fun k => semc s c k = none → semc s c j = none) hk hj id (fun t ht hQt i hi hp hn => hQt (sem_none _ _ _ _ (hd.2.1 t (by omega)) (by omega) hi hp hn))) (by exact c1) rfl rfl (Nat.le_of_ble_eq_true rfl) (by rw [hB.2.1]; first | exact Nat.le_of_ble_eq_true rfl | (dsimp only; omega)) (by rw [hB.2.1]; first | exact Nat.le_of_ble_eq_true rfl | (dsimp only; omega)) (by rw [hB.2.1]; first | exact Nat.le_of_ble_eq_true rfl | (dsimp only; omega)) (by rw [hB.2.1]; first | exact Nat.le_of_ble_eq_true rfl | (dsimp only; omega)) dX7_run_12 (fun v h_12 n_12 p_12 => ?_)
    obtain ⟨b, rfl, rfl, rfl, hbj, hp, hq9⟩ := p_12
    try dsimp only [Option.toList, List.cons_append, List.nil_append]
    refine o_lstore_n hC dX7_run_15 (Nat.le_of_ble_eq_true rfl) ?_
    refine o_iconst (v := nI 0) hC dX7_run_16 (by decide +kernel) ?_
    refine o_istore hC dX7_run_17 (Nat.le_of_ble_eq_true rfl) ?_
    have loop : ∀ (m t : Nat) (h1 : rl_H) (N1 : Nat → Nat → Int32) (o5 o6 o7 o8 : Option Value), t + m = j + 1 → cl_ok ids h1 n_12 x L s (c.1, c.2.1, c.2.2.1, N1, c.2.2.2.2.1, c.2.2.2.2.2) → (∀ k f : Nat, f < 8 → N1 k f = c.2.2.2.1 k f) → (∀ k : Nat, k < t → nb b k → N1 k 8 = nI 1) → cl_fr h_12 h1 x L → cl_dp ids h1 s (c.1, c.2.1, c.2.2.1, N1, c.2.2.2.2.1, c.2.2.2.2.2) → (∀ k : Nat, c.2.2.2.1 k 8 ≠ nI 0 → N1 k 8 = c.2.2.2.1 k 8) → rl_G X (rl_e D ids H0) 19 [some (.ref x), some (.int (nI j)), some (.long b), none, some (.int (nI t)), o5, o6, o7, o8] [] h1 n_12 0 0 := by
      intro m
      induction m with
      | zero =>
        intro t h1 N1 o5 o6 o7 o8 hm hk1 hN hst hfr hd1 hkp
        obtain ⟨k1, k2, k3, k4, k5, k6, k7⟩ := id hk1
        obtain ⟨c1, c2, ⟨gp, c3⟩, ⟨pn, c4, c5⟩, ⟨pt, c6, c7⟩, c8, c9, c10, c11, c12, c13, c14, c15⟩ := id k1
        have es : ∀ k : Nat, semc s (c.1, c.2.1, c.2.2.1, N1, c.2.2.2.2.1, c.2.2.2.2.2) k = semc s c k := fun k => sem_eq _ _ _ _ (fun i _ f hf => hN i f hf)
        rcases hd1.2.2 j (show j < c.2.2.1 by omega) with g | ⟨-, tab, w, g1, g2, ⟨P, S, ⟨t1, -⟩, -⟩, g4⟩ | ⟨g, -⟩
        · exact absurd ((hst j (by omega) hbj).symm.trans g) (by decide +kernel)
        rotate_left
        · exact absurd ((hst j (by omega) hbj).symm.trans g) (by decide +kernel)
        have t1 : h1 (c.1 j + 1) = some (.inr (4, [.ref (c.1 j + 1 + 1), .int (nI tab.length), .int (nI w)])) := t1
        have y0 : x + 70 ≤ c.1 j := c14 j (show j < c.2.1 by omega)
        refine o_iload hC dX7_run_19 (by rfl) ?_
        refine o_iload_n hC dX7_run_21 (by rfl) ?_
        refine o_icmp_gt (tgt := 147) hC dX7_run_22 (by decide) (fun c_22 => ?_) (fun c_22 => ?_)
        · refine o_aload_n hC dX7_run_147 (by rfl) ?_
          refine o_iload_n hC dX7_run_148 (by rfl) ?_
          refine o_putf hC (fX7_49 hC rfl) (fwX7 rfl rfl rfl (Or.inl rfl)) dX7_run_149 (by repeat (first | with_reducible assumption | (rw [rl_u_s]; done) | (rw [rl_u_s]; rfl) | rw [rl_u_n (by first | with_reducible assumption | omega)])) (Nat.le_of_ble_eq_true rfl) ?_
          try simp only [List.set_cons_zero, List.set_cons_succ]
          refine o_aload_n hC dX7_run_152 (by rfl) ?_
          refine o_getf hC (fX7_31 hC rfl) dX7_run_153 (by repeat (first | with_reducible assumption | (rw [rl_u_s]; done) | (rw [rl_u_s]; rfl) | rw [rl_u_n (by first | with_reducible assumption | omega)])) (by first | rfl | with_reducible assumption) ?_
          refine o_iload_n hC dX7_run_156 (by rfl) ?_
          refine o_aaldN (t0 := 6) (k := j) hC rfl dX7_run_157 ((rl_u_n (by omega)).trans c6) (by omega) (by decide) ?_
          rw [c7 _ (by omega), if_pos (show j < c.2.1 by omega)]
          show rl_G X _ _ _ (.ref (c.1 j + 1) :: _) _ _ _ _
          refine o_getf hC (fX7_138 hC rfl) dX7_run_158 (by repeat (first | with_reducible assumption | (rw [rl_u_s]; done) | (rw [rl_u_s]; rfl) | rw [rl_u_n (by first | with_reducible assumption | omega)])) (by first | rfl | with_reducible assumption) ?_
          refine o_iret hC hB dX7_run_161 (Nat.le_of_ble_eq_true rfl) (Nat.le_of_ble_eq_true rfl) ?_
          have gj : N1 j 8 = nI 1 := hst j (by omega) hbj
          refine ⟨_, N1, nI j, rfl, rfl, hk1.rs (nI j) _, hN, fun q a b => (rl_u_n (by omega)).trans (hfr q a b), ?_, hkp, Or.inr ⟨j, hj, rfl, Or.inr ⟨tab, (es j).symm.trans g2, rfl, rfl, gj⟩⟩⟩
          refine cl_dp.eqv (hd1.rp (nI j) c.2.2.2.2.2) c10 (fun k hk q a b => rl_u_n ?_)
          have a : c.1 k + 1 ≤ q := a
          have := c14 k hk
          have : x + 70 ≤ c.1 k := this
          omega
        · exact absurd (nI_lt (by omega) (by omega)) c_22
      | succ m ih =>
        intro t h1 N1 o5 o6 o7 o8 hm hk1 hN hst hfr hd1 hkp
        obtain ⟨k1, k2, k3, k4, k5, k6, k7⟩ := id hk1
        obtain ⟨c1, c2, ⟨gp, c3⟩, ⟨pn, c4, c5⟩, ⟨pt, c6, c7⟩, c8, c9, c10, c11, c12, c13, c14, c15⟩ := id k1
        have es : ∀ k : Nat, semc s (c.1, c.2.1, c.2.2.1, N1, c.2.2.2.2.1, c.2.2.2.2.2) k = semc s c k := fun k => sem_eq _ _ _ _ (fun i _ f hf => hN i f hf)
        have m1 : h1 (c.1 t) = some (cl_nd N1 t) := c12 t (show t < c.2.1 by omega)
        unfold cl_nd at m1
        refine o_iload hC dX7_run_19 (by rfl) ?_
        refine o_iload_n hC dX7_run_21 (by rfl) ?_
        refine o_icmp_gt (tgt := 147) hC dX7_run_22 (by decide) (fun c_22 => ?_) (fun c_22 => ?_)
        · exact absurd c_22 (nI_nlt (by omega) (by omega))
        · refine o_aload_n hC dX7_run_25 (by rfl) ?_
          refine o_getf hC (fX7_25 hC rfl) dX7_run_26 (by repeat (first | with_reducible assumption | (rw [rl_u_s]; done) | (rw [rl_u_s]; rfl) | rw [rl_u_n (by first | with_reducible assumption | omega)])) (by first | rfl | with_reducible assumption) ?_
          refine o_iload hC dX7_run_29 (by rfl) ?_
          refine o_aaldN (t0 := 5) (k := t) hC rfl dX7_run_31 c4 (by omega) (by decide) ?_
          rw [c5 _ (by omega), if_pos (show t < c.2.1 by omega)]
          show rl_G X _ _ _ (.ref (c.1 t) :: _) _ _ _ _
          refine o_astore hC dX7_run_32 (Nat.le_of_ble_eq_true rfl) ?_
          refine o_lload_n hC dX7_run_34 (by rfl) ?_
          refine o_iload hC dX7_run_35 (by rfl) ?_
          refine o_lshr hC dX7_run_37 ?_
          refine o_lconst (v := 1) hC dX7_run_38 (by decide +kernel) ?_
          refine o_land hC dX7_run_39 ?_
          refine o_lconst (v := 0) hC dX7_run_40 (by decide +kernel) ?_
          refine o_lcmp hC dX7_run_41 ?_
          refine o_if_eq (tgt := 49) hC dX7_run_42 (by decide) (fun c_42 => ?_) (fun c_42 => ?_)
          · refine o_iconst (v := nI 0) hC dX7_run_49 (by decide +kernel) ?_
            refine o_istore hC dX7_run_50 (Nat.le_of_ble_eq_true rfl) ?_
            refine o_iload hC dX7_run_52 (by rfl) ?_
            refine o_if_eq (tgt := 124) hC dX7_run_54 (by decide) (fun _ => ?_) (fun q => absurd rfl q)
            refine o_iload hC dX7_run_124 (by rfl) ?_
            refine o_if_eq (tgt := 141) hC dX7_run_126 (by decide) (fun _ => ?_) (fun q => absurd rfl q)
            refine o_iinc hC dX7_run_141 (by rfl) (rl_inc _) (Nat.le_of_ble_eq_true rfl) ?_
            refine o_goto (tgt := 19) hC dX7_run_144 (by decide) ?_
            refine ih (t + 1) _ N1 _ _ _ _ (by omega) hk1 hN (fun k hk hb => ?_) hfr hd1 hkp
            by_cases e : k = t
            · subst e
              exact absurd c_42 hb
            · exact hst k (by omega) hb
          · refine o_iconst (v := nI 1) hC dX7_run_45 (by decide +kernel) ?_
            refine o_goto (tgt := 50) hC dX7_run_46 (by decide) ?_
            refine o_istore hC dX7_run_50 (Nat.le_of_ble_eq_true rfl) ?_
            refine o_iload hC dX7_run_52 (by rfl) ?_
            refine o_if_eq (tgt := 124) hC dX7_run_54 (by decide) (fun q => absurd q (by decide +kernel)) (fun c_54 => ?_)
            refine o_aload hC dX7_run_57 (by rfl) ?_
            refine o_getf hC (fX7_121 hC rfl) dX7_run_59 (by repeat (first | with_reducible assumption | (rw [rl_u_s]; done) | (rw [rl_u_s]; rfl) | rw [rl_u_n (by first | with_reducible assumption | omega)])) (by first | rfl | with_reducible assumption) ?_
            refine o_if_ne (tgt := 124) hC dX7_run_62 (by decide) (fun c_62 => ?_) (fun c_62 => ?_)
            · refine o_iload hC dX7_run_124 (by rfl) ?_
              refine o_if_eq (tgt := 141) hC dX7_run_126 (by decide) (fun q => absurd q (by decide +kernel)) (fun c_126 => ?_)
              refine o_aload hC dX7_run_129 (by rfl) ?_
              refine o_getf hC (fX7_121 hC rfl) dX7_run_131 (by repeat (first | with_reducible assumption | (rw [rl_u_s]; done) | (rw [rl_u_s]; rfl) | rw [rl_u_n (by first | with_reducible assumption | omega)])) (by first | rfl | with_reducible assumption) ?_
              refine o_iconst (v := nI 2) hC dX7_run_134 (by decide +kernel) ?_
              refine o_icmp_ne (tgt := 141) hC dX7_run_135 (by decide) (fun c_135 => ?_) (fun c_135 => ?_)
              · refine o_iinc hC dX7_run_141 (by rfl) (rl_inc _) (Nat.le_of_ble_eq_true rfl) ?_
                refine o_goto (tgt := 19) hC dX7_run_144 (by decide) ?_
                have gv := hd1.2.2 t (show t < c.2.2.1 by omega)
                refine ih (t + 1) _ N1 _ _ _ _ (by omega) hk1 hN (fun k hk hb => ?_) hfr hd1 hkp
                by_cases e : k = t
                · subst e
                  rcases gv with g | ⟨g, -⟩ | ⟨g, -⟩
                  · exact absurd g c_62
                  · exact g
                  · exact absurd g c_135
                · exact hst k (by omega) hb
              · refine o_bipush (v := (-4 : Int32)) hC dX7_run_138 (by decide +kernel) ?_
                refine o_iret hC hB dX7_run_140 (Nat.le_of_ble_eq_true rfl) (Nat.le_of_ble_eq_true rfl) ?_
                have gv := hd1.2.2 t (show t < c.2.2.1 by omega)
                have gn : semc s c t = none := by
                  rcases gv with g | ⟨g, -⟩ | ⟨-, g⟩
                  · exact absurd g c_62
                  · exact absurd (g.symm.trans (by first | exact c_135 | exact Classical.not_not.mp c_135)) (by decide +kernel)
                  · exact (es t).symm.trans g
                exact ⟨_, N1, _, rfl, rfl, hk1, hN, hfr, hd1, hkp, Or.inr ⟨j, hj, rfl, Or.inl ⟨hq9 t (by omega) c_42 gn, rfl, rfl⟩⟩⟩
            · obtain ⟨op, w, w1, w2, a1, a2, a4, a5, a6, a8, a9⟩ := hd1.2.1 t (show t < c.2.2.1 by omega)
              have a1 : N1 t 0 = nI op := a1
              have a2 : N1 t 1 = nI w := a2
              have a4 : nd_f op w (N1 t 4) (N1 t 5) (N1 t 6) (N1 t 7) w1 w2 := a4
              have a8 : op = 0 → N1 t 2 = -1 := a8
              have a9 : is2 op = false → N1 t 3 = -1 := a9
              have cl1 := hp t (by omega) c_42
              have y0 : x + 70 ≤ c.1 t := c14 t (show t < c.2.1 by omega)
              have op6 := a4.1
              have w6 := a4.2.2.1
              refine o_aload_n hC dX7_run_65 (by rfl) ?_
              refine o_aload hC dX7_run_66 (by rfl) ?_
              refine o_getf hC (fX7_124 hC rfl) dX7_run_68 (by repeat (first | with_reducible assumption | (rw [rl_u_s]; done) | (rw [rl_u_s]; rfl) | rw [rl_u_n (by first | with_reducible assumption | omega)])) (by first | rfl | with_reducible assumption) ?_
              refine o_callV1 hC rl_BW_good rl_Ns_nw (by exact hB.2.2.2.2.2) YX7_tableOf IX7_tableOf VX7_tableOf (mX7_127 hC) (by rw [hB.1]; exact cg_X7_tableOf l D ids H0 _ _ x s (c.1, c.2.1, c.2.2.1, N1, c.2.2.2.2.1, c.2.2.2.2.2) _ k1) (by exact c1) rfl rfl (Nat.le_of_ble_eq_true rfl) (by rw [hB.2.1]; first | exact Nat.le_of_ble_eq_true rfl | (dsimp only; omega)) (by rw [hB.2.1]; first | exact Nat.le_of_ble_eq_true rfl | (dsimp only; omega)) (by rw [hB.2.1]; first | exact Nat.le_of_ble_eq_true rfl | (dsimp only; omega)) (by rw [hB.2.1]; first | exact Nat.le_of_ble_eq_true rfl | (dsimp only; omega)) dX7_run_71 (fun v h_71 n_71 p_71 => ?_)
              obtain ⟨z71, rfl, rfl, rfl, hz71⟩ := p_71
              try dsimp only [Option.toList, List.cons_append, List.nil_append]
              refine o_astore hC dX7_run_74 (Nat.le_of_ble_eq_true rfl) ?_
              refine o_aload_n hC dX7_run_76 (by rfl) ?_
              refine o_aload hC dX7_run_77 (by rfl) ?_
              refine o_getf hC (fX7_131 hC rfl) dX7_run_79 (by repeat (first | with_reducible assumption | (rw [rl_u_s]; done) | (rw [rl_u_s]; rfl) | rw [rl_u_n (by first | with_reducible assumption | omega)])) (by first | rfl | with_reducible assumption) ?_
              refine o_callV1 hC rl_BW_good rl_Ns_nw (by exact hB.2.2.2.2.2) YX7_tableOf IX7_tableOf VX7_tableOf (mX7_127 hC) (by rw [hB.1]; exact cg_X7_tableOf l D ids H0 _ _ x s (c.1, c.2.1, c.2.2.1, N1, c.2.2.2.2.1, c.2.2.2.2.2) _ k1) (by exact c1) rfl rfl (Nat.le_of_ble_eq_true rfl) (by rw [hB.2.1]; first | exact Nat.le_of_ble_eq_true rfl | (dsimp only; omega)) (by rw [hB.2.1]; first | exact Nat.le_of_ble_eq_true rfl | (dsimp only; omega)) (by rw [hB.2.1]; first | exact Nat.le_of_ble_eq_true rfl | (dsimp only; omega)) (by rw [hB.2.1]; first | exact Nat.le_of_ble_eq_true rfl | (dsimp only; omega)) dX7_run_82 (fun v h_82 n_82 p_82 => ?_)
              obtain ⟨z82, rfl, rfl, rfl, hz82⟩ := p_82
              try dsimp only [Option.toList, List.cons_append, List.nil_append]
              refine o_astore hC dX7_run_85 (Nat.le_of_ble_eq_true rfl) ?_
              have A1 : ∃ T1 : List arow, ((1 ≤ op) → (ctb ids h_82 z71 w1 T1 ∧ aok w1 T1 ∧ (x + 41 + 22 ≤ z71 ∨ z71 + 402 ≤ x + 41) ∧ (z71 + 402 ≤ c.1 t + 1 ∨ c.1 t + 1 + 402 ≤ z71)) ∧ ∃ i : Nat, i < t ∧ N1 t 2 = nI i ∧ semc s (c.1, c.2.1, c.2.2.1, N1, c.2.2.2.2.1, c.2.2.2.2.2) i = some T1) ∧ (¬ (1 ≤ op) → T1 = []) := by
                by_cases q : (1 ≤ op)
                · obtain ⟨i, i1, i2, i3⟩ := a5 q
                  have i2 : N1 t 2 = nI i := i2
                  have i3 : N1 i 1 = nI w1 := i3
                  have i4 := hst i i1 (cl1 i i1 (Or.inl ((hN t 2 (by decide)).symm.trans i2)))
                  rcases hz71 with ⟨-, u⟩ | ⟨i5, u1, u2, rfl⟩
                  · exact absurd ⟨i, show i < c.2.2.1 by omega, i2⟩ u
                  · have u1 : i5 < c.2.2.1 := u1
                    have := nI_inj2 (by omega) (by omega) (i2.symm.trans u2)
                    subst this
                    rcases hd1.2.2 i u1 with g | ⟨g, tab, w', g1, g2, g3, g4⟩ | ⟨g, -⟩
                    · exact absurd (i4.symm.trans g) (by decide +kernel)
                    · have g1 : N1 i 1 = nI w' := g1
                      obtain ⟨op', w9, w8, w7, b1, b2, b3, -⟩ := hd1.2.1 i u1
                      have b2 : N1 i 1 = nI w9 := b2
                      have w96 := b3.2.2.1
                      have e9 := nI_inj2 (by have := (a4.2.2.2.1); have := a4.2.2.2.2.1; omega) (by omega) (i3.symm.trans b2)
                      have e8 : w' = w9 := by
                        have t7 : w' ≤ 6 := by
                          obtain ⟨P9, S9, t9, -⟩ := g3
                          exact t9.2.2.2.2.2
                        exact nI_inj2 (by omega) (by omega) (g1.symm.trans b2)
                      subst e8
                      subst e9
                      have y1 : c.1 i + 403 ≤ c.1 t := c15 i t i1 (show t < c.2.1 by omega)
                      have y2 : x + 70 ≤ c.1 i := c14 i (show i < c.2.1 by omega)
                      exact ⟨tab, fun _ => ⟨⟨g3, g4, Or.inl (show x + 41 + 22 ≤ c.1 i + 1 by omega), Or.inl (show c.1 i + 1 + 402 ≤ c.1 t + 1 by omega)⟩, i, i1, i2, g2⟩, fun u => absurd q u⟩
                    · exact absurd (i4.symm.trans g) (by decide +kernel)
                · exact ⟨[], fun u => absurd u q, fun _ => rfl⟩
              have A2 : ∃ T2 : List arow, ((is2 op = true) → (ctb ids h_82 z82 w2 T2 ∧ aok w2 T2 ∧ (x + 41 + 22 ≤ z82 ∨ z82 + 402 ≤ x + 41) ∧ (z82 + 402 ≤ c.1 t + 1 ∨ c.1 t + 1 + 402 ≤ z82)) ∧ ∃ i : Nat, i < t ∧ N1 t 3 = nI i ∧ semc s (c.1, c.2.1, c.2.2.1, N1, c.2.2.2.2.1, c.2.2.2.2.2) i = some T2) ∧ (¬ (is2 op = true) → T2 = []) := by
                by_cases q : (is2 op = true)
                · obtain ⟨i, i1, i2, i3⟩ := a6 q
                  have i2 : N1 t 3 = nI i := i2
                  have i3 : N1 i 1 = nI w2 := i3
                  have i4 := hst i i1 (cl1 i i1 (Or.inr ((hN t 3 (by decide)).symm.trans i2)))
                  rcases hz82 with ⟨-, u⟩ | ⟨i5, u1, u2, rfl⟩
                  · exact absurd ⟨i, show i < c.2.2.1 by omega, i2⟩ u
                  · have u1 : i5 < c.2.2.1 := u1
                    have := nI_inj2 (by omega) (by omega) (i2.symm.trans u2)
                    subst this
                    rcases hd1.2.2 i u1 with g | ⟨g, tab, w', g1, g2, g3, g4⟩ | ⟨g, -⟩
                    · exact absurd (i4.symm.trans g) (by decide +kernel)
                    · have g1 : N1 i 1 = nI w' := g1
                      obtain ⟨op', w9, w8, w7, b1, b2, b3, -⟩ := hd1.2.1 i u1
                      have b2 : N1 i 1 = nI w9 := b2
                      have w96 := b3.2.2.1
                      have e9 := nI_inj2 (by have := (a4.2.2.2.1); have := a4.2.2.2.2.1; omega) (by omega) (i3.symm.trans b2)
                      have e8 : w' = w9 := by
                        have t7 : w' ≤ 6 := by
                          obtain ⟨P9, S9, t9, -⟩ := g3
                          exact t9.2.2.2.2.2
                        exact nI_inj2 (by omega) (by omega) (g1.symm.trans b2)
                      subst e8
                      subst e9
                      have y1 : c.1 i + 403 ≤ c.1 t := c15 i t i1 (show t < c.2.1 by omega)
                      have y2 : x + 70 ≤ c.1 i := c14 i (show i < c.2.1 by omega)
                      exact ⟨tab, fun _ => ⟨⟨g3, g4, Or.inl (show x + 41 + 22 ≤ c.1 i + 1 by omega), Or.inl (show c.1 i + 1 + 402 ≤ c.1 t + 1 by omega)⟩, i, i1, i2, g2⟩, fun u => absurd q u⟩
                    · exact absurd (i4.symm.trans g) (by decide +kernel)
                · exact ⟨[], fun u => absurd u q, fun _ => rfl⟩
              obtain ⟨T1, B1, E1⟩ := A1
              obtain ⟨T2, B2, E2⟩ := A2
              obtain ⟨wd0, ht0⟩ := hd1.1 t (show t < c.2.1 by omega)
              have esv : semc s (c.1, c.2.1, c.2.2.1, N1, c.2.2.2.2.1, c.2.2.2.2.2) t = nfn s.2.1 s.2.2.1 s.2.2.2.2 op w (N1 t 4) (N1 t 5) (N1 t 6) (N1 t 7) T1 T2 := sem_val _ _ _ _ a1 a2 op6 w6 (by omega) (fun q => (B1 q).2) (fun q => (B2 q).2) (fun q => E1 (by omega)) (fun q => E2 (by rw [q]; decide))
              have B3 : op = 3 ∨ op = 4 ∨ op = 5 → ctb ids h_82 z82 w2 T2 ∧ aok w2 T2 ∧ (x + 41 + 22 ≤ z82 ∨ z82 + 402 ≤ x + 41) ∧ (z82 + 402 ≤ c.1 t + 1 ∨ c.1 t + 1 + 402 ≤ z82) := fun q => (B2 (decide_eq_true q)).1
              have m2 := m1
              rw [a1, a2] at m2
              refine o_aload hC dX7_run_87 (by rfl) ?_
              refine o_aload_n hC dX7_run_89 (by rfl) ?_
              refine o_getf hC (fX7_19 hC rfl) dX7_run_90 (by repeat (first | with_reducible assumption | (rw [rl_u_s]; done) | (rw [rl_u_s]; rfl) | rw [rl_u_n (by first | with_reducible assumption | omega)])) (by first | rfl | with_reducible assumption) ?_
              refine o_aload hC dX7_run_93 (by rfl) ?_
              refine o_aload_n hC dX7_run_95 (by rfl) ?_
              refine o_getf hC (fX7_10 hC rfl) dX7_run_96 (by repeat (first | with_reducible assumption | (rw [rl_u_s]; done) | (rw [rl_u_s]; rfl) | rw [rl_u_n (by first | with_reducible assumption | omega)])) (by first | rfl | with_reducible assumption) ?_
              refine o_aload hC dX7_run_99 (by rfl) ?_
              refine o_aload hC dX7_run_101 (by rfl) ?_
              refine o_aload_n hC dX7_run_103 (by rfl) ?_
              refine o_getf hC (fX7_31 hC rfl) dX7_run_104 (by repeat (first | with_reducible assumption | (rw [rl_u_s]; done) | (rw [rl_u_s]; rfl) | rw [rl_u_n (by first | with_reducible assumption | omega)])) (by first | rfl | with_reducible assumption) ?_
              refine o_iload hC dX7_run_107 (by rfl) ?_
              refine o_aaldN (t0 := 6) (k := t) hC rfl dX7_run_109 c6 (by omega) (by decide) ?_
              rw [c7 _ (by omega), if_pos (show t < c.2.1 by omega)]
              show rl_G X _ _ _ (.ref (c.1 t + 1) :: _) _ _ _ _
              refine o_callV5 hC rl_BW_good rl_Ns_nw (by exact hB.2.2.2.2.2) YX2_fill IX2_fill VX2_fill (mX7_134 hC) (by rw [hB.1]; exact cp_X2_fill l D ids H0 _ _ (x + 41) (x + 1) (c.1 t + 1) w wd0 op (c.1 t) z71 z82 w1 w2 _ _ gp T1 T2 _ _ _ _ _ _ _ _ _ _ c3 ht0 c2 m2 a4 (by omega) (by omega) (by omega) (by omega) (by omega) (fun q => (B1 q).1) B3) (by exact c3.1) rfl rfl (Nat.le_of_ble_eq_true rfl) (by rw [hB.2.1]; first | exact Nat.le_of_ble_eq_true rfl | (dsimp only; omega)) (by rw [hB.2.1]; first | exact Nat.le_of_ble_eq_true rfl | (dsimp only; omega)) (by rw [hB.2.1]; first | exact Nat.le_of_ble_eq_true rfl | (dsimp only; omega)) (by rw [hB.2.1]; first | exact Nat.le_of_ble_eq_true rfl | (dsimp only; omega)) dX7_run_110 (fun v h_110 n_110 p_110 => ?_)
              obtain ⟨xr, rfl, rfl, q1, q3, q2⟩ := p_110
              have m3 := (q3 (c.1 t) (by omega) (by omega)).trans m1
              rw [← esv] at q2
              have q2k : tb_ok ids h_110 (c.1 t + 1) w := by
                rcases q2 with ⟨tab9, -, -, p3, -⟩ | ⟨-, -, p3⟩
                · exact p3.ok
                · exact p3.ok
              try dsimp only [Option.toList, List.cons_append, List.nil_append]
              refine o_if_eq (tgt := 120) hC dX7_run_113 (by decide) (fun c_113 => ?_) (fun c_113 => ?_)
              · refine o_iconst (v := nI 2) hC dX7_run_120 (by decide +kernel) ?_
                have xr0 : xr = nI 0 := c_113
                refine o_putf hC (fX7_121 hC rfl) (fwX1 rfl rfl rfl (Or.inl rfl)) dX7_run_121 (by exact m3) (Nat.le_of_ble_eq_true rfl) ?_
                try simp only [List.set_cons_zero, List.set_cons_succ]
                obtain ⟨f1, f2⟩ := hk1.fl (t := t) (w := w) (show t < c.2.2.1 by omega) a2 w6 q1 q2k q3 (nI 2)
                have f3 := hd1.fl (t := t) (w := w) (v := nI 2) k1 (show t < c.2.2.1 by omega) a2 q3 (fun q hq => rl_u_n (h := h_110) (a := c.1 t) (e := cl_nd (cl_st N1 t (nI 2)) t) hq) rfl q2 (Or.inr ⟨xr0, rfl⟩)
                rw [cl_nd_st] at f1 f2 f3
                refine o_iload hC dX7_run_124 (by rfl) ?_
                refine o_if_eq (tgt := 141) hC dX7_run_126 (by decide) (fun q => absurd q (by decide +kernel)) (fun c_126 => ?_)
                refine o_aload hC dX7_run_129 (by rfl) ?_
                refine o_getf hC (fX7_121 hC rfl) dX7_run_131 (by repeat (first | with_reducible assumption | (rw [rl_u_s]; done) | (rw [rl_u_s]; rfl) | rw [rl_u_n (by first | with_reducible assumption | omega)])) (by first | rfl | with_reducible assumption) ?_
                refine o_iconst (v := nI 2) hC dX7_run_134 (by decide +kernel) ?_
                refine o_icmp_ne (tgt := 141) hC dX7_run_135 (by decide) (fun q => absurd rfl q) (fun _ => ?_)
                refine o_bipush (v := (-4 : Int32)) hC dX7_run_138 (by decide +kernel) ?_
                refine o_iret hC hB dX7_run_140 (Nat.le_of_ble_eq_true rfl) (Nat.le_of_ble_eq_true rfl) ?_
                have kp : ∀ k : Nat, c.2.2.2.1 k 8 ≠ nI 0 → cl_st N1 t (nI 2) k 8 = c.2.2.2.1 k 8 := fun k hk0 => by
                  by_cases e : k = t
                  · subst e
                    exact absurd ((hkp k hk0).symm.trans c_62) hk0
                  · exact (if_neg (fun w => e w.1)).trans (hkp k hk0)
                have gn : semc s c t = none := by
                  rcases q2 with ⟨tab9, -, e, -, -⟩ | ⟨e, -, -⟩
                  · exact absurd (xr0.symm.trans e) (by decide +kernel)
                  · exact (es t).symm.trans e
                exact ⟨_, cl_st N1 t (nI 2), _, rfl, rfl, f1, fun k f hf => (cl_st_8 hf).trans (hN k f hf), hfr.tr f2, f3, kp, Or.inr ⟨j, hj, rfl, Or.inl ⟨hq9 t (by omega) c_42 gn, rfl, rfl⟩⟩⟩
              · refine o_iconst (v := nI 1) hC dX7_run_116 (by decide +kernel) ?_
                refine o_goto (tgt := 121) hC dX7_run_117 (by decide) ?_
                have xr1 : xr = nI 1 := by
                  rcases q2 with ⟨tab9, -, e, -, -⟩ | ⟨-, e, -⟩
                  · exact e
                  · exact absurd e c_113
                refine o_putf hC (fX7_121 hC rfl) (fwX1 rfl rfl rfl (Or.inl rfl)) dX7_run_121 (by exact m3) (Nat.le_of_ble_eq_true rfl) ?_
                try simp only [List.set_cons_zero, List.set_cons_succ]
                obtain ⟨f1, f2⟩ := hk1.fl (t := t) (w := w) (show t < c.2.2.1 by omega) a2 w6 q1 q2k q3 (nI 1)
                have f3 := hd1.fl (t := t) (w := w) (v := nI 1) k1 (show t < c.2.2.1 by omega) a2 q3 (fun q hq => rl_u_n (h := h_110) (a := c.1 t) (e := cl_nd (cl_st N1 t (nI 1)) t) hq) rfl q2 (Or.inl ⟨xr1, rfl⟩)
                rw [cl_nd_st] at f1 f2 f3
                refine o_iload hC dX7_run_124 (by rfl) ?_
                refine o_if_eq (tgt := 141) hC dX7_run_126 (by decide) (fun q => absurd q (by decide +kernel)) (fun c_126 => ?_)
                refine o_aload hC dX7_run_129 (by rfl) ?_
                refine o_getf hC (fX7_121 hC rfl) dX7_run_131 (by repeat (first | with_reducible assumption | (rw [rl_u_s]; done) | (rw [rl_u_s]; rfl) | rw [rl_u_n (by first | with_reducible assumption | omega)])) (by first | rfl | with_reducible assumption) ?_
                refine o_iconst (v := nI 2) hC dX7_run_134 (by decide +kernel) ?_
                refine o_icmp_ne (tgt := 141) hC dX7_run_135 (by decide) (fun _ => ?_) (fun q => absurd (by first | exact q | exact Classical.not_not.mp q) (by decide +kernel))
                refine o_iinc hC dX7_run_141 (by rfl) (rl_inc _) (Nat.le_of_ble_eq_true rfl) ?_
                refine o_goto (tgt := 19) hC dX7_run_144 (by decide) ?_
                have kp : ∀ k : Nat, c.2.2.2.1 k 8 ≠ nI 0 → cl_st N1 t (nI 1) k 8 = c.2.2.2.1 k 8 := fun k hk0 => by
                  by_cases e : k = t
                  · subst e
                    exact absurd ((hkp k hk0).symm.trans c_62) hk0
                  · exact (if_neg (fun w => e w.1)).trans (hkp k hk0)
                refine ih (t + 1) _ (cl_st N1 t (nI 1)) _ _ _ _ (by omega) f1 (fun k f hf => (cl_st_8 hf).trans (hN k f hf)) (fun k hk hb => ?_) (hfr.tr f2) f3 kp
                by_cases e : k = t
                · subst e
                  exact if_pos ⟨rfl, rfl⟩
                · exact (if_neg (fun w => e w.1)).trans (hst k (by omega) hb)
    exact loop (j + 1) 0 _ c.2.2.2.1 _ _ _ _ (by omega) hk (fun _ _ _ => rfl) (fun k hk => absurd hk (by omega)) cl_fr.rf hd (fun _ _ => rfl)
  · refine o_iconst (v := (-1 : Int32)) hC dX7_run_8 (by decide +kernel) ?_
    refine o_iret hC hB dX7_run_9 (Nat.le_of_ble_eq_true rfl) (Nat.le_of_ble_eq_true rfl) ?_
    exact ⟨_, c.2.2.2.1, _, rfl, rfl, hk, fun _ _ _ => rfl, cl_fr.rf, hd, fun _ _ => rfl, Or.inl ⟨hz.elim (fun q => q.2) (fun q => absurd (c_5.symm.trans q.1) (by decide +kernel)), rfl, rfl⟩⟩
