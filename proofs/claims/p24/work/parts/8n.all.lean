section
/-! what nodes give -/
def spt (f : Nat → Option (List arow)) (b : Bool) (q : Int32) : Option (List arow) := if b then f (iN q) else some []
def is2 (op : Nat) : Bool := decide (op = 3 ∨ op = 4 ∨ op = 5)
/-- what node k gives, of what the others give -/
def snd1 (sf : Nat → Int32) (cf : Nat → Nat → Int32) (rc : Nat) (N : Nat → Nat → Int32) (k : Nat) (f : Nat → Option (List arow)) : Option (List arow) :=
  (spt f (decide (1 ≤ iN (N k 0))) (N k 2)).bind (fun tb => (spt f (is2 (iN (N k 0))) (N k 3)).bind (fun td => nfn sf cf rc (iN (N k 0)) (iN (N k 1)) (N k 4) (N k 5) (N k 6) (N k 7) tb td))
def smt (sf : Nat → Int32) (cf : Nat → Nat → Int32) (rc : Nat) (N : Nat → Nat → Int32) : Nat → Nat → Option (List arow)
  | 0, _ => none
  | k + 1, j => if j = k then snd1 sf cf rc N k (smt sf cf rc N k) else smt sf cf rc N k j
abbrev sem (sf : Nat → Int32) (cf : Nat → Nat → Int32) (rc : Nat) (N : Nat → Nat → Int32) (k : Nat) : Option (List arow) := smt sf cf rc N (k + 1) k
theorem smt_up (sf : Nat → Int32) (cf : Nat → Nat → Int32) (rc : Nat) (N : Nat → Nat → Int32) : ∀ {m j : Nat}, j < m → smt sf cf rc N m j = sem sf cf rc N j
  | 0, j, h => absurd h (Nat.not_lt_zero j)
  | m + 1, j, h => by
    by_cases e : j = m
    · rw [e]
    · show (if j = m then _ else smt sf cf rc N m j) = _
      rw [if_neg e]
      exact smt_up sf cf rc N (by omega)
theorem smt_eq (sf : Nat → Int32) (cf : Nat → Nat → Int32) (rc : Nat) (N : Nat → Nat → Int32) {N' : Nat → Nat → Int32} : ∀ {m j : Nat}, (∀ i : Nat, i < m → ∀ f : Nat, f < 8 → N' i f = N i f) → smt sf cf rc N' m j = smt sf cf rc N m j
  | 0, j, _ => rfl
  | m + 1, j, h => by
    have ih : smt sf cf rc N' m = smt sf cf rc N m := funext (fun i => smt_eq sf cf rc N (m := m) (j := i) (fun i hi => h i (by omega)))
    show (if j = m then snd1 sf cf rc N' m (smt sf cf rc N' m) else smt sf cf rc N' m j) = (if j = m then snd1 sf cf rc N m (smt sf cf rc N m) else smt sf cf rc N m j)
    rw [ih]
    unfold snd1
    rw [h m (by omega) 0 (by decide), h m (by omega) 1 (by decide), h m (by omega) 2 (by decide), h m (by omega) 3 (by decide), h m (by omega) 4 (by decide), h m (by omega) 5 (by decide), h m (by omega) 6 (by decide), h m (by omega) 7 (by decide)]
theorem sem_eq (sf : Nat → Int32) (cf : Nat → Nat → Int32) (rc : Nat) (N : Nat → Nat → Int32) {N' : Nat → Nat → Int32} {k : Nat} (h : ∀ i : Nat, i ≤ k → ∀ f : Nat, f < 8 → N' i f = N i f) : sem sf cf rc N' k = sem sf cf rc N k := smt_eq sf cf rc N (fun i hi => h i (by omega))
/-- node k is made of earlier ones, and its numbers are as they must be -/
def cl_f (N : Nat → Nat → Int32) (k : Nat) : Prop := ∃ op w w1 w2 : Nat, N k 0 = nI op ∧ N k 1 = nI w ∧ nd_f op w (N k 4) (N k 5) (N k 6) (N k 7) w1 w2 ∧ (1 ≤ op → ∃ i : Nat, i < k ∧ N k 2 = nI i ∧ N i 1 = nI w1) ∧ (is2 op = true → ∃ i : Nat, i < k ∧ N k 3 = nI i ∧ N i 1 = nI w2) ∧ (op = 0 → N k 2 = -1) ∧ (is2 op = false → N k 3 = -1)
theorem cl_f.of {N N' : Nat → Nat → Int32} {k : Nat} (H : cl_f N k) (e : ∀ i : Nat, i ≤ k → ∀ f : Nat, f < 8 → N' i f = N i f) : cl_f N' k := by
  obtain ⟨op, w, w1, w2, a1, a2, a3, a4, a5, a6, a7⟩ := H
  refine ⟨op, w, w1, w2, ?_, ?_, ?_, fun q => ?_, fun q => ?_, fun q => ?_, fun q => ?_⟩
  · rw [e k (Nat.le_refl _) 0 (by decide)]; exact a1
  · rw [e k (Nat.le_refl _) 1 (by decide)]; exact a2
  · rw [e k (Nat.le_refl _) 4 (by decide), e k (Nat.le_refl _) 5 (by decide), e k (Nat.le_refl _) 6 (by decide), e k (Nat.le_refl _) 7 (by decide)]; exact a3
  · obtain ⟨i, i1, i2, i3⟩ := a4 q
    exact ⟨i, i1, by rw [e k (Nat.le_refl _) 2 (by decide)]; exact i2, by rw [e i (by omega) 1 (by decide)]; exact i3⟩
  · obtain ⟨i, i1, i2, i3⟩ := a5 q
    exact ⟨i, i1, by rw [e k (Nat.le_refl _) 3 (by decide)]; exact i2, by rw [e i (by omega) 1 (by decide)]; exact i3⟩
  · rw [e k (Nat.le_refl _) 2 (by decide)]; exact a6 q
  · rw [e k (Nat.le_refl _) 3 (by decide)]; exact a7 q
theorem sem_s (sf : Nat → Int32) (cf : Nat → Nat → Int32) (rc : Nat) (N : Nat → Nat → Int32) {k op w : Nat} (h0 : N k 0 = nI op) (h1 : N k 1 = nI w) (op6 : op ≤ 6) (w6 : w ≤ 6) : sem sf cf rc N k = (spt (smt sf cf rc N k) (decide (1 ≤ op)) (N k 2)).bind (fun tb => (spt (smt sf cf rc N k) (is2 op) (N k 3)).bind (fun td => nfn sf cf rc op w (N k 4) (N k 5) (N k 6) (N k 7) tb td)) := by
  show (if k = k then snd1 sf cf rc N k (smt sf cf rc N k) else _) = _
  rw [if_pos rfl]
  unfold snd1
  rw [h0, h1, iN_nI (by omega), iN_nI (by omega)]
/-- of what its parts give -/
theorem sem_val (sf : Nat → Int32) (cf : Nat → Nat → Int32) (rc : Nat) (N : Nat → Nat → Int32) {k op w : Nat} {tb td : List arow} (h0 : N k 0 = nI op) (h1 : N k 1 = nI w) (op6 : op ≤ 6) (w6 : w ≤ 6) (k16 : k ≤ 16) (p1 : 1 ≤ op → ∃ i : Nat, i < k ∧ N k 2 = nI i ∧ sem sf cf rc N i = some tb) (p2 : is2 op = true → ∃ i : Nat, i < k ∧ N k 3 = nI i ∧ sem sf cf rc N i = some td) (q1 : op = 0 → tb = []) (q2 : is2 op = false → td = []) : sem sf cf rc N k = nfn sf cf rc op w (N k 4) (N k 5) (N k 6) (N k 7) tb td := by
  rw [sem_s sf cf rc N h0 h1 op6 w6]
  have e1 : spt (smt sf cf rc N k) (decide (1 ≤ op)) (N k 2) = some tb := by
    unfold spt
    by_cases e : 1 ≤ op
    · obtain ⟨i, i1, i2, i3⟩ := p1 e
      rw [decide_eq_true e, if_pos rfl, i2, iN_nI (by omega), smt_up sf cf rc N i1, i3]
    · rw [decide_eq_false e, if_neg (by decide), q1 (by omega)]
  have e2 : spt (smt sf cf rc N k) (is2 op) (N k 3) = some td := by
    unfold spt
    cases e : is2 op with
    | true =>
      obtain ⟨i, i1, i2, i3⟩ := p2 e
      rw [if_pos rfl, i2, iN_nI (by omega), smt_up sf cf rc N i1, i3]
    | false => rw [if_neg (by decide), q2 e]
  rw [e1]
  show (spt (smt sf cf rc N k) (is2 op) (N k 3)).bind _ = _
  rw [e2]
  rfl
/-- a part that is FULL makes it FULL -/
theorem sem_none (sf : Nat → Int32) (cf : Nat → Nat → Int32) (rc : Nat) (N : Nat → Nat → Int32) {k i : Nat} (hf : cl_f N k) (k16 : k ≤ 16) (hi : i < k) (hp : N k 2 = nI i ∨ N k 3 = nI i) (hn : sem sf cf rc N i = none) : sem sf cf rc N k = none := by
  obtain ⟨op, w, w1, w2, a1, a2, a3, a4, a5, a6, a7⟩ := hf
  have op6 := a3.1
  have w6 := a3.2.2.1
  rw [sem_s sf cf rc N a1 a2 op6 w6]
  rcases hp with hp | hp
  · have e : 1 ≤ op := Nat.pos_of_ne_zero (fun e => absurd (hp.symm.trans (a6 e)) (nI_m1 (by omega)))
    unfold spt
    rw [decide_eq_true e, if_pos rfl, hp, iN_nI (by omega), smt_up sf cf rc N hi, hn]
    rfl
  · cases e : is2 op with
    | false => exact absurd (hp.symm.trans (a7 e)) (nI_m1 (by omega))
    | true =>
      have e2 : spt (smt sf cf rc N k) true (N k 3) = none := by
        unfold spt
        rw [if_pos rfl, hp, iN_nI (by omega), smt_up sf cf rc N hi, hn]
      cases spt (smt sf cf rc N k) (decide (1 ≤ op)) (N k 2) with
      | none => rfl
      | some tb =>
        show (spt (smt sf cf rc N k) true (N k 3)).bind _ = none
        rw [e2]
        rfl
/-! the class, what its nodes have given -/
abbrev semc (s : cl_S) (c : cl_N) (k : Nat) : Option (List arow) := sem s.2.1 s.2.2.1 s.2.2.2.2 c.2.2.2.1 k
def cl_gv (ids : Nat → ClassId) (h : rl_H) (s : cl_S) (c : cl_N) (k : Nat) : Prop := c.2.2.2.1 k 8 = nI 0 ∨ (c.2.2.2.1 k 8 = nI 1 ∧ ∃ (tab : List arow) (w : Nat), c.2.2.2.1 k 1 = nI w ∧ semc s c k = some tab ∧ ctb ids h (c.1 k + 1) w tab ∧ aok w tab) ∨ (c.2.2.2.1 k 8 = nI 2 ∧ semc s c k = none)
def cl_dp (ids : Nat → ClassId) (h : rl_H) (s : cl_S) (c : cl_N) : Prop := (∀ k : Nat, k < c.2.1 → ∃ wd : Nat, tbi ids h (c.1 k + 1) wd) ∧ (∀ k : Nat, k < c.2.2.1 → cl_f c.2.2.2.1 k) ∧ ∀ k : Nat, k < c.2.2.1 → cl_gv ids h s c k
theorem cl_gv.eqv {ids : Nat → ClassId} {h h' : rl_H} {s : cl_S} {c : cl_N} {k : Nat} (H : cl_gv ids h s c k) (he : ∀ q : Nat, c.1 k + 1 ≤ q → q < c.1 k + 1 + 402 → h' q = h q) : cl_gv ids h' s c k := by
  rcases H with H | ⟨H, tab, w, a1, a2, a3, a4⟩ | H
  · exact Or.inl H
  · exact Or.inr (Or.inl ⟨H, tab, w, a1, a2, a3.eqv he, a4⟩)
  · exact Or.inr (Or.inr H)
theorem cl_dp.eqv {ids : Nat → ClassId} {h h' : rl_H} {s : cl_S} {c : cl_N} (H : cl_dp ids h s c) (hc : c.2.2.1 ≤ c.2.1) (he : ∀ k : Nat, k < c.2.1 → ∀ q : Nat, c.1 k + 1 ≤ q → q < c.1 k + 1 + 402 → h' q = h q) : cl_dp ids h' s c := by
  obtain ⟨h1, h2, h3⟩ := H
  refine ⟨fun k hk => ?_, h2, fun k hk => (h3 k hk).eqv (he k (by omega))⟩
  obtain ⟨wd, hw⟩ := h1 k hk
  exact ⟨wd, hw.eqv (he k hk)⟩
/-- result and present are others -/
theorem cl_dp.rp {ids : Nat → ClassId} {h : rl_H} {s : cl_S} {c : cl_N} (H : cl_dp ids h s c) (rs : Int32) (pr : Int64) : cl_dp ids h s (c.1, c.2.1, c.2.2.1, c.2.2.2.1, rs, pr) := H
/-- table t is filled: its Node's state is v -/
theorem cl_dp.fl {ids : Nat → ClassId} {h h2 h3 : rl_H} {x t w : Nat} {s : cl_S} {c : cl_N} (H : cl_dp ids h s c) (A : cl_at ids h x s c) (ht : t < c.2.2.1) (hw : c.2.2.2.1 t 1 = nI w) (g3 : rl_g2 h h2 (x + 41) (x + 41 + 22) (c.1 t + 1) (c.1 t + 1 + 402)) (h23 : ∀ q : Nat, q ≠ c.1 t → h3 q = h2 q) {r : Option (List arow)} {xr : Int32} (hr : r = semc s c t) (p : pres ids h2 (c.1 t + 1) w r xr) {v : Int32} (hv : (xr = nI 1 ∧ v = nI 1) ∨ (xr = nI 0 ∧ v = nI 2)) : cl_dp ids h3 s (c.1, c.2.1, c.2.2.1, cl_st c.2.2.2.1 t v, c.2.2.2.2.1, c.2.2.2.2.2) := by
  obtain ⟨a1, a2, a3⟩ := H
  have c10 : c.2.2.1 ≤ c.2.1 := A.2.2.2.2.2.2.2.1
  have c14 := A.2.2.2.2.2.2.2.2.2.2.2.1
  have c15 := A.2.2.2.2.2.2.2.2.2.2.2.2
  have htm : t < c.2.1 := by omega
  have yt := c14 t htm
  have sep : ∀ k : Nat, k < c.2.1 → k ≠ t → ∀ q : Nat, c.1 k + 1 ≤ q → q < c.1 k + 1 + 402 → h3 q = h q := fun k hk hkt q q1 q2 => by
    have yk := c14 k hk
    rcases Nat.lt_or_gt_of_ne hkt with u | u
    · have := c15 k t u htm
      rw [h23 q (by omega), g3 q (by omega) (by omega)]
    · have := c15 t k u hk
      rw [h23 q (by omega), g3 q (by omega) (by omega)]
  have own : ∀ q : Nat, c.1 t + 1 ≤ q → q < c.1 t + 1 + 402 → h3 q = h2 q := fun q q1 _ => h23 q (by omega)
  have es : ∀ k : Nat, semc s (c.1, c.2.1, c.2.2.1, cl_st c.2.2.2.1 t v, c.2.2.2.2.1, c.2.2.2.2.2) k = semc s c k := fun k => sem_eq _ _ _ _ (fun i _ f hf => cl_st_8 hf)
  refine ⟨fun k hk => ?_, fun k hk => (a2 k hk).of (fun i _ f hf => cl_st_8 hf), fun k hk => ?_⟩
  · by_cases e : k = t
    · subst e
      rcases p with ⟨tab, -, -, p3, -⟩ | ⟨-, -, p3⟩
      · exact ⟨w, p3.ti.eqv own⟩
      · exact ⟨w, p3.eqv own⟩
    · obtain ⟨wd, hwd⟩ := a1 k hk
      exact ⟨wd, hwd.eqv (sep k hk e)⟩
  · have hk : k < c.2.2.1 := hk
    by_cases e : k = t
    · subst e
      have e8 : cl_st c.2.2.2.1 k v k 8 = v := if_pos ⟨rfl, rfl⟩
      rcases p with ⟨tab, p1, p2, p3, p4⟩ | ⟨p1, p2, p3⟩
      · rcases hv with ⟨v1, v2⟩ | ⟨v1, v2⟩
        · exact Or.inr (Or.inl ⟨e8.trans v2, tab, w, (cl_st_8 (by decide)).trans hw, (es k).trans (hr.symm.trans p1), p3.eqv own, p4⟩)
        · exact absurd (v1.symm.trans p2) (by decide +kernel)
      · rcases hv with ⟨v1, v2⟩ | ⟨v1, v2⟩
        · exact absurd (v1.symm.trans p2) (by decide +kernel)
        · exact Or.inr (Or.inr ⟨e8.trans v2, (es k).trans (hr.symm.trans p1)⟩)
    · have e8 : cl_st c.2.2.2.1 t v k 8 = c.2.2.2.1 k 8 := if_neg (fun q => e q.1)
      rcases (a3 k hk).eqv (sep k (by omega) e) with H | ⟨H, tab, w', b1, b2, b3, b4⟩ | ⟨H, b1⟩
      · exact Or.inl (e8.trans H)
      · exact Or.inr (Or.inl ⟨e8.trans H, tab, w', (cl_st_8 (by decide)).trans b1, (es k).trans b2, b3, b4⟩)
      · exact Or.inr (Or.inr ⟨e8.trans H, (es k).trans b1⟩)

set_option maxHeartbeats 4000000 in
set_option maxRecDepth 100000 in
theorem cd_X7_neededNodes (l : Launch) (D : va_G) (ids : Nat → ClassId) (H0 : Heap) (h : rl_H) (n : Nat) (x L : Nat) (s : cl_S) (c : cl_N) (j : Nat) (Q : Nat → Prop) (hk : cl_ok ids h n x L s c) (hj : j < c.2.2.1) (hQj : Q j) (hQ : ∀ t : Nat, t ≤ j → Q t → ∀ i : Nat, i < t → (c.2.2.2.1 t 2 = nI i ∨ c.2.2.2.1 t 3 = nI i) → Q i) : rl_Met l (rl_e D ids H0) rl_BW rl_Ns yX7_neededNodes cX7_neededNodes 5 (some .long) ({ frames := 2, cells := 0, slots := 0, locals := 42 }) [.ref x, .int (nI j)] h n (fun v h' n' => ∃ b : Int64, v = some (.long b) ∧ h' = h ∧ n' = n ∧ nb b j ∧ (∀ k : Nat, k ≤ j → nb_np c.2.2.2.1 b k) ∧ ∀ k : Nat, k ≤ j → nb b k → Q k) := by
  obtain ⟨hc, k2, k3, k4, k5, k6, k7⟩ := id hk
  obtain ⟨c1, c2, c3, ⟨pn, c4, c5⟩, ⟨pt, c6, c7⟩, c8, c9, c10, c11, c12, c13, c14, c15⟩ := id hc
  refine rl_Met.of (by decide +kernel) (Nat.le_of_ble_eq_true rfl) ?_
  intro X hC hB
  have nc16 := cl_nc hk
  have loop : ∀ (t : Nat) (b : Int64), t ≤ j + 1 → nb b j → (∀ k : Nat, t ≤ k → k ≤ j → nb_np c.2.2.2.1 b k) → (∀ k : Nat, k ≤ j → nb b k → Q k) → rl_G X (rl_e D ids H0) 7 [some (.ref x), some (.int (nI j)), some (.long b), none, some (.int (nI t + Int32.ofInt (-1)))] [] h n 0 0 := by
    intro t
    induction t with
    | zero =>
      intro b ht hbj hp hq
      refine o_iload hC dX7_neededNodes_7 (by rfl) ?_
      refine o_if_lt (tgt := 61) hC dX7_neededNodes_9 (by decide) (fun c_9 => ?_) (fun c_9 => ?_)
      · refine o_lload_n hC dX7_neededNodes_61 (by rfl) ?_
        refine o_lret hC hB dX7_neededNodes_62 (Nat.le_of_ble_eq_true rfl) (Nat.le_of_ble_eq_true rfl) ?_
        exact ⟨_, rfl, rfl, rfl, hbj, fun k hk => hp k (Nat.zero_le _) hk, hq⟩
      · exact absurd (by decide +kernel) c_9
    | succ t ih =>
      intro b ht hbj hp hq
      rw [rl_dec t]
      have nc16 := cl_nc hk
      have m1 := c12 t (by omega)
      unfold cl_nd at m1
      obtain ⟨op, w, w1, w2, -, -, -, -, ⟨f1, f2⟩, -, -⟩ := k6 t (by omega)
      refine o_iload hC dX7_neededNodes_7 (by rfl) ?_
      refine o_if_lt (tgt := 61) hC dX7_neededNodes_9 (by decide) (fun c_9 => ?_) (fun c_9 => ?_)
      · exact absurd c_9 (nI_pos (by omega))
      · refine o_lload_n hC dX7_neededNodes_12 (by rfl) ?_
        refine o_iload hC dX7_neededNodes_13 (by rfl) ?_
        refine o_lshr hC dX7_neededNodes_15 ?_
        refine o_lconst (v := 1) hC dX7_neededNodes_16 (by decide +kernel) ?_
        refine o_land hC dX7_neededNodes_17 ?_
        refine o_lconst (v := 0) hC dX7_neededNodes_18 (by decide +kernel) ?_
        refine o_lcmp hC dX7_neededNodes_19 ?_
        refine o_if_eq (tgt := 55) hC dX7_neededNodes_20 (by decide) (fun c_20 => ?_) (fun c_20 => ?_)
        · refine o_iinc hC dX7_neededNodes_55 (by rfl) rfl (Nat.le_of_ble_eq_true rfl) ?_
          refine o_goto (tgt := 7) hC dX7_neededNodes_58 (by decide) ?_
          refine ih _ (by omega) ?_ (fun k g1 g2 => ?_) (fun k g2 => ?_)
          · first
            | exact hbj
            | (rw [nb_or]; exact Or.inl hbj)
          · by_cases e : k = t
            · subst e
              first
              | exact fun w => absurd c_20 w
              | (intro w i hi hp
                 have ii : i < c.2.2.1 := by omega
                 rw [nb_or, nb_or]
                 rcases hp with hp | hp
                 · rcases hr35 with ⟨-, u⟩ | ⟨i2, u1, u2, rfl⟩
                   · exact absurd ⟨i, ii, hp⟩ u
                   · have := nI_inj2 (by omega) (by omega) (hp.symm.trans u2)
                     subst this
                     exact Or.inr (Or.inl (nb_self _ (by omega)))
                 · rcases hr49 with ⟨-, u⟩ | ⟨i2, u1, u2, rfl⟩
                   · exact absurd ⟨i, ii, hp⟩ u
                   · have := nI_inj2 (by omega) (by omega) (hp.symm.trans u2)
                     subst this
                     exact Or.inr (Or.inr (nb_self _ (by omega))))
            · first
              | exact hp k (by omega) g2
              | (intro w i hi hq
                 rw [nb_or, nb_or] at w
                 have w0 : nb b k := by
                   rcases w with w | w | w
                   · exact w
                   · rcases hr35 with ⟨rfl, u⟩ | ⟨i2, u1, u2, rfl⟩
                     · exact absurd w (nb_0 k (by omega))
                     · rcases f1 with f1 | ⟨i3, f3, f4⟩
                       · exact absurd (u2.symm.trans f1) (nI_m1 (by omega))
                       · have := nI_inj2 (by omega) (by omega) (f4.symm.trans u2)
                         exact absurd w (nb_else i2 (by omega) k (by omega) (by omega))
                   · rcases hr49 with ⟨rfl, u⟩ | ⟨i2, u1, u2, rfl⟩
                     · exact absurd w (nb_0 k (by omega))
                     · rcases f2 with f1 | ⟨i3, f3, f4⟩
                       · exact absurd (u2.symm.trans f1) (nI_m1 (by omega))
                       · have := nI_inj2 (by omega) (by omega) (f4.symm.trans u2)
                         exact absurd w (nb_else i2 (by omega) k (by omega) (by omega))
                 rw [nb_or]
                 exact Or.inl (hp k (by omega) g2 w0 i hi hq))
          · first
            | exact hq k g2
            | (intro w
               have hQt : Q t := hq t (by omega) c_20
               rw [nb_or, nb_or] at w
               rcases w with w | w | w
               · exact hq k g2 w
               · rcases hr35 with ⟨rfl, u⟩ | ⟨i2, u1, u2, rfl⟩
                 · exact absurd w (nb_0 k (by omega))
                 · rcases f1 with f1 | ⟨i3, f3, f4⟩
                   · exact absurd (u2.symm.trans f1) (nI_m1 (by omega))
                   · have := nI_inj2 (by omega) (by omega) (f4.symm.trans u2)
                     by_cases e : i2 = k
                     · subst e
                       exact hQ t (by omega) hQt i2 (by omega) (Or.inl u2)
                     · exact absurd w (nb_else i2 (by omega) k (by omega) e)
               · rcases hr49 with ⟨rfl, u⟩ | ⟨i2, u1, u2, rfl⟩
                 · exact absurd w (nb_0 k (by omega))
                 · rcases f2 with f1 | ⟨i3, f3, f4⟩
                   · exact absurd (u2.symm.trans f1) (nI_m1 (by omega))
                   · have := nI_inj2 (by omega) (by omega) (f4.symm.trans u2)
                     by_cases e : i2 = k
                     · subst e
                       exact hQ t (by omega) hQt i2 (by omega) (Or.inr u2)
                     · exact absurd w (nb_else i2 (by omega) k (by omega) e))
        · refine o_lload_n hC dX7_neededNodes_23 (by rfl) ?_
          refine o_aload_n hC dX7_neededNodes_24 (by rfl) ?_
          refine o_aload_n hC dX7_neededNodes_25 (by rfl) ?_
          refine o_getf hC (fX7_25 hC rfl) dX7_neededNodes_26 (by repeat (first | with_reducible assumption | (rw [rl_u_s]; done) | (rw [rl_u_s]; rfl) | rw [rl_u_n (by first | with_reducible assumption | omega)])) (by first | rfl | with_reducible assumption) ?_
          refine o_iload hC dX7_neededNodes_29 (by rfl) ?_
          refine o_aaldN (t0 := 5) (k := t) hC rfl dX7_neededNodes_31 c4 (by omega) (by decide) ?_
          rw [c5 _ (by omega), if_pos (by omega)]
          show rl_G X _ _ _ (.ref _ :: _) _ _ _ _
          refine o_getf hC (fX7_124 hC rfl) dX7_neededNodes_32 (by repeat (first | with_reducible assumption | (rw [rl_u_s]; done) | (rw [rl_u_s]; rfl) | rw [rl_u_n (by first | with_reducible assumption | omega)])) (by first | rfl | with_reducible assumption) ?_
          refine o_callV1 hC rl_BW_good rl_Ns_nw (by exact hB.2.2.2.2.2) YX7_bitOfNode IX7_bitOfNode VX7_bitOfNode (mX7_233 hC) (by rw [hB.1]; exact cb_X7_bitOfNode l D ids H0 _ _ x s c _ hc) (by exact c1) rfl rfl (Nat.le_of_ble_eq_true rfl) (by rw [hB.2.1]; first | exact Nat.le_of_ble_eq_true rfl | (dsimp only; omega)) (by rw [hB.2.1]; first | exact Nat.le_of_ble_eq_true rfl | (dsimp only; omega)) (by rw [hB.2.1]; first | exact Nat.le_of_ble_eq_true rfl | (dsimp only; omega)) (by rw [hB.2.1]; first | exact Nat.le_of_ble_eq_true rfl | (dsimp only; omega)) dX7_neededNodes_35 (fun v h_35 n_35 p_35 => ?_)
          obtain ⟨r35, rfl, rfl, rfl, hr35⟩ := p_35
          try dsimp only [Option.toList, List.cons_append, List.nil_append]
          refine o_aload_n hC dX7_neededNodes_38 (by rfl) ?_
          refine o_aload_n hC dX7_neededNodes_39 (by rfl) ?_
          refine o_getf hC (fX7_25 hC rfl) dX7_neededNodes_40 (by repeat (first | with_reducible assumption | (rw [rl_u_s]; done) | (rw [rl_u_s]; rfl) | rw [rl_u_n (by first | with_reducible assumption | omega)])) (by first | rfl | with_reducible assumption) ?_
          refine o_iload hC dX7_neededNodes_43 (by rfl) ?_
          refine o_aaldN (t0 := 5) (k := t) hC rfl dX7_neededNodes_45 c4 (by omega) (by decide) ?_
          rw [c5 _ (by omega), if_pos (by omega)]
          show rl_G X _ _ _ (.ref _ :: _) _ _ _ _
          refine o_getf hC (fX7_131 hC rfl) dX7_neededNodes_46 (by repeat (first | with_reducible assumption | (rw [rl_u_s]; done) | (rw [rl_u_s]; rfl) | rw [rl_u_n (by first | with_reducible assumption | omega)])) (by first | rfl | with_reducible assumption) ?_
          refine o_callV1 hC rl_BW_good rl_Ns_nw (by exact hB.2.2.2.2.2) YX7_bitOfNode IX7_bitOfNode VX7_bitOfNode (mX7_233 hC) (by rw [hB.1]; exact cb_X7_bitOfNode l D ids H0 _ _ x s c _ hc) (by exact c1) rfl rfl (Nat.le_of_ble_eq_true rfl) (by rw [hB.2.1]; first | exact Nat.le_of_ble_eq_true rfl | (dsimp only; omega)) (by rw [hB.2.1]; first | exact Nat.le_of_ble_eq_true rfl | (dsimp only; omega)) (by rw [hB.2.1]; first | exact Nat.le_of_ble_eq_true rfl | (dsimp only; omega)) (by rw [hB.2.1]; first | exact Nat.le_of_ble_eq_true rfl | (dsimp only; omega)) dX7_neededNodes_49 (fun v h_49 n_49 p_49 => ?_)
          obtain ⟨r49, rfl, rfl, rfl, hr49⟩ := p_49
          try dsimp only [Option.toList, List.cons_append, List.nil_append]
          refine o_lor hC dX7_neededNodes_52 ?_
          refine o_lor hC dX7_neededNodes_53 ?_
          refine o_lstore_n hC dX7_neededNodes_54 (Nat.le_of_ble_eq_true rfl) ?_
          refine o_iinc hC dX7_neededNodes_55 (by rfl) rfl (Nat.le_of_ble_eq_true rfl) ?_
          refine o_goto (tgt := 7) hC dX7_neededNodes_58 (by decide) ?_
          refine ih _ (by omega) ?_ (fun k g1 g2 => ?_) (fun k g2 => ?_)
          · first
            | exact hbj
            | (rw [nb_or]; exact Or.inl hbj)
          · by_cases e : k = t
            · subst e
              first
              | exact fun w => absurd c_20 w
              | (intro w i hi hp
                 have ii : i < c.2.2.1 := by omega
                 rw [nb_or, nb_or]
                 rcases hp with hp | hp
                 · rcases hr35 with ⟨-, u⟩ | ⟨i2, u1, u2, rfl⟩
                   · exact absurd ⟨i, ii, hp⟩ u
                   · have := nI_inj2 (by omega) (by omega) (hp.symm.trans u2)
                     subst this
                     exact Or.inr (Or.inl (nb_self _ (by omega)))
                 · rcases hr49 with ⟨-, u⟩ | ⟨i2, u1, u2, rfl⟩
                   · exact absurd ⟨i, ii, hp⟩ u
                   · have := nI_inj2 (by omega) (by omega) (hp.symm.trans u2)
                     subst this
                     exact Or.inr (Or.inr (nb_self _ (by omega))))
            · first
              | exact hp k (by omega) g2
              | (intro w i hi hq
                 rw [nb_or, nb_or] at w
                 have w0 : nb b k := by
                   rcases w with w | w | w
                   · exact w
                   · rcases hr35 with ⟨rfl, u⟩ | ⟨i2, u1, u2, rfl⟩
                     · exact absurd w (nb_0 k (by omega))
                     · rcases f1 with f1 | ⟨i3, f3, f4⟩
                       · exact absurd (u2.symm.trans f1) (nI_m1 (by omega))
                       · have := nI_inj2 (by omega) (by omega) (f4.symm.trans u2)
                         exact absurd w (nb_else i2 (by omega) k (by omega) (by omega))
                   · rcases hr49 with ⟨rfl, u⟩ | ⟨i2, u1, u2, rfl⟩
                     · exact absurd w (nb_0 k (by omega))
                     · rcases f2 with f1 | ⟨i3, f3, f4⟩
                       · exact absurd (u2.symm.trans f1) (nI_m1 (by omega))
                       · have := nI_inj2 (by omega) (by omega) (f4.symm.trans u2)
                         exact absurd w (nb_else i2 (by omega) k (by omega) (by omega))
                 rw [nb_or]
                 exact Or.inl (hp k (by omega) g2 w0 i hi hq))
          · first
            | exact hq k g2
            | (intro w
               have hQt : Q t := hq t (by omega) c_20
               rw [nb_or, nb_or] at w
               rcases w with w | w | w
               · exact hq k g2 w
               · rcases hr35 with ⟨rfl, u⟩ | ⟨i2, u1, u2, rfl⟩
                 · exact absurd w (nb_0 k (by omega))
                 · rcases f1 with f1 | ⟨i3, f3, f4⟩
                   · exact absurd (u2.symm.trans f1) (nI_m1 (by omega))
                   · have := nI_inj2 (by omega) (by omega) (f4.symm.trans u2)
                     by_cases e : i2 = k
                     · subst e
                       exact hQ t (by omega) hQt i2 (by omega) (Or.inl u2)
                     · exact absurd w (nb_else i2 (by omega) k (by omega) e)
               · rcases hr49 with ⟨rfl, u⟩ | ⟨i2, u1, u2, rfl⟩
                 · exact absurd w (nb_0 k (by omega))
                 · rcases f2 with f1 | ⟨i3, f3, f4⟩
                   · exact absurd (u2.symm.trans f1) (nI_m1 (by omega))
                   · have := nI_inj2 (by omega) (by omega) (f4.symm.trans u2)
                     by_cases e : i2 = k
                     · subst e
                       exact hQ t (by omega) hQt i2 (by omega) (Or.inr u2)
                     · exact absurd w (nb_else i2 (by omega) k (by omega) e))
  show rl_G X (rl_e D ids H0) 0 [some (.ref x), some (.int (nI j)), none, none, none] [] h n 0 0
  refine o_lconst (v := 1) hC dX7_neededNodes_0 (by decide +kernel) ?_
  refine o_iload_n hC dX7_neededNodes_1 (by rfl) ?_
  refine o_lshl hC dX7_neededNodes_2 ?_
  refine o_lstore_n hC dX7_neededNodes_3 (Nat.le_of_ble_eq_true rfl) ?_
  refine o_iload_n hC dX7_neededNodes_4 (by rfl) ?_
  refine o_istore hC dX7_neededNodes_5 (Nat.le_of_ble_eq_true rfl) ?_
  have lp := loop (j + 1) ((1 : Int64) <<< ((nI j).toInt64 &&& 63)) (Nat.le_refl _) (nb_self j (by omega)) (fun k g1 g2 => absurd g1 (by omega)) (fun k g1 w => by
    by_cases e : j = k
    · rw [← e]
      exact hQj
    · exact absurd w (nb_else j (by omega) k (by omega) e))
  rw [rl_dec j] at lp
  exact lp

set_option maxHeartbeats 4000000 in
set_option maxRecDepth 100000 in
theorem cd_X7_run (l : Launch) (D : va_G) (ids : Nat → ClassId) (H0 : Heap) (h : rl_H) (n : Nat) (x L : Nat) (s : cl_S) (c : cl_N) (q : Int32) (hk : cl_ok ids h n x L s c) (hd : cl_dp ids h s c) : rl_Met l (rl_e D ids H0) rl_BW rl_Ns yX7_run cX7_run 9 (some .int) ({ frames := 7, cells := 0, slots := 0, locals := 226 }) [.ref x, .int q] h n (fun v h' n' => ∃ (r : Int32) (N' : Nat → Nat → Int32) (rs : Int32), v = some (.int r) ∧ n' = n ∧ cl_ok ids h' n x L s (c.1, c.2.1, c.2.2.1, N', rs, c.2.2.2.2.2) ∧ (∀ k f : Nat, f < 8 → N' k f = c.2.2.2.1 k f) ∧ cl_fr h h' x L ∧ cl_dp ids h' s (c.1, c.2.1, c.2.2.1, N', rs, c.2.2.2.2.2) ∧ (∀ k : Nat, c.2.2.2.1 k 8 ≠ nI 0 → N' k 8 = c.2.2.2.1 k 8) ∧ ((¬ (∃ j : Nat, j < c.2.2.1 ∧ q = nI j) ∧ r = -1 ∧ rs = c.2.2.2.2.1) ∨ ∃ j : Nat, j < c.2.2.1 ∧ q = nI j ∧ ((semc s c j = none ∧ r = -4 ∧ rs = c.2.2.2.2.1) ∨ ∃ tab : List arow, semc s c j = some tab ∧ r = nI tab.length ∧ rs = nI j ∧ N' j 8 = nI 1))) := by
  obtain ⟨hc, k2, k3, k4, k5, k6, k7⟩ := id hk
  obtain ⟨c1, c2, c3, ⟨pn, c4, c5⟩, ⟨pt, c6, c7⟩, c8, c9, c10, c11, c12, c13, c14, c15⟩ := id hc
  refine rl_Met.of (by decide +kernel) (Nat.le_of_ble_eq_true rfl) ?_
  intro X hC hB
  show rl_G X (rl_e D ids H0) 0 [some (.ref x), some (.int q), none, none, none, none, none, none, none] [] h n 0 0
  refine o_aload_n hC dX7_run_0 (by rfl) ?_
  refine o_iload_n hC dX7_run_1 (by rfl) ?_
  refine o_callV1 hC rl_BW_good rl_Ns_nw (by exact hB.2.2.2.2.2) YX7_isNode IX7_isNode VX7_isNode (mX7_100 hC) (by rw [hB.1]; exact cg_X7_isNode l D ids H0 _ _ x s c _ hc) (by exact c1) rfl rfl (Nat.le_of_ble_eq_true rfl) (by rw [hB.2.1]; first | exact Nat.le_of_ble_eq_true rfl | (dsimp only; omega)) (by rw [hB.2.1]; first | exact Nat.le_of_ble_eq_true rfl | (dsimp only; omega)) (by rw [hB.2.1]; first | exact Nat.le_of_ble_eq_true rfl | (dsimp only; omega)) (by rw [hB.2.1]; first | exact Nat.le_of_ble_eq_true rfl | (dsimp only; omega)) dX7_run_2 (fun v h_2 n_2 p_2 => ?_)
  obtain ⟨z, rfl, rfl, rfl, hz⟩ := p_2
  try dsimp only [Option.toList, List.cons_append, List.nil_append]
  refine o_if_ne (tgt := 10) hC dX7_run_5 (by decide) (fun c_5 => ?_) (fun c_5 => ?_)
  · have nc16 := cl_nc hk
    obtain ⟨j, hj, rfl⟩ : (∃ j : Nat, j < c.2.2.1 ∧ q = nI j) := hz.elim (fun q => absurd q.1 c_5) (fun q => q.2)
    refine o_aload_n hC dX7_run_10 (by rfl) ?_
    refine o_iload_n hC dX7_run_11 (by rfl) ?_
    refine o_callV1 hC rl_BW_good rl_Ns_nw (by exact hB.2.2.2.2.2) YX7_neededNodes IX7_neededNodes VX7_neededNodes (mX7_117 hC) (by rw [hB.1]; exact cd_X7_neededNodes l D ids H0 _ _ x L s c j (fun k => semc s c k = none → semc s c j = none) hk hj id (fun t ht hQt i hi hp hn => hQt (sem_none _ _ _ _ (hd.2.1 t (by omega)) (by omega) hi hp hn))) (by exact c1) rfl rfl (Nat.le_of_ble_eq_true rfl) (by rw [hB.2.1]; first | exact Nat.le_of_ble_eq_true rfl | (dsimp only; omega)) (by rw [hB.2.1]; first | exact Nat.le_of_ble_eq_true rfl | (dsimp only; omega)) (by rw [hB.2.1]; first | exact Nat.le_of_ble_eq_true rfl | (dsimp only; omega)) (by rw [hB.2.1]; first | exact Nat.le_of_ble_eq_true rfl | (dsimp only; omega)) dX7_run_12 (fun v h_12 n_12 p_12 => ?_)
    obtain ⟨b, rfl, rfl, rfl, hbj, hp, hq9⟩ := p_12
    try dsimp only [Option.toList, List.cons_append, List.nil_append]
    refine o_lstore_n hC dX7_run_15 (Nat.le_of_ble_eq_true rfl) ?_
    refine o_iconst (v := nI 0) hC dX7_run_16 (by decide +kernel) ?_
    refine o_istore hC dX7_run_17 (Nat.le_of_ble_eq_true rfl) ?_
    have loop : ∀ (m t : Nat) (h1 : rl_H) (N1 : Nat → Nat → Int32) (o5 o6 o7 o8 : Option Value), t + m = j + 1 → cl_ok ids h1 n_12 x L s (c.1, c.2.1, c.2.2.1, N1, c.2.2.2.2.1, c.2.2.2.2.2) → (∀ k f : Nat, f < 8 → N1 k f = c.2.2.2.1 k f) → (∀ k : Nat, k < t → nb b k → N1 k 8 = nI 1) → cl_fr h_12 h1 x L → cl_dp ids h1 s (c.1, c.2.1, c.2.2.1, N1, c.2.2.2.2.1, c.2.2.2.2.2) → (∀ k : Nat, c.2.2.2.1 k 8 ≠ nI 0 → N1 k 8 = c.2.2.2.1 k 8) → rl_G X (rl_e D ids H0) 19 [some (.ref x), some (.int (nI j)), some (.long b), none, some (.int (nI t)), o5, o6, o7, o8] [] h1 n_12 0 0 := by
      intro m
      induction m with
      | zero =>
        intro t h1 N1 o5 o6 o7 o8 hm hk1 hN hst hfr hd1 hkp
        obtain ⟨k1, k2, k3, k4, k5, k6, k7⟩ := id hk1
        obtain ⟨c1, c2, ⟨gp, c3⟩, ⟨pn, c4, c5⟩, ⟨pt, c6, c7⟩, c8, c9, c10, c11, c12, c13, c14, c15⟩ := id k1
        have es : ∀ k : Nat, semc s (c.1, c.2.1, c.2.2.1, N1, c.2.2.2.2.1, c.2.2.2.2.2) k = semc s c k := fun k => sem_eq _ _ _ _ (fun i _ f hf => hN i f hf)
        rcases hd1.2.2 j (show j < c.2.2.1 by omega) with g | ⟨-, tab, w, g1, g2, ⟨P, S, ⟨t1, -⟩, -⟩, g4⟩ | ⟨g, -⟩
        · exact absurd ((hst j (by omega) hbj).symm.trans g) (by decide +kernel)
        rotate_left
        · exact absurd ((hst j (by omega) hbj).symm.trans g) (by decide +kernel)
        have t1 : h1 (c.1 j + 1) = some (.inr (4, [.ref (c.1 j + 1 + 1), .int (nI tab.length), .int (nI w)])) := t1
        have y0 : x + 70 ≤ c.1 j := c14 j (show j < c.2.1 by omega)
        refine o_iload hC dX7_run_19 (by rfl) ?_
        refine o_iload_n hC dX7_run_21 (by rfl) ?_
        refine o_icmp_gt (tgt := 147) hC dX7_run_22 (by decide) (fun c_22 => ?_) (fun c_22 => ?_)
        · refine o_aload_n hC dX7_run_147 (by rfl) ?_
          refine o_iload_n hC dX7_run_148 (by rfl) ?_
          refine o_putf hC (fX7_49 hC rfl) (fwX7 rfl rfl rfl (Or.inl rfl)) dX7_run_149 (by repeat (first | with_reducible assumption | (rw [rl_u_s]; done) | (rw [rl_u_s]; rfl) | rw [rl_u_n (by first | with_reducible assumption | omega)])) (Nat.le_of_ble_eq_true rfl) ?_
          try simp only [List.set_cons_zero, List.set_cons_succ]
          refine o_aload_n hC dX7_run_152 (by rfl) ?_
          refine o_getf hC (fX7_31 hC rfl) dX7_run_153 (by repeat (first | with_reducible assumption | (rw [rl_u_s]; done) | (rw [rl_u_s]; rfl) | rw [rl_u_n (by first | with_reducible assumption | omega)])) (by first | rfl | with_reducible assumption) ?_
          refine o_iload_n hC dX7_run_156 (by rfl) ?_
          refine o_aaldN (t0 := 6) (k := j) hC rfl dX7_run_157 ((rl_u_n (by omega)).trans c6) (by omega) (by decide) ?_
          rw [c7 _ (by omega), if_pos (show j < c.2.1 by omega)]
          show rl_G X _ _ _ (.ref (c.1 j + 1) :: _) _ _ _ _
          refine o_getf hC (fX7_138 hC rfl) dX7_run_158 (by repeat (first | with_reducible assumption | (rw [rl_u_s]; done) | (rw [rl_u_s]; rfl) | rw [rl_u_n (by first | with_reducible assumption | omega)])) (by first | rfl | with_reducible assumption) ?_
          refine o_iret hC hB dX7_run_161 (Nat.le_of_ble_eq_true rfl) (Nat.le_of_ble_eq_true rfl) ?_
          have gj : N1 j 8 = nI 1 := hst j (by omega) hbj
          refine ⟨_, N1, nI j, rfl, rfl, hk1.rs (nI j) _, hN, fun q a b => (rl_u_n (by omega)).trans (hfr q a b), ?_, hkp, Or.inr ⟨j, hj, rfl, Or.inr ⟨tab, (es j).symm.trans g2, rfl, rfl, gj⟩⟩⟩
          refine cl_dp.eqv (hd1.rp (nI j) c.2.2.2.2.2) c10 (fun k hk q a b => rl_u_n ?_)
          have a : c.1 k + 1 ≤ q := a
          have := c14 k hk
          have : x + 70 ≤ c.1 k := this
          omega
        · exact absurd (nI_lt (by omega) (by omega)) c_22
      | succ m ih =>
        intro t h1 N1 o5 o6 o7 o8 hm hk1 hN hst hfr hd1 hkp
        obtain ⟨k1, k2, k3, k4, k5, k6, k7⟩ := id hk1
        obtain ⟨c1, c2, ⟨gp, c3⟩, ⟨pn, c4, c5⟩, ⟨pt, c6, c7⟩, c8, c9, c10, c11, c12, c13, c14, c15⟩ := id k1
        have es : ∀ k : Nat, semc s (c.1, c.2.1, c.2.2.1, N1, c.2.2.2.2.1, c.2.2.2.2.2) k = semc s c k := fun k => sem_eq _ _ _ _ (fun i _ f hf => hN i f hf)
        have m1 : h1 (c.1 t) = some (cl_nd N1 t) := c12 t (show t < c.2.1 by omega)
        unfold cl_nd at m1
        refine o_iload hC dX7_run_19 (by rfl) ?_
        refine o_iload_n hC dX7_run_21 (by rfl) ?_
        refine o_icmp_gt (tgt := 147) hC dX7_run_22 (by decide) (fun c_22 => ?_) (fun c_22 => ?_)
        · exact absurd c_22 (nI_nlt (by omega) (by omega))
        · refine o_aload_n hC dX7_run_25 (by rfl) ?_
          refine o_getf hC (fX7_25 hC rfl) dX7_run_26 (by repeat (first | with_reducible assumption | (rw [rl_u_s]; done) | (rw [rl_u_s]; rfl) | rw [rl_u_n (by first | with_reducible assumption | omega)])) (by first | rfl | with_reducible assumption) ?_
          refine o_iload hC dX7_run_29 (by rfl) ?_
          refine o_aaldN (t0 := 5) (k := t) hC rfl dX7_run_31 c4 (by omega) (by decide) ?_
          rw [c5 _ (by omega), if_pos (show t < c.2.1 by omega)]
          show rl_G X _ _ _ (.ref (c.1 t) :: _) _ _ _ _
          refine o_astore hC dX7_run_32 (Nat.le_of_ble_eq_true rfl) ?_
          refine o_lload_n hC dX7_run_34 (by rfl) ?_
          refine o_iload hC dX7_run_35 (by rfl) ?_
          refine o_lshr hC dX7_run_37 ?_
          refine o_lconst (v := 1) hC dX7_run_38 (by decide +kernel) ?_
          refine o_land hC dX7_run_39 ?_
          refine o_lconst (v := 0) hC dX7_run_40 (by decide +kernel) ?_
          refine o_lcmp hC dX7_run_41 ?_
          refine o_if_eq (tgt := 49) hC dX7_run_42 (by decide) (fun c_42 => ?_) (fun c_42 => ?_)
          · refine o_iconst (v := nI 0) hC dX7_run_49 (by decide +kernel) ?_
            refine o_istore hC dX7_run_50 (Nat.le_of_ble_eq_true rfl) ?_
            refine o_iload hC dX7_run_52 (by rfl) ?_
            refine o_if_eq (tgt := 124) hC dX7_run_54 (by decide) (fun _ => ?_) (fun q => absurd rfl q)
            refine o_iload hC dX7_run_124 (by rfl) ?_
            refine o_if_eq (tgt := 141) hC dX7_run_126 (by decide) (fun _ => ?_) (fun q => absurd rfl q)
            refine o_iinc hC dX7_run_141 (by rfl) (rl_inc _) (Nat.le_of_ble_eq_true rfl) ?_
            refine o_goto (tgt := 19) hC dX7_run_144 (by decide) ?_
            refine ih (t + 1) _ N1 _ _ _ _ (by omega) hk1 hN (fun k hk hb => ?_) hfr hd1 hkp
            by_cases e : k = t
            · subst e
              exact absurd c_42 hb
            · exact hst k (by omega) hb
          · refine o_iconst (v := nI 1) hC dX7_run_45 (by decide +kernel) ?_
            refine o_goto (tgt := 50) hC dX7_run_46 (by decide) ?_
            refine o_istore hC dX7_run_50 (Nat.le_of_ble_eq_true rfl) ?_
            refine o_iload hC dX7_run_52 (by rfl) ?_
            refine o_if_eq (tgt := 124) hC dX7_run_54 (by decide) (fun q => absurd q (by decide +kernel)) (fun c_54 => ?_)
            refine o_aload hC dX7_run_57 (by rfl) ?_
            refine o_getf hC (fX7_121 hC rfl) dX7_run_59 (by repeat (first | with_reducible assumption | (rw [rl_u_s]; done) | (rw [rl_u_s]; rfl) | rw [rl_u_n (by first | with_reducible assumption | omega)])) (by first | rfl | with_reducible assumption) ?_
            refine o_if_ne (tgt := 124) hC dX7_run_62 (by decide) (fun c_62 => ?_) (fun c_62 => ?_)
            · refine o_iload hC dX7_run_124 (by rfl) ?_
              refine o_if_eq (tgt := 141) hC dX7_run_126 (by decide) (fun q => absurd q (by decide +kernel)) (fun c_126 => ?_)
              refine o_aload hC dX7_run_129 (by rfl) ?_
              refine o_getf hC (fX7_121 hC rfl) dX7_run_131 (by repeat (first | with_reducible assumption | (rw [rl_u_s]; done) | (rw [rl_u_s]; rfl) | rw [rl_u_n (by first | with_reducible assumption | omega)])) (by first | rfl | with_reducible assumption) ?_
              refine o_iconst (v := nI 2) hC dX7_run_134 (by decide +kernel) ?_
              refine o_icmp_ne (tgt := 141) hC dX7_run_135 (by decide) (fun c_135 => ?_) (fun c_135 => ?_)
              · refine o_iinc hC dX7_run_141 (by rfl) (rl_inc _) (Nat.le_of_ble_eq_true rfl) ?_
                refine o_goto (tgt := 19) hC dX7_run_144 (by decide) ?_
                have gv := hd1.2.2 t (show t < c.2.2.1 by omega)
                refine ih (t + 1) _ N1 _ _ _ _ (by omega) hk1 hN (fun k hk hb => ?_) hfr hd1 hkp
                by_cases e : k = t
                · subst e
                  rcases gv with g | ⟨g, -⟩ | ⟨g, -⟩
                  · exact absurd g c_62
                  · exact g
                  · exact absurd g c_135
                · exact hst k (by omega) hb
              · refine o_bipush (v := (-4 : Int32)) hC dX7_run_138 (by decide +kernel) ?_
                refine o_iret hC hB dX7_run_140 (Nat.le_of_ble_eq_true rfl) (Nat.le_of_ble_eq_true rfl) ?_
                have gv := hd1.2.2 t (show t < c.2.2.1 by omega)
                have gn : semc s c t = none := by
                  rcases gv with g | ⟨g, -⟩ | ⟨-, g⟩
                  · exact absurd g c_62
                  · exact absurd (g.symm.trans (by first | exact c_135 | exact Classical.not_not.mp c_135)) (by decide +kernel)
                  · exact (es t).symm.trans g
                exact ⟨_, N1, _, rfl, rfl, hk1, hN, hfr, hd1, hkp, Or.inr ⟨j, hj, rfl, Or.inl ⟨hq9 t (by omega) c_42 gn, rfl, rfl⟩⟩⟩
            · obtain ⟨op, w, w1, w2, a1, a2, a4, a5, a6, a8, a9⟩ := hd1.2.1 t (show t < c.2.2.1 by omega)
              have a1 : N1 t 0 = nI op := a1
              have a2 : N1 t 1 = nI w := a2
              have a4 : nd_f op w (N1 t 4) (N1 t 5) (N1 t 6) (N1 t 7) w1 w2 := a4
              have a8 : op = 0 → N1 t 2 = -1 := a8
              have a9 : is2 op = false → N1 t 3 = -1 := a9
              have cl1 := hp t (by omega) c_42
              have y0 : x + 70 ≤ c.1 t := c14 t (show t < c.2.1 by omega)
              have op6 := a4.1
              have w6 := a4.2.2.1
              refine o_aload_n hC dX7_run_65 (by rfl) ?_
              refine o_aload hC dX7_run_66 (by rfl) ?_
              refine o_getf hC (fX7_124 hC rfl) dX7_run_68 (by repeat (first | with_reducible assumption | (rw [rl_u_s]; done) | (rw [rl_u_s]; rfl) | rw [rl_u_n (by first | with_reducible assumption | omega)])) (by first | rfl | with_reducible assumption) ?_
              refine o_callV1 hC rl_BW_good rl_Ns_nw (by exact hB.2.2.2.2.2) YX7_tableOf IX7_tableOf VX7_tableOf (mX7_127 hC) (by rw [hB.1]; exact cg_X7_tableOf l D ids H0 _ _ x s (c.1, c.2.1, c.2.2.1, N1, c.2.2.2.2.1, c.2.2.2.2.2) _ k1) (by exact c1) rfl rfl (Nat.le_of_ble_eq_true rfl) (by rw [hB.2.1]; first | exact Nat.le_of_ble_eq_true rfl | (dsimp only; omega)) (by rw [hB.2.1]; first | exact Nat.le_of_ble_eq_true rfl | (dsimp only; omega)) (by rw [hB.2.1]; first | exact Nat.le_of_ble_eq_true rfl | (dsimp only; omega)) (by rw [hB.2.1]; first | exact Nat.le_of_ble_eq_true rfl | (dsimp only; omega)) dX7_run_71 (fun v h_71 n_71 p_71 => ?_)
              obtain ⟨z71, rfl, rfl, rfl, hz71⟩ := p_71
              try dsimp only [Option.toList, List.cons_append, List.nil_append]
              refine o_astore hC dX7_run_74 (Nat.le_of_ble_eq_true rfl) ?_
              refine o_aload_n hC dX7_run_76 (by rfl) ?_
              refine o_aload hC dX7_run_77 (by rfl) ?_
              refine o_getf hC (fX7_131 hC rfl) dX7_run_79 (by repeat (first | with_reducible assumption | (rw [rl_u_s]; done) | (rw [rl_u_s]; rfl) | rw [rl_u_n (by first | with_reducible assumption | omega)])) (by first | rfl | with_reducible assumption) ?_
              refine o_callV1 hC rl_BW_good rl_Ns_nw (by exact hB.2.2.2.2.2) YX7_tableOf IX7_tableOf VX7_tableOf (mX7_127 hC) (by rw [hB.1]; exact cg_X7_tableOf l D ids H0 _ _ x s (c.1, c.2.1, c.2.2.1, N1, c.2.2.2.2.1, c.2.2.2.2.2) _ k1) (by exact c1) rfl rfl (Nat.le_of_ble_eq_true rfl) (by rw [hB.2.1]; first | exact Nat.le_of_ble_eq_true rfl | (dsimp only; omega)) (by rw [hB.2.1]; first | exact Nat.le_of_ble_eq_true rfl | (dsimp only; omega)) (by rw [hB.2.1]; first | exact Nat.le_of_ble_eq_true rfl | (dsimp only; omega)) (by rw [hB.2.1]; first | exact Nat.le_of_ble_eq_true rfl | (dsimp only; omega)) dX7_run_82 (fun v h_82 n_82 p_82 => ?_)
              obtain ⟨z82, rfl, rfl, rfl, hz82⟩ := p_82
              try dsimp only [Option.toList, List.cons_append, List.nil_append]
              refine o_astore hC dX7_run_85 (Nat.le_of_ble_eq_true rfl) ?_
              have A1 : ∃ T1 : List arow, ((1 ≤ op) → (ctb ids h_82 z71 w1 T1 ∧ aok w1 T1 ∧ (x + 41 + 22 ≤ z71 ∨ z71 + 402 ≤ x + 41) ∧ (z71 + 402 ≤ c.1 t + 1 ∨ c.1 t + 1 + 402 ≤ z71)) ∧ ∃ i : Nat, i < t ∧ N1 t 2 = nI i ∧ semc s (c.1, c.2.1, c.2.2.1, N1, c.2.2.2.2.1, c.2.2.2.2.2) i = some T1) ∧ (¬ (1 ≤ op) → T1 = []) := by
                by_cases q : (1 ≤ op)
                · obtain ⟨i, i1, i2, i3⟩ := a5 q
                  have i2 : N1 t 2 = nI i := i2
                  have i3 : N1 i 1 = nI w1 := i3
                  have i4 := hst i i1 (cl1 i i1 (Or.inl ((hN t 2 (by decide)).symm.trans i2)))
                  rcases hz71 with ⟨-, u⟩ | ⟨i5, u1, u2, rfl⟩
                  · exact absurd ⟨i, show i < c.2.2.1 by omega, i2⟩ u
                  · have u1 : i5 < c.2.2.1 := u1
                    have := nI_inj2 (by omega) (by omega) (i2.symm.trans u2)
                    subst this
                    rcases hd1.2.2 i u1 with g | ⟨g, tab, w', g1, g2, g3, g4⟩ | ⟨g, -⟩
                    · exact absurd (i4.symm.trans g) (by decide +kernel)
                    · have g1 : N1 i 1 = nI w' := g1
                      obtain ⟨op', w9, w8, w7, b1, b2, b3, -⟩ := hd1.2.1 i u1
                      have b2 : N1 i 1 = nI w9 := b2
                      have w96 := b3.2.2.1
                      have e9 := nI_inj2 (by have := (a4.2.2.2.1); have := a4.2.2.2.2.1; omega) (by omega) (i3.symm.trans b2)
                      have e8 : w' = w9 := by
                        have t7 : w' ≤ 6 := by
                          obtain ⟨P9, S9, t9, -⟩ := g3
                          exact t9.2.2.2.2.2
                        exact nI_inj2 (by omega) (by omega) (g1.symm.trans b2)
                      subst e8
                      subst e9
                      have y1 : c.1 i + 403 ≤ c.1 t := c15 i t i1 (show t < c.2.1 by omega)
                      have y2 : x + 70 ≤ c.1 i := c14 i (show i < c.2.1 by omega)
                      exact ⟨tab, fun _ => ⟨⟨g3, g4, Or.inl (show x + 41 + 22 ≤ c.1 i + 1 by omega), Or.inl (show c.1 i + 1 + 402 ≤ c.1 t + 1 by omega)⟩, i, i1, i2, g2⟩, fun u => absurd q u⟩
                    · exact absurd (i4.symm.trans g) (by decide +kernel)
                · exact ⟨[], fun u => absurd u q, fun _ => rfl⟩
              have A2 : ∃ T2 : List arow, ((is2 op = true) → (ctb ids h_82 z82 w2 T2 ∧ aok w2 T2 ∧ (x + 41 + 22 ≤ z82 ∨ z82 + 402 ≤ x + 41) ∧ (z82 + 402 ≤ c.1 t + 1 ∨ c.1 t + 1 + 402 ≤ z82)) ∧ ∃ i : Nat, i < t ∧ N1 t 3 = nI i ∧ semc s (c.1, c.2.1, c.2.2.1, N1, c.2.2.2.2.1, c.2.2.2.2.2) i = some T2) ∧ (¬ (is2 op = true) → T2 = []) := by
                by_cases q : (is2 op = true)
                · obtain ⟨i, i1, i2, i3⟩ := a6 q
                  have i2 : N1 t 3 = nI i := i2
                  have i3 : N1 i 1 = nI w2 := i3
                  have i4 := hst i i1 (cl1 i i1 (Or.inr ((hN t 3 (by decide)).symm.trans i2)))
                  rcases hz82 with ⟨-, u⟩ | ⟨i5, u1, u2, rfl⟩
                  · exact absurd ⟨i, show i < c.2.2.1 by omega, i2⟩ u
                  · have u1 : i5 < c.2.2.1 := u1
                    have := nI_inj2 (by omega) (by omega) (i2.symm.trans u2)
                    subst this
                    rcases hd1.2.2 i u1 with g | ⟨g, tab, w', g1, g2, g3, g4⟩ | ⟨g, -⟩
                    · exact absurd (i4.symm.trans g) (by decide +kernel)
                    · have g1 : N1 i 1 = nI w' := g1
                      obtain ⟨op', w9, w8, w7, b1, b2, b3, -⟩ := hd1.2.1 i u1
                      have b2 : N1 i 1 = nI w9 := b2
                      have w96 := b3.2.2.1
                      have e9 := nI_inj2 (by have := (a4.2.2.2.1); have := a4.2.2.2.2.1; omega) (by omega) (i3.symm.trans b2)
                      have e8 : w' = w9 := by
                        have t7 : w' ≤ 6 := by
                          obtain ⟨P9, S9, t9, -⟩ := g3
                          exact t9.2.2.2.2.2
                        exact nI_inj2 (by omega) (by omega) (g1.symm.trans b2)
                      subst e8
                      subst e9
                      have y1 : c.1 i + 403 ≤ c.1 t := c15 i t i1 (show t < c.2.1 by omega)
                      have y2 : x + 70 ≤ c.1 i := c14 i (show i < c.2.1 by omega)
                      exact ⟨tab, fun _ => ⟨⟨g3, g4, Or.inl (show x + 41 + 22 ≤ c.1 i + 1 by omega), Or.inl (show c.1 i + 1 + 402 ≤ c.1 t + 1 by omega)⟩, i, i1, i2, g2⟩, fun u => absurd q u⟩
                    · exact absurd (i4.symm.trans g) (by decide +kernel)
                · exact ⟨[], fun u => absurd u q, fun _ => rfl⟩
              obtain ⟨T1, B1, E1⟩ := A1
              obtain ⟨T2, B2, E2⟩ := A2
              obtain ⟨wd0, ht0⟩ := hd1.1 t (show t < c.2.1 by omega)
              have esv : semc s (c.1, c.2.1, c.2.2.1, N1, c.2.2.2.2.1, c.2.2.2.2.2) t = nfn s.2.1 s.2.2.1 s.2.2.2.2 op w (N1 t 4) (N1 t 5) (N1 t 6) (N1 t 7) T1 T2 := sem_val _ _ _ _ a1 a2 op6 w6 (by omega) (fun q => (B1 q).2) (fun q => (B2 q).2) (fun q => E1 (by omega)) (fun q => E2 (by rw [q]; decide))
              have B3 : op = 3 ∨ op = 4 ∨ op = 5 → ctb ids h_82 z82 w2 T2 ∧ aok w2 T2 ∧ (x + 41 + 22 ≤ z82 ∨ z82 + 402 ≤ x + 41) ∧ (z82 + 402 ≤ c.1 t + 1 ∨ c.1 t + 1 + 402 ≤ z82) := fun q => (B2 (decide_eq_true q)).1
              have m2 := m1
              rw [a1, a2] at m2
              refine o_aload hC dX7_run_87 (by rfl) ?_
              refine o_aload_n hC dX7_run_89 (by rfl) ?_
              refine o_getf hC (fX7_19 hC rfl) dX7_run_90 (by repeat (first | with_reducible assumption | (rw [rl_u_s]; done) | (rw [rl_u_s]; rfl) | rw [rl_u_n (by first | with_reducible assumption | omega)])) (by first | rfl | with_reducible assumption) ?_
              refine o_aload hC dX7_run_93 (by rfl) ?_
              refine o_aload_n hC dX7_run_95 (by rfl) ?_
              refine o_getf hC (fX7_10 hC rfl) dX7_run_96 (by repeat (first | with_reducible assumption | (rw [rl_u_s]; done) | (rw [rl_u_s]; rfl) | rw [rl_u_n (by first | with_reducible assumption | omega)])) (by first | rfl | with_reducible assumption) ?_
              refine o_aload hC dX7_run_99 (by rfl) ?_
              refine o_aload hC dX7_run_101 (by rfl) ?_
              refine o_aload_n hC dX7_run_103 (by rfl) ?_
              refine o_getf hC (fX7_31 hC rfl) dX7_run_104 (by repeat (first | with_reducible assumption | (rw [rl_u_s]; done) | (rw [rl_u_s]; rfl) | rw [rl_u_n (by first | with_reducible assumption | omega)])) (by first | rfl | with_reducible assumption) ?_
              refine o_iload hC dX7_run_107 (by rfl) ?_
              refine o_aaldN (t0 := 6) (k := t) hC rfl dX7_run_109 c6 (by omega) (by decide) ?_
              rw [c7 _ (by omega), if_pos (show t < c.2.1 by omega)]
              show rl_G X _ _ _ (.ref (c.1 t + 1) :: _) _ _ _ _
              refine o_callV5 hC rl_BW_good rl_Ns_nw (by exact hB.2.2.2.2.2) YX2_fill IX2_fill VX2_fill (mX7_134 hC) (by rw [hB.1]; exact cp_X2_fill l D ids H0 _ _ (x + 41) (x + 1) (c.1 t + 1) w wd0 op (c.1 t) z71 z82 w1 w2 _ _ gp T1 T2 _ _ _ _ _ _ _ _ _ _ c3 ht0 c2 m2 a4 (by omega) (by omega) (by omega) (by omega) (by omega) (fun q => (B1 q).1) B3) (by exact c3.1) rfl rfl (Nat.le_of_ble_eq_true rfl) (by rw [hB.2.1]; first | exact Nat.le_of_ble_eq_true rfl | (dsimp only; omega)) (by rw [hB.2.1]; first | exact Nat.le_of_ble_eq_true rfl | (dsimp only; omega)) (by rw [hB.2.1]; first | exact Nat.le_of_ble_eq_true rfl | (dsimp only; omega)) (by rw [hB.2.1]; first | exact Nat.le_of_ble_eq_true rfl | (dsimp only; omega)) dX7_run_110 (fun v h_110 n_110 p_110 => ?_)
              obtain ⟨xr, rfl, rfl, q1, q3, q2⟩ := p_110
              have m3 := (q3 (c.1 t) (by omega) (by omega)).trans m1
              rw [← esv] at q2
              have q2k : tb_ok ids h_110 (c.1 t + 1) w := by
                rcases q2 with ⟨tab9, -, -, p3, -⟩ | ⟨-, -, p3⟩
                · exact p3.ok
                · exact p3.ok
              try dsimp only [Option.toList, List.cons_append, List.nil_append]
              refine o_if_eq (tgt := 120) hC dX7_run_113 (by decide) (fun c_113 => ?_) (fun c_113 => ?_)
              · refine o_iconst (v := nI 2) hC dX7_run_120 (by decide +kernel) ?_
                have xr0 : xr = nI 0 := c_113
                refine o_putf hC (fX7_121 hC rfl) (fwX1 rfl rfl rfl (Or.inl rfl)) dX7_run_121 (by exact m3) (Nat.le_of_ble_eq_true rfl) ?_
                try simp only [List.set_cons_zero, List.set_cons_succ]
                obtain ⟨f1, f2⟩ := hk1.fl (t := t) (w := w) (show t < c.2.2.1 by omega) a2 w6 q1 q2k q3 (nI 2)
                have f3 := hd1.fl (t := t) (w := w) (v := nI 2) k1 (show t < c.2.2.1 by omega) a2 q3 (fun q hq => rl_u_n (h := h_110) (a := c.1 t) (e := cl_nd (cl_st N1 t (nI 2)) t) hq) rfl q2 (Or.inr ⟨xr0, rfl⟩)
                rw [cl_nd_st] at f1 f2 f3
                refine o_iload hC dX7_run_124 (by rfl) ?_
                refine o_if_eq (tgt := 141) hC dX7_run_126 (by decide) (fun q => absurd q (by decide +kernel)) (fun c_126 => ?_)
                refine o_aload hC dX7_run_129 (by rfl) ?_
                refine o_getf hC (fX7_121 hC rfl) dX7_run_131 (by repeat (first | with_reducible assumption | (rw [rl_u_s]; done) | (rw [rl_u_s]; rfl) | rw [rl_u_n (by first | with_reducible assumption | omega)])) (by first | rfl | with_reducible assumption) ?_
                refine o_iconst (v := nI 2) hC dX7_run_134 (by decide +kernel) ?_
                refine o_icmp_ne (tgt := 141) hC dX7_run_135 (by decide) (fun q => absurd rfl q) (fun _ => ?_)
                refine o_bipush (v := (-4 : Int32)) hC dX7_run_138 (by decide +kernel) ?_
                refine o_iret hC hB dX7_run_140 (Nat.le_of_ble_eq_true rfl) (Nat.le_of_ble_eq_true rfl) ?_
                have kp : ∀ k : Nat, c.2.2.2.1 k 8 ≠ nI 0 → cl_st N1 t (nI 2) k 8 = c.2.2.2.1 k 8 := fun k hk0 => by
                  by_cases e : k = t
                  · subst e
                    exact absurd ((hkp k hk0).symm.trans c_62) hk0
                  · exact (if_neg (fun w => e w.1)).trans (hkp k hk0)
                have gn : semc s c t = none := by
                  rcases q2 with ⟨tab9, -, e, -, -⟩ | ⟨e, -, -⟩
                  · exact absurd (xr0.symm.trans e) (by decide +kernel)
                  · exact (es t).symm.trans e
                exact ⟨_, cl_st N1 t (nI 2), _, rfl, rfl, f1, fun k f hf => (cl_st_8 hf).trans (hN k f hf), hfr.tr f2, f3, kp, Or.inr ⟨j, hj, rfl, Or.inl ⟨hq9 t (by omega) c_42 gn, rfl, rfl⟩⟩⟩
              · refine o_iconst (v := nI 1) hC dX7_run_116 (by decide +kernel) ?_
                refine o_goto (tgt := 121) hC dX7_run_117 (by decide) ?_
                have xr1 : xr = nI 1 := by
                  rcases q2 with ⟨tab9, -, e, -, -⟩ | ⟨-, e, -⟩
                  · exact e
                  · exact absurd e c_113
                refine o_putf hC (fX7_121 hC rfl) (fwX1 rfl rfl rfl (Or.inl rfl)) dX7_run_121 (by exact m3) (Nat.le_of_ble_eq_true rfl) ?_
                try simp only [List.set_cons_zero, List.set_cons_succ]
                obtain ⟨f1, f2⟩ := hk1.fl (t := t) (w := w) (show t < c.2.2.1 by omega) a2 w6 q1 q2k q3 (nI 1)
                have f3 := hd1.fl (t := t) (w := w) (v := nI 1) k1 (show t < c.2.2.1 by omega) a2 q3 (fun q hq => rl_u_n (h := h_110) (a := c.1 t) (e := cl_nd (cl_st N1 t (nI 1)) t) hq) rfl q2 (Or.inl ⟨xr1, rfl⟩)
                rw [cl_nd_st] at f1 f2 f3
                refine o_iload hC dX7_run_124 (by rfl) ?_
                refine o_if_eq (tgt := 141) hC dX7_run_126 (by decide) (fun q => absurd q (by decide +kernel)) (fun c_126 => ?_)
                refine o_aload hC dX7_run_129 (by rfl) ?_
                refine o_getf hC (fX7_121 hC rfl) dX7_run_131 (by repeat (first | with_reducible assumption | (rw [rl_u_s]; done) | (rw [rl_u_s]; rfl) | rw [rl_u_n (by first | with_reducible assumption | omega)])) (by first | rfl | with_reducible assumption) ?_
                refine o_iconst (v := nI 2) hC dX7_run_134 (by decide +kernel) ?_
                refine o_icmp_ne (tgt := 141) hC dX7_run_135 (by decide) (fun _ => ?_) (fun q => absurd (by first | exact q | exact Classical.not_not.mp q) (by decide +kernel))
                refine o_iinc hC dX7_run_141 (by rfl) (rl_inc _) (Nat.le_of_ble_eq_true rfl) ?_
                refine o_goto (tgt := 19) hC dX7_run_144 (by decide) ?_
                have kp : ∀ k : Nat, c.2.2.2.1 k 8 ≠ nI 0 → cl_st N1 t (nI 1) k 8 = c.2.2.2.1 k 8 := fun k hk0 => by
                  by_cases e : k = t
                  · subst e
                    exact absurd ((hkp k hk0).symm.trans c_62) hk0
                  · exact (if_neg (fun w => e w.1)).trans (hkp k hk0)
                refine ih (t + 1) _ (cl_st N1 t (nI 1)) _ _ _ _ (by omega) f1 (fun k f hf => (cl_st_8 hf).trans (hN k f hf)) (fun k hk hb => ?_) (hfr.tr f2) f3 kp
                by_cases e : k = t
                · subst e
                  exact if_pos ⟨rfl, rfl⟩
                · exact (if_neg (fun w => e w.1)).trans (hst k (by omega) hb)
    exact loop (j + 1) 0 _ c.2.2.2.1 _ _ _ _ (by omega) hk (fun _ _ _ => rfl) (fun k hk => absurd hk (by omega)) cl_fr.rf hd (fun _ _ => rfl)
  · refine o_iconst (v := (-1 : Int32)) hC dX7_run_8 (by decide +kernel) ?_
    refine o_iret hC hB dX7_run_9 (Nat.le_of_ble_eq_true rfl) (Nat.le_of_ble_eq_true rfl) ?_
    exact ⟨_, c.2.2.2.1, _, rfl, rfl, hk, fun _ _ _ => rfl, cl_fr.rf, hd, fun _ _ => rfl, Or.inl ⟨hz.elim (fun q => q.2) (fun q => absurd (c_5.symm.trans q.1) (by decide +kernel)), rfl, rfl⟩⟩
end
section
/-! THE MODEL, functionally: run -/
/-- node a as the model has it written down -/
def mnr (S : md_A) (N : Nat → Nat → Int32) (a : Nat) : Prop := S.2.2.2.1 a = N a 0 ∧ S.2.2.2.2.2.2.2.2.2.2 a = N a 1 ∧ mnd S a (iN (N a 0)) (N a 2) (N a 3) (N a 4) (N a 5) (N a 6) (N a 7)
/-- the model's sources and nodes beside the class's -/
def mrl (S : md_A) (sf : Nat → Int32) (cf : Nat → Nat → Int32) (N : Nat → Nat → Int32) (z : sh_S) : Prop := (∀ r : Nat, r < z.2.2.1 → S.2.1 r = sf r ∧ ∀ c : Nat, c < 4 → S.2.2.1 (4 * r + c) = cf r c) ∧ ∀ a : Nat, a < z.2.2.2.1 → cl_f N a ∧ mnr S N a
/-- the model's RESULT -/
def mrs (A : md_D) (T : md_T) (res : List arow) (rw : Nat) : Prop := mtb A 16 rw res ∧ aok rw res ∧ rw ≤ 6 ∧ (res ≠ [] → T.2.2.2.2.2.1 = nI rw)
theorem bl_1 : vp_nar .boolean (nI 1) = nI 1 := by decide +kernel
theorem bl_0 : vp_nar .boolean (nI 0) = nI 0 := by decide +kernel

set_option maxHeartbeats 4000000 in
set_option maxRecDepth 100000 in
theorem cf_X8_run (l : Launch) (D : va_G) (ids : Nat → ClassId) (H0 : Heap) (h : rl_H) (n : Nat) (m : Nat) (T : md_T) (fu : Int32) (k : Nat) (S : md_A) (z : sh_S) (A : md_D) (sf : Nat → Int32) (cf : Nat → Nat → Int32) (N : Nat → Nat → Int32) (res : List arow) (rw : Nat) (q : Int32) (hu : md_un ids h m T fu k S z) (hq : mf ids h h m T fu k A) (hl : mrl S sf cf N z) (hr : mrs A T res rw) : rl_Met l (rl_e D ids H0) rl_BW rl_Ns yX8_run cX8_run 4 (some .int) ({ frames := 7, cells := 0, slots := 0, locals := 178 }) [.ref m, .int q] h n (fun v h' n' => ∃ (r : Int32) (T' : md_T) (fu' : Int32) (k' : Nat) (A' : md_D) (res' : List arow) (rw' : Nat), v = some (.int r) ∧ n' = n ∧ mf ids h h' m T' fu' k' A' ∧ md_un ids h' m T' fu' k' S z ∧ mrs A' T' res' rw' ∧ ((¬ (∃ j : Nat, j < z.2.2.2.1 ∧ q = nI j) ∧ r = -1 ∧ res' = res ∧ rw' = rw) ∨ ∃ j : Nat, j < z.2.2.2.1 ∧ q = nI j ∧ ((sem sf cf z.2.2.1 N j = none ∧ r = -4 ∧ res' = res ∧ rw' = rw) ∨ ∃ tab : List arow, sem sf cf z.2.2.1 N j = some tab ∧ r = nI tab.length ∧ res' = tab ∧ N j 1 = nI rw'))) := by
  obtain ⟨-, hs, ⟨hsc, hsc4⟩, hwf, ⟨hrr, hr36⟩, ⟨hnc, hn16⟩, hnw, hpr, -, hwv, wrc, hrc6, hrc⟩ := id hu
  have hq0 := hq.ob (nI 0, T.2) fu k hq.1.2.1
  have g0 := hq.1.1
  have gk := hq.1.2.1
  refine rl_Met.of (by decide +kernel) (Nat.le_of_ble_eq_true rfl) ?_
  intro X hC hB
  show rl_G X (rl_e D ids H0) 0 [some (.ref m), some (.int q), none, none] [] h n 0 0
  refine o_aload_n hC dX8_run_0 (by rfl) ?_
  refine o_iconst (v := nI 0) hC dX8_run_1 (by decide +kernel) ?_
  refine o_putf hC (fX8_78 hC rfl) (fwX8 rfl rfl rfl (Or.inl rfl)) dX8_run_2 (by repeat (first | with_reducible assumption | (rw [rl_u_s]; done) | (rw [rl_u_s]; rfl) | rw [rl_u_n (by first | with_reducible assumption | omega)])) (Nat.le_of_ble_eq_true rfl) ?_
  try simp only [List.set_cons_zero, List.set_cons_succ]
  refine o_aload_n hC dX8_run_5 (by rfl) ?_
  refine o_iload_n hC dX8_run_6 (by rfl) ?_
  refine o_callV1 hC rl_BW_good rl_Ns_nw (by exact hB.2.2.2.2.2) YX8_isNode IX8_isNode VX8_isNode (mX8_126 hC) (by rw [hB.1]; exact ct_X8_isNode l D ids H0 _ _ m _ _ _ (by repeat (first | with_reducible assumption | (rw [rl_u_s]; done) | (rw [rl_u_s]; rfl) | rw [rl_u_n (by first | with_reducible assumption | omega)])) rfl) (by repeat (first | with_reducible assumption | (rw [rl_u_s]; done) | (rw [rl_u_s]; rfl) | rw [rl_u_n (by first | with_reducible assumption | omega)])) rfl rfl (Nat.le_of_ble_eq_true rfl) (by rw [hB.2.1]; first | exact Nat.le_of_ble_eq_true rfl | (dsimp only; omega)) (by rw [hB.2.1]; first | exact Nat.le_of_ble_eq_true rfl | (dsimp only; omega)) (by rw [hB.2.1]; first | exact Nat.le_of_ble_eq_true rfl | (dsimp only; omega)) (by rw [hB.2.1]; first | exact Nat.le_of_ble_eq_true rfl | (dsimp only; omega)) dX8_run_7 (fun v h_7 n_7 p_7 => ?_)
  obtain ⟨rfl, rfl, rfl⟩ := p_7
  try dsimp only [Option.toList, List.cons_append, List.nil_append]
  by_cases hr0 : q < 0 ∨ T.2.2.2.2.1 ≤ q
  · rw [if_pos hr0]
    refine o_if_ne (tgt := 15) hC dX8_run_10 (by decide) (fun c_10 => ?_) (fun c_10 => ?_)
    · exact absurd rfl c_10
    · refine o_iconst (v := (-1 : Int32)) hC dX8_run_13 (by decide +kernel) ?_
      refine o_iret hC hB dX8_run_14 (Nat.le_of_ble_eq_true rfl) (Nat.le_of_ble_eq_true rfl) ?_
      exact ⟨_, _, _, _, A, res, rw, rfl, rfl, hq0, hu.dp hq0.1 rfl rfl rfl rfl ⟨wrc, hrc6, hrc⟩, hr, Or.inl ⟨fun ⟨j, hj, e⟩ => hr0.elim (fun u => absurd u (by rw [e]; exact nI_pos (by omega))) (fun u => absurd u (by rw [hnc, e]; exact nI_ge hj (by omega))), rfl, rfl, rfl⟩⟩
  · rw [if_neg hr0]
    obtain ⟨j, hj, rfl⟩ := nI_of_lt (k := z.2.2.2.1) (by omega) (fun e => hr0 (Or.inl e)) (fun e => hr0 (Or.inr (by rw [hnc]; exact e)))
    have hnj := (hl.2 j hj).2.2.1
    refine o_if_ne (tgt := 15) hC dX8_run_10 (by decide) (fun c_10 => ?_) (fun c_10 => ?_)
    · refine o_aload_n hC dX8_run_15 (by rfl) ?_
      refine o_iconst (v := nI 0) hC dX8_run_16 (by decide +kernel) ?_
      refine o_putf hC (fX8_91 hC rfl) (fwX8 rfl rfl rfl (Or.inl rfl)) dX8_run_17 (by repeat (first | with_reducible assumption | (rw [rl_u_s]; done) | (rw [rl_u_s]; rfl) | rw [rl_u_n (by first | with_reducible assumption | omega)])) (Nat.le_of_ble_eq_true rfl) ?_
      try simp only [List.set_cons_zero, List.set_cons_succ]
      refine o_iconst (v := nI 0) hC dX8_run_20 (by decide +kernel) ?_
      refine o_istore_n hC dX8_run_21 (Nat.le_of_ble_eq_true rfl) ?_
      have loop4 : ∀ (w : Nat) (tab : List arow), w ≤ 6 → aok w tab → sem sf cf z.2.2.1 N j = some tab → N j 1 = nI w → ∀ (mm t : Nat) (h1 : rl_H) (f1 : Int32) (k1 : Nat) (A1 : md_D) (o3 : Option Value), t + mm = tab.length → mf ids h h1 m (nI 0, T.2.1, T.2.2.1, T.2.2.2.1, T.2.2.2.2.1, nI w, T.2.2.2.2.2.2) f1 k1 A1 → mtb A1 j w tab → A1.2.1 16 = nI tab.length → (∀ i : Nat, i < t → mrw A1 16 w i (ark tab i)) → rl_G X (rl_e D ids H0) 201 [some (.ref m), some (.int (nI j)), some (.int (nI t)), o3] [] h1 n_7 0 0 := by
        intro w tab hw6 hok hsem hNw mm
        have tl80 := hok.2.2
        induction mm with
        | zero =>
          intro t h1 f1 k1 A1 o3 hm hq1 hTj h16 hrow
          have hs1 := hq1.1.sa hs
          obtain ⟨hm0, g12, g13, g14, g15, g16, g17, g18, g19, g20, g21, g22⟩ := id hq1
          have g0 := hm0.1
          have gk := hm0.2.1
          obtain ⟨a1, a2, a3, a4, a5, a6, a7, a8, a9, a10, a11⟩ := id hs1
          refine o_iload_n hC dX8_run_201 (by rfl) ?_
          refine o_aload_n hC dX8_run_202 (by rfl) ?_
          refine o_getf hC (fX8_46 hC rfl) dX8_run_203 (by repeat (first | with_reducible assumption | (rw [rl_u_s]; done) | (rw [rl_u_s]; rfl) | rw [rl_u_n (by first | with_reducible assumption | omega)])) (by first | rfl | with_reducible assumption) ?_
          refine o_iload_n hC dX8_run_206 (by rfl) ?_
          refine o_ialdN (t0 := 0) (k := j) hC rfl dX8_run_207 (by repeat (first | with_reducible assumption | (rw [rl_u_s]; done) | (rw [rl_u_s]; rfl) | rw [rl_u_n (by first | with_reducible assumption | omega)])) (by omega) (by decide) ?_
          rw [hTj.1]
          refine o_icmp_ge (tgt := 268) hC dX8_run_208 (by decide) (fun c_208 => ?_) (fun c_208 => ?_)
          · refine o_aload_n hC dX8_run_268 (by rfl) ?_
            refine o_getf hC (fX8_46 hC rfl) dX8_run_269 (by repeat (first | with_reducible assumption | (rw [rl_u_s]; done) | (rw [rl_u_s]; rfl) | rw [rl_u_n (by first | with_reducible assumption | omega)])) (by first | rfl | with_reducible assumption) ?_
            refine o_iload_n hC dX8_run_272 (by rfl) ?_
            refine o_ialdN (t0 := 0) (k := j) hC rfl dX8_run_273 (by repeat (first | with_reducible assumption | (rw [rl_u_s]; done) | (rw [rl_u_s]; rfl) | rw [rl_u_n (by first | with_reducible assumption | omega)])) (by omega) (by decide) ?_
            rw [hTj.1]
            refine o_iret hC hB dX8_run_274 (Nat.le_of_ble_eq_true rfl) (Nat.le_of_ble_eq_true rfl) ?_
            exact ⟨_, _, _, _, A1, tab, w, rfl, rfl, hq1, hu.dp hq1.1 rfl rfl rfl rfl ⟨w, hw6, rfl⟩, ⟨⟨h16, fun i hi => hrow i (by omega)⟩, hok, hw6, fun _ => rfl⟩, Or.inr ⟨j, hj, rfl, Or.inr ⟨tab, hsem, rfl, rfl, hNw⟩⟩⟩
          · exact absurd (nI_le (by omega) (by omega)) c_208
        | succ mm ih =>
          intro t h1 f1 k1 A1 o3 hm hq1 hTj h16 hrow
          have hrt := hTj.2 t (by omega)
          have loop5 : ∀ (m2 c : Nat) (h2 : rl_H) (c2 : Nat → Int32), c + m2 = 6 → mf ids h h2 m (nI 0, T.2.1, T.2.2.1, T.2.2.2.1, T.2.2.2.2.1, nI w, T.2.2.2.2.2.2) f1 k1 (c2, A1.2.1, A1.2.2.1, A1.2.2.2.1, A1.2.2.2.2.1, A1.2.2.2.2.2.1, A1.2.2.2.2.2.2.1, A1.2.2.2.2.2.2.2.1, A1.2.2.2.2.2.2.2.2.1, A1.2.2.2.2.2.2.2.2.2.1, A1.2.2.2.2.2.2.2.2.2.2) → (∀ q : Nat, c2 q = if (1280 + t) * 6 ≤ q ∧ q < (1280 + t) * 6 + c then A1.1 ((80 * j + t) * 6 + (q - (1280 + t) * 6)) else A1.1 q) → rl_G X (rl_e D ids H0) 213 [some (.ref m), some (.int (nI j)), some (.int (nI t)), some (.int (nI c))] [] h2 n_7 0 0 := by
            intro m2
            induction m2 with
            | zero =>
              intro c h2 c2 hm2 hq2 hc2
              have ec : c = 6 := by omega
              subst ec
              obtain ⟨hm0, g12, g13, g14, g15, g16, g17, g18, g19, g20, g21, g22⟩ := id hq2
              have g0 := hm0.1
              have gk := hm0.2.1
              refine o_iload_n hC dX8_run_213 (by rfl) ?_
              refine o_bipush (v := nI 6) hC dX8_run_214 (by decide +kernel) ?_
              refine o_icmp_ge (tgt := 247) hC dX8_run_216 (by decide) (fun c_216 => ?_) (fun c_216 => ?_)
              · refine o_aload_n hC dX8_run_247 (by rfl) ?_
                refine o_sipush (v := nI 1280) hC dX8_run_248 (by decide +kernel) ?_
                refine o_iload_n hC dX8_run_251 (by rfl) ?_
                refine o_iadd hC dX8_run_252 ?_
                try rw [nI_add]
                refine o_bipush (v := nI 80) hC dX8_run_253 (by decide +kernel) ?_
                refine o_iload_n hC dX8_run_255 (by rfl) ?_
                refine o_imul hC dX8_run_256 ?_
                try rw [nI_mul]
                refine o_iload_n hC dX8_run_257 (by rfl) ?_
                refine o_iadd hC dX8_run_258 ?_
                try rw [nI_add]
                refine o_callV2 hC rl_BW_good rl_Ns_nw (by exact hB.2.2.2.2.2) YX8_copy IX8_copy VX8_copy (mX8_153 hC) (by rw [hB.1]; exact cf_X8_copy l D ids H0 _ _ m _ _ _ _ (1280 + t) (80 * j + t) (ark tab t).2 hq2.rf (by omega) (by omega) (by omega) hrt.2) (by exact hq2.1.1) rfl rfl (Nat.le_of_ble_eq_true rfl) (by rw [hB.2.1]; first | exact Nat.le_of_ble_eq_true rfl | (dsimp only; omega)) (by rw [hB.2.1]; first | exact Nat.le_of_ble_eq_true rfl | (dsimp only; omega)) (by rw [hB.2.1]; first | exact Nat.le_of_ble_eq_true rfl | (dsimp only; omega)) (by rw [hB.2.1]; first | exact Nat.le_of_ble_eq_true rfl | (dsimp only; omega)) dX8_run_259 (fun v h_259 n_259 p_259 => ?_)
                obtain ⟨A3, rfl, rfl, q259, r259, u259⟩ := p_259
                try dsimp only [Option.toList, List.cons_append, List.nil_append]
                refine o_iinc hC dX8_run_262 (by rfl) (rl_inc _) (Nat.le_of_ble_eq_true rfl) ?_
                refine o_goto (tgt := 201) hC dX8_run_265 (by decide) ?_
                have keep : ∀ (b i : Nat), b < 17 → i < 80 → (b = 16 → i ≠ t) → mrw A1 b w i (ark tab i) → mrw A3 b w i (ark tab i) := fun b i hb hi hbt H => by
                  refine H.of hw6 (fun q q1 q2 => ?_) (fun H => r259.ws (by omega) H)
                  rw [show A3.1 = c2 from r259.1, hc2 q]
                  exact if_neg (by omega)
                refine ih (t + 1) _ _ _ A3 _ (by omega) (hq2.tr q259) ⟨?_, fun i hi => keep j i (by omega) (by omega) (by omega) (hTj.2 i hi)⟩ ?_ (fun i hi => ?_)
                · rw [show A3.2.1 = A1.2.1 from r259.2.1]
                  exact hTj.1
                · rw [show A3.2.1 = A1.2.1 from r259.2.1]
                  exact h16
                · by_cases e : i = t
                  · subst e
                    refine ⟨?_, u259⟩
                    rw [← hrt.1]
                    refine rsg_eq (fun c _ hcw => ?_)
                    show A3.1 ((80 * 16 + i) * 6 + c) = A1.1 ((80 * j + i) * 6 + c)
                    rw [show A3.1 = c2 from r259.1, hc2, if_pos (by omega)]
                    exact congrArg A1.1 (by omega)
                  · exact keep 16 i (by omega) (by omega) (fun _ => e) (hrow i (by omega))
              · exact absurd (nI_le (by omega) (by omega)) c_216
            | succ m2 ih2 =>
              intro c h2 c2 hm2 hq2 hc2
              obtain ⟨hm0, g12, g13, g14, g15, g16, g17, g18, g19, g20, g21, g22⟩ := id hq2
              have g0 := hm0.1
              have gk := hm0.2.1
              refine o_iload_n hC dX8_run_213 (by rfl) ?_
              refine o_bipush (v := nI 6) hC dX8_run_214 (by decide +kernel) ?_
              refine o_icmp_ge (tgt := 247) hC dX8_run_216 (by decide) (fun c_216 => ?_) (fun c_216 => ?_)
              · exact absurd c_216 (nI_ge (by omega) (by omega))
              · refine o_aload_n hC dX8_run_219 (by rfl) ?_
                refine o_getf hC (fX8_43 hC rfl) dX8_run_220 (by repeat (first | with_reducible assumption | (rw [rl_u_s]; done) | (rw [rl_u_s]; rfl) | rw [rl_u_n (by first | with_reducible assumption | omega)])) (by first | rfl | with_reducible assumption) ?_
                refine o_sipush (v := nI 1280) hC dX8_run_223 (by decide +kernel) ?_
                refine o_iload_n hC dX8_run_226 (by rfl) ?_
                refine o_iadd hC dX8_run_227 ?_
                try rw [nI_add]
                refine o_bipush (v := nI 6) hC dX8_run_228 (by decide +kernel) ?_
                refine o_imul hC dX8_run_230 ?_
                try rw [nI_mul]
                refine o_iload_n hC dX8_run_231 (by rfl) ?_
                refine o_iadd hC dX8_run_232 ?_
                try rw [nI_add]
                refine o_aload_n hC dX8_run_233 (by rfl) ?_
                refine o_iload_n hC dX8_run_234 (by rfl) ?_
                refine o_iload_n hC dX8_run_235 (by rfl) ?_
                refine o_iload_n hC dX8_run_236 (by rfl) ?_
                refine o_callV3 hC rl_BW_good rl_Ns_nw (by exact hB.2.2.2.2.2) YX8_cellAt IX8_cellAt VX8_cellAt (mX8_138 hC) (by rw [hB.1]; exact cf_X8_cellAt l D ids H0 _ _ m _ _ _ _ j t c hq2.rf (by omega)) (by exact hq2.rf.1.1) rfl rfl (Nat.le_of_ble_eq_true rfl) (by rw [hB.2.1]; first | exact Nat.le_of_ble_eq_true rfl | (dsimp only; omega)) (by rw [hB.2.1]; first | exact Nat.le_of_ble_eq_true rfl | (dsimp only; omega)) (by rw [hB.2.1]; first | exact Nat.le_of_ble_eq_true rfl | (dsimp only; omega)) (by rw [hB.2.1]; first | exact Nat.le_of_ble_eq_true rfl | (dsimp only; omega)) dX8_run_237 (fun v h_237 n_237 p_237 => ?_)
                obtain ⟨rfl, rfl, rfl⟩ := p_237
                try dsimp only [Option.toList, List.cons_append, List.nil_append]
                refine o_iastN (t0 := 0) hC rfl dX8_run_240 (by repeat (first | with_reducible assumption | (rw [rl_u_s]; done) | (rw [rl_u_s]; rfl) | rw [rl_u_n (by first | with_reducible assumption | omega)])) (by omega) (by decide) ?_
                refine o_iinc hC dX8_run_241 (by rfl) (rl_inc _) (Nat.le_of_ble_eq_true rfl) ?_
                refine o_goto (tgt := 213) hC dX8_run_244 (by decide) ?_
                refine ih2 (c + 1) _ _ (by omega) (hq2.s12 _) (fun q => ?_)
                by_cases e : q = (1280 + t) * 6 + c
                · subst e
                  rw [if_pos (by omega)]
                  refine (if_pos rfl).trans ?_
                  show c2 ((80 * j + t) * 6 + c) = _
                  rw [hc2, if_neg (by omega)]
                  exact congrArg A1.1 (by omega)
                · refine (if_neg e).trans ((hc2 q).trans ?_)
                  by_cases e2 : (1280 + t) * 6 ≤ q ∧ q < (1280 + t) * 6 + c
                  · rw [if_pos e2, if_pos (by omega)]
                  · rw [if_neg e2, if_neg (by omega)]
          have hs1 := hq1.1.sa hs
          obtain ⟨hm0, g12, g13, g14, g15, g16, g17, g18, g19, g20, g21, g22⟩ := id hq1
          have g0 := hm0.1
          have gk := hm0.2.1
          obtain ⟨a1, a2, a3, a4, a5, a6, a7, a8, a9, a10, a11⟩ := id hs1
          refine o_iload_n hC dX8_run_201 (by rfl) ?_
          refine o_aload_n hC dX8_run_202 (by rfl) ?_
          refine o_getf hC (fX8_46 hC rfl) dX8_run_203 (by repeat (first | with_reducible assumption | (rw [rl_u_s]; done) | (rw [rl_u_s]; rfl) | rw [rl_u_n (by first | with_reducible assumption | omega)])) (by first | rfl | with_reducible assumption) ?_
          refine o_iload_n hC dX8_run_206 (by rfl) ?_
          refine o_ialdN (t0 := 0) (k := j) hC rfl dX8_run_207 (by repeat (first | with_reducible assumption | (rw [rl_u_s]; done) | (rw [rl_u_s]; rfl) | rw [rl_u_n (by first | with_reducible assumption | omega)])) (by omega) (by decide) ?_
          rw [hTj.1]
          refine o_icmp_ge (tgt := 268) hC dX8_run_208 (by decide) (fun c_208 => ?_) (fun c_208 => ?_)
          · exact absurd c_208 (nI_ge (by omega) (by omega))
          · refine o_iconst (v := nI 0) hC dX8_run_211 (by decide +kernel) ?_
            refine o_istore_n hC dX8_run_212 (Nat.le_of_ble_eq_true rfl) ?_
            exact loop5 6 0 _ A1.1 (by omega) hq1 (fun q => (if_neg (by omega)).symm)
      have loop3 : ∀ (im : Nat → Int32), (im j ≠ nI 0) → (∀ k : Nat, k ≤ j → im k ≠ nI 0 → ∀ i : Nat, i < k → (N k 2 = nI i ∨ N k 3 = nI i) → im i ≠ nI 0) → (∀ k : Nat, k ≤ j → im k ≠ nI 0 → sem sf cf z.2.2.1 N k = none → sem sf cf z.2.2.1 N j = none) → ∀ (mm t : Nat) (h1 : rl_H) (f1 : Int32) (k1 : Nat) (A1 : md_D) (o3 : Option Value), t + mm = j + 1 → mf ids h h1 m (nI 0, T.2) f1 k1 A1 → A1.2.2.1 = im → mtb A1 16 rw res → ((f1 = nI 0 ∧ (∀ i : Nat, i < t → im i ≠ nI 0 → ∃ (tab : List arow) (w : Nat), w ≤ 6 ∧ N i 1 = nI w ∧ sem sf cf z.2.2.1 N i = some tab ∧ mtb A1 i w tab ∧ aok w tab)) ∨ (f1 = nI 1 ∧ sem sf cf z.2.2.1 N j = none)) → rl_G X (rl_e D ids H0) 134 [some (.ref m), some (.int (nI j)), some (.int (nI t)), o3] [] h1 n_7 0 0 := by
        intro im hi1 hi2 hi3 mm
        have finF : ∀ (h1 : rl_H) (k1 : Nat) (A1 : md_D) (o2 o3 : Option Value), mf ids h h1 m (nI 0, T.2) (nI 1) k1 A1 → mtb A1 16 rw res → sem sf cf z.2.2.1 N j = none → rl_G X (rl_e D ids H0) 166 [some (.ref m), some (.int (nI j)), o2, o3] [] h1 n_7 0 0 := by
          intro h1 k1 A1 o2 o3 hq1 h16 hn
          have hs1 := hq1.1.sa hs
          obtain ⟨hm0, g12, g13, g14, g15, g16, g17, g18, g19, g20, g21, g22⟩ := id hq1
          have g0 := hm0.1
          have gk := hm0.2.1
          obtain ⟨a1, a2, a3, a4, a5, a6, a7, a8, a9, a10, a11⟩ := id hs1
          refine o_aload_n hC dX8_run_166 (by rfl) ?_
          refine o_getf hC (fX8_91 hC rfl) dX8_run_167 (by repeat (first | with_reducible assumption | (rw [rl_u_s]; done) | (rw [rl_u_s]; rfl) | rw [rl_u_n (by first | with_reducible assumption | omega)])) (by first | rfl | with_reducible assumption) ?_
          refine o_if_eq (tgt := 176) hC dX8_run_170 (by decide) (fun c_170 => ?_) (fun c_170 => ?_)
          · exact absurd c_170 (by decide +kernel)
          · refine o_bipush (v := (-4 : Int32)) hC dX8_run_173 (by decide +kernel) ?_
            refine o_iret hC hB dX8_run_175 (Nat.le_of_ble_eq_true rfl) (Nat.le_of_ble_eq_true rfl) ?_
            exact ⟨_, _, _, _, A1, res, rw, rfl, rfl, hq1, hu.dp hq1.1 rfl rfl rfl rfl ⟨wrc, hrc6, hrc⟩, ⟨h16, hr.2.1, hr.2.2.1, hr.2.2.2⟩, Or.inr ⟨j, hj, rfl, Or.inl ⟨hn, rfl, rfl, rfl⟩⟩⟩
        induction mm with
        | zero =>
          intro t h1 f1 k1 A1 o3 hm hq1 him h16 hst
          have hs1 := hq1.1.sa hs
          obtain ⟨hm0, g12, g13, g14, g15, g16, g17, g18, g19, g20, g21, g22⟩ := id hq1
          have g0 := hm0.1
          have gk := hm0.2.1
          obtain ⟨a1, a2, a3, a4, a5, a6, a7, a8, a9, a10, a11⟩ := id hs1
          refine o_iload_n hC dX8_run_134 (by rfl) ?_
          refine o_iload_n hC dX8_run_135 (by rfl) ?_
          refine o_icmp_gt (tgt := 166) hC dX8_run_136 (by decide) (fun c_136 => ?_) (fun c_136 => ?_)
          · rcases hst with ⟨rfl, hTB⟩ | ⟨rfl, hn⟩
            rotate_left
            · exact finF _ _ A1 _ _ hq1 h16 hn
            obtain ⟨tab, w, hw6, hNw, hsem, hTj, hok⟩ := hTB j (by omega) hi1
            have tl80 := hok.2.2
            refine o_aload_n hC dX8_run_166 (by rfl) ?_
            refine o_getf hC (fX8_91 hC rfl) dX8_run_167 (by repeat (first | with_reducible assumption | (rw [rl_u_s]; done) | (rw [rl_u_s]; rfl) | rw [rl_u_n (by first | with_reducible assumption | omega)])) (by first | rfl | with_reducible assumption) ?_
            refine o_if_eq (tgt := 176) hC dX8_run_170 (by decide) (fun c_170 => ?_) (fun c_170 => ?_)
            · refine o_aload_n hC dX8_run_176 (by rfl) ?_
              refine o_getf hC (fX8_46 hC rfl) dX8_run_177 (by repeat (first | with_reducible assumption | (rw [rl_u_s]; done) | (rw [rl_u_s]; rfl) | rw [rl_u_n (by first | with_reducible assumption | omega)])) (by first | rfl | with_reducible assumption) ?_
              refine o_bipush (v := nI 16) hC dX8_run_180 (by decide +kernel) ?_
              refine o_aload_n hC dX8_run_182 (by rfl) ?_
              refine o_getf hC (fX8_46 hC rfl) dX8_run_183 (by repeat (first | with_reducible assumption | (rw [rl_u_s]; done) | (rw [rl_u_s]; rfl) | rw [rl_u_n (by first | with_reducible assumption | omega)])) (by first | rfl | with_reducible assumption) ?_
              refine o_iload_n hC dX8_run_186 (by rfl) ?_
              refine o_ialdN (t0 := 0) (k := j) hC rfl dX8_run_187 (by repeat (first | with_reducible assumption | (rw [rl_u_s]; done) | (rw [rl_u_s]; rfl) | rw [rl_u_n (by first | with_reducible assumption | omega)])) (by omega) (by decide) ?_
              rw [hTj.1]
              refine o_iastN (t0 := 0) hC rfl dX8_run_188 (by repeat (first | with_reducible assumption | (rw [rl_u_s]; done) | (rw [rl_u_s]; rfl) | rw [rl_u_n (by first | with_reducible assumption | omega)])) (by omega) (by decide) ?_
              refine o_aload_n hC dX8_run_189 (by rfl) ?_
              refine o_aload_n hC dX8_run_190 (by rfl) ?_
              refine o_getf hC (fX8_40 hC rfl) dX8_run_191 (by repeat (first | with_reducible assumption | (rw [rl_u_s]; done) | (rw [rl_u_s]; rfl) | rw [rl_u_n (by first | with_reducible assumption | omega)])) (by first | rfl | with_reducible assumption) ?_
              refine o_iload_n hC dX8_run_194 (by rfl) ?_
              refine o_ialdN (t0 := 0) (k := j) hC rfl dX8_run_195 (by repeat (first | with_reducible assumption | (rw [rl_u_s]; done) | (rw [rl_u_s]; rfl) | rw [rl_u_n (by first | with_reducible assumption | omega)])) (by omega) (by decide) ?_
              rw [(hnj.trans hNw)]
              refine o_putf hC (fX8_196 hC rfl) (fwX8 rfl rfl rfl (Or.inl rfl)) dX8_run_196 (by repeat (first | with_reducible assumption | (rw [rl_u_s]; done) | (rw [rl_u_s]; rfl) | rw [rl_u_n (by first | with_reducible assumption | omega)])) (Nat.le_of_ble_eq_true rfl) ?_
              try simp only [List.set_cons_zero, List.set_cons_succ]
              refine o_iconst (v := nI 0) hC dX8_run_199 (by decide +kernel) ?_
              refine o_istore_n hC dX8_run_200 (Nat.le_of_ble_eq_true rfl) ?_
              have keepj : mtb (A1.1, upd A1.2.1 16 (nI tab.length), A1.2.2.1, A1.2.2.2.1, A1.2.2.2.2.1, A1.2.2.2.2.2.1, A1.2.2.2.2.2.2.1, A1.2.2.2.2.2.2.2.1, A1.2.2.2.2.2.2.2.2.1, A1.2.2.2.2.2.2.2.2.2.1, A1.2.2.2.2.2.2.2.2.2.2) j w tab := ⟨(upd_lt (by omega)).trans hTj.1, hTj.2⟩
              exact loop4 w tab hw6 hok hsem hNw tab.length 0 _ _ _ (A1.1, upd A1.2.1 16 (nI tab.length), A1.2.2.1, A1.2.2.2.1, A1.2.2.2.2.1, A1.2.2.2.2.2.1, A1.2.2.2.2.2.2.1, A1.2.2.2.2.2.2.2.1, A1.2.2.2.2.2.2.2.2.1, A1.2.2.2.2.2.2.2.2.2.1, A1.2.2.2.2.2.2.2.2.2.2) _ (by omega) ((hq1.s13 _ (md_bd hq1.b13 ⟨tab.length, tl80, rfl⟩)).ob (nI 0, T.2.1, T.2.2.1, T.2.2.2.1, T.2.2.2.2.1, nI w, T.2.2.2.2.2.2) (nI 0) k1 hq1.1.2.1) keepj (show upd A1.2.1 16 (nI tab.length) 16 = nI tab.length from upd_at) (fun i hi => absurd hi (by omega))
            · exact absurd rfl c_170
          · exact absurd (nI_lt (by omega) (by omega)) c_136
        | succ mm ih =>
          intro t h1 f1 k1 A1 o3 hm hq1 him h16 hst
          have hs1 := hq1.1.sa hs
          obtain ⟨hm0, g12, g13, g14, g15, g16, g17, g18, g19, g20, g21, g22⟩ := id hq1
          have g0 := hm0.1
          have gk := hm0.2.1
          obtain ⟨a1, a2, a3, a4, a5, a6, a7, a8, a9, a10, a11⟩ := id hs1
          refine o_iload_n hC dX8_run_134 (by rfl) ?_
          refine o_iload_n hC dX8_run_135 (by rfl) ?_
          refine o_icmp_gt (tgt := 166) hC dX8_run_136 (by decide) (fun c_136 => ?_) (fun c_136 => ?_)
          · exact absurd c_136 (nI_nlt (by omega) (by omega))
          · refine o_aload_n hC dX8_run_139 (by rfl) ?_
            refine o_getf hC (fX8_91 hC rfl) dX8_run_140 (by repeat (first | with_reducible assumption | (rw [rl_u_s]; done) | (rw [rl_u_s]; rfl) | rw [rl_u_n (by first | with_reducible assumption | omega)])) (by first | rfl | with_reducible assumption) ?_
            refine o_if_ne (tgt := 166) hC dX8_run_143 (by decide) (fun c_143 => ?_) (fun c_143 => ?_)
            · rcases hst with ⟨rfl, hTB⟩ | ⟨rfl, hn⟩
              · exact absurd rfl c_143
              · exact finF _ _ A1 _ _ hq1 h16 hn
            · rcases hst with ⟨rfl, hTB⟩ | ⟨rfl, hn⟩
              rotate_left
              · exact absurd c_143 (by decide +kernel)
              refine o_aload_n hC dX8_run_146 (by rfl) ?_
              refine o_getf hC (fX8_49 hC rfl) dX8_run_147 (by repeat (first | with_reducible assumption | (rw [rl_u_s]; done) | (rw [rl_u_s]; rfl) | rw [rl_u_n (by first | with_reducible assumption | omega)])) (by first | rfl | with_reducible assumption) ?_
              refine o_iload_n hC dX8_run_150 (by rfl) ?_
              refine o_zaldN (t0 := 2) (k := t) hC rfl dX8_run_151 (by repeat (first | with_reducible assumption | (rw [rl_u_s]; done) | (rw [rl_u_s]; rfl) | rw [rl_u_n (by first | with_reducible assumption | omega)])) (by omega) (by decide) ?_
              rw [him]
              refine o_if_eq (tgt := 160) hC dX8_run_152 (by decide) (fun c_152 => ?_) (fun c_152 => ?_)
              · refine o_iinc hC dX8_run_160 (by rfl) (rl_inc _) (Nat.le_of_ble_eq_true rfl) ?_
                refine o_goto (tgt := 134) hC dX8_run_163 (by decide) ?_
                refine ih (t + 1) _ _ _ A1 _ (by omega) hq1 him h16 (Or.inl ⟨rfl, fun i hi hb => ?_⟩)
                by_cases e : i = t
                · subst e
                  exact absurd c_152 hb
                · exact hTB i (by omega) hb
              · obtain ⟨⟨op, w, w1, w2, a1, a2, a4, a5, a6, a8, a9⟩, n1, n2, n3⟩ := hl.2 t (by omega)
                have op6 := a4.1
                have w6 := a4.2.2.1
                have hbit : im t ≠ nI 0 := c_152
                rw [a1, iN_nI (by omega)] at n3
                have P1 : ∃ T1 : List arow, ((1 ≤ op) → (∃ b : Nat, b < t ∧ N t 2 = nI b ∧ S.2.2.2.2.2.2.2.2.2.2 b = nI w1 ∧ mtb A1 b w1 T1 ∧ aok w1 T1) ∧ ∃ i : Nat, i < t ∧ N t 2 = nI i ∧ sem sf cf z.2.2.1 N i = some T1) ∧ (¬ (1 ≤ op) → T1 = []) := by
                  by_cases q : (1 ≤ op)
                  · obtain ⟨i, i1, i2, i3⟩ := a5 q
                    obtain ⟨tab, w', g0, g1, g2, g3, g4⟩ := hTB i i1 (hi2 t (by omega) hbit i i1 (Or.inl i2))
                    have e9 : w' = w1 := nI_inj2 (by omega) (by have := (a4.2.2.2.1); have := a4.2.2.2.2.1; omega) (g1.symm.trans i3)
                    subst e9
                    obtain ⟨-, -, u2, -⟩ := hl.2 i (by omega)
                    exact ⟨tab, fun _ => ⟨⟨i, i1, i2, u2.trans g1, g3, g4⟩, i, i1, i2, g2⟩, fun u => absurd q u⟩
                  · exact ⟨[], fun u => absurd u q, fun _ => rfl⟩
                have P2 : ∃ T2 : List arow, ((is2 op = true) → (∃ b : Nat, b < t ∧ N t 3 = nI b ∧ S.2.2.2.2.2.2.2.2.2.2 b = nI w2 ∧ mtb A1 b w2 T2 ∧ aok w2 T2) ∧ ∃ i : Nat, i < t ∧ N t 3 = nI i ∧ sem sf cf z.2.2.1 N i = some T2) ∧ (¬ (is2 op = true) → T2 = []) := by
                  by_cases q : (is2 op = true)
                  · obtain ⟨i, i1, i2, i3⟩ := a6 q
                    obtain ⟨tab, w', g0, g1, g2, g3, g4⟩ := hTB i i1 (hi2 t (by omega) hbit i i1 (Or.inr i2))
                    have e9 : w' = w2 := nI_inj2 (by omega) (by have := (a4.2.2.2.1); have := a4.2.2.2.2.1; omega) (g1.symm.trans i3)
                    subst e9
                    obtain ⟨-, -, u2, -⟩ := hl.2 i (by omega)
                    exact ⟨tab, fun _ => ⟨⟨i, i1, i2, u2.trans g1, g3, g4⟩, i, i1, i2, g2⟩, fun u => absurd q u⟩
                  · exact ⟨[], fun u => absurd u q, fun _ => rfl⟩
                obtain ⟨T1, B1, E1⟩ := P1
                obtain ⟨T2, B2, E2⟩ := P2
                have esv : sem sf cf z.2.2.1 N t = nfn sf cf z.2.2.1 op w (N t 4) (N t 5) (N t 6) (N t 7) T1 T2 := sem_val _ _ _ _ a1 a2 op6 w6 (by omega) (fun q => (B1 q).2) (fun q => (B2 q).2) (fun q => E1 (by omega)) (fun q => E2 (by rw [q]; decide))
                refine o_aload_n hC dX8_run_155 (by rfl) ?_
                refine o_iload_n hC dX8_run_156 (by rfl) ?_
                refine o_callV1 hC rl_BW_good rl_Ns_nw (by exact hB.2.2.2.2.2) YX8_make IX8_make VX8_make (mX8_193 hC) (by rw [hB.1]; exact cf_X8_make l D ids H0 _ _ m _ _ _ _ S t z.2.2.1 op w w1 w2 T1 T2 sf cf _ _ _ _ _ _ hq1.rf hs1 (by omega) (n1.trans a1) (n2.trans a2) a4 hrr hr36 rfl n3 hl.1 (fun q => (B1 q).1) (fun q => (B2 (decide_eq_true q)).1)) (by exact hq1.1.1) rfl rfl (Nat.le_of_ble_eq_true rfl) (by rw [hB.2.1]; first | exact Nat.le_of_ble_eq_true rfl | (dsimp only; omega)) (by rw [hB.2.1]; first | exact Nat.le_of_ble_eq_true rfl | (dsimp only; omega)) (by rw [hB.2.1]; first | exact Nat.le_of_ble_eq_true rfl | (dsimp only; omega)) (by rw [hB.2.1]; first | exact Nat.le_of_ble_eq_true rfl | (dsimp only; omega)) dX8_run_157 (fun v h_157 n_157 p_157 => ?_)
                obtain ⟨f157, k157, A4, rfl, rfl, q157, r157, u157⟩ := p_157
                rw [← esv] at u157
                try dsimp only [Option.toList, List.cons_append, List.nil_append]
                refine o_iinc hC dX8_run_160 (by rfl) (rl_inc _) (Nat.le_of_ble_eq_true rfl) ?_
                refine o_goto (tgt := 134) hC dX8_run_163 (by decide) ?_
                have h16b := r157.tb hr.2.2.1 hr.2.1.2.2 (by omega) h16 (by omega)
                refine ih (t + 1) _ f157 k157 A4 _ (by omega) (hq1.tr q157) (r157.2.2.1.trans him) h16b ?_
                rcases u157 with ⟨tab, g1, g2, g3, g4⟩ | ⟨g1, g2⟩
                · refine Or.inl ⟨g2, fun i hi hb => ?_⟩
                  by_cases e : i = t
                  · subst e
                    exact ⟨tab, w, w6, a2, g1, g3, g4⟩
                  · obtain ⟨tab', w', e0, e1, e2, e3, e4⟩ := hTB i (by omega) hb
                    exact ⟨tab', w', e0, e1, e2, r157.tb e0 e4.2.2 (by omega) e3 e, e4⟩
                · exact Or.inr ⟨g2, hi3 t (by omega) hbit g1⟩
      have loop2 : ∀ (t : Nat) (h1 : rl_H) (im : Nat → Int32) (o3 : Option Value), t ≤ j + 1 → mf ids h h1 m (nI 0, T.2) (nI 0) k (A.1, A.2.1, im, A.2.2.2.1, A.2.2.2.2.1, A.2.2.2.2.2.1, A.2.2.2.2.2.2.1, A.2.2.2.2.2.2.2.1, A.2.2.2.2.2.2.2.2.1, A.2.2.2.2.2.2.2.2.2.1, A.2.2.2.2.2.2.2.2.2.2) → im j ≠ nI 0 → (∀ k : Nat, t ≤ k → k ≤ j → im k ≠ nI 0 → ∀ i : Nat, i < k → (N k 2 = nI i ∨ N k 3 = nI i) → im i ≠ nI 0) → (∀ k : Nat, k ≤ j → im k ≠ nI 0 → sem sf cf z.2.2.1 N k = none → sem sf cf z.2.2.1 N j = none) → rl_G X (rl_e D ids H0) 50 [some (.ref m), some (.int (nI j)), some (.int (nI t + Int32.ofInt (-1))), o3] [] h1 n_7 0 0 := by
        intro t
        induction t with
        | zero =>
          intro h1 im o3 ht hq1 hi1 hi2 hi3
          refine o_iload_n hC dX8_run_50 (by rfl) ?_
          refine o_if_lt (tgt := 132) hC dX8_run_51 (by decide) (fun c_51 => ?_) (fun c_51 => ?_)
          · refine o_iconst (v := nI 0) hC dX8_run_132 (by decide +kernel) ?_
            refine o_istore_n hC dX8_run_133 (Nat.le_of_ble_eq_true rfl) ?_
            exact loop3 im hi1 (fun k hk => hi2 k (Nat.zero_le _) hk) hi3 (j + 1) 0 _ _ _ (A.1, A.2.1, im, A.2.2.2.1, A.2.2.2.2.1, A.2.2.2.2.2.1, A.2.2.2.2.2.2.1, A.2.2.2.2.2.2.2.1, A.2.2.2.2.2.2.2.2.1, A.2.2.2.2.2.2.2.2.2.1, A.2.2.2.2.2.2.2.2.2.2) _ (by omega) hq1 rfl (show mtb (A.1, A.2.1, im, A.2.2.2.1, A.2.2.2.2.1, A.2.2.2.2.2.1, A.2.2.2.2.2.2.1, A.2.2.2.2.2.2.2.1, A.2.2.2.2.2.2.2.2.1, A.2.2.2.2.2.2.2.2.2.1, A.2.2.2.2.2.2.2.2.2.2) 16 rw res from hr.1) (Or.inl ⟨rfl, fun i hi => absurd hi (by omega)⟩)
          · exact absurd (by decide +kernel) c_51
        | succ t ih =>
          intro h1 im o3 ht hq1 hi1 hi2 hi3
          rw [rl_dec t]
          have hs1 := hq1.1.sa hs
          obtain ⟨hm0, g12, g13, g14, g15, g16, g17, g18, g19, g20, g21, g22⟩ := id hq1
          have g0 := hm0.1
          have gk := hm0.2.1
          obtain ⟨a1, a2, a3, a4, a5, a6, a7, a8, a9, a10, a11⟩ := id hs1
          obtain ⟨cft, n1, n2, n3⟩ := hl.2 t (by omega)
          obtain ⟨op, w, w1, w2, a1, a2, a4, a5, a6, a8, a9⟩ := id cft
          have op6 := a4.1
          rw [a1, iN_nI (by omega)] at n3
          have hop := n1.trans a1
          have tb16 : ∀ b : Nat, b < t → b < 16 := fun b hb => by omega
          refine o_iload_n hC dX8_run_50 (by rfl) ?_
          refine o_if_lt (tgt := 132) hC dX8_run_51 (by decide) (fun c_51 => ?_) (fun c_51 => ?_)
          · exact absurd c_51 (nI_pos (by omega))
          · refine o_aload_n hC dX8_run_54 (by rfl) ?_
            refine o_getf hC (fX8_49 hC rfl) dX8_run_55 (by repeat (first | with_reducible assumption | (rw [rl_u_s]; done) | (rw [rl_u_s]; rfl) | rw [rl_u_n (by first | with_reducible assumption | omega)])) (by first | rfl | with_reducible assumption) ?_
            refine o_iload_n hC dX8_run_58 (by rfl) ?_
            refine o_zaldN (t0 := 2) hC rfl dX8_run_59 (by repeat (first | with_reducible assumption | (rw [rl_u_s]; done) | (rw [rl_u_s]; rfl) | rw [rl_u_n (by first | with_reducible assumption | omega)])) (by omega) (by decide) ?_
            refine o_if_eq (tgt := 126) hC dX8_run_60 (by decide) (fun c_60 => ?_) (fun c_60 => ?_)
            · refine o_iinc hC dX8_run_126 (by rfl) rfl (Nat.le_of_ble_eq_true rfl) ?_
              refine o_goto (tgt := 50) hC dX8_run_129 (by decide) ?_
              refine ih _ im _ (by omega) hq1 hi1 (fun k k1 k2 hb => ?_) hi3
              by_cases e : k = t
              · subst e
                exact absurd c_60 hb
              · exact hi2 k (by omega) k2 hb
            · refine o_aload_n hC dX8_run_63 (by rfl) ?_
              refine o_getf hC (fX8_19 hC rfl) dX8_run_64 (by repeat (first | with_reducible assumption | (rw [rl_u_s]; done) | (rw [rl_u_s]; rfl) | rw [rl_u_n (by first | with_reducible assumption | omega)])) (by first | rfl | with_reducible assumption) ?_
              refine o_iload_n hC dX8_run_67 (by rfl) ?_
              refine o_ialdN (t0 := 0) (k := t) hC rfl dX8_run_68 (by repeat (first | with_reducible assumption | (rw [rl_u_s]; done) | (rw [rl_u_s]; rfl) | rw [rl_u_n (by first | with_reducible assumption | omega)])) (by omega) (by decide) ?_
              rw [hop]
              refine o_if_eq (tgt := 126) hC dX8_run_69 (by decide) (fun c_69 => ?_) (fun c_69 => ?_)
              · refine o_iinc hC dX8_run_126 (by rfl) rfl (Nat.le_of_ble_eq_true rfl) ?_
                refine o_goto (tgt := 50) hC dX8_run_129 (by decide) ?_
                refine ih _ im _ (by omega) hq1 hi1 (fun k k1 k2 hb => ?_) hi3
                by_cases e : k = t
                · subst e
                  have op0 : op = 0 := nI_inj2 (by omega) (by decide) c_69
                  intro i hi hp
                  rcases hp with hp | hp
                  · exact absurd (hp.symm.trans (a8 op0)) (nI_m1 (by omega))
                  · exact absurd (hp.symm.trans (a9 (by rw [op0]; decide))) (nI_m1 (by omega))
                · exact hi2 k (by omega) k2 hb
              · have op1 : 1 ≤ op := Nat.pos_of_ne_zero (fun e => c_69 (by rw [e]; rfl))
                obtain ⟨b, b1, b2, -⟩ := a5 op1
                have b16 := tb16 b b1
                have hfi := (n3.2.1 op1).trans b2
                refine o_aload_n hC dX8_run_72 (by rfl) ?_
                refine o_getf hC (fX8_49 hC rfl) dX8_run_73 (by repeat (first | with_reducible assumption | (rw [rl_u_s]; done) | (rw [rl_u_s]; rfl) | rw [rl_u_n (by first | with_reducible assumption | omega)])) (by first | rfl | with_reducible assumption) ?_
                refine o_aload_n hC dX8_run_76 (by rfl) ?_
                refine o_getf hC (fX8_22 hC rfl) dX8_run_77 (by repeat (first | with_reducible assumption | (rw [rl_u_s]; done) | (rw [rl_u_s]; rfl) | rw [rl_u_n (by first | with_reducible assumption | omega)])) (by first | rfl | with_reducible assumption) ?_
                refine o_iload_n hC dX8_run_80 (by rfl) ?_
                refine o_ialdN (t0 := 0) (k := t) hC rfl dX8_run_81 (by repeat (first | with_reducible assumption | (rw [rl_u_s]; done) | (rw [rl_u_s]; rfl) | rw [rl_u_n (by first | with_reducible assumption | omega)])) (by omega) (by decide) ?_
                rw [hfi]
                refine o_iconst (v := nI 1) hC dX8_run_82 (by decide +kernel) ?_
                refine o_zastN (t0 := 2) hC rfl dX8_run_83 (by repeat (first | with_reducible assumption | (rw [rl_u_s]; done) | (rw [rl_u_s]; rfl) | rw [rl_u_n (by first | with_reducible assumption | omega)])) (by omega) (by decide) ?_
                refine o_aload_n hC dX8_run_84 (by rfl) ?_
                refine o_getf hC (fX8_19 hC rfl) dX8_run_85 (by repeat (first | with_reducible assumption | (rw [rl_u_s]; done) | (rw [rl_u_s]; rfl) | rw [rl_u_n (by first | with_reducible assumption | omega)])) (by first | rfl | with_reducible assumption) ?_
                refine o_iload_n hC dX8_run_88 (by rfl) ?_
                refine o_ialdN (t0 := 0) (k := t) hC rfl dX8_run_89 (by repeat (first | with_reducible assumption | (rw [rl_u_s]; done) | (rw [rl_u_s]; rfl) | rw [rl_u_n (by first | with_reducible assumption | omega)])) (by omega) (by decide) ?_
                rw [hop]
                refine o_iconst (v := nI 3) hC dX8_run_90 (by decide +kernel) ?_
                refine o_icmp_eq (tgt := 114) hC dX8_run_91 (by decide) (fun c_91 => ?_) (fun c_91 => ?_)
                · have o345 : op = 3 ∨ op = 4 ∨ op = 5 := by
                    first
                    | exact Or.inl (nI_inj2 (by omega) (by decide) c_91)
                    | exact Or.inr (Or.inl (nI_inj2 (by omega) (by decide) c_101))
                    | exact Or.inr (Or.inr (nI_inj2 (by omega) (by decide) (by first | exact c_111 | exact Classical.not_not.mp c_111)))
                  obtain ⟨d, d1, d2, -⟩ := a6 (decide_eq_true o345)
                  have d16 := tb16 d d1
                  have hse := (n3.2.2.1 o345).trans d2
                  refine o_aload_n hC dX8_run_114 (by rfl) ?_
                  refine o_getf hC (fX8_49 hC rfl) dX8_run_115 (by repeat (first | with_reducible assumption | (rw [rl_u_s]; done) | (rw [rl_u_s]; rfl) | rw [rl_u_n (by first | with_reducible assumption | omega)])) (by first | rfl | with_reducible assumption) ?_
                  refine o_aload_n hC dX8_run_118 (by rfl) ?_
                  refine o_getf hC (fX8_25 hC rfl) dX8_run_119 (by repeat (first | with_reducible assumption | (rw [rl_u_s]; done) | (rw [rl_u_s]; rfl) | rw [rl_u_n (by first | with_reducible assumption | omega)])) (by first | rfl | with_reducible assumption) ?_
                  refine o_iload_n hC dX8_run_122 (by rfl) ?_
                  refine o_ialdN (t0 := 0) (k := t) hC rfl dX8_run_123 (by repeat (first | with_reducible assumption | (rw [rl_u_s]; done) | (rw [rl_u_s]; rfl) | rw [rl_u_n (by first | with_reducible assumption | omega)])) (by omega) (by decide) ?_
                  rw [hse]
                  refine o_iconst (v := nI 1) hC dX8_run_124 (by decide +kernel) ?_
                  refine o_zastN (t0 := 2) hC rfl dX8_run_125 (by repeat (first | with_reducible assumption | (rw [rl_u_s]; done) | (rw [rl_u_s]; rfl) | rw [rl_u_n (by first | with_reducible assumption | omega)])) (by omega) (by decide) ?_
                  refine o_iinc hC dX8_run_126 (by rfl) rfl (Nat.le_of_ble_eq_true rfl) ?_
                  refine o_goto (tgt := 50) hC dX8_run_129 (by decide) ?_
                  have v1 : vp_nar .boolean (nI 1) ≠ nI 0 := by rw [bl_1]; decide +kernel
                  have hQt := hi3 t (by omega) c_60
                  have new : ∀ i : Nat, (upd (upd im b (vp_nar .boolean (nI 1))) d (vp_nar .boolean (nI 1))) i ≠ nI 0 ↔ (i = b ∨ i = d ∨ im i ≠ nI 0) := fun i => by
                    unfold upd
                    by_cases e2 : i = d
                    · rw [if_pos e2]
                      exact ⟨fun _ => Or.inr (Or.inl e2), fun _ => v1⟩
                    · rw [if_neg e2]
                      by_cases e1 : i = b
                      · rw [if_pos e1]
                        exact ⟨fun _ => Or.inl e1, fun _ => v1⟩
                      · rw [if_neg e1]
                        exact ⟨fun h => Or.inr (Or.inr h), fun h => (h.resolve_left e1).resolve_left e2⟩
                  refine ih _ (upd (upd im b (vp_nar .boolean (nI 1))) d (vp_nar .boolean (nI 1))) _ (by omega) ((hq1.s14 _).s14 _) ((new _).mpr (Or.inr (Or.inr hi1))) (fun k k1 k2 hb => ?_) (fun k k2 hb => ?_)
                  · by_cases e : k = t
                    · subst e
                      intro i hi hp
                      rcases hp with hp | hp
                      · have := nI_inj2 (by omega) (by omega) (hp.symm.trans b2)
                        exact (new i).mpr (Or.inl this)
                      · have := nI_inj2 (by omega) (by omega) (hp.symm.trans d2)
                        exact (new i).mpr (Or.inr (Or.inl this))
                    · have hb0 : im k ≠ nI 0 := by
                        rcases (new k).mp hb with q | q | q
                        · omega
                        · omega
                        · exact q
                      exact fun i hi hp => (new _).mpr (Or.inr (Or.inr (hi2 k (by omega) k2 hb0 i hi hp)))
                  · rcases (new k).mp hb with q | q | q
                    · rw [q]
                      exact fun hn => hQt (sem_none _ _ _ _ cft (by omega) b1 (Or.inl b2) hn)
                    · rw [q]
                      exact fun hn => hQt (sem_none _ _ _ _ cft (by omega) d1 (Or.inr d2) hn)
                    · exact hi3 k k2 q
                · refine o_aload_n hC dX8_run_94 (by rfl) ?_
                  refine o_getf hC (fX8_19 hC rfl) dX8_run_95 (by repeat (first | with_reducible assumption | (rw [rl_u_s]; done) | (rw [rl_u_s]; rfl) | rw [rl_u_n (by first | with_reducible assumption | omega)])) (by first | rfl | with_reducible assumption) ?_
                  refine o_iload_n hC dX8_run_98 (by rfl) ?_
                  refine o_ialdN (t0 := 0) (k := t) hC rfl dX8_run_99 (by repeat (first | with_reducible assumption | (rw [rl_u_s]; done) | (rw [rl_u_s]; rfl) | rw [rl_u_n (by first | with_reducible assumption | omega)])) (by omega) (by decide) ?_
                  rw [hop]
                  refine o_iconst (v := nI 4) hC dX8_run_100 (by decide +kernel) ?_
                  refine o_icmp_eq (tgt := 114) hC dX8_run_101 (by decide) (fun c_101 => ?_) (fun c_101 => ?_)
                  · have o345 : op = 3 ∨ op = 4 ∨ op = 5 := by
                      first
                      | exact Or.inl (nI_inj2 (by omega) (by decide) c_91)
                      | exact Or.inr (Or.inl (nI_inj2 (by omega) (by decide) c_101))
                      | exact Or.inr (Or.inr (nI_inj2 (by omega) (by decide) (by first | exact c_111 | exact Classical.not_not.mp c_111)))
                    obtain ⟨d, d1, d2, -⟩ := a6 (decide_eq_true o345)
                    have d16 := tb16 d d1
                    have hse := (n3.2.2.1 o345).trans d2
                    refine o_aload_n hC dX8_run_114 (by rfl) ?_
                    refine o_getf hC (fX8_49 hC rfl) dX8_run_115 (by repeat (first | with_reducible assumption | (rw [rl_u_s]; done) | (rw [rl_u_s]; rfl) | rw [rl_u_n (by first | with_reducible assumption | omega)])) (by first | rfl | with_reducible assumption) ?_
                    refine o_aload_n hC dX8_run_118 (by rfl) ?_
                    refine o_getf hC (fX8_25 hC rfl) dX8_run_119 (by repeat (first | with_reducible assumption | (rw [rl_u_s]; done) | (rw [rl_u_s]; rfl) | rw [rl_u_n (by first | with_reducible assumption | omega)])) (by first | rfl | with_reducible assumption) ?_
                    refine o_iload_n hC dX8_run_122 (by rfl) ?_
                    refine o_ialdN (t0 := 0) (k := t) hC rfl dX8_run_123 (by repeat (first | with_reducible assumption | (rw [rl_u_s]; done) | (rw [rl_u_s]; rfl) | rw [rl_u_n (by first | with_reducible assumption | omega)])) (by omega) (by decide) ?_
                    rw [hse]
                    refine o_iconst (v := nI 1) hC dX8_run_124 (by decide +kernel) ?_
                    refine o_zastN (t0 := 2) hC rfl dX8_run_125 (by repeat (first | with_reducible assumption | (rw [rl_u_s]; done) | (rw [rl_u_s]; rfl) | rw [rl_u_n (by first | with_reducible assumption | omega)])) (by omega) (by decide) ?_
                    refine o_iinc hC dX8_run_126 (by rfl) rfl (Nat.le_of_ble_eq_true rfl) ?_
                    refine o_goto (tgt := 50) hC dX8_run_129 (by decide) ?_
                    have v1 : vp_nar .boolean (nI 1) ≠ nI 0 := by rw [bl_1]; decide +kernel
                    have hQt := hi3 t (by omega) c_60
                    have new : ∀ i : Nat, (upd (upd im b (vp_nar .boolean (nI 1))) d (vp_nar .boolean (nI 1))) i ≠ nI 0 ↔ (i = b ∨ i = d ∨ im i ≠ nI 0) := fun i => by
                      unfold upd
                      by_cases e2 : i = d
                      · rw [if_pos e2]
                        exact ⟨fun _ => Or.inr (Or.inl e2), fun _ => v1⟩
                      · rw [if_neg e2]
                        by_cases e1 : i = b
                        · rw [if_pos e1]
                          exact ⟨fun _ => Or.inl e1, fun _ => v1⟩
                        · rw [if_neg e1]
                          exact ⟨fun h => Or.inr (Or.inr h), fun h => (h.resolve_left e1).resolve_left e2⟩
                    refine ih _ (upd (upd im b (vp_nar .boolean (nI 1))) d (vp_nar .boolean (nI 1))) _ (by omega) ((hq1.s14 _).s14 _) ((new _).mpr (Or.inr (Or.inr hi1))) (fun k k1 k2 hb => ?_) (fun k k2 hb => ?_)
                    · by_cases e : k = t
                      · subst e
                        intro i hi hp
                        rcases hp with hp | hp
                        · have := nI_inj2 (by omega) (by omega) (hp.symm.trans b2)
                          exact (new i).mpr (Or.inl this)
                        · have := nI_inj2 (by omega) (by omega) (hp.symm.trans d2)
                          exact (new i).mpr (Or.inr (Or.inl this))
                      · have hb0 : im k ≠ nI 0 := by
                          rcases (new k).mp hb with q | q | q
                          · omega
                          · omega
                          · exact q
                        exact fun i hi hp => (new _).mpr (Or.inr (Or.inr (hi2 k (by omega) k2 hb0 i hi hp)))
                    · rcases (new k).mp hb with q | q | q
                      · rw [q]
                        exact fun hn => hQt (sem_none _ _ _ _ cft (by omega) b1 (Or.inl b2) hn)
                      · rw [q]
                        exact fun hn => hQt (sem_none _ _ _ _ cft (by omega) d1 (Or.inr d2) hn)
                      · exact hi3 k k2 q
                  · refine o_aload_n hC dX8_run_104 (by rfl) ?_
                    refine o_getf hC (fX8_19 hC rfl) dX8_run_105 (by repeat (first | with_reducible assumption | (rw [rl_u_s]; done) | (rw [rl_u_s]; rfl) | rw [rl_u_n (by first | with_reducible assumption | omega)])) (by first | rfl | with_reducible assumption) ?_
                    refine o_iload_n hC dX8_run_108 (by rfl) ?_
                    refine o_ialdN (t0 := 0) (k := t) hC rfl dX8_run_109 (by repeat (first | with_reducible assumption | (rw [rl_u_s]; done) | (rw [rl_u_s]; rfl) | rw [rl_u_n (by first | with_reducible assumption | omega)])) (by omega) (by decide) ?_
                    rw [hop]
                    refine o_iconst (v := nI 5) hC dX8_run_110 (by decide +kernel) ?_
                    refine o_icmp_ne (tgt := 126) hC dX8_run_111 (by decide) (fun c_111 => ?_) (fun c_111 => ?_)
                    · refine o_iinc hC dX8_run_126 (by rfl) rfl (Nat.le_of_ble_eq_true rfl) ?_
                      refine o_goto (tgt := 50) hC dX8_run_129 (by decide) ?_
                      have v1 : vp_nar .boolean (nI 1) ≠ nI 0 := by rw [bl_1]; decide +kernel
                      have hQt := hi3 t (by omega) c_60
                      have n345 : is2 op = false := decide_eq_false (fun q => by
                        rcases q with q | q | q
                        · exact c_91 (by rw [q])
                        · exact c_101 (by rw [q])
                        · exact c_111 (by rw [q]))
                      have new : ∀ i : Nat, (upd im b (vp_nar .boolean (nI 1))) i ≠ nI 0 ↔ (i = b ∨ im i ≠ nI 0) := fun i => by
                        unfold upd
                        by_cases e1 : i = b
                        · rw [if_pos e1]
                          exact ⟨fun _ => Or.inl e1, fun _ => v1⟩
                        · rw [if_neg e1]
                          exact ⟨fun h => Or.inr h, fun h => h.resolve_left e1⟩
                      refine ih _ (upd im b (vp_nar .boolean (nI 1))) _ (by omega) (hq1.s14 _) ((new _).mpr (Or.inr hi1)) (fun k k1 k2 hb => ?_) (fun k k2 hb => ?_)
                      · by_cases e : k = t
                        · subst e
                          intro i hi hp
                          rcases hp with hp | hp
                          · have := nI_inj2 (by omega) (by omega) (hp.symm.trans b2)
                            exact (new i).mpr (Or.inl this)
                          · exact absurd (hp.symm.trans (a9 n345)) (nI_m1 (by omega))
                        · have hb0 : im k ≠ nI 0 := by
                            rcases (new k).mp hb with q | q
                            · omega
                            · exact q
                          exact fun i hi hp => (new _).mpr (Or.inr (hi2 k (by omega) k2 hb0 i hi hp))
                      · rcases (new k).mp hb with q | q
                        · rw [q]
                          exact fun hn => hQt (sem_none _ _ _ _ cft (by omega) b1 (Or.inl b2) hn)
                        · exact hi3 k k2 q
                    · have o345 : op = 3 ∨ op = 4 ∨ op = 5 := by
                        first
                        | exact Or.inl (nI_inj2 (by omega) (by decide) c_91)
                        | exact Or.inr (Or.inl (nI_inj2 (by omega) (by decide) c_101))
                        | exact Or.inr (Or.inr (nI_inj2 (by omega) (by decide) (by first | exact c_111 | exact Classical.not_not.mp c_111)))
                      obtain ⟨d, d1, d2, -⟩ := a6 (decide_eq_true o345)
                      have d16 := tb16 d d1
                      have hse := (n3.2.2.1 o345).trans d2
                      refine o_aload_n hC dX8_run_114 (by rfl) ?_
                      refine o_getf hC (fX8_49 hC rfl) dX8_run_115 (by repeat (first | with_reducible assumption | (rw [rl_u_s]; done) | (rw [rl_u_s]; rfl) | rw [rl_u_n (by first | with_reducible assumption | omega)])) (by first | rfl | with_reducible assumption) ?_
                      refine o_aload_n hC dX8_run_118 (by rfl) ?_
                      refine o_getf hC (fX8_25 hC rfl) dX8_run_119 (by repeat (first | with_reducible assumption | (rw [rl_u_s]; done) | (rw [rl_u_s]; rfl) | rw [rl_u_n (by first | with_reducible assumption | omega)])) (by first | rfl | with_reducible assumption) ?_
                      refine o_iload_n hC dX8_run_122 (by rfl) ?_
                      refine o_ialdN (t0 := 0) (k := t) hC rfl dX8_run_123 (by repeat (first | with_reducible assumption | (rw [rl_u_s]; done) | (rw [rl_u_s]; rfl) | rw [rl_u_n (by first | with_reducible assumption | omega)])) (by omega) (by decide) ?_
                      rw [hse]
                      refine o_iconst (v := nI 1) hC dX8_run_124 (by decide +kernel) ?_
                      refine o_zastN (t0 := 2) hC rfl dX8_run_125 (by repeat (first | with_reducible assumption | (rw [rl_u_s]; done) | (rw [rl_u_s]; rfl) | rw [rl_u_n (by first | with_reducible assumption | omega)])) (by omega) (by decide) ?_
                      refine o_iinc hC dX8_run_126 (by rfl) rfl (Nat.le_of_ble_eq_true rfl) ?_
                      refine o_goto (tgt := 50) hC dX8_run_129 (by decide) ?_
                      have v1 : vp_nar .boolean (nI 1) ≠ nI 0 := by rw [bl_1]; decide +kernel
                      have hQt := hi3 t (by omega) c_60
                      have new : ∀ i : Nat, (upd (upd im b (vp_nar .boolean (nI 1))) d (vp_nar .boolean (nI 1))) i ≠ nI 0 ↔ (i = b ∨ i = d ∨ im i ≠ nI 0) := fun i => by
                        unfold upd
                        by_cases e2 : i = d
                        · rw [if_pos e2]
                          exact ⟨fun _ => Or.inr (Or.inl e2), fun _ => v1⟩
                        · rw [if_neg e2]
                          by_cases e1 : i = b
                          · rw [if_pos e1]
                            exact ⟨fun _ => Or.inl e1, fun _ => v1⟩
                          · rw [if_neg e1]
                            exact ⟨fun h => Or.inr (Or.inr h), fun h => (h.resolve_left e1).resolve_left e2⟩
                      refine ih _ (upd (upd im b (vp_nar .boolean (nI 1))) d (vp_nar .boolean (nI 1))) _ (by omega) ((hq1.s14 _).s14 _) ((new _).mpr (Or.inr (Or.inr hi1))) (fun k k1 k2 hb => ?_) (fun k k2 hb => ?_)
                      · by_cases e : k = t
                        · subst e
                          intro i hi hp
                          rcases hp with hp | hp
                          · have := nI_inj2 (by omega) (by omega) (hp.symm.trans b2)
                            exact (new i).mpr (Or.inl this)
                          · have := nI_inj2 (by omega) (by omega) (hp.symm.trans d2)
                            exact (new i).mpr (Or.inr (Or.inl this))
                        · have hb0 : im k ≠ nI 0 := by
                            rcases (new k).mp hb with q | q | q
                            · omega
                            · omega
                            · exact q
                          exact fun i hi hp => (new _).mpr (Or.inr (Or.inr (hi2 k (by omega) k2 hb0 i hi hp)))
                      · rcases (new k).mp hb with q | q | q
                        · rw [q]
                          exact fun hn => hQt (sem_none _ _ _ _ cft (by omega) b1 (Or.inl b2) hn)
                        · rw [q]
                          exact fun hn => hQt (sem_none _ _ _ _ cft (by omega) d1 (Or.inr d2) hn)
                        · exact hi3 k k2 q
      have loop1 : ∀ (mm i : Nat) (h1 : rl_H) (im : Nat → Int32) (o3 : Option Value), i + mm = 16 → mf ids h h1 m (nI 0, T.2) (nI 0) k (A.1, A.2.1, im, A.2.2.2.1, A.2.2.2.2.1, A.2.2.2.2.2.1, A.2.2.2.2.2.2.1, A.2.2.2.2.2.2.2.1, A.2.2.2.2.2.2.2.2.1, A.2.2.2.2.2.2.2.2.2.1, A.2.2.2.2.2.2.2.2.2.2) → (∀ q : Nat, q < i → im q = nI 0) → rl_G X (rl_e D ids H0) 22 [some (.ref m), some (.int (nI j)), some (.int (nI i)), o3] [] h1 n_7 0 0 := by
        intro mm
        induction mm with
        | zero =>
          intro i h1 im o3 hm hq1 hz
          obtain ⟨hm0, g12, g13, g14, g15, g16, g17, g18, g19, g20, g21, g22⟩ := id hq1
          have g0 := hm0.1
          have gk := hm0.2.1
          refine o_iload_n hC dX8_run_22 (by rfl) ?_
          refine o_bipush (v := nI 16) hC dX8_run_23 (by decide +kernel) ?_
          refine o_icmp_ge (tgt := 41) hC dX8_run_25 (by decide) (fun c_25 => ?_) (fun c_25 => ?_)
          · refine o_aload_n hC dX8_run_41 (by rfl) ?_
            refine o_getf hC (fX8_49 hC rfl) dX8_run_42 (by repeat (first | with_reducible assumption | (rw [rl_u_s]; done) | (rw [rl_u_s]; rfl) | rw [rl_u_n (by first | with_reducible assumption | omega)])) (by first | rfl | with_reducible assumption) ?_
            refine o_iload_n hC dX8_run_45 (by rfl) ?_
            refine o_iconst (v := nI 1) hC dX8_run_46 (by decide +kernel) ?_
            refine o_zastN (t0 := 2) hC rfl dX8_run_47 (by repeat (first | with_reducible assumption | (rw [rl_u_s]; done) | (rw [rl_u_s]; rfl) | rw [rl_u_n (by first | with_reducible assumption | omega)])) (by omega) (by decide) ?_
            refine o_iload_n hC dX8_run_48 (by rfl) ?_
            refine o_istore_n hC dX8_run_49 (Nat.le_of_ble_eq_true rfl) ?_
            have lp := loop2 (j + 1) _ (upd im j (vp_nar .boolean (nI 1))) o3 (Nat.le_refl _) (hq1.s14 _) (by rw [upd_at, bl_1]; decide +kernel) (fun k k1 k2 => absurd k1 (by omega)) (fun k k2 hb => ?_)
            · rw [rl_dec j] at lp
              exact lp
            · by_cases e : k = j
              · rw [e]
                exact id
              · exact absurd ((if_neg e).trans (hz k (by omega))) hb
          · exact absurd (nI_le (by omega) (by omega)) c_25
        | succ mm ih =>
          intro i h1 im o3 hm hq1 hz
          obtain ⟨hm0, g12, g13, g14, g15, g16, g17, g18, g19, g20, g21, g22⟩ := id hq1
          have g0 := hm0.1
          have gk := hm0.2.1
          refine o_iload_n hC dX8_run_22 (by rfl) ?_
          refine o_bipush (v := nI 16) hC dX8_run_23 (by decide +kernel) ?_
          refine o_icmp_ge (tgt := 41) hC dX8_run_25 (by decide) (fun c_25 => ?_) (fun c_25 => ?_)
          · exact absurd c_25 (nI_ge (by omega) (by omega))
          · refine o_aload_n hC dX8_run_28 (by rfl) ?_
            refine o_getf hC (fX8_49 hC rfl) dX8_run_29 (by repeat (first | with_reducible assumption | (rw [rl_u_s]; done) | (rw [rl_u_s]; rfl) | rw [rl_u_n (by first | with_reducible assumption | omega)])) (by first | rfl | with_reducible assumption) ?_
            refine o_iload_n hC dX8_run_32 (by rfl) ?_
            refine o_iconst (v := nI 0) hC dX8_run_33 (by decide +kernel) ?_
            refine o_zastN (t0 := 2) hC rfl dX8_run_34 (by repeat (first | with_reducible assumption | (rw [rl_u_s]; done) | (rw [rl_u_s]; rfl) | rw [rl_u_n (by first | with_reducible assumption | omega)])) (by omega) (by decide) ?_
            refine o_iinc hC dX8_run_35 (by rfl) (rl_inc _) (Nat.le_of_ble_eq_true rfl) ?_
            refine o_goto (tgt := 22) hC dX8_run_38 (by decide) ?_
            refine ih (i + 1) _ _ _ (by omega) (hq1.s14 _) (fun q hq => ?_)
            by_cases e : q = i
            · exact (if_pos e).trans bl_0
            · exact (if_neg e).trans (hz q (by omega))
      exact loop1 16 0 _ A.2.2.1 _ (by omega) (hq0.ob (nI 0, T.2) (nI 0) k hq.1.2.1) (fun q hq => absurd hq (by omega))
    · exact absurd c_10 (by decide +kernel)
end
section
/-! THE CLASS, functionally: what looks at THE RESULT -/
/-- the first TERM that holds -/
def wfh (x : Int64) : List tT → Nat → Int32
  | [], _ => -1
  | t :: L, j => if t.1 &&& (x ^^^ (-1)) = 0 ∧ t.2 &&& x = 0 then nI j else wfh x L (j + 1)
theorem tm_first_l (f g : Nat → Int64) (x : Int64) : ∀ (m j : Nat), tm_first f g x m j = wfh x (tsg f g j m) j
  | 0, _ => rfl
  | m + 1, j => by
    unfold tm_first tsg wfh
    rw [tm_first_l f g x m (j + 1)]
theorem tm_first_0 {f g : Nat → Int64} {x : Int64} {k : Nat} {L : List tT} (h : tls f g k = L) : tm_first f g x k 0 = wfh x L 0 := by
  rw [tm_first_l, ← tls_0, h]
/-- how many of the TUPLES hold -/
def hgo (x : Int64) : List arow → Int32 → Int32
  | [], c => c
  | r :: R, c => hgo x R (if wfh x r.2 0 = -1 then c else c + Int32.ofInt 1)
/-- how many hold under one set and not under the other -/
def fwo (x y : Int64) : List arow → Int32 → Int32
  | [], c => c
  | r :: R, c => fwo x y R (if (wfh x r.2 0 = -1 ↔ wfh y r.2 0 = -1) then c else c + Int32.ofInt 1)
theorem hm_go_l {S : tb_S} {P : Nat → Nat} {x : Int64} {w : Nat} {tab : List arow} (h : ∀ j : Nat, j < tab.length → crw S (P j) w = ark tab j) : ∀ (m t : Nat) (c : Int32), t + m = tab.length → hm_go S P x m t c = hgo x (tab.drop t) c
  | 0, t, c, ht => by
    rw [List.drop_eq_nil_of_le (by omega)]
    rfl
  | m + 1, t, c, ht => by
    have e := h t (by omega)
    rw [ark_dropp (show t < tab.length by omega)]
    unfold hm_go hgo
    rw [tm_first_0 (show tls (S.2.1 (P t)) (S.2.2.1 (P t)) (S.2.2.2 (P t)) = (ark tab t).2 from congrArg Prod.snd e)]
    by_cases q : wfh x (ark tab t).2 0 = -1
    · rw [if_pos q, if_pos q]
      exact hm_go_l h m (t + 1) c (by omega)
    · rw [if_neg q, if_neg q]
      exact hm_go_l h m (t + 1) _ (by omega)
/-- THE RESULT of the class -/
def cl_rs (s : cl_S) (c : cl_N) (res : List arow) (rw : Nat) : Prop := (c.2.2.2.2.1 = -1 ∧ res = []) ∨ ∃ j : Nat, j < c.2.2.1 ∧ c.2.2.2.2.1 = nI j ∧ c.2.2.2.1 j 8 = nI 1 ∧ semc s c j = some res ∧ c.2.2.2.1 j 1 = nI rw ∧ rw ≤ 6
/-- its table -/
theorem cl_rs.tb {ids : Nat → ClassId} {h : rl_H} {s : cl_S} {c : cl_N} {res : List arow} {rw : Nat} (H : cl_rs s c res rw) (D : cl_dp ids h s c) (hw : ∀ k : Nat, k < c.2.2.1 → ∃ w : Nat, 1 ≤ w ∧ w ≤ 6 ∧ c.2.2.2.1 k 1 = nI w) : (c.2.2.2.2.1 = -1 ∧ res = []) ∨ ∃ j : Nat, j < c.2.2.1 ∧ c.2.2.2.2.1 = nI j ∧ c.2.2.2.1 j 1 = nI rw ∧ ctb ids h (c.1 j + 1) rw res ∧ aok rw res := by
  rcases H with H | ⟨j, h1, h2, h3, h4, h5, h6⟩
  · exact Or.inl H
  · refine Or.inr ⟨j, h1, h2, h5, ?_⟩
    rcases D.2.2 j h1 with g | ⟨-, tab, w, g1, g2, g3, g4⟩ | ⟨g, -⟩
    · exact absurd (h3.symm.trans g) (by decide +kernel)
    · obtain rfl : tab = res := Option.some.inj (g2.symm.trans h4)
      have w6 : w ≤ 6 := by
        obtain ⟨P, S, t, -⟩ := id g3
        exact t.2.2.2.2.2
      obtain ⟨w9, u1, u2, u3⟩ := hw j h1
      have e1 : w = w9 := nI_inj2 (by omega) (by omega) (g1.symm.trans u3)
      have r6 : nI rw = nI w9 := h5.symm.trans u3
      have e2 : rw = w9 := nI_inj2 (by omega) (by omega) r6
      rw [e2, ← e1]
      exact ⟨g3, g4⟩
    · exact absurd (h3.symm.trans g) (by decide +kernel)

set_option maxHeartbeats 4000000 in
set_option maxRecDepth 100000 in
theorem cd_X7_resultTuple (l : Launch) (D : va_G) (ids : Nat → ClassId) (H0 : Heap) (h : rl_H) (n : Nat) (x L : Nat) (s : cl_S) (c : cl_N) (res : List arow) (rw : Nat) (q : Int32) (hk : cl_ok ids h n x L s c) (hd : cl_dp ids h s c) (hr : cl_rs s c res rw) : rl_Met l (rl_e D ids H0) rl_BW rl_Ns yX7_resultTuple cX7_resultTuple 3 (some (.object "RowLineage$Tuple")) ({ frames := 2, cells := 0, slots := 0, locals := 42 }) [.ref x, .int q] h n (fun v h' n' => ∃ z : Value, v = some z ∧ h' = h ∧ n' = n ∧ ((z = .null ∧ ¬ (∃ t : Nat, t < res.length ∧ q = nI t)) ∨ ∃ t j i : Nat, t < res.length ∧ q = nI t ∧ j < c.2.2.1 ∧ c.2.2.2.2.1 = nI j ∧ i < 80 ∧ z = .ref (c.1 j + 1 + 2 + 5 * i) ∧ ∃ (P : Nat → Nat) (S : tb_S), tb_at ids h (c.1 j + 1) res.length rw P S ∧ crw S i rw = ark res t)) := by
  have nc16 := cl_nc hk
  have hc := hk.1
  obtain ⟨c1, c2, c3, ⟨pn, c4, c5⟩, ⟨pt, c6, c7⟩, c8, c9, c10, c11, c12, c13, c14, c15⟩ := id hc
  have htb := hr.tb hd (fun k hk9 => cl_wd hk hk9)
  refine rl_Met.of (by decide +kernel) (Nat.le_of_ble_eq_true rfl) ?_
  intro X hC hB
  show rl_G X (rl_e D ids H0) 0 [some (.ref x), some (.int q), none] [] h n 0 0
  refine o_aload_n hC dX7_resultTuple_0 (by rfl) ?_
  refine o_aload_n hC dX7_resultTuple_1 (by rfl) ?_
  refine o_getf hC (fX7_49 hC rfl) dX7_resultTuple_2 (by repeat (first | with_reducible assumption | (rw [rl_u_s]; done) | (rw [rl_u_s]; rfl) | rw [rl_u_n (by first | with_reducible assumption | omega)])) (by first | rfl | with_reducible assumption) ?_
  refine o_callV1 hC rl_BW_good rl_Ns_nw (by exact hB.2.2.2.2.2) YX7_tableOf IX7_tableOf VX7_tableOf (mX7_127 hC) (by rw [hB.1]; exact cg_X7_tableOf l D ids H0 _ _ x s c _ hc) (by exact c1) rfl rfl (Nat.le_of_ble_eq_true rfl) (by rw [hB.2.1]; first | exact Nat.le_of_ble_eq_true rfl | (dsimp only; omega)) (by rw [hB.2.1]; first | exact Nat.le_of_ble_eq_true rfl | (dsimp only; omega)) (by rw [hB.2.1]; first | exact Nat.le_of_ble_eq_true rfl | (dsimp only; omega)) (by rw [hB.2.1]; first | exact Nat.le_of_ble_eq_true rfl | (dsimp only; omega)) dX7_resultTuple_5 (fun v h_5 n_5 p_5 => ?_)
  obtain ⟨z, rfl, rfl, rfl, hz⟩ := p_5
  try dsimp only [Option.toList, List.cons_append, List.nil_append]
  rcases hz with ⟨rfl, hz⟩ | ⟨j, hj, e, rfl⟩
  · try dsimp only [Option.toList, List.cons_append, List.nil_append]
    have hre : res = [] := by
      rcases htb with ⟨-, e⟩ | ⟨j, h1, h2, -⟩
      · exact e
      · exact absurd ⟨j, h1, h2⟩ hz
    refine o_astore_n hC dX7_resultTuple_8 (Nat.le_of_ble_eq_true rfl) ?_
    refine o_iload_n hC dX7_resultTuple_9 (by rfl) ?_
    refine o_if_lt (tgt := 30) hC dX7_resultTuple_10 (by decide) (fun c_10 => ?_) (fun c_10 => ?_)
    · refine o_null hC dX7_resultTuple_30 ?_
      refine o_aret hC hB (by first | exact Or.inl ⟨_, rfl⟩ | exact Or.inr ⟨_, rfl⟩) (by first | exact Or.inl rfl | exact Or.inr ⟨_, rfl⟩) dX7_resultTuple_31 (Nat.le_of_ble_eq_true rfl) (Nat.le_of_ble_eq_true rfl) ?_
      exact ⟨_, rfl, rfl, rfl, Or.inl ⟨rfl, fun ⟨t, ht, _⟩ => by rw [hre] at ht; exact absurd ht (Nat.not_lt_zero t)⟩⟩
    · refine o_iload_n hC dX7_resultTuple_13 (by rfl) ?_
      refine o_aload_n hC dX7_resultTuple_14 (by rfl) ?_
      refine o_getf hC (fX7_138 hC rfl) dX7_resultTuple_15 (by repeat (first | with_reducible assumption | (rw [rl_u_s]; done) | (rw [rl_u_s]; rfl) | rw [rl_u_n (by first | with_reducible assumption | omega)])) (by first | rfl | with_reducible assumption) ?_
      refine o_icmp_ge (tgt := 30) hC dX7_resultTuple_18 (by decide) (fun c_18 => ?_) (fun c_18 => ?_)
      · refine o_null hC dX7_resultTuple_30 ?_
        refine o_aret hC hB (by first | exact Or.inl ⟨_, rfl⟩ | exact Or.inr ⟨_, rfl⟩) (by first | exact Or.inl rfl | exact Or.inr ⟨_, rfl⟩) dX7_resultTuple_31 (Nat.le_of_ble_eq_true rfl) (Nat.le_of_ble_eq_true rfl) ?_
        exact ⟨_, rfl, rfl, rfl, Or.inl ⟨rfl, fun ⟨t, ht, _⟩ => by rw [hre] at ht; exact absurd ht (Nat.not_lt_zero t)⟩⟩
      · exact absurd (nI_of_lt (by decide) c_10 c_18) (fun ⟨j, hj, _⟩ => absurd hj (by omega))
  · try dsimp only [Option.toList, List.cons_append, List.nil_append]
    obtain ⟨P, S, ht, hP, hrow⟩ : ctb ids h_5 (c.1 j + 1) rw res := by
      rcases htb with ⟨u, -⟩ | ⟨j2, u1, u2, -, u3, -⟩
      · exact absurd (e.symm.trans u) (nI_m1 (by omega))
      · have := nI_inj2 (by omega) (by omega) (e.symm.trans u2)
        subst this
        exact u3
    obtain ⟨t1, ⟨tf, t2, t3⟩, t4, t5, t6, t7⟩ := id ht
    refine o_astore_n hC dX7_resultTuple_8 (Nat.le_of_ble_eq_true rfl) ?_
    refine o_iload_n hC dX7_resultTuple_9 (by rfl) ?_
    refine o_if_lt (tgt := 30) hC dX7_resultTuple_10 (by decide) (fun c_10 => ?_) (fun c_10 => ?_)
    · refine o_null hC dX7_resultTuple_30 ?_
      refine o_aret hC hB (by first | exact Or.inl ⟨_, rfl⟩ | exact Or.inr ⟨_, rfl⟩) (by first | exact Or.inl rfl | exact Or.inr ⟨_, rfl⟩) dX7_resultTuple_31 (Nat.le_of_ble_eq_true rfl) (Nat.le_of_ble_eq_true rfl) ?_
      first
      | exact ⟨_, rfl, rfl, rfl, Or.inr ⟨u, j, P u, hu, rfl, hj, e, t4 u (by omega), rfl, P, S, ht, hrow u hu⟩⟩
      | exact ⟨_, rfl, rfl, rfl, Or.inl ⟨rfl, fun ⟨t, ht9, e9⟩ => absurd c_10 (by rw [e9]; exact nI_pos (by omega))⟩⟩
      | exact ⟨_, rfl, rfl, rfl, Or.inl ⟨rfl, fun ⟨t, ht9, e9⟩ => absurd c_18 (by rw [e9]; exact nI_ge ht9 (by omega))⟩⟩
    · refine o_iload_n hC dX7_resultTuple_13 (by rfl) ?_
      refine o_aload_n hC dX7_resultTuple_14 (by rfl) ?_
      refine o_getf hC (fX7_138 hC rfl) dX7_resultTuple_15 (by repeat (first | with_reducible assumption | (rw [rl_u_s]; done) | (rw [rl_u_s]; rfl) | rw [rl_u_n (by first | with_reducible assumption | omega)])) (by first | rfl | with_reducible assumption) ?_
      refine o_icmp_ge (tgt := 30) hC dX7_resultTuple_18 (by decide) (fun c_18 => ?_) (fun c_18 => ?_)
      · refine o_null hC dX7_resultTuple_30 ?_
        refine o_aret hC hB (by first | exact Or.inl ⟨_, rfl⟩ | exact Or.inr ⟨_, rfl⟩) (by first | exact Or.inl rfl | exact Or.inr ⟨_, rfl⟩) dX7_resultTuple_31 (Nat.le_of_ble_eq_true rfl) (Nat.le_of_ble_eq_true rfl) ?_
        first
        | exact ⟨_, rfl, rfl, rfl, Or.inr ⟨u, j, P u, hu, rfl, hj, e, t4 u (by omega), rfl, P, S, ht, hrow u hu⟩⟩
        | exact ⟨_, rfl, rfl, rfl, Or.inl ⟨rfl, fun ⟨t, ht9, e9⟩ => absurd c_10 (by rw [e9]; exact nI_pos (by omega))⟩⟩
        | exact ⟨_, rfl, rfl, rfl, Or.inl ⟨rfl, fun ⟨t, ht9, e9⟩ => absurd c_18 (by rw [e9]; exact nI_ge ht9 (by omega))⟩⟩
      · obtain ⟨u, hu, rfl⟩ := nI_of_lt (k := res.length) (by omega) c_10 c_18
        refine o_aload_n hC dX7_resultTuple_21 (by rfl) ?_
        refine o_getf hC (fX7_195 hC rfl) dX7_resultTuple_22 (by repeat (first | with_reducible assumption | (rw [rl_u_s]; done) | (rw [rl_u_s]; rfl) | rw [rl_u_n (by first | with_reducible assumption | omega)])) (by first | rfl | with_reducible assumption) ?_
        refine o_iload_n hC dX7_resultTuple_25 (by rfl) ?_
        refine o_aaldN (t0 := 3) (k := u) hC rfl dX7_resultTuple_26 t2 (by omega) (by decide) ?_
        rw [t3 u (by omega)]
        show rl_G X _ _ _ (.ref _ :: _) _ _ _ _
        refine o_goto (tgt := 31) hC dX7_resultTuple_27 (by decide) ?_
        refine o_aret hC hB (by first | exact Or.inl ⟨_, rfl⟩ | exact Or.inr ⟨_, rfl⟩) (by first | exact Or.inl rfl | exact Or.inr ⟨_, rfl⟩) dX7_resultTuple_31 (Nat.le_of_ble_eq_true rfl) (Nat.le_of_ble_eq_true rfl) ?_
        first
        | exact ⟨_, rfl, rfl, rfl, Or.inr ⟨u, j, P u, hu, rfl, hj, e, t4 u (by omega), rfl, P, S, ht, hrow u hu⟩⟩
        | exact ⟨_, rfl, rfl, rfl, Or.inl ⟨rfl, fun ⟨t, ht9, e9⟩ => absurd c_10 (by rw [e9]; exact nI_pos (by omega))⟩⟩
        | exact ⟨_, rfl, rfl, rfl, Or.inl ⟨rfl, fun ⟨t, ht9, e9⟩ => absurd c_18 (by rw [e9]; exact nI_ge ht9 (by omega))⟩⟩

set_option maxHeartbeats 4000000 in
set_option maxRecDepth 100000 in
theorem cd_X7_asNumber (l : Launch) (D : va_G) (ids : Nat → ClassId) (H0 : Heap) (h : rl_H) (n : Nat) (q : Int32)  : rl_Met l (rl_e D ids H0) rl_BW rl_Ns yX7_asNumber cX7_asNumber 1 (some .int) ({ frames := 0, cells := 0, slots := 0, locals := 0 }) [.int q] h n (fun v h' n' => v = some (.int (if q = nI 0 then nI 0 else nI 1)) ∧ h' = h ∧ n' = n) := by
  refine rl_Met.of (by decide +kernel) (Nat.le_of_ble_eq_true rfl) ?_
  intro X hC hB
  show rl_G X (rl_e D ids H0) 0 [some (.int q)] [] h n 0 0
  refine o_iload_n hC dX7_asNumber_0 (by rfl) ?_
  refine o_if_eq (tgt := 8) hC dX7_asNumber_1 (by decide) (fun c_1 => ?_) (fun c_1 => ?_)
  · refine o_iconst (v := nI 0) hC dX7_asNumber_8 (by decide +kernel) ?_
    refine o_iret hC hB dX7_asNumber_9 (Nat.le_of_ble_eq_true rfl) (Nat.le_of_ble_eq_true rfl) ?_
    first
    | exact ⟨by rw [if_pos (show q = nI 0 from c_1)], rfl, rfl⟩
    | exact ⟨by rw [if_neg (show ¬ q = nI 0 from c_1)], rfl, rfl⟩
  · refine o_iconst (v := nI 1) hC dX7_asNumber_4 (by decide +kernel) ?_
    refine o_goto (tgt := 9) hC dX7_asNumber_5 (by decide) ?_
    refine o_iret hC hB dX7_asNumber_9 (Nat.le_of_ble_eq_true rfl) (Nat.le_of_ble_eq_true rfl) ?_
    first
    | exact ⟨by rw [if_pos (show q = nI 0 from c_1)], rfl, rfl⟩
    | exact ⟨by rw [if_neg (show ¬ q = nI 0 from c_1)], rfl, rfl⟩

theorem as_h (a : Int32) : (if (if a = -1 then nI 0 else nI 1) = nI 0 then nI 0 else nI 1) = (if a = -1 then nI 0 else nI 1) := by
  by_cases q : a = -1
  · rw [if_pos q, if_pos rfl]
  · rw [if_neg q, if_neg (by decide +kernel)]

set_option maxHeartbeats 4000000 in
set_option maxRecDepth 100000 in
theorem cd_X7_ways (l : Launch) (D : va_G) (ids : Nat → ClassId) (H0 : Heap) (h : rl_H) (n : Nat) (x L : Nat) (s : cl_S) (c : cl_N) (res : List arow) (rw : Nat) (q : Int32) (hk : cl_ok ids h n x L s c) (hd : cl_dp ids h s c) (hr : cl_rs s c res rw) : rl_Met l (rl_e D ids H0) rl_BW rl_Ns yX7_ways cX7_ways 3 (some .int) ({ frames := 3, cells := 0, slots := 0, locals := 64 }) [.ref x, .int q] h n (fun v h' n' => ∃ r : Int32, v = some (.int r) ∧ h' = h ∧ n' = n ∧ ((¬ (∃ t : Nat, t < res.length ∧ q = nI t) ∧ r = -1) ∨ ∃ t : Nat, t < res.length ∧ q = nI t ∧ r = nI (ark res t).2.length)) := by
  have nc16 := cl_nc hk
  have hc := hk.1
  obtain ⟨c1, c2, c3, ⟨pn, c4, c5⟩, ⟨pt, c6, c7⟩, c8, c9, c10, c11, c12, c13, c14, c15⟩ := id hc
  have htb := hr.tb hd (fun k hk9 => cl_wd hk hk9)
  refine rl_Met.of (by decide +kernel) (Nat.le_of_ble_eq_true rfl) ?_
  intro X hC hB
  show rl_G X (rl_e D ids H0) 0 [some (.ref x), some (.int q), none] [] h n 0 0
  refine o_aload_n hC dX7_ways_0 (by rfl) ?_
  refine o_iload_n hC dX7_ways_1 (by rfl) ?_
  refine o_callV1 hC rl_BW_good rl_Ns_nw (by exact hB.2.2.2.2.2) YX7_resultTuple IX7_resultTuple VX7_resultTuple (mX7_141 hC) (by rw [hB.1]; exact cd_X7_resultTuple l D ids H0 _ _ x L s c res rw _ hk hd hr) (by exact c1) rfl rfl (Nat.le_of_ble_eq_true rfl) (by rw [hB.2.1]; first | exact Nat.le_of_ble_eq_true rfl | (dsimp only; omega)) (by rw [hB.2.1]; first | exact Nat.le_of_ble_eq_true rfl | (dsimp only; omega)) (by rw [hB.2.1]; first | exact Nat.le_of_ble_eq_true rfl | (dsimp only; omega)) (by rw [hB.2.1]; first | exact Nat.le_of_ble_eq_true rfl | (dsimp only; omega)) dX7_ways_2 (fun v h_2 n_2 p_2 => ?_)
  obtain ⟨zv, rfl, rfl, rfl, hz⟩ := p_2
  try dsimp only [Option.toList, List.cons_append, List.nil_append]
  rcases hz with ⟨rfl, hz⟩ | ⟨t, j, i, htl, rfl, hj, hrs, hi, rfl, P, S, ht, er⟩
  · try dsimp only [Option.toList, List.cons_append, List.nil_append]
    refine o_astore_nN hC dX7_ways_5 (Nat.le_of_ble_eq_true rfl) ?_
    refine o_aload_nN hC dX7_ways_6 (by rfl) ?_
    refine o_ifnonnullN hC dX7_ways_7 ?_
    refine o_iconst (v := (-1 : Int32)) hC dX7_ways_10 (by decide +kernel) ?_
    refine o_goto (tgt := 21) hC dX7_ways_11 (by decide) ?_
    refine o_iret hC hB dX7_ways_21 (Nat.le_of_ble_eq_true rfl) (Nat.le_of_ble_eq_true rfl) ?_
    exact ⟨_, rfl, rfl, rfl, Or.inl ⟨hz, rfl⟩⟩
  · try dsimp only [Option.toList, List.cons_append, List.nil_append]
    obtain ⟨t1, ⟨tf, t2, t3⟩, t4, t5, t6, t7⟩ := id ht
    obtain ⟨e1, e2, e3⟩ := t5 i hi
    obtain ⟨w1, w2, w3, w4⟩ := id e3
    have ew : tls (S.2.1 i) (S.2.2.1 i) (S.2.2.2 i) = (ark res t).2 := congrArg Prod.snd er
    refine o_astore_n hC dX7_ways_5 (Nat.le_of_ble_eq_true rfl) ?_
    refine o_aload_n hC dX7_ways_6 (by rfl) ?_
    refine o_ifnonnull (tgt := 14) hC dX7_ways_7 (by decide) ?_
    refine o_aload_n hC dX7_ways_14 (by rfl) ?_
    refine o_getf hC (fX7_160 hC rfl) dX7_ways_15 (by repeat (first | with_reducible assumption | (rw [rl_u_s]; done) | (rw [rl_u_s]; rfl) | rw [rl_u_n (by first | with_reducible assumption | omega)])) (by first | rfl | with_reducible assumption) ?_
    refine o_getf hC (fX7_163 hC rfl) dX7_ways_18 (by repeat (first | with_reducible assumption | (rw [rl_u_s]; done) | (rw [rl_u_s]; rfl) | rw [rl_u_n (by first | with_reducible assumption | omega)])) (by first | rfl | with_reducible assumption) ?_
    refine o_iret hC hB dX7_ways_21 (Nat.le_of_ble_eq_true rfl) (Nat.le_of_ble_eq_true rfl) ?_
    exact ⟨_, rfl, rfl, rfl, Or.inr ⟨t, htl, rfl, by rw [← ew, tls_len]⟩⟩

set_option maxHeartbeats 4000000 in
set_option maxRecDepth 100000 in
theorem cd_X7_holds (l : Launch) (D : va_G) (ids : Nat → ClassId) (H0 : Heap) (h : rl_H) (n : Nat) (x L : Nat) (s : cl_S) (c : cl_N) (res : List arow) (rw : Nat) (q : Int32) (hk : cl_ok ids h n x L s c) (hd : cl_dp ids h s c) (hr : cl_rs s c res rw) : rl_Met l (rl_e D ids H0) rl_BW rl_Ns yX7_holds cX7_holds 3 (some .int) ({ frames := 3, cells := 0, slots := 0, locals := 64 }) [.ref x, .int q] h n (fun v h' n' => ∃ r : Int32, v = some (.int r) ∧ h' = h ∧ n' = n ∧ ((¬ (∃ t : Nat, t < res.length ∧ q = nI t) ∧ r = -1) ∨ ∃ t : Nat, t < res.length ∧ q = nI t ∧ r = (if wfh c.2.2.2.2.2 (ark res t).2 0 = -1 then nI 0 else nI 1))) := by
  have nc16 := cl_nc hk
  have hc := hk.1
  obtain ⟨c1, c2, c3, ⟨pn, c4, c5⟩, ⟨pt, c6, c7⟩, c8, c9, c10, c11, c12, c13, c14, c15⟩ := id hc
  have htb := hr.tb hd (fun k hk9 => cl_wd hk hk9)
  refine rl_Met.of (by decide +kernel) (Nat.le_of_ble_eq_true rfl) ?_
  intro X hC hB
  show rl_G X (rl_e D ids H0) 0 [some (.ref x), some (.int q), none] [] h n 0 0
  refine o_aload_n hC dX7_holds_0 (by rfl) ?_
  refine o_iload_n hC dX7_holds_1 (by rfl) ?_
  refine o_callV1 hC rl_BW_good rl_Ns_nw (by exact hB.2.2.2.2.2) YX7_resultTuple IX7_resultTuple VX7_resultTuple (mX7_141 hC) (by rw [hB.1]; exact cd_X7_resultTuple l D ids H0 _ _ x L s c res rw _ hk hd hr) (by exact c1) rfl rfl (Nat.le_of_ble_eq_true rfl) (by rw [hB.2.1]; first | exact Nat.le_of_ble_eq_true rfl | (dsimp only; omega)) (by rw [hB.2.1]; first | exact Nat.le_of_ble_eq_true rfl | (dsimp only; omega)) (by rw [hB.2.1]; first | exact Nat.le_of_ble_eq_true rfl | (dsimp only; omega)) (by rw [hB.2.1]; first | exact Nat.le_of_ble_eq_true rfl | (dsimp only; omega)) dX7_holds_2 (fun v h_2 n_2 p_2 => ?_)
  obtain ⟨zv, rfl, rfl, rfl, hz⟩ := p_2
  try dsimp only [Option.toList, List.cons_append, List.nil_append]
  rcases hz with ⟨rfl, hz⟩ | ⟨t, j, i, htl, rfl, hj, hrs, hi, rfl, P, S, ht, er⟩
  · try dsimp only [Option.toList, List.cons_append, List.nil_append]
    refine o_astore_nN hC dX7_holds_5 (Nat.le_of_ble_eq_true rfl) ?_
    refine o_aload_nN hC dX7_holds_6 (by rfl) ?_
    refine o_ifnonnullN hC dX7_holds_7 ?_
    refine o_iconst (v := (-1 : Int32)) hC dX7_holds_10 (by decide +kernel) ?_
    refine o_goto (tgt := 28) hC dX7_holds_11 (by decide) ?_
    refine o_iret hC hB dX7_holds_28 (Nat.le_of_ble_eq_true rfl) (Nat.le_of_ble_eq_true rfl) ?_
    exact ⟨_, rfl, rfl, rfl, Or.inl ⟨hz, rfl⟩⟩
  · try dsimp only [Option.toList, List.cons_append, List.nil_append]
    obtain ⟨t1, ⟨tf, t2, t3⟩, t4, t5, t6, t7⟩ := id ht
    obtain ⟨e1, e2, e3⟩ := t5 i hi
    obtain ⟨w1, w2, w3, w4⟩ := id e3
    have ew : tls (S.2.1 i) (S.2.2.1 i) (S.2.2.2 i) = (ark res t).2 := congrArg Prod.snd er
    refine o_astore_n hC dX7_holds_5 (Nat.le_of_ble_eq_true rfl) ?_
    refine o_aload_n hC dX7_holds_6 (by rfl) ?_
    refine o_ifnonnull (tgt := 14) hC dX7_holds_7 (by decide) ?_
    refine o_aload_n hC dX7_holds_14 (by rfl) ?_
    refine o_getf hC (fX7_160 hC rfl) dX7_holds_15 (by repeat (first | with_reducible assumption | (rw [rl_u_s]; done) | (rw [rl_u_s]; rfl) | rw [rl_u_n (by first | with_reducible assumption | omega)])) (by first | rfl | with_reducible assumption) ?_
    refine o_aload_n hC dX7_holds_18 (by rfl) ?_
    refine o_getf hC (fX7_71 hC rfl) dX7_holds_19 (by repeat (first | with_reducible assumption | (rw [rl_u_s]; done) | (rw [rl_u_s]; rfl) | rw [rl_u_n (by first | with_reducible assumption | omega)])) (by first | rfl | with_reducible assumption) ?_
    refine o_callV1 hC rl_BW_good rl_Ns_nw (by exact hB.2.2.2.2.2) YX6_holdsWith IX6_holdsWith VX6_holdsWith (mX7_183 hC) (by rw [hB.1]; exact ct_X6_holdsWith l D ids H0 _ _ (c.1 j + 1 + 2 + 5 * i + 2) _ _ _ _ e3) (by exact e3.1) rfl rfl (Nat.le_of_ble_eq_true rfl) (by rw [hB.2.1]; first | exact Nat.le_of_ble_eq_true rfl | (dsimp only; omega)) (by rw [hB.2.1]; first | exact Nat.le_of_ble_eq_true rfl | (dsimp only; omega)) (by rw [hB.2.1]; first | exact Nat.le_of_ble_eq_true rfl | (dsimp only; omega)) (by rw [hB.2.1]; first | exact Nat.le_of_ble_eq_true rfl | (dsimp only; omega)) dX7_holds_22 (fun v h_22 n_22 p_22 => ?_)
    obtain ⟨rfl, rfl, rfl⟩ := p_22
    rw [tm_first_0 ew]
    try dsimp only [Option.toList, List.cons_append, List.nil_append]
    refine o_callS1 hC rl_BW_good rl_Ns_nw (by exact hB.2.2.2.2.2) YX7_asNumber SX7_asNumber (mX7_187 hC) (by rw [hB.1]; exact cd_X7_asNumber l D ids H0 _ _ _) (Nat.le_of_ble_eq_true rfl) (by rw [hB.2.1]; first | exact Nat.le_of_ble_eq_true rfl | (dsimp only; omega)) (by rw [hB.2.1]; first | exact Nat.le_of_ble_eq_true rfl | (dsimp only; omega)) (by rw [hB.2.1]; first | exact Nat.le_of_ble_eq_true rfl | (dsimp only; omega)) (by rw [hB.2.1]; first | exact Nat.le_of_ble_eq_true rfl | (dsimp only; omega)) dX7_holds_25 (fun v h_25 n_25 p_25 => ?_)
    obtain ⟨rfl, rfl, rfl⟩ := p_25
    rw [as_h]
    try dsimp only [Option.toList, List.cons_append, List.nil_append]
    refine o_iret hC hB dX7_holds_28 (Nat.le_of_ble_eq_true rfl) (Nat.le_of_ble_eq_true rfl) ?_
    exact ⟨_, rfl, rfl, rfl, Or.inr ⟨t, htl, rfl, rfl⟩⟩

set_option maxHeartbeats 4000000 in
set_option maxRecDepth 100000 in
theorem cd_X7_made (l : Launch) (D : va_G) (ids : Nat → ClassId) (H0 : Heap) (h : rl_H) (n : Nat) (x L : Nat) (s : cl_S) (c : cl_N) (res : List arow) (rw : Nat) (q : Int32) (hk : cl_ok ids h n x L s c) (hd : cl_dp ids h s c) (hr : cl_rs s c res rw) : rl_Met l (rl_e D ids H0) rl_BW rl_Ns yX7_made cX7_made 3 (some .int) ({ frames := 3, cells := 0, slots := 0, locals := 64 }) [.ref x, .int q] h n (fun v h' n' => ∃ r : Int32, v = some (.int r) ∧ h' = h ∧ n' = n ∧ ((¬ (∃ t : Nat, t < res.length ∧ q = nI t) ∧ r = -1) ∨ ∃ t : Nat, t < res.length ∧ q = nI t ∧ r = wfh c.2.2.2.2.2 (ark res t).2 0)) := by
  have nc16 := cl_nc hk
  have hc := hk.1
  obtain ⟨c1, c2, c3, ⟨pn, c4, c5⟩, ⟨pt, c6, c7⟩, c8, c9, c10, c11, c12, c13, c14, c15⟩ := id hc
  have htb := hr.tb hd (fun k hk9 => cl_wd hk hk9)
  refine rl_Met.of (by decide +kernel) (Nat.le_of_ble_eq_true rfl) ?_
  intro X hC hB
  show rl_G X (rl_e D ids H0) 0 [some (.ref x), some (.int q), none] [] h n 0 0
  refine o_aload_n hC dX7_made_0 (by rfl) ?_
  refine o_iload_n hC dX7_made_1 (by rfl) ?_
  refine o_callV1 hC rl_BW_good rl_Ns_nw (by exact hB.2.2.2.2.2) YX7_resultTuple IX7_resultTuple VX7_resultTuple (mX7_141 hC) (by rw [hB.1]; exact cd_X7_resultTuple l D ids H0 _ _ x L s c res rw _ hk hd hr) (by exact c1) rfl rfl (Nat.le_of_ble_eq_true rfl) (by rw [hB.2.1]; first | exact Nat.le_of_ble_eq_true rfl | (dsimp only; omega)) (by rw [hB.2.1]; first | exact Nat.le_of_ble_eq_true rfl | (dsimp only; omega)) (by rw [hB.2.1]; first | exact Nat.le_of_ble_eq_true rfl | (dsimp only; omega)) (by rw [hB.2.1]; first | exact Nat.le_of_ble_eq_true rfl | (dsimp only; omega)) dX7_made_2 (fun v h_2 n_2 p_2 => ?_)
  obtain ⟨zv, rfl, rfl, rfl, hz⟩ := p_2
  try dsimp only [Option.toList, List.cons_append, List.nil_append]
  rcases hz with ⟨rfl, hz⟩ | ⟨t, j, i, htl, rfl, hj, hrs, hi, rfl, P, S, ht, er⟩
  · try dsimp only [Option.toList, List.cons_append, List.nil_append]
    refine o_astore_nN hC dX7_made_5 (Nat.le_of_ble_eq_true rfl) ?_
    refine o_aload_nN hC dX7_made_6 (by rfl) ?_
    refine o_ifnonnullN hC dX7_made_7 ?_
    refine o_iconst (v := (-1 : Int32)) hC dX7_made_10 (by decide +kernel) ?_
    refine o_goto (tgt := 25) hC dX7_made_11 (by decide) ?_
    refine o_iret hC hB dX7_made_25 (Nat.le_of_ble_eq_true rfl) (Nat.le_of_ble_eq_true rfl) ?_
    exact ⟨_, rfl, rfl, rfl, Or.inl ⟨hz, rfl⟩⟩
  · try dsimp only [Option.toList, List.cons_append, List.nil_append]
    obtain ⟨t1, ⟨tf, t2, t3⟩, t4, t5, t6, t7⟩ := id ht
    obtain ⟨e1, e2, e3⟩ := t5 i hi
    obtain ⟨w1, w2, w3, w4⟩ := id e3
    have ew : tls (S.2.1 i) (S.2.2.1 i) (S.2.2.2 i) = (ark res t).2 := congrArg Prod.snd er
    refine o_astore_n hC dX7_made_5 (Nat.le_of_ble_eq_true rfl) ?_
    refine o_aload_n hC dX7_made_6 (by rfl) ?_
    refine o_ifnonnull (tgt := 14) hC dX7_made_7 (by decide) ?_
    refine o_aload_n hC dX7_made_14 (by rfl) ?_
    refine o_getf hC (fX7_160 hC rfl) dX7_made_15 (by repeat (first | with_reducible assumption | (rw [rl_u_s]; done) | (rw [rl_u_s]; rfl) | rw [rl_u_n (by first | with_reducible assumption | omega)])) (by first | rfl | with_reducible assumption) ?_
    refine o_aload_n hC dX7_made_18 (by rfl) ?_
    refine o_getf hC (fX7_71 hC rfl) dX7_made_19 (by repeat (first | with_reducible assumption | (rw [rl_u_s]; done) | (rw [rl_u_s]; rfl) | rw [rl_u_n (by first | with_reducible assumption | omega)])) (by first | rfl | with_reducible assumption) ?_
    refine o_callV1 hC rl_BW_good rl_Ns_nw (by exact hB.2.2.2.2.2) YX6_firstThatHolds IX6_firstThatHolds VX6_firstThatHolds (mX7_191 hC) (by rw [hB.1]; exact ct_X6_firstThatHolds l D ids H0 _ _ (c.1 j + 1 + 2 + 5 * i + 2) _ _ _ _ e3) (by exact e3.1) rfl rfl (Nat.le_of_ble_eq_true rfl) (by rw [hB.2.1]; first | exact Nat.le_of_ble_eq_true rfl | (dsimp only; omega)) (by rw [hB.2.1]; first | exact Nat.le_of_ble_eq_true rfl | (dsimp only; omega)) (by rw [hB.2.1]; first | exact Nat.le_of_ble_eq_true rfl | (dsimp only; omega)) (by rw [hB.2.1]; first | exact Nat.le_of_ble_eq_true rfl | (dsimp only; omega)) dX7_made_22 (fun v h_22 n_22 p_22 => ?_)
    obtain ⟨rfl, rfl, rfl⟩ := p_22
    rw [tm_first_0 ew]
    try dsimp only [Option.toList, List.cons_append, List.nil_append]
    refine o_iret hC hB dX7_made_25 (Nat.le_of_ble_eq_true rfl) (Nat.le_of_ble_eq_true rfl) ?_
    exact ⟨_, rfl, rfl, rfl, Or.inr ⟨t, htl, rfl, rfl⟩⟩
end
section
/-! THE MODEL, functionally: what looks at THE RESULT -/

set_option maxHeartbeats 4000000 in
set_option maxRecDepth 100000 in
theorem cf_X8_first (l : Launch) (D : va_G) (ids : Nat → ClassId) (H0 : Heap) (h : rl_H) (n : Nat) (m : Nat) (T : md_T) (fu : Int32) (k : Nat) (A : md_D) (t : Nat) (x : Int64) (W : List tT) (hq : mf ids h h m T fu k A) (ht : t < 80) (hw : mws A (1280 + t) W) : rl_Met l (rl_e D ids H0) rl_BW rl_Ns yX8_first cX8_first 6 (some .int) ({ frames := 0, cells := 0, slots := 0, locals := 0 }) [.ref m, .int (nI t), .long x] h n (fun v h' n' => v = some (.int (wfh x W 0)) ∧ h' = h ∧ n' = n) := by
  obtain ⟨hm0, g12, g13, g14, g15, g16, g17, g18, g19, g20, g21, g22⟩ := id hq
  have g0 := hm0.1
  have gk := hm0.2.1
  have b13 := hq.b13
  have b15 := hq.b15
  have b21 := hq.b21
  have w12 := hw.2.1
  refine rl_Met.of (by decide +kernel) (Nat.le_of_ble_eq_true rfl) ?_
  intro X hC hB
  have loop : ∀ (mm i : Nat), i + mm = W.length → wfh x W 0 = wfh x (W.drop i) i → rl_G X (rl_e D ids H0) 10 [some (.ref m), some (.int (nI t)), some (.long x), none, some (.int (nI (1280 + t))), some (.int (nI i))] [] h n 0 0 := by
    intro mm
    induction mm with
    | zero =>
      intro i hm he
      refine o_iload hC dX8_first_10 (by rfl) ?_
      refine o_aload_n hC dX8_first_12 (by rfl) ?_
      refine o_getf hC (fX8_53 hC rfl) dX8_first_13 (by repeat (first | with_reducible assumption | (rw [rl_u_s]; done) | (rw [rl_u_s]; rfl) | rw [rl_u_n (by first | with_reducible assumption | omega)])) (by first | rfl | with_reducible assumption) ?_
      refine o_iload hC dX8_first_16 (by rfl) ?_
      refine o_ialdN (t0 := 0) (k := 1280 + t) hC rfl dX8_first_18 (by repeat (first | with_reducible assumption | (rw [rl_u_s]; done) | (rw [rl_u_s]; rfl) | rw [rl_u_n (by first | with_reducible assumption | omega)])) (by omega) (by decide) ?_
      rw [hw.1]
      refine o_icmp_ge (tgt := 75) hC dX8_first_19 (by decide) (fun c_19 => ?_) (fun c_19 => ?_)
      · refine o_iconst (v := (-1 : Int32)) hC dX8_first_75 (by decide +kernel) ?_
        refine o_iret hC hB dX8_first_76 (Nat.le_of_ble_eq_true rfl) (Nat.le_of_ble_eq_true rfl) ?_
        exact ⟨by rw [he, List.drop_eq_nil_of_le (by omega)]; rfl, rfl, rfl⟩
      · exact absurd (nI_le (by omega) (by omega)) c_19
    | succ mm ih =>
      intro i hm he
      have hil : i < W.length := by omega
      rw [drop_s hil, mws_fn hw hil] at he
      refine o_iload hC dX8_first_10 (by rfl) ?_
      refine o_aload_n hC dX8_first_12 (by rfl) ?_
      refine o_getf hC (fX8_53 hC rfl) dX8_first_13 (by repeat (first | with_reducible assumption | (rw [rl_u_s]; done) | (rw [rl_u_s]; rfl) | rw [rl_u_n (by first | with_reducible assumption | omega)])) (by first | rfl | with_reducible assumption) ?_
      refine o_iload hC dX8_first_16 (by rfl) ?_
      refine o_ialdN (t0 := 0) (k := 1280 + t) hC rfl dX8_first_18 (by repeat (first | with_reducible assumption | (rw [rl_u_s]; done) | (rw [rl_u_s]; rfl) | rw [rl_u_n (by first | with_reducible assumption | omega)])) (by omega) (by decide) ?_
      rw [hw.1]
      refine o_icmp_ge (tgt := 75) hC dX8_first_19 (by decide) (fun c_19 => ?_) (fun c_19 => ?_)
      · refine o_iconst (v := (-1 : Int32)) hC dX8_first_75 (by decide +kernel) ?_
        refine o_iret hC hB dX8_first_76 (Nat.le_of_ble_eq_true rfl) (Nat.le_of_ble_eq_true rfl) ?_
        exact absurd c_19 (nI_ge (by omega) (by omega))
      · refine o_aload_n hC dX8_first_22 (by rfl) ?_
        refine o_getf hC (fX8_56 hC rfl) dX8_first_23 (by repeat (first | with_reducible assumption | (rw [rl_u_s]; done) | (rw [rl_u_s]; rfl) | rw [rl_u_n (by first | with_reducible assumption | omega)])) (by first | rfl | with_reducible assumption) ?_
        refine o_bipush (v := nI 12) hC dX8_first_26 (by decide +kernel) ?_
        refine o_iload hC dX8_first_28 (by rfl) ?_
        refine o_imul hC dX8_first_30 ?_
        try rw [nI_mul]
        refine o_iload hC dX8_first_31 (by rfl) ?_
        refine o_iadd hC dX8_first_33 ?_
        try rw [nI_add]
        refine o_laldN (t0 := 1) hC rfl dX8_first_34 (by repeat (first | with_reducible assumption | (rw [rl_u_s]; done) | (rw [rl_u_s]; rfl) | rw [rl_u_n (by first | with_reducible assumption | omega)])) (by omega) (by decide) ?_
        refine o_lload_n hC dX8_first_35 (by rfl) ?_
        refine o_ldc2 hC nX8_85 dX8_first_36 ?_
        refine o_lxor hC dX8_first_39 ?_
        refine o_land hC dX8_first_40 ?_
        refine o_lconst (v := 0) hC dX8_first_41 (by decide +kernel) ?_
        refine o_lcmp hC dX8_first_42 ?_
        refine o_if_ne (tgt := 69) hC dX8_first_43 (by decide) (fun c_43 => ?_) (fun c_43 => ?_)
        · refine o_iinc hC dX8_first_69 (by rfl) (rl_inc _) (Nat.le_of_ble_eq_true rfl) ?_
          refine o_goto (tgt := 10) hC dX8_first_72 (by decide) ?_
          refine ih (i + 1) (by omega) (he.trans ?_)
          refine if_neg (c := A.2.2.2.2.1 (12 * (1280 + t) + i) &&& (x ^^^ (-1)) = 0 ∧ A.2.2.2.2.2.1 (12 * (1280 + t) + i) &&& x = 0) (fun w => ?_)
          first
          | exact c_43 ((lg_cmp_eq _ _).mpr w.1)
          | exact c_63 ((lg_cmp_eq _ _).mpr w.2)
        · refine o_aload_n hC dX8_first_46 (by rfl) ?_
          refine o_getf hC (fX8_60 hC rfl) dX8_first_47 (by repeat (first | with_reducible assumption | (rw [rl_u_s]; done) | (rw [rl_u_s]; rfl) | rw [rl_u_n (by first | with_reducible assumption | omega)])) (by first | rfl | with_reducible assumption) ?_
          refine o_bipush (v := nI 12) hC dX8_first_50 (by decide +kernel) ?_
          refine o_iload hC dX8_first_52 (by rfl) ?_
          refine o_imul hC dX8_first_54 ?_
          try rw [nI_mul]
          refine o_iload hC dX8_first_55 (by rfl) ?_
          refine o_iadd hC dX8_first_57 ?_
          try rw [nI_add]
          refine o_laldN (t0 := 1) hC rfl dX8_first_58 (by repeat (first | with_reducible assumption | (rw [rl_u_s]; done) | (rw [rl_u_s]; rfl) | rw [rl_u_n (by first | with_reducible assumption | omega)])) (by omega) (by decide) ?_
          refine o_lload_n hC dX8_first_59 (by rfl) ?_
          refine o_land hC dX8_first_60 ?_
          refine o_lconst (v := 0) hC dX8_first_61 (by decide +kernel) ?_
          refine o_lcmp hC dX8_first_62 ?_
          refine o_if_ne (tgt := 69) hC dX8_first_63 (by decide) (fun c_63 => ?_) (fun c_63 => ?_)
          · refine o_iinc hC dX8_first_69 (by rfl) (rl_inc _) (Nat.le_of_ble_eq_true rfl) ?_
            refine o_goto (tgt := 10) hC dX8_first_72 (by decide) ?_
            refine ih (i + 1) (by omega) (he.trans ?_)
            refine if_neg (c := A.2.2.2.2.1 (12 * (1280 + t) + i) &&& (x ^^^ (-1)) = 0 ∧ A.2.2.2.2.2.1 (12 * (1280 + t) + i) &&& x = 0) (fun w => ?_)
            first
            | exact c_43 ((lg_cmp_eq _ _).mpr w.1)
            | exact c_63 ((lg_cmp_eq _ _).mpr w.2)
          · refine o_iload hC dX8_first_66 (by rfl) ?_
            refine o_iret hC hB dX8_first_68 (Nat.le_of_ble_eq_true rfl) (Nat.le_of_ble_eq_true rfl) ?_
            refine ⟨?_, rfl, rfl⟩
            rw [he]
            exact (congrArg (fun z => some (Value.int z)) (if_pos (c := A.2.2.2.2.1 (12 * (1280 + t) + i) &&& (x ^^^ (-1)) = 0 ∧ A.2.2.2.2.2.1 (12 * (1280 + t) + i) &&& x = 0) ⟨(lg_cmp_eq _ _).mp (by first | exact c_43 | exact Classical.not_not.mp c_43), (lg_cmp_eq _ _).mp (by first | exact c_63 | exact Classical.not_not.mp c_63)⟩)).symm
  show rl_G X (rl_e D ids H0) 0 [some (.ref m), some (.int (nI t)), some (.long x), none, none, none] [] h n 0 0
  refine o_sipush (v := nI 1280) hC dX8_first_0 (by decide +kernel) ?_
  refine o_iload_n hC dX8_first_3 (by rfl) ?_
  refine o_iadd hC dX8_first_4 ?_
  try rw [nI_add]
  refine o_istore hC dX8_first_5 (Nat.le_of_ble_eq_true rfl) ?_
  refine o_iconst (v := nI 0) hC dX8_first_7 (by decide +kernel) ?_
  refine o_istore hC dX8_first_8 (Nat.le_of_ble_eq_true rfl) ?_
  exact loop W.length 0 (by omega) rfl

set_option maxHeartbeats 4000000 in
set_option maxRecDepth 100000 in
theorem cf_X8_isSo (l : Launch) (D : va_G) (ids : Nat → ClassId) (H0 : Heap) (h : rl_H) (n : Nat) (m : Nat) (T : md_T) (fu : Int32) (k : Nat) (A : md_D) (t : Nat) (x : Int64) (W : List tT) (hq : mf ids h h m T fu k A) (ht : t < 80) (hw : mws A (1280 + t) W) : rl_Met l (rl_e D ids H0) rl_BW rl_Ns yX8_isSo cX8_isSo 4 (some .boolean) ({ frames := 1, cells := 0, slots := 0, locals := 25 }) [.ref m, .int (nI t), .long x] h n (fun v h' n' => v = some (.int (if wfh x W 0 = -1 then nI 0 else nI 1)) ∧ h' = h ∧ n' = n) := by
  obtain ⟨hm0, g12, g13, g14, g15, g16, g17, g18, g19, g20, g21, g22⟩ := id hq
  have g0 := hm0.1
  have gk := hm0.2.1
  have b13 := hq.b13
  have b15 := hq.b15
  have b21 := hq.b21
  refine rl_Met.of (by decide +kernel) (Nat.le_of_ble_eq_true rfl) ?_
  intro X hC hB
  show rl_G X (rl_e D ids H0) 0 [some (.ref m), some (.int (nI t)), some (.long x), none] [] h n 0 0
  refine o_aload_n hC dX8_isSo_0 (by rfl) ?_
  refine o_iload_n hC dX8_isSo_1 (by rfl) ?_
  refine o_lload_n hC dX8_isSo_2 (by rfl) ?_
  refine o_callV2 hC rl_BW_good rl_Ns_nw (by exact hB.2.2.2.2.2) YX8_first IX8_first VX8_first (mX8_202 hC) (by rw [hB.1]; exact cf_X8_first l D ids H0 _ _ m T _ _ _ t x W hq ht hw) (by exact g0) rfl rfl (Nat.le_of_ble_eq_true rfl) (by rw [hB.2.1]; first | exact Nat.le_of_ble_eq_true rfl | (dsimp only; omega)) (by rw [hB.2.1]; first | exact Nat.le_of_ble_eq_true rfl | (dsimp only; omega)) (by rw [hB.2.1]; first | exact Nat.le_of_ble_eq_true rfl | (dsimp only; omega)) (by rw [hB.2.1]; first | exact Nat.le_of_ble_eq_true rfl | (dsimp only; omega)) dX8_isSo_3 (fun v h_3 n_3 p_3 => ?_)
  obtain ⟨rfl, rfl, rfl⟩ := p_3
  try dsimp only [Option.toList, List.cons_append, List.nil_append]
  refine o_iconst (v := (-1 : Int32)) hC dX8_isSo_6 (by decide +kernel) ?_
  refine o_icmp_eq (tgt := 14) hC dX8_isSo_7 (by decide) (fun c_7 => ?_) (fun c_7 => ?_)
  · refine o_iconst (v := nI 0) hC dX8_isSo_14 (by decide +kernel) ?_
    refine o_zret hC hB dX8_isSo_15 (by first | rfl | decide +kernel) (Nat.le_of_ble_eq_true rfl) (Nat.le_of_ble_eq_true rfl) ?_
    first
    | exact ⟨by rw [if_pos c_7], rfl, rfl⟩
    | exact ⟨by rw [if_neg c_7], rfl, rfl⟩
  · refine o_iconst (v := nI 1) hC dX8_isSo_10 (by decide +kernel) ?_
    refine o_goto (tgt := 15) hC dX8_isSo_11 (by decide) ?_
    refine o_zret hC hB dX8_isSo_15 (by first | rfl | decide +kernel) (Nat.le_of_ble_eq_true rfl) (Nat.le_of_ble_eq_true rfl) ?_
    first
    | exact ⟨by rw [if_pos c_7], rfl, rfl⟩
    | exact ⟨by rw [if_neg c_7], rfl, rfl⟩

set_option maxHeartbeats 4000000 in
set_option maxRecDepth 100000 in
theorem cf_X8_ways (l : Launch) (D : va_G) (ids : Nat → ClassId) (H0 : Heap) (h : rl_H) (n : Nat) (m : Nat) (T : md_T) (fu : Int32) (k : Nat) (A : md_D) (S : md_A) (z : sh_S) (res : List arow) (rw : Nat) (q : Int32) (hq : mf ids h h m T fu k A) (hu : md_un ids h m T fu k S z) (hr : mrs A T res rw)  : rl_Met l (rl_e D ids H0) rl_BW rl_Ns yX8_ways cX8_ways 2 (some .int) ({ frames := 1, cells := 0, slots := 0, locals := 21 }) [.ref m, .int q] h n (fun v h' n' => ∃ r : Int32, v = some (.int r) ∧ n' = n ∧ mf ids h h' m (nI 0, T.2) fu k A ∧ ((¬ (∃ t : Nat, t < res.length ∧ q = nI t) ∧ r = -1) ∨ ∃ t : Nat, t < res.length ∧ q = nI t ∧ r = nI (ark res t).2.length)) := by
  obtain ⟨hm0, g12, g13, g14, g15, g16, g17, g18, g19, g20, g21, g22⟩ := id hq
  have g0 := hm0.1
  have gk := hm0.2.1
  have b13 := hq.b13
  have b15 := hq.b15
  have b21 := hq.b21
  have hq0 := hq.ob (nI 0, T.2) fu k gk
  have r80 := hr.2.1.2.2
  have h16 := hr.1.1
  refine rl_Met.of (by decide +kernel) (Nat.le_of_ble_eq_true rfl) ?_
  intro X hC hB
  show rl_G X (rl_e D ids H0) 0 [some (.ref m), some (.int q)] [] h n 0 0
  refine o_aload_n hC dX8_ways_0 (by rfl) ?_
  refine o_iconst (v := nI 0) hC dX8_ways_1 (by decide +kernel) ?_
  refine o_putf hC (fX8_78 hC rfl) (fwX8 rfl rfl rfl (Or.inl rfl)) dX8_ways_2 (by repeat (first | with_reducible assumption | (rw [rl_u_s]; done) | (rw [rl_u_s]; rfl) | rw [rl_u_n (by first | with_reducible assumption | omega)])) (Nat.le_of_ble_eq_true rfl) ?_
  try simp only [List.set_cons_zero, List.set_cons_succ]
  refine o_aload_n hC dX8_ways_5 (by rfl) ?_
  refine o_iload_n hC dX8_ways_6 (by rfl) ?_
  refine o_callV1 hC rl_BW_good rl_Ns_nw (by exact hB.2.2.2.2.2) YX8_isTuple IX8_isTuple VX8_isTuple (mX8_199 hC) (by rw [hB.1]; exact ct_X8_isTuple l D ids H0 _ _ m (m + 13) _ _ A.2.1 (by repeat (first | with_reducible assumption | (rw [rl_u_s]; done) | (rw [rl_u_s]; rfl) | rw [rl_u_n (by first | with_reducible assumption | omega)])) rfl (by repeat (first | with_reducible assumption | (rw [rl_u_s]; done) | (rw [rl_u_s]; rfl) | rw [rl_u_n (by first | with_reducible assumption | omega)]))) (by repeat (first | with_reducible assumption | (rw [rl_u_s]; done) | (rw [rl_u_s]; rfl) | rw [rl_u_n (by first | with_reducible assumption | omega)])) rfl rfl (Nat.le_of_ble_eq_true rfl) (by rw [hB.2.1]; first | exact Nat.le_of_ble_eq_true rfl | (dsimp only; omega)) (by rw [hB.2.1]; first | exact Nat.le_of_ble_eq_true rfl | (dsimp only; omega)) (by rw [hB.2.1]; first | exact Nat.le_of_ble_eq_true rfl | (dsimp only; omega)) (by rw [hB.2.1]; first | exact Nat.le_of_ble_eq_true rfl | (dsimp only; omega)) dX8_ways_7 (fun v h_7 n_7 p_7 => ?_)
  obtain ⟨rfl, rfl, rfl⟩ := p_7
  try dsimp only [Option.toList, List.cons_append, List.nil_append]
  by_cases hr9 : q < 0 ∨ A.2.1 16 ≤ q
  · rw [if_pos hr9]
    have nin : ¬ (∃ t : Nat, t < res.length ∧ q = nI t) := fun ⟨t, ht, e⟩ => hr9.elim (fun u => absurd u (by rw [e]; exact nI_pos (by omega))) (fun u => absurd u (by rw [h16, e]; exact nI_ge ht (by omega)))
    refine o_if_eq (tgt := 26) hC dX8_ways_10 (by decide) (fun c_10 => ?_) (fun c_10 => ?_)
    · refine o_iconst (v := (-1 : Int32)) hC dX8_ways_26 (by decide +kernel) ?_
      refine o_iret hC hB dX8_ways_27 (Nat.le_of_ble_eq_true rfl) (Nat.le_of_ble_eq_true rfl) ?_
      exact ⟨_, rfl, rfl, hq0, Or.inl ⟨nin, rfl⟩⟩
    · exact absurd rfl c_10
  · rw [if_neg hr9]
    obtain ⟨t, htl, rfl⟩ := nI_of_lt (k := res.length) (by omega) (fun e => hr9 (Or.inl e)) (fun e => hr9 (Or.inr (by rw [h16]; exact e)))
    have ht : t < 80 := by omega
    have hrw := hr.1.2 t htl
    have hws : mws A (1280 + t) (ark res t).2 := hrw.2
    have g00 := hq0.1.1
    refine o_if_eq (tgt := 26) hC dX8_ways_10 (by decide) (fun c_10 => ?_) (fun c_10 => ?_)
    · exact absurd c_10 (by decide +kernel)
    · refine o_aload_n hC dX8_ways_13 (by rfl) ?_
      refine o_getf hC (fX8_53 hC rfl) dX8_ways_14 (by repeat (first | with_reducible assumption | (rw [rl_u_s]; done) | (rw [rl_u_s]; rfl) | rw [rl_u_n (by first | with_reducible assumption | omega)])) (by first | rfl | with_reducible assumption) ?_
      refine o_sipush (v := nI 1280) hC dX8_ways_17 (by decide +kernel) ?_
      refine o_iload_n hC dX8_ways_20 (by rfl) ?_
      refine o_iadd hC dX8_ways_21 ?_
      try rw [nI_add]
      refine o_ialdN (t0 := 0) (k := 1280 + t) hC rfl dX8_ways_22 (by repeat (first | with_reducible assumption | (rw [rl_u_s]; done) | (rw [rl_u_s]; rfl) | rw [rl_u_n (by first | with_reducible assumption | omega)])) (by omega) (by decide) ?_
      rw [hws.1]
      refine o_goto (tgt := 27) hC dX8_ways_23 (by decide) ?_
      refine o_iret hC hB dX8_ways_27 (Nat.le_of_ble_eq_true rfl) (Nat.le_of_ble_eq_true rfl) ?_
      exact ⟨_, rfl, rfl, hq0, Or.inr ⟨t, htl, rfl, rfl⟩⟩

set_option maxHeartbeats 4000000 in
set_option maxRecDepth 100000 in
theorem cf_X8_holds (l : Launch) (D : va_G) (ids : Nat → ClassId) (H0 : Heap) (h : rl_H) (n : Nat) (m : Nat) (T : md_T) (fu : Int32) (k : Nat) (A : md_D) (S : md_A) (z : sh_S) (res : List arow) (rw : Nat) (q : Int32) (hq : mf ids h h m T fu k A) (hu : md_un ids h m T fu k S z) (hr : mrs A T res rw)  : rl_Met l (rl_e D ids H0) rl_BW rl_Ns yX8_holds cX8_holds 2 (some .int) ({ frames := 2, cells := 0, slots := 0, locals := 48 }) [.ref m, .int q] h n (fun v h' n' => ∃ r : Int32, v = some (.int r) ∧ n' = n ∧ mf ids h h' m (nI 0, T.2) fu k A ∧ ((¬ (∃ t : Nat, t < res.length ∧ q = nI t) ∧ r = -1) ∨ ∃ t : Nat, t < res.length ∧ q = nI t ∧ r = (if wfh T.2.2.2.1 (ark res t).2 0 = -1 then nI 0 else nI 1))) := by
  obtain ⟨hm0, g12, g13, g14, g15, g16, g17, g18, g19, g20, g21, g22⟩ := id hq
  have g0 := hm0.1
  have gk := hm0.2.1
  have b13 := hq.b13
  have b15 := hq.b15
  have b21 := hq.b21
  have hq0 := hq.ob (nI 0, T.2) fu k gk
  have r80 := hr.2.1.2.2
  have h16 := hr.1.1
  refine rl_Met.of (by decide +kernel) (Nat.le_of_ble_eq_true rfl) ?_
  intro X hC hB
  show rl_G X (rl_e D ids H0) 0 [some (.ref m), some (.int q)] [] h n 0 0
  refine o_aload_n hC dX8_holds_0 (by rfl) ?_
  refine o_iconst (v := nI 0) hC dX8_holds_1 (by decide +kernel) ?_
  refine o_putf hC (fX8_78 hC rfl) (fwX8 rfl rfl rfl (Or.inl rfl)) dX8_holds_2 (by repeat (first | with_reducible assumption | (rw [rl_u_s]; done) | (rw [rl_u_s]; rfl) | rw [rl_u_n (by first | with_reducible assumption | omega)])) (Nat.le_of_ble_eq_true rfl) ?_
  try simp only [List.set_cons_zero, List.set_cons_succ]
  refine o_aload_n hC dX8_holds_5 (by rfl) ?_
  refine o_iload_n hC dX8_holds_6 (by rfl) ?_
  refine o_callV1 hC rl_BW_good rl_Ns_nw (by exact hB.2.2.2.2.2) YX8_isTuple IX8_isTuple VX8_isTuple (mX8_199 hC) (by rw [hB.1]; exact ct_X8_isTuple l D ids H0 _ _ m (m + 13) _ _ A.2.1 (by repeat (first | with_reducible assumption | (rw [rl_u_s]; done) | (rw [rl_u_s]; rfl) | rw [rl_u_n (by first | with_reducible assumption | omega)])) rfl (by repeat (first | with_reducible assumption | (rw [rl_u_s]; done) | (rw [rl_u_s]; rfl) | rw [rl_u_n (by first | with_reducible assumption | omega)]))) (by repeat (first | with_reducible assumption | (rw [rl_u_s]; done) | (rw [rl_u_s]; rfl) | rw [rl_u_n (by first | with_reducible assumption | omega)])) rfl rfl (Nat.le_of_ble_eq_true rfl) (by rw [hB.2.1]; first | exact Nat.le_of_ble_eq_true rfl | (dsimp only; omega)) (by rw [hB.2.1]; first | exact Nat.le_of_ble_eq_true rfl | (dsimp only; omega)) (by rw [hB.2.1]; first | exact Nat.le_of_ble_eq_true rfl | (dsimp only; omega)) (by rw [hB.2.1]; first | exact Nat.le_of_ble_eq_true rfl | (dsimp only; omega)) dX8_holds_7 (fun v h_7 n_7 p_7 => ?_)
  obtain ⟨rfl, rfl, rfl⟩ := p_7
  try dsimp only [Option.toList, List.cons_append, List.nil_append]
  by_cases hr9 : q < 0 ∨ A.2.1 16 ≤ q
  · rw [if_pos hr9]
    have nin : ¬ (∃ t : Nat, t < res.length ∧ q = nI t) := fun ⟨t, ht, e⟩ => hr9.elim (fun u => absurd u (by rw [e]; exact nI_pos (by omega))) (fun u => absurd u (by rw [h16, e]; exact nI_ge ht (by omega)))
    refine o_if_ne (tgt := 17) hC dX8_holds_10 (by decide) (fun c_10 => ?_) (fun c_10 => ?_)
    · exact absurd rfl c_10
    · refine o_iconst (v := (-1 : Int32)) hC dX8_holds_13 (by decide +kernel) ?_
      refine o_goto (tgt := 34) hC dX8_holds_14 (by decide) ?_
      refine o_iret hC hB dX8_holds_34 (Nat.le_of_ble_eq_true rfl) (Nat.le_of_ble_eq_true rfl) ?_
      exact ⟨_, rfl, rfl, hq0, Or.inl ⟨nin, rfl⟩⟩
  · rw [if_neg hr9]
    obtain ⟨t, htl, rfl⟩ := nI_of_lt (k := res.length) (by omega) (fun e => hr9 (Or.inl e)) (fun e => hr9 (Or.inr (by rw [h16]; exact e)))
    have ht : t < 80 := by omega
    have hrw := hr.1.2 t htl
    have hws : mws A (1280 + t) (ark res t).2 := hrw.2
    have g00 := hq0.1.1
    refine o_if_ne (tgt := 17) hC dX8_holds_10 (by decide) (fun c_10 => ?_) (fun c_10 => ?_)
    · refine o_aload_n hC dX8_holds_17 (by rfl) ?_
      refine o_iload_n hC dX8_holds_18 (by rfl) ?_
      refine o_aload_n hC dX8_holds_19 (by rfl) ?_
      refine o_getf hC (fX8_115 hC rfl) dX8_holds_20 (by repeat (first | with_reducible assumption | (rw [rl_u_s]; done) | (rw [rl_u_s]; rfl) | rw [rl_u_n (by first | with_reducible assumption | omega)])) (by first | rfl | with_reducible assumption) ?_
      refine o_callV2 hC rl_BW_good rl_Ns_nw (by exact hB.2.2.2.2.2) YX8_isSo IX8_isSo VX8_isSo (mX8_206 hC) (by rw [hB.1]; exact cf_X8_isSo l D ids H0 _ _ m _ _ _ _ t _ _ hq0.rf ht hws) (by exact hq0.1.1) rfl rfl (Nat.le_of_ble_eq_true rfl) (by rw [hB.2.1]; first | exact Nat.le_of_ble_eq_true rfl | (dsimp only; omega)) (by rw [hB.2.1]; first | exact Nat.le_of_ble_eq_true rfl | (dsimp only; omega)) (by rw [hB.2.1]; first | exact Nat.le_of_ble_eq_true rfl | (dsimp only; omega)) (by rw [hB.2.1]; first | exact Nat.le_of_ble_eq_true rfl | (dsimp only; omega)) dX8_holds_23 (fun v h_23 n_23 p_23 => ?_)
      obtain ⟨rfl, rfl, rfl⟩ := p_23
      try dsimp only [Option.toList, List.cons_append, List.nil_append]
      refine o_if_eq (tgt := 33) hC dX8_holds_26 (by decide) (fun c_26 => ?_) (fun c_26 => ?_)
      · refine o_iconst (v := nI 0) hC dX8_holds_33 (by decide +kernel) ?_
        refine o_iret hC hB dX8_holds_34 (Nat.le_of_ble_eq_true rfl) (Nat.le_of_ble_eq_true rfl) ?_
        by_cases e9 : wfh T.2.2.2.1 (ark res t).2 0 = -1
        · rw [if_pos e9] at c_26
          first
          | exact absurd rfl c_26
          | exact ⟨_, rfl, rfl, hq0, Or.inr ⟨t, htl, rfl, by rw [if_pos e9]⟩⟩
        · rw [if_neg e9] at c_26
          first
          | exact absurd c_26 (by decide +kernel)
          | exact ⟨_, rfl, rfl, hq0, Or.inr ⟨t, htl, rfl, by rw [if_neg e9]⟩⟩
      · refine o_iconst (v := nI 1) hC dX8_holds_29 (by decide +kernel) ?_
        refine o_goto (tgt := 34) hC dX8_holds_30 (by decide) ?_
        refine o_iret hC hB dX8_holds_34 (Nat.le_of_ble_eq_true rfl) (Nat.le_of_ble_eq_true rfl) ?_
        by_cases e9 : wfh T.2.2.2.1 (ark res t).2 0 = -1
        · rw [if_pos e9] at c_26
          first
          | exact absurd rfl c_26
          | exact ⟨_, rfl, rfl, hq0, Or.inr ⟨t, htl, rfl, by rw [if_pos e9]⟩⟩
        · rw [if_neg e9] at c_26
          first
          | exact absurd c_26 (by decide +kernel)
          | exact ⟨_, rfl, rfl, hq0, Or.inr ⟨t, htl, rfl, by rw [if_neg e9]⟩⟩
    · exact absurd c_10 (by decide +kernel)

set_option maxHeartbeats 4000000 in
set_option maxRecDepth 100000 in
theorem cf_X8_made (l : Launch) (D : va_G) (ids : Nat → ClassId) (H0 : Heap) (h : rl_H) (n : Nat) (m : Nat) (T : md_T) (fu : Int32) (k : Nat) (A : md_D) (S : md_A) (z : sh_S) (res : List arow) (rw : Nat) (q : Int32) (hq : mf ids h h m T fu k A) (hu : md_un ids h m T fu k S z) (hr : mrs A T res rw)  : rl_Met l (rl_e D ids H0) rl_BW rl_Ns yX8_made cX8_made 2 (some .int) ({ frames := 1, cells := 0, slots := 0, locals := 25 }) [.ref m, .int q] h n (fun v h' n' => ∃ r : Int32, v = some (.int r) ∧ n' = n ∧ mf ids h h' m (nI 0, T.2) fu k A ∧ ((¬ (∃ t : Nat, t < res.length ∧ q = nI t) ∧ r = -1) ∨ ∃ t : Nat, t < res.length ∧ q = nI t ∧ r = wfh T.2.2.2.1 (ark res t).2 0)) := by
  obtain ⟨hm0, g12, g13, g14, g15, g16, g17, g18, g19, g20, g21, g22⟩ := id hq
  have g0 := hm0.1
  have gk := hm0.2.1
  have b13 := hq.b13
  have b15 := hq.b15
  have b21 := hq.b21
  have hq0 := hq.ob (nI 0, T.2) fu k gk
  have r80 := hr.2.1.2.2
  have h16 := hr.1.1
  refine rl_Met.of (by decide +kernel) (Nat.le_of_ble_eq_true rfl) ?_
  intro X hC hB
  show rl_G X (rl_e D ids H0) 0 [some (.ref m), some (.int q)] [] h n 0 0
  refine o_aload_n hC dX8_made_0 (by rfl) ?_
  refine o_iconst (v := nI 0) hC dX8_made_1 (by decide +kernel) ?_
  refine o_putf hC (fX8_78 hC rfl) (fwX8 rfl rfl rfl (Or.inl rfl)) dX8_made_2 (by repeat (first | with_reducible assumption | (rw [rl_u_s]; done) | (rw [rl_u_s]; rfl) | rw [rl_u_n (by first | with_reducible assumption | omega)])) (Nat.le_of_ble_eq_true rfl) ?_
  try simp only [List.set_cons_zero, List.set_cons_succ]
  refine o_aload_n hC dX8_made_5 (by rfl) ?_
  refine o_iload_n hC dX8_made_6 (by rfl) ?_
  refine o_callV1 hC rl_BW_good rl_Ns_nw (by exact hB.2.2.2.2.2) YX8_isTuple IX8_isTuple VX8_isTuple (mX8_199 hC) (by rw [hB.1]; exact ct_X8_isTuple l D ids H0 _ _ m (m + 13) _ _ A.2.1 (by repeat (first | with_reducible assumption | (rw [rl_u_s]; done) | (rw [rl_u_s]; rfl) | rw [rl_u_n (by first | with_reducible assumption | omega)])) rfl (by repeat (first | with_reducible assumption | (rw [rl_u_s]; done) | (rw [rl_u_s]; rfl) | rw [rl_u_n (by first | with_reducible assumption | omega)]))) (by repeat (first | with_reducible assumption | (rw [rl_u_s]; done) | (rw [rl_u_s]; rfl) | rw [rl_u_n (by first | with_reducible assumption | omega)])) rfl rfl (Nat.le_of_ble_eq_true rfl) (by rw [hB.2.1]; first | exact Nat.le_of_ble_eq_true rfl | (dsimp only; omega)) (by rw [hB.2.1]; first | exact Nat.le_of_ble_eq_true rfl | (dsimp only; omega)) (by rw [hB.2.1]; first | exact Nat.le_of_ble_eq_true rfl | (dsimp only; omega)) (by rw [hB.2.1]; first | exact Nat.le_of_ble_eq_true rfl | (dsimp only; omega)) dX8_made_7 (fun v h_7 n_7 p_7 => ?_)
  obtain ⟨rfl, rfl, rfl⟩ := p_7
  try dsimp only [Option.toList, List.cons_append, List.nil_append]
  by_cases hr9 : q < 0 ∨ A.2.1 16 ≤ q
  · rw [if_pos hr9]
    have nin : ¬ (∃ t : Nat, t < res.length ∧ q = nI t) := fun ⟨t, ht, e⟩ => hr9.elim (fun u => absurd u (by rw [e]; exact nI_pos (by omega))) (fun u => absurd u (by rw [h16, e]; exact nI_ge ht (by omega)))
    refine o_if_ne (tgt := 17) hC dX8_made_10 (by decide) (fun c_10 => ?_) (fun c_10 => ?_)
    · exact absurd rfl c_10
    · refine o_iconst (v := (-1 : Int32)) hC dX8_made_13 (by decide +kernel) ?_
      refine o_goto (tgt := 26) hC dX8_made_14 (by decide) ?_
      refine o_iret hC hB dX8_made_26 (Nat.le_of_ble_eq_true rfl) (Nat.le_of_ble_eq_true rfl) ?_
      exact ⟨_, rfl, rfl, hq0, Or.inl ⟨nin, rfl⟩⟩
  · rw [if_neg hr9]
    obtain ⟨t, htl, rfl⟩ := nI_of_lt (k := res.length) (by omega) (fun e => hr9 (Or.inl e)) (fun e => hr9 (Or.inr (by rw [h16]; exact e)))
    have ht : t < 80 := by omega
    have hrw := hr.1.2 t htl
    have hws : mws A (1280 + t) (ark res t).2 := hrw.2
    have g00 := hq0.1.1
    refine o_if_ne (tgt := 17) hC dX8_made_10 (by decide) (fun c_10 => ?_) (fun c_10 => ?_)
    · refine o_aload_n hC dX8_made_17 (by rfl) ?_
      refine o_iload_n hC dX8_made_18 (by rfl) ?_
      refine o_aload_n hC dX8_made_19 (by rfl) ?_
      refine o_getf hC (fX8_115 hC rfl) dX8_made_20 (by repeat (first | with_reducible assumption | (rw [rl_u_s]; done) | (rw [rl_u_s]; rfl) | rw [rl_u_n (by first | with_reducible assumption | omega)])) (by first | rfl | with_reducible assumption) ?_
      refine o_callV2 hC rl_BW_good rl_Ns_nw (by exact hB.2.2.2.2.2) YX8_first IX8_first VX8_first (mX8_202 hC) (by rw [hB.1]; exact cf_X8_first l D ids H0 _ _ m _ _ _ _ t _ _ hq0.rf ht hws) (by exact hq0.1.1) rfl rfl (Nat.le_of_ble_eq_true rfl) (by rw [hB.2.1]; first | exact Nat.le_of_ble_eq_true rfl | (dsimp only; omega)) (by rw [hB.2.1]; first | exact Nat.le_of_ble_eq_true rfl | (dsimp only; omega)) (by rw [hB.2.1]; first | exact Nat.le_of_ble_eq_true rfl | (dsimp only; omega)) (by rw [hB.2.1]; first | exact Nat.le_of_ble_eq_true rfl | (dsimp only; omega)) dX8_made_23 (fun v h_23 n_23 p_23 => ?_)
      obtain ⟨rfl, rfl, rfl⟩ := p_23
      try dsimp only [Option.toList, List.cons_append, List.nil_append]
      refine o_iret hC hB dX8_made_26 (Nat.le_of_ble_eq_true rfl) (Nat.le_of_ble_eq_true rfl) ?_
      exact ⟨_, rfl, rfl, hq0, Or.inr ⟨t, htl, rfl, rfl⟩⟩
    · exact absurd c_10 (by decide +kernel)
end
section
/-! the deep lift -/
theorem mrl.of {S : md_A} {sf : Nat → Int32} {cf : Nat → Nat → Int32} {N N' : Nat → Nat → Int32} {z : sh_S} (H : mrl S sf cf N z) (e : ∀ i : Nat, i < z.2.2.2.1 → ∀ f : Nat, f < 8 → N' i f = N i f) : mrl S sf cf N' z := by
  refine ⟨H.1, fun a ha => ?_⟩
  obtain ⟨h1, h2, h3, h4⟩ := H.2 a ha
  refine ⟨h1.of (fun i hi => e i (by omega)), h2.trans (e a ha 0 (by decide)).symm, h3.trans (e a ha 1 (by decide)).symm, ?_⟩
  rw [e a ha 0 (by decide), e a ha 2 (by decide), e a ha 3 (by decide), e a ha 4 (by decide), e a ha 5 (by decide), e a ha 6 (by decide), e a ha 7 (by decide)]
  exact h4
theorem mrl.zz {S : md_A} {sf : Nat → Int32} {cf N : Nat → Nat → Int32} {z z' : sh_S} (H : mrl S sf cf N z) (e1 : z'.2.2.1 = z.2.2.1) (e2 : z'.2.2.2.1 = z.2.2.2.1) : mrl S sf cf N z' := by
  unfold mrl
  rw [e1, e2]
  exact H
theorem mrs.T {A : md_D} {T T' : md_T} {res : List arow} {rw : Nat} (H : mrs A T res rw) (e : T'.2.2.2.2.2.1 = T.2.2.2.2.2.1) : mrs A T' res rw := ⟨H.1, H.2.1, H.2.2.1, fun q => e.trans (H.2.2.2 q)⟩
theorem aok.nil {w : Nat} : aok w [] := ⟨List.Pairwise.nil, fun r hr => absurd hr (by simp), Nat.zero_le _⟩
theorem mrs.nil {A : md_D} {T : md_T} {rw : Nat} (h : A.2.1 16 = nI 0) (hw : rw ≤ 6) : mrs A T [] rw := ⟨⟨h, fun j hj => absurd hj (Nat.not_lt_zero j)⟩, aok.nil, hw, fun q => absurd rfl q⟩
theorem mq.eqv {ids : Nat → ClassId} {h h' : rl_H} {m : Nat} {T : md_T} {fu : Int32} {k : Nat} (H : mq ids h h m T fu k) (he : ∀ q : Nat, m ≤ q → q < m + 23 → h' q = h q) : mq ids h' h' m T fu k := by
  obtain ⟨g0, gk, ⟨d12, d13, d14, d15, d16, d17, d18, d19, d20, d21, d22⟩, -⟩ := H
  exact ⟨(he m (by omega) (by omega)).trans g0, gk, ⟨d12.elim fun f e => ⟨f, (he _ (by omega) (by omega)).trans e⟩, d13.elim fun f e => ⟨f, (he _ (by omega) (by omega)).trans e.1, e.2⟩, d14.elim fun f e => ⟨f, (he _ (by omega) (by omega)).trans e⟩, d15.elim fun f e => ⟨f, (he _ (by omega) (by omega)).trans e.1, e.2⟩, d16.elim fun f e => ⟨f, (he _ (by omega) (by omega)).trans e⟩, d17.elim fun f e => ⟨f, (he _ (by omega) (by omega)).trans e⟩, d18.elim fun f e => ⟨f, (he _ (by omega) (by omega)).trans e⟩, d19.elim fun f e => ⟨f, (he _ (by omega) (by omega)).trans e⟩, d20.elim fun f e => ⟨f, (he _ (by omega) (by omega)).trans e⟩, d21.elim fun f e => ⟨f, (he _ (by omega) (by omega)).trans e.1, e.2⟩, d22.elim fun f e => ⟨f, (he _ (by omega) (by omega)).trans e⟩⟩, fun _ _ _ => rfl⟩
/-- the tuples' arrays are the same -/
theorem mf.mv {ids : Nat → ClassId} {h h' : rl_H} {m : Nat} {T T' : md_T} {fu fu' : Int32} {k k' : Nat} {A : md_D} (hq : mf ids h h m T fu k A) (H : mq ids h' h' m T' fu' k') (D : (∀ q : Nat, m + 12 ≤ q → q < m + 23 → h' q = h q)) : mf ids h' h' m T' fu' k' A := by
  obtain ⟨-, a12, a13, a14, a15, a16, a17, a18, a19, a20, a21, a22⟩ := hq
  exact ⟨H, (D _ (by omega) (by omega)).trans a12, (D _ (by omega) (by omega)).trans a13, (D _ (by omega) (by omega)).trans a14, (D _ (by omega) (by omega)).trans a15, (D _ (by omega) (by omega)).trans a16, (D _ (by omega) (by omega)).trans a17, (D _ (by omega) (by omega)).trans a18, (D _ (by omega) (by omega)).trans a19, (D _ (by omega) (by omega)).trans a20, (D _ (by omega) (by omega)).trans a21, (D _ (by omega) (by omega)).trans a22⟩
theorem mf.mv22 {ids : Nat → ClassId} {h h' : rl_H} {m : Nat} {T T' : md_T} {fu fu' : Int32} {k k' : Nat} {A : md_D} (hq : mf ids h h m T fu k A) (H : mq ids h' h' m T' fu' k') (D : (∀ q : Nat, m + 12 ≤ q → q < m + 22 → h' q = h q)) : ∃ it : Nat → Int32, mf ids h' h' m T' fu' k' (A.1, A.2.1, A.2.2.1, A.2.2.2.1, A.2.2.2.2.1, A.2.2.2.2.2.1, A.2.2.2.2.2.2.1, A.2.2.2.2.2.2.2.1, A.2.2.2.2.2.2.2.2.1, A.2.2.2.2.2.2.2.2.2.1, it) := by
  obtain ⟨-, a12, a13, a14, a15, a16, a17, a18, a19, a20, a21, a22⟩ := hq
  obtain ⟨it, e⟩ := H.2.2.1.2.2.2.2.2.2.2.2.2.2
  exact ⟨it, H, (D _ (by omega) (by omega)).trans a12, (D _ (by omega) (by omega)).trans a13, (D _ (by omega) (by omega)).trans a14, (D _ (by omega) (by omega)).trans a15, (D _ (by omega) (by omega)).trans a16, (D _ (by omega) (by omega)).trans a17, (D _ (by omega) (by omega)).trans a18, (D _ (by omega) (by omega)).trans a19, (D _ (by omega) (by omega)).trans a20, (D _ (by omega) (by omega)).trans a21, e⟩
theorem mf.mv13 {ids : Nat → ClassId} {h h' : rl_H} {m : Nat} {T T' : md_T} {fu fu' : Int32} {k k' : Nat} {A : md_D} (hq : mf ids h h m T fu k A) (H : mq ids h' h' m T' fu' k') (D : (∀ q : Nat, m + 12 ≤ q → q < m + 23 → q ≠ m + 13 → h' q = h q)) (e13 : ∀ tu : Nat → Int32, h (m + 13) = some (.inl (ids 0, 17, .inl tu)) → h' (m + 13) = some (.inl (ids 0, 17, .inl (upd tu 16 (nI 0))))) : mf ids h' h' m T' fu' k' (A.1, upd A.2.1 16 (nI 0), A.2.2.1, A.2.2.2.1, A.2.2.2.2.1, A.2.2.2.2.2.1, A.2.2.2.2.2.2.1, A.2.2.2.2.2.2.2.1, A.2.2.2.2.2.2.2.2.1, A.2.2.2.2.2.2.2.2.2.1, A.2.2.2.2.2.2.2.2.2.2) := by
  obtain ⟨-, a12, a13, a14, a15, a16, a17, a18, a19, a20, a21, a22⟩ := hq
  exact ⟨H, (D _ (by omega) (by omega) (by omega)).trans a12, e13 _ a13, (D _ (by omega) (by omega) (by omega)).trans a14, (D _ (by omega) (by omega) (by omega)).trans a15, (D _ (by omega) (by omega) (by omega)).trans a16, (D _ (by omega) (by omega) (by omega)).trans a17, (D _ (by omega) (by omega) (by omega)).trans a18, (D _ (by omega) (by omega) (by omega)).trans a19, (D _ (by omega) (by omega) (by omega)).trans a20, (D _ (by omega) (by omega) (by omega)).trans a21, (D _ (by omega) (by omega) (by omega)).trans a22⟩
/-- the model: its nodes beside the class's, its RESULT -/
def mdd (ids : Nat → ClassId) (h : rl_H) (m : Nat) (z : sh_S) (sf : Nat → Int32) (cf N : Nat → Nat → Int32) (res : List arow) (rw : Nat) : Prop := ∃ (T : md_T) (fu : Int32) (k : Nat) (S : md_A) (A : md_D), md_un ids h m T fu k S z ∧ mf ids h h m T fu k A ∧ mrl S sf cf N z ∧ mrs A T res rw
theorem mdd.eqv {ids : Nat → ClassId} {h h' : rl_H} {m : Nat} {z : sh_S} {sf : Nat → Int32} {cf N : Nat → Nat → Int32} {res : List arow} {rw : Nat} (H : mdd ids h m z sf cf N res rw) (he : ∀ q : Nat, m ≤ q → q < m + 23 → h' q = h q) : mdd ids h' m z sf cf N res rw := by
  obtain ⟨T, fu, k, S, A, ⟨u1, u2, u3⟩, hq, hl, hr⟩ := H
  exact ⟨T, fu, k, S, A, ⟨u1.eqv he, u2.eqv (fun q a b => he q (by omega) (by omega)), u3⟩, hq.mv (u1.eqv he) (fun q a b => he q (by omega) b), hl, hr⟩
theorem mdd.cl {ids : Nat → ClassId} {h h1 : rl_H} {x : Nat} {z : sh_S} {sf : Nat → Int32} {cf N : Nat → Nat → Int32} {res : List arow} {rw : Nat} (hm : mdd ids h (x + 70) z sf cf N res rw) (f1 : cl_fr h h1 x (x + 94)) : mdd ids h1 (x + 70) z sf cf N res rw := hm.eqv (fun q a b => f1 q (by omega) (by omega))
/-- a look -/
theorem mdd.lk {ids : Nat → ClassId} {h h' : rl_H} {m : Nat} {T : md_T} {fu : Int32} {k : Nat} {S : md_A} {A : md_D} {z : sh_S} {sf : Nat → Int32} {cf : Nat → Nat → Int32} {N : Nat → Nat → Int32} {res : List arow} {rw : Nat} (hu : md_un ids h m T fu k S z) (hq : mf ids h h m T fu k A) (hl : mrl S sf cf N z) (hr : mrs A T res rw) (H : mdx ids h' m T z (fun S' => S' = S) (∀ q : Nat, m + 12 ≤ q → q < m + 22 → h' q = h q)) : mdd ids h' m z sf cf N res rw := by
  obtain ⟨T', fu', k', S', hu', eT, eS, D⟩ := H
  subst eS
  obtain ⟨it, hq'⟩ := hq.mv22 hu'.1 D
  exact ⟨T', fu', k', S', _, hu', hq', hl, hr.T eT⟩
/-- a look, functionally -/
theorem mdd.fl {ids : Nat → ClassId} {h h' : rl_H} {m : Nat} {T : md_T} {fu : Int32} {k : Nat} {S : md_A} {A : md_D} {z : sh_S} {sf : Nat → Int32} {cf : Nat → Nat → Int32} {N : Nat → Nat → Int32} {res : List arow} {rw : Nat} (hu : md_un ids h m T fu k S z) (hq : mf ids h h m T fu k A) (hl : mrl S sf cf N z) (hr : mrs A T res rw) {T' : md_T} {fu' : Int32} {k' : Nat} (H : mf ids h h' m T' fu' k' A) (e : T'.2 = T.2) : mdd ids h' m z sf cf N res rw :=
  ⟨T', fu', k', S, A, hu.dp H.1 (by rw [e]) (by rw [e]) (by rw [e]) (by rw [e]) (by rw [e]; exact hu.2.2.2.2.2.2.2.2.2.2), H.rf, hl, hr.T (by rw [e])⟩
/-- nothing of the tuples, nothing of the nodes -/
theorem mdd.sh {ids : Nat → ClassId} {h h' : rl_H} {m : Nat} {T : md_T} {fu : Int32} {k : Nat} {S : md_A} {A : md_D} {z : sh_S} {sf : Nat → Int32} {cf : Nat → Nat → Int32} {N : Nat → Nat → Int32} {res : List arow} {rw : Nat} {z' : sh_S} (hu : md_un ids h m T fu k S z) (hq : mf ids h h m T fu k A) (hl : mrl S sf cf N z) (hr : mrs A T res rw) (H : mdx ids h' m T z' (fun S' => S'.2 = S.2) (∀ q : Nat, m + 12 ≤ q → q < m + 23 → h' q = h q)) (e1 : z'.2.2.1 = z.2.2.1) (e2 : z'.2.2.2.1 = z.2.2.2.1) : mdd ids h' m z' sf cf N res rw := by
  obtain ⟨T', fu', k', S', hu', eT, eS, D⟩ := H
  obtain ⟨S1, S2⟩ := S'
  have eS : S2 = S.2 := eS
  subst eS
  exact ⟨T', fu', k', _, A, hu', hq.mv hu'.1 D, (show mrl (S1, S.2) sf cf N z from hl).zz e1 e2, hr.T eT⟩
theorem sh_source_r {z : sh_S} {q : Int32} : (sh_source z q).2.2.2 = z.2.2 := by
  unfold sh_source
  split
  · rfl
  · split <;> rfl
theorem sh_drop_r {z : sh_S} {q on : Int32} : (sh_drop z q on).2.2.2.1 = z.2.2.1 ∧ (sh_drop z q on).2.2.2.2.1 = z.2.2.2.1 := by
  unfold sh_drop
  split <;> exact ⟨rfl, rfl⟩
theorem sh_node_r {z : sh_S} {w : Int32} : (sh_node z w).2.2.2.1 = z.2.2.1 := by
  unfold sh_node
  split <;> rfl
theorem sh_scan_r {z : sh_S} {q : Int32} : (sh_scan z q).2.2.2.1 = z.2.2.1 := by
  unfold sh_scan
  split
  · rfl
  · exact sh_node_r
theorem sh_pick_r {z : sh_S} {q k sg ot : Int32} : (sh_pick z q k sg ot).2.2.2.1 = z.2.2.1 := by
  unfold sh_pick
  split
  · rfl
  · split
    · rfl
    · exact sh_node_r
theorem sh_join_r {z : sh_S} {a b i j : Int32} : (sh_join z a b i j).2.2.2.1 = z.2.2.1 := by
  unfold sh_join
  split
  · rfl
  · split
    · rfl
    · exact sh_node_r
theorem sh_pair_r {z : sh_S} {a b : Int32} : (sh_pair z a b).2.2.2.1 = z.2.2.1 := by
  unfold sh_pair
  split
  · rfl
  · split
    · rfl
    · exact sh_node_r
theorem sh_fold_r {z : sh_S} {q k j kd : Int32} : (sh_fold z q k j kd).2.2.2.1 = z.2.2.1 := by
  unfold sh_fold
  split
  · rfl
  · split
    · rfl
    · exact sh_node_r
theorem sh_cols_r {z : sh_S} {q d : Int32} : (sh_cols z q d).2.2.2.1 = z.2.2.1 := by
  unfold sh_cols
  split
  · rfl
  · split
    · rfl
    · split
      · rfl
      · exact sh_node_r
theorem sh_row_n {z : sh_S} {q : Int32} : (sh_row z q).2.2.2.2.1 = z.2.2.2.1 := by
  unfold sh_row
  split
  · rfl
  · split <;> rfl
theorem mdd.row {ids : Nat → ClassId} {h h' : rl_H} {m : Nat} {T : md_T} {fu : Int32} {k : Nat} {S : md_A} {A : md_D} {z : sh_S} {sf : Nat → Int32} {cf : Nat → Nat → Int32} {N : Nat → Nat → Int32} {res : List arow} {rw : Nat} {q a b e d : Int32} (hu : md_un ids h m T fu k S z) (hq : mf ids h h m T fu k A) (hl : mrl S sf cf N z) (hr : mrs A T res rw) (H : mdx ids h' m T (sh_row z q).2 (fun S' => (S' = S ∧ (sh_row z q).2 = z ∧ h' (m + 13) = h (m + 13)) ∨ (S' = (S.1, upd S.2.1 z.2.2.1 q, upd (upd (upd (upd S.2.2.1 (4 * z.2.2.1) a) (4 * z.2.2.1 + 1) b) (4 * z.2.2.1 + 2) e) (4 * z.2.2.1 + 3) d, S.2.2.2) ∧ (sh_row z q).2.2.2.1 = z.2.2.1 + 1 ∧ ∀ tu : Nat → Int32, h (m + 13) = some (.inl (ids 0, 17, .inl tu)) → h' (m + 13) = some (.inl (ids 0, 17, .inl (upd tu 16 (nI 0)))))) (∀ q : Nat, m + 12 ≤ q → q < m + 23 → q ≠ m + 13 → h' q = h q)) {sf' : Nat → Int32} {cf' N' : Nat → Nat → Int32} {res' : List arow} (dj : (sf' = sf ∧ cf' = cf ∧ N' = N ∧ (sh_row z q).2 = z ∧ res' = res) ∨ (sf' = upd sf z.2.2.1 q ∧ cf' = (fun r => if r = z.2.2.1 then upd (upd (upd (upd (cf z.2.2.1) 0 a) 1 b) 2 e) 3 d else cf r) ∧ (∀ i : Nat, i < z.2.2.2.1 → ∀ f : Nat, f < 8 → N' i f = N i f) ∧ (sh_row z q).2.2.2.1 = z.2.2.1 + 1 ∧ res' = [])) : mdd ids h' m (sh_row z q).2 sf' cf' N' res' rw := by
  obtain ⟨T', fu', k', S', hu', eT, R, D⟩ := H
  rcases dj with ⟨rfl, rfl, rfl, dz, rfl⟩ | ⟨rfl, rfl, hN, dz, rfl⟩
  · rcases R with ⟨eS, ez, e13⟩ | ⟨-, ez, -⟩
    · subst eS
      refine ⟨T', fu', k', S', A, hu', hq.mv hu'.1 (fun q z1 z2 => ?_), hl.zz (by rw [ez]) (by rw [ez]), hr.T eT⟩
      by_cases e9 : q = m + 13
      · rw [e9]
        exact e13
      · exact D q z1 z2 e9
    · rw [dz] at ez
      omega
  · rcases R with ⟨eS, ez, e13⟩ | ⟨eS, ez, e13⟩
    · rw [ez] at dz
      omega
    · subst eS
      refine ⟨T', fu', k', _, (A.1, upd A.2.1 16 (nI 0), A.2.2.1, A.2.2.2.1, A.2.2.2.2.1, A.2.2.2.2.2.1, A.2.2.2.2.2.2.1, A.2.2.2.2.2.2.2.1, A.2.2.2.2.2.2.2.2.1, A.2.2.2.2.2.2.2.2.2.1, A.2.2.2.2.2.2.2.2.2.2), hu', hq.mv13 hu'.1 D e13, ⟨fun r hr9 => ?_, fun a9 ha9 => ?_⟩, mrs.nil (show upd A.2.1 16 (nI 0) 16 = nI 0 from upd_at) hr.2.2.1⟩
      · rw [dz] at hr9
        by_cases er : r = z.2.2.1
        · subst er
          refine ⟨(upd_at).trans (upd_at).symm, fun c hc => ?_⟩
          show upd (upd (upd (upd S.2.2.1 (4 * z.2.2.1) a) (4 * z.2.2.1 + 1) b) (4 * z.2.2.1 + 2) e) (4 * z.2.2.1 + 3) d (4 * z.2.2.1 + c) = (if z.2.2.1 = z.2.2.1 then upd (upd (upd (upd (cf z.2.2.1) 0 a) 1 b) 2 e) 3 d else cf z.2.2.1) c
          rw [if_pos rfl]
          unfold upd
          rcases (by omega : c = 0 ∨ c = 1 ∨ c = 2 ∨ c = 3) with rfl | rfl | rfl | rfl
          · rw [if_neg (by omega), if_neg (by omega), if_neg (by omega), if_pos (by omega), if_neg (by omega), if_neg (by omega), if_neg (by omega), if_pos rfl]
          · rw [if_neg (by omega), if_neg (by omega), if_pos rfl, if_neg (by omega), if_neg (by omega), if_pos rfl]
          · rw [if_neg (by omega), if_pos rfl, if_neg (by omega), if_pos rfl]
          · rw [if_pos rfl, if_pos rfl]
        · obtain ⟨g1, g2⟩ := hl.1 r (by omega)
          refine ⟨(upd_lt (by omega)).trans (g1.trans (upd_lt (by omega)).symm), fun c hc => ?_⟩
          show upd (upd (upd (upd S.2.2.1 (4 * z.2.2.1) a) (4 * z.2.2.1 + 1) b) (4 * z.2.2.1 + 2) e) (4 * z.2.2.1 + 3) d (4 * r + c) = (if r = z.2.2.1 then upd (upd (upd (upd (cf z.2.2.1) 0 a) 1 b) 2 e) 3 d else cf r) c
          rw [if_neg er, upd_lt (by omega), upd_lt (by omega), upd_lt (by omega), upd_lt (by omega)]
          exact g2 c hc
      · rw [sh_row_n] at ha9
        exact (hl.of hN).2 a9 ha9
theorem mdd.clr {ids : Nat → ClassId} {h h' : rl_H} {m : Nat} {T : md_T} {fu : Int32} {k : Nat} {S : md_A} {A : md_D} {z : sh_S} {sf : Nat → Int32} {cf : Nat → Nat → Int32} {N : Nat → Nat → Int32} {res : List arow} {rw : Nat} {sf' : Nat → Int32} {cf' N' : Nat → Nat → Int32} (hu : md_un ids h m T fu k S z) (hq : mf ids h h m T fu k A) (hl : mrl S sf cf N z) (hr : mrs A T res rw) (H : mdx ids h' m T (sh_clear z) (fun S' => S' = S ∧ ∀ tu : Nat → Int32, h (m + 13) = some (.inl (ids 0, 17, .inl tu)) → h' (m + 13) = some (.inl (ids 0, 17, .inl (upd tu 16 (nI 0))))) (∀ q : Nat, m + 12 ≤ q → q < m + 23 → q ≠ m + 13 → h' q = h q)) : mdd ids h' m (sh_clear z) sf' cf' N' [] rw := by
  obtain ⟨T', fu', k', S', hu', eT, ⟨-, e13⟩, D⟩ := H
  exact ⟨T', fu', k', S', (A.1, upd A.2.1 16 (nI 0), A.2.2.1, A.2.2.2.1, A.2.2.2.2.1, A.2.2.2.2.2.1, A.2.2.2.2.2.2.1, A.2.2.2.2.2.2.2.1, A.2.2.2.2.2.2.2.2.1, A.2.2.2.2.2.2.2.2.2.1, A.2.2.2.2.2.2.2.2.2.2), hu', hq.mv13 hu'.1 D e13, ⟨fun r hr => absurd hr (Nat.not_lt_zero r), fun a ha => absurd ha (Nat.not_lt_zero a)⟩, mrs.nil (show upd A.2.1 16 (nI 0) 16 = nI 0 from upd_at) hr.2.2.1⟩
theorem cl_ad.nf {ids : Nat → ClassId} {h h' : rl_H} {c c' : cl_N} {f0 f2 f3 f4 f5 f6 f7 : Int32} (had : cl_ad ids h h' c c' f0 f2 f3 f4 f5 f6 f7) (hc : c'.2.2.1 = c.2.2.1 + 1) : (∀ i : Nat, i < c.2.2.1 → c'.2.2.2.1 i = c.2.2.2.1 i) ∧ c'.2.2.2.1 c.2.2.1 0 = f0 ∧ c'.2.2.2.1 c.2.2.1 2 = f2 ∧ c'.2.2.2.1 c.2.2.1 3 = f3 ∧ c'.2.2.2.1 c.2.2.1 4 = f4 ∧ c'.2.2.2.1 c.2.2.1 5 = f5 ∧ c'.2.2.2.1 c.2.2.1 6 = f6 ∧ c'.2.2.2.1 c.2.2.1 7 = f7 := by
  rcases had with ⟨e, -⟩ | ⟨a1, a2, a3, a4, a5, a6, a7, a8⟩
  · rw [e] at hc
    omega
  · exact ⟨a4, a5.1, a5.2.1, a5.2.2.1, a5.2.2.2.1, a5.2.2.2.2.1, a5.2.2.2.2.2.1, a5.2.2.2.2.2.2.1⟩
theorem cl_dp.ad {ids : Nat → ClassId} {h h' : rl_H} {s : cl_S} {c c' : cl_N} {f0 f2 f3 f4 f5 f6 f7 : Int32} (hd : cl_dp ids h s c) (hcc : c.2.2.1 ≤ c.2.1) (had : cl_ad ids h h' c c' f0 f2 f3 f4 f5 f6 f7) (hf : c'.2.2.1 = c.2.2.1 + 1 → cl_f c'.2.2.2.1 c.2.2.1) : cl_dp ids h' s c' := by
  rcases had with ⟨e1, e2⟩ | ⟨a1, a2, a3, a4, a5, a6, a7, a8⟩
  · rw [e1, e2]
    exact hd
  · refine ⟨fun k hk => ?_, fun k hk => ?_, fun k hk => ?_⟩
    · by_cases e : k < c.2.1
      · obtain ⟨wd, hw⟩ := hd.1 k e
        refine ⟨wd, ?_⟩
        rw [a3 k e]
        exact hw.eqv (fun q q1 q2 => a7 k e q q1 (by omega))
      · exact a8 k hk (by omega)
    · by_cases e : k < c.2.2.1
      · exact (hd.2.1 k e).of (fun i hi f hf => by rw [a4 i (by omega)])
      · have e9 : k = c.2.2.1 := by omega
        rw [e9]
        exact hf a1
    · by_cases e : k < c.2.2.1
      · have es : semc s c' k = semc s c k := sem_eq _ _ _ _ (fun i hi f hf => by rw [a4 i (by omega)])
        rcases hd.2.2 k e with H | ⟨H, tab, w, b1, b2, b3, b4⟩ | ⟨H, b1⟩
        · exact Or.inl (by rw [a4 k e]; exact H)
        · refine Or.inr (Or.inl ⟨by rw [a4 k e]; exact H, tab, w, by rw [a4 k e]; exact b1, es.trans b2, ?_, b4⟩)
          rw [a3 k (by omega)]
          exact b3.eqv (fun q q1 q2 => a7 k (by omega) q q1 (by omega))
        · exact Or.inr (Or.inr ⟨by rw [a4 k e]; exact H, es.trans b1⟩)
      · have e9 : k = c.2.2.1 := by omega
        rw [e9]
        exact Or.inl a5.2.2.2.2.2.2.2
theorem cl_rs.ad {ids : Nat → ClassId} {h h' : rl_H} {s : cl_S} {c c' : cl_N} {f0 f2 f3 f4 f5 f6 f7 : Int32} {res : List arow} {rw : Nat} (hrs : cl_rs s c res rw) (had : cl_ad ids h h' c c' f0 f2 f3 f4 f5 f6 f7) : cl_rs s c' res rw := by
  rcases had with ⟨e1, -⟩ | ⟨a1, a2, a3, a4, a5, a6, a7, a8⟩
  · rw [e1]
    exact hrs
  · rcases hrs with ⟨h1, h2⟩ | ⟨j, h1, h2, h3, h4, h5, h6⟩
    · exact Or.inl ⟨by rw [a6]; exact h1, h2⟩
    · exact Or.inr ⟨j, by omega, by rw [a6]; exact h2, by rw [a4 j h1]; exact h3, (sem_eq _ _ _ _ (fun i hi f hf => by rw [a4 i (by omega)])).trans h4, by rw [a4 j h1]; exact h5, h6⟩
/-- a node is made on both sides -/
theorem mdd.mk {ids : Nat → ClassId} {h h' h0 h1 : rl_H} {m : Nat} {T : md_T} {fu : Int32} {k : Nat} {S : md_A} {A : md_D} {z z' : sh_S} {s : cl_S} {c c' : cl_N} {res : List arow} {rw op : Nat} {fi se x y u v f2 f3 f4 f5 f6 f7 : Int32} (hu : md_un ids h m T fu k S z) (hq : mf ids h h m T fu k A) (hl : mrl S s.2.1 s.2.2.1 c.2.2.2.1 z) (hr : mrs A T res rw) (H : mdx ids h' m T z' (fun S' => (S' = S ∧ z' = z) ∨ ∃ w9 : Int32, S' = (S.1, S.2.1, S.2.2.1, upd S.2.2.2.1 z.2.2.2.1 (nI op), upd S.2.2.2.2.1 z.2.2.2.1 fi, upd S.2.2.2.2.2.1 z.2.2.2.1 se, upd S.2.2.2.2.2.2.1 z.2.2.2.1 x, upd S.2.2.2.2.2.2.2.1 z.2.2.2.1 y, upd S.2.2.2.2.2.2.2.2.1 z.2.2.2.1 u, upd S.2.2.2.2.2.2.2.2.2.1 z.2.2.2.1 v, upd S.2.2.2.2.2.2.2.2.2.2 z.2.2.2.1 w9) ∧ z'.2.2.2.1 = z.2.2.2.1 + 1) (∀ q : Nat, m + 12 ≤ q → q < m + 23 → h' q = h q)) (er : z'.2.2.1 = z.2.2.1) (op6 : op ≤ 6) (hR : sh_R s c z) (hR' : sh_R s c' z') (had : cl_ad ids h0 h1 c c' (nI op) f2 f3 f4 f5 f6 f7) (hf : c'.2.2.1 = c.2.2.1 + 1 → cl_f c'.2.2.2.1 c.2.2.1) (hM : (op = 0 → fi = f7) ∧ (1 ≤ op → fi = f2) ∧ (op = 3 ∨ op = 4 ∨ op = 5 → se = f3) ∧ (op = 1 → x = f4 ∧ y = f6 ∧ u = f5 ∧ v = f7) ∧ (op = 2 → x = f7) ∧ (op = 3 → x = f4 ∧ y = f5) ∧ (op = 6 → x = f4 ∧ y = f5 ∧ u = f6)) : mdd ids h' m z' s.2.1 s.2.2.1 c'.2.2.2.1 res rw := by
  obtain ⟨T', fu', k', S', hu', eT, R, D⟩ := H
  have r4 := hR.2.2.2.1
  have r4' := hR'.2.2.2.1
  rcases R with ⟨eS, ez⟩ | ⟨w9, eS, ez⟩
  · subst eS
    rcases had with ⟨e1, -⟩ | ⟨a1, -⟩
    · rw [e1]
      exact ⟨T', fu', k', S', A, hu', hq.mv hu'.1 D, hl.zz (by rw [ez]) (by rw [ez]), hr.T eT⟩
    · rw [ez] at r4'
      omega
  · have hc : c'.2.2.1 = c.2.2.1 + 1 := by omega
    obtain ⟨a4, a0, a2, a3, b4, b5, b6, b7⟩ := had.nf hc
    have hfn := hf hc
    rw [r4] at a0 a2 a3 b4 b5 b6 b7 hfn
    have a4 : ∀ i : Nat, i < z.2.2.2.1 → c'.2.2.2.1 i = c.2.2.2.1 i := fun i hi => a4 i (by omega)
    have hwn : S'.2.2.2.2.2.2.2.2.2.2 z.2.2.2.1 = c'.2.2.2.1 z.2.2.2.1 1 := by
      rw [hu'.2.2.2.2.2.2.1]
      exact (hR'.2.2.2.2.1 z.2.2.2.1 (by omega)).symm
    refine ⟨T', fu', k', S', A, hu', hq.mv hu'.1 D, ⟨?_, fun a ha => ?_⟩, hr.T eT⟩
    · rw [er, eS]
      exact hl.1
    · by_cases e : a = z.2.2.2.1
      · subst e
        refine ⟨hfn, ?_, hwn, ?_⟩
        · rw [eS, a0]
          exact upd_at
        · rw [a0, iN_nI (by omega), a2, a3, b4, b5, b6, b7, eS]
          obtain ⟨m0, m1, m2, m3, m4, m5, m6⟩ := hM
          exact ⟨fun q => (upd_at).trans (m0 q), fun q => (upd_at).trans (m1 q), fun q => (upd_at).trans (m2 q), fun q => ⟨(upd_at).trans (m3 q).1, (upd_at).trans (m3 q).2.1, (upd_at).trans (m3 q).2.2.1, (upd_at).trans (m3 q).2.2.2⟩, fun q => (upd_at).trans (m4 q), fun q => ⟨(upd_at).trans (m5 q).1, (upd_at).trans (m5 q).2⟩, fun q => ⟨(upd_at).trans (m6 q).1, (upd_at).trans (m6 q).2.1, (upd_at).trans (m6 q).2.2⟩⟩
      · have ha : a < z.2.2.2.1 := by omega
        obtain ⟨g1, g2, g3, g4⟩ := hl.2 a ha
        rw [eS]
        refine ⟨g1.of (fun i hi f hf => by rw [a4 i (by omega)]), ?_, ?_, ?_⟩
        · rw [a4 a ha]
          exact (upd_lt ha).trans g2
        · rw [a4 a ha]
          exact (upd_lt ha).trans g3
        · rw [a4 a ha]
          obtain ⟨m0, m1, m2, m3, m4, m5, m6⟩ := g4
          exact ⟨fun q => (upd_lt ha).trans (m0 q), fun q => (upd_lt ha).trans (m1 q), fun q => (upd_lt ha).trans (m2 q), fun q => ⟨(upd_lt ha).trans (m3 q).1, (upd_lt ha).trans (m3 q).2.1, (upd_lt ha).trans (m3 q).2.2.1, (upd_lt ha).trans (m3 q).2.2.2⟩, fun q => (upd_lt ha).trans (m4 q), fun q => ⟨(upd_lt ha).trans (m5 q).1, (upd_lt ha).trans (m5 q).2⟩, fun q => ⟨(upd_lt ha).trans (m6 q).1, (upd_lt ha).trans (m6 q).2.1, (upd_lt ha).trans (m6 q).2.2⟩⟩
theorem sh_nd_w {z : sh_S} {w : Int32} (hn : (sh_node z w).2.2.2.2.1 = z.2.2.2.1 + 1) : (sh_node z w).2.2.2.2.2.1 z.2.2.2.1 = w := by
  unfold sh_node at hn ⊢
  by_cases e : 16 ≤ z.2.2.2.1
  · rw [if_pos e] at hn
    exact absurd hn (by show ¬ z.2.2.2.1 = z.2.2.2.1 + 1; omega)
  · rw [if_neg e]
    exact upd_at
theorem dg_count_end : ∀ (f r k : Nat), r < 10 ^ f → r / 10 ^ (dg_count f r k - k) = 0
  | 0, r, k, h => by
    rw [Nat.pow_zero] at h
    rw [show r = 0 by omega, Nat.zero_div]
  | f + 1, r, k, h => by
    unfold dg_count
    split
    · rename_i e
      rw [e, Nat.zero_div]
    · have ih := dg_count_end f (r / 10) (k + 1) (by rw [Nat.pow_succ] at h; omega)
      have lb := dg_count_lb f (r / 10) (k + 1)
      rw [show dg_count f (r / 10) (k + 1) - k = (dg_count f (r / 10) (k + 1) - (k + 1)) + 1 by omega, Nat.pow_succ, Nat.mul_comm, ← Nat.div_div_eq_div_mul]
      exact ih
theorem sh_cw {z : sh_S} {j w : Nat} {q : Int32} (hw : sh_w z (nI j) = nI w) (w6 : w ≤ 6) (hz : ¬ sh_nk z (nI j) q) : ∃ k' : Nat, k' < w ∧ q = nI k' := nI_of_lt (by omega) (fun e => hz (Or.inr (Or.inl e))) (fun e => hz (Or.inr (Or.inr (by rw [hw]; exact e))))

theorem mkf_scan {ids : Nat → ClassId} {h h' : rl_H} {n n' x L : Nat} {s : cl_S} {c c' : cl_N} {z : sh_S} {q : Int32} (hk : cl_ok ids h n x L s c) (hR : sh_R s c z) (hR' : sh_R s c' (sh_scan z q).2) (had : cl_ad ids h h' c c' (nI 0) (-1) (-1) (-1) (-1) (nI 0) q) (hc : c'.2.2.1 = c.2.2.1 + 1) : cl_f c'.2.2.2.1 c.2.2.1 := by
  obtain ⟨a4, a0, a2, a3, b4, b5, b6, b7⟩ := had.nf hc
  have hn : (sh_scan z q).2.2.2.2.1 = z.2.2.2.1 + 1 := by rw [← hR'.2.2.2.1, ← hR.2.2.2.1]; exact hc
  have hw : c'.2.2.2.1 c.2.2.1 1 = (sh_scan z q).2.2.2.2.2.1 z.2.2.2.1 := by rw [← hR.2.2.2.1]; exact hR'.2.2.2.2.1 c.2.2.1 (by omega)
  have nc16 := cl_nc hk
  have h1 : ¬ (q < 0 ∨ nI z.1 ≤ q) := fun e => by
    rw [show sh_scan z q = _ from if_pos e] at hn
    exact absurd hn (by show ¬ z.2.2.2.1 = z.2.2.2.1 + 1; omega)
  rw [show sh_scan z q = _ from if_neg h1] at hn hw
  rw [sh_nd_w hn] at hw
  obtain ⟨k1, k2, k3, k4, k5, -⟩ := hk
  obtain ⟨r1, r2, -⟩ := hR
  have z4 : s.2.2.2.1 ≤ 4 := k1.2.1.2.2.2.2.2.1
  obtain ⟨j, hj, rfl⟩ := nI_of_lt (k := z.1) (by omega) (fun e => h1 (Or.inl e)) (fun e => h1 (Or.inr e))
  obtain ⟨w, w1, w4, ew⟩ := k5 j (by omega)
  have ew : z.2.1 (nI j).toNatClampNeg = nI w := by rw [show (nI j).toNatClampNeg = j from iN_nI (by omega), ← r2]; exact ew
  refine ⟨0, w, 0, 0, a0, hw.trans ew, ⟨by decide, w1, by omega, by decide, by decide, fun _ => w4, fun q => absurd q (by decide), fun q => absurd q (by decide), fun q => absurd q (by decide), fun q => absurd q (by decide), fun q => absurd q (by decide)⟩, fun q => absurd q (by decide), fun q => absurd q (by decide), fun _ => a2, fun _ => a3⟩

theorem mkf_pick {ids : Nat → ClassId} {h h' : rl_H} {n n' x L : Nat} {s : cl_S} {c c' : cl_N} {z : sh_S} {q kk sg ot vv : Int32} (hk : cl_ok ids h n x L s c) (hR : sh_R s c z) (hR' : sh_R s c' (sh_pick z q kk sg ot).2) (had : cl_ad ids h h' c c' (nI 1) q (-1) kk ot sg vv) (hc : c'.2.2.1 = c.2.2.1 + 1) : cl_f c'.2.2.2.1 c.2.2.1 := by
  obtain ⟨a4, a0, a2, a3, b4, b5, b6, b7⟩ := had.nf hc
  have hn : (sh_pick z q kk sg ot).2.2.2.2.1 = z.2.2.2.1 + 1 := by rw [← hR'.2.2.2.1, ← hR.2.2.2.1]; exact hc
  have hw : c'.2.2.2.1 c.2.2.1 1 = (sh_pick z q kk sg ot).2.2.2.2.2.1 z.2.2.2.1 := by rw [← hR.2.2.2.1]; exact hR'.2.2.2.2.1 c.2.2.1 (by omega)
  have nc16 := cl_nc hk
  have h1 : ¬ (sh_nk z q kk ∨ (ot ≠ -1 ∧ sh_nk z q ot)) := fun e => by
    rw [show sh_pick z q kk sg ot = _ from if_pos e] at hn
    exact absurd hn (by show ¬ z.2.2.2.1 = z.2.2.2.1 + 1; omega)
  rw [show sh_pick z q kk sg ot = _ from if_neg h1] at hn hw
  have h2 : ¬ (sg < 0 ∨ ¬ sg ≤ nI 2) := fun e => by
    rw [if_pos e] at hn
    exact absurd hn (by show ¬ z.2.2.2.1 = z.2.2.2.1 + 1; omega)
  rw [if_neg h2] at hn hw
  rw [sh_nd_w hn] at hw
  obtain ⟨j, w, hj, rfl, w1, w6, ew, esw, -⟩ := hR.nd hk (q := q) (fun e => h1 (Or.inl (Or.inl e)))
  obtain ⟨c4, hc4, e4⟩ := sh_cw esw w6 (fun e => h1 (Or.inl e))
  obtain ⟨kd, hkd, e6⟩ := nI_of2 (M := nI 2) (nI_toInt (by decide)) (fun e => h2 (Or.inl e)) (Decidable.not_not.mp (fun e => h2 (Or.inr e)))
  have h5 : ot = -1 ∨ ∃ c5 : Nat, c5 < w ∧ ot = nI c5 := by
    by_cases e : ot = -1
    · exact Or.inl e
    · exact Or.inr (sh_cw esw w6 (fun e2 => h1 (Or.inr ⟨e, e2⟩)))
  refine ⟨1, w, w, 0, a0, hw.trans esw, ⟨by decide, w1, w6, w6, by decide, fun q => absurd q (by decide), fun _ => ⟨rfl, ⟨c4, hc4, b4.trans e4⟩, by rw [b5]; exact h5, kd, hkd, b6.trans e6⟩, fun q => absurd q (by decide), fun q => absurd q (by decide), fun q => absurd q (by decide), fun q => absurd q (by decide)⟩, fun _ => ⟨j, hj, a2, (by rw [a4 j hj]; exact ew)⟩, fun q => absurd q (by decide), fun q => absurd q (by decide), fun _ => a3⟩

theorem mkf_join {ids : Nat → ClassId} {h h' : rl_H} {n n' x L : Nat} {s : cl_S} {c c' : cl_N} {z : sh_S} {a b i jj : Int32} (hk : cl_ok ids h n x L s c) (hR : sh_R s c z) (hR' : sh_R s c' (sh_join z a b i jj).2) (had : cl_ad ids h h' c c' (nI 3) a b i jj (nI 0) (nI 0)) (hc : c'.2.2.1 = c.2.2.1 + 1) : cl_f c'.2.2.2.1 c.2.2.1 := by
  obtain ⟨a4, a0, a2, a3, b4, b5, b6, b7⟩ := had.nf hc
  have hn : (sh_join z a b i jj).2.2.2.2.1 = z.2.2.2.1 + 1 := by rw [← hR'.2.2.2.1, ← hR.2.2.2.1]; exact hc
  have hw : c'.2.2.2.1 c.2.2.1 1 = (sh_join z a b i jj).2.2.2.2.2.1 z.2.2.2.1 := by rw [← hR.2.2.2.1]; exact hR'.2.2.2.2.1 c.2.2.1 (by omega)
  have nc16 := cl_nc hk
  have h1 : ¬ (sh_nk z a i ∨ sh_nk z b jj) := fun e => by
    rw [show sh_join z a b i jj = _ from if_pos e] at hn
    exact absurd hn (by show ¬ z.2.2.2.1 = z.2.2.2.1 + 1; omega)
  rw [show sh_join z a b i jj = _ from if_neg h1] at hn hw
  have h2 : ¬ (¬ sh_w z a + sh_w z b ≤ nI 6) := fun e => by
    rw [if_pos e] at hn
    exact absurd hn (by show ¬ z.2.2.2.1 = z.2.2.2.1 + 1; omega)
  rw [if_neg h2] at hn hw
  rw [sh_nd_w hn] at hw
  obtain ⟨j, w, hj, rfl, w1, w6, ew, esw, -⟩ := hR.nd hk (q := a) (fun e => h1 (Or.inl (Or.inl e)))
  obtain ⟨t, v, ht, rfl, v1, v6, ev, esv, -⟩ := hR.nd hk (q := b) (fun e => h1 (Or.inr (Or.inl e)))
  obtain ⟨c4, hc4, e4⟩ := sh_cw esw w6 (fun e => h1 (Or.inl e))
  obtain ⟨c5, hc5, e5⟩ := sh_cw esv v6 (fun e => h1 (Or.inr e))
  rw [esw, esv, nI_add] at h2 hw
  have wv : w + v ≤ 6 := by
    rcases Nat.lt_or_ge 6 (w + v) with u | u
    · exact absurd (nI_ge u (by omega)) h2
    · exact u
  refine ⟨3, w + v, w, v, a0, hw, ⟨by decide, by omega, wv, w6, v6, fun q => absurd q (by decide), fun q => absurd q (by decide), fun q => absurd q (by decide), fun _ => ⟨⟨c4, hc4, b4.trans e4⟩, ⟨c5, hc5, b5.trans e5⟩, rfl⟩, fun q => absurd q (by decide), fun q => absurd q (by decide)⟩, fun _ => ⟨j, hj, a2, (by rw [a4 j hj]; exact ew)⟩, fun _ => ⟨t, ht, a3, (by rw [a4 t ht]; exact ev)⟩, fun q => absurd q (by decide), fun q => absurd q (by decide)⟩

theorem mkf_unite {ids : Nat → ClassId} {h h' : rl_H} {n n' x L : Nat} {s : cl_S} {c c' : cl_N} {z : sh_S} {a b : Int32} (hk : cl_ok ids h n x L s c) (hR : sh_R s c z) (hR' : sh_R s c' (sh_pair z a b).2) (had : cl_ad ids h h' c c' (nI 4) a b (-1) (-1) (nI 0) (nI 0)) (hc : c'.2.2.1 = c.2.2.1 + 1) : cl_f c'.2.2.2.1 c.2.2.1 := by
  obtain ⟨a4, a0, a2, a3, b4, b5, b6, b7⟩ := had.nf hc
  have hn : (sh_pair z a b).2.2.2.2.1 = z.2.2.2.1 + 1 := by rw [← hR'.2.2.2.1, ← hR.2.2.2.1]; exact hc
  have hw : c'.2.2.2.1 c.2.2.1 1 = (sh_pair z a b).2.2.2.2.2.1 z.2.2.2.1 := by rw [← hR.2.2.2.1]; exact hR'.2.2.2.2.1 c.2.2.1 (by omega)
  have nc16 := cl_nc hk
  have h1 : ¬ (sh_nn z a ∨ sh_nn z b) := fun e => by
    rw [show sh_pair z a b = _ from if_pos e] at hn
    exact absurd hn (by show ¬ z.2.2.2.1 = z.2.2.2.1 + 1; omega)
  rw [show sh_pair z a b = _ from if_neg h1] at hn hw
  have h2 : ¬ (sh_w z a ≠ sh_w z b) := fun e => by
    rw [if_pos e] at hn
    exact absurd hn (by show ¬ z.2.2.2.1 = z.2.2.2.1 + 1; omega)
  rw [if_neg h2] at hn hw
  rw [sh_nd_w hn] at hw
  obtain ⟨j, w, hj, rfl, w1, w6, ew, esw, -⟩ := hR.nd hk (q := a) (fun e => h1 (Or.inl e))
  obtain ⟨t, v, ht, rfl, v1, v6, ev, esv, -⟩ := hR.nd hk (q := b) (fun e => h1 (Or.inr e))
  rw [esw, esv] at h2
  have wv : w = v := nI_inj2 (by omega) (by omega) (Decidable.not_not.mp h2)
  refine ⟨4, w, w, v, a0, hw.trans esw, ⟨by decide, w1, w6, w6, v6, fun q => absurd q (by decide), fun q => absurd q (by decide), fun q => absurd q (by decide), fun q => absurd q (by decide), fun _ => ⟨rfl, wv⟩, fun q => absurd q (by decide)⟩, fun _ => ⟨j, hj, a2, (by rw [a4 j hj]; exact ew)⟩, fun _ => ⟨t, ht, a3, (by rw [a4 t ht]; exact ev)⟩, fun q => absurd q (by decide), fun q => absurd q (by decide)⟩

theorem mkf_minus {ids : Nat → ClassId} {h h' : rl_H} {n n' x L : Nat} {s : cl_S} {c c' : cl_N} {z : sh_S} {a b : Int32} (hk : cl_ok ids h n x L s c) (hR : sh_R s c z) (hR' : sh_R s c' (sh_pair z a b).2) (had : cl_ad ids h h' c c' (nI 5) a b (-1) (-1) (nI 0) (nI 0)) (hc : c'.2.2.1 = c.2.2.1 + 1) : cl_f c'.2.2.2.1 c.2.2.1 := by
  obtain ⟨a4, a0, a2, a3, b4, b5, b6, b7⟩ := had.nf hc
  have hn : (sh_pair z a b).2.2.2.2.1 = z.2.2.2.1 + 1 := by rw [← hR'.2.2.2.1, ← hR.2.2.2.1]; exact hc
  have hw : c'.2.2.2.1 c.2.2.1 1 = (sh_pair z a b).2.2.2.2.2.1 z.2.2.2.1 := by rw [← hR.2.2.2.1]; exact hR'.2.2.2.2.1 c.2.2.1 (by omega)
  have nc16 := cl_nc hk
  have h1 : ¬ (sh_nn z a ∨ sh_nn z b) := fun e => by
    rw [show sh_pair z a b = _ from if_pos e] at hn
    exact absurd hn (by show ¬ z.2.2.2.1 = z.2.2.2.1 + 1; omega)
  rw [show sh_pair z a b = _ from if_neg h1] at hn hw
  have h2 : ¬ (sh_w z a ≠ sh_w z b) := fun e => by
    rw [if_pos e] at hn
    exact absurd hn (by show ¬ z.2.2.2.1 = z.2.2.2.1 + 1; omega)
  rw [if_neg h2] at hn hw
  rw [sh_nd_w hn] at hw
  obtain ⟨j, w, hj, rfl, w1, w6, ew, esw, -⟩ := hR.nd hk (q := a) (fun e => h1 (Or.inl e))
  obtain ⟨t, v, ht, rfl, v1, v6, ev, esv, -⟩ := hR.nd hk (q := b) (fun e => h1 (Or.inr e))
  rw [esw, esv] at h2
  have wv : w = v := nI_inj2 (by omega) (by omega) (Decidable.not_not.mp h2)
  refine ⟨5, w, w, v, a0, hw.trans esw, ⟨by decide, w1, w6, w6, v6, fun q => absurd q (by decide), fun q => absurd q (by decide), fun q => absurd q (by decide), fun q => absurd q (by decide), fun _ => ⟨rfl, wv⟩, fun q => absurd q (by decide)⟩, fun _ => ⟨j, hj, a2, (by rw [a4 j hj]; exact ew)⟩, fun _ => ⟨t, ht, a3, (by rw [a4 t ht]; exact ev)⟩, fun q => absurd q (by decide), fun q => absurd q (by decide)⟩

theorem mkf_fold {ids : Nat → ClassId} {h h' : rl_H} {n n' x L : Nat} {s : cl_S} {c c' : cl_N} {z : sh_S} {q kk jj kd : Int32} (hk : cl_ok ids h n x L s c) (hR : sh_R s c z) (hR' : sh_R s c' (sh_fold z q kk jj kd).2) (had : cl_ad ids h h' c c' (nI 6) q (-1) kk jj kd (nI 0)) (hc : c'.2.2.1 = c.2.2.1 + 1) : cl_f c'.2.2.2.1 c.2.2.1 := by
  obtain ⟨a4, a0, a2, a3, b4, b5, b6, b7⟩ := had.nf hc
  have hn : (sh_fold z q kk jj kd).2.2.2.2.1 = z.2.2.2.1 + 1 := by rw [← hR'.2.2.2.1, ← hR.2.2.2.1]; exact hc
  have hw : c'.2.2.2.1 c.2.2.1 1 = (sh_fold z q kk jj kd).2.2.2.2.2.1 z.2.2.2.1 := by rw [← hR.2.2.2.1]; exact hR'.2.2.2.2.1 c.2.2.1 (by omega)
  have nc16 := cl_nc hk
  have h1 : ¬ (sh_nk z q kk ∨ sh_nk z q jj) := fun e => by
    rw [show sh_fold z q kk jj kd = _ from if_pos e] at hn
    exact absurd hn (by show ¬ z.2.2.2.1 = z.2.2.2.1 + 1; omega)
  rw [show sh_fold z q kk jj kd = _ from if_neg h1] at hn hw
  have h2 : ¬ (kd < 0 ∨ ¬ kd ≤ nI 3) := fun e => by
    rw [if_pos e] at hn
    exact absurd hn (by show ¬ z.2.2.2.1 = z.2.2.2.1 + 1; omega)
  rw [if_neg h2] at hn hw
  rw [sh_nd_w hn] at hw
  obtain ⟨j, w, hj, rfl, w1, w6, ew, esw, -⟩ := hR.nd hk (q := q) (fun e => h1 (Or.inl (Or.inl e)))
  obtain ⟨c4, hc4, e4⟩ := sh_cw esw w6 (fun e => h1 (Or.inl e))
  obtain ⟨c5, hc5, e5⟩ := sh_cw esw w6 (fun e => h1 (Or.inr e))
  obtain ⟨k3, hk3, e6⟩ := nI_of2 (M := nI 3) (nI_toInt (by decide)) (fun e => h2 (Or.inl e)) (Decidable.not_not.mp (fun e => h2 (Or.inr e)))
  refine ⟨6, 2, w, 0, a0, hw, ⟨by decide, by decide, by decide, w6, by decide, fun q => absurd q (by decide), fun q => absurd q (by decide), fun q => absurd q (by decide), fun q => absurd q (by decide), fun q => absurd q (by decide), fun _ => ⟨rfl, ⟨c4, hc4, b4.trans e4⟩, ⟨c5, hc5, b5.trans e5⟩, k3, hk3, b6.trans e6⟩⟩, fun _ => ⟨j, hj, a2, (by rw [a4 j hj]; exact ew)⟩, fun q => absurd q (by decide), fun q => absurd q (by decide), fun _ => a3⟩

theorem mkf_cols {ids : Nat → ClassId} {h h' : rl_H} {n n' x L : Nat} {s : cl_S} {c c' : cl_N} {z : sh_S} {q d : Int32} (hk : cl_ok ids h n x L s c) (hR : sh_R s c z) (hR' : sh_R s c' (sh_cols z q d).2) (had : cl_ad ids h h' c c' (nI 2) q (-1) (-1) (-1) (nI 0) d) (hc : c'.2.2.1 = c.2.2.1 + 1) : cl_f c'.2.2.2.1 c.2.2.1 := by
  obtain ⟨a4, a0, a2, a3, b4, b5, b6, b7⟩ := had.nf hc
  have hn : (sh_cols z q d).2.2.2.2.1 = z.2.2.2.1 + 1 := by rw [← hR'.2.2.2.1, ← hR.2.2.2.1]; exact hc
  have hw : c'.2.2.2.1 c.2.2.1 1 = (sh_cols z q d).2.2.2.2.2.1 z.2.2.2.1 := by rw [← hR.2.2.2.1]; exact hR'.2.2.2.2.1 c.2.2.1 (by omega)
  have nc16 := cl_nc hk
  have h1 : ¬ (sh_nn z q) := fun e => by
    rw [show sh_cols z q d = _ from if_pos e] at hn
    exact absurd hn (by show ¬ z.2.2.2.1 = z.2.2.2.1 + 1; omega)
  rw [show sh_cols z q d = _ from if_neg h1] at hn hw
  have h2 : ¬ (d < nI 1 ∨ (999999 : Int32) < d ∨ dg_least 7 d.toNatClampNeg 9 = 0) := fun e => by
    rw [if_pos e] at hn
    exact absurd hn (by show ¬ z.2.2.2.1 = z.2.2.2.1 + 1; omega)
  rw [if_neg h2] at hn hw
  have h3 : ¬ (sh_w z q < nI (dg_great 7 d.toNatClampNeg 0)) := fun e => by
    rw [if_pos e] at hn
    exact absurd hn (by show ¬ z.2.2.2.1 = z.2.2.2.1 + 1; omega)
  rw [if_neg h3] at hn hw
  rw [sh_nd_w hn] at hw
  obtain ⟨j, w, hj, rfl, w1, w6, ew, esw, -⟩ := hR.nd hk (q := q) h1
  obtain ⟨N, hN, rfl⟩ := nI_of2 (M := (999999 : Int32)) (show (999999 : Int32).toInt = ((999999 : Nat) : Int) by decide +kernel) (fun e => h2 (Or.inl (Int32.lt_trans e (by decide +kernel)))) (Int32.not_lt.mp (fun e => h2 (Or.inr (Or.inl e))))
  rw [show (nI N).toNatClampNeg = N from iN_nI (by omega)] at h2 h3 hw
  have N1 : 1 ≤ N := Nat.pos_of_ne_zero (fun e => h2 (Or.inl (by rw [e]; decide +kernel)))
  have ub := dg_count_ub 6 7 N 0 (by omega)
  have lb : 1 ≤ dg_count 7 N 0 := by
    unfold dg_count
    rw [if_neg (by omega)]
    exact dg_count_lb _ _ _
  have en := dg_count_end 7 N 0 (by omega)
  have gw : dg_great 7 N 0 ≤ w := by
    rcases Nat.lt_or_ge w (dg_great 7 N 0) with u | u
    · have g10 := dg_n7 7 N 0 (by decide)
      exact absurd (by rw [esw]; exact nI_lt u (by omega)) h3
    · exact u
  have hin : ∀ c : Nat, c < dg_count 7 N 0 → N / 10 ^ c ≠ 0 ∧ c < 7 := fun c hc9 => dg_count_in 7 N 0 c hc9 (Nat.zero_le _)
  refine ⟨2, dg_count 7 N 0, w, 0, a0, hw, ⟨by decide, lb, by omega, w6, by decide, fun q => absurd q (by decide), fun q => absurd q (by decide), fun _ => ⟨N, by omega, b7, en, fun c hc9 => (hin c hc9).1, fun c hc9 => ⟨dg_least_ge 7 N 9 (fun e => h2 (Or.inr (Or.inr e))) c (hin c hc9).2 (hin c hc9).1, Nat.le_trans (dg_great_le 7 N 0 c (hin c hc9).2) gw⟩⟩, fun q => absurd q (by decide), fun q => absurd q (by decide), fun q => absurd q (by decide)⟩, fun _ => ⟨j, hj, a2, (by rw [a4 j hj]; exact ew)⟩, fun q => absurd q (by decide), fun q => absurd q (by decide), fun _ => a3⟩

theorem cd_src {ids : Nat → ClassId} {h h' : rl_H} {n x L : Nat} {s : cl_S} {c : cl_N} {z : sh_S} {res : List arow} {rw : Nat} (hk : cl_ok ids h n x L s c) (hR : sh_R s c z) (hd : cl_dp ids h s c) (hrs : cl_rs s c res rw) {q r : Int32} (H : (((q < nI 1 ∨ ¬ q ≤ nI 4) ∧ r = -2 ∧ h' = h) ∨ (¬ (q < nI 1 ∨ ¬ q ≤ nI 4) ∧ 4 ≤ s.2.2.2.1 ∧ r = -4 ∧ h' = h) ∨ (¬ (q < nI 1 ∨ ¬ q ≤ nI 4) ∧ s.2.2.2.1 < 4 ∧ r = nI s.2.2.2.1 ∧ cl_at ids h' x (upd s.1 s.2.2.2.1 q, s.2.1, s.2.2.1, s.2.2.2.1 + 1, s.2.2.2.2) c ∧ rl_fr h h' (x + 1) (x + 41)))) : ∃ s' : cl_S, cl_ok ids h' n x L s' c ∧ sh_R s' c (sh_source z q).2 ∧ r = (sh_source z q).1 ∧ cl_fr h h' x L ∧ cl_dp ids h' s' c ∧ cl_rs s' c res rw ∧ s'.2.1 = s.2.1 ∧ s'.2.2.1 = s.2.2.1 := by
  have F := cl_src hk hR H
  rcases H with ⟨a1, a2, rfl⟩ | ⟨a1, a2, a3, rfl⟩ | ⟨a1, a2, a3, a4, a5⟩
  · have e : sh_source z q = (-2, z) := if_pos a1
    exact ⟨s, hk, by rw [e]; exact hR, by rw [e]; exact a2, cl_fr.rf, hd, hrs, rfl, rfl⟩
  · have e : sh_source z q = (-4, z) := (if_neg a1).trans (if_pos (by have := hR.1; omega))
    exact ⟨s, hk, by rw [e]; exact hR, by rw [e]; exact a3, cl_fr.rf, hd, hrs, rfl, rfl⟩
  · obtain ⟨r1, r2, r3, r4, r5, r6⟩ := id hR
    have e : sh_source z q = (nI z.1, (z.1 + 1, upd z.2.1 z.1 q, z.2.2)) := (if_neg a1).trans (if_neg (by omega))
    have nc16 := cl_nc hk
    obtain ⟨k1, k2, k3, k4, k5, k6, k7⟩ := hk
    refine ⟨_, ⟨a4, k2, k3, k4, fun i hi => ?_, k6, fun k hk a w b e => ?_⟩, ?_, by rw [e, a3, r1], fun q z1 z2 => a5 q (by omega), cl_dp.eqv (s := (upd s.1 s.2.2.2.1 q, s.2.1, s.2.2.1, s.2.2.2.1 + 1, s.2.2.2.2)) hd nc16.1 (fun k hk q z1 z2 => ?_), hrs, rfl, rfl⟩
    · have hi : i < s.2.2.2.1 + 1 := hi
      show ∃ w : Nat, 1 ≤ w ∧ w ≤ 4 ∧ upd s.1 s.2.2.2.1 q i = nI w
      by_cases ei : i = s.2.2.2.1
      · rw [ei, upd_at]
        obtain ⟨w, hw, rfl⟩ := nI_of2 (M := nI 4) (nI_toInt (by decide)) (fun e => a1 (Or.inl (Int32.lt_trans e (by decide +kernel)))) (Decidable.not_not.mp (fun e => a1 (Or.inr e)))
        exact ⟨w, Nat.pos_of_ne_zero (fun e => a1 (Or.inl (by rw [e]; decide +kernel))), hw, rfl⟩
      · rw [upd_lt (show i < s.2.2.2.1 by omega)]
        exact k5 i (by omega)
    · have := k4 k (by omega)
      exact (k7 k hk a w b e).eqv (fun q z1 z2 => a5 q (by omega))
    · rw [e]
      exact ⟨by rw [← r1], by rw [← r1, ← r2], r3, r4, r5, r6⟩
    · have := k4 k hk
      exact a5 q (by omega)
/-- the Nodes' states alone are others -/
theorem cl_dp.un {ids : Nat → ClassId} {h h' : rl_H} {n x L : Nat} {s s' : cl_S} {c : cl_N} {pr : Int64} (hk : cl_ok ids h n x L s c) (hd : cl_dp ids h s c) (a5 : ∀ k, (k < x ∨ x + 41 ≤ k) → (∀ i, i < c.2.2.1 → k ≠ c.1 i) → h' k = h k) (nc : Nat) (hnc : nc ≤ c.2.2.1) : cl_dp ids h' s' (c.1, c.2.1, nc, cl_un c.2.2.2.1 c.2.2.1, -1, pr) := by
  have nc16 := cl_nc hk
  have c14 := hk.1.2.2.2.2.2.2.2.2.2.2.2.1
  have c15 := hk.1.2.2.2.2.2.2.2.2.2.2.2.2
  refine ⟨fun k hk => ?_, fun k hk => ?_, fun k hk => ?_⟩
  · have hk : k < c.2.1 := hk
    obtain ⟨wd, hw⟩ := hd.1 k hk
    refine ⟨wd, hw.eqv (fun q q1 q2 => a5 q ?_ (fun i hi e => ?_))⟩
    · have := c14 k hk
      omega
    · rcases Nat.lt_trichotomy i k with u | u | u
      · have := c15 i k u hk
        omega
      · rw [u] at e
        omega
      · have := c15 k i u (by omega)
        omega
  · have hk : k < nc := hk
    exact (hd.2.1 k (by omega)).of (fun i hi f hf => cl_un_8 hf)
  · have hk : k < nc := hk
    exact Or.inl (if_pos ⟨by omega, rfl⟩)
theorem cd_rw {ids : Nat → ClassId} {h h' : rl_H} {n x L : Nat} {s : cl_S} {c : cl_N} {z : sh_S} {res : List arow} {rw : Nat} (hk : cl_ok ids h n x L s c) (hR : sh_R s c z) (hd : cl_dp ids h s c) (hrs : cl_rs s c res rw) {q a b e d r : Int32} (H : (((q < 0 ∨ nI s.2.2.2.1 ≤ q) ∧ r = -1 ∧ h' = h) ∨ (¬ (q < 0 ∨ nI s.2.2.2.1 ≤ q) ∧ 36 ≤ s.2.2.2.2 ∧ r = -4 ∧ h' = h) ∨ (¬ (q < 0 ∨ nI s.2.2.2.1 ≤ q) ∧ s.2.2.2.2 < 36 ∧ r = nI s.2.2.2.2 ∧ cl_at ids h' x (s.1, upd s.2.1 s.2.2.2.2 q, (fun r => if r = s.2.2.2.2 then upd (upd (upd (upd (s.2.2.1 s.2.2.2.2) 0 a) 1 b) 2 e) 3 d else s.2.2.1 r), s.2.2.2.1, s.2.2.2.2 + 1) (c.1, c.2.1, c.2.2.1, cl_un c.2.2.2.1 c.2.2.1, -1, (c.2.2.2.2.2 ||| (1 : Int64) <<< ((nI s.2.2.2.2).toInt64 &&& 63))) ∧ ∀ k, (k < x ∨ x + 41 ≤ k) → (∀ i, i < c.2.2.1 → k ≠ c.1 i) → h' k = h k))) : ∃ (s' : cl_S) (c' : cl_N) (res' : List arow), cl_ok ids h' n x L s' c' ∧ sh_R s' c' (sh_row z q).2 ∧ r = (sh_row z q).1 ∧ cl_fr h h' x L ∧ cl_dp ids h' s' c' ∧ cl_rs s' c' res' rw ∧ ((s'.2.1 = s.2.1 ∧ s'.2.2.1 = s.2.2.1 ∧ c'.2.2.2.1 = c.2.2.2.1 ∧ (sh_row z q).2 = z ∧ res' = res) ∨ (s'.2.1 = upd s.2.1 z.2.2.1 q ∧ s'.2.2.1 = (fun r => if r = z.2.2.1 then upd (upd (upd (upd (s.2.2.1 z.2.2.1) 0 a) 1 b) 2 e) 3 d else s.2.2.1 r) ∧ (∀ i : Nat, i < z.2.2.2.1 → ∀ f : Nat, f < 8 → c'.2.2.2.1 i f = c.2.2.2.1 i f) ∧ (sh_row z q).2.2.2.1 = z.2.2.1 + 1 ∧ res' = [])) := by
  obtain ⟨r1, r2, r3, r4, r5, r6⟩ := id hR
  rcases H with ⟨a1, a2, rfl⟩ | ⟨a1, a2, a3, rfl⟩ | ⟨a1, a2, a3, a4, a5⟩
  · rw [r1] at a1
    have e : sh_row z q = (-1, z) := if_pos a1
    exact ⟨s, c, res, hk, by rw [e]; exact hR, by rw [e]; exact a2, cl_fr.rf, hd, hrs, Or.inl ⟨rfl, rfl, rfl, by rw [e], rfl⟩⟩
  · rw [r1] at a1
    have e : sh_row z q = (-4, z) := (if_neg a1).trans (if_pos (by omega))
    exact ⟨s, c, res, hk, by rw [e]; exact hR, by rw [e]; exact a3, cl_fr.rf, hd, hrs, Or.inl ⟨rfl, rfl, rfl, by rw [e], rfl⟩⟩
  · rw [r1] at a1
    have e : sh_row z q = (nI z.2.2.1, (z.1, z.2.1, z.2.2.1 + 1, z.2.2.2.1, z.2.2.2.2.1, z.2.2.2.2.2 ||| (1 : Int64) <<< ((nI z.2.2.1).toInt64 &&& 63))) := (if_neg a1).trans (if_neg (by omega))
    have nc16 := cl_nc hk
    have hdp := fun (s' : cl_S) (pr : Int64) => hd.un (s' := s') (pr := pr) hk a5 c.2.2.1 (Nat.le_refl _)
    obtain ⟨k1, k2, k3, k4, k5, k6, k7⟩ := hk
    refine ⟨_, _, [], ⟨a4, k2, k3, k4, k5, fun k hk => (k6 k hk).of (fun i _ f hf => cl_un_8 hf), fun k hk a w b e => absurd (if_pos ⟨hk, rfl⟩) a⟩, ?_, by rw [e, a3, r3], fun q z1 z2 => a5 q (by omega) (fun i hi => ?_), hdp _ _, Or.inl ⟨rfl, rfl⟩, Or.inr ⟨by rw [← r3], by rw [← r3], fun i _ f hf => cl_un_8 hf, by rw [e], rfl⟩⟩
    · rw [e]
      exact ⟨r1, r2, by rw [← r3], r4, fun k hk => (cl_un_8 (by decide)).trans (r5 k hk), by rw [← r6, ← r3]⟩
    · have := k4 i (by omega)
      omega
theorem cd_dr {ids : Nat → ClassId} {h h' : rl_H} {n x L : Nat} {s : cl_S} {c : cl_N} {z : sh_S} {res : List arow} {rw : Nat} (hk : cl_ok ids h n x L s c) (hR : sh_R s c z) (hd : cl_dp ids h s c) (hrs : cl_rs s c res rw) {q on r : Int32} (H : (((q < 0 ∨ nI s.2.2.2.2 ≤ q) ∧ r = -1 ∧ h' = h) ∨ (¬ (q < 0 ∨ nI s.2.2.2.2 ≤ q) ∧ r = (if dp_pr c.2.2.2.2.2 q on = c.2.2.2.2.2 then nI 0 else nI 1) ∧ cl_at ids h' x s (c.1, c.2.1, c.2.2.1, c.2.2.2.1, c.2.2.2.2.1, dp_pr c.2.2.2.2.2 q on) ∧ ∀ k, k ≠ x → h' k = h k))) : ∃ c' : cl_N, cl_ok ids h' n x L s c' ∧ sh_R s c' (sh_drop z q on).2 ∧ r = (sh_drop z q on).1 ∧ cl_fr h h' x L ∧ cl_dp ids h' s c' ∧ cl_rs s c' res rw ∧ c'.2.2.2.1 = c.2.2.2.1 := by
  obtain ⟨r1, r2, r3, r4, r5, r6⟩ := id hR
  rcases H with ⟨a1, a2, rfl⟩ | ⟨a1, a2, a3, a4⟩
  · rw [r3] at a1
    have e : sh_drop z q on = (-1, z) := if_pos a1
    exact ⟨c, hk, by rw [e]; exact hR, by rw [e]; exact a2, cl_fr.rf, hd, hrs, rfl⟩
  · rw [r3] at a1
    have e : sh_drop z q on = (if dp_pr z.2.2.2.2.2 q on = z.2.2.2.2.2 then nI 0 else nI 1, (z.1, z.2.1, z.2.2.1, z.2.2.2.1, z.2.2.2.2.1, dp_pr z.2.2.2.2.2 q on)) := if_neg a1
    have nc16 := cl_nc hk
    obtain ⟨k1, k2, k3, k4, k5, k6, k7⟩ := hk
    refine ⟨_, ⟨a3, k2, k3, k4, k5, k6, fun k hk a w b e => ?_⟩, ?_, by rw [e, a2, r6], fun q z1 z2 => a4 q (by omega), cl_dp.eqv (hd.rp c.2.2.2.2.1 (dp_pr c.2.2.2.2.2 q on)) nc16.1 (fun k hk q z1 z2 => a4 q ?_), hrs, rfl⟩
    · have hk : k < c.2.2.1 := hk
      have := k4 k (by omega)
      refine (k7 k hk a w b e).eqv (fun q z1 z2 => a4 q ?_)
      have z1 : c.1 k + 1 ≤ q := z1
      omega
    · rw [e]
      exact ⟨r1, r2, r3, r4, r5, by rw [← r6]⟩
    · have hk : k < c.2.1 := hk
      have := k4 k hk
      have z1 : c.1 k + 1 ≤ q := z1
      omega
theorem cd_clr {ids : Nat → ClassId} {h h' : rl_H} {n x L : Nat} {s : cl_S} {c : cl_N} {z : sh_S} {res : List arow} {rw : Nat} (hk : cl_ok ids h n x L s c) (hR : sh_R s c z) (hd : cl_dp ids h s c) (hrs : cl_rs s c res rw) (a4 : cl_at ids h' x (s.1, s.2.1, s.2.2.1, 0, 0) (c.1, c.2.1, 0, cl_un c.2.2.2.1 c.2.2.1, -1, 0)) (a5 : ∀ k, (k < x ∨ x + 41 ≤ k) → (∀ i, i < c.2.2.1 → k ≠ c.1 i) → h' k = h k) : ∃ (s' : cl_S) (c' : cl_N), cl_ok ids h' n x L s' c' ∧ sh_R s' c' (sh_clear z) ∧ cl_fr h h' x L ∧ cl_dp ids h' s' c' ∧ cl_rs s' c' [] rw := by
  obtain ⟨r1, r2, r3, r4, r5, r6⟩ := id hR
  have nc16 := cl_nc hk
  have hdp := fun (s' : cl_S) (pr : Int64) => hd.un (s' := s') (pr := pr) hk a5 0 (Nat.zero_le _)
  obtain ⟨k1, k2, k3, k4, k5, k6, k7⟩ := hk
  refine ⟨_, _, ⟨a4, k2, k3, k4, fun i hi => absurd hi (Nat.not_lt_zero i), fun i hi => absurd hi (Nat.not_lt_zero i), fun i hi => absurd hi (Nat.not_lt_zero i)⟩, ⟨rfl, r2, rfl, rfl, fun i hi => absurd hi (Nat.not_lt_zero i), rfl⟩, fun q z1 z2 => a5 q (by omega) (fun i hi => ?_), hdp _ _, Or.inl ⟨rfl, rfl⟩⟩
  have := k4 i (by omega)
  omega
/-- run on both sides -/
theorem cd_run {s : cl_S} {c : cl_N} {z : sh_S} {res res' : List arow} {rw rw' : Nat} {A : md_D} {T : md_T} {N' : Nat → Nat → Int32} {rs q r1 r2 : Int32} (hR : sh_R s c z) (n16 : c.2.2.1 ≤ 16) (hrs : cl_rs s c res rw) (hN : ∀ k f : Nat, f < 8 → N' k f = c.2.2.2.1 k f) (hkp : ∀ k : Nat, c.2.2.2.1 k 8 ≠ nI 0 → N' k 8 = c.2.2.2.1 k 8) (hm : mrs A T res' rw') (H1 : (¬ (∃ j : Nat, j < c.2.2.1 ∧ q = nI j) ∧ r1 = -1 ∧ rs = c.2.2.2.2.1) ∨ ∃ j : Nat, j < c.2.2.1 ∧ q = nI j ∧ ((semc s c j = none ∧ r1 = -4 ∧ rs = c.2.2.2.2.1) ∨ ∃ tab : List arow, semc s c j = some tab ∧ r1 = nI tab.length ∧ rs = nI j ∧ N' j 8 = nI 1)) (H2 : (¬ (∃ j : Nat, j < z.2.2.2.1 ∧ q = nI j) ∧ r2 = -1 ∧ res' = res ∧ rw' = rw) ∨ ∃ j : Nat, j < z.2.2.2.1 ∧ q = nI j ∧ ((sem s.2.1 s.2.2.1 z.2.2.1 c.2.2.2.1 j = none ∧ r2 = -4 ∧ res' = res ∧ rw' = rw) ∨ ∃ tab : List arow, sem s.2.1 s.2.2.1 z.2.2.1 c.2.2.2.1 j = some tab ∧ r2 = nI tab.length ∧ res' = tab ∧ c.2.2.2.1 j 1 = nI rw')) : r1 = r2 ∧ cl_rs s (c.1, c.2.1, c.2.2.1, N', rs, c.2.2.2.2.2) res' rw' := by
  rw [← hR.2.2.1, ← hR.2.2.2.1] at H2
  have es : ∀ j : Nat, semc s (c.1, c.2.1, c.2.2.1, N', rs, c.2.2.2.2.2) j = semc s c j := fun j => sem_eq _ _ _ _ (fun i _ f hf => hN i f hf)
  have kp : rs = c.2.2.2.2.1 → cl_rs s (c.1, c.2.1, c.2.2.1, N', rs, c.2.2.2.2.2) res rw := fun e => by
    rcases hrs with ⟨h1, h2⟩ | ⟨j, h1, h2, h3, h4, h5, h6⟩
    · exact Or.inl ⟨e.trans h1, h2⟩
    · exact Or.inr ⟨j, h1, e.trans h2, (hkp j (by rw [h3]; decide +kernel)).trans h3, (es j).trans h4, (hN j 1 (by decide)).trans h5, h6⟩
  rcases H1 with ⟨a1, a2, a3⟩ | ⟨j, hj, rfl, H1⟩
  · rcases H2 with ⟨b1, b2, b3, b4⟩ | ⟨i, hi, e, -⟩
    · rw [b3, b4]
      exact ⟨a2.trans b2.symm, kp a3⟩
    · exact absurd ⟨i, hi, e⟩ a1
  · rcases H2 with ⟨b1, -⟩ | ⟨i, hi, e, H2⟩
    · exact absurd ⟨j, hj, rfl⟩ b1
    · have ij := nI_inj2 (by omega) (by omega) e
      subst ij
      rcases H1 with ⟨a1, a2, a3⟩ | ⟨tab, a1, a2, a3, a4⟩
      · rcases H2 with ⟨b1, b2, b3, b4⟩ | ⟨tab2, b1, b2, b3, b4⟩
        · rw [b3, b4]
          exact ⟨a2.trans b2.symm, kp a3⟩
        · exact absurd (a1.symm.trans b1) (by simp)
      · rcases H2 with ⟨b1, b2, b3, b4⟩ | ⟨tab2, b1, b2, b3, b4⟩
        · exact absurd (b1.symm.trans a1) (by simp)
        · have et : tab = tab2 := Option.some.inj (a1.symm.trans b1)
          rw [b3, ← et]
          exact ⟨a2.trans (by rw [b2, et]), Or.inr ⟨j, hj, a3, a4, (es j).trans a1, (hN j 1 (by decide)).trans b4, hm.2.2.1⟩⟩
/-- two looks that say the same -/
theorem lk_eq {res : List arow} {q r1 r2 : Int32} {F : Nat → Int32} (n80 : res.length ≤ 80) (H1 : (¬ (∃ t : Nat, t < res.length ∧ q = nI t) ∧ r1 = -1) ∨ ∃ t : Nat, t < res.length ∧ q = nI t ∧ r1 = F t) (H2 : (¬ (∃ t : Nat, t < res.length ∧ q = nI t) ∧ r2 = -1) ∨ ∃ t : Nat, t < res.length ∧ q = nI t ∧ r2 = F t) : r1 = r2 := by
  rcases H1 with ⟨a1, a2⟩ | ⟨t, a1, rfl, a2⟩
  · rcases H2 with ⟨b1, b2⟩ | ⟨t, b1, e, b2⟩
    · exact a2.trans b2.symm
    · exact absurd ⟨t, b1, e⟩ a1
  · rcases H2 with ⟨b1, b2⟩ | ⟨u, b1, e, b2⟩
    · exact absurd ⟨t, a1, rfl⟩ b1
    · have tu := nI_inj2 (by omega) (by omega) e
      rw [a2, b2, tu]
/-- what one round of the law leaves -/
def lgd_ok (ids : Nat → ClassId) (h : rl_H) (n x : Nat) : Prop := ∃ (s : cl_S) (c : cl_N) (z : sh_S) (res : List arow) (rw : Nat), cl_ok ids h n x (x + 94) s c ∧ sh_R s c z ∧ cl_dp ids h s c ∧ cl_rs s c res rw ∧ mdd ids h (x + 70) z s.2.1 s.2.2.1 c.2.2.2.1 res rw ∧ ∃ of : Nat → Int64, h (x + 93) = some (.inl (ids 1, 1, .inr (.inl of)))
theorem lgd_ok.of {ids : Nat → ClassId} {h h1 h2 : rl_H} {n1 x : Nat} {s : cl_S} {c : cl_N} {z : sh_S} {res : List arow} {rw : Nat} {of : Nat → Int64} (hou : h (x + 93) = some (.inl (ids 1, 1, .inr (.inl of)))) (f1 : cl_fr h h1 x (x + 94)) (hk : cl_ok ids h1 n1 x (x + 94) s c) (hR : sh_R s c z) (hd : cl_dp ids h1 s c) (hrs : cl_rs s c res rw) (hm : mdd ids h2 (x + 70) z s.2.1 s.2.2.1 c.2.2.2.1 res rw) (f2 : rl_fr h1 h2 (x + 70) (x + 70 + 23)) : lgd_ok ids h2 n1 x :=
  ⟨s, c, z, res, rw, hk.eqv (Nat.le_refl _) (fun q hq => f2 q (by omega)), hR, hd.eqv (cl_nc hk).1 (fun k hk9 q a b => f2 q (by have := hk.2.2.2.1 k hk9; omega)), hrs, hm, of, (f2 _ (by omega)).trans ((f1 _ (by omega) (by omega)).trans hou)⟩
theorem cl_new.D {ids : Nat → ClassId} {h : rl_H} : cl_dp ids h (fun _ => 0, fun _ => 0, fun _ _ => 0, 0, 0) (fun _ => 0, 0, 0, fun _ _ => 0, -1, 0) := ⟨fun k hk => absurd hk (Nat.not_lt_zero k), fun k hk => absurd hk (Nat.not_lt_zero k), fun k hk => absurd hk (Nat.not_lt_zero k)⟩
theorem md_new.D {ids : Nat → ClassId} {h : rl_H} {m : Nat} (H : md_new ids h m) {sf : Nat → Int32} {cf N : Nat → Nat → Int32} : mdd ids h m (0, fun _ => 0, 0, 0, fun _ => 0, 0) sf cf N [] 0 := by
  obtain ⟨m0, m1, m2, m3, m4, m5, m6, m7, m8, m9, m10, m11, m12, m13, m14, m15, m16, m17, m18, m19, m20, m21, m22⟩ := H
  have q : mq ids h h m (nI 0, nI 0, nI 0, 0, nI 0, nI 0, nI 0) (nI 0) 0 := ⟨m0, Nat.zero_le _, ⟨⟨_, m12⟩, ⟨_, m13, fun k _ => ⟨0, by decide, nI_0.symm⟩⟩, ⟨_, m14⟩, ⟨_, m15, fun k _ => ⟨0, by decide, nI_0.symm⟩⟩, ⟨_, m16⟩, ⟨_, m17⟩, ⟨_, m18⟩, ⟨_, m19⟩, ⟨_, m20⟩, ⟨_, m21, fun k _ => ⟨0, by decide, nI_0.symm⟩⟩, ⟨_, m22⟩⟩, fun _ _ _ => rfl⟩
  exact ⟨(nI 0, nI 0, nI 0, 0, nI 0, nI 0, nI 0), nI 0, 0, (fun _ => 0, fun _ => 0, fun _ => 0, fun _ => 0, fun _ => 0, fun _ => 0, fun _ => 0, fun _ => 0, fun _ => 0, fun _ => 0, fun _ => 0), (fun _ => 0, fun _ => 0, fun _ => 0, fun _ => 0, fun _ => 0, fun _ => 0, fun _ => 0, fun _ => 0, fun _ => 0, fun _ => 0, fun _ => 0), ⟨q, ⟨m1, m2, m3, m4, m5, m6, m7, m8, m9, m10, m11⟩, ⟨rfl, Nat.zero_le _⟩, rfl, ⟨rfl, Nat.zero_le _⟩, ⟨rfl, Nat.zero_le _⟩, rfl, rfl, fun a ha => absurd ha (Nat.not_lt_zero a), fun a ha => absurd ha (Nat.not_lt_zero a), ⟨0, Nat.zero_le _, rfl⟩⟩, ⟨q, m12, m13, m14, m15, m16, m17, m18, m19, m20, m21, m22⟩, ⟨fun r hr => absurd hr (Nat.not_lt_zero r), fun a ha => absurd ha (Nat.not_lt_zero a)⟩, mrs.nil nI_0.symm (by decide)⟩
end
section
/-! THE CLASS, functionally: under, forward, told -/
theorem fwo_c (x y : Int64) (r : arow) (R : List arow) (c : Int32) : fwo x y (r :: R) c = fwo x y R (if (wfh x r.2 0 = -1 ↔ wfh y r.2 0 = -1) then c else c + Int32.ofInt 1) := rfl
theorem hgo_c (x : Int64) (r : arow) (R : List arow) (c : Int32) : hgo x (r :: R) c = hgo x R (if wfh x r.2 0 = -1 then c else c + Int32.ofInt 1) := rfl
theorem tf_iff (a b : Int32) : ((if a = -1 then nI 0 else nI 1) = (if b = -1 then nI 0 else nI 1)) ↔ (a = -1 ↔ b = -1) := by
  by_cases p : a = -1
  · by_cases q : b = -1
    · rw [if_pos p, if_pos q]
      exact ⟨fun _ => ⟨fun _ => q, fun _ => p⟩, fun _ => rfl⟩
    · rw [if_pos p, if_neg q]
      exact ⟨fun e => absurd e (by decide +kernel), fun e => absurd (e.mp p) q⟩
  · by_cases q : b = -1
    · rw [if_neg p, if_pos q]
      exact ⟨fun e => absurd e (by decide +kernel), fun e => absurd (e.mpr q) p⟩
    · rw [if_neg p, if_neg q]
      exact ⟨fun _ => ⟨fun e => absurd e p, fun e => absurd e q⟩, fun _ => rfl⟩

set_option maxHeartbeats 4000000 in
set_option maxRecDepth 100000 in
theorem cd_X7_under (l : Launch) (D : va_G) (ids : Nat → ClassId) (H0 : Heap) (h : rl_H) (n : Nat) (x L : Nat) (s : cl_S) (c : cl_N) (res : List arow) (rw : Nat) (q : Int32) (st : Int64) (hk : cl_ok ids h n x L s c) (hd : cl_dp ids h s c) (hr : cl_rs s c res rw) : rl_Met l (rl_e D ids H0) rl_BW rl_Ns yX7_under cX7_under 5 (some .int) ({ frames := 3, cells := 0, slots := 0, locals := 64 }) [.ref x, .int q, .long st] h n (fun v h' n' => ∃ r : Int32, v = some (.int r) ∧ h' = h ∧ n' = n ∧ ((¬ (∃ t : Nat, t < res.length ∧ q = nI t) ∧ r = -1) ∨ ∃ t : Nat, t < res.length ∧ q = nI t ∧ r = (if (st.toUInt64 >>> ((nI s.2.2.2.2).toInt64.toUInt64 &&& Int64.toUInt64 63)).toInt64 = 0 then (if wfh st (ark res t).2 0 = -1 then nI 0 else nI 1) else (-2 : Int32)))) := by
  have nc16 := cl_nc hk
  have hc := hk.1
  obtain ⟨c1, c2, c3, ⟨pn, c4, c5⟩, ⟨pt, c6, c7⟩, c8, c9, c10, c11, c12, c13, c14, c15⟩ := id hc
  have htb := hr.tb hd (fun k hk9 => cl_wd hk hk9)
  obtain ⟨s1, s2, s3, s4, s5, s6, s7⟩ := id c2
  refine rl_Met.of (by decide +kernel) (Nat.le_of_ble_eq_true rfl) ?_
  intro X hC hB
  show rl_G X (rl_e D ids H0) 0 [some (.ref x), some (.int q), some (.long st), none, none] [] h n 0 0
  refine o_aload_n hC dX7_under_0 (by rfl) ?_
  refine o_iload_n hC dX7_under_1 (by rfl) ?_
  refine o_callV1 hC rl_BW_good rl_Ns_nw (by exact hB.2.2.2.2.2) YX7_resultTuple IX7_resultTuple VX7_resultTuple (mX7_141 hC) (by rw [hB.1]; exact cd_X7_resultTuple l D ids H0 _ _ x L s c res rw _ hk hd hr) (by exact c1) rfl rfl (Nat.le_of_ble_eq_true rfl) (by rw [hB.2.1]; first | exact Nat.le_of_ble_eq_true rfl | (dsimp only; omega)) (by rw [hB.2.1]; first | exact Nat.le_of_ble_eq_true rfl | (dsimp only; omega)) (by rw [hB.2.1]; first | exact Nat.le_of_ble_eq_true rfl | (dsimp only; omega)) (by rw [hB.2.1]; first | exact Nat.le_of_ble_eq_true rfl | (dsimp only; omega)) dX7_under_2 (fun v h_2 n_2 p_2 => ?_)
  obtain ⟨zv, rfl, rfl, rfl, hz⟩ := p_2
  try dsimp only [Option.toList, List.cons_append, List.nil_append]
  rcases hz with ⟨rfl, hz⟩ | ⟨t, j, i, htl, rfl, hj, hrs, hi, rfl, P, S, ht, er⟩
  · try dsimp only [Option.toList, List.cons_append, List.nil_append]
    refine o_astoreN hC dX7_under_5 (Nat.le_of_ble_eq_true rfl) ?_
    refine o_aloadN hC dX7_under_7 (by rfl) ?_
    refine o_ifnonnullN hC dX7_under_9 ?_
    refine o_iconst (v := (-1 : Int32)) hC dX7_under_12 (by decide +kernel) ?_
    refine o_iret hC hB dX7_under_13 (Nat.le_of_ble_eq_true rfl) (Nat.le_of_ble_eq_true rfl) ?_
    exact ⟨_, rfl, rfl, rfl, Or.inl ⟨hz, rfl⟩⟩
  · try dsimp only [Option.toList, List.cons_append, List.nil_append]
    obtain ⟨t1, ⟨tf, t2, t3⟩, t4, t5, t6, t7⟩ := id ht
    obtain ⟨e1, e2, e3⟩ := t5 i hi
    obtain ⟨w1, w2, w3, w4⟩ := id e3
    have ew : tls (S.2.1 i) (S.2.2.1 i) (S.2.2.2 i) = (ark res t).2 := congrArg Prod.snd er
    refine o_astore hC dX7_under_5 (Nat.le_of_ble_eq_true rfl) ?_
    refine o_aload hC dX7_under_7 (by rfl) ?_
    refine o_ifnonnull (tgt := 14) hC dX7_under_9 (by decide) ?_
    refine o_lload_n hC dX7_under_14 (by rfl) ?_
    refine o_aload_n hC dX7_under_15 (by rfl) ?_
    refine o_getf hC (fX7_10 hC rfl) dX7_under_16 (by repeat (first | with_reducible assumption | (rw [rl_u_s]; done) | (rw [rl_u_s]; rfl) | rw [rl_u_n (by first | with_reducible assumption | omega)])) (by first | rfl | with_reducible assumption) ?_
    refine o_getf hC (fX7_64 hC rfl) dX7_under_19 (by repeat (first | with_reducible assumption | (rw [rl_u_s]; done) | (rw [rl_u_s]; rfl) | rw [rl_u_n (by first | with_reducible assumption | omega)])) (by first | rfl | with_reducible assumption) ?_
    refine o_lushr hC dX7_under_22 ?_
    refine o_lconst (v := 0) hC dX7_under_23 (by decide +kernel) ?_
    refine o_lcmp hC dX7_under_24 ?_
    refine o_if_eq (tgt := 31) hC dX7_under_25 (by decide) (fun c_25 => ?_) (fun c_25 => ?_)
    · refine o_aload hC dX7_under_31 (by rfl) ?_
      refine o_getf hC (fX7_160 hC rfl) dX7_under_33 (by repeat (first | with_reducible assumption | (rw [rl_u_s]; done) | (rw [rl_u_s]; rfl) | rw [rl_u_n (by first | with_reducible assumption | omega)])) (by first | rfl | with_reducible assumption) ?_
      refine o_lload_n hC dX7_under_36 (by rfl) ?_
      refine o_callV1 hC rl_BW_good rl_Ns_nw (by exact hB.2.2.2.2.2) YX6_holdsWith IX6_holdsWith VX6_holdsWith (mX7_183 hC) (by rw [hB.1]; exact ct_X6_holdsWith l D ids H0 _ _ (c.1 j + 1 + 2 + 5 * i + 2) _ _ _ _ e3) (by exact e3.1) rfl rfl (Nat.le_of_ble_eq_true rfl) (by rw [hB.2.1]; first | exact Nat.le_of_ble_eq_true rfl | (dsimp only; omega)) (by rw [hB.2.1]; first | exact Nat.le_of_ble_eq_true rfl | (dsimp only; omega)) (by rw [hB.2.1]; first | exact Nat.le_of_ble_eq_true rfl | (dsimp only; omega)) (by rw [hB.2.1]; first | exact Nat.le_of_ble_eq_true rfl | (dsimp only; omega)) dX7_under_37 (fun v h_37 n_37 p_37 => ?_)
      obtain ⟨rfl, rfl, rfl⟩ := p_37
      rw [tm_first_0 ew]
      try dsimp only [Option.toList, List.cons_append, List.nil_append]
      refine o_callS1 hC rl_BW_good rl_Ns_nw (by exact hB.2.2.2.2.2) YX7_asNumber SX7_asNumber (mX7_187 hC) (by rw [hB.1]; exact cd_X7_asNumber l D ids H0 _ _ _) (Nat.le_of_ble_eq_true rfl) (by rw [hB.2.1]; first | exact Nat.le_of_ble_eq_true rfl | (dsimp only; omega)) (by rw [hB.2.1]; first | exact Nat.le_of_ble_eq_true rfl | (dsimp only; omega)) (by rw [hB.2.1]; first | exact Nat.le_of_ble_eq_true rfl | (dsimp only; omega)) (by rw [hB.2.1]; first | exact Nat.le_of_ble_eq_true rfl | (dsimp only; omega)) dX7_under_40 (fun v h_40 n_40 p_40 => ?_)
      obtain ⟨rfl, rfl, rfl⟩ := p_40
      rw [as_h]
      try dsimp only [Option.toList, List.cons_append, List.nil_append]
      refine o_iret hC hB dX7_under_43 (Nat.le_of_ble_eq_true rfl) (Nat.le_of_ble_eq_true rfl) ?_
      first
      | exact ⟨_, rfl, rfl, rfl, Or.inr ⟨t, htl, rfl, (if_pos ((lg_cmp_eq _ _).mp c_25)).symm⟩⟩
      | exact ⟨_, rfl, rfl, rfl, Or.inr ⟨t, htl, rfl, (if_neg (fun w => c_25 ((lg_cmp_eq _ _).mpr w))).symm⟩⟩
    · refine o_bipush (v := (-2 : Int32)) hC dX7_under_28 (by decide +kernel) ?_
      refine o_iret hC hB dX7_under_30 (Nat.le_of_ble_eq_true rfl) (Nat.le_of_ble_eq_true rfl) ?_
      first
      | exact ⟨_, rfl, rfl, rfl, Or.inr ⟨t, htl, rfl, (if_pos ((lg_cmp_eq _ _).mp c_25)).symm⟩⟩
      | exact ⟨_, rfl, rfl, rfl, Or.inr ⟨t, htl, rfl, (if_neg (fun w => c_25 ((lg_cmp_eq _ _).mpr w))).symm⟩⟩

set_option maxHeartbeats 4000000 in
set_option maxRecDepth 100000 in
theorem cd_X7_forward (l : Launch) (D : va_G) (ids : Nat → ClassId) (H0 : Heap) (h : rl_H) (n : Nat) (x L : Nat) (s : cl_S) (c : cl_N) (res : List arow) (rw : Nat) (q : Int32) (hk : cl_ok ids h n x L s c) (hd : cl_dp ids h s c) (hr : cl_rs s c res rw) : rl_Met l (rl_e D ids H0) rl_BW rl_Ns yX7_forward cX7_forward 6 (some .int) ({ frames := 2, cells := 0, slots := 0, locals := 45 }) [.ref x, .int q] h n (fun v h' n' => ∃ r : Int32, v = some (.int r) ∧ h' = h ∧ n' = n ∧ (((q < 0 ∨ nI s.2.2.2.2 ≤ q) ∧ r = -1) ∨ (¬ (q < 0 ∨ nI s.2.2.2.2 ≤ q) ∧ r = fwo c.2.2.2.2.2 (c.2.2.2.2.2 ^^^ (1 : Int64) <<< (q.toInt64 &&& 63)) res (nI 0)))) := by
  have nc16 := cl_nc hk
  have hc := hk.1
  obtain ⟨c1, c2, c3, ⟨pn, c4, c5⟩, ⟨pt, c6, c7⟩, c8, c9, c10, c11, c12, c13, c14, c15⟩ := id hc
  have htb := hr.tb hd (fun k hk9 => cl_wd hk hk9)
  refine rl_Met.of (by decide +kernel) (Nat.le_of_ble_eq_true rfl) ?_
  intro X hC hB
  show rl_G X (rl_e D ids H0) 0 [some (.ref x), some (.int q), none, none, none, none] [] h n 0 0
  refine o_aload_n hC dX7_forward_0 (by rfl) ?_
  refine o_getf hC (fX7_10 hC rfl) dX7_forward_1 (by repeat (first | with_reducible assumption | (rw [rl_u_s]; done) | (rw [rl_u_s]; rfl) | rw [rl_u_n (by first | with_reducible assumption | omega)])) (by first | rfl | with_reducible assumption) ?_
  refine o_iload_n hC dX7_forward_4 (by rfl) ?_
  refine o_callV1 hC rl_BW_good rl_Ns_nw (by exact hB.2.2.2.2.2) YX3_isRow IX3_isRow VX3_isRow (mX7_178 hC) (by rw [hB.1]; exact ct_X3_isRow l D ids H0 _ _ (x + 1) _ _ _ _ _ _ c2) (by exact c2.1) rfl rfl (Nat.le_of_ble_eq_true rfl) (by rw [hB.2.1]; first | exact Nat.le_of_ble_eq_true rfl | (dsimp only; omega)) (by rw [hB.2.1]; first | exact Nat.le_of_ble_eq_true rfl | (dsimp only; omega)) (by rw [hB.2.1]; first | exact Nat.le_of_ble_eq_true rfl | (dsimp only; omega)) (by rw [hB.2.1]; first | exact Nat.le_of_ble_eq_true rfl | (dsimp only; omega)) dX7_forward_5 (fun v h_5 n_5 p_5 => ?_)
  obtain ⟨rfl, rfl, rfl⟩ := p_5
  try dsimp only [Option.toList, List.cons_append, List.nil_append]
  by_cases hr9 : (q < 0 ∨ nI s.2.2.2.2 ≤ q)
  · rw [if_pos hr9]
    refine o_if_ne (tgt := 13) hC dX7_forward_8 (by decide) (fun c_8 => ?_) (fun c_8 => ?_)
    · exact absurd rfl c_8
    · refine o_iconst (v := (-1 : Int32)) hC dX7_forward_11 (by decide +kernel) ?_
      refine o_iret hC hB dX7_forward_12 (Nat.le_of_ble_eq_true rfl) (Nat.le_of_ble_eq_true rfl) ?_
      exact ⟨_, rfl, rfl, rfl, Or.inl ⟨hr9, rfl⟩⟩
  · rw [if_neg hr9]
    refine o_if_ne (tgt := 13) hC dX7_forward_8 (by decide) (fun c_8 => ?_) (fun c_8 => ?_)
    · refine o_aload_n hC dX7_forward_13 (by rfl) ?_
      refine o_aload_n hC dX7_forward_14 (by rfl) ?_
      refine o_getf hC (fX7_49 hC rfl) dX7_forward_15 (by repeat (first | with_reducible assumption | (rw [rl_u_s]; done) | (rw [rl_u_s]; rfl) | rw [rl_u_n (by first | with_reducible assumption | omega)])) (by first | rfl | with_reducible assumption) ?_
      refine o_callV1 hC rl_BW_good rl_Ns_nw (by exact hB.2.2.2.2.2) YX7_tableOf IX7_tableOf VX7_tableOf (mX7_127 hC) (by rw [hB.1]; exact cg_X7_tableOf l D ids H0 _ _ x s c _ hc) (by exact c1) rfl rfl (Nat.le_of_ble_eq_true rfl) (by rw [hB.2.1]; first | exact Nat.le_of_ble_eq_true rfl | (dsimp only; omega)) (by rw [hB.2.1]; first | exact Nat.le_of_ble_eq_true rfl | (dsimp only; omega)) (by rw [hB.2.1]; first | exact Nat.le_of_ble_eq_true rfl | (dsimp only; omega)) (by rw [hB.2.1]; first | exact Nat.le_of_ble_eq_true rfl | (dsimp only; omega)) dX7_forward_18 (fun v h_18 n_18 p_18 => ?_)
      obtain ⟨z18, rfl, rfl, rfl, hz⟩ := p_18
      try dsimp only [Option.toList, List.cons_append, List.nil_append]
      rcases hz with ⟨rfl, hz⟩ | ⟨j, hj, e, rfl⟩
      · try dsimp only [Option.toList, List.cons_append, List.nil_append]
        have hre : res = [] := by
          rcases htb with ⟨-, e⟩ | ⟨j, h1, h2, -⟩
          · exact e
          · exact absurd ⟨j, h1, h2⟩ hz
        refine o_astore_n hC dX7_forward_21 (Nat.le_of_ble_eq_true rfl) ?_
        refine o_iconst (v := nI 0) hC dX7_forward_22 (by decide +kernel) ?_
        refine o_istore_n hC dX7_forward_23 (Nat.le_of_ble_eq_true rfl) ?_
        refine o_iconst (v := nI 0) hC dX7_forward_24 (by decide +kernel) ?_
        refine o_istore hC dX7_forward_25 (Nat.le_of_ble_eq_true rfl) ?_
        refine o_iload hC dX7_forward_27 (by rfl) ?_
        refine o_aload_n hC dX7_forward_29 (by rfl) ?_
        refine o_getf hC (fX7_138 hC rfl) dX7_forward_30 (by repeat (first | with_reducible assumption | (rw [rl_u_s]; done) | (rw [rl_u_s]; rfl) | rw [rl_u_n (by first | with_reducible assumption | omega)])) (by first | rfl | with_reducible assumption) ?_
        refine o_icmp_ge (tgt := 82) hC dX7_forward_33 (by decide) (fun c_33 => ?_) (fun c_33 => ?_)
        · refine o_iload_n hC dX7_forward_82 (by rfl) ?_
          refine o_iret hC hB dX7_forward_83 (Nat.le_of_ble_eq_true rfl) (Nat.le_of_ble_eq_true rfl) ?_
          exact ⟨_, rfl, rfl, rfl, Or.inr ⟨hr9, by rw [hre]; rfl⟩⟩
        · exact absurd (nI_le (Nat.le_refl _) (by decide)) c_33
      · try dsimp only [Option.toList, List.cons_append, List.nil_append]
        obtain ⟨P, S, ht, hP, hrow⟩ : ctb ids h_18 (c.1 j + 1) rw res := by
          rcases htb with ⟨u, -⟩ | ⟨j2, u1, u2, -, u3, -⟩
          · exact absurd (e.symm.trans u) (nI_m1 (by omega))
          · have := nI_inj2 (by omega) (by omega) (e.symm.trans u2)
            subst this
            exact u3
        obtain ⟨t1, ⟨tf, t2, t3⟩, t4, t5, t6, t7⟩ := id ht
        have loop : ∀ (m t : Nat) (ch : Int32) (o5 : Option Value), t + m = res.length → fwo c.2.2.2.2.2 (c.2.2.2.2.2 ^^^ (1 : Int64) <<< (q.toInt64 &&& 63)) (res.drop t) ch = fwo c.2.2.2.2.2 (c.2.2.2.2.2 ^^^ (1 : Int64) <<< (q.toInt64 &&& 63)) res (nI 0) → rl_G X (rl_e D ids H0) 27 [some (.ref x), some (.int q), some (.ref (c.1 j + 1)), some (.int ch), some (.int (nI t)), o5] [] h_18 n_18 0 0 := by
          intro m
          induction m with
          | zero =>
            intro t ch o5 hm hi
            refine o_iload hC dX7_forward_27 (by rfl) ?_
            refine o_aload_n hC dX7_forward_29 (by rfl) ?_
            refine o_getf hC (fX7_138 hC rfl) dX7_forward_30 (by repeat (first | with_reducible assumption | (rw [rl_u_s]; done) | (rw [rl_u_s]; rfl) | rw [rl_u_n (by first | with_reducible assumption | omega)])) (by first | rfl | with_reducible assumption) ?_
            refine o_icmp_ge (tgt := 82) hC dX7_forward_33 (by decide) (fun c_33 => ?_) (fun c_33 => ?_)
            · refine o_iload_n hC dX7_forward_82 (by rfl) ?_
              refine o_iret hC hB dX7_forward_83 (Nat.le_of_ble_eq_true rfl) (Nat.le_of_ble_eq_true rfl) ?_
              exact ⟨_, rfl, rfl, rfl, Or.inr ⟨hr9, by rw [← hi, List.drop_eq_nil_of_le (by omega)]; rfl⟩⟩
            · exact absurd (nI_le (by omega) (by omega)) c_33
          | succ m ih =>
            intro t ch o5 hm hi
            have hb := t4 t (by omega)
            obtain ⟨e1, e2, e3⟩ := t5 (P t) hb
            have ew : tls (S.2.1 (P t)) (S.2.2.1 (P t)) (S.2.2.2 (P t)) = (ark res t).2 := congrArg Prod.snd (hrow t (by omega))
            rw [ark_dropp (show t < res.length by omega)] at hi
            rw [fwo_c] at hi
            refine o_iload hC dX7_forward_27 (by rfl) ?_
            refine o_aload_n hC dX7_forward_29 (by rfl) ?_
            refine o_getf hC (fX7_138 hC rfl) dX7_forward_30 (by repeat (first | with_reducible assumption | (rw [rl_u_s]; done) | (rw [rl_u_s]; rfl) | rw [rl_u_n (by first | with_reducible assumption | omega)])) (by first | rfl | with_reducible assumption) ?_
            refine o_icmp_ge (tgt := 82) hC dX7_forward_33 (by decide) (fun c_33 => ?_) (fun c_33 => ?_)
            · exact absurd c_33 (nI_ge (by omega) (by omega))
            · refine o_aload_n hC dX7_forward_36 (by rfl) ?_
              refine o_getf hC (fX7_195 hC rfl) dX7_forward_37 (by repeat (first | with_reducible assumption | (rw [rl_u_s]; done) | (rw [rl_u_s]; rfl) | rw [rl_u_n (by first | with_reducible assumption | omega)])) (by first | rfl | with_reducible assumption) ?_
              refine o_iload hC dX7_forward_40 (by rfl) ?_
              refine o_aaldN (t0 := 3) (k := t) hC rfl dX7_forward_42 t2 (by omega) (by decide) ?_
              rw [t3 _ (by omega)]
              show rl_G X _ _ _ (.ref _ :: _) _ _ _ _
              refine o_getf hC (fX7_160 hC rfl) dX7_forward_43 (by repeat (first | with_reducible assumption | (rw [rl_u_s]; done) | (rw [rl_u_s]; rfl) | rw [rl_u_n (by first | with_reducible assumption | omega)])) (by first | rfl | with_reducible assumption) ?_
              refine o_astore hC dX7_forward_46 (Nat.le_of_ble_eq_true rfl) ?_
              refine o_aload hC dX7_forward_48 (by rfl) ?_
              refine o_aload_n hC dX7_forward_50 (by rfl) ?_
              refine o_getf hC (fX7_71 hC rfl) dX7_forward_51 (by repeat (first | with_reducible assumption | (rw [rl_u_s]; done) | (rw [rl_u_s]; rfl) | rw [rl_u_n (by first | with_reducible assumption | omega)])) (by first | rfl | with_reducible assumption) ?_
              refine o_callV1 hC rl_BW_good rl_Ns_nw (by exact hB.2.2.2.2.2) YX6_holdsWith IX6_holdsWith VX6_holdsWith (mX7_183 hC) (by rw [hB.1]; exact ct_X6_holdsWith l D ids H0 _ _ (c.1 j + 1 + 2 + 5 * P t + 2) _ _ _ _ e3) (by exact e3.1) rfl rfl (Nat.le_of_ble_eq_true rfl) (by rw [hB.2.1]; first | exact Nat.le_of_ble_eq_true rfl | (dsimp only; omega)) (by rw [hB.2.1]; first | exact Nat.le_of_ble_eq_true rfl | (dsimp only; omega)) (by rw [hB.2.1]; first | exact Nat.le_of_ble_eq_true rfl | (dsimp only; omega)) (by rw [hB.2.1]; first | exact Nat.le_of_ble_eq_true rfl | (dsimp only; omega)) dX7_forward_54 (fun v h_54 n_54 p_54 => ?_)
              obtain ⟨rfl, rfl, rfl⟩ := p_54
              rw [tm_first_0 ew]
              try dsimp only [Option.toList, List.cons_append, List.nil_append]
              refine o_aload hC dX7_forward_57 (by rfl) ?_
              refine o_aload_n hC dX7_forward_59 (by rfl) ?_
              refine o_getf hC (fX7_71 hC rfl) dX7_forward_60 (by repeat (first | with_reducible assumption | (rw [rl_u_s]; done) | (rw [rl_u_s]; rfl) | rw [rl_u_n (by first | with_reducible assumption | omega)])) (by first | rfl | with_reducible assumption) ?_
              refine o_lconst (v := 1) hC dX7_forward_63 (by decide +kernel) ?_
              refine o_iload_n hC dX7_forward_64 (by rfl) ?_
              refine o_lshl hC dX7_forward_65 ?_
              refine o_lxor hC dX7_forward_66 ?_
              refine o_callV1 hC rl_BW_good rl_Ns_nw (by exact hB.2.2.2.2.2) YX6_holdsWith IX6_holdsWith VX6_holdsWith (mX7_183 hC) (by rw [hB.1]; exact ct_X6_holdsWith l D ids H0 _ _ (c.1 j + 1 + 2 + 5 * P t + 2) _ _ _ _ e3) (by exact e3.1) rfl rfl (Nat.le_of_ble_eq_true rfl) (by rw [hB.2.1]; first | exact Nat.le_of_ble_eq_true rfl | (dsimp only; omega)) (by rw [hB.2.1]; first | exact Nat.le_of_ble_eq_true rfl | (dsimp only; omega)) (by rw [hB.2.1]; first | exact Nat.le_of_ble_eq_true rfl | (dsimp only; omega)) (by rw [hB.2.1]; first | exact Nat.le_of_ble_eq_true rfl | (dsimp only; omega)) dX7_forward_67 (fun v h_67 n_67 p_67 => ?_)
              obtain ⟨rfl, rfl, rfl⟩ := p_67
              rw [tm_first_0 ew]
              try dsimp only [Option.toList, List.cons_append, List.nil_append]
              refine o_icmp_eq (tgt := 76) hC dX7_forward_70 (by decide) (fun c_70 => ?_) (fun c_70 => ?_)
              · refine o_iinc hC dX7_forward_76 (by rfl) (rl_inc _) (Nat.le_of_ble_eq_true rfl) ?_
                refine o_goto (tgt := 27) hC dX7_forward_79 (by decide) ?_
                first
                | (rw [if_pos ((tf_iff _ _).mp c_70)] at hi; exact ih (t + 1) _ _ (by omega) hi)
                | (rw [if_neg (fun w => c_70 ((tf_iff _ _).mpr w))] at hi; exact ih (t + 1) _ _ (by omega) hi)
              · refine o_iinc hC dX7_forward_73 (by rfl) rfl (Nat.le_of_ble_eq_true rfl) ?_
                refine o_iinc hC dX7_forward_76 (by rfl) (rl_inc _) (Nat.le_of_ble_eq_true rfl) ?_
                refine o_goto (tgt := 27) hC dX7_forward_79 (by decide) ?_
                first
                | (rw [if_pos ((tf_iff _ _).mp c_70)] at hi; exact ih (t + 1) _ _ (by omega) hi)
                | (rw [if_neg (fun w => c_70 ((tf_iff _ _).mpr w))] at hi; exact ih (t + 1) _ _ (by omega) hi)
        refine o_astore_n hC dX7_forward_21 (Nat.le_of_ble_eq_true rfl) ?_
        refine o_iconst (v := nI 0) hC dX7_forward_22 (by decide +kernel) ?_
        refine o_istore_n hC dX7_forward_23 (Nat.le_of_ble_eq_true rfl) ?_
        refine o_iconst (v := nI 0) hC dX7_forward_24 (by decide +kernel) ?_
        refine o_istore hC dX7_forward_25 (Nat.le_of_ble_eq_true rfl) ?_
        exact loop res.length 0 _ _ (by omega) rfl
    · exact absurd c_8 (by decide +kernel)

set_option maxHeartbeats 4000000 in
set_option maxRecDepth 100000 in
theorem cd_X7_told (l : Launch) (D : va_G) (ids : Nat → ClassId) (H0 : Heap) (h : rl_H) (n : Nat) (x L : Nat) (s : cl_S) (c : cl_N) (res : List arow) (rw : Nat) (w : Int32) (hk : cl_ok ids h n x L s c) (hd : cl_dp ids h s c) (hr : cl_rs s c res rw) : rl_Met l (rl_e D ids H0) rl_BW rl_Ns yX7_told cX7_told 2 (some .int) ({ frames := 3, cells := 0, slots := 0, locals := 69 }) [.ref x, .int w] h n (fun v h' n' => ∃ r : Int32, v = some (.int r) ∧ h' = h ∧ n' = n ∧ (((w < 0 ∨ nI 5 < w) ∧ r = -2) ∨ (w = nI 0 ∧ r = nI s.2.2.2.1) ∨ (w = nI 1 ∧ r = nI s.2.2.2.2) ∨ (w = nI 2 ∧ r = nI c.2.2.1) ∨ (w = nI 3 ∧ r = nI res.length) ∨ (w = nI 4 ∧ r = hgo c.2.2.2.2.2 res (nI 0)) ∨ (w = nI 5 ∧ r = (jd_bcL c.2.2.2.2.2)))) := by
  have nc16 := cl_nc hk
  have hc := hk.1
  obtain ⟨c1, c2, c3, ⟨pn, c4, c5⟩, ⟨pt, c6, c7⟩, c8, c9, c10, c11, c12, c13, c14, c15⟩ := id hc
  have htb := hr.tb hd (fun k hk9 => cl_wd hk hk9)
  refine rl_Met.of (by decide +kernel) (Nat.le_of_ble_eq_true rfl) ?_
  intro X hC hB
  show rl_G X (rl_e D ids H0) 0 [some (.ref x), some (.int w)] [] h n 0 0
  refine o_iload_n hC dX7_told_0 (by rfl) ?_
  obtain ⟨h2, h3, h4, h5, h6, h7, h8⟩ := id c2
  by_cases hw : w < 0 ∨ nI 5 < w
  · refine o_tableOut (tgt := 97) hC dX7_told_1 (rl_out (by decide) hw) (by decide) ?_
    refine o_bipush (v := (-2 : Int32)) hC dX7_told_97 (by decide +kernel) ?_
    refine o_iret hC hB dX7_told_99 (Nat.le_of_ble_eq_true rfl) (Nat.le_of_ble_eq_true rfl) ?_
    first
    | exact ⟨_, rfl, rfl, rfl, Or.inl ⟨hw, rfl⟩⟩
    | exact ⟨_, rfl, rfl, rfl, Or.inr (Or.inl ⟨rfl, rfl⟩)⟩
    | exact ⟨_, rfl, rfl, rfl, Or.inr (Or.inr (Or.inl ⟨rfl, rfl⟩))⟩
    | exact ⟨_, rfl, rfl, rfl, Or.inr (Or.inr (Or.inr (Or.inl ⟨rfl, rfl⟩)))⟩
    | exact ⟨_, rfl, rfl, rfl, Or.inr (Or.inr (Or.inr (Or.inr (Or.inr (Or.inr ⟨rfl, rfl⟩)))))⟩
  · obtain ⟨j, hj, rfl⟩ := rl_inn (by decide) hw
    rcases (show j = 0 ∨ j = 1 ∨ j = 2 ∨ j = 3 ∨ j = 4 ∨ j = 5 by omega) with rfl | rfl | rfl | rfl | rfl | rfl
    · refine o_tableIn (off := 39) (tgt := 40) hC dX7_told_1 (by decide +kernel) (by decide +kernel) (by decide +kernel) (by decide) ?_
      refine o_aload_n hC dX7_told_40 (by rfl) ?_
      refine o_getf hC (fX7_10 hC rfl) dX7_told_41 (by repeat (first | with_reducible assumption | (rw [rl_u_s]; done) | (rw [rl_u_s]; rfl) | rw [rl_u_n (by first | with_reducible assumption | omega)])) (by first | rfl | with_reducible assumption) ?_
      refine o_getf hC (fX7_53 hC rfl) dX7_told_44 (by repeat (first | with_reducible assumption | (rw [rl_u_s]; done) | (rw [rl_u_s]; rfl) | rw [rl_u_n (by first | with_reducible assumption | omega)])) (by first | rfl | with_reducible assumption) ?_
      refine o_iret hC hB dX7_told_47 (Nat.le_of_ble_eq_true rfl) (Nat.le_of_ble_eq_true rfl) ?_
      first
      | exact ⟨_, rfl, rfl, rfl, Or.inl ⟨hw, rfl⟩⟩
      | exact ⟨_, rfl, rfl, rfl, Or.inr (Or.inl ⟨rfl, rfl⟩)⟩
      | exact ⟨_, rfl, rfl, rfl, Or.inr (Or.inr (Or.inl ⟨rfl, rfl⟩))⟩
      | exact ⟨_, rfl, rfl, rfl, Or.inr (Or.inr (Or.inr (Or.inl ⟨rfl, rfl⟩)))⟩
      | exact ⟨_, rfl, rfl, rfl, Or.inr (Or.inr (Or.inr (Or.inr (Or.inr (Or.inr ⟨rfl, rfl⟩)))))⟩
    · refine o_tableIn (off := 47) (tgt := 48) hC dX7_told_1 (by decide +kernel) (by decide +kernel) (by decide +kernel) (by decide) ?_
      refine o_aload_n hC dX7_told_48 (by rfl) ?_
      refine o_getf hC (fX7_10 hC rfl) dX7_told_49 (by repeat (first | with_reducible assumption | (rw [rl_u_s]; done) | (rw [rl_u_s]; rfl) | rw [rl_u_n (by first | with_reducible assumption | omega)])) (by first | rfl | with_reducible assumption) ?_
      refine o_getf hC (fX7_64 hC rfl) dX7_told_52 (by repeat (first | with_reducible assumption | (rw [rl_u_s]; done) | (rw [rl_u_s]; rfl) | rw [rl_u_n (by first | with_reducible assumption | omega)])) (by first | rfl | with_reducible assumption) ?_
      refine o_iret hC hB dX7_told_55 (Nat.le_of_ble_eq_true rfl) (Nat.le_of_ble_eq_true rfl) ?_
      first
      | exact ⟨_, rfl, rfl, rfl, Or.inl ⟨hw, rfl⟩⟩
      | exact ⟨_, rfl, rfl, rfl, Or.inr (Or.inl ⟨rfl, rfl⟩)⟩
      | exact ⟨_, rfl, rfl, rfl, Or.inr (Or.inr (Or.inl ⟨rfl, rfl⟩))⟩
      | exact ⟨_, rfl, rfl, rfl, Or.inr (Or.inr (Or.inr (Or.inl ⟨rfl, rfl⟩)))⟩
      | exact ⟨_, rfl, rfl, rfl, Or.inr (Or.inr (Or.inr (Or.inr (Or.inr (Or.inr ⟨rfl, rfl⟩)))))⟩
    · refine o_tableIn (off := 55) (tgt := 56) hC dX7_told_1 (by decide +kernel) (by decide +kernel) (by decide +kernel) (by decide) ?_
      refine o_aload_n hC dX7_told_56 (by rfl) ?_
      refine o_getf hC (fX7_78 hC rfl) dX7_told_57 (by repeat (first | with_reducible assumption | (rw [rl_u_s]; done) | (rw [rl_u_s]; rfl) | rw [rl_u_n (by first | with_reducible assumption | omega)])) (by first | rfl | with_reducible assumption) ?_
      refine o_iret hC hB dX7_told_60 (Nat.le_of_ble_eq_true rfl) (Nat.le_of_ble_eq_true rfl) ?_
      first
      | exact ⟨_, rfl, rfl, rfl, Or.inl ⟨hw, rfl⟩⟩
      | exact ⟨_, rfl, rfl, rfl, Or.inr (Or.inl ⟨rfl, rfl⟩)⟩
      | exact ⟨_, rfl, rfl, rfl, Or.inr (Or.inr (Or.inl ⟨rfl, rfl⟩))⟩
      | exact ⟨_, rfl, rfl, rfl, Or.inr (Or.inr (Or.inr (Or.inl ⟨rfl, rfl⟩)))⟩
      | exact ⟨_, rfl, rfl, rfl, Or.inr (Or.inr (Or.inr (Or.inr (Or.inr (Or.inr ⟨rfl, rfl⟩)))))⟩
    · refine o_tableIn (off := 60) (tgt := 61) hC dX7_told_1 (by decide +kernel) (by decide +kernel) (by decide +kernel) (by decide) ?_
      refine o_aload_n hC dX7_told_61 (by rfl) ?_
      refine o_aload_n hC dX7_told_62 (by rfl) ?_
      refine o_getf hC (fX7_49 hC rfl) dX7_told_63 (by repeat (first | with_reducible assumption | (rw [rl_u_s]; done) | (rw [rl_u_s]; rfl) | rw [rl_u_n (by first | with_reducible assumption | omega)])) (by first | rfl | with_reducible assumption) ?_
      refine o_callV1 hC rl_BW_good rl_Ns_nw (by exact hB.2.2.2.2.2) YX7_tableOf IX7_tableOf VX7_tableOf (mX7_127 hC) (by rw [hB.1]; exact cg_X7_tableOf l D ids H0 _ _ x s c _ hc) (by exact c1) rfl rfl (Nat.le_of_ble_eq_true rfl) (by rw [hB.2.1]; first | exact Nat.le_of_ble_eq_true rfl | (dsimp only; omega)) (by rw [hB.2.1]; first | exact Nat.le_of_ble_eq_true rfl | (dsimp only; omega)) (by rw [hB.2.1]; first | exact Nat.le_of_ble_eq_true rfl | (dsimp only; omega)) (by rw [hB.2.1]; first | exact Nat.le_of_ble_eq_true rfl | (dsimp only; omega)) dX7_told_66 (fun v h_66 n_66 p_66 => ?_)
      obtain ⟨z66, rfl, rfl, rfl, hz⟩ := p_66
      try dsimp only [Option.toList, List.cons_append, List.nil_append]
      rcases hz with ⟨rfl, hz⟩ | ⟨j, hj, e, rfl⟩
      · try dsimp only [Option.toList, List.cons_append, List.nil_append]
        have hre : res = [] := by
          rcases htb with ⟨-, e⟩ | ⟨j, h1, h2, -⟩
          · exact e
          · exact absurd ⟨j, h1, h2⟩ hz
        refine o_getf hC (fX7_138 hC rfl) dX7_told_69 (by repeat (first | with_reducible assumption | (rw [rl_u_s]; done) | (rw [rl_u_s]; rfl) | rw [rl_u_n (by first | with_reducible assumption | omega)])) (by first | rfl | with_reducible assumption) ?_
        refine o_iret hC hB dX7_told_72 (Nat.le_of_ble_eq_true rfl) (Nat.le_of_ble_eq_true rfl) ?_
        exact ⟨_, rfl, rfl, rfl, Or.inr (Or.inr (Or.inr (Or.inr (Or.inl ⟨rfl, by rw [hre]; rfl⟩))))⟩
      · try dsimp only [Option.toList, List.cons_append, List.nil_append]
        obtain ⟨P, S, ht, hP, hrow⟩ : ctb ids h_66 (c.1 j + 1) rw res := by
          rcases htb with ⟨u, -⟩ | ⟨j2, u1, u2, -, u3, -⟩
          · exact absurd (e.symm.trans u) (nI_m1 (by omega))
          · have := nI_inj2 (by omega) (by omega) (e.symm.trans u2)
            subst this
            exact u3
        obtain ⟨t1, ⟨tf, t2, t3⟩, t4, t5, t6, t7⟩ := id ht
        refine o_getf hC (fX7_138 hC rfl) dX7_told_69 (by repeat (first | with_reducible assumption | (rw [rl_u_s]; done) | (rw [rl_u_s]; rfl) | rw [rl_u_n (by first | with_reducible assumption | omega)])) (by first | rfl | with_reducible assumption) ?_
        refine o_iret hC hB dX7_told_72 (Nat.le_of_ble_eq_true rfl) (Nat.le_of_ble_eq_true rfl) ?_
        exact ⟨_, rfl, rfl, rfl, Or.inr (Or.inr (Or.inr (Or.inr (Or.inl ⟨rfl, rfl⟩))))⟩
    · refine o_tableIn (off := 72) (tgt := 73) hC dX7_told_1 (by decide +kernel) (by decide +kernel) (by decide +kernel) (by decide) ?_
      refine o_aload_n hC dX7_told_73 (by rfl) ?_
      refine o_aload_n hC dX7_told_74 (by rfl) ?_
      refine o_getf hC (fX7_49 hC rfl) dX7_told_75 (by repeat (first | with_reducible assumption | (rw [rl_u_s]; done) | (rw [rl_u_s]; rfl) | rw [rl_u_n (by first | with_reducible assumption | omega)])) (by first | rfl | with_reducible assumption) ?_
      refine o_callV1 hC rl_BW_good rl_Ns_nw (by exact hB.2.2.2.2.2) YX7_tableOf IX7_tableOf VX7_tableOf (mX7_127 hC) (by rw [hB.1]; exact cg_X7_tableOf l D ids H0 _ _ x s c _ hc) (by exact c1) rfl rfl (Nat.le_of_ble_eq_true rfl) (by rw [hB.2.1]; first | exact Nat.le_of_ble_eq_true rfl | (dsimp only; omega)) (by rw [hB.2.1]; first | exact Nat.le_of_ble_eq_true rfl | (dsimp only; omega)) (by rw [hB.2.1]; first | exact Nat.le_of_ble_eq_true rfl | (dsimp only; omega)) (by rw [hB.2.1]; first | exact Nat.le_of_ble_eq_true rfl | (dsimp only; omega)) dX7_told_78 (fun v h_78 n_78 p_78 => ?_)
      obtain ⟨z78, rfl, rfl, rfl, hz⟩ := p_78
      try dsimp only [Option.toList, List.cons_append, List.nil_append]
      rcases hz with ⟨rfl, hz⟩ | ⟨j, hj, e, rfl⟩
      · try dsimp only [Option.toList, List.cons_append, List.nil_append]
        have hre : res = [] := by
          rcases htb with ⟨-, e⟩ | ⟨j, h1, h2, -⟩
          · exact e
          · exact absurd ⟨j, h1, h2⟩ hz
        refine o_aload_n hC dX7_told_81 (by rfl) ?_
        refine o_getf hC (fX7_71 hC rfl) dX7_told_82 (by repeat (first | with_reducible assumption | (rw [rl_u_s]; done) | (rw [rl_u_s]; rfl) | rw [rl_u_n (by first | with_reducible assumption | omega)])) (by first | rfl | with_reducible assumption) ?_
        refine o_callV1 hC rl_BW_good rl_Ns_nw (by exact hB.2.2.2.2.2) YX4_howManyHold IX4_howManyHold VX4_howManyHold (mX7_223 hC) (by rw [hB.1]; exact fr_X4_howManyHold l D ids H0 _ _ (x + 65) _ _ _ c8) (by exact c8) rfl rfl (Nat.le_of_ble_eq_true rfl) (by rw [hB.2.1]; first | exact Nat.le_of_ble_eq_true rfl | (dsimp only; omega)) (by rw [hB.2.1]; first | exact Nat.le_of_ble_eq_true rfl | (dsimp only; omega)) (by rw [hB.2.1]; first | exact Nat.le_of_ble_eq_true rfl | (dsimp only; omega)) (by rw [hB.2.1]; first | exact Nat.le_of_ble_eq_true rfl | (dsimp only; omega)) dX7_told_85 (fun v h_85 n_85 p_85 => ?_)
        obtain ⟨rfl, rfl, rfl⟩ := p_85
        try dsimp only [Option.toList, List.cons_append, List.nil_append]
        refine o_iret hC hB dX7_told_88 (Nat.le_of_ble_eq_true rfl) (Nat.le_of_ble_eq_true rfl) ?_
        exact ⟨_, rfl, rfl, rfl, Or.inr (Or.inr (Or.inr (Or.inr (Or.inr (Or.inl ⟨rfl, by rw [hre]; rfl⟩)))))⟩
      · try dsimp only [Option.toList, List.cons_append, List.nil_append]
        obtain ⟨P, S, ht, hP, hrow⟩ : ctb ids h_78 (c.1 j + 1) rw res := by
          rcases htb with ⟨u, -⟩ | ⟨j2, u1, u2, -, u3, -⟩
          · exact absurd (e.symm.trans u) (nI_m1 (by omega))
          · have := nI_inj2 (by omega) (by omega) (e.symm.trans u2)
            subst this
            exact u3
        obtain ⟨t1, ⟨tf, t2, t3⟩, t4, t5, t6, t7⟩ := id ht
        refine o_aload_n hC dX7_told_81 (by rfl) ?_
        refine o_getf hC (fX7_71 hC rfl) dX7_told_82 (by repeat (first | with_reducible assumption | (rw [rl_u_s]; done) | (rw [rl_u_s]; rfl) | rw [rl_u_n (by first | with_reducible assumption | omega)])) (by first | rfl | with_reducible assumption) ?_
        refine o_callV1 hC rl_BW_good rl_Ns_nw (by exact hB.2.2.2.2.2) YX4_howManyHold IX4_howManyHold VX4_howManyHold (mX7_223 hC) (by rw [hB.1]; exact ct_X4_howManyHold l D ids H0 _ _ (c.1 j + 1) _ _ P S _ ht) (by exact t1) rfl rfl (Nat.le_of_ble_eq_true rfl) (by rw [hB.2.1]; first | exact Nat.le_of_ble_eq_true rfl | (dsimp only; omega)) (by rw [hB.2.1]; first | exact Nat.le_of_ble_eq_true rfl | (dsimp only; omega)) (by rw [hB.2.1]; first | exact Nat.le_of_ble_eq_true rfl | (dsimp only; omega)) (by rw [hB.2.1]; first | exact Nat.le_of_ble_eq_true rfl | (dsimp only; omega)) dX7_told_85 (fun v h_85 n_85 p_85 => ?_)
        obtain ⟨rfl, rfl, rfl⟩ := p_85
        rw [hm_go_l hrow res.length 0 _ (by omega)]
        try dsimp only [Option.toList, List.cons_append, List.nil_append]
        refine o_iret hC hB dX7_told_88 (Nat.le_of_ble_eq_true rfl) (Nat.le_of_ble_eq_true rfl) ?_
        exact ⟨_, rfl, rfl, rfl, Or.inr (Or.inr (Or.inr (Or.inr (Or.inr (Or.inl ⟨rfl, rfl⟩)))))⟩
    · refine o_tableIn (off := 88) (tgt := 89) hC dX7_told_1 (by decide +kernel) (by decide +kernel) (by decide +kernel) (by decide) ?_
      refine o_aload_n hC dX7_told_89 (by rfl) ?_
      refine o_getf hC (fX7_71 hC rfl) dX7_told_90 (by repeat (first | with_reducible assumption | (rw [rl_u_s]; done) | (rw [rl_u_s]; rfl) | rw [rl_u_n (by first | with_reducible assumption | omega)])) (by first | rfl | with_reducible assumption) ?_
      refine o_callS1 hC rl_BW_good rl_Ns_nw (by exact hB.2.2.2.2.2) YJ13_bitCount_95d88 SJ13_bitCount_95d88 (mX7_203 hC) (by rw [hB.1]; exact ct_J13_bitCount_95d88 l D ids H0 h n _) (Nat.le_of_ble_eq_true rfl) (by rw [hB.2.1]; first | exact Nat.le_of_ble_eq_true rfl | (dsimp only; omega)) (by rw [hB.2.1]; first | exact Nat.le_of_ble_eq_true rfl | (dsimp only; omega)) (by rw [hB.2.1]; first | exact Nat.le_of_ble_eq_true rfl | (dsimp only; omega)) (by rw [hB.2.1]; first | exact Nat.le_of_ble_eq_true rfl | (dsimp only; omega)) dX7_told_93 (fun v h_93 n_93 p_93 => ?_)
      obtain ⟨rfl, rfl, rfl⟩ := p_93
      try dsimp only [Option.toList, List.cons_append, List.nil_append]
      refine o_iret hC hB dX7_told_96 (Nat.le_of_ble_eq_true rfl) (Nat.le_of_ble_eq_true rfl) ?_
      first
      | exact ⟨_, rfl, rfl, rfl, Or.inl ⟨hw, rfl⟩⟩
      | exact ⟨_, rfl, rfl, rfl, Or.inr (Or.inl ⟨rfl, rfl⟩)⟩
      | exact ⟨_, rfl, rfl, rfl, Or.inr (Or.inr (Or.inl ⟨rfl, rfl⟩))⟩
      | exact ⟨_, rfl, rfl, rfl, Or.inr (Or.inr (Or.inr (Or.inl ⟨rfl, rfl⟩)))⟩
      | exact ⟨_, rfl, rfl, rfl, Or.inr (Or.inr (Or.inr (Or.inr (Or.inr (Or.inr ⟨rfl, rfl⟩)))))⟩
end
section
/-! THE MODEL, functionally: under, forward, ones, told -/
theorem oi1 : Int32.ofInt 1 = nI 1 := by decide +kernel
theorem ad0 (c : Int32) : c + nI 0 = c := by rw [nI_0, Int32.add_zero]
/-- how many of the first 36 bits are 1 -/
def mon (x : Int64) : Nat → Nat → Int32 → Int32
  | 0, _, c => c
  | m + 1, i, c => mon x m (i + 1) (if (x >>> ((nI i).toInt64 &&& 63)) &&& 1 = 1 then c + nI 1 else c)
theorem mon_s (x : Int64) (m i : Nat) (c : Int32) : mon x (m + 1) i c = mon x m (i + 1) (if (x >>> ((nI i).toInt64 &&& 63)) &&& 1 = 1 then c + nI 1 else c) := rfl

set_option maxHeartbeats 4000000 in
set_option maxRecDepth 100000 in
theorem cf_X8_under (l : Launch) (D : va_G) (ids : Nat → ClassId) (H0 : Heap) (h : rl_H) (n : Nat) (m : Nat) (T : md_T) (fu : Int32) (k : Nat) (A : md_D) (S : md_A) (z : sh_S) (res : List arow) (rw : Nat) (q : Int32) (st : Int64) (hq : mf ids h h m T fu k A) (hu : md_un ids h m T fu k S z) (hr : mrs A T res rw)  : rl_Met l (rl_e D ids H0) rl_BW rl_Ns yX8_under cX8_under 4 (some .int) ({ frames := 2, cells := 0, slots := 0, locals := 48 }) [.ref m, .int q, .long st] h n (fun v h' n' => ∃ r : Int32, v = some (.int r) ∧ n' = n ∧ mf ids h h' m (nI 0, T.2) fu k A ∧ ((¬ (∃ t : Nat, t < res.length ∧ q = nI t) ∧ r = -1) ∨ ∃ t : Nat, t < res.length ∧ q = nI t ∧ r = (if (st < 0 ∨ ¬ st >>> (T.2.2.1.toInt64 &&& 63) = 0) then (-2 : Int32) else (if wfh st (ark res t).2 0 = -1 then nI 0 else nI 1)))) := by
  obtain ⟨hm0, g12, g13, g14, g15, g16, g17, g18, g19, g20, g21, g22⟩ := id hq
  have g0 := hm0.1
  have gk := hm0.2.1
  have b13 := hq.b13
  have b15 := hq.b15
  have b21 := hq.b21
  have hq0 := hq.ob (nI 0, T.2) fu k gk
  have r80 := hr.2.1.2.2
  have h16 := hr.1.1
  refine rl_Met.of (by decide +kernel) (Nat.le_of_ble_eq_true rfl) ?_
  intro X hC hB
  show rl_G X (rl_e D ids H0) 0 [some (.ref m), some (.int q), some (.long st), none] [] h n 0 0
  refine o_aload_n hC dX8_under_0 (by rfl) ?_
  refine o_iconst (v := nI 0) hC dX8_under_1 (by decide +kernel) ?_
  refine o_putf hC (fX8_78 hC rfl) (fwX8 rfl rfl rfl (Or.inl rfl)) dX8_under_2 (by repeat (first | with_reducible assumption | (rw [rl_u_s]; done) | (rw [rl_u_s]; rfl) | rw [rl_u_n (by first | with_reducible assumption | omega)])) (Nat.le_of_ble_eq_true rfl) ?_
  try simp only [List.set_cons_zero, List.set_cons_succ]
  refine o_aload_n hC dX8_under_5 (by rfl) ?_
  refine o_iload_n hC dX8_under_6 (by rfl) ?_
  refine o_callV1 hC rl_BW_good rl_Ns_nw (by exact hB.2.2.2.2.2) YX8_isTuple IX8_isTuple VX8_isTuple (mX8_199 hC) (by rw [hB.1]; exact ct_X8_isTuple l D ids H0 _ _ m (m + 13) _ _ A.2.1 (by repeat (first | with_reducible assumption | (rw [rl_u_s]; done) | (rw [rl_u_s]; rfl) | rw [rl_u_n (by first | with_reducible assumption | omega)])) rfl (by repeat (first | with_reducible assumption | (rw [rl_u_s]; done) | (rw [rl_u_s]; rfl) | rw [rl_u_n (by first | with_reducible assumption | omega)]))) (by repeat (first | with_reducible assumption | (rw [rl_u_s]; done) | (rw [rl_u_s]; rfl) | rw [rl_u_n (by first | with_reducible assumption | omega)])) rfl rfl (Nat.le_of_ble_eq_true rfl) (by rw [hB.2.1]; first | exact Nat.le_of_ble_eq_true rfl | (dsimp only; omega)) (by rw [hB.2.1]; first | exact Nat.le_of_ble_eq_true rfl | (dsimp only; omega)) (by rw [hB.2.1]; first | exact Nat.le_of_ble_eq_true rfl | (dsimp only; omega)) (by rw [hB.2.1]; first | exact Nat.le_of_ble_eq_true rfl | (dsimp only; omega)) dX8_under_7 (fun v h_7 n_7 p_7 => ?_)
  obtain ⟨rfl, rfl, rfl⟩ := p_7
  try dsimp only [Option.toList, List.cons_append, List.nil_append]
  by_cases hr9 : q < 0 ∨ A.2.1 16 ≤ q
  · rw [if_pos hr9]
    have nin : ¬ (∃ t : Nat, t < res.length ∧ q = nI t) := fun ⟨t, ht, e⟩ => hr9.elim (fun u => absurd u (by rw [e]; exact nI_pos (by omega))) (fun u => absurd u (by rw [h16, e]; exact nI_ge ht (by omega)))
    refine o_if_ne (tgt := 15) hC dX8_under_10 (by decide) (fun c_10 => ?_) (fun c_10 => ?_)
    · exact absurd rfl c_10
    · refine o_iconst (v := (-1 : Int32)) hC dX8_under_13 (by decide +kernel) ?_
      refine o_iret hC hB dX8_under_14 (Nat.le_of_ble_eq_true rfl) (Nat.le_of_ble_eq_true rfl) ?_
      exact ⟨_, rfl, rfl, hq0, Or.inl ⟨nin, rfl⟩⟩
  · rw [if_neg hr9]
    obtain ⟨t, htl, rfl⟩ := nI_of_lt (k := res.length) (by omega) (fun e => hr9 (Or.inl e)) (fun e => hr9 (Or.inr (by rw [h16]; exact e)))
    have ht : t < 80 := by omega
    have hrw := hr.1.2 t htl
    have hws : mws A (1280 + t) (ark res t).2 := hrw.2
    have g00 := hq0.1.1
    refine o_if_ne (tgt := 15) hC dX8_under_10 (by decide) (fun c_10 => ?_) (fun c_10 => ?_)
    · refine o_lload_n hC dX8_under_15 (by rfl) ?_
      refine o_lconst (v := 0) hC dX8_under_16 (by decide +kernel) ?_
      refine o_lcmp hC dX8_under_17 ?_
      refine o_if_lt (tgt := 32) hC dX8_under_18 (by decide) (fun c_18 => ?_) (fun c_18 => ?_)
      · refine o_bipush (v := (-2 : Int32)) hC dX8_under_32 (by decide +kernel) ?_
        refine o_iret hC hB dX8_under_34 (Nat.le_of_ble_eq_true rfl) (Nat.le_of_ble_eq_true rfl) ?_
        first
        | exact ⟨_, rfl, rfl, hq0, Or.inr ⟨t, htl, rfl, (if_pos (Or.inl ((lg_cmp_lt _ _).mp c_18))).symm⟩⟩
        | exact ⟨_, rfl, rfl, hq0, Or.inr ⟨t, htl, rfl, (if_pos (Or.inr (fun w => c_29 ((lg_cmp_eq _ _).mpr w)))).symm⟩⟩
        | (have hno : ¬ (st < 0 ∨ ¬ st >>> (T.2.2.1.toInt64 &&& 63) = 0) := fun w => w.elim (fun u => c_18 ((lg_cmp_lt _ _).mpr u)) (fun u => u ((lg_cmp_eq _ _).mp c_29))
           by_cases e9 : wfh st (ark res t).2 0 = -1
           · rw [if_pos e9] at c_41
             first
             | exact absurd rfl c_41
             | exact ⟨_, rfl, rfl, hq0, Or.inr ⟨t, htl, rfl, by rw [if_neg hno, if_pos e9]⟩⟩
           · rw [if_neg e9] at c_41
             first
             | exact absurd c_41 (by decide +kernel)
             | exact ⟨_, rfl, rfl, hq0, Or.inr ⟨t, htl, rfl, by rw [if_neg hno, if_neg e9]⟩⟩)
      · refine o_lload_n hC dX8_under_21 (by rfl) ?_
        refine o_aload_n hC dX8_under_22 (by rfl) ?_
        refine o_getf hC (fX8_112 hC rfl) dX8_under_23 (by repeat (first | with_reducible assumption | (rw [rl_u_s]; done) | (rw [rl_u_s]; rfl) | rw [rl_u_n (by first | with_reducible assumption | omega)])) (by first | rfl | with_reducible assumption) ?_
        refine o_lshr hC dX8_under_26 ?_
        refine o_lconst (v := 0) hC dX8_under_27 (by decide +kernel) ?_
        refine o_lcmp hC dX8_under_28 ?_
        refine o_if_eq (tgt := 35) hC dX8_under_29 (by decide) (fun c_29 => ?_) (fun c_29 => ?_)
        · refine o_aload_n hC dX8_under_35 (by rfl) ?_
          refine o_iload_n hC dX8_under_36 (by rfl) ?_
          refine o_lload_n hC dX8_under_37 (by rfl) ?_
          refine o_callV2 hC rl_BW_good rl_Ns_nw (by exact hB.2.2.2.2.2) YX8_isSo IX8_isSo VX8_isSo (mX8_206 hC) (by rw [hB.1]; exact cf_X8_isSo l D ids H0 _ _ m _ _ _ _ t _ _ hq0.rf ht hws) (by exact hq0.1.1) rfl rfl (Nat.le_of_ble_eq_true rfl) (by rw [hB.2.1]; first | exact Nat.le_of_ble_eq_true rfl | (dsimp only; omega)) (by rw [hB.2.1]; first | exact Nat.le_of_ble_eq_true rfl | (dsimp only; omega)) (by rw [hB.2.1]; first | exact Nat.le_of_ble_eq_true rfl | (dsimp only; omega)) (by rw [hB.2.1]; first | exact Nat.le_of_ble_eq_true rfl | (dsimp only; omega)) dX8_under_38 (fun v h_38 n_38 p_38 => ?_)
          obtain ⟨rfl, rfl, rfl⟩ := p_38
          try dsimp only [Option.toList, List.cons_append, List.nil_append]
          refine o_if_eq (tgt := 48) hC dX8_under_41 (by decide) (fun c_41 => ?_) (fun c_41 => ?_)
          · refine o_iconst (v := nI 0) hC dX8_under_48 (by decide +kernel) ?_
            refine o_iret hC hB dX8_under_49 (Nat.le_of_ble_eq_true rfl) (Nat.le_of_ble_eq_true rfl) ?_
            first
            | exact ⟨_, rfl, rfl, hq0, Or.inr ⟨t, htl, rfl, (if_pos (Or.inl ((lg_cmp_lt _ _).mp c_18))).symm⟩⟩
            | exact ⟨_, rfl, rfl, hq0, Or.inr ⟨t, htl, rfl, (if_pos (Or.inr (fun w => c_29 ((lg_cmp_eq _ _).mpr w)))).symm⟩⟩
            | (have hno : ¬ (st < 0 ∨ ¬ st >>> (T.2.2.1.toInt64 &&& 63) = 0) := fun w => w.elim (fun u => c_18 ((lg_cmp_lt _ _).mpr u)) (fun u => u ((lg_cmp_eq _ _).mp c_29))
               by_cases e9 : wfh st (ark res t).2 0 = -1
               · rw [if_pos e9] at c_41
                 first
                 | exact absurd rfl c_41
                 | exact ⟨_, rfl, rfl, hq0, Or.inr ⟨t, htl, rfl, by rw [if_neg hno, if_pos e9]⟩⟩
               · rw [if_neg e9] at c_41
                 first
                 | exact absurd c_41 (by decide +kernel)
                 | exact ⟨_, rfl, rfl, hq0, Or.inr ⟨t, htl, rfl, by rw [if_neg hno, if_neg e9]⟩⟩)
          · refine o_iconst (v := nI 1) hC dX8_under_44 (by decide +kernel) ?_
            refine o_goto (tgt := 49) hC dX8_under_45 (by decide) ?_
            refine o_iret hC hB dX8_under_49 (Nat.le_of_ble_eq_true rfl) (Nat.le_of_ble_eq_true rfl) ?_
            first
            | exact ⟨_, rfl, rfl, hq0, Or.inr ⟨t, htl, rfl, (if_pos (Or.inl ((lg_cmp_lt _ _).mp c_18))).symm⟩⟩
            | exact ⟨_, rfl, rfl, hq0, Or.inr ⟨t, htl, rfl, (if_pos (Or.inr (fun w => c_29 ((lg_cmp_eq _ _).mpr w)))).symm⟩⟩
            | (have hno : ¬ (st < 0 ∨ ¬ st >>> (T.2.2.1.toInt64 &&& 63) = 0) := fun w => w.elim (fun u => c_18 ((lg_cmp_lt _ _).mpr u)) (fun u => u ((lg_cmp_eq _ _).mp c_29))
               by_cases e9 : wfh st (ark res t).2 0 = -1
               · rw [if_pos e9] at c_41
                 first
                 | exact absurd rfl c_41
                 | exact ⟨_, rfl, rfl, hq0, Or.inr ⟨t, htl, rfl, by rw [if_neg hno, if_pos e9]⟩⟩
               · rw [if_neg e9] at c_41
                 first
                 | exact absurd c_41 (by decide +kernel)
                 | exact ⟨_, rfl, rfl, hq0, Or.inr ⟨t, htl, rfl, by rw [if_neg hno, if_neg e9]⟩⟩)
        · refine o_bipush (v := (-2 : Int32)) hC dX8_under_32 (by decide +kernel) ?_
          refine o_iret hC hB dX8_under_34 (Nat.le_of_ble_eq_true rfl) (Nat.le_of_ble_eq_true rfl) ?_
          first
          | exact ⟨_, rfl, rfl, hq0, Or.inr ⟨t, htl, rfl, (if_pos (Or.inl ((lg_cmp_lt _ _).mp c_18))).symm⟩⟩
          | exact ⟨_, rfl, rfl, hq0, Or.inr ⟨t, htl, rfl, (if_pos (Or.inr (fun w => c_29 ((lg_cmp_eq _ _).mpr w)))).symm⟩⟩
          | (have hno : ¬ (st < 0 ∨ ¬ st >>> (T.2.2.1.toInt64 &&& 63) = 0) := fun w => w.elim (fun u => c_18 ((lg_cmp_lt _ _).mpr u)) (fun u => u ((lg_cmp_eq _ _).mp c_29))
             by_cases e9 : wfh st (ark res t).2 0 = -1
             · rw [if_pos e9] at c_41
               first
               | exact absurd rfl c_41
               | exact ⟨_, rfl, rfl, hq0, Or.inr ⟨t, htl, rfl, by rw [if_neg hno, if_pos e9]⟩⟩
             · rw [if_neg e9] at c_41
               first
               | exact absurd c_41 (by decide +kernel)
               | exact ⟨_, rfl, rfl, hq0, Or.inr ⟨t, htl, rfl, by rw [if_neg hno, if_neg e9]⟩⟩)
    · exact absurd c_10 (by decide +kernel)

set_option maxHeartbeats 4000000 in
set_option maxRecDepth 100000 in
theorem cf_X8_forward (l : Launch) (D : va_G) (ids : Nat → ClassId) (H0 : Heap) (h : rl_H) (n : Nat) (m : Nat) (T : md_T) (fu : Int32) (k : Nat) (A : md_D) (S : md_A) (z : sh_S) (res : List arow) (rw : Nat) (q : Int32) (hq : mf ids h h m T fu k A) (hu : md_un ids h m T fu k S z) (hr : mrs A T res rw)  : rl_Met l (rl_e D ids H0) rl_BW rl_Ns yX8_forward cX8_forward 4 (some .int) ({ frames := 2, cells := 0, slots := 0, locals := 48 }) [.ref m, .int q] h n (fun v h' n' => ∃ r : Int32, v = some (.int r) ∧ n' = n ∧ mf ids h h' m (nI 0, T.2) fu k A ∧ (((q < 0 ∨ nI z.2.2.1 ≤ q) ∧ r = -1) ∨ (¬ (q < 0 ∨ nI z.2.2.1 ≤ q) ∧ r = fwo T.2.2.2.1 (T.2.2.2.1 ^^^ (1 : Int64) <<< (q.toInt64 &&& 63)) res (nI 0)))) := by
  obtain ⟨hm0, g12, g13, g14, g15, g16, g17, g18, g19, g20, g21, g22⟩ := id hq
  have g0 := hm0.1
  have gk := hm0.2.1
  have b13 := hq.b13
  have b15 := hq.b15
  have b21 := hq.b21
  have hq0 := hq.ob (nI 0, T.2) fu k gk
  have r80 := hr.2.1.2.2
  have h16 := hr.1.1
  obtain ⟨-, hs, ⟨hsc, hsc4⟩, hwf, ⟨hrr, hr36⟩, ⟨hnc, hn16⟩, hnw, hpr, -, hwv, wrc, hrc6, hrc⟩ := id hu
  refine rl_Met.of (by decide +kernel) (Nat.le_of_ble_eq_true rfl) ?_
  intro X hC hB
  show rl_G X (rl_e D ids H0) 0 [some (.ref m), some (.int q), none, none] [] h n 0 0
  refine o_aload_n hC dX8_forward_0 (by rfl) ?_
  refine o_iconst (v := nI 0) hC dX8_forward_1 (by decide +kernel) ?_
  refine o_putf hC (fX8_78 hC rfl) (fwX8 rfl rfl rfl (Or.inl rfl)) dX8_forward_2 (by repeat (first | with_reducible assumption | (rw [rl_u_s]; done) | (rw [rl_u_s]; rfl) | rw [rl_u_n (by first | with_reducible assumption | omega)])) (Nat.le_of_ble_eq_true rfl) ?_
  try simp only [List.set_cons_zero, List.set_cons_succ]
  refine o_iload_n hC dX8_forward_5 (by rfl) ?_
  refine o_if_lt (tgt := 17) hC dX8_forward_6 (by decide) (fun c_6 => ?_) (fun c_6 => ?_)
  · refine o_iconst (v := (-1 : Int32)) hC dX8_forward_17 (by decide +kernel) ?_
    refine o_iret hC hB dX8_forward_18 (Nat.le_of_ble_eq_true rfl) (Nat.le_of_ble_eq_true rfl) ?_
    first
    | exact ⟨_, rfl, rfl, hq0, Or.inl ⟨Or.inl c_6, rfl⟩⟩
    | exact ⟨_, rfl, rfl, hq0, Or.inl ⟨Or.inr (by rw [← hrr]; exact Int32.not_lt.mp c_14), rfl⟩⟩
  · refine o_iload_n hC dX8_forward_9 (by rfl) ?_
    refine o_aload_n hC dX8_forward_10 (by rfl) ?_
    refine o_getf hC (fX8_112 hC rfl) dX8_forward_11 (by repeat (first | with_reducible assumption | (rw [rl_u_s]; done) | (rw [rl_u_s]; rfl) | rw [rl_u_n (by first | with_reducible assumption | omega)])) (by first | rfl | with_reducible assumption) ?_
    refine o_icmp_lt (tgt := 19) hC dX8_forward_14 (by decide) (fun c_14 => ?_) (fun c_14 => ?_)
    · refine o_iconst (v := nI 0) hC dX8_forward_19 (by decide +kernel) ?_
      refine o_istore_n hC dX8_forward_20 (Nat.le_of_ble_eq_true rfl) ?_
      refine o_iconst (v := nI 0) hC dX8_forward_21 (by decide +kernel) ?_
      refine o_istore_n hC dX8_forward_22 (Nat.le_of_ble_eq_true rfl) ?_
      have hr9 : ¬ (q < 0 ∨ nI z.2.2.1 ≤ q) := fun w => w.elim c_6 (fun u => absurd u (Int32.not_le.mpr (by rw [← hrr]; exact c_14)))
      have loop : ∀ (mm t : Nat) (c : Int32), t + mm = res.length → fwo T.2.2.2.1 (T.2.2.2.1 ^^^ (1 : Int64) <<< (q.toInt64 &&& 63)) (res.drop t) c = fwo T.2.2.2.1 (T.2.2.2.1 ^^^ (1 : Int64) <<< (q.toInt64 &&& 63)) res (nI 0) → rl_G X (rl_e D ids H0) 23 [some (.ref m), some (.int q), some (.int c), some (.int (nI t))] [] (rl_u h m (md_ob m (nI 0, T.2) fu k)) n 0 0 := by
        intro mm
        induction mm with
        | zero =>
          intro t c hm hi
          refine o_iload_n hC dX8_forward_23 (by rfl) ?_
          refine o_aload_n hC dX8_forward_24 (by rfl) ?_
          refine o_getf hC (fX8_46 hC rfl) dX8_forward_25 (by repeat (first | with_reducible assumption | (rw [rl_u_s]; done) | (rw [rl_u_s]; rfl) | rw [rl_u_n (by first | with_reducible assumption | omega)])) (by first | rfl | with_reducible assumption) ?_
          refine o_bipush (v := nI 16) hC dX8_forward_28 (by decide +kernel) ?_
          refine o_ialdN (t0 := 0) (k := 16) hC rfl dX8_forward_30 (by repeat (first | with_reducible assumption | (rw [rl_u_s]; done) | (rw [rl_u_s]; rfl) | rw [rl_u_n (by first | with_reducible assumption | omega)])) (by decide) (by decide) ?_
          rw [h16]
          refine o_icmp_ge (tgt := 73) hC dX8_forward_31 (by decide) (fun c_31 => ?_) (fun c_31 => ?_)
          · refine o_iload_n hC dX8_forward_73 (by rfl) ?_
            refine o_iret hC hB dX8_forward_74 (Nat.le_of_ble_eq_true rfl) (Nat.le_of_ble_eq_true rfl) ?_
            exact ⟨_, rfl, rfl, hq0, Or.inr ⟨hr9, by rw [← hi, List.drop_eq_nil_of_le (by omega)]; rfl⟩⟩
          · exact absurd (nI_le (by omega) (by omega)) c_31
        | succ mm ih =>
          intro t c hm hi
          have ht : t < 80 := by omega
          have hws : mws A (1280 + t) (ark res t).2 := (hr.1.2 t (by omega)).2
          rw [ark_dropp (show t < res.length by omega)] at hi
          rw [fwo_c] at hi
          rw [oi1] at hi
          refine o_iload_n hC dX8_forward_23 (by rfl) ?_
          refine o_aload_n hC dX8_forward_24 (by rfl) ?_
          refine o_getf hC (fX8_46 hC rfl) dX8_forward_25 (by repeat (first | with_reducible assumption | (rw [rl_u_s]; done) | (rw [rl_u_s]; rfl) | rw [rl_u_n (by first | with_reducible assumption | omega)])) (by first | rfl | with_reducible assumption) ?_
          refine o_bipush (v := nI 16) hC dX8_forward_28 (by decide +kernel) ?_
          refine o_ialdN (t0 := 0) (k := 16) hC rfl dX8_forward_30 (by repeat (first | with_reducible assumption | (rw [rl_u_s]; done) | (rw [rl_u_s]; rfl) | rw [rl_u_n (by first | with_reducible assumption | omega)])) (by decide) (by decide) ?_
          rw [h16]
          refine o_icmp_ge (tgt := 73) hC dX8_forward_31 (by decide) (fun c_31 => ?_) (fun c_31 => ?_)
          · exact absurd c_31 (nI_ge (by omega) (by omega))
          · refine o_iload_n hC dX8_forward_34 (by rfl) ?_
            refine o_aload_n hC dX8_forward_35 (by rfl) ?_
            refine o_iload_n hC dX8_forward_36 (by rfl) ?_
            refine o_aload_n hC dX8_forward_37 (by rfl) ?_
            refine o_getf hC (fX8_115 hC rfl) dX8_forward_38 (by repeat (first | with_reducible assumption | (rw [rl_u_s]; done) | (rw [rl_u_s]; rfl) | rw [rl_u_n (by first | with_reducible assumption | omega)])) (by first | rfl | with_reducible assumption) ?_
            refine o_callV2 hC rl_BW_good rl_Ns_nw (by exact hB.2.2.2.2.2) YX8_isSo IX8_isSo VX8_isSo (mX8_206 hC) (by rw [hB.1]; exact cf_X8_isSo l D ids H0 _ _ m _ _ _ _ t _ _ hq0.rf ht hws) (by exact hq0.1.1) rfl rfl (Nat.le_of_ble_eq_true rfl) (by rw [hB.2.1]; first | exact Nat.le_of_ble_eq_true rfl | (dsimp only; omega)) (by rw [hB.2.1]; first | exact Nat.le_of_ble_eq_true rfl | (dsimp only; omega)) (by rw [hB.2.1]; first | exact Nat.le_of_ble_eq_true rfl | (dsimp only; omega)) (by rw [hB.2.1]; first | exact Nat.le_of_ble_eq_true rfl | (dsimp only; omega)) dX8_forward_41 (fun v h_41 n_41 p_41 => ?_)
            obtain ⟨rfl, rfl, rfl⟩ := p_41
            try dsimp only [Option.toList, List.cons_append, List.nil_append]
            refine o_aload_n hC dX8_forward_44 (by rfl) ?_
            refine o_iload_n hC dX8_forward_45 (by rfl) ?_
            refine o_aload_n hC dX8_forward_46 (by rfl) ?_
            refine o_getf hC (fX8_115 hC rfl) dX8_forward_47 (by repeat (first | with_reducible assumption | (rw [rl_u_s]; done) | (rw [rl_u_s]; rfl) | rw [rl_u_n (by first | with_reducible assumption | omega)])) (by first | rfl | with_reducible assumption) ?_
            refine o_lconst (v := 1) hC dX8_forward_50 (by decide +kernel) ?_
            refine o_iload_n hC dX8_forward_51 (by rfl) ?_
            refine o_lshl hC dX8_forward_52 ?_
            refine o_lxor hC dX8_forward_53 ?_
            refine o_callV2 hC rl_BW_good rl_Ns_nw (by exact hB.2.2.2.2.2) YX8_isSo IX8_isSo VX8_isSo (mX8_206 hC) (by rw [hB.1]; exact cf_X8_isSo l D ids H0 _ _ m _ _ _ _ t _ _ hq0.rf ht hws) (by exact hq0.1.1) rfl rfl (Nat.le_of_ble_eq_true rfl) (by rw [hB.2.1]; first | exact Nat.le_of_ble_eq_true rfl | (dsimp only; omega)) (by rw [hB.2.1]; first | exact Nat.le_of_ble_eq_true rfl | (dsimp only; omega)) (by rw [hB.2.1]; first | exact Nat.le_of_ble_eq_true rfl | (dsimp only; omega)) (by rw [hB.2.1]; first | exact Nat.le_of_ble_eq_true rfl | (dsimp only; omega)) dX8_forward_54 (fun v h_54 n_54 p_54 => ?_)
            obtain ⟨rfl, rfl, rfl⟩ := p_54
            try dsimp only [Option.toList, List.cons_append, List.nil_append]
            refine o_icmp_eq (tgt := 64) hC dX8_forward_57 (by decide) (fun c_57 => ?_) (fun c_57 => ?_)
            · refine o_iconst (v := nI 0) hC dX8_forward_64 (by decide +kernel) ?_
              refine o_iadd hC dX8_forward_65 ?_
              refine o_istore_n hC dX8_forward_66 (Nat.le_of_ble_eq_true rfl) ?_
              refine o_iinc hC dX8_forward_67 (by rfl) (rl_inc _) (Nat.le_of_ble_eq_true rfl) ?_
              refine o_goto (tgt := 23) hC dX8_forward_70 (by decide) ?_
              first
              | (rw [if_pos ((tf_iff _ _).mp c_57)] at hi; exact ih (t + 1) _ (by omega) (by rw [ad0]; exact hi))
              | (rw [if_neg (fun w => c_57 ((tf_iff _ _).mpr w))] at hi; exact ih (t + 1) _ (by omega) hi)
            · refine o_iconst (v := nI 1) hC dX8_forward_60 (by decide +kernel) ?_
              refine o_goto (tgt := 65) hC dX8_forward_61 (by decide) ?_
              refine o_iadd hC dX8_forward_65 ?_
              refine o_istore_n hC dX8_forward_66 (Nat.le_of_ble_eq_true rfl) ?_
              refine o_iinc hC dX8_forward_67 (by rfl) (rl_inc _) (Nat.le_of_ble_eq_true rfl) ?_
              refine o_goto (tgt := 23) hC dX8_forward_70 (by decide) ?_
              first
              | (rw [if_pos ((tf_iff _ _).mp c_57)] at hi; exact ih (t + 1) _ (by omega) (by rw [ad0]; exact hi))
              | (rw [if_neg (fun w => c_57 ((tf_iff _ _).mpr w))] at hi; exact ih (t + 1) _ (by omega) hi)
      exact loop res.length 0 _ (by omega) rfl
    · refine o_iconst (v := (-1 : Int32)) hC dX8_forward_17 (by decide +kernel) ?_
      refine o_iret hC hB dX8_forward_18 (Nat.le_of_ble_eq_true rfl) (Nat.le_of_ble_eq_true rfl) ?_
      first
      | exact ⟨_, rfl, rfl, hq0, Or.inl ⟨Or.inl c_6, rfl⟩⟩
      | exact ⟨_, rfl, rfl, hq0, Or.inl ⟨Or.inr (by rw [← hrr]; exact Int32.not_lt.mp c_14), rfl⟩⟩

set_option maxHeartbeats 4000000 in
set_option maxRecDepth 100000 in
theorem cf_X8_ones (l : Launch) (D : va_G) (ids : Nat → ClassId) (H0 : Heap) (h : rl_H) (n : Nat) (x : Int64)  : rl_Met l (rl_e D ids H0) rl_BW rl_Ns yX8_ones cX8_ones 4 (some .int) ({ frames := 0, cells := 0, slots := 0, locals := 0 }) [.long x] h n (fun v h' n' => v = some (.int (mon x 36 0 (nI 0))) ∧ h' = h ∧ n' = n) := by
  refine rl_Met.of (by decide +kernel) (Nat.le_of_ble_eq_true rfl) ?_
  intro X hC hB
  have loop : ∀ (mm i : Nat) (c : Int32), i + mm = 36 → mon x mm i c = mon x 36 0 (nI 0) → rl_G X (rl_e D ids H0) 4 [some (.long x), none, some (.int c), some (.int (nI i))] [] h n 0 0 := by
    intro mm
    induction mm with
    | zero =>
      intro i c hm hi
      refine o_iload_n hC dX8_ones_4 (by rfl) ?_
      refine o_bipush (v := nI 36) hC dX8_ones_5 (by decide +kernel) ?_
      refine o_icmp_ge (tgt := 34) hC dX8_ones_7 (by decide) (fun c_7 => ?_) (fun c_7 => ?_)
      · refine o_iload_n hC dX8_ones_34 (by rfl) ?_
        refine o_iret hC hB dX8_ones_35 (Nat.le_of_ble_eq_true rfl) (Nat.le_of_ble_eq_true rfl) ?_
        exact ⟨by rw [← hi]; rfl, rfl, rfl⟩
      · exact absurd (nI_le (by omega) (by omega)) c_7
    | succ mm ih =>
      intro i c hm hi
      rw [mon_s x mm i c] at hi
      refine o_iload_n hC dX8_ones_4 (by rfl) ?_
      refine o_bipush (v := nI 36) hC dX8_ones_5 (by decide +kernel) ?_
      refine o_icmp_ge (tgt := 34) hC dX8_ones_7 (by decide) (fun c_7 => ?_) (fun c_7 => ?_)
      · exact absurd c_7 (nI_ge (by omega) (by omega))
      · refine o_iload_n hC dX8_ones_10 (by rfl) ?_
        refine o_lload_n hC dX8_ones_11 (by rfl) ?_
        refine o_iload_n hC dX8_ones_12 (by rfl) ?_
        refine o_lshr hC dX8_ones_13 ?_
        refine o_lconst (v := 1) hC dX8_ones_14 (by decide +kernel) ?_
        refine o_land hC dX8_ones_15 ?_
        refine o_lconst (v := 1) hC dX8_ones_16 (by decide +kernel) ?_
        refine o_lcmp hC dX8_ones_17 ?_
        refine o_if_ne (tgt := 25) hC dX8_ones_18 (by decide) (fun c_18 => ?_) (fun c_18 => ?_)
        · refine o_iconst (v := nI 0) hC dX8_ones_25 (by decide +kernel) ?_
          refine o_iadd hC dX8_ones_26 ?_
          refine o_istore_n hC dX8_ones_27 (Nat.le_of_ble_eq_true rfl) ?_
          refine o_iinc hC dX8_ones_28 (by rfl) (rl_inc _) (Nat.le_of_ble_eq_true rfl) ?_
          refine o_goto (tgt := 4) hC dX8_ones_31 (by decide) ?_
          first
          | (rw [if_pos ((lg_cmp_eq _ _).mp (by first | exact c_18 | exact Classical.not_not.mp c_18))] at hi; exact ih (i + 1) _ (by omega) hi)
          | (rw [if_neg (fun w => c_18 ((lg_cmp_eq _ _).mpr w))] at hi; exact ih (i + 1) _ (by omega) (by rw [ad0]; exact hi))
        · refine o_iconst (v := nI 1) hC dX8_ones_21 (by decide +kernel) ?_
          refine o_goto (tgt := 26) hC dX8_ones_22 (by decide) ?_
          refine o_iadd hC dX8_ones_26 ?_
          refine o_istore_n hC dX8_ones_27 (Nat.le_of_ble_eq_true rfl) ?_
          refine o_iinc hC dX8_ones_28 (by rfl) (rl_inc _) (Nat.le_of_ble_eq_true rfl) ?_
          refine o_goto (tgt := 4) hC dX8_ones_31 (by decide) ?_
          first
          | (rw [if_pos ((lg_cmp_eq _ _).mp (by first | exact c_18 | exact Classical.not_not.mp c_18))] at hi; exact ih (i + 1) _ (by omega) hi)
          | (rw [if_neg (fun w => c_18 ((lg_cmp_eq _ _).mpr w))] at hi; exact ih (i + 1) _ (by omega) (by rw [ad0]; exact hi))
  show rl_G X (rl_e D ids H0) 0 [some (.long x), none, none, none] [] h n 0 0
  refine o_iconst (v := nI 0) hC dX8_ones_0 (by decide +kernel) ?_
  refine o_istore_n hC dX8_ones_1 (Nat.le_of_ble_eq_true rfl) ?_
  refine o_iconst (v := nI 0) hC dX8_ones_2 (by decide +kernel) ?_
  refine o_istore_n hC dX8_ones_3 (Nat.le_of_ble_eq_true rfl) ?_
  exact loop 36 0 _ (by omega) rfl

set_option maxHeartbeats 4000000 in
set_option maxRecDepth 100000 in
theorem cf_X8_told (l : Launch) (D : va_G) (ids : Nat → ClassId) (H0 : Heap) (h : rl_H) (n : Nat) (m : Nat) (T : md_T) (fu : Int32) (k : Nat) (A : md_D) (S : md_A) (z : sh_S) (res : List arow) (rw : Nat) (w : Int32) (hq : mf ids h h m T fu k A) (hu : md_un ids h m T fu k S z) (hr : mrs A T res rw)  : rl_Met l (rl_e D ids H0) rl_BW rl_Ns yX8_told cX8_told 4 (some .int) ({ frames := 2, cells := 0, slots := 0, locals := 48 }) [.ref m, .int w] h n (fun v h' n' => ∃ r : Int32, v = some (.int r) ∧ n' = n ∧ mf ids h h' m (nI 0, T.2) fu k A ∧ (((w < 0 ∨ nI 5 < w) ∧ r = -2) ∨ (w = nI 0 ∧ r = nI z.1) ∨ (w = nI 1 ∧ r = nI z.2.2.1) ∨ (w = nI 2 ∧ r = nI z.2.2.2.1) ∨ (w = nI 3 ∧ r = nI res.length) ∨ (w = nI 4 ∧ r = hgo T.2.2.2.1 res (nI 0)) ∨ (w = nI 5 ∧ r = mon T.2.2.2.1 36 0 (nI 0)))) := by
  obtain ⟨hm0, g12, g13, g14, g15, g16, g17, g18, g19, g20, g21, g22⟩ := id hq
  have g0 := hm0.1
  have gk := hm0.2.1
  have b13 := hq.b13
  have b15 := hq.b15
  have b21 := hq.b21
  have hq0 := hq.ob (nI 0, T.2) fu k gk
  have r80 := hr.2.1.2.2
  have h16 := hr.1.1
  obtain ⟨-, hs, ⟨hsc, hsc4⟩, hwf, ⟨hrr, hr36⟩, ⟨hnc, hn16⟩, hnw, hpr, -, hwv, wrc, hrc6, hrc⟩ := id hu
  refine rl_Met.of (by decide +kernel) (Nat.le_of_ble_eq_true rfl) ?_
  intro X hC hB
  show rl_G X (rl_e D ids H0) 0 [some (.ref m), some (.int w), none, none] [] h n 0 0
  refine o_aload_n hC dX8_told_0 (by rfl) ?_
  refine o_iconst (v := nI 0) hC dX8_told_1 (by decide +kernel) ?_
  refine o_putf hC (fX8_78 hC rfl) (fwX8 rfl rfl rfl (Or.inl rfl)) dX8_told_2 (by repeat (first | with_reducible assumption | (rw [rl_u_s]; done) | (rw [rl_u_s]; rfl) | rw [rl_u_n (by first | with_reducible assumption | omega)])) (Nat.le_of_ble_eq_true rfl) ?_
  try simp only [List.set_cons_zero, List.set_cons_succ]
  refine o_iconst (v := nI 0) hC dX8_told_5 (by decide +kernel) ?_
  refine o_istore_n hC dX8_told_6 (Nat.le_of_ble_eq_true rfl) ?_
  refine o_iload_n hC dX8_told_7 (by rfl) ?_
  by_cases hw : w < 0 ∨ nI 5 < w
  · refine o_tableOut (tgt := 120) hC dX8_told_8 (rl_out (by decide) hw) (by decide) ?_
    refine o_bipush (v := (-2 : Int32)) hC dX8_told_120 (by decide +kernel) ?_
    refine o_iret hC hB dX8_told_122 (Nat.le_of_ble_eq_true rfl) (Nat.le_of_ble_eq_true rfl) ?_
    first
    | exact ⟨_, rfl, rfl, hq0, Or.inl ⟨hw, rfl⟩⟩
    | exact ⟨_, rfl, rfl, hq0, Or.inr (Or.inl ⟨rfl, hsc⟩)⟩
    | exact ⟨_, rfl, rfl, hq0, Or.inr (Or.inr (Or.inl ⟨rfl, hrr⟩))⟩
    | exact ⟨_, rfl, rfl, hq0, Or.inr (Or.inr (Or.inr (Or.inl ⟨rfl, hnc⟩)))⟩
    | exact ⟨_, rfl, rfl, hq0, Or.inr (Or.inr (Or.inr (Or.inr (Or.inl ⟨rfl, rfl⟩))))⟩
    | exact ⟨_, rfl, rfl, hq0, Or.inr (Or.inr (Or.inr (Or.inr (Or.inr (Or.inr ⟨rfl, rfl⟩)))))⟩
  · obtain ⟨j, hj, rfl⟩ := rl_inn (by decide) hw
    rcases (show j = 0 ∨ j = 1 ∨ j = 2 ∨ j = 3 ∨ j = 4 ∨ j = 5 by omega) with rfl | rfl | rfl | rfl | rfl | rfl
    · refine o_tableIn (off := 40) (tgt := 48) hC dX8_told_8 (by decide +kernel) (by decide +kernel) (by decide +kernel) (by decide) ?_
      refine o_aload_n hC dX8_told_48 (by rfl) ?_
      refine o_getf hC (fX8_109 hC rfl) dX8_told_49 (by repeat (first | with_reducible assumption | (rw [rl_u_s]; done) | (rw [rl_u_s]; rfl) | rw [rl_u_n (by first | with_reducible assumption | omega)])) (by first | rfl | with_reducible assumption) ?_
      refine o_iret hC hB dX8_told_52 (Nat.le_of_ble_eq_true rfl) (Nat.le_of_ble_eq_true rfl) ?_
      first
      | exact ⟨_, rfl, rfl, hq0, Or.inl ⟨hw, rfl⟩⟩
      | exact ⟨_, rfl, rfl, hq0, Or.inr (Or.inl ⟨rfl, hsc⟩)⟩
      | exact ⟨_, rfl, rfl, hq0, Or.inr (Or.inr (Or.inl ⟨rfl, hrr⟩))⟩
      | exact ⟨_, rfl, rfl, hq0, Or.inr (Or.inr (Or.inr (Or.inl ⟨rfl, hnc⟩)))⟩
      | exact ⟨_, rfl, rfl, hq0, Or.inr (Or.inr (Or.inr (Or.inr (Or.inl ⟨rfl, rfl⟩))))⟩
      | exact ⟨_, rfl, rfl, hq0, Or.inr (Or.inr (Or.inr (Or.inr (Or.inr (Or.inr ⟨rfl, rfl⟩)))))⟩
    · refine o_tableIn (off := 45) (tgt := 53) hC dX8_told_8 (by decide +kernel) (by decide +kernel) (by decide +kernel) (by decide) ?_
      refine o_aload_n hC dX8_told_53 (by rfl) ?_
      refine o_getf hC (fX8_112 hC rfl) dX8_told_54 (by repeat (first | with_reducible assumption | (rw [rl_u_s]; done) | (rw [rl_u_s]; rfl) | rw [rl_u_n (by first | with_reducible assumption | omega)])) (by first | rfl | with_reducible assumption) ?_
      refine o_iret hC hB dX8_told_57 (Nat.le_of_ble_eq_true rfl) (Nat.le_of_ble_eq_true rfl) ?_
      first
      | exact ⟨_, rfl, rfl, hq0, Or.inl ⟨hw, rfl⟩⟩
      | exact ⟨_, rfl, rfl, hq0, Or.inr (Or.inl ⟨rfl, hsc⟩)⟩
      | exact ⟨_, rfl, rfl, hq0, Or.inr (Or.inr (Or.inl ⟨rfl, hrr⟩))⟩
      | exact ⟨_, rfl, rfl, hq0, Or.inr (Or.inr (Or.inr (Or.inl ⟨rfl, hnc⟩)))⟩
      | exact ⟨_, rfl, rfl, hq0, Or.inr (Or.inr (Or.inr (Or.inr (Or.inl ⟨rfl, rfl⟩))))⟩
      | exact ⟨_, rfl, rfl, hq0, Or.inr (Or.inr (Or.inr (Or.inr (Or.inr (Or.inr ⟨rfl, rfl⟩)))))⟩
    · refine o_tableIn (off := 50) (tgt := 58) hC dX8_told_8 (by decide +kernel) (by decide +kernel) (by decide +kernel) (by decide) ?_
      refine o_aload_n hC dX8_told_58 (by rfl) ?_
      refine o_getf hC (fX8_119 hC rfl) dX8_told_59 (by repeat (first | with_reducible assumption | (rw [rl_u_s]; done) | (rw [rl_u_s]; rfl) | rw [rl_u_n (by first | with_reducible assumption | omega)])) (by first | rfl | with_reducible assumption) ?_
      refine o_iret hC hB dX8_told_62 (Nat.le_of_ble_eq_true rfl) (Nat.le_of_ble_eq_true rfl) ?_
      first
      | exact ⟨_, rfl, rfl, hq0, Or.inl ⟨hw, rfl⟩⟩
      | exact ⟨_, rfl, rfl, hq0, Or.inr (Or.inl ⟨rfl, hsc⟩)⟩
      | exact ⟨_, rfl, rfl, hq0, Or.inr (Or.inr (Or.inl ⟨rfl, hrr⟩))⟩
      | exact ⟨_, rfl, rfl, hq0, Or.inr (Or.inr (Or.inr (Or.inl ⟨rfl, hnc⟩)))⟩
      | exact ⟨_, rfl, rfl, hq0, Or.inr (Or.inr (Or.inr (Or.inr (Or.inl ⟨rfl, rfl⟩))))⟩
      | exact ⟨_, rfl, rfl, hq0, Or.inr (Or.inr (Or.inr (Or.inr (Or.inr (Or.inr ⟨rfl, rfl⟩)))))⟩
    · refine o_tableIn (off := 55) (tgt := 63) hC dX8_told_8 (by decide +kernel) (by decide +kernel) (by decide +kernel) (by decide) ?_
      refine o_aload_n hC dX8_told_63 (by rfl) ?_
      refine o_getf hC (fX8_46 hC rfl) dX8_told_64 (by repeat (first | with_reducible assumption | (rw [rl_u_s]; done) | (rw [rl_u_s]; rfl) | rw [rl_u_n (by first | with_reducible assumption | omega)])) (by first | rfl | with_reducible assumption) ?_
      refine o_bipush (v := nI 16) hC dX8_told_67 (by decide +kernel) ?_
      refine o_ialdN (t0 := 0) (k := 16) hC rfl dX8_told_69 (by repeat (first | with_reducible assumption | (rw [rl_u_s]; done) | (rw [rl_u_s]; rfl) | rw [rl_u_n (by first | with_reducible assumption | omega)])) (by decide) (by decide) ?_
      rw [h16]
      refine o_iret hC hB dX8_told_70 (Nat.le_of_ble_eq_true rfl) (Nat.le_of_ble_eq_true rfl) ?_
      first
      | exact ⟨_, rfl, rfl, hq0, Or.inl ⟨hw, rfl⟩⟩
      | exact ⟨_, rfl, rfl, hq0, Or.inr (Or.inl ⟨rfl, hsc⟩)⟩
      | exact ⟨_, rfl, rfl, hq0, Or.inr (Or.inr (Or.inl ⟨rfl, hrr⟩))⟩
      | exact ⟨_, rfl, rfl, hq0, Or.inr (Or.inr (Or.inr (Or.inl ⟨rfl, hnc⟩)))⟩
      | exact ⟨_, rfl, rfl, hq0, Or.inr (Or.inr (Or.inr (Or.inr (Or.inl ⟨rfl, rfl⟩))))⟩
      | exact ⟨_, rfl, rfl, hq0, Or.inr (Or.inr (Or.inr (Or.inr (Or.inr (Or.inr ⟨rfl, rfl⟩)))))⟩
    · refine o_tableIn (off := 63) (tgt := 71) hC dX8_told_8 (by decide +kernel) (by decide +kernel) (by decide +kernel) (by decide) ?_
      refine o_iconst (v := nI 0) hC dX8_told_71 (by decide +kernel) ?_
      refine o_istore_n hC dX8_told_72 (Nat.le_of_ble_eq_true rfl) ?_
      have loop : ∀ (mm t : Nat) (c : Int32), t + mm = res.length → hgo T.2.2.2.1 (res.drop t) c = hgo T.2.2.2.1 res (nI 0) → rl_G X (rl_e D ids H0) 73 [some (.ref m), some (.int (nI 4)), some (.int c), some (.int (nI t))] [] (rl_u h m (md_ob m (nI 0, T.2) fu k)) n 0 0 := by
        intro mm
        induction mm with
        | zero =>
          intro t c hm hi
          refine o_iload_n hC dX8_told_73 (by rfl) ?_
          refine o_aload_n hC dX8_told_74 (by rfl) ?_
          refine o_getf hC (fX8_46 hC rfl) dX8_told_75 (by repeat (first | with_reducible assumption | (rw [rl_u_s]; done) | (rw [rl_u_s]; rfl) | rw [rl_u_n (by first | with_reducible assumption | omega)])) (by first | rfl | with_reducible assumption) ?_
          refine o_bipush (v := nI 16) hC dX8_told_78 (by decide +kernel) ?_
          refine o_ialdN (t0 := 0) (k := 16) hC rfl dX8_told_80 (by repeat (first | with_reducible assumption | (rw [rl_u_s]; done) | (rw [rl_u_s]; rfl) | rw [rl_u_n (by first | with_reducible assumption | omega)])) (by decide) (by decide) ?_
          rw [h16]
          refine o_icmp_ge (tgt := 110) hC dX8_told_81 (by decide) (fun c_81 => ?_) (fun c_81 => ?_)
          · refine o_iload_n hC dX8_told_110 (by rfl) ?_
            refine o_iret hC hB dX8_told_111 (Nat.le_of_ble_eq_true rfl) (Nat.le_of_ble_eq_true rfl) ?_
            exact ⟨_, rfl, rfl, hq0, Or.inr (Or.inr (Or.inr (Or.inr (Or.inr (Or.inl ⟨rfl, by rw [← hi, List.drop_eq_nil_of_le (by omega)]; rfl⟩)))))⟩
          · exact absurd (nI_le (by omega) (by omega)) c_81
        | succ mm ih =>
          intro t c hm hi
          have ht : t < 80 := by omega
          have hws : mws A (1280 + t) (ark res t).2 := (hr.1.2 t (by omega)).2
          rw [ark_dropp (show t < res.length by omega)] at hi
          rw [hgo_c] at hi
          rw [oi1] at hi
          refine o_iload_n hC dX8_told_73 (by rfl) ?_
          refine o_aload_n hC dX8_told_74 (by rfl) ?_
          refine o_getf hC (fX8_46 hC rfl) dX8_told_75 (by repeat (first | with_reducible assumption | (rw [rl_u_s]; done) | (rw [rl_u_s]; rfl) | rw [rl_u_n (by first | with_reducible assumption | omega)])) (by first | rfl | with_reducible assumption) ?_
          refine o_bipush (v := nI 16) hC dX8_told_78 (by decide +kernel) ?_
          refine o_ialdN (t0 := 0) (k := 16) hC rfl dX8_told_80 (by repeat (first | with_reducible assumption | (rw [rl_u_s]; done) | (rw [rl_u_s]; rfl) | rw [rl_u_n (by first | with_reducible assumption | omega)])) (by decide) (by decide) ?_
          rw [h16]
          refine o_icmp_ge (tgt := 110) hC dX8_told_81 (by decide) (fun c_81 => ?_) (fun c_81 => ?_)
          · exact absurd c_81 (nI_ge (by omega) (by omega))
          · refine o_iload_n hC dX8_told_84 (by rfl) ?_
            refine o_aload_n hC dX8_told_85 (by rfl) ?_
            refine o_iload_n hC dX8_told_86 (by rfl) ?_
            refine o_aload_n hC dX8_told_87 (by rfl) ?_
            refine o_getf hC (fX8_115 hC rfl) dX8_told_88 (by repeat (first | with_reducible assumption | (rw [rl_u_s]; done) | (rw [rl_u_s]; rfl) | rw [rl_u_n (by first | with_reducible assumption | omega)])) (by first | rfl | with_reducible assumption) ?_
            refine o_callV2 hC rl_BW_good rl_Ns_nw (by exact hB.2.2.2.2.2) YX8_isSo IX8_isSo VX8_isSo (mX8_206 hC) (by rw [hB.1]; exact cf_X8_isSo l D ids H0 _ _ m _ _ _ _ t _ _ hq0.rf ht hws) (by exact hq0.1.1) rfl rfl (Nat.le_of_ble_eq_true rfl) (by rw [hB.2.1]; first | exact Nat.le_of_ble_eq_true rfl | (dsimp only; omega)) (by rw [hB.2.1]; first | exact Nat.le_of_ble_eq_true rfl | (dsimp only; omega)) (by rw [hB.2.1]; first | exact Nat.le_of_ble_eq_true rfl | (dsimp only; omega)) (by rw [hB.2.1]; first | exact Nat.le_of_ble_eq_true rfl | (dsimp only; omega)) dX8_told_91 (fun v h_91 n_91 p_91 => ?_)
            obtain ⟨rfl, rfl, rfl⟩ := p_91
            try dsimp only [Option.toList, List.cons_append, List.nil_append]
            refine o_if_eq (tgt := 101) hC dX8_told_94 (by decide) (fun c_94 => ?_) (fun c_94 => ?_)
            · refine o_iconst (v := nI 0) hC dX8_told_101 (by decide +kernel) ?_
              refine o_iadd hC dX8_told_102 ?_
              refine o_istore_n hC dX8_told_103 (Nat.le_of_ble_eq_true rfl) ?_
              refine o_iinc hC dX8_told_104 (by rfl) (rl_inc _) (Nat.le_of_ble_eq_true rfl) ?_
              refine o_goto (tgt := 73) hC dX8_told_107 (by decide) ?_
              by_cases e9 : wfh T.2.2.2.1 (ark res t).2 0 = -1
              · rw [if_pos e9] at c_94 hi
                first
                | exact absurd rfl c_94
                | exact ih (t + 1) _ (by omega) (by rw [ad0]; exact hi)
              · rw [if_neg e9] at c_94 hi
                first
                | exact absurd c_94 (by decide +kernel)
                | exact ih (t + 1) _ (by omega) hi
            · refine o_iconst (v := nI 1) hC dX8_told_97 (by decide +kernel) ?_
              refine o_goto (tgt := 102) hC dX8_told_98 (by decide) ?_
              refine o_iadd hC dX8_told_102 ?_
              refine o_istore_n hC dX8_told_103 (Nat.le_of_ble_eq_true rfl) ?_
              refine o_iinc hC dX8_told_104 (by rfl) (rl_inc _) (Nat.le_of_ble_eq_true rfl) ?_
              refine o_goto (tgt := 73) hC dX8_told_107 (by decide) ?_
              by_cases e9 : wfh T.2.2.2.1 (ark res t).2 0 = -1
              · rw [if_pos e9] at c_94 hi
                first
                | exact absurd rfl c_94
                | exact ih (t + 1) _ (by omega) (by rw [ad0]; exact hi)
              · rw [if_neg e9] at c_94 hi
                first
                | exact absurd c_94 (by decide +kernel)
                | exact ih (t + 1) _ (by omega) hi
      exact loop res.length 0 _ (by omega) rfl
    · refine o_tableIn (off := 104) (tgt := 112) hC dX8_told_8 (by decide +kernel) (by decide +kernel) (by decide +kernel) (by decide) ?_
      refine o_aload_n hC dX8_told_112 (by rfl) ?_
      refine o_getf hC (fX8_115 hC rfl) dX8_told_113 (by repeat (first | with_reducible assumption | (rw [rl_u_s]; done) | (rw [rl_u_s]; rfl) | rw [rl_u_n (by first | with_reducible assumption | omega)])) (by first | rfl | with_reducible assumption) ?_
      refine o_callS1 hC rl_BW_good rl_Ns_nw (by exact hB.2.2.2.2.2) YX8_ones SX8_ones (mX8_220 hC) (by rw [hB.1]; exact cf_X8_ones l D ids H0 _ _ _) (Nat.le_of_ble_eq_true rfl) (by rw [hB.2.1]; first | exact Nat.le_of_ble_eq_true rfl | (dsimp only; omega)) (by rw [hB.2.1]; first | exact Nat.le_of_ble_eq_true rfl | (dsimp only; omega)) (by rw [hB.2.1]; first | exact Nat.le_of_ble_eq_true rfl | (dsimp only; omega)) (by rw [hB.2.1]; first | exact Nat.le_of_ble_eq_true rfl | (dsimp only; omega)) dX8_told_116 (fun v h_116 n_116 p_116 => ?_)
      obtain ⟨rfl, rfl, rfl⟩ := p_116
      try dsimp only [Option.toList, List.cons_append, List.nil_append]
      refine o_iret hC hB dX8_told_119 (Nat.le_of_ble_eq_true rfl) (Nat.le_of_ble_eq_true rfl) ?_
      first
      | exact ⟨_, rfl, rfl, hq0, Or.inl ⟨hw, rfl⟩⟩
      | exact ⟨_, rfl, rfl, hq0, Or.inr (Or.inl ⟨rfl, hsc⟩)⟩
      | exact ⟨_, rfl, rfl, hq0, Or.inr (Or.inr (Or.inl ⟨rfl, hrr⟩))⟩
      | exact ⟨_, rfl, rfl, hq0, Or.inr (Or.inr (Or.inr (Or.inl ⟨rfl, hnc⟩)))⟩
      | exact ⟨_, rfl, rfl, hq0, Or.inr (Or.inr (Or.inr (Or.inr (Or.inl ⟨rfl, rfl⟩))))⟩
      | exact ⟨_, rfl, rfl, hq0, Or.inr (Or.inr (Or.inr (Or.inr (Or.inr (Or.inr ⟨rfl, rfl⟩)))))⟩
end
section
/-! cell and way, functionally -/
section RLXP
variable {X : rl_X} {E : rl_E} {cc : ByteArray} {own : String} {BW Ns : List Cond} {pc : Nat} {lo : List (Option Value)} {st : List Value} {h : rl_H} {n ce sl : Nat}
theorem o_callVXp {bytes : ByteArray} {maxL idx b ci N : Nat} {C : String} {T : u_T} {fs As rest : List Value} {ret' : Option FieldType} {rm' : Room} {y' : MethodName} {Post' : Option Value → rl_H → Nat → Prop} {PX : String → Prop} {nm : String} {x : ExceptionTableEntry} {suf : List ExceptionTableEntry}
    (hC : rl_C X E cc own BW Ns) (hG : ∀ w ∈ BW, goodWord w = true) (hN : ∀ w ∈ Ns, rl_nw w = true) (hS : rl_S0 X E) (hml : X.2.1.2.2.2.2.maxLocals = lo.length) (hY : rl_Y BW y' bytes maxL ret' As.length) (h1 : Cond.instanceMethod y' ∈ BW) (h2 : Cond.selects y'.cls y' y' ∈ BW) (hl : Cond.methodLink own idx y' ∈ BW)
    (hM : rl_MetX X.1.2.1 E BW Ns y' bytes maxL ret' rm' (.ref b :: As) h n Post' PX) (hb : h b = some (.inr (ci, fs))) (hc : E.2.1[ci]? = some (C, T, N)) (hCy : C = y'.cls)
    (hst : (rest.map fun v => v.category).sum ≤ 8) (hr1 : rm'.frames + 1 ≤ X.1.2.2.2.1.frames) (hr2 : 8 + (maxL + 11) + rm'.locals ≤ X.1.2.2.2.1.locals) (hr3 : ce + rm'.cells ≤ X.1.2.2.2.1.cells) (hr4 : sl + rm'.slots ≤ X.1.2.2.2.1.slots) (hd : decode cc pc = .ok (.invokevirtual idx, 3))
    (hsplit : X.2.1.2.2.2.2.exceptionTable.toList = x :: suf) (hx : covers x pc = true) (hx0 : x.catchType ≠ 0) (hxl : Cond.classLink own x.catchType nm ∈ BW) (hcast : ∀ F : String, PX F → Cond.castable F nm ∈ rl_Xs)
    (kx : ∀ (q n' : Nat), n ≤ n' → (∃ F : String, PX F) → rl_G X E x.handlerPc lo [.ref q] h n' (ce + rm'.cells) (sl + rm'.slots))
    (kk : ∀ (v : Option Value) (h' : rl_H) (n' : Nat), Post' v h' n' → rl_G X E (pc + 3) lo (v.toList ++ rest) h' n' (ce + rm'.cells) (sl + rm'.slots)) : rl_G X E pc lo (As.reverse ++ .ref b :: rest) h n ce sl := by
  subst hCy
  intro H locs ls a1 b1 c1
  have hts := hC.2.2.2.1
  obtain ⟨⟨h0, n00, r0⟩, kX⟩ := hS
  have hfix : CallFix X.1.1 X.2.1.1 X.2.1.2.2.2.2 cc lo.length X.1.2.2.2.2 X.2.1.2.1 BW own := ⟨hC.1, hC.2.1, hml, hC.2.2.1, hts⟩
  have hrecv : ∃ cellB : Cell, H[b]? = some cellB ∧ cellB.vm.isStatics = false ∧ X.1.2.2.2.2.vm.findClass y'.cls = some cellB.cls := va_recv hC.2.2.2.2.2.1 (rl_P1 a1 hb) hc (q0 := 0) rfl
  have hpre : PreV X.1.2.2.2.2 H y'.cls b (rl_PcX E Ns (.ref b :: As) h n) As := ⟨rl_blindX hN, hrecv, fun U hU hW => ⟨rfl, (rl_pre (av := .ref b :: As) hC hN a1 U hU hW).2, kX.to hW (fun a ha => by rw [hU, a1.2.2.1 a ha, r0.2.2.1 a ha])⟩⟩
  have hr : vx_Run X.1.1 X.1.2.1 X.1.2.2.1 X.1.2.2.2.1 X.1.2.2.2.2 X.2.1.1 X.2.1.2.1 X.2.1.2.2.1 X.2.1.2.2.2.1 X.2.1.2.2.2.2 H locs ce sl rm'.cells rm'.slots (F0 X.2.1.1 pc ls (As.reverse ++ .ref b :: rest)) rest (rl_Qc E Post' (Value.ref b :: As).toArray) (rl_XC E h n PX) (fun q => E.2.2.2.size ≤ q) := vx_runV (y := y') (As := As) (rest := rest) (g := F0 X.2.1.1 pc ls (As.reverse ++ .ref b :: rest)) hfix hM ⟨callB_of As.length hts (rl_good hG hY.1) rfl rfl rfl (hts _ hY.2.1) (hts _ hl) hY.2.2 ⟨hr1, hr2⟩, hts _ h1, hts _ h2⟩ hpre rfl rfl c1.1 rfl (lv_room hst) hd ⟨hr3, hr4⟩
  intro T0 hT S
  rcases hr T0 hT S with ⟨v, st0, t, T', L, e0, S', hL, e1, e2, ⟨v', h', n', hv, hp, hR⟩, go⟩ | ⟨q, st0, t, T', L, F, ce0, e0, S', hL, e1, e2, ⟨hpx, n', hn', hR⟩, hce, hcv, hcl, stp⟩
  · cases hv
    obtain ⟨t', y1, y2⟩ := kk v h' n' hp T'.heap (locs ++ L) ls (by rw [e1]; exact hR) (fun q hq => (List.mem_append.mp hq).elim (b1 q) (hL q)) c1 T' rfl S'
    exact ⟨t', go _ y1, y2⟩
  · have hW : vx_W X.1.1 X.1.2.1 X.1.2.2.1 X.1.2.2.2.1 X.1.2.2.2.2 X.2.1.1 X.2.1.2.1 X.2.1.2.2.1 X.2.1.2.2.2.1 X.2.1.2.2.2.2 T'.heap (locs ++ L) (ce + rm'.cells) (sl + rm'.slots) X.2.2 (F0 X.2.1.1 pc ls rest) q :=
      vx_catch (E := F) (ce := ce0) (name := nm) hC.2.2.1 [] x suf hsplit (fun z hz => by cases hz) hx hx0 (hts _ hxl) (va_Nw.use rfl (kX.1 _ (hcast F hpx))) (by rw [e1]; exact hce) hcv hcl (kx q n' hn' ⟨F, hpx⟩ T'.heap (locs ++ L) ls (by rw [e1]; exact hR) (fun q hq => (List.mem_append.mp hq).elim (b1 q) (hL q)) c1)
    obtain ⟨t', y1, y2⟩ := hW T' rfl S'
    exact ⟨t', stp.trans y1, y2⟩
theorem o_callVYp {bytes : ByteArray} {maxL idx b ci N : Nat} {C : String} {T : u_T} {fs As rest : List Value} {ret' : Option FieldType} {rm' : Room} {y' : MethodName} {Post' : Option Value → rl_H → Nat → Prop} {PX P1 : String → Prop} {nm nm2 : String} {x x2 : ExceptionTableEntry} {suf : List ExceptionTableEntry}
    (hC : rl_C X E cc own BW Ns) (hG : ∀ w ∈ BW, goodWord w = true) (hN : ∀ w ∈ Ns, rl_nw w = true) (hS : rl_S0 X E) (hml : X.2.1.2.2.2.2.maxLocals = lo.length) (hY : rl_Y BW y' bytes maxL ret' As.length) (h1 : Cond.instanceMethod y' ∈ BW) (h2 : Cond.selects y'.cls y' y' ∈ BW) (hl : Cond.methodLink own idx y' ∈ BW)
    (hM : rl_MetX X.1.2.1 E BW Ns y' bytes maxL ret' rm' (.ref b :: As) h n Post' PX) (hb : h b = some (.inr (ci, fs))) (hc : E.2.1[ci]? = some (C, T, N)) (hCy : C = y'.cls)
    (hst : (rest.map fun v => v.category).sum ≤ 8) (hr1 : rm'.frames + 1 ≤ X.1.2.2.2.1.frames) (hr2 : 8 + (maxL + 11) + rm'.locals ≤ X.1.2.2.2.1.locals) (hr3 : ce + rm'.cells ≤ X.1.2.2.2.1.cells) (hr4 : sl + rm'.slots ≤ X.1.2.2.2.1.slots) (hd : decode cc pc = .ok (.invokevirtual idx, 3))
    (hsplit : X.2.1.2.2.2.2.exceptionTable.toList = x :: x2 :: suf) (hx : covers x pc = true) (hx0 : x.catchType ≠ 0) (hxl : Cond.classLink own x.catchType nm ∈ BW) (hx2 : covers x2 pc = true) (hx20 : x2.catchType ≠ 0) (hxl2 : Cond.classLink own x2.catchType nm2 ∈ BW) (hcast : ∀ F : String, PX F → (P1 F ∧ Cond.castable F nm ∈ rl_Xs) ∨ ((F = "java/lang/IllegalArgumentException" ∧ nm = "java/lang/IndexOutOfBoundsException") ∧ Cond.castable F nm2 ∈ rl_Xs))
    (kx : ∀ (q n' : Nat), n ≤ n' → (∃ F : String, PX F ∧ P1 F) → rl_G X E x.handlerPc lo [.ref q] h n' (ce + rm'.cells) (sl + rm'.slots))
    (kx2 : ∀ (q n' : Nat), n ≤ n' → PX "java/lang/IllegalArgumentException" → rl_G X E x2.handlerPc lo [.ref q] h n' (ce + rm'.cells) (sl + rm'.slots))
    (kk : ∀ (v : Option Value) (h' : rl_H) (n' : Nat), Post' v h' n' → rl_G X E (pc + 3) lo (v.toList ++ rest) h' n' (ce + rm'.cells) (sl + rm'.slots)) : rl_G X E pc lo (As.reverse ++ .ref b :: rest) h n ce sl := by
  subst hCy
  intro H locs ls a1 b1 c1
  have hts := hC.2.2.2.1
  obtain ⟨⟨h0, n00, r0⟩, kX⟩ := hS
  have hfix : CallFix X.1.1 X.2.1.1 X.2.1.2.2.2.2 cc lo.length X.1.2.2.2.2 X.2.1.2.1 BW own := ⟨hC.1, hC.2.1, hml, hC.2.2.1, hts⟩
  have hrecv : ∃ cellB : Cell, H[b]? = some cellB ∧ cellB.vm.isStatics = false ∧ X.1.2.2.2.2.vm.findClass y'.cls = some cellB.cls := va_recv hC.2.2.2.2.2.1 (rl_P1 a1 hb) hc (q0 := 0) rfl
  have hpre : PreV X.1.2.2.2.2 H y'.cls b (rl_PcX E Ns (.ref b :: As) h n) As := ⟨rl_blindX hN, hrecv, fun U hU hW => ⟨rfl, (rl_pre (av := .ref b :: As) hC hN a1 U hU hW).2, kX.to hW (fun a ha => by rw [hU, a1.2.2.1 a ha, r0.2.2.1 a ha])⟩⟩
  have hr : vx_Run X.1.1 X.1.2.1 X.1.2.2.1 X.1.2.2.2.1 X.1.2.2.2.2 X.2.1.1 X.2.1.2.1 X.2.1.2.2.1 X.2.1.2.2.2.1 X.2.1.2.2.2.2 H locs ce sl rm'.cells rm'.slots (F0 X.2.1.1 pc ls (As.reverse ++ .ref b :: rest)) rest (rl_Qc E Post' (Value.ref b :: As).toArray) (rl_XC E h n PX) (fun q => E.2.2.2.size ≤ q) := vx_runV (y := y') (As := As) (rest := rest) (g := F0 X.2.1.1 pc ls (As.reverse ++ .ref b :: rest)) hfix hM ⟨callB_of As.length hts (rl_good hG hY.1) rfl rfl rfl (hts _ hY.2.1) (hts _ hl) hY.2.2 ⟨hr1, hr2⟩, hts _ h1, hts _ h2⟩ hpre rfl rfl c1.1 rfl (lv_room hst) hd ⟨hr3, hr4⟩
  intro T0 hT S
  rcases hr T0 hT S with ⟨v, st0, t, T', L, e0, S', hL, e1, e2, ⟨v', h', n', hv, hp, hR⟩, go⟩ | ⟨q, st0, t, T', L, F, ce0, e0, S', hL, e1, e2, ⟨hpx, n', hn', hR⟩, hce, hcv, hcl, stp⟩
  · cases hv
    obtain ⟨t', y1, y2⟩ := kk v h' n' hp T'.heap (locs ++ L) ls (by rw [e1]; exact hR) (fun q hq => (List.mem_append.mp hq).elim (b1 q) (hL q)) c1 T' rfl S'
    exact ⟨t', go _ y1, y2⟩
  · have hW : vx_W X.1.1 X.1.2.1 X.1.2.2.1 X.1.2.2.2.1 X.1.2.2.2.2 X.2.1.1 X.2.1.2.1 X.2.1.2.2.1 X.2.1.2.2.2.1 X.2.1.2.2.2.2 T'.heap (locs ++ L) (ce + rm'.cells) (sl + rm'.slots) X.2.2 (F0 X.2.1.1 pc ls rest) q := by
      rcases hcast F hpx with ⟨hp1, hcc⟩ | ⟨⟨rfl, rfl⟩, hcc⟩
      · exact vx_catch (E := F) (ce := ce0) (name := nm) hC.2.2.1 [] x (x2 :: suf) hsplit (fun z hz => by cases hz) hx hx0 (hts _ hxl) (va_Nw.use rfl (kX.1 _ hcc)) (by rw [e1]; exact hce) hcv hcl (kx q n' hn' ⟨F, hpx, hp1⟩ T'.heap (locs ++ L) ls (by rw [e1]; exact hR) (fun q hq => (List.mem_append.mp hq).elim (b1 q) (hL q)) c1)
      · exact vx_catch (E := "java/lang/IllegalArgumentException") (ce := ce0) (name := nm2) hC.2.2.1 [x] x2 suf hsplit (fun z hz => by rw [List.mem_singleton.mp hz]; exact Or.inr ⟨hx0, _, hts _ hxl, kX.2.2.2.2⟩) hx2 hx20 (hts _ hxl2) (va_Nw.use rfl (kX.1 _ hcc)) (by rw [e1]; exact hce) hcv hcl (kx2 q n' hn' hpx T'.heap (locs ++ L) ls (by rw [e1]; exact hR) (fun q hq => (List.mem_append.mp hq).elim (b1 q) (hL q)) c1)
    obtain ⟨t', y1, y2⟩ := hW T' rfl S'
    exact ⟨t', stp.trans y1, y2⟩
end RLXP

theorem cl_rs.wl {ids : Nat → ClassId} {h : rl_H} {c : cl_N} {res : List arow} {rw : Nat} (H : (c.2.2.2.2.1 = -1 ∧ res = []) ∨ ∃ j : Nat, j < c.2.2.1 ∧ c.2.2.2.2.1 = nI j ∧ c.2.2.2.1 j 1 = nI rw ∧ ctb ids h (c.1 j + 1) rw res ∧ aok rw res) : ∀ t0 : Nat, t0 < res.length → (ark res t0).2.length ≤ 12 := by
  intro t0 h0
  rcases H with ⟨-, e⟩ | ⟨j, -, -, -, ⟨P, S, ht, -, hrow⟩, -⟩
  · rw [e] at h0
    exact absurd h0 (Nat.not_lt_zero _)
  · have e := hrow t0 h0
    have e2 : tls (S.2.1 (P t0)) (S.2.2.1 (P t0)) (S.2.2.2 (P t0)) = (ark res t0).2 := congrArg Prod.snd e
    obtain ⟨t1, ⟨tf, t2, t3⟩, t4, t5, t6, t7⟩ := ht
    obtain ⟨e3, e4, e5⟩ := t5 (P t0) (t4 t0 (by omega))
    have := e5.2.2.2
    rw [← e2, tls_len]
    exact this

set_option maxHeartbeats 4000000 in
set_option maxRecDepth 100000 in
theorem cd_X7_cell (l : Launch) (D : va_G) (ids : Nat → ClassId) (H0 : Heap) (h : rl_H) (n : Nat) (x L : Nat) (s : cl_S) (c : cl_N) (res : List arow) (rw : Nat) (q kk : Int32) (hl : l.stackTraces = false) (hk : cl_ok ids h n x L s c) (hd : cl_dp ids h s c) (hr : cl_rs s c res rw) : rl_MetX l (rl_e D ids H0) rl_BW rl_Ns yX7_cell cX7_cell 4 (some .int) ({ frames := 6, cells := 1, slots := 6, locals := 90 }) [.ref x, .int q, .int kk] h n (fun v h' n' => ∃ r : Int32, v = some (.int r) ∧ h' = h ∧ n' = n ∧ ∃ t0 k0 : Nat, t0 < res.length ∧ q = nI t0 ∧ k0 < rw ∧ kk = nI k0 ∧ r = (ark res t0).1.getD k0 0) (fun C => C = "java/lang/IndexOutOfBoundsException" ∧ ¬ (∃ t0 k0 : Nat, t0 < res.length ∧ q = nI t0 ∧ k0 < rw ∧ kk = nI k0)) := by
  have nc16 := cl_nc hk
  have hc := hk.1
  obtain ⟨c1, c2, c3, ⟨pn, c4, c5⟩, ⟨pt, c6, c7⟩, c8, c9, c10, c11, c12, c13, c14, c15⟩ := id hc
  have htb := hr.tb hd (fun k hk9 => cl_wd hk hk9)
  refine rl_MetX.of (by decide +kernel) (Nat.le_of_ble_eq_true rfl) ?_
  intro X hC hB hS hn0
  show rl_G X (rl_e D ids H0) 0 [some (.ref x), some (.int q), some (.int kk), none] [] h n 0 0
  refine o_aload_n hC dX7_cell_0 (by rfl) ?_
  refine o_iload_n hC dX7_cell_1 (by rfl) ?_
  refine o_callV1 hC rl_BW_good rl_Ns_nw (by exact hB.2.2.2.2.1) YX7_resultTuple IX7_resultTuple VX7_resultTuple (mX7_141 hC) (by rw [hB.1]; exact cd_X7_resultTuple l D ids H0 _ _ x L s c res rw _ hk hd hr) (by exact c1) rfl rfl (Nat.le_of_ble_eq_true rfl) (by rw [hB.2.1]; first | exact Nat.le_of_ble_eq_true rfl | (dsimp only; omega)) (by rw [hB.2.1]; first | exact Nat.le_of_ble_eq_true rfl | (dsimp only; omega)) (by rw [hB.2.1]; first | exact Nat.le_of_ble_eq_true rfl | (dsimp only; omega)) (by rw [hB.2.1]; first | exact Nat.le_of_ble_eq_true rfl | (dsimp only; omega)) dX7_cell_2 (fun v h_2 n_2 p_2 => ?_)
  obtain ⟨zv, rfl, rfl, rfl, hz⟩ := p_2
  try dsimp only [Option.toList, List.cons_append, List.nil_append]
  rcases hz with ⟨rfl, hz⟩ | ⟨t, j, i, htl, rfl, hj, hrs, hi, rfl, P, S, ht, er⟩
  · try dsimp only [Option.toList, List.cons_append, List.nil_append]
    refine o_astore_nN hC dX7_cell_5 (Nat.le_of_ble_eq_true rfl) ?_
    refine o_aload_nN hC dX7_cell_6 (by rfl) ?_
    refine o_ifnonnullN hC dX7_cell_7 ?_
    exact o_throwS (cls := "java/lang/IndexOutOfBoundsException") (text := "no such tuple") (names := rl_exn) (ik := 145) (is := 147) (ic := 149) hC hl hB hS hn0 (Nat.le_refl _) (by decide +kernel) (by decide +kernel) kX7_145 zIOB (hS.2.2.2.2.1 (147, "no such tuple") (by decide)) tg1 tg2 tg3 dX7_cell_10 dX7_cell_13 dX7_cell_14 dX7_cell_16 dX7_cell_19 (by decide) (by decide) (by decide) (by decide) (by exact hB.2.2.2.2.1) ⟨rfl, fun ⟨t0, k0, a, b, _⟩ => hz ⟨t0, a, b⟩⟩
  · try dsimp only [Option.toList, List.cons_append, List.nil_append]
    obtain ⟨t1, ⟨tf, t2, t3⟩, t4, t5, t6, t7⟩ := id ht
    obtain ⟨e1, e2, e3⟩ := t5 i hi
    obtain ⟨w1, w2, w3, w4⟩ := id e3
    have ew : tls (S.2.1 i) (S.2.2.1 i) (S.2.2.2 i) = (ark res t).2 := congrArg Prod.snd er
    refine o_astore_n hC dX7_cell_5 (Nat.le_of_ble_eq_true rfl) ?_
    refine o_aload_n hC dX7_cell_6 (by rfl) ?_
    refine o_ifnonnull (tgt := 20) hC dX7_cell_7 (by decide) ?_
    refine o_iload_n hC dX7_cell_20 (by rfl) ?_
    refine o_if_lt (tgt := 39) hC dX7_cell_21 (by decide) (fun c_21 => ?_) (fun c_21 => ?_)
    · exact o_throwS (cls := "java/lang/IndexOutOfBoundsException") (text := "no such column") (names := rl_exn) (ik := 145) (is := 153) (ic := 149) hC hl hB hS hn0 (Nat.le_refl _) (by decide +kernel) (by decide +kernel) kX7_145 zIOB (hS.2.2.2.2.1 (153, "no such column") (by decide)) tg1 tg2 tg3 dX7_cell_39 dX7_cell_42 dX7_cell_43 dX7_cell_45 dX7_cell_48 (by decide) (by decide) (by decide) (by decide) (by exact hB.2.2.2.2.1) ⟨rfl, by first | exact (fun ⟨t0, k0, _, _, a, e⟩ => absurd c_21 (by rw [e]; exact nI_pos (by omega))) | exact (fun ⟨t0, k0, _, _, a, e⟩ => c_36 (by rw [e]; exact nI_lt a (by omega)))⟩
    · refine o_iload_n hC dX7_cell_24 (by rfl) ?_
      refine o_aload_n hC dX7_cell_25 (by rfl) ?_
      refine o_aload_n hC dX7_cell_26 (by rfl) ?_
      refine o_getf hC (fX7_49 hC rfl) dX7_cell_27 (by repeat (first | with_reducible assumption | (rw [rl_u_s]; done) | (rw [rl_u_s]; rfl) | rw [rl_u_n (by first | with_reducible assumption | omega)])) (by first | rfl | with_reducible assumption) ?_
      refine o_callV1 hC rl_BW_good rl_Ns_nw (by exact hB.2.2.2.2.1) YX7_tableOf IX7_tableOf VX7_tableOf (mX7_127 hC) (by rw [hB.1]; exact cg_X7_tableOf l D ids H0 _ _ x s c _ hc) (by exact c1) rfl rfl (Nat.le_of_ble_eq_true rfl) (by rw [hB.2.1]; first | exact Nat.le_of_ble_eq_true rfl | (dsimp only; omega)) (by rw [hB.2.1]; first | exact Nat.le_of_ble_eq_true rfl | (dsimp only; omega)) (by rw [hB.2.1]; first | exact Nat.le_of_ble_eq_true rfl | (dsimp only; omega)) (by rw [hB.2.1]; first | exact Nat.le_of_ble_eq_true rfl | (dsimp only; omega)) dX7_cell_30 (fun v h_30 n_30 p_30 => ?_)
      obtain ⟨z30, rfl, rfl, rfl, hz3⟩ := p_30
      have hz4 : z30 = c.1 j + 1 := by
        rcases hz3 with ⟨-, u⟩ | ⟨j2, u1, u2, u3⟩
        · exact absurd ⟨j, hj, hrs⟩ u
        · rw [u3, nI_inj2 (by omega) (by omega) (hrs.symm.trans u2)]
      subst hz4
      try dsimp only [Option.toList, List.cons_append, List.nil_append]
      refine o_getf hC (fX7_152 hC rfl) dX7_cell_33 (by repeat (first | with_reducible assumption | (rw [rl_u_s]; done) | (rw [rl_u_s]; rfl) | rw [rl_u_n (by first | with_reducible assumption | omega)])) (by first | rfl | with_reducible assumption) ?_
      refine o_icmp_lt (tgt := 49) hC dX7_cell_36 (by decide) (fun c_36 => ?_) (fun c_36 => ?_)
      · refine o_aload_n hC dX7_cell_49 (by rfl) ?_
        refine o_getf hC (fX7_155 hC rfl) dX7_cell_50 (by repeat (first | with_reducible assumption | (rw [rl_u_s]; done) | (rw [rl_u_s]; rfl) | rw [rl_u_n (by first | with_reducible assumption | omega)])) (by first | rfl | with_reducible assumption) ?_
        refine o_iload_n hC dX7_cell_53 (by rfl) ?_
        obtain ⟨k0, hk0, rfl⟩ := nI_of_lt (k := rw) (by omega) c_21 (fun w => absurd c_36 (Int32.not_lt.mpr w))
        refine o_ialdN (t0 := 0) (k := k0) hC rfl dX7_cell_54 e2 (by omega) (by decide) ?_
        refine o_iretX hC hB dX7_cell_55 (Nat.le_of_ble_eq_true rfl) (Nat.le_of_ble_eq_true rfl) ?_
        exact ⟨_, rfl, rfl, rfl, t, k0, htl, rfl, hk0, rfl, by rw [← show rcl (S.1 i) rw = (ark res t).1 from congrArg Prod.fst er]; exact (rsg_get hk0).symm⟩
      · exact o_throwS (cls := "java/lang/IndexOutOfBoundsException") (text := "no such column") (names := rl_exn) (ik := 145) (is := 153) (ic := 149) hC hl hB hS hn0 (Nat.le_refl _) (by decide +kernel) (by decide +kernel) kX7_145 zIOB (hS.2.2.2.2.1 (153, "no such column") (by decide)) tg1 tg2 tg3 dX7_cell_39 dX7_cell_42 dX7_cell_43 dX7_cell_45 dX7_cell_48 (by decide) (by decide) (by decide) (by decide) (by exact hB.2.2.2.2.1) ⟨rfl, by first | exact (fun ⟨t0, k0, _, _, a, e⟩ => absurd c_21 (by rw [e]; exact nI_pos (by omega))) | exact (fun ⟨t0, k0, _, _, a, e⟩ => c_36 (by rw [e]; exact nI_lt a (by omega)))⟩

set_option maxHeartbeats 4000000 in
set_option maxRecDepth 100000 in
theorem cd_X7_way (l : Launch) (D : va_G) (ids : Nat → ClassId) (H0 : Heap) (h : rl_H) (n : Nat) (x L : Nat) (s : cl_S) (c : cl_N) (res : List arow) (rw : Nat) (q kk w : Int32) (hl : l.stackTraces = false) (hk : cl_ok ids h n x L s c) (hd : cl_dp ids h s c) (hr : cl_rs s c res rw) : rl_MetX l (rl_e D ids H0) rl_BW rl_Ns yX7_way cX7_way 5 (some .long) ({ frames := 6, cells := 1, slots := 6, locals := 90 }) [.ref x, .int q, .int kk, .int w] h n (fun v h' n' => ∃ r : Int64, v = some (.long r) ∧ h' = h ∧ n' = n ∧ ∃ t0 k0 : Nat, t0 < res.length ∧ q = nI t0 ∧ k0 < (ark res t0).2.length ∧ kk = nI k0 ∧ ((w = nI 0 ∧ r = (tfn (ark res t0).2 k0).1) ∨ (w = nI 1 ∧ r = (tfn (ark res t0).2 k0).2))) (fun C => (C = "java/lang/IndexOutOfBoundsException" ∧ ¬ (∃ t0 k0 : Nat, t0 < res.length ∧ q = nI t0 ∧ k0 < (ark res t0).2.length ∧ kk = nI k0)) ∨ (C = "java/lang/IllegalArgumentException" ∧ (∃ t0 k0 : Nat, t0 < res.length ∧ q = nI t0 ∧ k0 < (ark res t0).2.length ∧ kk = nI k0) ∧ w ≠ nI 0 ∧ w ≠ nI 1)) := by
  have nc16 := cl_nc hk
  have hc := hk.1
  obtain ⟨c1, c2, c3, ⟨pn, c4, c5⟩, ⟨pt, c6, c7⟩, c8, c9, c10, c11, c12, c13, c14, c15⟩ := id hc
  have htb := hr.tb hd (fun k hk9 => cl_wd hk hk9)
  have hle : ∀ t0 : Nat, t0 < res.length → (ark res t0).2.length ≤ 12 := cl_rs.wl htb
  refine rl_MetX.of (by decide +kernel) (Nat.le_of_ble_eq_true rfl) ?_
  intro X hC hB hS hn0
  show rl_G X (rl_e D ids H0) 0 [some (.ref x), some (.int q), some (.int kk), some (.int w), none] [] h n 0 0
  refine o_aload_n hC dX7_way_0 (by rfl) ?_
  refine o_iload_n hC dX7_way_1 (by rfl) ?_
  refine o_callV1 hC rl_BW_good rl_Ns_nw (by exact hB.2.2.2.2.1) YX7_resultTuple IX7_resultTuple VX7_resultTuple (mX7_141 hC) (by rw [hB.1]; exact cd_X7_resultTuple l D ids H0 _ _ x L s c res rw _ hk hd hr) (by exact c1) rfl rfl (Nat.le_of_ble_eq_true rfl) (by rw [hB.2.1]; first | exact Nat.le_of_ble_eq_true rfl | (dsimp only; omega)) (by rw [hB.2.1]; first | exact Nat.le_of_ble_eq_true rfl | (dsimp only; omega)) (by rw [hB.2.1]; first | exact Nat.le_of_ble_eq_true rfl | (dsimp only; omega)) (by rw [hB.2.1]; first | exact Nat.le_of_ble_eq_true rfl | (dsimp only; omega)) dX7_way_2 (fun v h_2 n_2 p_2 => ?_)
  obtain ⟨zv, rfl, rfl, rfl, hz⟩ := p_2
  try dsimp only [Option.toList, List.cons_append, List.nil_append]
  rcases hz with ⟨rfl, hz⟩ | ⟨t, j, i, htl, rfl, hj, hrs, hi, rfl, P, S, ht, er⟩
  · try dsimp only [Option.toList, List.cons_append, List.nil_append]
    refine o_astoreN hC dX7_way_5 (Nat.le_of_ble_eq_true rfl) ?_
    refine o_aloadN hC dX7_way_7 (by rfl) ?_
    refine o_ifnonnullN hC dX7_way_9 ?_
    exact o_throwS (cls := "java/lang/IndexOutOfBoundsException") (text := "no such tuple") (names := rl_exn) (ik := 145) (is := 147) (ic := 149) hC hl hB hS hn0 (Nat.le_refl _) (by decide +kernel) (by decide +kernel) kX7_145 zIOB (hS.2.2.2.2.1 (147, "no such tuple") (by decide)) tg1 tg2 tg3 dX7_way_12 dX7_way_15 dX7_way_16 dX7_way_18 dX7_way_21 (by decide) (by decide) (by decide) (by decide) (by exact hB.2.2.2.2.1) (Or.inl ⟨rfl, fun ⟨t0, k0, a, b, _⟩ => hz ⟨t0, a, b⟩⟩)
  · try dsimp only [Option.toList, List.cons_append, List.nil_append]
    obtain ⟨t1, ⟨tf, t2, t3⟩, t4, t5, t6, t7⟩ := id ht
    obtain ⟨e1, e2, e3⟩ := t5 i hi
    obtain ⟨w1, w2, w3, w4⟩ := id e3
    have ew : tls (S.2.1 i) (S.2.2.1 i) (S.2.2.2 i) = (ark res t).2 := congrArg Prod.snd er
    refine o_astore hC dX7_way_5 (Nat.le_of_ble_eq_true rfl) ?_
    refine o_aload hC dX7_way_7 (by rfl) ?_
    refine o_ifnonnull (tgt := 22) hC dX7_way_9 (by decide) ?_
    refine o_iload_n hC dX7_way_22 (by rfl) ?_
    refine o_if_lt (tgt := 38) hC dX7_way_23 (by decide) (fun c_23 => ?_) (fun c_23 => ?_)
    · have el : (ark res t).2.length = S.2.2.2 i := by rw [← ew, tls_len]
      exact o_throwS (cls := "java/lang/IndexOutOfBoundsException") (text := "no such term") (names := rl_exn) (ik := 145) (is := 164) (ic := 149) hC hl hB hS hn0 (Nat.le_refl _) (by decide +kernel) (by decide +kernel) kX7_145 zIOB (hS.2.2.2.2.1 (164, "no such term") (by decide)) tg1 tg2 tg3 dX7_way_38 dX7_way_41 dX7_way_42 dX7_way_44 dX7_way_47 (by decide) (by decide) (by decide) (by decide) (by exact hB.2.2.2.2.1) (Or.inl ⟨rfl, by first | exact (fun ⟨t0, k0, a0, b0, a, e⟩ => absurd c_23 (by have := hle t0 a0; rw [e]; exact nI_pos (by omega))) | exact (fun ⟨t0, k0, a0, b0, a, e⟩ => c_35 (by have := nI_inj2 (by omega) (by omega) b0; subst this; rw [e]; exact nI_lt (by omega) (by omega)))⟩)
    · refine o_iload_n hC dX7_way_26 (by rfl) ?_
      refine o_aload hC dX7_way_27 (by rfl) ?_
      refine o_getf hC (fX7_160 hC rfl) dX7_way_29 (by repeat (first | with_reducible assumption | (rw [rl_u_s]; done) | (rw [rl_u_s]; rfl) | rw [rl_u_n (by first | with_reducible assumption | omega)])) (by first | rfl | with_reducible assumption) ?_
      refine o_getf hC (fX7_163 hC rfl) dX7_way_32 (by repeat (first | with_reducible assumption | (rw [rl_u_s]; done) | (rw [rl_u_s]; rfl) | rw [rl_u_n (by first | with_reducible assumption | omega)])) (by first | rfl | with_reducible assumption) ?_
      refine o_icmp_lt (tgt := 48) hC dX7_way_35 (by decide) (fun c_35 => ?_) (fun c_35 => ?_)
      · refine o_iload_n hC dX7_way_48 (by rfl) ?_
        refine o_if_eq (tgt := 67) hC dX7_way_49 (by decide) (fun c_49 => ?_) (fun c_49 => ?_)
        · refine o_iload_n hC dX7_way_67 (by rfl) ?_
          refine o_if_ne (tgt := 84) hC dX7_way_68 (by decide) (fun c_68 => ?_) (fun c_68 => ?_)
          · refine o_aload hC dX7_way_84 (by rfl) ?_
            refine o_getf hC (fX7_160 hC rfl) dX7_way_86 (by repeat (first | with_reducible assumption | (rw [rl_u_s]; done) | (rw [rl_u_s]; rfl) | rw [rl_u_n (by first | with_reducible assumption | omega)])) (by first | rfl | with_reducible assumption) ?_
            refine o_getf hC (fX7_175 hC rfl) dX7_way_89 (by repeat (first | with_reducible assumption | (rw [rl_u_s]; done) | (rw [rl_u_s]; rfl) | rw [rl_u_n (by first | with_reducible assumption | omega)])) (by first | rfl | with_reducible assumption) ?_
            refine o_iload_n hC dX7_way_92 (by rfl) ?_
            have el : (ark res t).2.length = S.2.2.2 i := by rw [← ew, tls_len]
            obtain ⟨k0, hk0, rfl⟩ := nI_of_lt (k := S.2.2.2 i) (by omega) c_23 (fun w => absurd c_35 (Int32.not_lt.mpr w))
            refine o_laldN (t0 := 1) (k := k0) hC rfl dX7_way_93 w3 (by omega) (by decide) ?_
            refine o_lretX hC hB dX7_way_94 (Nat.le_of_ble_eq_true rfl) (Nat.le_of_ble_eq_true rfl) ?_
            first
            | exact ⟨_, rfl, rfl, rfl, t, k0, htl, rfl, by omega, rfl, Or.inl ⟨c_68, by rw [← ew, tfn_tls hk0]⟩⟩
            | exact ⟨_, rfl, rfl, rfl, t, k0, htl, rfl, by omega, rfl, Or.inr ⟨c_54, by rw [← ew, tfn_tls hk0]⟩⟩
            | exact absurd c_49 c_68
          · refine o_aload hC dX7_way_71 (by rfl) ?_
            refine o_getf hC (fX7_160 hC rfl) dX7_way_73 (by repeat (first | with_reducible assumption | (rw [rl_u_s]; done) | (rw [rl_u_s]; rfl) | rw [rl_u_n (by first | with_reducible assumption | omega)])) (by first | rfl | with_reducible assumption) ?_
            refine o_getf hC (fX7_171 hC rfl) dX7_way_76 (by repeat (first | with_reducible assumption | (rw [rl_u_s]; done) | (rw [rl_u_s]; rfl) | rw [rl_u_n (by first | with_reducible assumption | omega)])) (by first | rfl | with_reducible assumption) ?_
            refine o_iload_n hC dX7_way_79 (by rfl) ?_
            have el : (ark res t).2.length = S.2.2.2 i := by rw [← ew, tls_len]
            obtain ⟨k0, hk0, rfl⟩ := nI_of_lt (k := S.2.2.2 i) (by omega) c_23 (fun w => absurd c_35 (Int32.not_lt.mpr w))
            refine o_laldN (t0 := 1) (k := k0) hC rfl dX7_way_80 w2 (by omega) (by decide) ?_
            refine o_goto (tgt := 94) hC dX7_way_81 (by decide) ?_
            refine o_lretX hC hB dX7_way_94 (Nat.le_of_ble_eq_true rfl) (Nat.le_of_ble_eq_true rfl) ?_
            first
            | exact ⟨_, rfl, rfl, rfl, t, k0, htl, rfl, by omega, rfl, Or.inl ⟨c_68, by rw [← ew, tfn_tls hk0]⟩⟩
            | exact ⟨_, rfl, rfl, rfl, t, k0, htl, rfl, by omega, rfl, Or.inr ⟨c_54, by rw [← ew, tfn_tls hk0]⟩⟩
            | exact absurd c_49 c_68
        · refine o_iload_n hC dX7_way_52 (by rfl) ?_
          refine o_iconst (v := nI 1) hC dX7_way_53 (by decide +kernel) ?_
          refine o_icmp_eq (tgt := 67) hC dX7_way_54 (by decide) (fun c_54 => ?_) (fun c_54 => ?_)
          · refine o_iload_n hC dX7_way_67 (by rfl) ?_
            refine o_if_ne (tgt := 84) hC dX7_way_68 (by decide) (fun c_68 => ?_) (fun c_68 => ?_)
            · refine o_aload hC dX7_way_84 (by rfl) ?_
              refine o_getf hC (fX7_160 hC rfl) dX7_way_86 (by repeat (first | with_reducible assumption | (rw [rl_u_s]; done) | (rw [rl_u_s]; rfl) | rw [rl_u_n (by first | with_reducible assumption | omega)])) (by first | rfl | with_reducible assumption) ?_
              refine o_getf hC (fX7_175 hC rfl) dX7_way_89 (by repeat (first | with_reducible assumption | (rw [rl_u_s]; done) | (rw [rl_u_s]; rfl) | rw [rl_u_n (by first | with_reducible assumption | omega)])) (by first | rfl | with_reducible assumption) ?_
              refine o_iload_n hC dX7_way_92 (by rfl) ?_
              have el : (ark res t).2.length = S.2.2.2 i := by rw [← ew, tls_len]
              obtain ⟨k0, hk0, rfl⟩ := nI_of_lt (k := S.2.2.2 i) (by omega) c_23 (fun w => absurd c_35 (Int32.not_lt.mpr w))
              refine o_laldN (t0 := 1) (k := k0) hC rfl dX7_way_93 w3 (by omega) (by decide) ?_
              refine o_lretX hC hB dX7_way_94 (Nat.le_of_ble_eq_true rfl) (Nat.le_of_ble_eq_true rfl) ?_
              first
              | exact ⟨_, rfl, rfl, rfl, t, k0, htl, rfl, by omega, rfl, Or.inl ⟨c_68, by rw [← ew, tfn_tls hk0]⟩⟩
              | exact ⟨_, rfl, rfl, rfl, t, k0, htl, rfl, by omega, rfl, Or.inr ⟨c_54, by rw [← ew, tfn_tls hk0]⟩⟩
              | exact absurd c_49 c_68
            · refine o_aload hC dX7_way_71 (by rfl) ?_
              refine o_getf hC (fX7_160 hC rfl) dX7_way_73 (by repeat (first | with_reducible assumption | (rw [rl_u_s]; done) | (rw [rl_u_s]; rfl) | rw [rl_u_n (by first | with_reducible assumption | omega)])) (by first | rfl | with_reducible assumption) ?_
              refine o_getf hC (fX7_171 hC rfl) dX7_way_76 (by repeat (first | with_reducible assumption | (rw [rl_u_s]; done) | (rw [rl_u_s]; rfl) | rw [rl_u_n (by first | with_reducible assumption | omega)])) (by first | rfl | with_reducible assumption) ?_
              refine o_iload_n hC dX7_way_79 (by rfl) ?_
              have el : (ark res t).2.length = S.2.2.2 i := by rw [← ew, tls_len]
              obtain ⟨k0, hk0, rfl⟩ := nI_of_lt (k := S.2.2.2 i) (by omega) c_23 (fun w => absurd c_35 (Int32.not_lt.mpr w))
              refine o_laldN (t0 := 1) (k := k0) hC rfl dX7_way_80 w2 (by omega) (by decide) ?_
              refine o_goto (tgt := 94) hC dX7_way_81 (by decide) ?_
              refine o_lretX hC hB dX7_way_94 (Nat.le_of_ble_eq_true rfl) (Nat.le_of_ble_eq_true rfl) ?_
              first
              | exact ⟨_, rfl, rfl, rfl, t, k0, htl, rfl, by omega, rfl, Or.inl ⟨c_68, by rw [← ew, tfn_tls hk0]⟩⟩
              | exact ⟨_, rfl, rfl, rfl, t, k0, htl, rfl, by omega, rfl, Or.inr ⟨c_54, by rw [← ew, tfn_tls hk0]⟩⟩
              | exact absurd c_49 c_68
          · have el : (ark res t).2.length = S.2.2.2 i := by rw [← ew, tls_len]
            have hok : (∃ t0 k0 : Nat, t0 < res.length ∧ nI t = nI t0 ∧ k0 < (ark res t0).2.length ∧ kk = nI k0) := by
              obtain ⟨k0, hk0, e9⟩ := nI_of_lt (k := S.2.2.2 i) (by omega) c_23 (fun w => absurd c_35 (Int32.not_lt.mpr w))
              exact ⟨t, k0, htl, rfl, by omega, e9⟩
            exact o_throwS (cls := "java/lang/IllegalArgumentException") (text := "what is 0 or 1") (names := rl_exn) (ik := 166) (is := 168) (ic := 170) hC hl hB hS hn0 (Nat.le_refl _) (by decide +kernel) (by decide +kernel) kX7_166 zIAE (hS.2.2.2.2.1 (168, "what is 0 or 1") (by decide)) th1 th2 th3 dX7_way_57 dX7_way_60 dX7_way_61 dX7_way_63 dX7_way_66 (by decide) (by decide) (by decide) (by decide) (by exact hB.2.2.2.2.1) (Or.inr ⟨rfl, hok, c_49, c_54⟩)
      · have el : (ark res t).2.length = S.2.2.2 i := by rw [← ew, tls_len]
        exact o_throwS (cls := "java/lang/IndexOutOfBoundsException") (text := "no such term") (names := rl_exn) (ik := 145) (is := 164) (ic := 149) hC hl hB hS hn0 (Nat.le_refl _) (by decide +kernel) (by decide +kernel) kX7_145 zIOB (hS.2.2.2.2.1 (164, "no such term") (by decide)) tg1 tg2 tg3 dX7_way_38 dX7_way_41 dX7_way_42 dX7_way_44 dX7_way_47 (by decide) (by decide) (by decide) (by decide) (by exact hB.2.2.2.2.1) (Or.inl ⟨rfl, by first | exact (fun ⟨t0, k0, a0, b0, a, e⟩ => absurd c_23 (by have := hle t0 a0; rw [e]; exact nI_pos (by omega))) | exact (fun ⟨t0, k0, a0, b0, a, e⟩ => c_35 (by have := nI_inj2 (by omega) (by omega) b0; subst this; rw [e]; exact nI_lt (by omega) (by omega)))⟩)

set_option maxHeartbeats 4000000 in
set_option maxRecDepth 100000 in
theorem cd_L_cell (l : Launch) (D : va_G) (ids : Nat → ClassId) (H0 : Heap) (h : rl_H) (n : Nat) (x ou L : Nat) (s : cl_S) (c : cl_N) (res : List arow) (rw : Nat) (of : Nat → Int64) (q kk : Int32) (hl : l.stackTraces = false) (hk : cl_ok ids h n x L s c) (hd : cl_dp ids h s c) (hr : cl_rs s c res rw) (hou : h ou = some (.inl (ids 1, 1, .inr (.inl of)))) : rl_MetW l (rl_e D ids H0) rl_BW rl_Ns yL_cell cL_cell 5 (some .int) [(0, 10, 13, 13)] ({ frames := 7, cells := 1, slots := 6, locals := 113 }) [.ref x, .int q, .int kk, .ref ou] h n (fun v h' n' => ∃ r : Int32, v = some (.int r) ∧ n ≤ n' ∧ (∀ q : Nat, q ≠ ou → h' q = h q) ∧ (∃ f : Nat → Int64, h' ou = some (.inl (ids 1, 1, .inr (.inl f))) ∧ ((¬ (∃ t0 k0 : Nat, t0 < res.length ∧ q = nI t0 ∧ k0 < rw ∧ kk = nI k0) ∧ r = nI 1) ∨ (r = nI 0 ∧ ∃ cv : Int32, f 0 = cv.toInt64 ∧ ∃ t0 k0 : Nat, t0 < res.length ∧ q = nI t0 ∧ k0 < rw ∧ kk = nI k0 ∧ cv = (ark res t0).1.getD k0 0)))) := by
  have hc := hk.1
  refine rl_MetW.of (by decide +kernel) (Nat.le_of_ble_eq_true rfl) ?_
  intro X hC hB hS ht0
  have ht : X.2.1.2.2.2.2.exceptionTable.toList = { startPc := 0, endPc := 10, handlerPc := 13, catchType := 13 } :: [] := ht0
  show rl_G X (rl_e D ids H0) 0 [some (.ref x), some (.int q), some (.int kk), some (.ref ou), none] [] h n 0 0
  refine o_aload_n hC dL_cell_0 (by rfl) ?_
  refine o_iconst (v := nI 0) hC dL_cell_1 (by decide +kernel) ?_
  refine o_aload_n hC dL_cell_2 (by rfl) ?_
  refine o_iload_n hC dL_cell_3 (by rfl) ?_
  refine o_iload_n hC dL_cell_4 (by rfl) ?_
  refine o_callVXp (As := [.int q, .int kk]) (rest := [.int (nI 0), .ref ou]) (x := { startPc := 0, endPc := 10, handlerPc := 13, catchType := 13 }) (suf := []) (nm := "java/lang/IndexOutOfBoundsException") hC rl_BW_good rl_Ns_nw hS (by exact hB.2.2.2.2.2) YX7_cell IX7_cell VX7_cell lL_xcell (by rw [hB.1]; exact cd_X7_cell l D ids H0 h n x L s c res rw q kk hl hk hd hr) hc.1 rfl rfl (Nat.le_of_ble_eq_true rfl) (by rw [hB.2.1]; first | exact Nat.le_of_ble_eq_true rfl | (dsimp only; omega)) (by rw [hB.2.1]; first | exact Nat.le_of_ble_eq_true rfl | (dsimp only; omega)) (by rw [hB.2.1]; first | exact Nat.le_of_ble_eq_true rfl | (dsimp only; omega)) (by rw [hB.2.1]; first | exact Nat.le_of_ble_eq_true rfl | (dsimp only; omega)) dL_cell_5 ht (by decide) (by decide) kL_13 (fun F hF => by rw [hF.1]; exact xIOB) (fun q9 n2 hn2 hp => ?_) (fun v h2 n2 p => ?_)
  · have hnok : ¬ (∃ t0 k0 : Nat, t0 < res.length ∧ q = nI t0 ∧ k0 < rw ∧ kk = nI k0) := by
      obtain ⟨F, hF⟩ := hp
      exact hF.2
    refine o_astore hC dL_cell_13 (Nat.le_of_ble_eq_true rfl) ?_
    refine o_iconst (v := nI 1) hC dL_cell_15 (by decide +kernel) ?_
    refine o_iret hC hB dL_cell_16 (Nat.le_of_ble_eq_true rfl) (Nat.le_of_ble_eq_true rfl) ?_
    exact ⟨_, rfl, hn2, fun _ _ => rfl, _, hou, Or.inl ⟨hnok, rfl⟩⟩
  · obtain ⟨r, rfl, rfl, rfl, t0, k0, z1, z2, z3, z4, z5⟩ := p
    try dsimp only [Option.toList, List.cons_append, List.nil_append]
    refine o_i2l hC dL_cell_8 ?_
    refine o_lastN (t0 := 1) (k := 0) hC rfl dL_cell_9 hou (by decide) (by decide) ?_
    refine o_goto (tgt := 17) hC dL_cell_10 (by decide) ?_
    refine o_iconst (v := nI 0) hC dL_cell_17 (by decide +kernel) ?_
    refine o_iret hC hB dL_cell_18 (Nat.le_of_ble_eq_true rfl) (Nat.le_of_ble_eq_true rfl) ?_
    exact ⟨_, rfl, Nat.le_refl _, fun q hq => rl_u_n hq, _, rl_u_s, Or.inr ⟨rfl, r, if_pos rfl, t0, k0, z1, z2, z3, z4, z5⟩⟩

set_option maxHeartbeats 4000000 in
set_option maxRecDepth 100000 in
theorem cd_L_way (l : Launch) (D : va_G) (ids : Nat → ClassId) (H0 : Heap) (h : rl_H) (n : Nat) (x ou L : Nat) (s : cl_S) (c : cl_N) (res : List arow) (rw : Nat) (of : Nat → Int64) (q kk w : Int32) (hl : l.stackTraces = false) (hk : cl_ok ids h n x L s c) (hd : cl_dp ids h s c) (hr : cl_rs s c res rw) (hou : h ou = some (.inl (ids 1, 1, .inr (.inl of)))) : rl_MetW l (rl_e D ids H0) rl_BW rl_Ns yL_way cL_way 6 (some .int) [(0, 11, 14, 13), (0, 11, 18, 19)] ({ frames := 7, cells := 1, slots := 6, locals := 114 }) [.ref x, .int q, .int kk, .int w, .ref ou] h n (fun v h' n' => ∃ r : Int32, v = some (.int r) ∧ n ≤ n' ∧ (∀ q : Nat, q ≠ ou → h' q = h q) ∧ (∃ f : Nat → Int64, h' ou = some (.inl (ids 1, 1, .inr (.inl f))) ∧ ((¬ (∃ t0 k0 : Nat, t0 < res.length ∧ q = nI t0 ∧ k0 < (ark res t0).2.length ∧ kk = nI k0) ∧ r = nI 1) ∨ ((∃ t0 k0 : Nat, t0 < res.length ∧ q = nI t0 ∧ k0 < (ark res t0).2.length ∧ kk = nI k0) ∧ w ≠ nI 0 ∧ w ≠ nI 1 ∧ r = nI 2) ∨ (r = nI 0 ∧ ∃ t0 k0 : Nat, t0 < res.length ∧ q = nI t0 ∧ k0 < (ark res t0).2.length ∧ kk = nI k0 ∧ ((w = nI 0 ∧ f 0 = (tfn (ark res t0).2 k0).1) ∨ (w = nI 1 ∧ f 0 = (tfn (ark res t0).2 k0).2)))))) := by
  have hc := hk.1
  refine rl_MetW.of (by decide +kernel) (Nat.le_of_ble_eq_true rfl) ?_
  intro X hC hB hS ht0
  have ht : X.2.1.2.2.2.2.exceptionTable.toList = { startPc := 0, endPc := 11, handlerPc := 14, catchType := 13 } :: [{ startPc := 0, endPc := 11, handlerPc := 18, catchType := 19 }] := ht0
  show rl_G X (rl_e D ids H0) 0 [some (.ref x), some (.int q), some (.int kk), some (.int w), some (.ref ou), none] [] h n 0 0
  refine o_aload hC dL_way_0 (by rfl) ?_
  refine o_iconst (v := nI 0) hC dL_way_2 (by decide +kernel) ?_
  refine o_aload_n hC dL_way_3 (by rfl) ?_
  refine o_iload_n hC dL_way_4 (by rfl) ?_
  refine o_iload_n hC dL_way_5 (by rfl) ?_
  refine o_iload_n hC dL_way_6 (by rfl) ?_
  refine o_callVYp (P1 := fun F => F = "java/lang/IndexOutOfBoundsException") (As := [.int q, .int kk, .int w]) (rest := [.int (nI 0), .ref ou]) (x := { startPc := 0, endPc := 11, handlerPc := 14, catchType := 13 }) (x2 := { startPc := 0, endPc := 11, handlerPc := 18, catchType := 19 }) (suf := []) (nm := "java/lang/IndexOutOfBoundsException") (nm2 := "java/lang/IllegalArgumentException") hC rl_BW_good rl_Ns_nw hS (by exact hB.2.2.2.2.2) YX7_way IX7_way VX7_way lL_xway (by rw [hB.1]; exact cd_X7_way l D ids H0 h n x L s c res rw q kk w hl hk hd hr) hc.1 rfl rfl (Nat.le_of_ble_eq_true rfl) (by rw [hB.2.1]; first | exact Nat.le_of_ble_eq_true rfl | (dsimp only; omega)) (by rw [hB.2.1]; first | exact Nat.le_of_ble_eq_true rfl | (dsimp only; omega)) (by rw [hB.2.1]; first | exact Nat.le_of_ble_eq_true rfl | (dsimp only; omega)) (by rw [hB.2.1]; first | exact Nat.le_of_ble_eq_true rfl | (dsimp only; omega)) dL_way_7 ht (by decide) (by decide) kL_13 (by decide) (by decide) kL_19 (fun F hF => by (rcases hF with ⟨e, -⟩ | ⟨e, -⟩); (exact Or.inl ⟨e, by rw [e]; exact xIOB⟩); (exact Or.inr ⟨⟨e, rfl⟩, by rw [e]; exact xIAE⟩)) (fun q9 n2 hn2 hp => ?_) (fun q9 n2 hn2 hp => ?_) (fun v h2 n2 p => ?_)
  · have hnok : ¬ (∃ t0 k0 : Nat, t0 < res.length ∧ q = nI t0 ∧ k0 < (ark res t0).2.length ∧ kk = nI k0) := by
      obtain ⟨F, hF, e⟩ := hp
      rcases hF with ⟨-, u⟩ | ⟨u, -⟩
      · exact u
      · exact absurd (e.symm.trans u) (by decide +kernel)
    refine o_astore hC dL_way_14 (Nat.le_of_ble_eq_true rfl) ?_
    refine o_iconst (v := nI 1) hC dL_way_16 (by decide +kernel) ?_
    refine o_iret hC hB dL_way_17 (Nat.le_of_ble_eq_true rfl) (Nat.le_of_ble_eq_true rfl) ?_
    exact ⟨_, rfl, hn2, fun _ _ => rfl, _, hou, Or.inl ⟨hnok, rfl⟩⟩
  · have hok2 : (∃ t0 k0 : Nat, t0 < res.length ∧ q = nI t0 ∧ k0 < (ark res t0).2.length ∧ kk = nI k0) ∧ w ≠ nI 0 ∧ w ≠ nI 1 := by
      rcases hp with ⟨u, -⟩ | ⟨-, u⟩
      · exact absurd u (by decide +kernel)
      · exact u
    refine o_astore hC dL_way_18 (Nat.le_of_ble_eq_true rfl) ?_
    refine o_iconst (v := nI 2) hC dL_way_20 (by decide +kernel) ?_
    refine o_iret hC hB dL_way_21 (Nat.le_of_ble_eq_true rfl) (Nat.le_of_ble_eq_true rfl) ?_
    exact ⟨_, rfl, hn2, fun _ _ => rfl, _, hou, Or.inr (Or.inl ⟨hok2.1, hok2.2.1, hok2.2.2, rfl⟩)⟩
  · obtain ⟨r, rfl, rfl, rfl, t0, k0, z1, z2, z3, z4, z5⟩ := p
    try dsimp only [Option.toList, List.cons_append, List.nil_append]
    refine o_lastN (t0 := 1) (k := 0) hC rfl dL_way_10 hou (by decide) (by decide) ?_
    refine o_goto (tgt := 22) hC dL_way_11 (by decide) ?_
    refine o_iconst (v := nI 0) hC dL_way_22 (by decide +kernel) ?_
    refine o_iret hC hB dL_way_23 (Nat.le_of_ble_eq_true rfl) (Nat.le_of_ble_eq_true rfl) ?_
    exact ⟨_, rfl, Nat.le_refl _, fun q hq => rl_u_n hq, _, rl_u_s, Or.inr (Or.inr ⟨rfl, t0, k0, z1, z2, z3, z4, by rw [show vp_updL of 0 r 0 = r from if_pos rfl]; exact z5⟩)⟩
end
section
/-! THE MODEL, functionally: cell, way, thrown -/

set_option maxHeartbeats 4000000 in
set_option maxRecDepth 100000 in
theorem cf_X8_cell (l : Launch) (D : va_G) (ids : Nat → ClassId) (H0 : Heap) (h : rl_H) (n : Nat) (m : Nat) (T : md_T) (fu : Int32) (k : Nat) (A : md_D) (S : md_A) (z : sh_S) (res : List arow) (rw : Nat) (q kk : Int32) (hq : mf ids h h m T fu k A) (hu : md_un ids h m T fu k S z) (hr : mrs A T res rw)  : rl_Met l (rl_e D ids H0) rl_BW rl_Ns yX8_cell cX8_cell 3 (some .int) ({ frames := 1, cells := 0, slots := 0, locals := 23 }) [.ref m, .int q, .int kk] h n (fun v h' n' => ∃ (r cd : Int32), v = some (.int r) ∧ n' = n ∧ mf ids h h' m (cd, T.2) fu k A ∧ ((¬ (∃ t0 k0 : Nat, t0 < res.length ∧ q = nI t0 ∧ k0 < rw ∧ kk = nI k0) ∧ cd = nI 1) ∨ (cd = nI 0 ∧ ∃ t0 k0 : Nat, t0 < res.length ∧ q = nI t0 ∧ k0 < rw ∧ kk = nI k0 ∧ r = (ark res t0).1.getD k0 0))) := by
  obtain ⟨hm0, g12, g13, g14, g15, g16, g17, g18, g19, g20, g21, g22⟩ := id hq
  have g0 := hm0.1
  have gk := hm0.2.1
  have b13 := hq.b13
  have b15 := hq.b15
  have b21 := hq.b21
  have hq0 := hq.ob (nI 0, T.2) fu k gk
  have r80 := hr.2.1.2.2
  have h16 := hr.1.1
  refine rl_Met.of (by decide +kernel) (Nat.le_of_ble_eq_true rfl) ?_
  intro X hC hB
  show rl_G X (rl_e D ids H0) 0 [some (.ref m), some (.int q), some (.int kk)] [] h n 0 0
  refine o_aload_n hC dX8_cell_0 (by rfl) ?_
  refine o_iconst (v := nI 0) hC dX8_cell_1 (by decide +kernel) ?_
  refine o_putf hC (fX8_78 hC rfl) (fwX8 rfl rfl rfl (Or.inl rfl)) dX8_cell_2 (by repeat (first | with_reducible assumption | (rw [rl_u_s]; done) | (rw [rl_u_s]; rfl) | rw [rl_u_n (by first | with_reducible assumption | omega)])) (Nat.le_of_ble_eq_true rfl) ?_
  try simp only [List.set_cons_zero, List.set_cons_succ]
  refine o_aload_n hC dX8_cell_5 (by rfl) ?_
  refine o_iload_n hC dX8_cell_6 (by rfl) ?_
  refine o_callV1 hC rl_BW_good rl_Ns_nw (by exact hB.2.2.2.2.2) YX8_isTuple IX8_isTuple VX8_isTuple (mX8_199 hC) (by rw [hB.1]; exact ct_X8_isTuple l D ids H0 _ _ m (m + 13) _ _ A.2.1 (by repeat (first | with_reducible assumption | (rw [rl_u_s]; done) | (rw [rl_u_s]; rfl) | rw [rl_u_n (by first | with_reducible assumption | omega)])) rfl (by repeat (first | with_reducible assumption | (rw [rl_u_s]; done) | (rw [rl_u_s]; rfl) | rw [rl_u_n (by first | with_reducible assumption | omega)]))) (by repeat (first | with_reducible assumption | (rw [rl_u_s]; done) | (rw [rl_u_s]; rfl) | rw [rl_u_n (by first | with_reducible assumption | omega)])) rfl rfl (Nat.le_of_ble_eq_true rfl) (by rw [hB.2.1]; first | exact Nat.le_of_ble_eq_true rfl | (dsimp only; omega)) (by rw [hB.2.1]; first | exact Nat.le_of_ble_eq_true rfl | (dsimp only; omega)) (by rw [hB.2.1]; first | exact Nat.le_of_ble_eq_true rfl | (dsimp only; omega)) (by rw [hB.2.1]; first | exact Nat.le_of_ble_eq_true rfl | (dsimp only; omega)) dX8_cell_7 (fun v h_7 n_7 p_7 => ?_)
  obtain ⟨rfl, rfl, rfl⟩ := p_7
  try dsimp only [Option.toList, List.cons_append, List.nil_append]
  by_cases hr9 : q < 0 ∨ A.2.1 16 ≤ q
  · rw [if_pos hr9]
    have nin : ¬ (∃ t : Nat, t < res.length ∧ q = nI t) := fun ⟨t, ht, e⟩ => hr9.elim (fun u => absurd u (by rw [e]; exact nI_pos (by omega))) (fun u => absurd u (by rw [h16, e]; exact nI_ge ht (by omega)))
    refine o_if_eq (tgt := 25) hC dX8_cell_10 (by decide) (fun c_10 => ?_) (fun c_10 => ?_)
    · refine o_aload_n hC dX8_cell_25 (by rfl) ?_
      refine o_iconst (v := nI 1) hC dX8_cell_26 (by decide +kernel) ?_
      refine o_putf hC (fX8_78 hC rfl) (fwX8 rfl rfl rfl (Or.inl rfl)) dX8_cell_27 (by repeat (first | with_reducible assumption | (rw [rl_u_s]; done) | (rw [rl_u_s]; rfl) | rw [rl_u_n (by first | with_reducible assumption | omega)])) (Nat.le_of_ble_eq_true rfl) ?_
      try simp only [List.set_cons_zero, List.set_cons_succ]
      refine o_iconst (v := nI 0) hC dX8_cell_30 (by decide +kernel) ?_
      refine o_iret hC hB dX8_cell_31 (Nat.le_of_ble_eq_true rfl) (Nat.le_of_ble_eq_true rfl) ?_
      exact ⟨_, _, rfl, rfl, (hq0.ob (nI 1, T.2) fu k gk), Or.inl ⟨fun ⟨t0, k0, a, b, _⟩ => nin ⟨t0, a, b⟩, rfl⟩⟩
    · exact absurd rfl c_10
  · rw [if_neg hr9]
    obtain ⟨t, htl, rfl⟩ := nI_of_lt (k := res.length) (by omega) (fun e => hr9 (Or.inl e)) (fun e => hr9 (Or.inr (by rw [h16]; exact e)))
    have ht : t < 80 := by omega
    have hrw := hr.1.2 t htl
    have hws : mws A (1280 + t) (ark res t).2 := hrw.2
    have g00 := hq0.1.1
    have hne : res ≠ [] := fun e => by rw [e] at htl; exact absurd htl (Nat.not_lt_zero t)
    have hrc : T.2.2.2.2.2.1 = nI rw := hr.2.2.2 hne
    have rw6 := hr.2.2.1
    refine o_if_eq (tgt := 25) hC dX8_cell_10 (by decide) (fun c_10 => ?_) (fun c_10 => ?_)
    · refine o_aload_n hC dX8_cell_25 (by rfl) ?_
      refine o_iconst (v := nI 1) hC dX8_cell_26 (by decide +kernel) ?_
      refine o_putf hC (fX8_78 hC rfl) (fwX8 rfl rfl rfl (Or.inl rfl)) dX8_cell_27 (by repeat (first | with_reducible assumption | (rw [rl_u_s]; done) | (rw [rl_u_s]; rfl) | rw [rl_u_n (by first | with_reducible assumption | omega)])) (Nat.le_of_ble_eq_true rfl) ?_
      try simp only [List.set_cons_zero, List.set_cons_succ]
      refine o_iconst (v := nI 0) hC dX8_cell_30 (by decide +kernel) ?_
      refine o_iret hC hB dX8_cell_31 (Nat.le_of_ble_eq_true rfl) (Nat.le_of_ble_eq_true rfl) ?_
      first
      | exact absurd c_10 (by decide +kernel)
      | exact ⟨_, _, rfl, rfl, (hq0.ob (nI 1, T.2) fu k gk), Or.inl ⟨by first | exact (fun ⟨t0, k0, _, _, a, e⟩ => absurd c_14 (by rw [e]; exact nI_pos (by omega))) | exact (fun ⟨t0, k0, _, _, a, e⟩ => c_22 (by rw [hrc, e]; exact nI_lt a (by omega))), rfl⟩⟩
    · refine o_iload_n hC dX8_cell_13 (by rfl) ?_
      refine o_if_lt (tgt := 25) hC dX8_cell_14 (by decide) (fun c_14 => ?_) (fun c_14 => ?_)
      · refine o_aload_n hC dX8_cell_25 (by rfl) ?_
        refine o_iconst (v := nI 1) hC dX8_cell_26 (by decide +kernel) ?_
        refine o_putf hC (fX8_78 hC rfl) (fwX8 rfl rfl rfl (Or.inl rfl)) dX8_cell_27 (by repeat (first | with_reducible assumption | (rw [rl_u_s]; done) | (rw [rl_u_s]; rfl) | rw [rl_u_n (by first | with_reducible assumption | omega)])) (Nat.le_of_ble_eq_true rfl) ?_
        try simp only [List.set_cons_zero, List.set_cons_succ]
        refine o_iconst (v := nI 0) hC dX8_cell_30 (by decide +kernel) ?_
        refine o_iret hC hB dX8_cell_31 (Nat.le_of_ble_eq_true rfl) (Nat.le_of_ble_eq_true rfl) ?_
        first
        | exact absurd c_10 (by decide +kernel)
        | exact ⟨_, _, rfl, rfl, (hq0.ob (nI 1, T.2) fu k gk), Or.inl ⟨by first | exact (fun ⟨t0, k0, _, _, a, e⟩ => absurd c_14 (by rw [e]; exact nI_pos (by omega))) | exact (fun ⟨t0, k0, _, _, a, e⟩ => c_22 (by rw [hrc, e]; exact nI_lt a (by omega))), rfl⟩⟩
      · refine o_iload_n hC dX8_cell_17 (by rfl) ?_
        refine o_aload_n hC dX8_cell_18 (by rfl) ?_
        refine o_getf hC (fX8_196 hC rfl) dX8_cell_19 (by repeat (first | with_reducible assumption | (rw [rl_u_s]; done) | (rw [rl_u_s]; rfl) | rw [rl_u_n (by first | with_reducible assumption | omega)])) (by first | rfl | with_reducible assumption) ?_
        refine o_icmp_lt (tgt := 32) hC dX8_cell_22 (by decide) (fun c_22 => ?_) (fun c_22 => ?_)
        · obtain ⟨c0, hc0, rfl⟩ := nI_of_lt (k := rw) (by omega) c_14 (fun e => absurd c_22 (by rw [hrc]; exact Int32.not_lt.mpr e))
          refine o_aload_n hC dX8_cell_32 (by rfl) ?_
          refine o_bipush (v := nI 16) hC dX8_cell_33 (by decide +kernel) ?_
          refine o_iload_n hC dX8_cell_35 (by rfl) ?_
          refine o_iload_n hC dX8_cell_36 (by rfl) ?_
          refine o_callV3 hC rl_BW_good rl_Ns_nw (by exact hB.2.2.2.2.2) YX8_cellAt IX8_cellAt VX8_cellAt (mX8_138 hC) (by rw [hB.1]; exact cf_X8_cellAt l D ids H0 _ _ m _ _ _ _ 16 t c0 hq0.rf (by omega)) (by exact hq0.1.1) rfl rfl (Nat.le_of_ble_eq_true rfl) (by rw [hB.2.1]; first | exact Nat.le_of_ble_eq_true rfl | (dsimp only; omega)) (by rw [hB.2.1]; first | exact Nat.le_of_ble_eq_true rfl | (dsimp only; omega)) (by rw [hB.2.1]; first | exact Nat.le_of_ble_eq_true rfl | (dsimp only; omega)) (by rw [hB.2.1]; first | exact Nat.le_of_ble_eq_true rfl | (dsimp only; omega)) dX8_cell_37 (fun v h_37 n_37 p_37 => ?_)
          obtain ⟨rfl, rfl, rfl⟩ := p_37
          try dsimp only [Option.toList, List.cons_append, List.nil_append]
          refine o_iret hC hB dX8_cell_40 (Nat.le_of_ble_eq_true rfl) (Nat.le_of_ble_eq_true rfl) ?_
          exact ⟨_, _, rfl, rfl, hq0, Or.inr ⟨rfl, t, c0, htl, rfl, hc0, rfl, by rw [← hrw.1]; exact (rsg_get hc0).symm⟩⟩
        · refine o_aload_n hC dX8_cell_25 (by rfl) ?_
          refine o_iconst (v := nI 1) hC dX8_cell_26 (by decide +kernel) ?_
          refine o_putf hC (fX8_78 hC rfl) (fwX8 rfl rfl rfl (Or.inl rfl)) dX8_cell_27 (by repeat (first | with_reducible assumption | (rw [rl_u_s]; done) | (rw [rl_u_s]; rfl) | rw [rl_u_n (by first | with_reducible assumption | omega)])) (Nat.le_of_ble_eq_true rfl) ?_
          try simp only [List.set_cons_zero, List.set_cons_succ]
          refine o_iconst (v := nI 0) hC dX8_cell_30 (by decide +kernel) ?_
          refine o_iret hC hB dX8_cell_31 (Nat.le_of_ble_eq_true rfl) (Nat.le_of_ble_eq_true rfl) ?_
          first
          | exact absurd c_10 (by decide +kernel)
          | exact ⟨_, _, rfl, rfl, (hq0.ob (nI 1, T.2) fu k gk), Or.inl ⟨by first | exact (fun ⟨t0, k0, _, _, a, e⟩ => absurd c_14 (by rw [e]; exact nI_pos (by omega))) | exact (fun ⟨t0, k0, _, _, a, e⟩ => c_22 (by rw [hrc, e]; exact nI_lt a (by omega))), rfl⟩⟩

set_option maxHeartbeats 4000000 in
set_option maxRecDepth 100000 in
theorem cf_X8_way (l : Launch) (D : va_G) (ids : Nat → ClassId) (H0 : Heap) (h : rl_H) (n : Nat) (m : Nat) (T : md_T) (fu : Int32) (k : Nat) (A : md_D) (S : md_A) (z : sh_S) (res : List arow) (rw : Nat) (q kk w : Int32) (hq : mf ids h h m T fu k A) (hu : md_un ids h m T fu k S z) (hr : mrs A T res rw)  : rl_Met l (rl_e D ids H0) rl_BW rl_Ns yX8_way cX8_way 5 (some .long) ({ frames := 1, cells := 0, slots := 0, locals := 21 }) [.ref m, .int q, .int kk, .int w] h n (fun v h' n' => ∃ (r : Int64) (cd : Int32), v = some (.long r) ∧ n' = n ∧ mf ids h h' m (cd, T.2) fu k A ∧ ((¬ (∃ t0 k0 : Nat, t0 < res.length ∧ q = nI t0 ∧ k0 < (ark res t0).2.length ∧ kk = nI k0) ∧ cd = nI 1) ∨ ((∃ t0 k0 : Nat, t0 < res.length ∧ q = nI t0 ∧ k0 < (ark res t0).2.length ∧ kk = nI k0) ∧ w ≠ nI 0 ∧ w ≠ nI 1 ∧ cd = nI 2) ∨ (cd = nI 0 ∧ ∃ t0 k0 : Nat, t0 < res.length ∧ q = nI t0 ∧ k0 < (ark res t0).2.length ∧ kk = nI k0 ∧ ((w = nI 0 ∧ r = (tfn (ark res t0).2 k0).1) ∨ (w = nI 1 ∧ r = (tfn (ark res t0).2 k0).2))))) := by
  obtain ⟨hm0, g12, g13, g14, g15, g16, g17, g18, g19, g20, g21, g22⟩ := id hq
  have g0 := hm0.1
  have gk := hm0.2.1
  have b13 := hq.b13
  have b15 := hq.b15
  have b21 := hq.b21
  have hq0 := hq.ob (nI 0, T.2) fu k gk
  have r80 := hr.2.1.2.2
  have h16 := hr.1.1
  refine rl_Met.of (by decide +kernel) (Nat.le_of_ble_eq_true rfl) ?_
  intro X hC hB
  show rl_G X (rl_e D ids H0) 0 [some (.ref m), some (.int q), some (.int kk), some (.int w), none] [] h n 0 0
  refine o_aload_n hC dX8_way_0 (by rfl) ?_
  refine o_iconst (v := nI 0) hC dX8_way_1 (by decide +kernel) ?_
  refine o_putf hC (fX8_78 hC rfl) (fwX8 rfl rfl rfl (Or.inl rfl)) dX8_way_2 (by repeat (first | with_reducible assumption | (rw [rl_u_s]; done) | (rw [rl_u_s]; rfl) | rw [rl_u_n (by first | with_reducible assumption | omega)])) (Nat.le_of_ble_eq_true rfl) ?_
  try simp only [List.set_cons_zero, List.set_cons_succ]
  refine o_aload_n hC dX8_way_5 (by rfl) ?_
  refine o_iload_n hC dX8_way_6 (by rfl) ?_
  refine o_callV1 hC rl_BW_good rl_Ns_nw (by exact hB.2.2.2.2.2) YX8_isTuple IX8_isTuple VX8_isTuple (mX8_199 hC) (by rw [hB.1]; exact ct_X8_isTuple l D ids H0 _ _ m (m + 13) _ _ A.2.1 (by repeat (first | with_reducible assumption | (rw [rl_u_s]; done) | (rw [rl_u_s]; rfl) | rw [rl_u_n (by first | with_reducible assumption | omega)])) rfl (by repeat (first | with_reducible assumption | (rw [rl_u_s]; done) | (rw [rl_u_s]; rfl) | rw [rl_u_n (by first | with_reducible assumption | omega)]))) (by repeat (first | with_reducible assumption | (rw [rl_u_s]; done) | (rw [rl_u_s]; rfl) | rw [rl_u_n (by first | with_reducible assumption | omega)])) rfl rfl (Nat.le_of_ble_eq_true rfl) (by rw [hB.2.1]; first | exact Nat.le_of_ble_eq_true rfl | (dsimp only; omega)) (by rw [hB.2.1]; first | exact Nat.le_of_ble_eq_true rfl | (dsimp only; omega)) (by rw [hB.2.1]; first | exact Nat.le_of_ble_eq_true rfl | (dsimp only; omega)) (by rw [hB.2.1]; first | exact Nat.le_of_ble_eq_true rfl | (dsimp only; omega)) dX8_way_7 (fun v h_7 n_7 p_7 => ?_)
  obtain ⟨rfl, rfl, rfl⟩ := p_7
  try dsimp only [Option.toList, List.cons_append, List.nil_append]
  by_cases hr9 : q < 0 ∨ A.2.1 16 ≤ q
  · rw [if_pos hr9]
    have nin : ¬ (∃ t : Nat, t < res.length ∧ q = nI t) := fun ⟨t, ht, e⟩ => hr9.elim (fun u => absurd u (by rw [e]; exact nI_pos (by omega))) (fun u => absurd u (by rw [h16, e]; exact nI_ge ht (by omega)))
    refine o_if_eq (tgt := 31) hC dX8_way_10 (by decide) (fun c_10 => ?_) (fun c_10 => ?_)
    · refine o_aload_n hC dX8_way_31 (by rfl) ?_
      refine o_iconst (v := nI 1) hC dX8_way_32 (by decide +kernel) ?_
      refine o_putf hC (fX8_78 hC rfl) (fwX8 rfl rfl rfl (Or.inl rfl)) dX8_way_33 (by repeat (first | with_reducible assumption | (rw [rl_u_s]; done) | (rw [rl_u_s]; rfl) | rw [rl_u_n (by first | with_reducible assumption | omega)])) (Nat.le_of_ble_eq_true rfl) ?_
      try simp only [List.set_cons_zero, List.set_cons_succ]
      refine o_lconst (v := 0) hC dX8_way_36 (by decide +kernel) ?_
      refine o_lret hC hB dX8_way_37 (Nat.le_of_ble_eq_true rfl) (Nat.le_of_ble_eq_true rfl) ?_
      exact ⟨_, _, rfl, rfl, (hq0.ob (nI 1, T.2) fu k gk), Or.inl ⟨fun ⟨t0, k0, a, b, _⟩ => nin ⟨t0, a, b⟩, rfl⟩⟩
    · exact absurd rfl c_10
  · rw [if_neg hr9]
    obtain ⟨t, htl, rfl⟩ := nI_of_lt (k := res.length) (by omega) (fun e => hr9 (Or.inl e)) (fun e => hr9 (Or.inr (by rw [h16]; exact e)))
    have ht : t < 80 := by omega
    have hrw := hr.1.2 t htl
    have hws : mws A (1280 + t) (ark res t).2 := hrw.2
    have g00 := hq0.1.1
    have l12 := hws.2.1
    have hle : ∀ t0 : Nat, t0 < res.length → (ark res t0).2.length ≤ 12 := fun t0 h0 => (hr.1.2 t0 h0).2.2.1
    refine o_if_eq (tgt := 31) hC dX8_way_10 (by decide) (fun c_10 => ?_) (fun c_10 => ?_)
    · refine o_aload_n hC dX8_way_31 (by rfl) ?_
      refine o_iconst (v := nI 1) hC dX8_way_32 (by decide +kernel) ?_
      refine o_putf hC (fX8_78 hC rfl) (fwX8 rfl rfl rfl (Or.inl rfl)) dX8_way_33 (by repeat (first | with_reducible assumption | (rw [rl_u_s]; done) | (rw [rl_u_s]; rfl) | rw [rl_u_n (by first | with_reducible assumption | omega)])) (Nat.le_of_ble_eq_true rfl) ?_
      try simp only [List.set_cons_zero, List.set_cons_succ]
      refine o_lconst (v := 0) hC dX8_way_36 (by decide +kernel) ?_
      refine o_lret hC hB dX8_way_37 (Nat.le_of_ble_eq_true rfl) (Nat.le_of_ble_eq_true rfl) ?_
      first
      | exact absurd c_10 (by decide +kernel)
      | exact ⟨_, _, rfl, rfl, (hq0.ob (nI 1, T.2) fu k gk), Or.inl ⟨by first | exact (fun ⟨t0, k0, a0, b0, a, e⟩ => absurd c_14 (by have := hle t0 a0; rw [e]; exact nI_pos (by omega))) | exact (fun ⟨t0, k0, a0, b0, a, e⟩ => c_28 (by have := nI_inj2 (by omega) (by omega) b0; subst this; rw [e]; exact nI_lt a (by omega))), rfl⟩⟩
    · refine o_iload_n hC dX8_way_13 (by rfl) ?_
      refine o_if_lt (tgt := 31) hC dX8_way_14 (by decide) (fun c_14 => ?_) (fun c_14 => ?_)
      · refine o_aload_n hC dX8_way_31 (by rfl) ?_
        refine o_iconst (v := nI 1) hC dX8_way_32 (by decide +kernel) ?_
        refine o_putf hC (fX8_78 hC rfl) (fwX8 rfl rfl rfl (Or.inl rfl)) dX8_way_33 (by repeat (first | with_reducible assumption | (rw [rl_u_s]; done) | (rw [rl_u_s]; rfl) | rw [rl_u_n (by first | with_reducible assumption | omega)])) (Nat.le_of_ble_eq_true rfl) ?_
        try simp only [List.set_cons_zero, List.set_cons_succ]
        refine o_lconst (v := 0) hC dX8_way_36 (by decide +kernel) ?_
        refine o_lret hC hB dX8_way_37 (Nat.le_of_ble_eq_true rfl) (Nat.le_of_ble_eq_true rfl) ?_
        first
        | exact absurd c_10 (by decide +kernel)
        | exact ⟨_, _, rfl, rfl, (hq0.ob (nI 1, T.2) fu k gk), Or.inl ⟨by first | exact (fun ⟨t0, k0, a0, b0, a, e⟩ => absurd c_14 (by have := hle t0 a0; rw [e]; exact nI_pos (by omega))) | exact (fun ⟨t0, k0, a0, b0, a, e⟩ => c_28 (by have := nI_inj2 (by omega) (by omega) b0; subst this; rw [e]; exact nI_lt a (by omega))), rfl⟩⟩
      · refine o_iload_n hC dX8_way_17 (by rfl) ?_
        refine o_aload_n hC dX8_way_18 (by rfl) ?_
        refine o_getf hC (fX8_53 hC rfl) dX8_way_19 (by repeat (first | with_reducible assumption | (rw [rl_u_s]; done) | (rw [rl_u_s]; rfl) | rw [rl_u_n (by first | with_reducible assumption | omega)])) (by first | rfl | with_reducible assumption) ?_
        refine o_sipush (v := nI 1280) hC dX8_way_22 (by decide +kernel) ?_
        refine o_iload_n hC dX8_way_25 (by rfl) ?_
        refine o_iadd hC dX8_way_26 ?_
        try rw [nI_add]
        refine o_ialdN (t0 := 0) (k := 1280 + t) hC rfl dX8_way_27 (by repeat (first | with_reducible assumption | (rw [rl_u_s]; done) | (rw [rl_u_s]; rfl) | rw [rl_u_n (by first | with_reducible assumption | omega)])) (by omega) (by decide) ?_
        rw [hws.1]
        refine o_icmp_lt (tgt := 38) hC dX8_way_28 (by decide) (fun c_28 => ?_) (fun c_28 => ?_)
        · refine o_iload_n hC dX8_way_38 (by rfl) ?_
          refine o_if_lt (tgt := 47) hC dX8_way_39 (by decide) (fun c_39 => ?_) (fun c_39 => ?_)
          · refine o_aload_n hC dX8_way_47 (by rfl) ?_
            refine o_iconst (v := nI 2) hC dX8_way_48 (by decide +kernel) ?_
            refine o_putf hC (fX8_78 hC rfl) (fwX8 rfl rfl rfl (Or.inl rfl)) dX8_way_49 (by repeat (first | with_reducible assumption | (rw [rl_u_s]; done) | (rw [rl_u_s]; rfl) | rw [rl_u_n (by first | with_reducible assumption | omega)])) (Nat.le_of_ble_eq_true rfl) ?_
            try simp only [List.set_cons_zero, List.set_cons_succ]
            refine o_lconst (v := 0) hC dX8_way_52 (by decide +kernel) ?_
            refine o_lret hC hB dX8_way_53 (Nat.le_of_ble_eq_true rfl) (Nat.le_of_ble_eq_true rfl) ?_
            obtain ⟨k0, hk0, e0⟩ := nI_of_lt (k := (ark res t).2.length) (by omega) c_14 (fun e => absurd c_28 (Int32.not_lt.mpr e))
            exact ⟨_, _, rfl, rfl, (hq0.ob (nI 2, T.2) fu k gk), Or.inr (Or.inl ⟨⟨t, k0, htl, rfl, hk0, e0⟩, by first | exact (fun e => absurd c_39 (by rw [e]; decide +kernel)) | exact (fun e => c_44 (by rw [e]; decide +kernel)), by first | exact (fun e => absurd c_39 (by rw [e]; decide +kernel)) | exact (fun e => c_44 (by rw [e]; decide +kernel)), rfl⟩)⟩
          · refine o_iload_n hC dX8_way_42 (by rfl) ?_
            refine o_iconst (v := nI 1) hC dX8_way_43 (by decide +kernel) ?_
            refine o_icmp_le (tgt := 54) hC dX8_way_44 (by decide) (fun c_44 => ?_) (fun c_44 => ?_)
            · obtain ⟨k0, hk0, e0⟩ := nI_of_lt (k := (ark res t).2.length) (by omega) c_14 (fun e => absurd c_28 (Int32.not_lt.mpr e))
              subst e0
              have hw01 : w = nI 0 ∨ w = nI 1 := by
                obtain ⟨w0, hw0, e9⟩ := nI_of2 (M := nI 1) (nI_toInt (by decide)) c_39 c_44
                rcases (show w0 = 0 ∨ w0 = 1 by omega) with rfl | rfl
                · exact Or.inl e9
                · exact Or.inr e9
              have e5 := mws_fn hws hk0
              refine o_sipush (v := nI 1280) hC dX8_way_54 (by decide +kernel) ?_
              refine o_iload_n hC dX8_way_57 (by rfl) ?_
              refine o_iadd hC dX8_way_58 ?_
              try rw [nI_add]
              refine o_istore hC dX8_way_59 (Nat.le_of_ble_eq_true rfl) ?_
              refine o_iload_n hC dX8_way_61 (by rfl) ?_
              refine o_if_ne (tgt := 80) hC dX8_way_62 (by decide) (fun c_62 => ?_) (fun c_62 => ?_)
              · refine o_aload_n hC dX8_way_80 (by rfl) ?_
                refine o_getf hC (fX8_60 hC rfl) dX8_way_81 (by repeat (first | with_reducible assumption | (rw [rl_u_s]; done) | (rw [rl_u_s]; rfl) | rw [rl_u_n (by first | with_reducible assumption | omega)])) (by first | rfl | with_reducible assumption) ?_
                refine o_bipush (v := nI 12) hC dX8_way_84 (by decide +kernel) ?_
                refine o_iload hC dX8_way_86 (by rfl) ?_
                refine o_imul hC dX8_way_88 ?_
                try rw [nI_mul]
                refine o_iload_n hC dX8_way_89 (by rfl) ?_
                refine o_iadd hC dX8_way_90 ?_
                try rw [nI_add]
                refine o_laldN (t0 := 1) hC rfl dX8_way_91 (by repeat (first | with_reducible assumption | (rw [rl_u_s]; done) | (rw [rl_u_s]; rfl) | rw [rl_u_n (by first | with_reducible assumption | omega)])) (by omega) (by decide) ?_
                refine o_lret hC hB dX8_way_92 (Nat.le_of_ble_eq_true rfl) (Nat.le_of_ble_eq_true rfl) ?_
                first
                | exact ⟨_, _, rfl, rfl, hq0, Or.inr (Or.inr ⟨rfl, t, k0, htl, rfl, hk0, rfl, Or.inl ⟨c_62, by rw [e5]⟩⟩)⟩
                | exact ⟨_, _, rfl, rfl, hq0, Or.inr (Or.inr ⟨rfl, t, k0, htl, rfl, hk0, rfl, Or.inr ⟨hw01.resolve_left c_62, by rw [e5]⟩⟩)⟩
              · refine o_aload_n hC dX8_way_65 (by rfl) ?_
                refine o_getf hC (fX8_56 hC rfl) dX8_way_66 (by repeat (first | with_reducible assumption | (rw [rl_u_s]; done) | (rw [rl_u_s]; rfl) | rw [rl_u_n (by first | with_reducible assumption | omega)])) (by first | rfl | with_reducible assumption) ?_
                refine o_bipush (v := nI 12) hC dX8_way_69 (by decide +kernel) ?_
                refine o_iload hC dX8_way_71 (by rfl) ?_
                refine o_imul hC dX8_way_73 ?_
                try rw [nI_mul]
                refine o_iload_n hC dX8_way_74 (by rfl) ?_
                refine o_iadd hC dX8_way_75 ?_
                try rw [nI_add]
                refine o_laldN (t0 := 1) hC rfl dX8_way_76 (by repeat (first | with_reducible assumption | (rw [rl_u_s]; done) | (rw [rl_u_s]; rfl) | rw [rl_u_n (by first | with_reducible assumption | omega)])) (by omega) (by decide) ?_
                refine o_goto (tgt := 92) hC dX8_way_77 (by decide) ?_
                refine o_lret hC hB dX8_way_92 (Nat.le_of_ble_eq_true rfl) (Nat.le_of_ble_eq_true rfl) ?_
                first
                | exact ⟨_, _, rfl, rfl, hq0, Or.inr (Or.inr ⟨rfl, t, k0, htl, rfl, hk0, rfl, Or.inl ⟨c_62, by rw [e5]⟩⟩)⟩
                | exact ⟨_, _, rfl, rfl, hq0, Or.inr (Or.inr ⟨rfl, t, k0, htl, rfl, hk0, rfl, Or.inr ⟨hw01.resolve_left c_62, by rw [e5]⟩⟩)⟩
            · refine o_aload_n hC dX8_way_47 (by rfl) ?_
              refine o_iconst (v := nI 2) hC dX8_way_48 (by decide +kernel) ?_
              refine o_putf hC (fX8_78 hC rfl) (fwX8 rfl rfl rfl (Or.inl rfl)) dX8_way_49 (by repeat (first | with_reducible assumption | (rw [rl_u_s]; done) | (rw [rl_u_s]; rfl) | rw [rl_u_n (by first | with_reducible assumption | omega)])) (Nat.le_of_ble_eq_true rfl) ?_
              try simp only [List.set_cons_zero, List.set_cons_succ]
              refine o_lconst (v := 0) hC dX8_way_52 (by decide +kernel) ?_
              refine o_lret hC hB dX8_way_53 (Nat.le_of_ble_eq_true rfl) (Nat.le_of_ble_eq_true rfl) ?_
              obtain ⟨k0, hk0, e0⟩ := nI_of_lt (k := (ark res t).2.length) (by omega) c_14 (fun e => absurd c_28 (Int32.not_lt.mpr e))
              exact ⟨_, _, rfl, rfl, (hq0.ob (nI 2, T.2) fu k gk), Or.inr (Or.inl ⟨⟨t, k0, htl, rfl, hk0, e0⟩, by first | exact (fun e => absurd c_39 (by rw [e]; decide +kernel)) | exact (fun e => c_44 (by rw [e]; decide +kernel)), by first | exact (fun e => absurd c_39 (by rw [e]; decide +kernel)) | exact (fun e => c_44 (by rw [e]; decide +kernel)), rfl⟩)⟩
        · refine o_aload_n hC dX8_way_31 (by rfl) ?_
          refine o_iconst (v := nI 1) hC dX8_way_32 (by decide +kernel) ?_
          refine o_putf hC (fX8_78 hC rfl) (fwX8 rfl rfl rfl (Or.inl rfl)) dX8_way_33 (by repeat (first | with_reducible assumption | (rw [rl_u_s]; done) | (rw [rl_u_s]; rfl) | rw [rl_u_n (by first | with_reducible assumption | omega)])) (Nat.le_of_ble_eq_true rfl) ?_
          try simp only [List.set_cons_zero, List.set_cons_succ]
          refine o_lconst (v := 0) hC dX8_way_36 (by decide +kernel) ?_
          refine o_lret hC hB dX8_way_37 (Nat.le_of_ble_eq_true rfl) (Nat.le_of_ble_eq_true rfl) ?_
          first
          | exact absurd c_10 (by decide +kernel)
          | exact ⟨_, _, rfl, rfl, (hq0.ob (nI 1, T.2) fu k gk), Or.inl ⟨by first | exact (fun ⟨t0, k0, a0, b0, a, e⟩ => absurd c_14 (by have := hle t0 a0; rw [e]; exact nI_pos (by omega))) | exact (fun ⟨t0, k0, a0, b0, a, e⟩ => c_28 (by have := nI_inj2 (by omega) (by omega) b0; subst this; rw [e]; exact nI_lt a (by omega))), rfl⟩⟩
end
section
/-! answers of both sides -/
theorem cell_eq {res : List arow} {rw : Nat} {q kk r1 r2 cd : Int32} {f0 : Int64} (n80 : res.length ≤ 80) (rw6 : rw ≤ 6) (H1 : (¬ (∃ t0 k0 : Nat, t0 < res.length ∧ q = nI t0 ∧ k0 < rw ∧ kk = nI k0) ∧ r1 = nI 1) ∨ (r1 = nI 0 ∧ ∃ cv : Int32, f0 = cv.toInt64 ∧ ∃ t0 k0 : Nat, t0 < res.length ∧ q = nI t0 ∧ k0 < rw ∧ kk = nI k0 ∧ cv = (ark res t0).1.getD k0 0)) (H2 : (¬ (∃ t0 k0 : Nat, t0 < res.length ∧ q = nI t0 ∧ k0 < rw ∧ kk = nI k0) ∧ cd = nI 1) ∨ (cd = nI 0 ∧ ∃ t0 k0 : Nat, t0 < res.length ∧ q = nI t0 ∧ k0 < rw ∧ kk = nI k0 ∧ r2 = (ark res t0).1.getD k0 0)) : cd = r1 ∧ (r1 = nI 0 → f0 = r2.toInt64) := by
  rcases H1 with ⟨a1, a2⟩ | ⟨a2, cv, a3, t0, k0, a4, rfl, a6, rfl, a8⟩
  · rcases H2 with ⟨b1, b2⟩ | ⟨b2, t1, k1, b4, b5, b6, b7, b8⟩
    · exact ⟨b2.trans a2.symm, fun e => absurd (a2.symm.trans e) (by decide +kernel)⟩
    · exact absurd ⟨t1, k1, b4, b5, b6, b7⟩ a1
  · rcases H2 with ⟨b1, b2⟩ | ⟨b2, t1, k1, b4, b5, b6, b7, b8⟩
    · exact absurd ⟨t0, k0, a4, rfl, a6, rfl⟩ b1
    · have e1 := nI_inj2 (by omega) (by omega) b5
      have e2 := nI_inj2 (by omega) (by omega) b7
      subst e1
      subst e2
      exact ⟨b2.trans a2.symm, fun _ => by rw [a3, a8, b8]⟩
theorem way_eq {res : List arow} {q kk w r1 cd : Int32} {f0 r2 : Int64} (n80 : res.length ≤ 80) (hle : ∀ t0 : Nat, t0 < res.length → (ark res t0).2.length ≤ 12) (H1 : (¬ (∃ t0 k0 : Nat, t0 < res.length ∧ q = nI t0 ∧ k0 < (ark res t0).2.length ∧ kk = nI k0) ∧ r1 = nI 1) ∨ ((∃ t0 k0 : Nat, t0 < res.length ∧ q = nI t0 ∧ k0 < (ark res t0).2.length ∧ kk = nI k0) ∧ w ≠ nI 0 ∧ w ≠ nI 1 ∧ r1 = nI 2) ∨ (r1 = nI 0 ∧ ∃ t0 k0 : Nat, t0 < res.length ∧ q = nI t0 ∧ k0 < (ark res t0).2.length ∧ kk = nI k0 ∧ ((w = nI 0 ∧ f0 = (tfn (ark res t0).2 k0).1) ∨ (w = nI 1 ∧ f0 = (tfn (ark res t0).2 k0).2)))) (H2 : (¬ (∃ t0 k0 : Nat, t0 < res.length ∧ q = nI t0 ∧ k0 < (ark res t0).2.length ∧ kk = nI k0) ∧ cd = nI 1) ∨ ((∃ t0 k0 : Nat, t0 < res.length ∧ q = nI t0 ∧ k0 < (ark res t0).2.length ∧ kk = nI k0) ∧ w ≠ nI 0 ∧ w ≠ nI 1 ∧ cd = nI 2) ∨ (cd = nI 0 ∧ ∃ t0 k0 : Nat, t0 < res.length ∧ q = nI t0 ∧ k0 < (ark res t0).2.length ∧ kk = nI k0 ∧ ((w = nI 0 ∧ r2 = (tfn (ark res t0).2 k0).1) ∨ (w = nI 1 ∧ r2 = (tfn (ark res t0).2 k0).2)))) : cd = r1 ∧ (r1 = nI 0 → f0 = r2) := by
  have n10 : ¬ (nI 1 : Int32) = nI 0 := by decide +kernel
  have n20 : ¬ (nI 2 : Int32) = nI 0 := by decide +kernel
  rcases H1 with ⟨a1, a2⟩ | ⟨a1, a3, a4, a2⟩ | ⟨a2, t0, k0, a4, a5, a6, a7, a8⟩
  · rcases H2 with ⟨b1, b2⟩ | ⟨b1, -⟩ | ⟨b2, t1, k1, b4, b5, b6, b7, b8⟩
    · exact ⟨b2.trans a2.symm, fun e => absurd (a2.symm.trans e) n10⟩
    · exact absurd b1 a1
    · exact absurd ⟨t1, k1, b4, b5, b6, b7⟩ a1
  · rcases H2 with ⟨b1, b2⟩ | ⟨-, -, -, b2⟩ | ⟨b2, t1, k1, b4, b5, b6, b7, b8⟩
    · exact absurd a1 b1
    · exact ⟨b2.trans a2.symm, fun e => absurd (a2.symm.trans e) n20⟩
    · exact b8.elim (fun u => absurd u.1 a3) (fun u => absurd u.1 a4)
  · rcases H2 with ⟨b1, b2⟩ | ⟨-, b3, b4, b2⟩ | ⟨b2, t1, k1, b4, b5, b6, b7, b8⟩
    · exact absurd ⟨t0, k0, a4, a5, a6, a7⟩ b1
    · exact a8.elim (fun u => absurd u.1 b3) (fun u => absurd u.1 b4)
    · have l0 := hle t0 a4
      have l1 := hle t1 b4
      have e1 := nI_inj2 (by omega) (by omega) (a5.symm.trans b5)
      have e2 := nI_inj2 (by omega) (by omega) (a7.symm.trans b7)
      subst e1
      subst e2
      refine ⟨b2.trans a2.symm, fun _ => ?_⟩
      rcases a8 with ⟨c1, c2⟩ | ⟨c1, c2⟩
      · rcases b8 with ⟨d1, d2⟩ | ⟨d1, d2⟩
        · rw [c2, d2]
        · exact absurd (d1.symm.trans c1) n10
      · rcases b8 with ⟨d1, d2⟩ | ⟨d1, d2⟩
        · exact absurd (c1.symm.trans d1) n10
        · rw [c2, d2]
theorem fw_eq {P : Prop} {r1 r2 a b : Int32} (H1 : (P ∧ r1 = a) ∨ (¬ P ∧ r1 = b)) (H2 : (P ∧ r2 = a) ∨ (¬ P ∧ r2 = b)) : r1 = r2 := by
  rcases H1 with ⟨p, e⟩ | ⟨p, e⟩
  · rcases H2 with ⟨p2, e2⟩ | ⟨p2, e2⟩
    · rw [e, e2]
    · exact absurd p p2
  · rcases H2 with ⟨p2, e2⟩ | ⟨p2, e2⟩
    · exact absurd p2 p
    · rw [e, e2]
theorem us_k : ∀ k : Nat, k < 37 → ((nI k).toInt64 &&& 63).toBitVec.smod 64 = BitVec.ofNat 64 k ∧ ((nI k).toInt64.toUInt64 &&& Int64.toUInt64 63).toBitVec % 64 = BitVec.ofNat 64 k := by decide +kernel
theorem us_lem {k : Nat} (hk : k ≤ 36) (st : Int64) : (st < 0 ∨ ¬ st >>> ((nI k).toInt64 &&& 63) = 0) ↔ ¬ (st.toUInt64 >>> ((nI k).toInt64.toUInt64 &&& Int64.toUInt64 63)).toInt64 = 0 := by
  obtain ⟨k1, k2⟩ := us_k k (by omega)
  have kn : (BitVec.ofNat 64 k).toNat = k := by
    rw [BitVec.toNat_ofNat]
    exact Nat.mod_eq_of_lt (by omega)
  have e1 : (st >>> ((nI k).toInt64 &&& 63)).toBitVec = st.toBitVec.sshiftRight k := by
    rw [Int64.toBitVec_shiftRight, k1, BitVec.sshiftRight', kn]
  have e2 : (st.toUInt64 >>> ((nI k).toInt64.toUInt64 &&& Int64.toUInt64 63)).toInt64.toBitVec = st.toBitVec >>> k := by
    show (st.toUInt64 >>> ((nI k).toInt64.toUInt64 &&& Int64.toUInt64 63)).toBitVec = st.toBitVec >>> k
    rw [UInt64.toBitVec_shiftRight, k2]
    show st.toBitVec >>> (BitVec.ofNat 64 k) = st.toBitVec >>> k
    rw [BitVec.ushiftRight_eq', kn]
  have pw : (2 : Nat) ^ k ≤ 2 ^ 36 := Nat.pow_le_pow_right (by decide) hk
  have hlt : st < 0 ↔ 2 ^ 63 ≤ st.toBitVec.toNat := by
    rw [Int64.lt_iff_toInt_lt]
    show st.toBitVec.toInt < (0 : Int64).toInt ↔ _
    rw [show (0 : Int64).toInt = 0 from rfl, BitVec.toInt_eq_toNat_cond]
    have := st.toBitVec.isLt
    split <;> omega
  by_cases hn : st < 0
  · refine ⟨fun _ e => ?_, fun _ => Or.inl hn⟩
    have e3 : st.toBitVec >>> k = 0#64 := by
      rw [← e2, e]
      rfl
    have e4 : (st.toBitVec >>> k).toNat = 0 := by
      rw [e3]
      rfl
    rw [BitVec.toNat_ushiftRight, Nat.shiftRight_eq_div_pow] at e4
    have := hlt.mp hn
    have := Nat.lt_of_div_eq_zero (Nat.pow_pos (by decide)) e4
    omega
  · have ms : st.toBitVec.msb = false := by
      rw [BitVec.msb_eq_decide]
      exact decide_eq_false (fun e => hn (hlt.mpr e))
    have e5 : st >>> ((nI k).toInt64 &&& 63) = (st.toUInt64 >>> ((nI k).toInt64.toUInt64 &&& Int64.toUInt64 63)).toInt64 := by
      apply Int64.toBitVec_inj.mp
      rw [e1, e2, BitVec.sshiftRight_eq_of_msb_false ms]
    rw [e5]
    exact ⟨fun h => h.resolve_left hn, fun h => Or.inr h⟩
theorem us_if {A B : Prop} [Decidable A] [Decidable B] (h : A ↔ ¬ B) (x y : Int32) : (if A then y else x) = (if B then x else y) := by
  by_cases b : B
  · rw [if_pos b, if_neg (fun a => h.mp a b)]
  · rw [if_neg b, if_pos (h.mpr b)]

theorem und_eq {res : List arow} {q r1 r2 : Int32} {st : Int64} {k : Nat} (n80 : res.length ≤ 80) (hk : k ≤ 36) (H1 : (¬ (∃ t : Nat, t < res.length ∧ q = nI t) ∧ r1 = -1) ∨ ∃ t : Nat, t < res.length ∧ q = nI t ∧ r1 = (if (st.toUInt64 >>> ((nI k).toInt64.toUInt64 &&& Int64.toUInt64 63)).toInt64 = 0 then (if wfh st (ark res t).2 0 = -1 then nI 0 else nI 1) else (-2 : Int32))) (H2 : (¬ (∃ t : Nat, t < res.length ∧ q = nI t) ∧ r2 = -1) ∨ ∃ t : Nat, t < res.length ∧ q = nI t ∧ r2 = (if (st < 0 ∨ ¬ st >>> ((nI k).toInt64 &&& 63) = 0) then (-2 : Int32) else (if wfh st (ark res t).2 0 = -1 then nI 0 else nI 1))) : r1 = r2 :=
  lk_eq n80 H1 (H2.imp id (fun ⟨t, a, b, e⟩ => ⟨t, a, b, e.trans (us_if (us_lem hk st) _ _)⟩))
end
section
/-! Long.bitCount of a number below 2 ^ 36 -/
def pcn : Nat → Nat → Nat
  | 0, _ => 0
  | n + 1, x => x % 2 + pcn n (x / 2)
/-- the digits' sum -/
def dsm (B : Nat) : Nat → Nat → Nat
  | 0, _ => 0
  | n + 1, y => y % B + dsm B n (y / B)
/-- n digits, each at most d -/
def dgs (B d : Nat) : Nat → Nat → Prop
  | 0, y => y = 0
  | n + 1, y => y % B ≤ d ∧ dgs B d n (y / B)
def bm1 : Nat → Nat
  | 0 => 0
  | n + 1 => 4 * bm1 n + 1
def bm2 : Nat → Nat
  | 0 => 0
  | n + 1 => 16 * bm2 n + 3
def bm3 : Nat → Nat
  | 0 => 0
  | n + 1 => 256 * bm3 n + 15
theorem and_b (x m p r : Nat) (h : r < 2 ^ p) : x &&& (2 ^ p * m + r) = (x % 2 ^ p &&& r) + 2 ^ p * (x / 2 ^ p &&& m) := by
  have e := Nat.div_add_mod (x &&& (2 ^ p * m + r)) (2 ^ p)
  have p0 : 0 < 2 ^ p := Nat.pow_pos (by decide)
  have e1 : (2 ^ p * m + r) / 2 ^ p = m := by
    rw [Nat.mul_add_div p0, Nat.div_eq_of_lt h, Nat.add_zero]
  have e2 : (2 ^ p * m + r) % 2 ^ p = r := by
    rw [Nat.mul_add_mod, Nat.mod_eq_of_lt h]
  rw [Nat.and_div_two_pow, Nat.and_mod_two_pow, e1, e2] at e
  omega
theorem and_4 (x m : Nat) : x &&& (4 * m + 1) = x % 2 + 4 * (x / 4 &&& m) := by
  have e := and_b x m 2 1 (by decide)
  rw [show (2 : Nat) ^ 2 = 4 from rfl, Nat.and_one_is_mod] at e
  omega
theorem and_16 (x m : Nat) : x &&& (16 * m + 3) = x % 4 + 16 * (x / 16 &&& m) := by
  have e := and_b x m 4 3 (by decide)
  have e2 := Nat.and_two_pow_sub_one_eq_mod (x % 16) 2
  rw [show (2 : Nat) ^ 2 - 1 = 3 from rfl, show (2 : Nat) ^ 2 = 4 from rfl] at e2
  rw [show (2 : Nat) ^ 4 = 16 from rfl, e2] at e
  omega
theorem and_256 (x m : Nat) : x &&& (256 * m + 15) = x % 16 + 256 * (x / 256 &&& m) := by
  have e := and_b x m 8 15 (by decide)
  have e2 := Nat.and_two_pow_sub_one_eq_mod (x % 256) 4
  rw [show (2 : Nat) ^ 4 - 1 = 15 from rfl, show (2 : Nat) ^ 4 = 16 from rfl] at e2
  rw [show (2 : Nat) ^ 8 = 256 from rfl, e2] at e
  omega
theorem bs1 : ∀ (n x : Nat), x < 4 ^ n → dgs 4 2 n (x - (x / 2 &&& bm1 n)) ∧ dsm 4 n (x - (x / 2 &&& bm1 n)) = pcn (2 * n) x
  | 0, x, h => by
    rw [Nat.pow_zero] at h
    have e : x = 0 := by omega
    subst e
    exact ⟨by show 0 - _ = 0; omega, rfl⟩
  | n + 1, x, h => by
    obtain ⟨i1, i2⟩ := bs1 n (x / 4) (by rw [Nat.pow_succ] at h; omega)
    have e : x / 2 &&& bm1 (n + 1) = x / 2 % 2 + 4 * (x / 4 / 2 &&& bm1 n) := by
      show x / 2 &&& (4 * bm1 n + 1) = _
      rw [and_4, show x / 2 / 4 = x / 4 / 2 by omega]
    have le : (x / 4 / 2 &&& bm1 n) ≤ x / 4 / 2 := Nat.and_le_left
    rw [e]
    have d0 : (x - (x / 2 % 2 + 4 * (x / 4 / 2 &&& bm1 n))) % 4 = x % 2 + x / 2 % 2 := by omega
    have d1 : (x - (x / 2 % 2 + 4 * (x / 4 / 2 &&& bm1 n))) / 4 = x / 4 - (x / 4 / 2 &&& bm1 n) := by omega
    refine ⟨⟨by omega, by rw [d1]; exact i1⟩, ?_⟩
    show _ % 4 + dsm 4 n (_ / 4) = pcn (2 * n + 1 + 1) x
    rw [d0, d1, i2]
    show _ = x % 2 + (x / 2 % 2 + pcn (2 * n) (x / 2 / 2))
    rw [show x / 2 / 2 = x / 4 by omega]
    omega
theorem bs2 : ∀ (n y : Nat), dgs 4 2 (2 * n) y → dgs 16 4 n ((y &&& bm2 n) + (y / 4 &&& bm2 n)) ∧ dsm 16 n ((y &&& bm2 n) + (y / 4 &&& bm2 n)) = dsm 4 (2 * n) y
  | 0, y, h => by
    have e : y = 0 := h
    subst e
    exact ⟨rfl, rfl⟩
  | n + 1, y, h => by
    have h : y % 4 ≤ 2 ∧ y / 4 % 4 ≤ 2 ∧ dgs 4 2 (2 * n) (y / 4 / 4) := h
    obtain ⟨h1, h2, h3⟩ := h
    rw [show y / 4 / 4 = y / 16 by omega] at h3
    obtain ⟨i1, i2⟩ := bs2 n (y / 16) h3
    have e1 : y &&& bm2 (n + 1) = y % 4 + 16 * (y / 16 &&& bm2 n) := and_16 y (bm2 n)
    have e2 : y / 4 &&& bm2 (n + 1) = y / 4 % 4 + 16 * (y / 16 / 4 &&& bm2 n) := by
      show y / 4 &&& (16 * bm2 n + 3) = _
      rw [and_16, show y / 4 / 16 = y / 16 / 4 by omega]
    rw [e1, e2]
    have d0 : (y % 4 + 16 * (y / 16 &&& bm2 n) + (y / 4 % 4 + 16 * (y / 16 / 4 &&& bm2 n))) % 16 = y % 4 + y / 4 % 4 := by omega
    have d1 : (y % 4 + 16 * (y / 16 &&& bm2 n) + (y / 4 % 4 + 16 * (y / 16 / 4 &&& bm2 n))) / 16 = (y / 16 &&& bm2 n) + (y / 16 / 4 &&& bm2 n) := by omega
    refine ⟨⟨by omega, by rw [d1]; exact i1⟩, ?_⟩
    show _ % 16 + dsm 16 n (_ / 16) = y % 4 + (y / 4 % 4 + dsm 4 (2 * n) (y / 4 / 4))
    rw [d0, d1, i2, show y / 4 / 4 = y / 16 by omega]
    omega
theorem bs3 : ∀ (n z : Nat), dgs 16 4 (2 * n) z → dgs 256 8 n ((z + z / 16) &&& bm3 n) ∧ dsm 256 n ((z + z / 16) &&& bm3 n) = dsm 16 (2 * n) z
  | 0, z, h => by
    have e : z = 0 := h
    subst e
    exact ⟨rfl, rfl⟩
  | n + 1, z, h => by
    have h : z % 16 ≤ 4 ∧ z / 16 % 16 ≤ 4 ∧ dgs 16 4 (2 * n) (z / 16 / 16) := h
    obtain ⟨h1, h2, h3⟩ := h
    rw [show z / 16 / 16 = z / 256 by omega] at h3
    have h4 : z / 256 % 16 ≤ 4 := by
      cases n with
      | zero =>
        have e : z / 256 = 0 := h3
        omega
      | succ n => exact (show z / 256 % 16 ≤ 4 ∧ _ from h3).1
    obtain ⟨i1, i2⟩ := bs3 n (z / 256) h3
    have e1 : (z + z / 16) &&& bm3 (n + 1) = (z % 16 + z / 16 % 16) + 256 * ((z / 256 + z / 256 / 16) &&& bm3 n) := by
      show (z + z / 16) &&& (256 * bm3 n + 15) = _
      have z1 : z = 256 * (z / 256) + 16 * (z / 16 % 16) + z % 16 := by omega
      have z2 : z / 16 = 16 * (z / 256) + z / 16 % 16 := by omega
      have z3 : z / 256 = 16 * (z / 256 / 16) + z / 256 % 16 := by omega
      have hN : z + z / 16 = 256 * (z / 256 + z / 256 / 16) + (16 * (z / 256 % 16) + 17 * (z / 16 % 16) + z % 16) := by omega
      have key : (z + z / 16) / 256 = z / 256 + z / 256 / 16 := by
        have lt : 16 * (z / 256 % 16) + 17 * (z / 16 % 16) + z % 16 < 256 := by omega
        rw [hN, Nat.mul_add_div (by decide), Nat.div_eq_of_lt lt, Nat.add_zero]
      rw [and_256, key, show (z + z / 16) % 16 = z % 16 + z / 16 % 16 by omega]
    rw [e1]
    have d0 : (z % 16 + z / 16 % 16 + 256 * ((z / 256 + z / 256 / 16) &&& bm3 n)) % 256 = z % 16 + z / 16 % 16 := by omega
    have d1 : (z % 16 + z / 16 % 16 + 256 * ((z / 256 + z / 256 / 16) &&& bm3 n)) / 256 = (z / 256 + z / 256 / 16) &&& bm3 n := by omega
    refine ⟨⟨by omega, by rw [d1]; exact i1⟩, ?_⟩
    show _ % 256 + dsm 256 n (_ / 256) = z % 16 + (z / 16 % 16 + dsm 16 (2 * n) (z / 16 / 16))
    rw [d0, d1, i2, show z / 16 / 16 = z / 256 by omega]
    omega
/-- the end: of numbers below 2 ^ 40 -/
theorem bs5 {a b c d f : Nat} (ha : a ≤ 8) (hb : b ≤ 8) (hc : c ≤ 8) (hd : d ≤ 8) (hf : f ≤ 8) {w : Nat} (ew : w = a + 256 * b + 65536 * c + 16777216 * d + 4294967296 * f) : (w + w / 256 + (w + w / 256) / 65536 + (w + w / 256 + (w + w / 256) / 65536) / 4294967296) % 128 = a + b + c + d + f := by
  have g1 : w / 256 = b + 256 * c + 65536 * d + 16777216 * f := by omega
  have g2 : w + w / 256 = (a + b) + 256 * (b + c) + 65536 * (c + d) + 16777216 * (d + f) + 4294967296 * f := by omega
  rw [g2]
  clear g1 g2 ew
  have g3 : ((a + b) + 256 * (b + c) + 65536 * (c + d) + 16777216 * (d + f) + 4294967296 * f) / 65536 = (c + d) + 256 * (d + f) + 65536 * f := by omega
  rw [g3]
  clear g3
  have g4 : (a + b) + 256 * (b + c) + 65536 * (c + d) + 16777216 * (d + f) + 4294967296 * f + ((c + d) + 256 * (d + f) + 65536 * f) = (a + b + c + d) + 256 * (b + c + d + f) + 65536 * (c + d + f) + 16777216 * (d + f) + 4294967296 * f := by omega
  rw [g4]
  clear g4
  have g5 : ((a + b + c + d) + 256 * (b + c + d + f) + 65536 * (c + d + f) + 16777216 * (d + f) + 4294967296 * f) / 4294967296 = f := by omega
  rw [g5]
  clear g5
  omega
theorem bs4 (w : Nat) (h : w < 2 ^ 40) (hd : dgs 256 8 8 w) : (w + w / 256 + (w + w / 256) / 65536 + (w + w / 256 + (w + w / 256) / 65536) / 4294967296) % 128 = dsm 256 8 w := by
  have hd : w % 256 ≤ 8 ∧ w / 256 % 256 ≤ 8 ∧ w / 256 / 256 % 256 ≤ 8 ∧ w / 256 / 256 / 256 % 256 ≤ 8 ∧ w / 256 / 256 / 256 / 256 % 256 ≤ 8 ∧ _ := hd
  obtain ⟨h0, h1, h2, h3, h4, -⟩ := hd
  have f2 : w / 256 / 256 = w / 65536 := Nat.div_div_eq_div_mul w 256 256
  have f3 : w / 65536 / 256 = w / 16777216 := Nat.div_div_eq_div_mul w 65536 256
  have f4 : w / 16777216 / 256 = w / 4294967296 := Nat.div_div_eq_div_mul w 16777216 256
  have f5 : w / 4294967296 / 256 = 0 := by
    rw [Nat.div_div_eq_div_mul]
    exact Nat.div_eq_of_lt (by omega)
  have e : dsm 256 8 w = w % 256 + (w / 256 % 256 + (w / 256 / 256 % 256 + (w / 256 / 256 / 256 % 256 + (w / 256 / 256 / 256 / 256 % 256 + dsm 256 3 (w / 256 / 256 / 256 / 256 / 256))))) := rfl
  rw [f2, f3, f4, f5] at e
  rw [f2] at h2 h3 h4
  rw [f3] at h3 h4
  rw [f4] at h4
  have e0 : dsm 256 3 0 = 0 := by decide
  rw [e0] at e
  have k1 : w = 256 * (w / 256) + w % 256 := (Nat.div_add_mod w 256).symm
  have k2 : w / 256 = 256 * (w / 65536) + w / 256 % 256 := by
    have := Nat.div_add_mod (w / 256) 256
    rw [f2] at this
    exact this.symm
  have k3 : w / 65536 = 256 * (w / 16777216) + w / 65536 % 256 := by
    have := Nat.div_add_mod (w / 65536) 256
    rw [f3] at this
    exact this.symm
  have k4 : w / 16777216 = 256 * (w / 4294967296) + w / 16777216 % 256 := by
    have := Nat.div_add_mod (w / 16777216) 256
    rw [f4] at this
    exact this.symm
  have k5 : w / 4294967296 = w / 4294967296 % 256 := by
    have := Nat.div_add_mod (w / 4294967296) 256
    rw [f5] at this
    omega
  rw [e, bs5 h0 h1 h2 h3 h4 (by omega)]
  omega
theorem pcn_0 : ∀ n : Nat, pcn n 0 = 0
  | 0 => rfl
  | n + 1 => by
    show 0 % 2 + pcn n (0 / 2) = 0
    rw [Nat.zero_div, pcn_0 n]
theorem pcn_hi : ∀ (n m x : Nat), x < 2 ^ n → pcn (n + m) x = pcn n x
  | 0, m, x, h => by
    rw [Nat.pow_zero] at h
    rw [show x = 0 by omega, pcn_0, pcn_0]
  | n + 1, m, x, h => by
    rw [show n + 1 + m = (n + m) + 1 by omega]
    show x % 2 + pcn (n + m) (x / 2) = x % 2 + pcn n (x / 2)
    rw [pcn_hi n m (x / 2) (by rw [Nat.pow_succ] at h; omega)]
/-! on Int64 -/
abbrev l64 (x : Int64) : Nat := x.toBitVec.toNat
theorem jsr {k : Nat} (hk : k ≤ 36) (x : Int64) : l64 (jd_sr x (nI k)) = l64 x / 2 ^ k := by
  obtain ⟨-, k2⟩ := us_k k (by omega)
  have kn : (BitVec.ofNat 64 k).toNat = k := by
    rw [BitVec.toNat_ofNat]
    exact Nat.mod_eq_of_lt (by omega)
  have e2 : (jd_sr x (nI k)).toBitVec = x.toBitVec >>> k := by
    show (x.toUInt64 >>> ((nI k).toInt64.toUInt64 &&& Int64.toUInt64 63)).toBitVec = x.toBitVec >>> k
    rw [UInt64.toBitVec_shiftRight, k2]
    show x.toBitVec >>> (BitVec.ofNat 64 k) = x.toBitVec >>> k
    rw [BitVec.ushiftRight_eq', kn]
  show (jd_sr x (nI k)).toBitVec.toNat = _
  rw [e2, BitVec.toNat_ushiftRight, Nat.shiftRight_eq_div_pow]
theorem l64_and (a b : Int64) : l64 (a &&& b) = (l64 a &&& l64 b) := by
  show (a &&& b).toBitVec.toNat = _
  rw [Int64.toBitVec_and, BitVec.toNat_and]
theorem l64_add {a b : Int64} (h : l64 a + l64 b < 2 ^ 64) : l64 (a + b) = l64 a + l64 b := by
  show (a + b).toBitVec.toNat = _
  rw [Int64.toBitVec_add, BitVec.toNat_add_of_lt h]
theorem l64_sub {a b : Int64} (h : l64 b ≤ l64 a) : l64 (a - b) = l64 a - l64 b := by
  show (a - b).toBitVec.toNat = _
  rw [Int64.toBitVec_sub, BitVec.toNat_sub_of_le (BitVec.le_def.mpr h)]
theorem bc_pcn {x : Int64} (h : l64 x < 2 ^ 36) : jd_bcL x = nI (pcn 36 (l64 x)) := by
  show (jd_6 (jd_5 (jd_4 (jd_3 (jd_2 (jd_1 x)))))).toInt32 &&& nI 127 = nI (pcn 36 (l64 x))
  have l1 : l64 6148914691236517205 = bm1 32 := by decide +kernel
  have l2 : l64 3689348814741910323 = bm2 16 := by decide +kernel
  have l3 : l64 1085102592571150095 = bm3 8 := by decide +kernel
  have r1 : l64 (jd_sr x (nI 1)) = l64 x / 2 := jsr (k := 1) (by decide) x
  have q1 : l64 (jd_sr x (nI 1) &&& 6148914691236517205) = (l64 x / 2 &&& bm1 32) := by rw [l64_and, r1, l1]
  have le1 : (l64 x / 2 &&& bm1 32) ≤ l64 x / 2 := Nat.and_le_left
  have g1 : l64 (jd_sr x (nI 1) &&& 6148914691236517205) ≤ l64 x := by rw [q1]; omega
  have n1 : l64 (jd_1 x) = l64 x - (l64 x / 2 &&& bm1 32) := (l64_sub g1).trans (by rw [q1])
  obtain ⟨s1, s2⟩ := bs1 32 (l64 x) (Nat.lt_trans h (by decide))
  rw [← n1] at s1 s2
  have b1 : l64 (jd_1 x) < 2 ^ 36 := by omega
  clear n1 g1 q1 r1 le1
  obtain ⟨y1, e1⟩ : ∃ y, y = jd_1 x := ⟨_, rfl⟩
  rw [← e1] at s1 s2 b1 ⊢
  clear e1
  have r2 : l64 (jd_sr y1 (nI 2)) = l64 y1 / 4 := jsr (k := 2) (by decide) y1
  have q2 : l64 (y1 &&& 3689348814741910323) = (l64 y1 &&& bm2 16) := by rw [l64_and, l2]
  have q3 : l64 (jd_sr y1 (nI 2) &&& 3689348814741910323) = (l64 y1 / 4 &&& bm2 16) := by rw [l64_and, r2, l2]
  have le2 : (l64 y1 &&& bm2 16) ≤ l64 y1 := Nat.and_le_left
  have le3 : (l64 y1 / 4 &&& bm2 16) ≤ l64 y1 / 4 := Nat.and_le_left
  have g2 : l64 (y1 &&& 3689348814741910323) + l64 (jd_sr y1 (nI 2) &&& 3689348814741910323) < 2 ^ 64 := by rw [q2, q3]; omega
  have n2 : l64 (jd_2 y1) = (l64 y1 &&& bm2 16) + (l64 y1 / 4 &&& bm2 16) := (l64_add g2).trans (by rw [q2, q3])
  obtain ⟨s3, s4⟩ := bs2 16 (l64 y1) s1
  rw [← n2] at s3 s4
  have b2 : l64 (jd_2 y1) < 2 ^ 37 := by omega
  rw [s2] at s4
  clear n2 g2 q2 q3 r2 le2 le3 s1 s2 b1
  obtain ⟨y2, e2⟩ : ∃ y, y = jd_2 y1 := ⟨_, rfl⟩
  rw [← e2] at s3 s4 b2 ⊢
  clear e2
  have r3 : l64 (jd_sr y2 (nI 4)) = l64 y2 / 16 := jsr (k := 4) (by decide) y2
  have g3 : l64 y2 + l64 (jd_sr y2 (nI 4)) < 2 ^ 64 := by rw [r3]; omega
  have a3 : l64 (y2 + jd_sr y2 (nI 4)) = l64 y2 + l64 y2 / 16 := (l64_add g3).trans (by rw [r3])
  have n3 : l64 (jd_3 y2) = ((l64 y2 + l64 y2 / 16) &&& bm3 8) := (l64_and _ _).trans (by rw [a3, l3])
  obtain ⟨s5, s6⟩ := bs3 8 (l64 y2) s3
  have le4 : ((l64 y2 + l64 y2 / 16) &&& bm3 8) ≤ l64 y2 + l64 y2 / 16 := Nat.and_le_left
  rw [← n3] at s5 s6
  have b3 : l64 (jd_3 y2) < 2 ^ 38 := by omega
  rw [s4] at s6
  clear n3 a3 g3 r3 le4 s3 s4 b2
  obtain ⟨y3, e3⟩ : ∃ y, y = jd_3 y2 := ⟨_, rfl⟩
  rw [← e3] at s5 s6 b3 ⊢
  clear e3
  have r4 : l64 (jd_sr y3 (nI 8)) = l64 y3 / 256 := jsr (k := 8) (by decide) y3
  have g4 : l64 y3 + l64 (jd_sr y3 (nI 8)) < 2 ^ 64 := by rw [r4]; omega
  have n4 : l64 (jd_4 y3) = l64 y3 + l64 y3 / 256 := (l64_add g4).trans (by rw [r4])
  have r5 : l64 (jd_sr (jd_4 y3) (nI 16)) = l64 (jd_4 y3) / 65536 := jsr (k := 16) (by decide) (jd_4 y3)
  have g5 : l64 (jd_4 y3) + l64 (jd_sr (jd_4 y3) (nI 16)) < 2 ^ 64 := by rw [r5]; omega
  have n5 : l64 (jd_5 (jd_4 y3)) = l64 (jd_4 y3) + l64 (jd_4 y3) / 65536 := (l64_add g5).trans (by rw [r5])
  have r6 : l64 (jd_sr (jd_5 (jd_4 y3)) (nI 32)) = l64 (jd_5 (jd_4 y3)) / 4294967296 := jsr (k := 32) (by decide) (jd_5 (jd_4 y3))
  have g6 : l64 (jd_5 (jd_4 y3)) + l64 (jd_sr (jd_5 (jd_4 y3)) (nI 32)) < 2 ^ 64 := by rw [r6]; omega
  have n6 : l64 (jd_6 (jd_5 (jd_4 y3))) = l64 (jd_5 (jd_4 y3)) + l64 (jd_5 (jd_4 y3)) / 4294967296 := (l64_add g6).trans (by rw [r6])
  have s7 := bs4 (l64 y3) (by omega) s5
  rw [← n4, ← n5, ← n6, s6] at s7
  have s8 : pcn (2 * 32) (l64 x) = pcn 36 (l64 x) := pcn_hi 36 28 (l64 x) h
  rw [s8] at s7
  apply Int32.toBitVec_inj.mp
  apply BitVec.eq_of_toNat_eq
  show ((jd_6 (jd_5 (jd_4 y3))).toBitVec.signExtend 32 &&& (nI 127).toBitVec).toNat = (BitVec.ofNat 32 (pcn 36 (l64 x))).toNat
  rw [BitVec.toNat_and, BitVec.signExtend_eq_setWidth_of_le _ (by decide), BitVec.toNat_setWidth, show (nI 127).toBitVec.toNat = 2 ^ 7 - 1 by decide +kernel, Nat.and_two_pow_sub_one_eq_mod, BitVec.toNat_ofNat, ← s7]
  show l64 (jd_6 (jd_5 (jd_4 y3))) % 2 ^ 32 % 2 ^ 7 = l64 (jd_6 (jd_5 (jd_4 y3))) % 128 % 2 ^ 32
  omega
theorem bit_i {x : Int64} (h : l64 x < 2 ^ 36) {i : Nat} (hi : i < 36) : ((x >>> ((nI i).toInt64 &&& 63)) &&& 1 = 1) ↔ l64 x / 2 ^ i % 2 = 1 := by
  obtain ⟨k1, -⟩ := us_k i (by omega)
  have kn : (BitVec.ofNat 64 i).toNat = i := by
    rw [BitVec.toNat_ofNat]
    exact Nat.mod_eq_of_lt (by omega)
  have ms : x.toBitVec.msb = false := by
    rw [BitVec.msb_eq_decide]
    exact decide_eq_false (by have : x.toBitVec.toNat < 2 ^ 36 := h; omega)
  have e1 : (x >>> ((nI i).toInt64 &&& 63)).toBitVec = x.toBitVec >>> i := by
    rw [Int64.toBitVec_shiftRight, k1, BitVec.sshiftRight', kn, BitVec.sshiftRight_eq_of_msb_false ms]
  have e2 : l64 ((x >>> ((nI i).toInt64 &&& 63)) &&& 1) = l64 x / 2 ^ i % 2 := by
    rw [l64_and]
    show (x >>> ((nI i).toInt64 &&& 63)).toBitVec.toNat &&& 1 = _
    rw [e1, BitVec.toNat_ushiftRight, Nat.shiftRight_eq_div_pow, Nat.and_one_is_mod]
  constructor
  · intro e
    rw [← e2, e]
    rfl
  · intro e
    apply Int64.toBitVec_inj.mp
    apply BitVec.eq_of_toNat_eq
    exact e2.trans e
theorem mon_pcn {x : Int64} (h : l64 x < 2 ^ 36) : ∀ (m i c : Nat), i + m ≤ 36 → mon x m i (nI c) = nI (c + pcn m (l64 x / 2 ^ i))
  | 0, i, c, _ => rfl
  | m + 1, i, c, hm => by
    rw [mon_s x m i (nI c)]
    have e3 : l64 x / 2 ^ (i + 1) = l64 x / 2 ^ i / 2 := by rw [Nat.pow_succ, Nat.div_div_eq_div_mul]
    show _ = nI (c + (l64 x / 2 ^ i % 2 + pcn m (l64 x / 2 ^ i / 2)))
    by_cases e : l64 x / 2 ^ i % 2 = 1
    · rw [if_pos ((bit_i h (by omega)).mpr e), nI_add, mon_pcn h m (i + 1) (c + 1) (by omega), e3, e]
      exact congrArg nI (by omega)
    · rw [if_neg (fun u => e ((bit_i h (by omega)).mp u)), mon_pcn h m (i + 1) c (by omega), e3]
      exact congrArg nI (by omega)
theorem bc_mon {x : Int64} (h : l64 x < 2 ^ 36) : jd_bcL x = mon x 36 0 (nI 0) := by
  rw [bc_pcn h, mon_pcn h 36 0 0 (by omega), Nat.pow_zero, Nat.div_one, Nat.zero_add]
/-! present has no bit of no ROW -/
abbrev pz (z : sh_S) : Prop := l64 z.2.2.2.2.2 < 2 ^ 36
theorem pz_bit : ∀ r : Nat, r < 36 → l64 ((1 : Int64) <<< ((nI r).toInt64 &&& 63)) < 2 ^ 36 := by decide +kernel
theorem l64_or (a b : Int64) : l64 (a ||| b) = (l64 a ||| l64 b) := by
  show (a ||| b).toBitVec.toNat = _
  rw [Int64.toBitVec_or, BitVec.toNat_or]
theorem pz_source {z : sh_S} {q : Int32} (h : pz z) : pz (sh_source z q).2 := by
  unfold pz
  rw [show (sh_source z q).2.2.2.2.2.2 = z.2.2.2.2.2 by rw [sh_source_r]]
  exact h
theorem pz_row {z : sh_S} {q : Int32} (h : pz z) : pz (sh_row z q).2 := by
  unfold sh_row
  split
  · exact h
  · split
    · exact h
    · show l64 (z.2.2.2.2.2 ||| (1 : Int64) <<< ((nI z.2.2.1).toInt64 &&& 63)) < 2 ^ 36
      rw [l64_or]
      exact Nat.or_lt_two_pow h (pz_bit _ (by omega))
theorem pz_drop {z : sh_S} {q on : Int32} (h : pz z) (h36 : z.2.2.1 ≤ 36) : pz (sh_drop z q on).2 := by
  unfold sh_drop
  split
  · exact h
  · rename_i hb
    obtain ⟨r, hr, rfl⟩ := nI_of_lt (k := z.2.2.1) (by omega) (fun e => hb (Or.inl e)) (fun e => hb (Or.inr e))
    show l64 (dp_pr z.2.2.2.2.2 (nI r) on) < 2 ^ 36
    unfold dp_pr
    split
    · rw [l64_or]
      exact Nat.or_lt_two_pow h (pz_bit _ (by omega))
    · rw [l64_and]
      exact Nat.lt_of_le_of_lt Nat.and_le_left h
theorem pz_node {z : sh_S} {w : Int32} (h : pz z) : pz (sh_node z w).2 := by
  unfold sh_node
  split <;> exact h
theorem pz_scan {z : sh_S} {q : Int32} (h : pz z) : pz (sh_scan z q).2 := by
  unfold sh_scan
  split
  · exact h
  · exact pz_node h
theorem pz_pick {z : sh_S} {q k sg ot : Int32} (h : pz z) : pz (sh_pick z q k sg ot).2 := by
  unfold sh_pick
  split
  · exact h
  · split
    · exact h
    · exact pz_node h
theorem pz_join {z : sh_S} {a b i j : Int32} (h : pz z) : pz (sh_join z a b i j).2 := by
  unfold sh_join
  split
  · exact h
  · split
    · exact h
    · exact pz_node h
theorem pz_pair {z : sh_S} {a b : Int32} (h : pz z) : pz (sh_pair z a b).2 := by
  unfold sh_pair
  split
  · exact h
  · split
    · exact h
    · exact pz_node h
theorem pz_fold {z : sh_S} {q k j kd : Int32} (h : pz z) : pz (sh_fold z q k j kd).2 := by
  unfold sh_fold
  split
  · exact h
  · split
    · exact h
    · exact pz_node h
theorem pz_cols {z : sh_S} {q d : Int32} (h : pz z) : pz (sh_cols z q d).2 := by
  unfold sh_cols
  split
  · exact h
  · split
    · exact h
    · split
      · exact h
      · exact pz_node h
theorem pz_columns {z : sh_S} {q : Int32} (h : pz z) : pz (sh_columns z q).2 := by
  unfold sh_columns
  split <;> exact h
theorem pz_clear {z : sh_S} : pz (sh_clear z) := by
  show l64 0 < 2 ^ 36
  decide +kernel
/-- what one round of the law leaves, present among it -/
def lgp_ok (ids : Nat → ClassId) (h : rl_H) (n x : Nat) : Prop := ∃ (s : cl_S) (c : cl_N) (z : sh_S) (res : List arow) (rw : Nat), cl_ok ids h n x (x + 94) s c ∧ sh_R s c z ∧ cl_dp ids h s c ∧ cl_rs s c res rw ∧ mdd ids h (x + 70) z s.2.1 s.2.2.1 c.2.2.2.1 res rw ∧ (∃ of : Nat → Int64, h (x + 93) = some (.inl (ids 1, 1, .inr (.inl of)))) ∧ pz z
theorem lgp_ok.of {ids : Nat → ClassId} {h h1 h2 : rl_H} {n1 x : Nat} {s : cl_S} {c : cl_N} {z : sh_S} {res : List arow} {rw : Nat} {of : Nat → Int64} (hou : h (x + 93) = some (.inl (ids 1, 1, .inr (.inl of)))) (f1 : cl_fr h h1 x (x + 94)) (hk : cl_ok ids h1 n1 x (x + 94) s c) (hR : sh_R s c z) (hd : cl_dp ids h1 s c) (hrs : cl_rs s c res rw) (hm : mdd ids h2 (x + 70) z s.2.1 s.2.2.1 c.2.2.2.1 res rw) (f2 : rl_fr h1 h2 (x + 70) (x + 70 + 23)) (hp : pz z) : lgp_ok ids h2 n1 x :=
  ⟨s, c, z, res, rw, hk.eqv (Nat.le_refl _) (fun q hq => f2 q (by omega)), hR, hd.eqv (cl_nc hk).1 (fun k hk9 q a b => f2 q (by have := hk.2.2.2.1 k hk9; omega)), hrs, hm, ⟨of, (f2 _ (by omega)).trans ((f1 _ (by omega) (by omega)).trans hou)⟩, hp⟩
theorem told_eq {w r1 r2 a0 a1 a2 a3 a4 a5 : Int32} (H1 : ((w < 0 ∨ nI 5 < w) ∧ r1 = -2) ∨ (w = nI 0 ∧ r1 = a0) ∨ (w = nI 1 ∧ r1 = a1) ∨ (w = nI 2 ∧ r1 = a2) ∨ (w = nI 3 ∧ r1 = a3) ∨ (w = nI 4 ∧ r1 = a4) ∨ (w = nI 5 ∧ r1 = a5)) (H2 : ((w < 0 ∨ nI 5 < w) ∧ r2 = -2) ∨ (w = nI 0 ∧ r2 = a0) ∨ (w = nI 1 ∧ r2 = a1) ∨ (w = nI 2 ∧ r2 = a2) ∨ (w = nI 3 ∧ r2 = a3) ∨ (w = nI 4 ∧ r2 = a4) ∨ (w = nI 5 ∧ r2 = a5)) : r1 = r2 := by
  rcases H1 with ⟨p, e⟩ | ⟨p, e⟩ | ⟨p, e⟩ | ⟨p, e⟩ | ⟨p, e⟩ | ⟨p, e⟩ | ⟨p, e⟩
  all_goals
    rcases H2 with ⟨p2, e2⟩ | ⟨p2, e2⟩ | ⟨p2, e2⟩ | ⟨p2, e2⟩ | ⟨p2, e2⟩ | ⟨p2, e2⟩ | ⟨p2, e2⟩
    all_goals
      first
      | exact e.trans e2.symm
      | exact absurd p (by rw [p2]; decide +kernel)
      | exact absurd p2 (by rw [p]; decide +kernel)
end
