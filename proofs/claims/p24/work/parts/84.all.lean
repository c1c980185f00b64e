section
/-! TERMS as lists: absorbing, adding, what is kept -/
abbrev tT : Type := Int64 × Int64
theorem ts_sub (x y : Int64) : (x &&& (y ^^^ (-1)) = 0) ↔ ∀ i : Nat, x.toBitVec.getLsbD i = true → y.toBitVec.getLsbD i = true := by
  have m1 : (-1 : Int64).toBitVec = BitVec.allOnes 64 := by decide +kernel
  rw [← Int64.toBitVec_inj, Int64.toBitVec_and, Int64.toBitVec_xor, m1]
  constructor
  · intro h i hx
    have h2 := congrArg (fun b => BitVec.getLsbD b i) h
    have hi : i < 64 := by
      rcases Nat.lt_or_ge i 64 with q | q
      · exact q
      · rw [BitVec.getLsbD_of_ge _ _ q] at hx
        cases hx
    simp only [BitVec.getLsbD_and, BitVec.getLsbD_xor, BitVec.getLsbD_allOnes, hx, hi, decide_true, Bool.true_and, Bool.bne_true] at h2
    cases e : y.toBitVec.getLsbD i with
    | true => rfl
    | false =>
      rw [e] at h2
      simp at h2
  · intro h
    apply BitVec.eq_of_getLsbD_eq
    intro i hi
    rw [BitVec.getLsbD_and, BitVec.getLsbD_xor, BitVec.getLsbD_allOnes]
    cases e : x.toBitVec.getLsbD i with
    | false => simp
    | true =>
      rw [h i e]
      simp [hi]
/-- a absorbs b -/
abbrev tle (a b : tT) : Prop := a.1 &&& (b.1 ^^^ (-1)) = 0 ∧ a.2 &&& (b.2 ^^^ (-1)) = 0
theorem tle_rf (a : tT) : tle a a := ⟨(ts_sub _ _).mpr (fun _ h => h), (ts_sub _ _).mpr (fun _ h => h)⟩
theorem tle_tr {a b c : tT} (h : tle a b) (g : tle b c) : tle a c :=
  ⟨(ts_sub _ _).mpr (fun i q => (ts_sub _ _).mp g.1 i ((ts_sub _ _).mp h.1 i q)), (ts_sub _ _).mpr (fun i q => (ts_sub _ _).mp g.2 i ((ts_sub _ _).mp h.2 i q))⟩
theorem ts_anti {x y : Int64} (h : x &&& (y ^^^ (-1)) = 0) (g : y &&& (x ^^^ (-1)) = 0) : x = y := by
  apply Int64.toBitVec_inj.mp
  apply BitVec.eq_of_getLsbD_eq
  intro i _
  have h1 := (ts_sub _ _).mp h i
  have h2 := (ts_sub _ _).mp g i
  cases e : x.toBitVec.getLsbD i with
  | true => exact (h1 e).symm
  | false =>
    cases e2 : y.toBitVec.getLsbD i with
    | false => rfl
    | true =>
      rw [h2 e2] at e
      cases e
theorem tle_anti {a b : tT} (h : tle a b) (g : tle b a) : a = b := Prod.ext (ts_anti h.1 g.1) (ts_anti h.2 g.2)
/-- no ROW is in both sets -/
abbrev tok (a : tT) : Prop := a.1 &&& a.2 = 0
theorem tf_neg {t e : tT} {L : List tT} (h : tle t e) : (e :: L).filter (fun e => decide (¬ tle t e)) = L.filter (fun e => decide (¬ tle t e)) :=
  List.filter_cons_of_neg (p := fun e => decide (¬ tle t e)) (fun u => (show ¬ tle t e from of_decide_eq_true u) h)
theorem tf_pos {t e : tT} {L : List tT} (h : ¬ tle t e) : (e :: L).filter (fun e => decide (¬ tle t e)) = e :: L.filter (fun e => decide (¬ tle t e)) :=
  List.filter_cons_of_pos (p := fun e => decide (¬ tle t e)) (decide_eq_true h)
/-- a TERM more: absorbed, or all that it absorbs goes -/
def tadd (L : List tT) (t : tT) : List tT := if ¬ tok t then L else if ∃ e ∈ L, tle e t then L else L.filter (fun e => decide (¬ tle t e)) ++ [t]
def tfold (H : Nat → tT) : Nat → List tT
  | 0 => []
  | k + 1 => tadd (tfold H k) (H k)
/-- none absorbs another -/
def tac (L : List tT) : Prop := L.Pairwise (fun a b => ¬ tle a b ∧ ¬ tle b a)
theorem tadd_ac {L : List tT} (h : tac L) (t : tT) : tac (tadd L t) := by
  unfold tadd
  split
  · exact h
  · split
    · exact h
    · rename_i h1 h2
      refine List.pairwise_append.mpr ⟨h.filter _, List.pairwise_singleton _ _, fun a ha b hb => ?_⟩
      rw [List.mem_singleton.mp hb]
      have := List.mem_filter.mp ha
      exact ⟨fun q => h2 ⟨a, this.1, q⟩, of_decide_eq_true this.2⟩
theorem tfold_ac (H : Nat → tT) : ∀ k : Nat, tac (tfold H k)
  | 0 => List.Pairwise.nil
  | k + 1 => tadd_ac (tfold_ac H k) _
theorem tfold_mem {H : Nat → tT} : ∀ {k : Nat} {e : tT}, e ∈ tfold H k → ∃ i : Nat, i < k ∧ e = H i
  | 0, e, h => by cases h
  | k + 1, e, h => by
    unfold tfold tadd at h
    split at h
    · obtain ⟨i, h1, h2⟩ := tfold_mem h
      exact ⟨i, by omega, h2⟩
    · split at h
      · obtain ⟨i, h1, h2⟩ := tfold_mem h
        exact ⟨i, by omega, h2⟩
      · rcases List.mem_append.mp h with h | h
        · obtain ⟨i, h1, h2⟩ := tfold_mem (List.mem_filter.mp h).1
          exact ⟨i, by omega, h2⟩
        · exact ⟨k, by omega, List.mem_singleton.mp h⟩
/-- each TERM that came is absorbed by one that is left -/
theorem tfold_min {H : Nat → tT} : ∀ {k : Nat}, (∀ i : Nat, i < k → tok (H i)) → ∀ j : Nat, j < k → ∃ e ∈ tfold H k, tle e (H j)
  | 0, _, j, hj => absurd hj (Nat.not_lt_zero j)
  | k + 1, ho, j, hj => by
    have ih := tfold_min (H := H) (k := k) (fun i hi => ho i (by omega))
    unfold tfold tadd
    rw [if_neg (fun q => q (ho k (by omega)))]
    split
    · rename_i h2
      by_cases e : j = k
      · subst e
        exact h2
      · exact ih j (by omega)
    · rename_i h2
      by_cases e : j = k
      · subst e
        exact ⟨H j, List.mem_append_right _ (List.mem_singleton.mpr rfl), tle_rf _⟩
      · obtain ⟨a, ha, hb⟩ := ih j (by omega)
        by_cases q : tle (H k) a
        · exact ⟨H k, List.mem_append_right _ (List.mem_singleton.mpr rfl), tle_tr q hb⟩
        · exact ⟨a, List.mem_append_left _ (List.mem_filter.mpr ⟨ha, decide_eq_true q⟩), hb⟩
/-- what another absorbs goes (of like ones all but the first) -/
abbrev tgo (H : Nat → tT) (k j : Nat) : Prop := ∃ i ∈ List.range k, tle (H i) (H j) ∧ (H i ≠ H j ∨ i < j)
def tkeep (H : Nat → tT) (k : Nat) : Nat → List tT
  | 0 => []
  | j + 1 => if tgo H k j then tkeep H k j else tkeep H k j ++ [H j]
theorem tgo_s {H : Nat → tT} {k j : Nat} : tgo H (k + 1) j ↔ tgo H k j ∨ (tle (H k) (H j) ∧ (H k ≠ H j ∨ k < j)) := by
  constructor
  · rintro ⟨i, hi, h⟩
    have hi := List.mem_range.mp hi
    by_cases e : i = k
    · subst e
      exact Or.inr h
    · exact Or.inl ⟨i, List.mem_range.mpr (by omega), h⟩
  · rintro (⟨i, hi, h⟩ | h)
    · exact ⟨i, List.mem_range.mpr (by have := List.mem_range.mp hi; omega), h⟩
    · exact ⟨k, List.mem_range.mpr (by omega), h⟩
theorem tkeep_same {H : Nat → tT} {k : Nat} : ∀ j : Nat, (∀ i : Nat, i < j → (tgo H (k + 1) i ↔ tgo H k i)) → tkeep H (k + 1) j = tkeep H k j
  | 0, _ => rfl
  | j + 1, h => by
    unfold tkeep
    rw [tkeep_same j (fun i hi => h i (by omega))]
    by_cases q : tgo H k j
    · rw [if_pos q, if_pos ((h j (by omega)).mpr q)]
    · rw [if_neg q, if_neg (fun w => q ((h j (by omega)).mp w))]
theorem tkeep_filt {H : Nat → tT} {k : Nat} {t : tT} : ∀ j : Nat, (∀ i : Nat, i < j → (tgo H (k + 1) i ↔ tgo H k i ∨ tle t (H i))) → tkeep H (k + 1) j = (tkeep H k j).filter (fun e => decide (¬ tle t e))
  | 0, _ => rfl
  | j + 1, h => by
    unfold tkeep
    rw [tkeep_filt j (fun i hi => h i (by omega))]
    by_cases q : tgo H k j
    · rw [if_pos q, if_pos ((h j (by omega)).mpr (Or.inl q))]
    · rw [if_neg q, List.filter_append]
      by_cases w : tle t (H j)
      · rw [if_pos ((h j (by omega)).mpr (Or.inr w)), tf_neg w, List.filter_nil, List.append_nil]
      · rw [if_neg (fun u => ((h j (by omega)).mp u).elim q w)]
        rw [tf_pos w, List.filter_nil]
/-- adding one by one leaves just what nothing makes go -/
theorem tfold_keep {H : Nat → tT} : ∀ k : Nat, (∀ i : Nat, i < k → tok (H i)) → tfold H k = tkeep H k k
  | 0, _ => rfl
  | k + 1, ho => by
    have ih := tfold_keep k (fun i hi => ho i (by omega))
    have hmin := tfold_min (H := H) (k := k) (fun i hi => ho i (by omega))
    show tadd (tfold H k) (H k) = if tgo H (k + 1) k then tkeep H (k + 1) k else tkeep H (k + 1) k ++ [H k]
    unfold tadd
    rw [if_neg (fun q => q (ho k (by omega)))]
    by_cases q : ∃ e ∈ tfold H k, tle e (H k)
    · rw [if_pos q]
      obtain ⟨e, he, hle⟩ := q
      obtain ⟨i, hi, rfl⟩ := tfold_mem he
      rw [if_pos ⟨i, List.mem_range.mpr (by omega), hle, Or.inr hi⟩, tkeep_same k (fun j hj => ?_), ih]
      rw [tgo_s]
      refine ⟨fun w => w.elim id (fun w => ?_), Or.inl⟩
      have h1 : tle (H i) (H j) := tle_tr hle w.1
      by_cases e : H i = H j
      · rcases w.2 with u | u
        · exact absurd (tle_anti w.1 (by rw [← e]; exact hle)) u
        · omega
      · exact ⟨i, List.mem_range.mpr hi, h1, Or.inl e⟩
    · rw [if_neg q]
      have nt : ∀ i : Nat, i < k → ¬ tle (H i) (H k) := fun i hi w => by
        obtain ⟨e, he, h1⟩ := hmin i hi
        exact q ⟨e, he, tle_tr h1 w⟩
      have ng : ¬ tgo H (k + 1) k := by
        rintro ⟨i, hi, h1, h2⟩
        have hi := List.mem_range.mp hi
        by_cases e : i = k
        · subst e
          rcases h2 with h2 | h2
          · exact h2 rfl
          · omega
        · exact nt i (by omega) h1
      rw [if_neg ng, tkeep_filt (t := H k) k (fun j hj => ?_), ih]
      rw [tgo_s]
      refine or_congr_right ⟨fun w => w.1, fun w => ⟨w, Or.inl (fun e => nt j hj (by rw [← e]; exact tle_rf _))⟩⟩
/-! the same in arrays -/
def tls (F G : Nat → Int64) : Nat → List tT
  | 0 => []
  | k + 1 => tls F G k ++ [(F k, G k)]
def tsg (F G : Nat → Int64) : Nat → Nat → List tT
  | _, 0 => []
  | j, m + 1 => (F j, G j) :: tsg F G (j + 1) m
theorem tls_eq {F G F' G' : Nat → Int64} : ∀ {k : Nat}, (∀ i : Nat, i < k → F' i = F i ∧ G' i = G i) → tls F' G' k = tls F G k
  | 0, _ => rfl
  | k + 1, h => by
    unfold tls
    rw [tls_eq (k := k) (fun i hi => h i (by omega)), (h k (by omega)).1, (h k (by omega)).2]
theorem tsg_eq {F G F' G' : Nat → Int64} : ∀ {m j : Nat}, (∀ i : Nat, j ≤ i → i < j + m → F' i = F i ∧ G' i = G i) → tsg F' G' j m = tsg F G j m
  | 0, _, _ => rfl
  | m + 1, j, h => by
    unfold tsg
    rw [tsg_eq (m := m) (fun i h1 h2 => h i (by omega) (by omega)), (h j (by omega) (by omega)).1, (h j (by omega) (by omega)).2]
theorem tls_sg (F G : Nat → Int64) : ∀ (m j : Nat), tls F G (j + m) = tls F G j ++ tsg F G j m
  | 0, j => by rw [Nat.add_zero, tsg, List.append_nil]
  | m + 1, j => by
    rw [show j + (m + 1) = (j + 1) + m by omega, tls_sg F G m (j + 1), tls, tsg, List.append_assoc, List.singleton_append]
theorem tls_mem {F G : Nat → Int64} : ∀ {k : Nat} {e : tT}, e ∈ tls F G k ↔ ∃ i : Nat, i < k ∧ e = (F i, G i)
  | 0, e => by
    constructor
    · intro h
      cases h
    · rintro ⟨i, h, -⟩
      omega
  | k + 1, e => by
    rw [tls, List.mem_append, tls_mem, List.mem_singleton]
    constructor
    · rintro (⟨i, h1, h2⟩ | h)
      · exact ⟨i, by omega, h2⟩
      · exact ⟨k, by omega, h⟩
    · rintro ⟨i, h1, h2⟩
      by_cases q : i = k
      · subst q
        exact Or.inr h2
      · exact Or.inl ⟨i, by omega, h2⟩
theorem tls_len (F G : Nat → Int64) : ∀ k : Nat, (tls F G k).length = k
  | 0 => rfl
  | k + 1 => by rw [tls, List.length_append, tls_len F G k]; rfl
theorem tls_fold {F G : Nat → Int64} : ∀ {k : Nat}, tls F G k = (List.range k).map (fun i => (F i, G i))
  | 0 => rfl
  | k + 1 => by rw [tls, tls_fold, List.range_succ, List.map_append]; rfl
theorem up_ne {f : Nat → Int64} {k i : Nat} {x : Int64} (h : i ≠ k) : vp_updL f k x i = f i := if_neg h
theorem up_at {f : Nat → Int64} {k : Nat} {x : Int64} : vp_updL f k x k = x := if_pos rfl
theorem up_same (f : Nat → Int64) (k : Nat) : vp_updL f k (f k) = f := by
  funext i
  by_cases q : i = k
  · subst q
    exact up_at
  · exact up_ne q
/-- nothing absorbs the new one: what it absorbs goes -/
theorem dr_go_kept (a b : Int64) : ∀ (m j p : Nat) (F G : Nat → Int64), p ≤ j → (∀ i : Nat, j ≤ i → i < j + m → ¬ tle (F i, G i) (a, b)) → ∃ (F' G' : Nat → Int64) (p' : Nat), dr_go a b m j p F G = .inr (F', G', p') ∧ p' ≤ p + m ∧ tls F' G' p' = tls F G p ++ (tsg F G j m).filter (fun e => decide (¬ tle (a, b) e))
  | 0, j, p, F, G, _, _ => ⟨F, G, p, rfl, Nat.le_refl _, by rw [tsg, List.filter_nil, List.append_nil]⟩
  | m + 1, j, p, F, G, hp, h => by
    unfold dr_go
    rw [if_neg (h j (Nat.le_refl _) (by omega))]
    by_cases q : tle (a, b) (F j, G j)
    · rw [if_neg (fun w => w.elim (fun w => w q.1) (fun w => w q.2))]
      obtain ⟨F', G', p', e1, e2, e3⟩ := dr_go_kept a b m (j + 1) p F G (by omega) (fun i h1 h2 => h i (by omega) (by omega))
      refine ⟨F', G', p', e1, by omega, ?_⟩
      rw [e3, tsg, tf_neg q]
    · have q2 : ¬ a &&& (F j ^^^ (-1)) = 0 ∨ ¬ b &&& (G j ^^^ (-1)) = 0 := by
        by_cases u : a &&& (F j ^^^ (-1)) = 0
        · exact Or.inr (fun v => q ⟨u, v⟩)
        · exact Or.inl u
      rw [if_pos q2]
      have hF : ∀ i : Nat, j + 1 ≤ i → vp_updL F p (F j) i = F i ∧ vp_updL G p (G j) i = G i := fun i hi => ⟨up_ne (by omega), up_ne (by omega)⟩
      obtain ⟨F', G', p', e1, e2, e3⟩ := dr_go_kept a b m (j + 1) (p + 1) (vp_updL F p (F j)) (vp_updL G p (G j)) (by omega) (fun i h1 h2 => by
        rw [(hF i h1).1, (hF i h1).2]
        exact h i (by omega) (by omega))
      refine ⟨F', G', p', e1, by omega, ?_⟩
      rw [e3, tls, tsg_eq (F := F) (G := G) (fun i h1 _ => hF i h1), tls_eq (F := F) (G := G) (fun i hi => ⟨up_ne (by omega), up_ne (by omega)⟩), up_at, up_at, tsg, tf_pos q, List.append_assoc, List.singleton_append]
/-- one absorbs the new one: nothing has changed -/
theorem dr_go_same (a b : Int64) : ∀ (m j : Nat) (F G : Nat → Int64), (∀ i : Nat, j ≤ i → i < j + m → tle (F i, G i) (a, b) ∨ ¬ tle (a, b) (F i, G i)) → (∃ i : Nat, j ≤ i ∧ i < j + m ∧ tle (F i, G i) (a, b)) → dr_go a b m j j F G = .inl (F, G)
  | 0, j, F, G, _, h => by
    obtain ⟨i, h1, h2, -⟩ := h
    omega
  | m + 1, j, F, G, h, hx => by
    unfold dr_go
    by_cases q : tle (F j, G j) (a, b)
    · rw [if_pos q]
    · rw [if_neg q]
      have q1 := (h j (Nat.le_refl _) (by omega)).resolve_left q
      have q2 : ¬ a &&& (F j ^^^ (-1)) = 0 ∨ ¬ b &&& (G j ^^^ (-1)) = 0 := by
        by_cases u : a &&& (F j ^^^ (-1)) = 0
        · exact Or.inr (fun v => q1 ⟨u, v⟩)
        · exact Or.inl u
      rw [if_pos q2, up_same, up_same]
      refine dr_go_same a b m (j + 1) F G (fun i h1 h2 => h i (by omega) (by omega)) ?_
      obtain ⟨i, h1, h2, h3⟩ := hx
      by_cases e : i = j
      · subst e
        exact absurd h3 q
      · exact ⟨i, by omega, by omega, h3⟩
theorem tac_tls {F G : Nat → Int64} {k i j : Nat} (h : tac (tls F G k)) (hi : i < k) (hj : j < k) (hij : i ≠ j) : ¬ tle (F i, G i) (F j, G j) := by
  rw [tls_fold] at h
  unfold tac at h
  have h2 := List.pairwise_iff_getElem.mp h
  have li : i < ((List.range k).map (fun i => (F i, G i))).length := by simpa using hi
  have lj : j < ((List.range k).map (fun i => (F i, G i))).length := by simpa using hj
  rcases Nat.lt_or_gt_of_ne hij with q | q
  · have := (h2 i j li lj q).1
    simpa using this
  · have := (h2 j i lj li q).2
    simpa using this
/-- adding to the draft is adding to the list -/
theorem dr_add_list (a b : Int64) (s : dr_S) (hac : tac (tls s.1 s.2.1 s.2.2)) (hs : s.2.2 < 432) : tls (dr_add a b s).1 (dr_add a b s).2.1 (dr_add a b s).2.2 = tadd (tls s.1 s.2.1 s.2.2) (a, b) := by
  unfold dr_add tadd
  by_cases ho : a &&& b = 0
  · rw [if_pos ho, if_neg (fun q => q ho)]
    by_cases q : ∃ e ∈ tls s.1 s.2.1 s.2.2, tle e (a, b)
    · rw [if_pos q]
      obtain ⟨e, he, hle⟩ := q
      obtain ⟨i, hi, rfl⟩ := tls_mem.mp he
      rw [dr_go_same a b s.2.2 0 s.1 s.2.1 (fun j _ hj => ?_) ⟨i, Nat.zero_le _, by omega, hle⟩]
      by_cases w : tle (a, b) (s.1 j, s.2.1 j)
      · by_cases e : i = j
        · subst e
          exact Or.inl hle
        · exact absurd (tle_tr hle w) (tac_tls hac hi (by omega) e)
      · exact Or.inr w
    · rw [if_neg q]
      obtain ⟨F', G', p', e1, e2, e3⟩ := dr_go_kept a b s.2.2 0 0 s.1 s.2.1 (Nat.le_refl _) (fun i _ hi w => q ⟨_, tls_mem.mpr ⟨i, by omega, rfl⟩, w⟩)
      rw [e1]
      dsimp only
      rw [if_pos (by omega)]
      dsimp only
      rw [tls, up_at, up_at, tls_eq (F := F') (G := G') (fun i hi => ⟨up_ne (by omega), up_ne (by omega)⟩), e3, tls, List.nil_append]
      have e4 := tls_sg s.1 s.2.1 s.2.2 0
      rw [Nat.zero_add, tls, List.nil_append] at e4
      rw [e4]
  · rw [if_neg ho, if_pos ho]
/-! how far a draft may shrink: what was there is there at the end, or one of a few -/
def tfl (C : List tT) : List tT := C.foldl tadd []
theorem tfl_app (C D : List tT) : tfl (C ++ D) = D.foldl tadd (tfl C) := List.foldl_append
theorem tfl_snoc (C : List tT) (t : tT) : tfl (C ++ [t]) = tadd (tfl C) t := by rw [tfl_app]; rfl
theorem ts_rev {P : List tT → Prop} (h0 : P []) (h1 : ∀ (C : List tT) (t : tT), P C → P (C ++ [t])) (C : List tT) : P C := by
  have h : ∀ D : List tT, P D.reverse := by
    intro D
    induction D with
    | nil => exact h0
    | cons a D ih =>
      rw [List.reverse_cons]
      exact h1 _ _ ih
  have := h C.reverse
  rwa [List.reverse_reverse] at this
theorem tfl_ac (C : List tT) : tac (tfl C) := by
  refine ts_rev (P := fun C => tac (tfl C)) List.Pairwise.nil (fun C t h => ?_) C
  show tac (tfl (C ++ [t]))
  rw [tfl_snoc]
  exact tadd_ac h t
theorem tadd_mem {L : List tT} {t e : tT} (h : e ∈ tadd L t) : e ∈ L ∨ (e = t ∧ tok t) := by
  unfold tadd at h
  split at h
  · exact Or.inl h
  · split at h
    · exact Or.inl h
    · rename_i h1 h2
      rcases List.mem_append.mp h with h | h
      · exact Or.inl (List.mem_filter.mp h).1
      · exact Or.inr ⟨List.mem_singleton.mp h, Decidable.not_not.mp h1⟩
theorem tfl_mem {C : List tT} : ∀ {e : tT}, e ∈ tfl C → e ∈ C ∧ tok e := by
  refine ts_rev (P := fun C => ∀ {e : tT}, e ∈ tfl C → e ∈ C ∧ tok e) (fun h => by cases h) (fun C t ih e h => ?_) C
  rw [tfl_snoc] at h
  rcases tadd_mem h with h | ⟨rfl, h⟩
  · exact ⟨List.mem_append_left _ (ih h).1, (ih h).2⟩
  · exact ⟨List.mem_append_right _ (List.mem_singleton.mpr rfl), h⟩
theorem tadd_min {L : List tT} {t a : tT} (h : (∃ e ∈ L, tle e a) ∨ (a = t ∧ tok t)) : ∃ e ∈ tadd L t, tle e a := by
  unfold tadd
  split
  · rename_i h1
    rcases h with h | ⟨-, h⟩
    · exact h
    · exact absurd h h1
  · split
    · rename_i h1 h2
      rcases h with h | ⟨rfl, -⟩
      · exact h
      · exact h2
    · rename_i h1 h2
      rcases h with ⟨e, he, hle⟩ | ⟨rfl, -⟩
      · by_cases q : tle t e
        · exact ⟨t, List.mem_append_right _ (List.mem_singleton.mpr rfl), tle_tr q hle⟩
        · exact ⟨e, List.mem_append_left _ (List.mem_filter.mpr ⟨he, decide_eq_true q⟩), hle⟩
      · exact ⟨a, List.mem_append_right _ (List.mem_singleton.mpr rfl), tle_rf _⟩
theorem tfl_min {C : List tT} : ∀ {a : tT}, a ∈ C → tok a → ∃ e ∈ tfl C, tle e a := by
  refine ts_rev (P := fun C => ∀ {a : tT}, a ∈ C → tok a → ∃ e ∈ tfl C, tle e a) (fun h => by cases h) (fun C t ih a h ho => ?_) C
  rw [tfl_snoc]
  refine tadd_min ?_
  rcases List.mem_append.mp h with h | h
  · exact Or.inl (ih h ho)
  · exact Or.inr ⟨List.mem_singleton.mp h, by rw [← List.mem_singleton.mp h]; exact ho⟩
theorem tac_eq {L : List tT} (h : tac L) {a b : tT} (ha : a ∈ L) (hb : b ∈ L) (hab : tle a b) : a = b := by
  obtain ⟨i, hi, rfl⟩ := List.getElem_of_mem ha
  obtain ⟨j, hj, rfl⟩ := List.getElem_of_mem hb
  have h2 := List.pairwise_iff_getElem.mp h
  rcases Nat.lt_trichotomy i j with q | q | q
  · exact absurd hab (h2 i j hi hj q).1
  · subst q
    rfl
  · exact absurd hab (h2 j i hj hi q).2
theorem tac_nd {L : List tT} (h : tac L) : L.Nodup := h.imp (fun q e => q.1 (by rw [e]; exact tle_rf _))
/-- what is gone at the end was absorbed by one that came later -/
theorem tfl_gone {C D : List tT} {e : tT} (he : e ∈ tfl C) (hn : e ∉ tfl (C ++ D)) : ∃ b ∈ D, b ∈ tfl (C ++ D) ∧ tle b e := by
  obtain ⟨h1, h2⟩ := tfl_mem he
  obtain ⟨b, hb, hle⟩ := tfl_min (C := C ++ D) (List.mem_append_left _ h1) h2
  obtain ⟨h3, h4⟩ := tfl_mem hb
  rcases List.mem_append.mp h3 with q | q
  · obtain ⟨a, ha, hab⟩ := tfl_min q h4
    have e1 := tac_eq (tfl_ac C) ha he (tle_tr hab hle)
    subst e1
    have := tle_anti hab hle
    subst this
    exact absurd hb hn
  · exact ⟨b, q, hb, hle⟩
/-- no more than there are codes -/
theorem ts_pig {α : Type} {P : α → Nat → Prop} : ∀ (N : Nat) (L : List α), L.Nodup → (∀ e ∈ L, ∃ c : Nat, c < N ∧ P e c) → (∀ a ∈ L, ∀ b ∈ L, ∀ c : Nat, P a c → P b c → a = b) → L.length ≤ N
  | 0, L, _, h, _ => by
    cases L with
    | nil => exact Nat.le_refl _
    | cons a L =>
      obtain ⟨c, hc, -⟩ := h a List.mem_cons_self
      omega
  | N + 1, L, hd, h, hi => by
    by_cases q : ∃ a ∈ L, P a N
    · obtain ⟨a, ha, hp⟩ := q
      obtain ⟨s, t, rfl⟩ := List.append_of_mem ha
      have hd2 : (s ++ t).Nodup := by
        have h0 := hd
        rw [List.nodup_append] at h0 ⊢
        refine ⟨h0.1, (List.nodup_cons.mp h0.2.1).2, fun x hx y hy => h0.2.2 x hx y (List.mem_cons_of_mem _ hy)⟩
      have hna : ∀ e ∈ s ++ t, e ≠ a := by
        intro e he e1
        subst e1
        have h0 := hd
        rw [List.nodup_append] at h0
        rcases List.mem_append.mp he with q | q
        · exact h0.2.2 e q e List.mem_cons_self rfl
        · exact (List.nodup_cons.mp h0.2.1).1 q
      have hsub : ∀ e ∈ s ++ t, e ∈ s ++ a :: t := by
        intro e he
        rcases List.mem_append.mp he with q | q
        · exact List.mem_append_left _ q
        · exact List.mem_append_right _ (List.mem_cons_of_mem _ q)
      have := ts_pig N (s ++ t) hd2 (fun e he => by
        obtain ⟨c, hc, hp2⟩ := h e (hsub e he)
        refine ⟨c, ?_, hp2⟩
        rcases Nat.lt_or_ge c N with u | u
        · exact u
        · have : c = N := by omega
          subst this
          exact absurd (hi e (hsub e he) a ha c hp2 hp) (hna e he)) (fun x hx y hy c => hi x (hsub x hx) y (hsub y hy) c)
      rw [List.length_append] at this ⊢
      rw [List.length_cons]
      omega
    · have := ts_pig N L hd (fun e he => by
        obtain ⟨c, hc, hp2⟩ := h e he
        refine ⟨c, ?_, hp2⟩
        rcases Nat.lt_or_ge c N with u | u
        · exact u
        · have : c = N := by omega
          subst this
          exact absurd ⟨e, he, hp2⟩ q) hi
      omega
theorem ts_len {L M : List tT} (hd : L.Nodup) (h : ∀ e ∈ L, e ∈ M) : L.length ≤ M.length := by
  refine ts_pig (P := fun e c => M[c]? = some e) M.length L hd (fun e he => ?_) (fun a _ b _ c h1 h2 => Option.some.inj (h1.symm.trans h2))
  obtain ⟨i, hi, e1⟩ := List.getElem_of_mem (h e he)
  exact ⟨i, hi, by rw [List.getElem?_eq_getElem hi, e1]⟩
/-- a draft that was long stays long, where what was there before the last stretch loses little -/
theorem tfl_long {C D : List tT} {Q : tT → Nat → Prop} {N : Nat} (h1 : ∀ e ∈ tfl C, e ∉ tfl (C ++ D) → ∃ c : Nat, c < N ∧ Q e c) (h2 : ∀ a ∈ tfl C, a ∉ tfl (C ++ D) → ∀ b ∈ tfl C, b ∉ tfl (C ++ D) → ∀ c : Nat, Q a c → Q b c → a = b) : (tfl C).length ≤ (tfl (C ++ D)).length + N := by
  have hd := tac_nd (tfl_ac C)
  have e1 := List.length_eq_countP_add_countP (p := fun e => decide (e ∈ tfl (C ++ D))) (l := tfl C)
  rw [List.countP_eq_length_filter, List.countP_eq_length_filter] at e1
  have l1 : ((tfl C).filter (fun e => decide (e ∈ tfl (C ++ D)))).length ≤ (tfl (C ++ D)).length := ts_len (hd.filter _) (fun e he => of_decide_eq_true (List.mem_filter.mp he).2)
  have l2 : ((tfl C).filter (fun e => decide ¬ (decide (e ∈ tfl (C ++ D)) = true))).length ≤ N := by
    refine ts_pig (P := Q) N _ (hd.filter _) (fun e he => ?_) (fun a ha b hb c => ?_)
    · have := List.mem_filter.mp he
      exact h1 e this.1 (fun q => of_decide_eq_true this.2 (decide_eq_true q))
    · have q1 := List.mem_filter.mp ha
      have q2 := List.mem_filter.mp hb
      exact h2 a q1.1 (fun q => of_decide_eq_true q1.2 (decide_eq_true q)) b q2.1 (fun q => of_decide_eq_true q2.2 (decide_eq_true q)) c
  omega
/-! NOT: the TERMS that one turned TERM makes of each -/
abbrev tbt (r : Nat) : Int64 := (1 : Int64) <<< ((nI r).toInt64 &&& 63)
theorem tbt_get (r i : Nat) (hr : r < 36) : (tbt r).toBitVec.getLsbD i = true ↔ i = r := by
  rw [dpb_1 r hr, BitVec.getLsbD_twoPow]
  constructor
  · intro h
    simp at h
    exact h.2.symm
  · rintro rfl
    have : i < 64 := by omega
    simp [this]
def tvar (W : tT) (c e : Int64) (r : Nat) : Option tT := if ¬ c &&& tbt r = 0 then some (W.1, W.2 ||| tbt r) else if ¬ e &&& tbt r = 0 then some (W.1 ||| tbt r, W.2) else none
theorem ts_or (x y : Int64) (i : Nat) : (x ||| y).toBitVec.getLsbD i = (x.toBitVec.getLsbD i || y.toBitVec.getLsbD i) := by
  rw [Int64.toBitVec_or, BitVec.getLsbD_or]
theorem tvar_le {W b : tT} {c e : Int64} {r : Nat} (h : tvar W c e r = some b) : tle W b := by
  unfold tvar at h
  split at h
  · cases h
    exact ⟨(ts_sub _ _).mpr (fun _ q => q), (ts_sub _ _).mpr (fun i q => by rw [ts_or, q]; rfl)⟩
  · split at h
    · cases h
      exact ⟨(ts_sub _ _).mpr (fun i q => by rw [ts_or, q]; rfl), (ts_sub _ _).mpr (fun _ q => q)⟩
    · cases h
/-- of what comes from one, another absorbs at most one -/
theorem tvar_one {V W a b : tT} {c e : Int64} {r s : Nat} (hr : r < 36) (hs : s < 36) (hn : ¬ tle V W) (ha : tvar W c e r = some a) (hb : tvar W c e s = some b) (la : tle V a) (lb : tle V b) : a = b := by
  have key : (∃ i : Nat, V.1.toBitVec.getLsbD i = true ∧ W.1.toBitVec.getLsbD i = false) ∨ (∃ i : Nat, V.2.toBitVec.getLsbD i = true ∧ W.2.toBitVec.getLsbD i = false) := by
    by_cases q : V.1 &&& (W.1 ^^^ (-1)) = 0
    · have q2 : ¬ V.2 &&& (W.2 ^^^ (-1)) = 0 := fun w => hn ⟨q, w⟩
      rw [ts_sub] at q2
      refine Or.inr (Classical.byContradiction (fun w => q2 (fun i hi => ?_)))
      cases h : W.2.toBitVec.getLsbD i with
      | true => rfl
      | false => exact absurd ⟨i, hi, h⟩ w
    · rw [ts_sub] at q
      refine Or.inl (Classical.byContradiction (fun w => q (fun i hi => ?_)))
      cases h : W.1.toBitVec.getLsbD i with
      | true => rfl
      | false => exact absurd ⟨i, hi, h⟩ w
  have get1 : ∀ {x : tT} {t i : Nat}, t < 36 → tvar W c e t = some x → tle V x → V.1.toBitVec.getLsbD i = true → W.1.toBitVec.getLsbD i = false → t = i ∧ x = (W.1 ||| tbt t, W.2) := by
    intro x t i ht hx hl h1 h2
    have h3 := (ts_sub _ _).mp hl.1 i h1
    unfold tvar at hx
    split at hx
    · cases hx
      rw [h2] at h3
      cases h3
    · split at hx
      · cases hx
        rw [ts_or, h2, Bool.false_or] at h3
        exact ⟨((tbt_get t i ht).mp h3).symm, rfl⟩
      · cases hx
  have get2 : ∀ {x : tT} {t i : Nat}, t < 36 → tvar W c e t = some x → tle V x → V.2.toBitVec.getLsbD i = true → W.2.toBitVec.getLsbD i = false → t = i ∧ x = (W.1, W.2 ||| tbt t) := by
    intro x t i ht hx hl h1 h2
    have h3 := (ts_sub _ _).mp hl.2 i h1
    unfold tvar at hx
    split at hx
    · cases hx
      rw [ts_or, h2, Bool.false_or] at h3
      exact ⟨((tbt_get t i ht).mp h3).symm, rfl⟩
    · split at hx
      · cases hx
        rw [h2] at h3
        cases h3
      · cases hx
  rcases key with ⟨i, h1, h2⟩ | ⟨i, h1, h2⟩
  · obtain ⟨e1, e2⟩ := get1 hr ha la h1 h2
    obtain ⟨e3, e4⟩ := get1 hs hb lb h1 h2
    rw [e2, e4, e1, e3]
  · obtain ⟨e1, e2⟩ := get2 hr ha la h1 h2
    obtain ⟨e3, e4⟩ := get2 hs hb lb h1 h2
    rw [e2, e4, e1, e3]
def tcs (W : Nat → tT) (c e : Int64) (k : Nat) : List tT := (List.range 36).filterMap (tvar (W k) c e)
def tall (W : Nat → tT) (c e : Int64) : Nat → Nat → List tT
  | _, 0 => []
  | a, m + 1 => tcs W c e a ++ tall W c e (a + 1) m
theorem tcs_mem {W : Nat → tT} {c e : Int64} {k : Nat} {t : tT} (h : t ∈ tcs W c e k) : ∃ r : Nat, r < 36 ∧ tvar (W k) c e r = some t := by
  obtain ⟨r, h1, h2⟩ := List.mem_filterMap.mp h
  exact ⟨r, List.mem_range.mp h1, h2⟩
theorem tall_mem {W : Nat → tT} {c e : Int64} {t : tT} : ∀ {m a : Nat}, t ∈ tall W c e a m → ∃ k r : Nat, a ≤ k ∧ k < a + m ∧ r < 36 ∧ tvar (W k) c e r = some t
  | 0, a, h => by cases h
  | m + 1, a, h => by
    rcases List.mem_append.mp h with h | h
    · obtain ⟨r, h1, h2⟩ := tcs_mem h
      exact ⟨a, r, Nat.le_refl _, by omega, h1, h2⟩
    · obtain ⟨k, r, h1, h2, h3, h4⟩ := tall_mem h
      exact ⟨k, r, by omega, by omega, h3, h4⟩
theorem tall_app (W : Nat → tT) (c e : Int64) : ∀ (m n a : Nat), tall W c e a (m + n) = tall W c e a m ++ tall W c e (a + m) n
  | 0, n, a => by rw [Nat.zero_add, Nat.add_zero]; rfl
  | m + 1, n, a => by
    rw [show m + 1 + n = (m + n) + 1 by omega]
    show tcs W c e a ++ tall W c e (a + 1) (m + n) = (tcs W c e a ++ tall W c e (a + 1) m) ++ tall W c e (a + (m + 1)) n
    rw [tall_app W c e m n (a + 1), List.append_assoc, show a + 1 + m = a + (m + 1) by omega]
theorem ts_box {k0 k k2 : Nat} (h0 : k0 ≤ 11) (h1 : k < k0) (h2 : k0 ≤ k2) (h3 : k2 < 12) : k * (12 - k0) + (k2 - k0) < 36 := by
  rcases (by omega : k0 = 0 ∨ k0 = 1 ∨ k0 = 2 ∨ k0 = 3 ∨ k0 = 4 ∨ k0 = 5 ∨ k0 = 6 ∨ k0 = 7 ∨ k0 = 8 ∨ k0 = 9 ∨ k0 = 10 ∨ k0 = 11) with rfl | rfl | rfl | rfl | rfl | rfl | rfl | rfl | rfl | rfl | rfl | rfl <;> omega
theorem ts_box2 {d k l x y : Nat} (h1 : x < d) (h2 : y < d) (h : k * d + x = l * d + y) : k = l ∧ x = y := by
  rcases Nat.lt_trichotomy k l with q | q | q
  · have : (k + 1) * d ≤ l * d := Nat.mul_le_mul_right d q
    rw [Nat.succ_mul] at this
    omega
  · subst q
    omega
  · have : (l + 1) * d ≤ k * d := Nat.mul_le_mul_right d q
    rw [Nat.succ_mul] at this
    omega
/-- NOT's draft never loses more than 72 of its TERMS -/
theorem tnot_long {W : Nat → tT} {c e : Int64} {K k0 : Nat} {P P' : List tT} (hK : K ≤ 12) (hk : k0 < K) (hW : ∀ i : Nat, i < K → ∀ j : Nat, j < K → i ≠ j → ¬ tle (W i) (W j)) (hP : tcs W c e k0 = P ++ P') : (tfl (tall W c e 0 k0 ++ P)).length ≤ (tfl (tall W c e 0 K)).length + 72 := by
  have split : tall W c e 0 K = (tall W c e 0 k0 ++ P) ++ (P' ++ tall W c e (k0 + 1) (K - k0 - 1)) := by
    have e1 := tall_app W c e k0 (K - k0 - 1 + 1) 0
    rw [show k0 + (K - k0 - 1 + 1) = K by omega, Nat.zero_add] at e1
    rw [e1]
    show _ ++ (tcs W c e k0 ++ tall W c e (k0 + 1) (K - k0 - 1)) = _
    rw [hP, List.append_assoc, List.append_assoc]
  rw [split]
  refine tfl_long (Q := fun t d => ∃ k r : Nat, r < 36 ∧ tvar (W k) c e r = some t ∧ ((k < k0 ∧ ∃ k2 : Nat, k0 ≤ k2 ∧ k2 < K ∧ tle (W k2) t ∧ d = k * (12 - k0) + (k2 - k0)) ∨ (k = k0 ∧ d = 36 + r))) (fun t ht hn => ?_) (fun a _ _ b _ _ d => ?_)
  · obtain ⟨h1, h2⟩ := tfl_mem ht
    obtain ⟨b, hb, -, hle⟩ := tfl_gone ht hn
    have hb2 : ∃ k2 s : Nat, k0 ≤ k2 ∧ k2 < K ∧ tvar (W k2) c e s = some b := by
      rcases List.mem_append.mp hb with q | q
      · obtain ⟨s, -, q2⟩ := tcs_mem (k := k0) (by rw [hP]; exact List.mem_append_right _ q)
        exact ⟨k0, s, Nat.le_refl _, hk, q2⟩
      · obtain ⟨k, s, q1, q2, -, q4⟩ := tall_mem q
        exact ⟨k, s, by omega, by omega, q4⟩
    obtain ⟨k2, s, q1, q2, q3⟩ := hb2
    rcases List.mem_append.mp h1 with q | q
    · obtain ⟨k, r, u1, u2, u3, u4⟩ := tall_mem q
      exact ⟨k * (12 - k0) + (k2 - k0), Nat.lt_trans (ts_box (by omega) (by omega) q1 (by omega)) (by decide), k, r, u3, u4, Or.inl ⟨by omega, k2, q1, q2, tle_tr (tvar_le q3) hle, rfl⟩⟩
    · obtain ⟨r, u3, u4⟩ := tcs_mem (k := k0) (by rw [hP]; exact List.mem_append_left _ q)
      exact ⟨36 + r, by omega, k0, r, u3, u4, Or.inr ⟨rfl, rfl⟩⟩
  · rintro ⟨k, r, h1, h2, h3⟩ ⟨l, s, g1, g2, g3⟩
    rcases h3 with ⟨h3, k2, h4, h5, h6, h7⟩ | ⟨rfl, h7⟩
    · have bx := ts_box (k0 := k0) (by omega) h3 h4 (by omega)
      rcases g3 with ⟨g3, l2, g4, g5, g6, g7⟩ | ⟨rfl, g7⟩
      · obtain ⟨e1, e2⟩ := ts_box2 (d := 12 - k0) (by omega) (by omega) (h7.symm.trans g7)
        have e3 : k2 = l2 := by omega
        subst e1 e3
        exact tvar_one h1 g1 (hW k2 h5 k (by omega) (by omega)) h2 g2 h6 g6
      · omega
    · rcases g3 with ⟨g3, l2, g4, g5, g6, g7⟩ | ⟨rfl, g7⟩
      · have bx := ts_box (k0 := k) (by omega) g3 g4 (by omega)
        omega
      · have e1 : r = s := by omega
        subst e1
        exact Option.some.inj (h2.symm.trans g2)
/-! TERMS in order -/
/-- x stands behind t -/
abbrev tgt (x t : tT) : Prop := t.1 < x.1 ∨ (x.1 = t.1 ∧ t.2 < x.2)
theorem tgt_irr (x : tT) : ¬ tgt x x := fun h => h.elim (fun h => Int64.lt_irrefl h) (fun h => Int64.lt_irrefl h.2)
theorem tgt_tr {x y z : tT} (h : tgt x y) (g : tgt y z) : tgt x z := by
  rcases h with h | ⟨h1, h2⟩
  · rcases g with g | ⟨g1, g2⟩
    · exact Or.inl (Int64.lt_trans g h)
    · exact Or.inl (by rw [← g1]; exact h)
  · rcases g with g | ⟨g1, g2⟩
    · exact Or.inl (by rw [h1]; exact g)
    · exact Or.inr ⟨h1.trans g1, Int64.lt_trans g2 h2⟩
theorem tgt_tot {x y : tT} (h : ¬ tgt x y) (g : ¬ tgt y x) : x = y := by
  have e1 : x.1 = y.1 := by
    exact Int64.le_antisymm (Int64.not_lt.mp (fun q => h (Or.inl q))) (Int64.not_lt.mp (fun q => g (Or.inl q)))
  have e2 : x.2 = y.2 := by
    exact Int64.le_antisymm (Int64.not_lt.mp (fun q => h (Or.inr ⟨e1, q⟩))) (Int64.not_lt.mp (fun q => g (Or.inr ⟨e1.symm, q⟩)))
  exact Prod.ext e1 e2
theorem tgt_as {x y : tT} (h : tgt x y) : ¬ tgt y x := fun g => tgt_irr x (tgt_tr h g)
def tinr : List tT → tT → List tT
  | [], t => [t]
  | x :: R, t => if tgt x t then x :: tinr R t else t :: x :: R
def tin (L : List tT) (t : tT) : List tT := (tinr L.reverse t).reverse
def tso (L : List tT) : List tT := L.foldl tin []
theorem tin_snoc (L : List tT) (x t : tT) : tin (L ++ [x]) t = if tgt x t then tin L t ++ [x] else L ++ [x] ++ [t] := by
  unfold tin
  rw [List.reverse_append, List.reverse_singleton, List.singleton_append, tinr]
  split
  · rw [List.reverse_cons]
  · rw [List.reverse_cons, List.reverse_cons, List.reverse_reverse]
theorem tm_ins_hi (a b : Int64) : ∀ (k : Nat) (f g : Nat → Int64) (i : Nat), k < i → (tm_ins a b k f g).1 i = f i ∧ (tm_ins a b k f g).2 i = g i
  | 0, f, g, i, hi => ⟨up_ne (by omega), up_ne (by omega)⟩
  | k + 1, f, g, i, hi => by
    unfold tm_ins
    split
    · have := tm_ins_hi a b k (vp_updL f (k + 1) (f k)) (vp_updL g (k + 1) (g k)) i (by omega)
      rw [this.1, this.2]
      exact ⟨up_ne (by omega), up_ne (by omega)⟩
    · exact ⟨up_ne (by omega), up_ne (by omega)⟩
theorem tm_ins_list (a b : Int64) : ∀ (k : Nat) (f g : Nat → Int64), tls (tm_ins a b k f g).1 (tm_ins a b k f g).2 (k + 1) = tin (tls f g k) (a, b)
  | 0, f, g => by
    show [(vp_updL f 0 a 0, vp_updL g 0 b 0)] = [(a, b)]
    rw [up_at, up_at]
  | k + 1, f, g => by
    have el : tls f g (k + 1) = tls f g k ++ [(f k, g k)] := rfl
    rw [el, tin_snoc]
    unfold tm_ins
    by_cases q : a < f k ∨ (f k = a ∧ b < g k)
    · have hi := tm_ins_hi a b k (vp_updL f (k + 1) (f k)) (vp_updL g (k + 1) (g k)) (k + 1) (by omega)
      have ih := tm_ins_list a b k (vp_updL f (k + 1) (f k)) (vp_updL g (k + 1) (g k))
      rw [if_pos q, if_pos q]
      show tls _ _ (k + 1) ++ [(_, _)] = _
      rw [ih, hi.1, hi.2, up_at, up_at, tls_eq (F := f) (G := g) (fun i hi => ⟨up_ne (by omega), up_ne (by omega)⟩)]
    · rw [if_neg q, if_neg q]
      show tls _ _ k ++ [(vp_updL f (k + 1) a k, vp_updL g (k + 1) b k)] ++ [(vp_updL f (k + 1) a (k + 1), vp_updL g (k + 1) b (k + 1))] = _
      rw [up_at, up_at, up_ne (by omega), up_ne (by omega), tls_eq (F := f) (G := g) (fun i hi => ⟨up_ne (by omega), up_ne (by omega)⟩)]
theorem st_go_list (A B : Nat → Int64) : ∀ (m j : Nat) (F G : Nat → Int64), tls (st_go A B m j F G).1 (st_go A B m j F G).2 (j + m) = (tsg A B j m).foldl tin (tls F G j)
  | 0, j, F, G => rfl
  | m + 1, j, F, G => by
    rw [tsg, List.foldl_cons, ← tm_ins_list, ← st_go_list A B m (j + 1), show j + (m + 1) = j + 1 + m by omega]
    rfl
theorem tls_0 (F G : Nat → Int64) (k : Nat) : tls F G k = tsg F G 0 k := by
  have := tls_sg F G k 0
  rw [Nat.zero_add] at this
  rw [this]
  rfl
theorem st_go_so (A B : Nat → Int64) (k : Nat) (F G : Nat → Int64) : tls (st_go A B k 0 F G).1 (st_go A B k 0 F G).2 k = tso (tls A B k) := by
  have := st_go_list A B k 0 F G
  rw [Nat.zero_add] at this
  rw [this, tls_0 A B k]
  rfl
/-- in order -/
def tsd (L : List tT) : Prop := L.Pairwise (fun x y => tgt y x)
theorem tinr_perm : ∀ (R : List tT) (t : tT), (tinr R t).Perm (t :: R)
  | [], t => List.Perm.refl _
  | x :: R, t => by
    unfold tinr
    split
    · exact ((tinr_perm R t).cons x).trans (List.Perm.swap t x R)
    · exact List.Perm.refl _
theorem tin_perm (L : List tT) (t : tT) : (tin L t).Perm (t :: L) := ((List.reverse_perm _).trans (tinr_perm _ t)).trans ((List.reverse_perm L).cons t)
theorem tso_perm (L : List tT) : (tso L).Perm L := by
  refine ts_rev (P := fun L => (tso L).Perm L) (List.Perm.refl _) (fun C t ih => ?_) L
  show ((C ++ [t]).foldl tin []).Perm _
  rw [List.foldl_append]
  exact (tin_perm _ t).trans ((ih.cons t).trans (List.perm_append_comm (l₁ := [t]) (l₂ := C)))
theorem tso_snoc (L : List tT) (t : tT) : tso (L ++ [t]) = tin (tso L) t := by
  unfold tso
  rw [List.foldl_append]
  rfl
theorem tin_last {t : tT} (C : List tT) : (∀ x ∈ C, tgt t x) → tin C t = C ++ [t] := by
  refine ts_rev (P := fun C => (∀ x ∈ C, tgt t x) → tin C t = C ++ [t]) (fun _ => rfl) (fun C x _ h => ?_) C
  rw [tin_snoc, if_neg (tgt_as (h x (List.mem_append_right _ (List.mem_singleton.mpr rfl))))]
/-- what stands in order already stays as it is -/
theorem tso_id (L : List tT) : tsd L → tso L = L := by
  refine ts_rev (P := fun L => tsd L → tso L = L) (fun _ => rfl) (fun C t ih h => ?_) L
  have h2 := List.pairwise_append.mp h
  rw [tso_snoc, ih h2.1]
  exact tin_last C (fun x hx => h2.2.2 x hx t (List.mem_singleton.mpr rfl))
theorem tinr_sd : ∀ (R : List tT) (t : tT), R.Pairwise (fun x y => tgt x y) → (∀ e ∈ R, e ≠ t) → (tinr R t).Pairwise (fun x y => tgt x y)
  | [], t, _, _ => List.pairwise_singleton _ _
  | x :: R, t, h, hn => by
    unfold tinr
    have h1 := List.pairwise_cons.mp h
    by_cases q : tgt x t
    · rw [if_pos q]
      refine List.pairwise_cons.mpr ⟨fun y hy => ?_, tinr_sd R t h1.2 (fun e he => hn e (List.mem_cons_of_mem _ he))⟩
      rcases List.mem_cons.mp ((tinr_perm R t).mem_iff.mp hy) with rfl | hy
      · exact q
      · exact h1.1 y hy
    · rw [if_neg q]
      have q2 : tgt t x := Classical.byContradiction (fun w => hn x List.mem_cons_self (tgt_tot q w))
      refine List.pairwise_cons.mpr ⟨fun y hy => ?_, h⟩
      rcases List.mem_cons.mp hy with rfl | hy
      · exact q2
      · exact tgt_tr q2 (h1.1 y hy)
theorem tso_sd (L : List tT) : L.Nodup → tsd (tso L) := by
  refine ts_rev (P := fun L => L.Nodup → tsd (tso L)) (fun _ => List.Pairwise.nil) (fun C t ih h => ?_) L
  have h2 := List.nodup_append.mp h
  rw [tso_snoc]
  have h3 := ih h2.1
  unfold tsd tin
  rw [List.pairwise_reverse]
  refine tinr_sd _ t (List.pairwise_reverse.mpr h3) (fun e he => ?_)
  exact h2.2.2 e ((tso_perm C).mem_iff.mp (List.mem_reverse.mp he)) t (List.mem_singleton.mpr rfl)
/-- a WAYS: in order, none absorbs another, no ROW on both sides, 12 at most -/
def wok (L : List tT) : Prop := tac L ∧ (∀ e ∈ L, tok e) ∧ tsd L ∧ L.length ≤ 12
/-- the end of EITHER, BOTH, NOT: FULL is none -/
def wst (C : List tT) : Option (List tT) := if (tfl C).length ≤ 12 then some (tso (tfl C)) else none
theorem tac_perm {L M : List tT} (h : L.Perm M) (hL : tac L) : tac M := hL.perm h (fun q => ⟨q.2, q.1⟩)
theorem wst_ok {C L : List tT} (h : wst C = some L) : wok L := by
  unfold wst at h
  split at h
  · cases h
    rename_i hl
    have hp := tso_perm (tfl C)
    exact ⟨tac_perm hp.symm (tfl_ac C), fun e he => (tfl_mem (hp.mem_iff.mp he)).2, tso_sd _ (tac_nd (tfl_ac C)), by rw [hp.length_eq]; exact hl⟩
  · cases h
theorem tfl_id (L : List tT) : tac L → (∀ e ∈ L, tok e) → tfl L = L := by
  refine ts_rev (P := fun L => tac L → (∀ e ∈ L, tok e) → tfl L = L) (fun _ _ => rfl) (fun C t ih h ho => ?_) L
  have h2 := List.pairwise_append.mp h
  rw [tfl_snoc, ih h2.1 (fun e he => ho e (List.mem_append_left _ he))]
  have ht : t ∈ [t] := List.mem_singleton.mpr rfl
  unfold tadd
  rw [if_neg (fun q => q (ho t (List.mem_append_right _ ht))), if_neg (fun ⟨e, he, hle⟩ => (h2.2.2 e he t ht).1 hle)]
  congr 1
  refine List.filter_eq_self.mpr (fun e he => decide_eq_true (h2.2.2 e he t ht).2)
theorem wst_id {L : List tT} (h : wok L) : wst L = some L := by
  unfold wst
  rw [tfl_id L h.1 h.2.1, if_pos h.2.2.2, tso_id L h.2.2.1]
/-! the drafts of EITHER, BOTH, NOT are lists -/
noncomputable def dr_fold (C : List tT) (s : dr_S) : dr_S := C.foldl (fun s t => dr_add t.1 t.2 s) s
theorem dr_fold_list : ∀ (C : List tT) (s : dr_S), tac (tls s.1 s.2.1 s.2.2) → s.2.2 + C.length ≤ 432 → tls (dr_fold C s).1 (dr_fold C s).2.1 (dr_fold C s).2.2 = C.foldl tadd (tls s.1 s.2.1 s.2.2) ∧ (dr_fold C s).2.2 ≤ s.2.2 + C.length
  | [], s, _, _ => ⟨rfl, Nat.le_refl _⟩
  | t :: C, s, hac, hs => by
    rw [List.length_cons] at hs
    have h1 := dr_add_list t.1 t.2 s hac (by omega)
    have h2 := dr_add_le t.1 t.2 s (by omega)
    have h3 := dr_fold_list C (dr_add t.1 t.2 s) (by rw [h1]; exact tadd_ac hac _) (by omega)
    have e : dr_fold (t :: C) s = dr_fold C (dr_add t.1 t.2 s) := rfl
    rw [e, h3.1, h1]
    exact ⟨rfl, by rw [List.length_cons]; omega⟩
theorem dr_fold_app (C E : List tT) (s : dr_S) : dr_fold (C ++ E) s = dr_fold E (dr_fold C s) := List.foldl_append
/-- from an empty draft -/
theorem dr_fold_0 (C : List tT) (F G : Nat → Int64) (hC : C.length ≤ 432) : tls (dr_fold C (F, G, 0)).1 (dr_fold C (F, G, 0)).2.1 (dr_fold C (F, G, 0)).2.2 = tfl C ∧ (dr_fold C (F, G, 0)).2.2 = (tfl C).length := by
  have h := (dr_fold_list C (F, G, 0) List.Pairwise.nil (by show 0 + C.length ≤ 432; omega)).1
  refine ⟨h, ?_⟩
  have h2 := congrArg List.length h
  rw [tls_len] at h2
  exact h2
theorem ei_fold (f g : Nat → Int64) : ∀ (m j : Nat) (s : dr_S), ei_go f g m j s = dr_fold (tsg f g j m) s
  | 0, _, _ => rfl
  | m + 1, j, s => by
    unfold ei_go
    rw [ei_fold f g m (j + 1), tsg]
    rfl
theorem bo_in_fold (a b : Int64) (f g : Nat → Int64) : ∀ (m j : Nat) (s : dr_S), bo_in a b f g m j s = dr_fold ((tsg f g j m).map (fun t => (a ||| t.1, b ||| t.2))) s
  | 0, _, _ => rfl
  | m + 1, j, s => by
    unfold bo_in
    rw [bo_in_fold a b f g m (j + 1), tsg]
    rfl
def tbo (A B : List tT) : List tT := A.flatMap (fun a => B.map (fun b => (a.1 ||| b.1, a.2 ||| b.2)))
theorem bo_fold (fa ga fb gb : Nat → Int64) (kb : Nat) : ∀ (m i : Nat) (s : dr_S), bo_go fa ga fb gb kb m i s = dr_fold (tbo (tsg fa ga i m) (tls fb gb kb)) s
  | 0, _, _ => rfl
  | m + 1, i, s => by
    unfold bo_go
    rw [bo_fold fa ga fb gb kb m (i + 1), bo_in_fold, ← tls_0, ← dr_fold_app, tsg]
    unfold tbo
    rw [List.flatMap_cons]
theorem tvar_len {W : tT} {c e : Int64} : ∀ (l : List Nat), (l.filterMap (tvar W c e)).length ≤ l.length := fun l => List.length_filterMap_le _ _
theorem tu_one_fold {a b c e : Int64} (hce : c &&& e = 0) {r : Nat} (hr : r < 36) (s : dr_S) : tu_one a b c e r s = dr_fold ((tvar (a, b) c e r).toList) s := by
  unfold tu_one tvar
  by_cases q : c &&& tbt r = 0
  · by_cases w : e &&& tbt r = 0
    · rw [if_pos (show e &&& tu_bit r = 0 from w), if_pos (show c &&& tu_bit r = 0 from q), if_neg (show ¬ ¬ c &&& tbt r = 0 from fun u => u q), if_neg (show ¬ ¬ e &&& tbt r = 0 from fun u => u w)]
      rfl
    · rw [if_neg (show ¬ e &&& tu_bit r = 0 from w), if_pos (show c &&& tu_bit r = 0 from q), if_neg (show ¬ ¬ c &&& tbt r = 0 from fun u => u q), if_pos (show ¬ e &&& tbt r = 0 from w)]
      rfl
  · have w : e &&& tbt r = 0 := by
      have h1 : c.toBitVec.getLsbD r = true := by
        cases h : c.toBitVec.getLsbD r with
        | true => rfl
        | false =>
          refine absurd ?_ q
          apply Int64.toBitVec_inj.mp
          rw [Int64.toBitVec_and]
          apply BitVec.eq_of_getLsbD_eq
          intro i hi
          rw [BitVec.getLsbD_and]
          by_cases e1 : i = r
          · subst e1
            rw [h]
            simp
          · have : (tbt r).toBitVec.getLsbD i = false := by
              cases h3 : (tbt r).toBitVec.getLsbD i with
              | false => rfl
              | true => exact absurd ((tbt_get r i hr).mp h3) e1
            rw [this]
            simp
      have h2 : e.toBitVec.getLsbD r = false := by
        have := congrArg (fun x => x.toBitVec.getLsbD r) hce
        simp only [Int64.toBitVec_and, BitVec.getLsbD_and, h1, Bool.true_and] at this
        simpa using this
      apply Int64.toBitVec_inj.mp
      rw [Int64.toBitVec_and]
      apply BitVec.eq_of_getLsbD_eq
      intro i hi
      rw [BitVec.getLsbD_and]
      by_cases e1 : i = r
      · subst e1
        rw [h2]
        simp
      · have : (tbt r).toBitVec.getLsbD i = false := by
          cases h3 : (tbt r).toBitVec.getLsbD i with
          | false => rfl
          | true => exact absurd ((tbt_get r i hr).mp h3) e1
        rw [this]
        simp
    rw [if_pos (show e &&& tu_bit r = 0 from w), if_neg (show ¬ c &&& tu_bit r = 0 from q), if_pos (show ¬ c &&& tbt r = 0 from q)]
    rfl
theorem tu_fold {a b c e : Int64} (hce : c &&& e = 0) : ∀ (m r : Nat) (s : dr_S), r + m ≤ 36 → tu_go a b c e m r s = dr_fold ((List.range' r m).filterMap (tvar (a, b) c e)) s
  | 0, _, _, _ => rfl
  | m + 1, r, s, h => by
    unfold tu_go
    rw [tu_fold hce m (r + 1) _ (by omega), tu_one_fold hce (by omega), ← dr_fold_app, List.range'_succ, List.filterMap_cons]
    congr 1
    cases tvar (a, b) c e r <;> rfl
theorem no_in_fold {F G : Nat → Int64} {c e : Int64} (hce : c &&& e = 0) : ∀ (m k : Nat) (s : dr_S), no_in F G c e m k s = dr_fold (tall (fun i => (F i, G i)) c e k m) s
  | 0, _, _ => rfl
  | m + 1, k, s => by
    unfold no_in
    rw [no_in_fold hce m (k + 1), tu_fold hce 36 0 s (by omega), ← dr_fold_app]
    show _ = dr_fold (tcs _ c e k ++ _) s
    unfold tcs
    rw [List.range_eq_range']
theorem tall_len (W : Nat → tT) (c e : Int64) : ∀ (m a : Nat), (tall W c e a m).length ≤ 36 * m
  | 0, _ => Nat.le_refl _
  | m + 1, a => by
    show (tcs W c e a ++ tall W c e (a + 1) m).length ≤ _
    rw [List.length_append]
    have h1 := tall_len W c e m (a + 1)
    have h2 : (tcs W c e a).length ≤ 36 := by
      have := tvar_len (W := W a) (c := c) (e := e) (List.range 36)
      rw [List.length_range] at this
      exact this
    omega
theorem tbo_len (A B : List tT) : (tbo A B).length = A.length * B.length := by
  unfold tbo
  induction A with
  | nil => simp
  | cons a A ih => rw [List.flatMap_cons, List.length_append, ih, List.length_map, List.length_cons, Nat.succ_mul, Nat.add_comm]
def tfn (W : List tT) : Nat → tT := fun i => W.getD i (0, 0)
theorem tall_eq {W V : Nat → tT} {c e : Int64} : ∀ (m a : Nat), (∀ i : Nat, a ≤ i → i < a + m → W i = V i) → tall W c e a m = tall V c e a m
  | 0, _, _ => rfl
  | m + 1, a, h => by
    show tcs W c e a ++ tall W c e (a + 1) m = tcs V c e a ++ tall V c e (a + 1) m
    unfold tcs
    rw [tall_eq m (a + 1) (fun i h1 h2 => h i (by omega) (by omega)), h a (by omega) (by omega)]
theorem tfn_tls {F G : Nat → Int64} {k i : Nat} (hi : i < k) : tfn (tls F G k) i = (F i, G i) := by
  unfold tfn
  rw [tls_fold, List.getD_eq_getElem?_getD, List.getElem?_map, List.getElem?_range hi]
  rfl
/-- NOT, TERM by TERM -/
def wno : List tT → List tT → Option (List tT)
  | [], W => some W
  | t :: T, W => (wst (tall (tfn W) t.1 t.2 0 W.length)).bind (wno T)
theorem no_go_list (fa ga : Nat → Int64) : ∀ (m i : Nat) (s w : dr_S), (∀ j : Nat, i ≤ j → j < i + m → fa j &&& ga j = 0) → w.2.2 ≤ 12 → ((no_go fa ga m i s w).2.2 = true → wno (tsg fa ga i m) (tls w.1 w.2.1 w.2.2) = some (tls (no_go fa ga m i s w).2.1.1 (no_go fa ga m i s w).2.1.2.1 (no_go fa ga m i s w).2.1.2.2)) ∧ ((no_go fa ga m i s w).2.2 = false → wno (tsg fa ga i m) (tls w.1 w.2.1 w.2.2) = none)
  | 0, _, s, w, _, _ => ⟨fun _ => rfl, fun h => by cases h⟩
  | m + 1, i, s, w, ho, hw => by
    have hl := tall_len (fun k => (w.1 k, w.2.1 k)) (fa i) (ga i) w.2.2 0
    have hd := dr_fold_0 (tall (fun k => (w.1 k, w.2.1 k)) (fa i) (ga i) 0 w.2.2) s.1 s.2.1 (by omega)
    rw [← no_in_fold (ho i (by omega) (by omega))] at hd
    have ht : tall (tfn (tls w.1 w.2.1 w.2.2)) (fa i) (ga i) 0 (tls w.1 w.2.1 w.2.2).length = tall (fun k => (w.1 k, w.2.1 k)) (fa i) (ga i) 0 w.2.2 := by
      rw [tls_len]
      exact tall_eq _ _ (fun j _ h2 => tfn_tls (by omega))
    rw [tsg]
    unfold no_go wno wst
    dsimp only
    rw [ht, ← hd.2, ← hd.1]
    by_cases q : (no_in w.1 w.2.1 (fa i) (ga i) w.2.2 0 (s.1, s.2.1, 0)).2.2 ≤ 12
    · rw [if_pos q, if_pos q, ← st_go_so _ _ _ w.1 w.2.1]
      exact no_go_list fa ga m (i + 1) _ _ (fun j h1 h2 => ho j (by omega) (by omega)) q
    · rw [if_neg q, if_neg q]
      exact ⟨fun h => (by cases h), fun _ => rfl⟩
/-! TUPLES as lists, in order -/
def lcm2 : List Int32 → List Int32 → Int32
  | a :: A, b :: B => if a = b then lcm2 A B else if b ≤ a then nI 1 else -1
  | _, _ => nI 0
def rsg (a : Nat → Int32) (j m : Nat) : List Int32 := (List.range' j m).map a
abbrev rcl (a : Nat → Int32) (w : Nat) : List Int32 := rsg a 0 w
theorem rsg_len (a : Nat → Int32) (j m : Nat) : (rsg a j m).length = m := by unfold rsg; rw [List.length_map, List.length_range']
theorem rsg_eq {a b : Nat → Int32} {j m : Nat} (h : ∀ i : Nat, j ≤ i → i < j + m → a i = b i) : rsg a j m = rsg b j m := by
  unfold rsg
  refine List.map_congr_left (fun i hi => ?_)
  have := List.mem_range'_1.mp hi
  exact h i this.1 this.2
theorem tb_ord_l (a b : Nat → Int32) : ∀ (m j : Nat), tb_ord a b m j = lcm2 (rsg a j m) (rsg b j m)
  | 0, _ => rfl
  | m + 1, j => by
    unfold tb_ord rsg
    rw [List.range'_succ, List.map_cons, List.map_cons, lcm2, tb_ord_l a b m (j + 1)]
    rfl
theorem lcm2_val (A : List Int32) : ∀ B : List Int32, lcm2 A B = nI 0 ∨ lcm2 A B = nI 1 ∨ lcm2 A B = -1 := by
  induction A with
  | nil => intro B; exact Or.inl (by unfold lcm2; rfl)
  | cons a A ih =>
    intro B
    cases B with
    | nil => exact Or.inl (by unfold lcm2; rfl)
    | cons b B =>
      unfold lcm2
      split
      · exact ih B
      · split
        · exact Or.inr (Or.inl rfl)
        · exact Or.inr (Or.inr rfl)
theorem lcm2_rf (A : List Int32) : lcm2 A A = nI 0 := by
  induction A with
  | nil => unfold lcm2; rfl
  | cons a A ih =>
    unfold lcm2
    rw [if_pos rfl]
    exact ih
theorem lcm2_0 : ∀ {A B : List Int32}, A.length = B.length → lcm2 A B = nI 0 → A = B
  | [], [], _, _ => rfl
  | [], b :: B, h, _ => by cases h
  | a :: A, [], h, _ => by cases h
  | a :: A, b :: B, h, g => by
    unfold lcm2 at g
    split at g
    · rename_i e
      rw [e, lcm2_0 (Nat.succ.inj h) g]
    · split at g
      · exact absurd g (by decide +kernel)
      · exact absurd g (by decide +kernel)
theorem lcm2_sw : ∀ {A B : List Int32}, lcm2 A B = -1 ↔ lcm2 B A = nI 1
  | [], B => by
    cases B <;> (unfold lcm2; constructor <;> (intro h; exact absurd h (by decide +kernel)))
  | a :: A, [] => by
    unfold lcm2
    constructor <;> (intro h; exact absurd h (by decide +kernel))
  | a :: A, b :: B => by
    unfold lcm2
    by_cases e : a = b
    · rw [if_pos e, if_pos e.symm]
      exact lcm2_sw
    · rw [if_neg e, if_neg (show ¬ b = a from fun q => e q.symm)]
      by_cases q : b ≤ a
      · have q2 : ¬ a ≤ b := fun w => e (Int32.le_antisymm w q)
        rw [if_pos q, if_neg q2]
        constructor <;> (intro h; exact absurd h (by decide +kernel))
      · rw [if_neg q, if_pos (Int32.le_of_lt (Int32.not_le.mp q))]
        exact ⟨fun _ => rfl, fun _ => rfl⟩
theorem lcm2_tr : ∀ {A B C : List Int32}, lcm2 A B = -1 → lcm2 B C = -1 → lcm2 A C = -1
  | [], B, C, h, _ => by cases B <;> exact absurd h (by unfold lcm2; decide +kernel)
  | a :: A, [], C, h, _ => absurd h (by unfold lcm2; decide +kernel)
  | a :: A, b :: B, [], _, g => absurd g (by unfold lcm2; decide +kernel)
  | a :: A, b :: B, c :: C, h, g => by
    unfold lcm2 at h g ⊢
    by_cases e : a = b
    · subst e
      rw [if_pos rfl] at h
      by_cases e2 : a = c
      · subst e2
        rw [if_pos rfl] at g ⊢
        exact lcm2_tr h g
      · rw [if_neg e2] at g ⊢
        exact g
    · rw [if_neg e] at h
      have h1 : ¬ b ≤ a := by
        intro q
        rw [if_pos q] at h
        exact absurd h (by decide +kernel)
      by_cases e2 : b = c
      · subst e2
        rw [if_neg e, if_neg h1]
      · rw [if_neg e2] at g
        have h2 : ¬ c ≤ b := by
          intro q
          rw [if_pos q] at g
          exact absurd g (by decide +kernel)
        have h3 : a < c := Int32.lt_trans (Int32.not_le.mp h1) (Int32.not_le.mp h2)
        rw [if_neg (show ¬ a = c from fun q => by rw [q] at h3; exact Int32.lt_irrefl h3), if_neg (Int32.not_le.mpr h3)]
abbrev arow : Type := List Int32 × List tT
theorem tb_fb_ge (o : Nat → Int32) : ∀ (k j : Nat), tb_fb o k ≤ j → j < k → ¬ o j ≤ 0
  | 0, j, _, h => absurd h (Nat.not_lt_zero j)
  | k + 1, j, h1, h2 => by
    unfold tb_fb at h1
    split at h1
    · omega
    · rename_i q
      by_cases e : j = k
      · subst e
        exact q
      · exact tb_fb_ge o k j h1 (by omega)
theorem tb_fb_lt (o : Nat → Int32) : ∀ k : Nat, 0 < tb_fb o k → o (tb_fb o k - 1) ≤ 0
  | 0, h => absurd h (Nat.lt_irrefl 0)
  | k + 1, h => by
    unfold tb_fb at h ⊢
    split
    · rename_i q
      exact q
    · rename_i q
      rw [if_neg q] at h
      exact tb_fb_lt o k h
theorem tb_fb_eq {o p : Nat → Int32} : ∀ {k : Nat}, (∀ j : Nat, j < k → o j = p j) → tb_fb o k = tb_fb p k
  | 0, _ => rfl
  | k + 1, h => by
    unfold tb_fb
    rw [h k (by omega), tb_fb_eq (k := k) (fun j hj => h j (by omega))]
def ark (tab : List arow) (j : Nat) : arow := tab.getD j ([], [])
/-- how a table's rows stand to a key; the first place behind those that are not behind it -/
abbrev afb (tab : List arow) (key : List Int32) : Nat := tb_fb (fun j => lcm2 (ark tab j).1 key) tab.length
/-- a TUPLE more: EITHER with what its numbers have, or a new one; FULL is none -/
def aput (tab : List arow) (key : List Int32) (ts : List tT) : Option (List arow) :=
  if ts = [] then some tab else if 0 < afb tab key ∧ lcm2 (ark tab (afb tab key - 1)).1 key = 0 then (wst ((ark tab (afb tab key - 1)).2 ++ ts)).map (fun u => tab.set (afb tab key - 1) (key, u)) else if 80 ≤ tab.length then none else some (tab.take (afb tab key) ++ (key, ts) :: tab.drop (afb tab key))
/-- a table: rows of w numbers, strictly in order, each with a WAYS that is not FALSE, 80 at most -/
def aok (w : Nat) (tab : List arow) : Prop := tab.Pairwise (fun r s => lcm2 r.1 s.1 = -1) ∧ (∀ r ∈ tab, r.1.length = w ∧ wok r.2 ∧ r.2 ≠ []) ∧ tab.length ≤ 80
theorem wst_ne {C : List tT} {L : List tT} (h : wst C = some L) (t : tT) (ht : t ∈ C) (ho : tok t) : L ≠ [] := by
  unfold wst at h
  split at h
  · cases h
    obtain ⟨e, he, -⟩ := tfl_min ht ho
    intro q
    have := (tso_perm (tfl C)).mem_iff.mpr he
    rw [q] at this
    cases this
  · cases h
theorem lcm2_z (A B : List Int32) : lcm2 A B ≤ 0 ↔ lcm2 A B = nI 0 ∨ lcm2 A B = -1 := by
  rcases lcm2_val A B with h | h | h
  · rw [h]; exact ⟨fun _ => Or.inl rfl, fun _ => by decide +kernel⟩
  · rw [h]; exact ⟨fun q => absurd q (by decide +kernel), fun q => q.elim (fun q => absurd q (by decide +kernel)) (fun q => absurd q (by decide +kernel))⟩
  · rw [h]; exact ⟨fun _ => Or.inr rfl, fun _ => by decide +kernel⟩
theorem ark_at {tab : List arow} {j : Nat} (hj : j < tab.length) : ark tab j = tab[j] := by
  unfold ark
  rw [List.getD_eq_getElem?_getD, List.getElem?_eq_getElem hj]
  rfl
theorem aput_ok {w : Nat} {tab tab' : List arow} {key : List Int32} {ts : List tT} (h : aok w tab) (hk : key.length = w) (hts : wok ts) (hp : aput tab key ts = some tab') : aok w tab' := by
  obtain ⟨h1, h2, h3⟩ := h
  unfold aput at hp
  split at hp
  · cases hp
    exact ⟨h1, h2, h3⟩
  · rename_i hne
    have hle : afb tab key ≤ tab.length := tb_fb_le _ _
    split at hp
    · rename_i hq
      have hpl : afb tab key - 1 < tab.length := by omega
      rw [ark_at hpl] at hp hq
      cases hw : wst (tab[afb tab key - 1].2 ++ ts) with
      | none => rw [hw] at hp; cases hp
      | some u =>
        rw [hw] at hp
        cases hp
        have hr := h2 _ (List.getElem_mem hpl)
        have ek : tab[afb tab key - 1].1 = key := lcm2_0 (hr.1.trans hk.symm) hq.2
        refine ⟨?_, ?_, by rw [List.length_set]; exact h3⟩
        · rw [List.pairwise_iff_getElem] at h1 ⊢
          intro i j hi hj hij
          rw [List.length_set] at hi hj
          have gi : ((tab.set (afb tab key - 1) (key, u))[i]'(by rw [List.length_set]; exact hi)).1 = tab[i].1 := by
            rw [List.getElem_set]
            split
            · rename_i e
              subst e
              exact ek.symm
            · rfl
          have gj : ((tab.set (afb tab key - 1) (key, u))[j]'(by rw [List.length_set]; exact hj)).1 = tab[j].1 := by
            rw [List.getElem_set]
            split
            · rename_i e
              subst e
              exact ek.symm
            · rfl
          rw [gi, gj]
          exact h1 i j hi hj hij
        · intro r hrm
          rcases List.mem_or_eq_of_mem_set hrm with q | q
          · exact h2 r q
          · rw [q]
            refine ⟨hk, wst_ok hw, ?_⟩
            cases ts with
            | nil => exact absurd rfl hne
            | cons t ts => exact wst_ne hw t (List.mem_append_right _ List.mem_cons_self) (hts.2.1 t List.mem_cons_self)
    · rename_i hq
      split at hp
      · cases hp
      · rename_i h80
        cases hp
        refine ⟨?_, ?_, ?_⟩
        · have hlo : ∀ r ∈ tab.take (afb tab key), lcm2 r.1 key = -1 := by
            intro r hr
            obtain ⟨i, hi, rfl⟩ := List.getElem_of_mem hr
            rw [List.length_take] at hi
            rw [List.getElem_take]
            have hp0 : 0 < afb tab key := by omega
            have hpl : afb tab key - 1 < tab.length := by omega
            have hz := tb_fb_lt (fun j => lcm2 (ark tab j).1 key) tab.length hp0
            have hz : lcm2 (ark tab (afb tab key - 1)).1 key ≤ 0 := hz
            have hm : lcm2 tab[afb tab key - 1].1 key = -1 := by
              rcases (lcm2_z _ _).mp hz with q | q
              · exact absurd ⟨hp0, q⟩ hq
              · rw [ark_at hpl] at q
                exact q
            by_cases e : i = afb tab key - 1
            · subst e
              exact hm
            · exact lcm2_tr (List.pairwise_iff_getElem.mp h1 i (afb tab key - 1) (by omega) hpl (by omega)) hm
          have hhi : ∀ r ∈ tab.drop (afb tab key), lcm2 key r.1 = -1 := by
            intro r hr
            obtain ⟨i, hi, rfl⟩ := List.getElem_of_mem hr
            rw [List.length_drop] at hi
            rw [List.getElem_drop]
            have hg := tb_fb_ge (fun j => lcm2 (ark tab j).1 key) tab.length (afb tab key + i) (Nat.le_add_right _ _) (by omega)
            have hg : ¬ lcm2 (ark tab (afb tab key + i)).1 key ≤ 0 := hg
            rw [ark_at (by omega)] at hg
            rw [lcm2_sw]
            rcases lcm2_val tab[afb tab key + i].1 key with q | q | q
            · exact absurd ((lcm2_z _ _).mpr (Or.inl q)) hg
            · exact q
            · exact absurd ((lcm2_z _ _).mpr (Or.inr q)) hg
          have hs : (tab.take (afb tab key) ++ tab.drop (afb tab key)).Pairwise (fun r s => lcm2 r.1 s.1 = -1) := by
            rw [List.take_append_drop]
            exact h1
          have hs2 := List.pairwise_append.mp hs
          refine List.pairwise_append.mpr ⟨hs2.1, List.pairwise_cons.mpr ⟨fun r hr => hhi r hr, hs2.2.1⟩, fun r hr s hsm => ?_⟩
          rcases List.mem_cons.mp hsm with rfl | hsm
          · exact hlo r hr
          · exact hs2.2.2 r hr s hsm
        · intro r hr
          rcases List.mem_append.mp hr with q | q
          · exact h2 r (List.mem_of_mem_take q)
          · rcases List.mem_cons.mp q with rfl | q
            · exact ⟨hk, hts, hne⟩
            · exact h2 r (List.mem_of_mem_drop q)
        · rw [List.length_append, List.length_cons, List.length_take, List.length_drop]
          omega
end
section
/-! THE MODEL, its arrays as they are -/
abbrev md_D : Type := (Nat → Int32) × (Nat → Int32) × (Nat → Int32) × (Nat → Int32) × (Nat → Int64) × (Nat → Int64) × (Nat → Int64) × (Nat → Int64) × (Nat → Int32) × (Nat → Int32) × (Nat → Int32)
def mf (ids : Nat → ClassId) (h0 h : rl_H) (m : Nat) (T : md_T) (fu : Int32) (k : Nat) (A : md_D) : Prop := mq ids h0 h m T fu k ∧ h (m + 12) = some (.inl (ids 0, 8160, .inl A.1)) ∧ h (m + 13) = some (.inl (ids 0, 17, .inl A.2.1)) ∧ h (m + 14) = some (.inl (ids 2, 16, .inl A.2.2.1)) ∧ h (m + 15) = some (.inl (ids 0, 1368, .inl A.2.2.2.1)) ∧ h (m + 16) = some (.inl (ids 1, 16416, .inr (.inl A.2.2.2.2.1))) ∧ h (m + 17) = some (.inl (ids 1, 16416, .inr (.inl A.2.2.2.2.2.1))) ∧ h (m + 18) = some (.inl (ids 1, 160, .inr (.inl A.2.2.2.2.2.2.1))) ∧ h (m + 19) = some (.inl (ids 1, 160, .inr (.inl A.2.2.2.2.2.2.2.1))) ∧ h (m + 20) = some (.inl (ids 0, 6, .inl A.2.2.2.2.2.2.2.2.1)) ∧ h (m + 21) = some (.inl (ids 0, 4, .inl A.2.2.2.2.2.2.2.2.2.1)) ∧ h (m + 22) = some (.inl (ids 0, 36, .inl A.2.2.2.2.2.2.2.2.2.2))

theorem mf.rf {ids : Nat → ClassId} {h0 h : rl_H} {m : Nat} {T : md_T} {fu : Int32} {k : Nat} {A : md_D} (H : mf ids h0 h m T fu k A) : mf ids h h m T fu k A := ⟨H.1.rf, H.2⟩
theorem mf.tr {ids : Nat → ClassId} {h0 h1 h : rl_H} {m : Nat} {T T' : md_T} {fu fu' : Int32} {k k' : Nat} {A A' : md_D} (H : mf ids h0 h1 m T fu k A) (H2 : mf ids h1 h m T' fu' k' A') : mf ids h0 h m T' fu' k' A' := ⟨H.1.tr H2.1, H2.2⟩
theorem mf.ob {ids : Nat → ClassId} {h0 h : rl_H} {m : Nat} {T : md_T} {fu : Int32} {k : Nat} {A : md_D} (H : mf ids h0 h m T fu k A) (T' : md_T) (fu' : Int32) (k' : Nat) (hk : k' ≤ 160) : mf ids h0 (rl_u h m (md_ob m T' fu' k')) m T' fu' k' A := by
  obtain ⟨q, g12, g13, g14, g15, g16, g17, g18, g19, g20, g21, g22⟩ := H
  exact ⟨q.ob T' fu' k' hk, (rl_u_n (by omega)).trans g12, (rl_u_n (by omega)).trans g13, (rl_u_n (by omega)).trans g14, (rl_u_n (by omega)).trans g15, (rl_u_n (by omega)).trans g16, (rl_u_n (by omega)).trans g17, (rl_u_n (by omega)).trans g18, (rl_u_n (by omega)).trans g19, (rl_u_n (by omega)).trans g20, (rl_u_n (by omega)).trans g21, (rl_u_n (by omega)).trans g22⟩
theorem mf_inj32 {c c' : ClassId} {N N' : Nat} {f g : Nat → Int32} (h : (some (.inl (c, N, .inl f)) : Option va_E) = some (.inl (c', N', .inl g))) : f = g := by
  injection h with h
  injection h with h
  injection h with _ h
  injection h with _ h
  injection h
theorem mf.b13 {ids : Nat → ClassId} {h0 h : rl_H} {m : Nat} {T : md_T} {fu : Int32} {k : Nat} {A : md_D} (H : mf ids h0 h m T fu k A) : ∀ k : Nat, k < 17 → ∃ t : Nat, t ≤ 80 ∧ (A.2.1) k = nI t := by
  obtain ⟨⟨-, -, ⟨d12, d13, d14, d15, d16, d17, d18, d19, d20, d21, d22⟩, -⟩, g12, g13, g14, g15, g16, g17, g18, g19, g20, g21, g22⟩ := H
  obtain ⟨f, e1, e2⟩ := d13
  rw [mf_inj32 (g13.symm.trans e1)]
  exact e2
theorem mf.b15 {ids : Nat → ClassId} {h0 h : rl_H} {m : Nat} {T : md_T} {fu : Int32} {k : Nat} {A : md_D} (H : mf ids h0 h m T fu k A) : ∀ k : Nat, k < 1368 → ∃ t : Nat, t ≤ 12 ∧ (A.2.2.2.1) k = nI t := by
  obtain ⟨⟨-, -, ⟨d12, d13, d14, d15, d16, d17, d18, d19, d20, d21, d22⟩, -⟩, g12, g13, g14, g15, g16, g17, g18, g19, g20, g21, g22⟩ := H
  obtain ⟨f, e1, e2⟩ := d15
  rw [mf_inj32 (g15.symm.trans e1)]
  exact e2
theorem mf.b21 {ids : Nat → ClassId} {h0 h : rl_H} {m : Nat} {T : md_T} {fu : Int32} {k : Nat} {A : md_D} (H : mf ids h0 h m T fu k A) : ∀ k : Nat, k < 4 → ∃ t : Nat, t < 80 ∧ (A.2.2.2.2.2.2.2.2.2.1) k = nI t := by
  obtain ⟨⟨-, -, ⟨d12, d13, d14, d15, d16, d17, d18, d19, d20, d21, d22⟩, -⟩, g12, g13, g14, g15, g16, g17, g18, g19, g20, g21, g22⟩ := H
  obtain ⟨f, e1, e2⟩ := d21
  rw [mf_inj32 (g21.symm.trans e1)]
  exact e2
theorem mf.s12 {ids : Nat → ClassId} {h0 h : rl_H} {m : Nat} {T : md_T} {fu : Int32} {k : Nat} {A : md_D} (H : mf ids h0 h m T fu k A) (f : Nat → Int32) : mf ids h0 (rl_u h (m + 12) (.inl (ids 0, 8160, .inl f))) m T fu k (f, A.2.1, A.2.2.1, A.2.2.2.1, A.2.2.2.2.1, A.2.2.2.2.2.1, A.2.2.2.2.2.2.1, A.2.2.2.2.2.2.2.1, A.2.2.2.2.2.2.2.2.1, A.2.2.2.2.2.2.2.2.2.1, A.2.2.2.2.2.2.2.2.2.2) := by
  obtain ⟨q, g12, g13, g14, g15, g16, g17, g18, g19, g20, g21, g22⟩ := H
  exact ⟨q.s12 f, rl_u_s, (rl_u_n (by omega)).trans g13, (rl_u_n (by omega)).trans g14, (rl_u_n (by omega)).trans g15, (rl_u_n (by omega)).trans g16, (rl_u_n (by omega)).trans g17, (rl_u_n (by omega)).trans g18, (rl_u_n (by omega)).trans g19, (rl_u_n (by omega)).trans g20, (rl_u_n (by omega)).trans g21, (rl_u_n (by omega)).trans g22⟩
theorem mf.s13 {ids : Nat → ClassId} {h0 h : rl_H} {m : Nat} {T : md_T} {fu : Int32} {k : Nat} {A : md_D} (H : mf ids h0 h m T fu k A) (f : Nat → Int32) (hb : ∀ k : Nat, k < 17 → ∃ t : Nat, t ≤ 80 ∧ f k = nI t) : mf ids h0 (rl_u h (m + 13) (.inl (ids 0, 17, .inl f))) m T fu k (A.1, f, A.2.2.1, A.2.2.2.1, A.2.2.2.2.1, A.2.2.2.2.2.1, A.2.2.2.2.2.2.1, A.2.2.2.2.2.2.2.1, A.2.2.2.2.2.2.2.2.1, A.2.2.2.2.2.2.2.2.2.1, A.2.2.2.2.2.2.2.2.2.2) := by
  obtain ⟨q, g12, g13, g14, g15, g16, g17, g18, g19, g20, g21, g22⟩ := H
  exact ⟨q.s13 f hb, (rl_u_n (by omega)).trans g12, rl_u_s, (rl_u_n (by omega)).trans g14, (rl_u_n (by omega)).trans g15, (rl_u_n (by omega)).trans g16, (rl_u_n (by omega)).trans g17, (rl_u_n (by omega)).trans g18, (rl_u_n (by omega)).trans g19, (rl_u_n (by omega)).trans g20, (rl_u_n (by omega)).trans g21, (rl_u_n (by omega)).trans g22⟩
theorem mf.s14 {ids : Nat → ClassId} {h0 h : rl_H} {m : Nat} {T : md_T} {fu : Int32} {k : Nat} {A : md_D} (H : mf ids h0 h m T fu k A) (f : Nat → Int32) : mf ids h0 (rl_u h (m + 14) (.inl (ids 2, 16, .inl f))) m T fu k (A.1, A.2.1, f, A.2.2.2.1, A.2.2.2.2.1, A.2.2.2.2.2.1, A.2.2.2.2.2.2.1, A.2.2.2.2.2.2.2.1, A.2.2.2.2.2.2.2.2.1, A.2.2.2.2.2.2.2.2.2.1, A.2.2.2.2.2.2.2.2.2.2) := by
  obtain ⟨q, g12, g13, g14, g15, g16, g17, g18, g19, g20, g21, g22⟩ := H
  exact ⟨q.s14 f, (rl_u_n (by omega)).trans g12, (rl_u_n (by omega)).trans g13, rl_u_s, (rl_u_n (by omega)).trans g15, (rl_u_n (by omega)).trans g16, (rl_u_n (by omega)).trans g17, (rl_u_n (by omega)).trans g18, (rl_u_n (by omega)).trans g19, (rl_u_n (by omega)).trans g20, (rl_u_n (by omega)).trans g21, (rl_u_n (by omega)).trans g22⟩
theorem mf.s15 {ids : Nat → ClassId} {h0 h : rl_H} {m : Nat} {T : md_T} {fu : Int32} {k : Nat} {A : md_D} (H : mf ids h0 h m T fu k A) (f : Nat → Int32) (hb : ∀ k : Nat, k < 1368 → ∃ t : Nat, t ≤ 12 ∧ f k = nI t) : mf ids h0 (rl_u h (m + 15) (.inl (ids 0, 1368, .inl f))) m T fu k (A.1, A.2.1, A.2.2.1, f, A.2.2.2.2.1, A.2.2.2.2.2.1, A.2.2.2.2.2.2.1, A.2.2.2.2.2.2.2.1, A.2.2.2.2.2.2.2.2.1, A.2.2.2.2.2.2.2.2.2.1, A.2.2.2.2.2.2.2.2.2.2) := by
  obtain ⟨q, g12, g13, g14, g15, g16, g17, g18, g19, g20, g21, g22⟩ := H
  exact ⟨q.s15 f hb, (rl_u_n (by omega)).trans g12, (rl_u_n (by omega)).trans g13, (rl_u_n (by omega)).trans g14, rl_u_s, (rl_u_n (by omega)).trans g16, (rl_u_n (by omega)).trans g17, (rl_u_n (by omega)).trans g18, (rl_u_n (by omega)).trans g19, (rl_u_n (by omega)).trans g20, (rl_u_n (by omega)).trans g21, (rl_u_n (by omega)).trans g22⟩
theorem mf.s16 {ids : Nat → ClassId} {h0 h : rl_H} {m : Nat} {T : md_T} {fu : Int32} {k : Nat} {A : md_D} (H : mf ids h0 h m T fu k A) (f : Nat → Int64) : mf ids h0 (rl_u h (m + 16) (.inl (ids 1, 16416, .inr (.inl f)))) m T fu k (A.1, A.2.1, A.2.2.1, A.2.2.2.1, f, A.2.2.2.2.2.1, A.2.2.2.2.2.2.1, A.2.2.2.2.2.2.2.1, A.2.2.2.2.2.2.2.2.1, A.2.2.2.2.2.2.2.2.2.1, A.2.2.2.2.2.2.2.2.2.2) := by
  obtain ⟨q, g12, g13, g14, g15, g16, g17, g18, g19, g20, g21, g22⟩ := H
  exact ⟨q.s16 f, (rl_u_n (by omega)).trans g12, (rl_u_n (by omega)).trans g13, (rl_u_n (by omega)).trans g14, (rl_u_n (by omega)).trans g15, rl_u_s, (rl_u_n (by omega)).trans g17, (rl_u_n (by omega)).trans g18, (rl_u_n (by omega)).trans g19, (rl_u_n (by omega)).trans g20, (rl_u_n (by omega)).trans g21, (rl_u_n (by omega)).trans g22⟩
theorem mf.s17 {ids : Nat → ClassId} {h0 h : rl_H} {m : Nat} {T : md_T} {fu : Int32} {k : Nat} {A : md_D} (H : mf ids h0 h m T fu k A) (f : Nat → Int64) : mf ids h0 (rl_u h (m + 17) (.inl (ids 1, 16416, .inr (.inl f)))) m T fu k (A.1, A.2.1, A.2.2.1, A.2.2.2.1, A.2.2.2.2.1, f, A.2.2.2.2.2.2.1, A.2.2.2.2.2.2.2.1, A.2.2.2.2.2.2.2.2.1, A.2.2.2.2.2.2.2.2.2.1, A.2.2.2.2.2.2.2.2.2.2) := by
  obtain ⟨q, g12, g13, g14, g15, g16, g17, g18, g19, g20, g21, g22⟩ := H
  exact ⟨q.s17 f, (rl_u_n (by omega)).trans g12, (rl_u_n (by omega)).trans g13, (rl_u_n (by omega)).trans g14, (rl_u_n (by omega)).trans g15, (rl_u_n (by omega)).trans g16, rl_u_s, (rl_u_n (by omega)).trans g18, (rl_u_n (by omega)).trans g19, (rl_u_n (by omega)).trans g20, (rl_u_n (by omega)).trans g21, (rl_u_n (by omega)).trans g22⟩
theorem mf.s18 {ids : Nat → ClassId} {h0 h : rl_H} {m : Nat} {T : md_T} {fu : Int32} {k : Nat} {A : md_D} (H : mf ids h0 h m T fu k A) (f : Nat → Int64) : mf ids h0 (rl_u h (m + 18) (.inl (ids 1, 160, .inr (.inl f)))) m T fu k (A.1, A.2.1, A.2.2.1, A.2.2.2.1, A.2.2.2.2.1, A.2.2.2.2.2.1, f, A.2.2.2.2.2.2.2.1, A.2.2.2.2.2.2.2.2.1, A.2.2.2.2.2.2.2.2.2.1, A.2.2.2.2.2.2.2.2.2.2) := by
  obtain ⟨q, g12, g13, g14, g15, g16, g17, g18, g19, g20, g21, g22⟩ := H
  exact ⟨q.s18 f, (rl_u_n (by omega)).trans g12, (rl_u_n (by omega)).trans g13, (rl_u_n (by omega)).trans g14, (rl_u_n (by omega)).trans g15, (rl_u_n (by omega)).trans g16, (rl_u_n (by omega)).trans g17, rl_u_s, (rl_u_n (by omega)).trans g19, (rl_u_n (by omega)).trans g20, (rl_u_n (by omega)).trans g21, (rl_u_n (by omega)).trans g22⟩
theorem mf.s19 {ids : Nat → ClassId} {h0 h : rl_H} {m : Nat} {T : md_T} {fu : Int32} {k : Nat} {A : md_D} (H : mf ids h0 h m T fu k A) (f : Nat → Int64) : mf ids h0 (rl_u h (m + 19) (.inl (ids 1, 160, .inr (.inl f)))) m T fu k (A.1, A.2.1, A.2.2.1, A.2.2.2.1, A.2.2.2.2.1, A.2.2.2.2.2.1, A.2.2.2.2.2.2.1, f, A.2.2.2.2.2.2.2.2.1, A.2.2.2.2.2.2.2.2.2.1, A.2.2.2.2.2.2.2.2.2.2) := by
  obtain ⟨q, g12, g13, g14, g15, g16, g17, g18, g19, g20, g21, g22⟩ := H
  exact ⟨q.s19 f, (rl_u_n (by omega)).trans g12, (rl_u_n (by omega)).trans g13, (rl_u_n (by omega)).trans g14, (rl_u_n (by omega)).trans g15, (rl_u_n (by omega)).trans g16, (rl_u_n (by omega)).trans g17, (rl_u_n (by omega)).trans g18, rl_u_s, (rl_u_n (by omega)).trans g20, (rl_u_n (by omega)).trans g21, (rl_u_n (by omega)).trans g22⟩
theorem mf.s20 {ids : Nat → ClassId} {h0 h : rl_H} {m : Nat} {T : md_T} {fu : Int32} {k : Nat} {A : md_D} (H : mf ids h0 h m T fu k A) (f : Nat → Int32) : mf ids h0 (rl_u h (m + 20) (.inl (ids 0, 6, .inl f))) m T fu k (A.1, A.2.1, A.2.2.1, A.2.2.2.1, A.2.2.2.2.1, A.2.2.2.2.2.1, A.2.2.2.2.2.2.1, A.2.2.2.2.2.2.2.1, f, A.2.2.2.2.2.2.2.2.2.1, A.2.2.2.2.2.2.2.2.2.2) := by
  obtain ⟨q, g12, g13, g14, g15, g16, g17, g18, g19, g20, g21, g22⟩ := H
  exact ⟨q.s20 f, (rl_u_n (by omega)).trans g12, (rl_u_n (by omega)).trans g13, (rl_u_n (by omega)).trans g14, (rl_u_n (by omega)).trans g15, (rl_u_n (by omega)).trans g16, (rl_u_n (by omega)).trans g17, (rl_u_n (by omega)).trans g18, (rl_u_n (by omega)).trans g19, rl_u_s, (rl_u_n (by omega)).trans g21, (rl_u_n (by omega)).trans g22⟩
theorem mf.s21 {ids : Nat → ClassId} {h0 h : rl_H} {m : Nat} {T : md_T} {fu : Int32} {k : Nat} {A : md_D} (H : mf ids h0 h m T fu k A) (f : Nat → Int32) (hb : ∀ k : Nat, k < 4 → ∃ t : Nat, t < 80 ∧ f k = nI t) : mf ids h0 (rl_u h (m + 21) (.inl (ids 0, 4, .inl f))) m T fu k (A.1, A.2.1, A.2.2.1, A.2.2.2.1, A.2.2.2.2.1, A.2.2.2.2.2.1, A.2.2.2.2.2.2.1, A.2.2.2.2.2.2.2.1, A.2.2.2.2.2.2.2.2.1, f, A.2.2.2.2.2.2.2.2.2.2) := by
  obtain ⟨q, g12, g13, g14, g15, g16, g17, g18, g19, g20, g21, g22⟩ := H
  exact ⟨q.s21 f hb, (rl_u_n (by omega)).trans g12, (rl_u_n (by omega)).trans g13, (rl_u_n (by omega)).trans g14, (rl_u_n (by omega)).trans g15, (rl_u_n (by omega)).trans g16, (rl_u_n (by omega)).trans g17, (rl_u_n (by omega)).trans g18, (rl_u_n (by omega)).trans g19, (rl_u_n (by omega)).trans g20, rl_u_s, (rl_u_n (by omega)).trans g22⟩
theorem mf.s22 {ids : Nat → ClassId} {h0 h : rl_H} {m : Nat} {T : md_T} {fu : Int32} {k : Nat} {A : md_D} (H : mf ids h0 h m T fu k A) (f : Nat → Int32) : mf ids h0 (rl_u h (m + 22) (.inl (ids 0, 36, .inl f))) m T fu k (A.1, A.2.1, A.2.2.1, A.2.2.2.1, A.2.2.2.2.1, A.2.2.2.2.2.1, A.2.2.2.2.2.2.1, A.2.2.2.2.2.2.2.1, A.2.2.2.2.2.2.2.2.1, A.2.2.2.2.2.2.2.2.2.1, f) := by
  obtain ⟨q, g12, g13, g14, g15, g16, g17, g18, g19, g20, g21, g22⟩ := H
  exact ⟨q.s22 f, (rl_u_n (by omega)).trans g12, (rl_u_n (by omega)).trans g13, (rl_u_n (by omega)).trans g14, (rl_u_n (by omega)).trans g15, (rl_u_n (by omega)).trans g16, (rl_u_n (by omega)).trans g17, (rl_u_n (by omega)).trans g18, (rl_u_n (by omega)).trans g19, (rl_u_n (by omega)).trans g20, (rl_u_n (by omega)).trans g21, rl_u_s⟩
set_option maxHeartbeats 4000000 in
set_option maxRecDepth 100000 in
theorem cf_X8_heapTerm (l : Launch) (D : va_G) (ids : Nat → ClassId) (H0 : Heap) (h : rl_H) (n : Nat) (m : Nat) (T : md_T) (fu : Int32) (k : Nat) (A : md_D) (a b : Int64) (hq : mf ids h h m T fu k A) (hk : k < 160) : rl_Met l (rl_e D ids H0) rl_BW rl_Ns yX8_heapTerm cX8_heapTerm 5 none ({ frames := 0, cells := 0, slots := 0, locals := 0 }) [.ref m, .long a, .long b] h n (fun v h' n' => v = none ∧ n' = n ∧ mf ids h h' m T fu (k + 1) (A.1, A.2.1, A.2.2.1, A.2.2.2.1, A.2.2.2.2.1, A.2.2.2.2.2.1, vp_updL A.2.2.2.2.2.2.1 k a, vp_updL A.2.2.2.2.2.2.2.1 k b, A.2.2.2.2.2.2.2.2.1, A.2.2.2.2.2.2.2.2.2.1, A.2.2.2.2.2.2.2.2.2.2)) := by
  obtain ⟨hm0, g12, g13, g14, g15, g16, g17, g18, g19, g20, g21, g22⟩ := id hq
  have g0 := hm0.1
  have gk := hm0.2.1
  have b13 := hq.b13
  have b15 := hq.b15
  have b21 := hq.b21
  refine rl_Met.of (by decide +kernel) (Nat.le_of_ble_eq_true rfl) ?_
  intro X hC hB
  show rl_G X (rl_e D ids H0) 0 [some (.ref m), some (.long a), none, some (.long b), none] [] h n 0 0
  refine o_aload_n hC dX8_heapTerm_0 (by rfl) ?_
  refine o_getf hC (fX8_63 hC rfl) dX8_heapTerm_1 (by repeat (first | with_reducible assumption | (rw [rl_u_s]; done) | (rw [rl_u_s]; rfl) | rw [rl_u_n (by first | with_reducible assumption | omega)])) (by first | rfl | with_reducible assumption) ?_
  refine o_aload_n hC dX8_heapTerm_4 (by rfl) ?_
  refine o_getf hC (fX8_82 hC rfl) dX8_heapTerm_5 (by repeat (first | with_reducible assumption | (rw [rl_u_s]; done) | (rw [rl_u_s]; rfl) | rw [rl_u_n (by first | with_reducible assumption | omega)])) (by first | rfl | with_reducible assumption) ?_
  refine o_lload_n hC dX8_heapTerm_8 (by rfl) ?_
  refine o_lastN (t0 := 1) hC rfl dX8_heapTerm_9 (by repeat (first | with_reducible assumption | (rw [rl_u_s]; done) | (rw [rl_u_s]; rfl) | rw [rl_u_n (by first | with_reducible assumption | omega)])) (by omega) (by decide) ?_
  refine o_aload_n hC dX8_heapTerm_10 (by rfl) ?_
  refine o_getf hC (fX8_66 hC rfl) dX8_heapTerm_11 (by repeat (first | with_reducible assumption | (rw [rl_u_s]; done) | (rw [rl_u_s]; rfl) | rw [rl_u_n (by first | with_reducible assumption | omega)])) (by first | rfl | with_reducible assumption) ?_
  refine o_aload_n hC dX8_heapTerm_14 (by rfl) ?_
  refine o_getf hC (fX8_82 hC rfl) dX8_heapTerm_15 (by repeat (first | with_reducible assumption | (rw [rl_u_s]; done) | (rw [rl_u_s]; rfl) | rw [rl_u_n (by first | with_reducible assumption | omega)])) (by first | rfl | with_reducible assumption) ?_
  refine o_lload_n hC dX8_heapTerm_18 (by rfl) ?_
  refine o_lastN (t0 := 1) hC rfl dX8_heapTerm_19 (by repeat (first | with_reducible assumption | (rw [rl_u_s]; done) | (rw [rl_u_s]; rfl) | rw [rl_u_n (by first | with_reducible assumption | omega)])) (by omega) (by decide) ?_
  refine o_aload_n hC dX8_heapTerm_20 (by rfl) ?_
  refine o_dup hC dX8_heapTerm_21 rfl ?_
  refine o_getf hC (fX8_82 hC rfl) dX8_heapTerm_22 (by repeat (first | with_reducible assumption | (rw [rl_u_s]; done) | (rw [rl_u_s]; rfl) | rw [rl_u_n (by first | with_reducible assumption | omega)])) (by first | rfl | with_reducible assumption) ?_
  refine o_iconst (v := nI 1) hC dX8_heapTerm_25 (by decide +kernel) ?_
  refine o_iadd hC dX8_heapTerm_26 ?_
  try rw [nI_add]
  refine o_putf hC (fX8_82 hC rfl) (fwX8 rfl rfl rfl (Or.inl rfl)) dX8_heapTerm_27 (by repeat (first | with_reducible assumption | (rw [rl_u_s]; done) | (rw [rl_u_s]; rfl) | rw [rl_u_n (by first | with_reducible assumption | omega)])) (Nat.le_of_ble_eq_true rfl) ?_
  try simp only [List.set_cons_zero, List.set_cons_succ]
  refine o_vret hC hB dX8_heapTerm_30 (Nat.le_of_ble_eq_true rfl) (Nat.le_of_ble_eq_true rfl) ?_
  exact ⟨rfl, rfl, ((hq.s18 _).s19 _).ob T fu (k + 1) (by omega)⟩

set_option maxHeartbeats 4000000 in
set_option maxRecDepth 100000 in
theorem cf_X8_truth (l : Launch) (D : va_G) (ids : Nat → ClassId) (H0 : Heap) (h : rl_H) (n : Nat) (m : Nat) (T : md_T) (fu : Int32) (k : Nat) (A : md_D) (a : Nat) (hq : mf ids h h m T fu k A) (ha : a < 1368) : rl_Met l (rl_e D ids H0) rl_BW rl_Ns yX8_truth cX8_truth 2 none ({ frames := 0, cells := 0, slots := 0, locals := 0 }) [.ref m, .int (nI a)] h n (fun v h' n' => v = none ∧ n' = n ∧ mf ids h h' m T fu k (A.1, A.2.1, A.2.2.1, upd A.2.2.2.1 a (nI 1), vp_updL A.2.2.2.2.1 (12 * a) 0, vp_updL A.2.2.2.2.2.1 (12 * a) 0, A.2.2.2.2.2.2.1, A.2.2.2.2.2.2.2.1, A.2.2.2.2.2.2.2.2.1, A.2.2.2.2.2.2.2.2.2.1, A.2.2.2.2.2.2.2.2.2.2)) := by
  obtain ⟨hm0, g12, g13, g14, g15, g16, g17, g18, g19, g20, g21, g22⟩ := id hq
  have g0 := hm0.1
  have gk := hm0.2.1
  have b13 := hq.b13
  have b15 := hq.b15
  have b21 := hq.b21
  refine rl_Met.of (by decide +kernel) (Nat.le_of_ble_eq_true rfl) ?_
  intro X hC hB
  show rl_G X (rl_e D ids H0) 0 [some (.ref m), some (.int (nI a))] [] h n 0 0
  refine o_aload_n hC dX8_truth_0 (by rfl) ?_
  refine o_getf hC (fX8_53 hC rfl) dX8_truth_1 (by repeat (first | with_reducible assumption | (rw [rl_u_s]; done) | (rw [rl_u_s]; rfl) | rw [rl_u_n (by first | with_reducible assumption | omega)])) (by first | rfl | with_reducible assumption) ?_
  refine o_iload_n hC dX8_truth_4 (by rfl) ?_
  refine o_iconst (v := nI 1) hC dX8_truth_5 (by decide +kernel) ?_
  refine o_iastN (t0 := 0) hC rfl dX8_truth_6 (by repeat (first | with_reducible assumption | (rw [rl_u_s]; done) | (rw [rl_u_s]; rfl) | rw [rl_u_n (by first | with_reducible assumption | omega)])) (by omega) (by decide) ?_
  refine o_aload_n hC dX8_truth_7 (by rfl) ?_
  refine o_getf hC (fX8_56 hC rfl) dX8_truth_8 (by repeat (first | with_reducible assumption | (rw [rl_u_s]; done) | (rw [rl_u_s]; rfl) | rw [rl_u_n (by first | with_reducible assumption | omega)])) (by first | rfl | with_reducible assumption) ?_
  refine o_bipush (v := nI 12) hC dX8_truth_11 (by decide +kernel) ?_
  refine o_iload_n hC dX8_truth_13 (by rfl) ?_
  refine o_imul hC dX8_truth_14 ?_
  try rw [nI_mul]
  refine o_lconst (v := 0) hC dX8_truth_15 (by decide +kernel) ?_
  refine o_lastN (t0 := 1) hC rfl dX8_truth_16 (by repeat (first | with_reducible assumption | (rw [rl_u_s]; done) | (rw [rl_u_s]; rfl) | rw [rl_u_n (by first | with_reducible assumption | omega)])) (by omega) (by decide) ?_
  refine o_aload_n hC dX8_truth_17 (by rfl) ?_
  refine o_getf hC (fX8_60 hC rfl) dX8_truth_18 (by repeat (first | with_reducible assumption | (rw [rl_u_s]; done) | (rw [rl_u_s]; rfl) | rw [rl_u_n (by first | with_reducible assumption | omega)])) (by first | rfl | with_reducible assumption) ?_
  refine o_bipush (v := nI 12) hC dX8_truth_21 (by decide +kernel) ?_
  refine o_iload_n hC dX8_truth_23 (by rfl) ?_
  refine o_imul hC dX8_truth_24 ?_
  try rw [nI_mul]
  refine o_lconst (v := 0) hC dX8_truth_25 (by decide +kernel) ?_
  refine o_lastN (t0 := 1) hC rfl dX8_truth_26 (by repeat (first | with_reducible assumption | (rw [rl_u_s]; done) | (rw [rl_u_s]; rfl) | rw [rl_u_n (by first | with_reducible assumption | omega)])) (by omega) (by decide) ?_
  refine o_vret hC hB dX8_truth_27 (Nat.le_of_ble_eq_true rfl) (Nat.le_of_ble_eq_true rfl) ?_
  exact ⟨rfl, rfl, ((hq.s15 _ (md_bd b15 ⟨1, by decide, rfl⟩)).s16 _).s17 _⟩

/-- row a of the model's WAYS -/
abbrev rwf (f : Nat → Int64) (a : Nat) : Nat → Int64 := fun i => f (12 * a + i)
abbrev mwl (A : md_D) (a t : Nat) : List tT := tls (rwf A.2.2.2.2.1 a) (rwf A.2.2.2.2.2.1 a) t
/-- a WAYS of the model -/
def mws (A : md_D) (a : Nat) (L : List tT) : Prop := A.2.2.2.1 a = nI L.length ∧ L.length ≤ 12 ∧ mwl A a L.length = L
/-- nothing but row a of the WAYS (and the heap) has changed -/
def mro (A A' : md_D) (a : Nat) : Prop := A'.1 = A.1 ∧ A'.2.1 = A.2.1 ∧ A'.2.2.1 = A.2.2.1 ∧ (∀ i : Nat, i ≠ a → A'.2.2.2.1 i = A.2.2.2.1 i) ∧ (∀ q : Nat, (q < 12 * a ∨ 12 * a + 12 ≤ q) → A'.2.2.2.2.1 q = A.2.2.2.2.1 q ∧ A'.2.2.2.2.2.1 q = A.2.2.2.2.2.1 q) ∧ A'.2.2.2.2.2.2.2.2 = A.2.2.2.2.2.2.2.2

theorem mro.rf {A : md_D} {a : Nat} : mro A A a := ⟨rfl, rfl, rfl, fun _ _ => rfl, fun _ _ => ⟨rfl, rfl⟩, rfl⟩
theorem mro.tr {A B C : md_D} {a : Nat} (h : mro A B a) (g : mro B C a) : mro A C a := by
  obtain ⟨h1, h2, h3, h4, h5, h6⟩ := h
  obtain ⟨g1, g2, g3, g4, g5, g6⟩ := g
  exact ⟨g1.trans h1, g2.trans h2, g3.trans h3, fun i hi => (g4 i hi).trans (h4 i hi), fun q hq => ⟨(g5 q hq).1.trans (h5 q hq).1, (g5 q hq).2.trans (h5 q hq).2⟩, g6.trans h6⟩
/-- another row is what it was -/
theorem mro.ws {A B : md_D} {a b : Nat} {L : List tT} (h : mro A B a) (hb : b ≠ a) (H : mws A b L) : mws B b L := by
  obtain ⟨h1, h2, h3, h4, h5, h6⟩ := h
  obtain ⟨g1, g2, g3⟩ := H
  refine ⟨(h4 b hb).trans g1, g2, (tls_eq (fun i hi => ?_)).trans g3⟩
  have : 12 * b + i < 12 * a ∨ 12 * a + 12 ≤ 12 * b + i := by omega
  exact ⟨(h5 _ this).1, (h5 _ this).2⟩
theorem gs_c_iff {hn hl : Nat → Int64} {i j : Nat} (hi : i < 200) (hj : j < 200) : gs_c hn hl i j ↔ tle (hn i, hl i) (hn j, hl j) ∧ ((hn i, hl i) ≠ (hn j, hl j) ∨ i < j) := by
  unfold gs_c tle
  rw [lg_cmp_eq, lg_cmp_eq, lg_cmp_eq, lg_cmp_eq, nI_ltI (by omega) (by omega)]
  refine and_congr_right (fun _ => or_congr_left (not_congr ⟨fun h => Prod.ext h.1 h.2, fun h => ⟨congrArg Prod.fst h, congrArg Prod.snd h⟩⟩))
theorem gs_tgo {hn hl : Nat → Int64} {j : Nat} (hj : j < 200) : ∀ (f i : Nat), i + f ≤ 200 → (gs hn hl j f i = 0 ↔ ¬ ∃ q : Nat, i ≤ q ∧ q < i + f ∧ tle (hn q, hl q) (hn j, hl j) ∧ ((hn q, hl q) ≠ (hn j, hl j) ∨ q < j))
  | 0, i, _ => ⟨fun _ ⟨q, h1, h2, _⟩ => by omega, fun _ => rfl⟩
  | f + 1, i, hf => by
    unfold gs
    by_cases q : gs_c hn hl i j
    · rw [if_pos q]
      have q2 := (gs_c_iff (by omega) hj).mp q
      exact ⟨fun h => absurd h (by decide +kernel), fun h => absurd ⟨i, Nat.le_refl _, by omega, q2.1, q2.2⟩ h⟩
    · rw [if_neg q, gs_tgo hj f (i + 1) (by omega)]
      refine not_congr ⟨fun ⟨r, h1, h2, h3⟩ => ⟨r, by omega, by omega, h3⟩, fun ⟨r, h1, h2, h3⟩ => ?_⟩
      by_cases e : r = i
      · subst e
        exact absurd ((gs_c_iff (by omega) hj).mpr h3) q
      · exact ⟨r, by omega, by omega, h3⟩
theorem gs_keep {hn hl : Nat → Int64} {j k : Nat} (hj : j < 200) (hk : k ≤ 200) : gs hn hl j k 0 = 0 ↔ ¬ tgo (fun i => (hn i, hl i)) k j := by
  rw [gs_tgo hj k 0 (by omega)]
  refine not_congr ⟨fun ⟨q, _, h2, h3⟩ => ⟨q, List.mem_range.mpr (by omega), h3⟩, fun ⟨q, h2, h3⟩ => ⟨q, Nat.zero_le _, by have := List.mem_range.mp h2; omega, h3⟩⟩
theorem cnt_keep {hn hl : Nat → Int64} {k : Nat} (hk : k ≤ 200) : ∀ i : Nat, i ≤ 200 → md_cnt (fun w => gs hn hl w k 0) i = (tkeep (fun i => (hn i, hl i)) k i).length
  | 0, _ => rfl
  | i + 1, hi => by
    unfold tkeep
    by_cases q : gs hn hl i k 0 = 0
    · rw [md_cnt_s (G := fun w => gs hn hl w k 0) q, if_neg ((gs_keep (by omega) hk).mp q), List.length_append, cnt_keep hk i (by omega)]
      rfl
    · rw [md_cnt_n (G := fun w => gs hn hl w k 0) q, if_pos (Decidable.not_not.mp (fun w => q ((gs_keep (by omega) hk).mpr w))), cnt_keep hk i (by omega)]
theorem keep_s {hn hl : Nat → Int64} {k i : Nat} (hk : k ≤ 200) (hi : i < 200) (q : gs hn hl i k 0 = 0) : tkeep (fun i => (hn i, hl i)) k (i + 1) = tkeep (fun i => (hn i, hl i)) k i ++ [(hn i, hl i)] := by
  show (if tgo (fun i => (hn i, hl i)) k i then _ else _) = _
  rw [if_neg ((gs_keep hi hk).mp q)]
theorem keep_n {hn hl : Nat → Int64} {k i : Nat} (hk : k ≤ 200) (hi : i < 200) (q : ¬ gs hn hl i k 0 = 0) : tkeep (fun i => (hn i, hl i)) k (i + 1) = tkeep (fun i => (hn i, hl i)) k i := by
  show (if tgo (fun i => (hn i, hl i)) k i then _ else _) = _
  rw [if_pos (Decidable.not_not.mp (fun w => q ((gs_keep hi hk).mpr w)))]
theorem tfold_tfl (F G : Nat → Int64) : ∀ k : Nat, tfold (fun i => (F i, G i)) k = tfl (tls F G k)
  | 0 => rfl
  | k + 1 => by
    rw [tls, tfl_snoc, ← tfold_tfl F G k]
    rfl
theorem rwf_up (f : Nat → Int64) (a p : Nat) (x : Int64) : rwf (vp_updL f (12 * a + p) x) a = vp_updL (rwf f a) p x := by
  funext i
  unfold rwf vp_updL
  by_cases q : i = p
  · rw [if_pos q, if_pos (by omega)]
  · rw [if_neg q, if_neg (by omega)]

set_option maxHeartbeats 4000000 in
set_option maxRecDepth 100000 in
theorem cf_X8_settle (l : Launch) (D : va_G) (ids : Nat → ClassId) (H0 : Heap) (h : rl_H) (n : Nat) (m : Nat) (T : md_T) (fu : Int32) (k : Nat) (A : md_D) (a : Nat) (hq : mf ids h h m T fu k A) (ha : a < 1368) : rl_Met l (rl_e D ids H0) rl_BW rl_Ns yX8_settle cX8_settle 6 none ({ frames := 1, cells := 0, slots := 0, locals := 24 }) [.ref m, .int (nI a)] h n (fun v h' n' => ∃ (fu' : Int32) (A' : md_D), v = none ∧ n' = n ∧ mf ids h h' m T fu' k A' ∧ mro A A' a ∧ (((tkeep (fun i => (A.2.2.2.2.2.2.1 i, A.2.2.2.2.2.2.2.1 i)) k k).length ≤ 12 ∧ fu' = fu ∧ mws A' a (tso (tkeep (fun i => (A.2.2.2.2.2.2.1 i, A.2.2.2.2.2.2.2.1 i)) k k))) ∨ (12 < (tkeep (fun i => (A.2.2.2.2.2.2.1 i, A.2.2.2.2.2.2.2.1 i)) k k).length ∧ fu' = nI 1 ∧ A'.2.2.2.1 a = nI 0))) := by
  obtain ⟨hm0, g12, g13, g14, g15, g16, g17, g18, g19, g20, g21, g22⟩ := id hq
  have g0 := hm0.1
  have gk := hm0.2.1
  have b13 := hq.b13
  have b15 := hq.b15
  have b21 := hq.b21
  refine rl_Met.of (by decide +kernel) (Nat.le_of_ble_eq_true rfl) ?_
  intro X hC hB
  have loop2 : md_cnt (fun w => gs A.2.2.2.2.2.2.1 A.2.2.2.2.2.2.2.1 w k 0) k ≤ 12 → ∀ (mm i : Nat) (h1 : rl_H) (A1 : md_D) (o2 o5 : Option Value), i + mm = k → mf ids h h1 m T fu k A1 → mro A A1 a → h1 (m + 18) = some (.inl (ids 1, 160, .inr (.inl A.2.2.2.2.2.2.1))) → h1 (m + 19) = some (.inl (ids 1, 160, .inr (.inl A.2.2.2.2.2.2.2.1))) → mwl A1 a (md_cnt (fun w => gs A.2.2.2.2.2.2.1 A.2.2.2.2.2.2.2.1 w k 0) i) = tso (tkeep (fun i => (A.2.2.2.2.2.2.1 i, A.2.2.2.2.2.2.2.1 i)) k i) → rl_G X (rl_e D ids H0) 53 [some (.ref m), some (.int (nI a)), o2, some (.int (nI (md_cnt (fun w => gs A.2.2.2.2.2.2.1 A.2.2.2.2.2.2.2.1 w k 0) i))), some (.int (nI i)), o5] [] h1 n 0 0 := by
    intro c12 mm
    induction mm with
    | zero =>
      intro i h1 A1 o2 o5 hm hq1 hro e18 e19 hrow
      have ei : i = k := by omega
      subst ei
      obtain ⟨hm0, g12, g13, g14, g15, g16, g17, g18, g19, g20, g21, g22⟩ := id hq1
      have g0 := hm0.1
      have gk := hm0.2.1
      have b13 := hq1.b13
      have b15 := hq1.b15
      have b21 := hq1.b21
      refine o_iload hC dX8_settle_53 (by rfl) ?_
      refine o_aload_n hC dX8_settle_55 (by rfl) ?_
      refine o_getf hC (fX8_82 hC rfl) dX8_settle_56 (by repeat (first | with_reducible assumption | (rw [rl_u_s]; done) | (rw [rl_u_s]; rfl) | rw [rl_u_n (by first | with_reducible assumption | omega)])) (by first | rfl | with_reducible assumption) ?_
      refine o_icmp_ge (tgt := 259) hC dX8_settle_59 (by decide) (fun c_59 => ?_) (fun c_59 => ?_)
      · refine o_aload_n hC dX8_settle_259 (by rfl) ?_
        refine o_getf hC (fX8_53 hC rfl) dX8_settle_260 (by repeat (first | with_reducible assumption | (rw [rl_u_s]; done) | (rw [rl_u_s]; rfl) | rw [rl_u_n (by first | with_reducible assumption | omega)])) (by first | rfl | with_reducible assumption) ?_
        refine o_iload_n hC dX8_settle_263 (by rfl) ?_
        refine o_iload_n hC dX8_settle_264 (by rfl) ?_
        refine o_iastN (t0 := 0) hC rfl dX8_settle_265 (by repeat (first | with_reducible assumption | (rw [rl_u_s]; done) | (rw [rl_u_s]; rfl) | rw [rl_u_n (by first | with_reducible assumption | omega)])) (by omega) (by decide) ?_
        refine o_vret hC hB dX8_settle_266 (Nat.le_of_ble_eq_true rfl) (Nat.le_of_ble_eq_true rfl) ?_
        refine ⟨fu, (A1.1, A1.2.1, A1.2.2.1, upd A1.2.2.2.1 a (nI (md_cnt (fun w => gs A.2.2.2.2.2.2.1 A.2.2.2.2.2.2.2.1 w i 0) i)), A1.2.2.2.2.1, A1.2.2.2.2.2.1, A1.2.2.2.2.2.2.1, A1.2.2.2.2.2.2.2.1, A1.2.2.2.2.2.2.2.2.1, A1.2.2.2.2.2.2.2.2.2.1, A1.2.2.2.2.2.2.2.2.2.2), rfl, rfl, hq1.s15 _ (md_bd b15 ⟨_, c12, rfl⟩), hro.tr ⟨rfl, rfl, rfl, fun j hj => if_neg hj, fun _ _ => ⟨rfl, rfl⟩, rfl⟩, Or.inl ⟨?_, rfl, ?_⟩⟩
        · rw [← cnt_keep (by omega) _ (by omega)]
          exact c12
        · have el : (tso (tkeep (fun i => (A.2.2.2.2.2.2.1 i, A.2.2.2.2.2.2.2.1 i)) i i)).length = md_cnt (fun w => gs A.2.2.2.2.2.2.1 A.2.2.2.2.2.2.2.1 w i 0) i := by rw [(tso_perm _).length_eq, cnt_keep (by omega) _ (by omega)]
          refine ⟨?_, by rw [el]; exact c12, ?_⟩
          · rw [el]
            exact if_pos rfl
          · rw [el]
            exact hrow
      · exact absurd (nI_le (by omega) (by omega)) c_59
    | succ mm ih =>
      intro i h1 A1 o2 o5 hm hq1 hro e18 e19 hrow
      have g0 := hq1.1.1
      have gk := hq1.1.2.1
      refine o_iload hC dX8_settle_53 (by rfl) ?_
      refine o_aload_n hC dX8_settle_55 (by rfl) ?_
      refine o_getf hC (fX8_82 hC rfl) dX8_settle_56 (by repeat (first | with_reducible assumption | (rw [rl_u_s]; done) | (rw [rl_u_s]; rfl) | rw [rl_u_n (by first | with_reducible assumption | omega)])) (by first | rfl | with_reducible assumption) ?_
      refine o_icmp_ge (tgt := 259) hC dX8_settle_59 (by decide) (fun c_59 => ?_) (fun c_59 => ?_)
      · exact absurd c_59 (nI_ge (by omega) (by omega))
      · refine o_aload_n hC dX8_settle_62 (by rfl) ?_
        refine o_iload hC dX8_settle_63 (by rfl) ?_
        refine o_callV1 hC rl_BW_good rl_Ns_nw (by exact hB.2.2.2.2.2) YX8_goes IX8_goes VX8_goes (mX8_87 hC) (by rw [hB.1]; exact cm_X8_goes l D ids H0 _ _ m T _ _ i A.2.2.2.2.2.2.1 A.2.2.2.2.2.2.2.1 hq1.1.rf e18 e19 (by omega)) (by exact hq1.1.1) rfl rfl (Nat.le_of_ble_eq_true rfl) (by rw [hB.2.1]; first | exact Nat.le_of_ble_eq_true rfl | (dsimp only; omega)) (by rw [hB.2.1]; first | exact Nat.le_of_ble_eq_true rfl | (dsimp only; omega)) (by rw [hB.2.1]; first | exact Nat.le_of_ble_eq_true rfl | (dsimp only; omega)) (by rw [hB.2.1]; first | exact Nat.le_of_ble_eq_true rfl | (dsimp only; omega)) dX8_settle_65 (fun v h_65 n_65 p_65 => ?_)
        obtain ⟨rfl, rfl, rfl⟩ := p_65
        try dsimp only [Option.toList, List.cons_append, List.nil_append]
        refine o_if_ne (tgt := 253) hC dX8_settle_68 (by decide) (fun c_68 => ?_) (fun c_68 => ?_)
        · refine o_iinc hC dX8_settle_253 (by rfl) (rl_inc _) (Nat.le_of_ble_eq_true rfl) ?_
          refine o_goto (tgt := 53) hC dX8_settle_256 (by decide) ?_
          have lp := ih (i + 1) _ A1 o2 o5 (by omega) hq1 hro e18 e19 (by rw [md_cnt_n (G := (fun w => gs A.2.2.2.2.2.2.1 A.2.2.2.2.2.2.2.1 w k 0)) c_68, keep_n (by omega) (by omega) c_68]; exact hrow)
          rw [md_cnt_n (G := (fun w => gs A.2.2.2.2.2.2.1 A.2.2.2.2.2.2.2.1 w k 0)) c_68] at lp
          exact lp
        · have ub := md_cnt_le (fun w => gs A.2.2.2.2.2.2.1 A.2.2.2.2.2.2.2.1 w k 0) (i + 1) mm
          rw [show i + 1 + mm = k by omega, md_cnt_s (G := (fun w => gs A.2.2.2.2.2.2.1 A.2.2.2.2.2.2.2.1 w k 0)) c_68] at ub
          have loop3 : ∀ (p : Nat) (h2 : rl_H) (A2 : md_D), p ≤ (md_cnt (fun w => gs A.2.2.2.2.2.2.1 A.2.2.2.2.2.2.2.1 w k 0) i) → mf ids h h2 m T fu k A2 → mro A A2 a → h2 (m + 18) = some (.inl (ids 1, 160, .inr (.inl A.2.2.2.2.2.2.1))) → h2 (m + 19) = some (.inl (ids 1, 160, .inr (.inl A.2.2.2.2.2.2.2.1))) → tm_ins (A.2.2.2.2.2.2.1 i) (A.2.2.2.2.2.2.2.1 i) (md_cnt (fun w => gs A.2.2.2.2.2.2.1 A.2.2.2.2.2.2.2.1 w k 0) i) (rwf A1.2.2.2.2.1 a) (rwf A1.2.2.2.2.2.1 a) = tm_ins (A.2.2.2.2.2.2.1 i) (A.2.2.2.2.2.2.2.1 i) p (rwf A2.2.2.2.2.1 a) (rwf A2.2.2.2.2.2.1 a) → rl_G X (rl_e D ids H0) 74 [some (.ref m), some (.int (nI a)), o2, some (.int (nI (md_cnt (fun w => gs A.2.2.2.2.2.2.1 A.2.2.2.2.2.2.2.1 w k 0) i))), some (.int (nI i)), some (.int (nI p))] [] h2 n_65 0 0 := by
            intro p
            induction p with
            | zero =>
              intro h2 A2 hp hq2 hro2 f18 f19 hti
              obtain ⟨hm2, g12, g13, g14, g15, g16, g17, -, -, g20, g21, g22⟩ := id hq2
              have g0 := hm2.1
              have gk := hm2.2.1
              refine o_iload hC dX8_settle_74 (by rfl) ?_
              refine o_if_le (tgt := 212) hC dX8_settle_76 (by decide) (fun c_76 => ?_) (fun c_76 => ?_)
              · refine o_aload_n hC dX8_settle_212 (by rfl) ?_
                refine o_getf hC (fX8_56 hC rfl) dX8_settle_213 (by repeat (first | with_reducible assumption | (rw [rl_u_s]; done) | (rw [rl_u_s]; rfl) | rw [rl_u_n (by first | with_reducible assumption | omega)])) (by first | rfl | with_reducible assumption) ?_
                refine o_bipush (v := nI 12) hC dX8_settle_216 (by decide +kernel) ?_
                refine o_iload_n hC dX8_settle_218 (by rfl) ?_
                refine o_imul hC dX8_settle_219 ?_
                try rw [nI_mul]
                refine o_iload hC dX8_settle_220 (by rfl) ?_
                refine o_iadd hC dX8_settle_222 ?_
                try rw [nI_add]
                refine o_aload_n hC dX8_settle_223 (by rfl) ?_
                refine o_getf hC (fX8_63 hC rfl) dX8_settle_224 (by repeat (first | with_reducible assumption | (rw [rl_u_s]; done) | (rw [rl_u_s]; rfl) | rw [rl_u_n (by first | with_reducible assumption | omega)])) (by first | rfl | with_reducible assumption) ?_
                refine o_iload hC dX8_settle_227 (by rfl) ?_
                refine o_laldN (t0 := 1) hC rfl dX8_settle_229 (by repeat (first | with_reducible assumption | (rw [rl_u_s]; done) | (rw [rl_u_s]; rfl) | rw [rl_u_n (by first | with_reducible assumption | omega)])) (by omega) (by decide) ?_
                refine o_lastN (t0 := 1) hC rfl dX8_settle_230 (by repeat (first | with_reducible assumption | (rw [rl_u_s]; done) | (rw [rl_u_s]; rfl) | rw [rl_u_n (by first | with_reducible assumption | omega)])) (by omega) (by decide) ?_
                refine o_aload_n hC dX8_settle_231 (by rfl) ?_
                refine o_getf hC (fX8_60 hC rfl) dX8_settle_232 (by repeat (first | with_reducible assumption | (rw [rl_u_s]; done) | (rw [rl_u_s]; rfl) | rw [rl_u_n (by first | with_reducible assumption | omega)])) (by first | rfl | with_reducible assumption) ?_
                refine o_bipush (v := nI 12) hC dX8_settle_235 (by decide +kernel) ?_
                refine o_iload_n hC dX8_settle_237 (by rfl) ?_
                refine o_imul hC dX8_settle_238 ?_
                try rw [nI_mul]
                refine o_iload hC dX8_settle_239 (by rfl) ?_
                refine o_iadd hC dX8_settle_241 ?_
                try rw [nI_add]
                refine o_aload_n hC dX8_settle_242 (by rfl) ?_
                refine o_getf hC (fX8_66 hC rfl) dX8_settle_243 (by repeat (first | with_reducible assumption | (rw [rl_u_s]; done) | (rw [rl_u_s]; rfl) | rw [rl_u_n (by first | with_reducible assumption | omega)])) (by first | rfl | with_reducible assumption) ?_
                refine o_iload hC dX8_settle_246 (by rfl) ?_
                refine o_laldN (t0 := 1) hC rfl dX8_settle_248 (by repeat (first | with_reducible assumption | (rw [rl_u_s]; done) | (rw [rl_u_s]; rfl) | rw [rl_u_n (by first | with_reducible assumption | omega)])) (by omega) (by decide) ?_
                refine o_lastN (t0 := 1) hC rfl dX8_settle_249 (by repeat (first | with_reducible assumption | (rw [rl_u_s]; done) | (rw [rl_u_s]; rfl) | rw [rl_u_n (by first | with_reducible assumption | omega)])) (by omega) (by decide) ?_
                refine o_iinc hC dX8_settle_250 (by rfl) (rl_inc _) (Nat.le_of_ble_eq_true rfl) ?_
                refine o_iinc hC dX8_settle_253 (by rfl) (rl_inc _) (Nat.le_of_ble_eq_true rfl) ?_
                refine o_goto (tgt := 53) hC dX8_settle_256 (by decide) ?_
                have er : rwf (vp_updL A2.2.2.2.2.1 (12 * a + 0) (A.2.2.2.2.2.2.1 i)) a = (tm_ins (A.2.2.2.2.2.2.1 i) (A.2.2.2.2.2.2.2.1 i) (md_cnt (fun w => gs A.2.2.2.2.2.2.1 A.2.2.2.2.2.2.2.1 w k 0) i) (rwf A1.2.2.2.2.1 a) (rwf A1.2.2.2.2.2.1 a)).1 ∧ rwf (vp_updL A2.2.2.2.2.2.1 (12 * a + 0) (A.2.2.2.2.2.2.2.1 i)) a = (tm_ins (A.2.2.2.2.2.2.1 i) (A.2.2.2.2.2.2.2.1 i) (md_cnt (fun w => gs A.2.2.2.2.2.2.1 A.2.2.2.2.2.2.2.1 w k 0) i) (rwf A1.2.2.2.2.1 a) (rwf A1.2.2.2.2.2.1 a)).2 := ⟨by rw [rwf_up, hti, tm_ins], by rw [rwf_up, hti, tm_ins]⟩
                rw [← md_cnt_s (G := (fun w => gs A.2.2.2.2.2.2.1 A.2.2.2.2.2.2.2.1 w k 0)) c_68]
                refine ih (i + 1) _ (A2.1, A2.2.1, A2.2.2.1, A2.2.2.2.1, vp_updL A2.2.2.2.2.1 (12 * a + 0) (A.2.2.2.2.2.2.1 i), vp_updL A2.2.2.2.2.2.1 (12 * a + 0) (A.2.2.2.2.2.2.2.1 i), A2.2.2.2.2.2.2.1, A2.2.2.2.2.2.2.2.1, A2.2.2.2.2.2.2.2.2.1, A2.2.2.2.2.2.2.2.2.2.1, A2.2.2.2.2.2.2.2.2.2.2) _ _ (by omega) ((hq2.s16 _).s17 _) (hro2.tr ⟨rfl, rfl, rfl, fun _ _ => rfl, fun q hq => ⟨up_ne (by omega), up_ne (by omega)⟩, rfl⟩) (by repeat (first | with_reducible assumption | (rw [rl_u_s]; done) | (rw [rl_u_s]; rfl) | rw [rl_u_n (by first | with_reducible assumption | omega)])) (by repeat (first | with_reducible assumption | (rw [rl_u_s]; done) | (rw [rl_u_s]; rfl) | rw [rl_u_n (by first | with_reducible assumption | omega)])) ?_
                rw [md_cnt_s (G := (fun w => gs A.2.2.2.2.2.2.1 A.2.2.2.2.2.2.2.1 w k 0)) c_68, keep_s (by omega) (by omega) c_68, tso_snoc, ← hrow, ← tm_ins_list, ← er.1, ← er.2]
              · exact absurd (by decide +kernel) c_76
            | succ p ihp =>
              intro h2 A2 hp hq2 hro2 f18 f19 hti
              obtain ⟨hm2, g12, g13, g14, g15, g16, g17, -, -, g20, g21, g22⟩ := id hq2
              have g0 := hm2.1
              have gk := hm2.2.1
              refine o_iload hC dX8_settle_74 (by rfl) ?_
              refine o_if_le (tgt := 212) hC dX8_settle_76 (by decide) (fun c_76 => ?_) (fun c_76 => ?_)
              · exact absurd c_76 (nI_nle (Nat.succ_pos p) (by omega))
              · refine o_aload_n hC dX8_settle_79 (by rfl) ?_
                refine o_getf hC (fX8_56 hC rfl) dX8_settle_80 (by repeat (first | with_reducible assumption | (rw [rl_u_s]; done) | (rw [rl_u_s]; rfl) | rw [rl_u_n (by first | with_reducible assumption | omega)])) (by first | rfl | with_reducible assumption) ?_
                refine o_bipush (v := nI 12) hC dX8_settle_83 (by decide +kernel) ?_
                refine o_iload_n hC dX8_settle_85 (by rfl) ?_
                refine o_imul hC dX8_settle_86 ?_
                try rw [nI_mul]
                refine o_iload hC dX8_settle_87 (by rfl) ?_
                refine o_iadd hC dX8_settle_89 ?_
                try rw [nI_add]
                refine o_iconst (v := nI 1) hC dX8_settle_90 (by decide +kernel) ?_
                refine o_isub hC dX8_settle_91 ?_
                rw [show nI (12 * a + (p + 1)) - nI 1 = nI (12 * a + p) from rl_pred _]
                refine o_laldN (t0 := 1) hC rfl dX8_settle_92 (by repeat (first | with_reducible assumption | (rw [rl_u_s]; done) | (rw [rl_u_s]; rfl) | rw [rl_u_n (by first | with_reducible assumption | omega)])) (by omega) (by decide) ?_
                refine o_aload_n hC dX8_settle_93 (by rfl) ?_
                refine o_getf hC (fX8_63 hC rfl) dX8_settle_94 (by repeat (first | with_reducible assumption | (rw [rl_u_s]; done) | (rw [rl_u_s]; rfl) | rw [rl_u_n (by first | with_reducible assumption | omega)])) (by first | rfl | with_reducible assumption) ?_
                refine o_iload hC dX8_settle_97 (by rfl) ?_
                refine o_laldN (t0 := 1) hC rfl dX8_settle_99 (by repeat (first | with_reducible assumption | (rw [rl_u_s]; done) | (rw [rl_u_s]; rfl) | rw [rl_u_n (by first | with_reducible assumption | omega)])) (by omega) (by decide) ?_
                refine o_lcmp hC dX8_settle_100 ?_
                refine o_if_gt (tgt := 154) hC dX8_settle_101 (by decide) (fun c_101 => ?_) (fun c_101 => ?_)
                · have yc : (A.2.2.2.2.2.2.1 i < A2.2.2.2.2.1 (12 * a + p) ∨ (A2.2.2.2.2.1 (12 * a + p) = A.2.2.2.2.2.2.1 i ∧ A.2.2.2.2.2.2.2.1 i < A2.2.2.2.2.2.1 (12 * a + p))) := by
                    first
                    | exact Or.inl ((lg_cmp_gt _ _).mp c_101)
                    | exact Or.inr ⟨(lg_cmp_eq _ _).mp c_126, Int64.not_le.mp (fun w => c_151 ((lg_cmp_le _ _).mpr w))⟩
                  refine o_aload_n hC dX8_settle_154 (by rfl) ?_
                  refine o_getf hC (fX8_56 hC rfl) dX8_settle_155 (by repeat (first | with_reducible assumption | (rw [rl_u_s]; done) | (rw [rl_u_s]; rfl) | rw [rl_u_n (by first | with_reducible assumption | omega)])) (by first | rfl | with_reducible assumption) ?_
                  refine o_bipush (v := nI 12) hC dX8_settle_158 (by decide +kernel) ?_
                  refine o_iload_n hC dX8_settle_160 (by rfl) ?_
                  refine o_imul hC dX8_settle_161 ?_
                  try rw [nI_mul]
                  refine o_iload hC dX8_settle_162 (by rfl) ?_
                  refine o_iadd hC dX8_settle_164 ?_
                  try rw [nI_add]
                  refine o_aload_n hC dX8_settle_165 (by rfl) ?_
                  refine o_getf hC (fX8_56 hC rfl) dX8_settle_166 (by repeat (first | with_reducible assumption | (rw [rl_u_s]; done) | (rw [rl_u_s]; rfl) | rw [rl_u_n (by first | with_reducible assumption | omega)])) (by first | rfl | with_reducible assumption) ?_
                  refine o_bipush (v := nI 12) hC dX8_settle_169 (by decide +kernel) ?_
                  refine o_iload_n hC dX8_settle_171 (by rfl) ?_
                  refine o_imul hC dX8_settle_172 ?_
                  try rw [nI_mul]
                  refine o_iload hC dX8_settle_173 (by rfl) ?_
                  refine o_iadd hC dX8_settle_175 ?_
                  try rw [nI_add]
                  refine o_iconst (v := nI 1) hC dX8_settle_176 (by decide +kernel) ?_
                  refine o_isub hC dX8_settle_177 ?_
                  rw [show nI (12 * a + (p + 1)) - nI 1 = nI (12 * a + p) from rl_pred _]
                  refine o_laldN (t0 := 1) hC rfl dX8_settle_178 (by repeat (first | with_reducible assumption | (rw [rl_u_s]; done) | (rw [rl_u_s]; rfl) | rw [rl_u_n (by first | with_reducible assumption | omega)])) (by omega) (by decide) ?_
                  refine o_lastN (t0 := 1) hC rfl dX8_settle_179 (by repeat (first | with_reducible assumption | (rw [rl_u_s]; done) | (rw [rl_u_s]; rfl) | rw [rl_u_n (by first | with_reducible assumption | omega)])) (by omega) (by decide) ?_
                  refine o_aload_n hC dX8_settle_180 (by rfl) ?_
                  refine o_getf hC (fX8_60 hC rfl) dX8_settle_181 (by repeat (first | with_reducible assumption | (rw [rl_u_s]; done) | (rw [rl_u_s]; rfl) | rw [rl_u_n (by first | with_reducible assumption | omega)])) (by first | rfl | with_reducible assumption) ?_
                  refine o_bipush (v := nI 12) hC dX8_settle_184 (by decide +kernel) ?_
                  refine o_iload_n hC dX8_settle_186 (by rfl) ?_
                  refine o_imul hC dX8_settle_187 ?_
                  try rw [nI_mul]
                  refine o_iload hC dX8_settle_188 (by rfl) ?_
                  refine o_iadd hC dX8_settle_190 ?_
                  try rw [nI_add]
                  refine o_aload_n hC dX8_settle_191 (by rfl) ?_
                  refine o_getf hC (fX8_60 hC rfl) dX8_settle_192 (by repeat (first | with_reducible assumption | (rw [rl_u_s]; done) | (rw [rl_u_s]; rfl) | rw [rl_u_n (by first | with_reducible assumption | omega)])) (by first | rfl | with_reducible assumption) ?_
                  refine o_bipush (v := nI 12) hC dX8_settle_195 (by decide +kernel) ?_
                  refine o_iload_n hC dX8_settle_197 (by rfl) ?_
                  refine o_imul hC dX8_settle_198 ?_
                  try rw [nI_mul]
                  refine o_iload hC dX8_settle_199 (by rfl) ?_
                  refine o_iadd hC dX8_settle_201 ?_
                  try rw [nI_add]
                  refine o_iconst (v := nI 1) hC dX8_settle_202 (by decide +kernel) ?_
                  refine o_isub hC dX8_settle_203 ?_
                  rw [show nI (12 * a + (p + 1)) - nI 1 = nI (12 * a + p) from rl_pred _]
                  refine o_laldN (t0 := 1) hC rfl dX8_settle_204 (by repeat (first | with_reducible assumption | (rw [rl_u_s]; done) | (rw [rl_u_s]; rfl) | rw [rl_u_n (by first | with_reducible assumption | omega)])) (by omega) (by decide) ?_
                  refine o_lastN (t0 := 1) hC rfl dX8_settle_205 (by repeat (first | with_reducible assumption | (rw [rl_u_s]; done) | (rw [rl_u_s]; rfl) | rw [rl_u_n (by first | with_reducible assumption | omega)])) (by omega) (by decide) ?_
                  refine o_iinc hC dX8_settle_206 (by rfl) (rl_dec _) (Nat.le_of_ble_eq_true rfl) ?_
                  refine o_goto (tgt := 74) hC dX8_settle_209 (by decide) ?_
                  refine ihp _ (A2.1, A2.2.1, A2.2.2.1, A2.2.2.2.1, vp_updL A2.2.2.2.2.1 (12 * a + (p + 1)) (A2.2.2.2.2.1 (12 * a + p)), vp_updL A2.2.2.2.2.2.1 (12 * a + (p + 1)) (A2.2.2.2.2.2.1 (12 * a + p)), A2.2.2.2.2.2.2.1, A2.2.2.2.2.2.2.2.1, A2.2.2.2.2.2.2.2.2.1, A2.2.2.2.2.2.2.2.2.2.1, A2.2.2.2.2.2.2.2.2.2.2) (by omega) ((hq2.s16 _).s17 _) (hro2.tr ⟨rfl, rfl, rfl, fun _ _ => rfl, fun q hq => ⟨up_ne (by omega), up_ne (by omega)⟩, rfl⟩) (by repeat (first | with_reducible assumption | (rw [rl_u_s]; done) | (rw [rl_u_s]; rfl) | rw [rl_u_n (by first | with_reducible assumption | omega)])) (by repeat (first | with_reducible assumption | (rw [rl_u_s]; done) | (rw [rl_u_s]; rfl) | rw [rl_u_n (by first | with_reducible assumption | omega)])) ?_
                  rw [hti, tm_ins, if_pos yc, rwf_up, rwf_up]
                · refine o_aload_n hC dX8_settle_104 (by rfl) ?_
                  refine o_getf hC (fX8_56 hC rfl) dX8_settle_105 (by repeat (first | with_reducible assumption | (rw [rl_u_s]; done) | (rw [rl_u_s]; rfl) | rw [rl_u_n (by first | with_reducible assumption | omega)])) (by first | rfl | with_reducible assumption) ?_
                  refine o_bipush (v := nI 12) hC dX8_settle_108 (by decide +kernel) ?_
                  refine o_iload_n hC dX8_settle_110 (by rfl) ?_
                  refine o_imul hC dX8_settle_111 ?_
                  try rw [nI_mul]
                  refine o_iload hC dX8_settle_112 (by rfl) ?_
                  refine o_iadd hC dX8_settle_114 ?_
                  try rw [nI_add]
                  refine o_iconst (v := nI 1) hC dX8_settle_115 (by decide +kernel) ?_
                  refine o_isub hC dX8_settle_116 ?_
                  rw [show nI (12 * a + (p + 1)) - nI 1 = nI (12 * a + p) from rl_pred _]
                  refine o_laldN (t0 := 1) hC rfl dX8_settle_117 (by repeat (first | with_reducible assumption | (rw [rl_u_s]; done) | (rw [rl_u_s]; rfl) | rw [rl_u_n (by first | with_reducible assumption | omega)])) (by omega) (by decide) ?_
                  refine o_aload_n hC dX8_settle_118 (by rfl) ?_
                  refine o_getf hC (fX8_63 hC rfl) dX8_settle_119 (by repeat (first | with_reducible assumption | (rw [rl_u_s]; done) | (rw [rl_u_s]; rfl) | rw [rl_u_n (by first | with_reducible assumption | omega)])) (by first | rfl | with_reducible assumption) ?_
                  refine o_iload hC dX8_settle_122 (by rfl) ?_
                  refine o_laldN (t0 := 1) hC rfl dX8_settle_124 (by repeat (first | with_reducible assumption | (rw [rl_u_s]; done) | (rw [rl_u_s]; rfl) | rw [rl_u_n (by first | with_reducible assumption | omega)])) (by omega) (by decide) ?_
                  refine o_lcmp hC dX8_settle_125 ?_
                  refine o_if_ne (tgt := 212) hC dX8_settle_126 (by decide) (fun c_126 => ?_) (fun c_126 => ?_)
                  · have nc : ¬ (A.2.2.2.2.2.2.1 i < A2.2.2.2.2.1 (12 * a + p) ∨ (A2.2.2.2.2.1 (12 * a + p) = A.2.2.2.2.2.2.1 i ∧ A.2.2.2.2.2.2.2.1 i < A2.2.2.2.2.2.1 (12 * a + p))) := by
                      first
                      | exact fun w => w.elim (fun w => c_101 ((lg_cmp_gt _ _).mpr w)) (fun w => c_126 ((lg_cmp_eq _ _).mpr w.1))
                      | exact fun w => w.elim (fun w => c_101 ((lg_cmp_gt _ _).mpr w)) (fun w => Int64.not_lt.mpr ((lg_cmp_le _ _).mp c_151) w.2)
                    refine o_aload_n hC dX8_settle_212 (by rfl) ?_
                    refine o_getf hC (fX8_56 hC rfl) dX8_settle_213 (by repeat (first | with_reducible assumption | (rw [rl_u_s]; done) | (rw [rl_u_s]; rfl) | rw [rl_u_n (by first | with_reducible assumption | omega)])) (by first | rfl | with_reducible assumption) ?_
                    refine o_bipush (v := nI 12) hC dX8_settle_216 (by decide +kernel) ?_
                    refine o_iload_n hC dX8_settle_218 (by rfl) ?_
                    refine o_imul hC dX8_settle_219 ?_
                    try rw [nI_mul]
                    refine o_iload hC dX8_settle_220 (by rfl) ?_
                    refine o_iadd hC dX8_settle_222 ?_
                    try rw [nI_add]
                    refine o_aload_n hC dX8_settle_223 (by rfl) ?_
                    refine o_getf hC (fX8_63 hC rfl) dX8_settle_224 (by repeat (first | with_reducible assumption | (rw [rl_u_s]; done) | (rw [rl_u_s]; rfl) | rw [rl_u_n (by first | with_reducible assumption | omega)])) (by first | rfl | with_reducible assumption) ?_
                    refine o_iload hC dX8_settle_227 (by rfl) ?_
                    refine o_laldN (t0 := 1) hC rfl dX8_settle_229 (by repeat (first | with_reducible assumption | (rw [rl_u_s]; done) | (rw [rl_u_s]; rfl) | rw [rl_u_n (by first | with_reducible assumption | omega)])) (by omega) (by decide) ?_
                    refine o_lastN (t0 := 1) hC rfl dX8_settle_230 (by repeat (first | with_reducible assumption | (rw [rl_u_s]; done) | (rw [rl_u_s]; rfl) | rw [rl_u_n (by first | with_reducible assumption | omega)])) (by omega) (by decide) ?_
                    refine o_aload_n hC dX8_settle_231 (by rfl) ?_
                    refine o_getf hC (fX8_60 hC rfl) dX8_settle_232 (by repeat (first | with_reducible assumption | (rw [rl_u_s]; done) | (rw [rl_u_s]; rfl) | rw [rl_u_n (by first | with_reducible assumption | omega)])) (by first | rfl | with_reducible assumption) ?_
                    refine o_bipush (v := nI 12) hC dX8_settle_235 (by decide +kernel) ?_
                    refine o_iload_n hC dX8_settle_237 (by rfl) ?_
                    refine o_imul hC dX8_settle_238 ?_
                    try rw [nI_mul]
                    refine o_iload hC dX8_settle_239 (by rfl) ?_
                    refine o_iadd hC dX8_settle_241 ?_
                    try rw [nI_add]
                    refine o_aload_n hC dX8_settle_242 (by rfl) ?_
                    refine o_getf hC (fX8_66 hC rfl) dX8_settle_243 (by repeat (first | with_reducible assumption | (rw [rl_u_s]; done) | (rw [rl_u_s]; rfl) | rw [rl_u_n (by first | with_reducible assumption | omega)])) (by first | rfl | with_reducible assumption) ?_
                    refine o_iload hC dX8_settle_246 (by rfl) ?_
                    refine o_laldN (t0 := 1) hC rfl dX8_settle_248 (by repeat (first | with_reducible assumption | (rw [rl_u_s]; done) | (rw [rl_u_s]; rfl) | rw [rl_u_n (by first | with_reducible assumption | omega)])) (by omega) (by decide) ?_
                    refine o_lastN (t0 := 1) hC rfl dX8_settle_249 (by repeat (first | with_reducible assumption | (rw [rl_u_s]; done) | (rw [rl_u_s]; rfl) | rw [rl_u_n (by first | with_reducible assumption | omega)])) (by omega) (by decide) ?_
                    refine o_iinc hC dX8_settle_250 (by rfl) (rl_inc _) (Nat.le_of_ble_eq_true rfl) ?_
                    refine o_iinc hC dX8_settle_253 (by rfl) (rl_inc _) (Nat.le_of_ble_eq_true rfl) ?_
                    refine o_goto (tgt := 53) hC dX8_settle_256 (by decide) ?_
                    have er : rwf (vp_updL A2.2.2.2.2.1 (12 * a + (p + 1)) (A.2.2.2.2.2.2.1 i)) a = (tm_ins (A.2.2.2.2.2.2.1 i) (A.2.2.2.2.2.2.2.1 i) (md_cnt (fun w => gs A.2.2.2.2.2.2.1 A.2.2.2.2.2.2.2.1 w k 0) i) (rwf A1.2.2.2.2.1 a) (rwf A1.2.2.2.2.2.1 a)).1 ∧ rwf (vp_updL A2.2.2.2.2.2.1 (12 * a + (p + 1)) (A.2.2.2.2.2.2.2.1 i)) a = (tm_ins (A.2.2.2.2.2.2.1 i) (A.2.2.2.2.2.2.2.1 i) (md_cnt (fun w => gs A.2.2.2.2.2.2.1 A.2.2.2.2.2.2.2.1 w k 0) i) (rwf A1.2.2.2.2.1 a) (rwf A1.2.2.2.2.2.1 a)).2 := ⟨by rw [rwf_up, hti, tm_ins, if_neg nc], by rw [rwf_up, hti, tm_ins, if_neg nc]⟩
                    rw [← md_cnt_s (G := (fun w => gs A.2.2.2.2.2.2.1 A.2.2.2.2.2.2.2.1 w k 0)) c_68]
                    refine ih (i + 1) _ (A2.1, A2.2.1, A2.2.2.1, A2.2.2.2.1, vp_updL A2.2.2.2.2.1 (12 * a + (p + 1)) (A.2.2.2.2.2.2.1 i), vp_updL A2.2.2.2.2.2.1 (12 * a + (p + 1)) (A.2.2.2.2.2.2.2.1 i), A2.2.2.2.2.2.2.1, A2.2.2.2.2.2.2.2.1, A2.2.2.2.2.2.2.2.2.1, A2.2.2.2.2.2.2.2.2.2.1, A2.2.2.2.2.2.2.2.2.2.2) _ _ (by omega) ((hq2.s16 _).s17 _) (hro2.tr ⟨rfl, rfl, rfl, fun _ _ => rfl, fun q hq => ⟨up_ne (by omega), up_ne (by omega)⟩, rfl⟩) (by repeat (first | with_reducible assumption | (rw [rl_u_s]; done) | (rw [rl_u_s]; rfl) | rw [rl_u_n (by first | with_reducible assumption | omega)])) (by repeat (first | with_reducible assumption | (rw [rl_u_s]; done) | (rw [rl_u_s]; rfl) | rw [rl_u_n (by first | with_reducible assumption | omega)])) ?_
                    rw [md_cnt_s (G := (fun w => gs A.2.2.2.2.2.2.1 A.2.2.2.2.2.2.2.1 w k 0)) c_68, keep_s (by omega) (by omega) c_68, tso_snoc, ← hrow, ← tm_ins_list, ← er.1, ← er.2]
                  · refine o_aload_n hC dX8_settle_129 (by rfl) ?_
                    refine o_getf hC (fX8_60 hC rfl) dX8_settle_130 (by repeat (first | with_reducible assumption | (rw [rl_u_s]; done) | (rw [rl_u_s]; rfl) | rw [rl_u_n (by first | with_reducible assumption | omega)])) (by first | rfl | with_reducible assumption) ?_
                    refine o_bipush (v := nI 12) hC dX8_settle_133 (by decide +kernel) ?_
                    refine o_iload_n hC dX8_settle_135 (by rfl) ?_
                    refine o_imul hC dX8_settle_136 ?_
                    try rw [nI_mul]
                    refine o_iload hC dX8_settle_137 (by rfl) ?_
                    refine o_iadd hC dX8_settle_139 ?_
                    try rw [nI_add]
                    refine o_iconst (v := nI 1) hC dX8_settle_140 (by decide +kernel) ?_
                    refine o_isub hC dX8_settle_141 ?_
                    rw [show nI (12 * a + (p + 1)) - nI 1 = nI (12 * a + p) from rl_pred _]
                    refine o_laldN (t0 := 1) hC rfl dX8_settle_142 (by repeat (first | with_reducible assumption | (rw [rl_u_s]; done) | (rw [rl_u_s]; rfl) | rw [rl_u_n (by first | with_reducible assumption | omega)])) (by omega) (by decide) ?_
                    refine o_aload_n hC dX8_settle_143 (by rfl) ?_
                    refine o_getf hC (fX8_66 hC rfl) dX8_settle_144 (by repeat (first | with_reducible assumption | (rw [rl_u_s]; done) | (rw [rl_u_s]; rfl) | rw [rl_u_n (by first | with_reducible assumption | omega)])) (by first | rfl | with_reducible assumption) ?_
                    refine o_iload hC dX8_settle_147 (by rfl) ?_
                    refine o_laldN (t0 := 1) hC rfl dX8_settle_149 (by repeat (first | with_reducible assumption | (rw [rl_u_s]; done) | (rw [rl_u_s]; rfl) | rw [rl_u_n (by first | with_reducible assumption | omega)])) (by omega) (by decide) ?_
                    refine o_lcmp hC dX8_settle_150 ?_
                    refine o_if_le (tgt := 212) hC dX8_settle_151 (by decide) (fun c_151 => ?_) (fun c_151 => ?_)
                    · have nc : ¬ (A.2.2.2.2.2.2.1 i < A2.2.2.2.2.1 (12 * a + p) ∨ (A2.2.2.2.2.1 (12 * a + p) = A.2.2.2.2.2.2.1 i ∧ A.2.2.2.2.2.2.2.1 i < A2.2.2.2.2.2.1 (12 * a + p))) := by
                        first
                        | exact fun w => w.elim (fun w => c_101 ((lg_cmp_gt _ _).mpr w)) (fun w => c_126 ((lg_cmp_eq _ _).mpr w.1))
                        | exact fun w => w.elim (fun w => c_101 ((lg_cmp_gt _ _).mpr w)) (fun w => Int64.not_lt.mpr ((lg_cmp_le _ _).mp c_151) w.2)
                      refine o_aload_n hC dX8_settle_212 (by rfl) ?_
                      refine o_getf hC (fX8_56 hC rfl) dX8_settle_213 (by repeat (first | with_reducible assumption | (rw [rl_u_s]; done) | (rw [rl_u_s]; rfl) | rw [rl_u_n (by first | with_reducible assumption | omega)])) (by first | rfl | with_reducible assumption) ?_
                      refine o_bipush (v := nI 12) hC dX8_settle_216 (by decide +kernel) ?_
                      refine o_iload_n hC dX8_settle_218 (by rfl) ?_
                      refine o_imul hC dX8_settle_219 ?_
                      try rw [nI_mul]
                      refine o_iload hC dX8_settle_220 (by rfl) ?_
                      refine o_iadd hC dX8_settle_222 ?_
                      try rw [nI_add]
                      refine o_aload_n hC dX8_settle_223 (by rfl) ?_
                      refine o_getf hC (fX8_63 hC rfl) dX8_settle_224 (by repeat (first | with_reducible assumption | (rw [rl_u_s]; done) | (rw [rl_u_s]; rfl) | rw [rl_u_n (by first | with_reducible assumption | omega)])) (by first | rfl | with_reducible assumption) ?_
                      refine o_iload hC dX8_settle_227 (by rfl) ?_
                      refine o_laldN (t0 := 1) hC rfl dX8_settle_229 (by repeat (first | with_reducible assumption | (rw [rl_u_s]; done) | (rw [rl_u_s]; rfl) | rw [rl_u_n (by first | with_reducible assumption | omega)])) (by omega) (by decide) ?_
                      refine o_lastN (t0 := 1) hC rfl dX8_settle_230 (by repeat (first | with_reducible assumption | (rw [rl_u_s]; done) | (rw [rl_u_s]; rfl) | rw [rl_u_n (by first | with_reducible assumption | omega)])) (by omega) (by decide) ?_
                      refine o_aload_n hC dX8_settle_231 (by rfl) ?_
                      refine o_getf hC (fX8_60 hC rfl) dX8_settle_232 (by repeat (first | with_reducible assumption | (rw [rl_u_s]; done) | (rw [rl_u_s]; rfl) | rw [rl_u_n (by first | with_reducible assumption | omega)])) (by first | rfl | with_reducible assumption) ?_
                      refine o_bipush (v := nI 12) hC dX8_settle_235 (by decide +kernel) ?_
                      refine o_iload_n hC dX8_settle_237 (by rfl) ?_
                      refine o_imul hC dX8_settle_238 ?_
                      try rw [nI_mul]
                      refine o_iload hC dX8_settle_239 (by rfl) ?_
                      refine o_iadd hC dX8_settle_241 ?_
                      try rw [nI_add]
                      refine o_aload_n hC dX8_settle_242 (by rfl) ?_
                      refine o_getf hC (fX8_66 hC rfl) dX8_settle_243 (by repeat (first | with_reducible assumption | (rw [rl_u_s]; done) | (rw [rl_u_s]; rfl) | rw [rl_u_n (by first | with_reducible assumption | omega)])) (by first | rfl | with_reducible assumption) ?_
                      refine o_iload hC dX8_settle_246 (by rfl) ?_
                      refine o_laldN (t0 := 1) hC rfl dX8_settle_248 (by repeat (first | with_reducible assumption | (rw [rl_u_s]; done) | (rw [rl_u_s]; rfl) | rw [rl_u_n (by first | with_reducible assumption | omega)])) (by omega) (by decide) ?_
                      refine o_lastN (t0 := 1) hC rfl dX8_settle_249 (by repeat (first | with_reducible assumption | (rw [rl_u_s]; done) | (rw [rl_u_s]; rfl) | rw [rl_u_n (by first | with_reducible assumption | omega)])) (by omega) (by decide) ?_
                      refine o_iinc hC dX8_settle_250 (by rfl) (rl_inc _) (Nat.le_of_ble_eq_true rfl) ?_
                      refine o_iinc hC dX8_settle_253 (by rfl) (rl_inc _) (Nat.le_of_ble_eq_true rfl) ?_
                      refine o_goto (tgt := 53) hC dX8_settle_256 (by decide) ?_
                      have er : rwf (vp_updL A2.2.2.2.2.1 (12 * a + (p + 1)) (A.2.2.2.2.2.2.1 i)) a = (tm_ins (A.2.2.2.2.2.2.1 i) (A.2.2.2.2.2.2.2.1 i) (md_cnt (fun w => gs A.2.2.2.2.2.2.1 A.2.2.2.2.2.2.2.1 w k 0) i) (rwf A1.2.2.2.2.1 a) (rwf A1.2.2.2.2.2.1 a)).1 ∧ rwf (vp_updL A2.2.2.2.2.2.1 (12 * a + (p + 1)) (A.2.2.2.2.2.2.2.1 i)) a = (tm_ins (A.2.2.2.2.2.2.1 i) (A.2.2.2.2.2.2.2.1 i) (md_cnt (fun w => gs A.2.2.2.2.2.2.1 A.2.2.2.2.2.2.2.1 w k 0) i) (rwf A1.2.2.2.2.1 a) (rwf A1.2.2.2.2.2.1 a)).2 := ⟨by rw [rwf_up, hti, tm_ins, if_neg nc], by rw [rwf_up, hti, tm_ins, if_neg nc]⟩
                      rw [← md_cnt_s (G := (fun w => gs A.2.2.2.2.2.2.1 A.2.2.2.2.2.2.2.1 w k 0)) c_68]
                      refine ih (i + 1) _ (A2.1, A2.2.1, A2.2.2.1, A2.2.2.2.1, vp_updL A2.2.2.2.2.1 (12 * a + (p + 1)) (A.2.2.2.2.2.2.1 i), vp_updL A2.2.2.2.2.2.1 (12 * a + (p + 1)) (A.2.2.2.2.2.2.2.1 i), A2.2.2.2.2.2.2.1, A2.2.2.2.2.2.2.2.1, A2.2.2.2.2.2.2.2.2.1, A2.2.2.2.2.2.2.2.2.2.1, A2.2.2.2.2.2.2.2.2.2.2) _ _ (by omega) ((hq2.s16 _).s17 _) (hro2.tr ⟨rfl, rfl, rfl, fun _ _ => rfl, fun q hq => ⟨up_ne (by omega), up_ne (by omega)⟩, rfl⟩) (by repeat (first | with_reducible assumption | (rw [rl_u_s]; done) | (rw [rl_u_s]; rfl) | rw [rl_u_n (by first | with_reducible assumption | omega)])) (by repeat (first | with_reducible assumption | (rw [rl_u_s]; done) | (rw [rl_u_s]; rfl) | rw [rl_u_n (by first | with_reducible assumption | omega)])) ?_
                      rw [md_cnt_s (G := (fun w => gs A.2.2.2.2.2.2.1 A.2.2.2.2.2.2.2.1 w k 0)) c_68, keep_s (by omega) (by omega) c_68, tso_snoc, ← hrow, ← tm_ins_list, ← er.1, ← er.2]
                    · have yc : (A.2.2.2.2.2.2.1 i < A2.2.2.2.2.1 (12 * a + p) ∨ (A2.2.2.2.2.1 (12 * a + p) = A.2.2.2.2.2.2.1 i ∧ A.2.2.2.2.2.2.2.1 i < A2.2.2.2.2.2.1 (12 * a + p))) := by
                        first
                        | exact Or.inl ((lg_cmp_gt _ _).mp c_101)
                        | exact Or.inr ⟨(lg_cmp_eq _ _).mp c_126, Int64.not_le.mp (fun w => c_151 ((lg_cmp_le _ _).mpr w))⟩
                      refine o_aload_n hC dX8_settle_154 (by rfl) ?_
                      refine o_getf hC (fX8_56 hC rfl) dX8_settle_155 (by repeat (first | with_reducible assumption | (rw [rl_u_s]; done) | (rw [rl_u_s]; rfl) | rw [rl_u_n (by first | with_reducible assumption | omega)])) (by first | rfl | with_reducible assumption) ?_
                      refine o_bipush (v := nI 12) hC dX8_settle_158 (by decide +kernel) ?_
                      refine o_iload_n hC dX8_settle_160 (by rfl) ?_
                      refine o_imul hC dX8_settle_161 ?_
                      try rw [nI_mul]
                      refine o_iload hC dX8_settle_162 (by rfl) ?_
                      refine o_iadd hC dX8_settle_164 ?_
                      try rw [nI_add]
                      refine o_aload_n hC dX8_settle_165 (by rfl) ?_
                      refine o_getf hC (fX8_56 hC rfl) dX8_settle_166 (by repeat (first | with_reducible assumption | (rw [rl_u_s]; done) | (rw [rl_u_s]; rfl) | rw [rl_u_n (by first | with_reducible assumption | omega)])) (by first | rfl | with_reducible assumption) ?_
                      refine o_bipush (v := nI 12) hC dX8_settle_169 (by decide +kernel) ?_
                      refine o_iload_n hC dX8_settle_171 (by rfl) ?_
                      refine o_imul hC dX8_settle_172 ?_
                      try rw [nI_mul]
                      refine o_iload hC dX8_settle_173 (by rfl) ?_
                      refine o_iadd hC dX8_settle_175 ?_
                      try rw [nI_add]
                      refine o_iconst (v := nI 1) hC dX8_settle_176 (by decide +kernel) ?_
                      refine o_isub hC dX8_settle_177 ?_
                      rw [show nI (12 * a + (p + 1)) - nI 1 = nI (12 * a + p) from rl_pred _]
                      refine o_laldN (t0 := 1) hC rfl dX8_settle_178 (by repeat (first | with_reducible assumption | (rw [rl_u_s]; done) | (rw [rl_u_s]; rfl) | rw [rl_u_n (by first | with_reducible assumption | omega)])) (by omega) (by decide) ?_
                      refine o_lastN (t0 := 1) hC rfl dX8_settle_179 (by repeat (first | with_reducible assumption | (rw [rl_u_s]; done) | (rw [rl_u_s]; rfl) | rw [rl_u_n (by first | with_reducible assumption | omega)])) (by omega) (by decide) ?_
                      refine o_aload_n hC dX8_settle_180 (by rfl) ?_
                      refine o_getf hC (fX8_60 hC rfl) dX8_settle_181 (by repeat (first | with_reducible assumption | (rw [rl_u_s]; done) | (rw [rl_u_s]; rfl) | rw [rl_u_n (by first | with_reducible assumption | omega)])) (by first | rfl | with_reducible assumption) ?_
                      refine o_bipush (v := nI 12) hC dX8_settle_184 (by decide +kernel) ?_
                      refine o_iload_n hC dX8_settle_186 (by rfl) ?_
                      refine o_imul hC dX8_settle_187 ?_
                      try rw [nI_mul]
                      refine o_iload hC dX8_settle_188 (by rfl) ?_
                      refine o_iadd hC dX8_settle_190 ?_
                      try rw [nI_add]
                      refine o_aload_n hC dX8_settle_191 (by rfl) ?_
                      refine o_getf hC (fX8_60 hC rfl) dX8_settle_192 (by repeat (first | with_reducible assumption | (rw [rl_u_s]; done) | (rw [rl_u_s]; rfl) | rw [rl_u_n (by first | with_reducible assumption | omega)])) (by first | rfl | with_reducible assumption) ?_
                      refine o_bipush (v := nI 12) hC dX8_settle_195 (by decide +kernel) ?_
                      refine o_iload_n hC dX8_settle_197 (by rfl) ?_
                      refine o_imul hC dX8_settle_198 ?_
                      try rw [nI_mul]
                      refine o_iload hC dX8_settle_199 (by rfl) ?_
                      refine o_iadd hC dX8_settle_201 ?_
                      try rw [nI_add]
                      refine o_iconst (v := nI 1) hC dX8_settle_202 (by decide +kernel) ?_
                      refine o_isub hC dX8_settle_203 ?_
                      rw [show nI (12 * a + (p + 1)) - nI 1 = nI (12 * a + p) from rl_pred _]
                      refine o_laldN (t0 := 1) hC rfl dX8_settle_204 (by repeat (first | with_reducible assumption | (rw [rl_u_s]; done) | (rw [rl_u_s]; rfl) | rw [rl_u_n (by first | with_reducible assumption | omega)])) (by omega) (by decide) ?_
                      refine o_lastN (t0 := 1) hC rfl dX8_settle_205 (by repeat (first | with_reducible assumption | (rw [rl_u_s]; done) | (rw [rl_u_s]; rfl) | rw [rl_u_n (by first | with_reducible assumption | omega)])) (by omega) (by decide) ?_
                      refine o_iinc hC dX8_settle_206 (by rfl) (rl_dec _) (Nat.le_of_ble_eq_true rfl) ?_
                      refine o_goto (tgt := 74) hC dX8_settle_209 (by decide) ?_
                      refine ihp _ (A2.1, A2.2.1, A2.2.2.1, A2.2.2.2.1, vp_updL A2.2.2.2.2.1 (12 * a + (p + 1)) (A2.2.2.2.2.1 (12 * a + p)), vp_updL A2.2.2.2.2.2.1 (12 * a + (p + 1)) (A2.2.2.2.2.2.1 (12 * a + p)), A2.2.2.2.2.2.2.1, A2.2.2.2.2.2.2.2.1, A2.2.2.2.2.2.2.2.2.1, A2.2.2.2.2.2.2.2.2.2.1, A2.2.2.2.2.2.2.2.2.2.2) (by omega) ((hq2.s16 _).s17 _) (hro2.tr ⟨rfl, rfl, rfl, fun _ _ => rfl, fun q hq => ⟨up_ne (by omega), up_ne (by omega)⟩, rfl⟩) (by repeat (first | with_reducible assumption | (rw [rl_u_s]; done) | (rw [rl_u_s]; rfl) | rw [rl_u_n (by first | with_reducible assumption | omega)])) (by repeat (first | with_reducible assumption | (rw [rl_u_s]; done) | (rw [rl_u_s]; rfl) | rw [rl_u_n (by first | with_reducible assumption | omega)])) ?_
                      rw [hti, tm_ins, if_pos yc, rwf_up, rwf_up]
          refine o_iload_n hC dX8_settle_71 (by rfl) ?_
          refine o_istore hC dX8_settle_72 (Nat.le_of_ble_eq_true rfl) ?_
          exact loop3 _ _ A1 (Nat.le_refl _) hq1 hro e18 e19 rfl
  have loop1 : ∀ (mm i : Nat), i + mm = k → rl_G X (rl_e D ids H0) 4 [some (.ref m), some (.int (nI a)), some (.int (nI (md_cnt (fun w => gs A.2.2.2.2.2.2.1 A.2.2.2.2.2.2.2.1 w k 0) i))), some (.int (nI i)), none, none] [] h n 0 0 := by
    intro mm
    induction mm with
    | zero =>
      intro i hm
      have ei : i = k := by omega
      subst ei
      refine o_iload_n hC dX8_settle_4 (by rfl) ?_
      refine o_aload_n hC dX8_settle_5 (by rfl) ?_
      refine o_getf hC (fX8_82 hC rfl) dX8_settle_6 (by repeat (first | with_reducible assumption | (rw [rl_u_s]; done) | (rw [rl_u_s]; rfl) | rw [rl_u_n (by first | with_reducible assumption | omega)])) (by first | rfl | with_reducible assumption) ?_
      refine o_icmp_ge (tgt := 29) hC dX8_settle_9 (by decide) (fun c_9 => ?_) (fun c_9 => ?_)
      · refine o_iload_n hC dX8_settle_29 (by rfl) ?_
        refine o_bipush (v := nI 12) hC dX8_settle_30 (by decide +kernel) ?_
        refine o_icmp_le (tgt := 48) hC dX8_settle_32 (by decide) (fun c_32 => ?_) (fun c_32 => ?_)
        · refine o_iconst (v := nI 0) hC dX8_settle_48 (by decide +kernel) ?_
          refine o_istore_n hC dX8_settle_49 (Nat.le_of_ble_eq_true rfl) ?_
          refine o_iconst (v := nI 0) hC dX8_settle_50 (by decide +kernel) ?_
          refine o_istore hC dX8_settle_51 (Nat.le_of_ble_eq_true rfl) ?_
          exact loop2 ((nI_leI (by have := md_cnt_ub (fun w => gs A.2.2.2.2.2.2.1 A.2.2.2.2.2.2.2.1 w i 0) i; omega) (by decide)).mp c_32) i 0 h A _ _ (by omega) hq mro.rf g18 g19 rfl
        · refine o_aload_n hC dX8_settle_35 (by rfl) ?_
          refine o_iconst (v := nI 1) hC dX8_settle_36 (by decide +kernel) ?_
          refine o_putf hC (fX8_91 hC rfl) (fwX8 rfl rfl rfl (Or.inl rfl)) dX8_settle_37 (by repeat (first | with_reducible assumption | (rw [rl_u_s]; done) | (rw [rl_u_s]; rfl) | rw [rl_u_n (by first | with_reducible assumption | omega)])) (Nat.le_of_ble_eq_true rfl) ?_
          try simp only [List.set_cons_zero, List.set_cons_succ]
          refine o_aload_n hC dX8_settle_40 (by rfl) ?_
          refine o_getf hC (fX8_53 hC rfl) dX8_settle_41 (by repeat (first | with_reducible assumption | (rw [rl_u_s]; done) | (rw [rl_u_s]; rfl) | rw [rl_u_n (by first | with_reducible assumption | omega)])) (by first | rfl | with_reducible assumption) ?_
          refine o_iload_n hC dX8_settle_44 (by rfl) ?_
          refine o_iconst (v := nI 0) hC dX8_settle_45 (by decide +kernel) ?_
          refine o_iastN (t0 := 0) hC rfl dX8_settle_46 (by repeat (first | with_reducible assumption | (rw [rl_u_s]; done) | (rw [rl_u_s]; rfl) | rw [rl_u_n (by first | with_reducible assumption | omega)])) (by omega) (by decide) ?_
          refine o_vret hC hB dX8_settle_47 (Nat.le_of_ble_eq_true rfl) (Nat.le_of_ble_eq_true rfl) ?_
          refine ⟨nI 1, (A.1, A.2.1, A.2.2.1, upd A.2.2.2.1 a (nI 0), A.2.2.2.2.1, A.2.2.2.2.2.1, A.2.2.2.2.2.2.1, A.2.2.2.2.2.2.2.1, A.2.2.2.2.2.2.2.2.1, A.2.2.2.2.2.2.2.2.2.1, A.2.2.2.2.2.2.2.2.2.2), rfl, rfl, (hq.ob T (nI 1) i gk).s15 _ (md_bd b15 ⟨0, by decide, rfl⟩), ⟨rfl, rfl, rfl, fun j hj => if_neg hj, fun _ _ => ⟨rfl, rfl⟩, rfl⟩, Or.inr ⟨?_, rfl, if_pos rfl⟩⟩
          rw [← cnt_keep (by omega) _ (by omega)]
          exact Nat.not_le.mp (fun w => c_32 (nI_le w (by decide)))
      · exact absurd (nI_le (by omega) (by omega)) c_9
    | succ mm ih =>
      intro i hm
      refine o_iload_n hC dX8_settle_4 (by rfl) ?_
      refine o_aload_n hC dX8_settle_5 (by rfl) ?_
      refine o_getf hC (fX8_82 hC rfl) dX8_settle_6 (by repeat (first | with_reducible assumption | (rw [rl_u_s]; done) | (rw [rl_u_s]; rfl) | rw [rl_u_n (by first | with_reducible assumption | omega)])) (by first | rfl | with_reducible assumption) ?_
      refine o_icmp_ge (tgt := 29) hC dX8_settle_9 (by decide) (fun c_9 => ?_) (fun c_9 => ?_)
      · exact absurd c_9 (nI_ge (by omega) (by omega))
      · refine o_aload_n hC dX8_settle_12 (by rfl) ?_
        refine o_iload_n hC dX8_settle_13 (by rfl) ?_
        refine o_callV1 hC rl_BW_good rl_Ns_nw (by exact hB.2.2.2.2.2) YX8_goes IX8_goes VX8_goes (mX8_87 hC) (by rw [hB.1]; exact cm_X8_goes l D ids H0 _ _ m T _ _ i A.2.2.2.2.2.2.1 A.2.2.2.2.2.2.2.1 hq.1.rf g18 g19 (by omega)) (by exact hq.1.1) rfl rfl (Nat.le_of_ble_eq_true rfl) (by rw [hB.2.1]; first | exact Nat.le_of_ble_eq_true rfl | (dsimp only; omega)) (by rw [hB.2.1]; first | exact Nat.le_of_ble_eq_true rfl | (dsimp only; omega)) (by rw [hB.2.1]; first | exact Nat.le_of_ble_eq_true rfl | (dsimp only; omega)) (by rw [hB.2.1]; first | exact Nat.le_of_ble_eq_true rfl | (dsimp only; omega)) dX8_settle_14 (fun v h_14 n_14 p_14 => ?_)
        obtain ⟨rfl, rfl, rfl⟩ := p_14
        try dsimp only [Option.toList, List.cons_append, List.nil_append]
        refine o_if_ne (tgt := 23) hC dX8_settle_17 (by decide) (fun c_17 => ?_) (fun c_17 => ?_)
        · refine o_iinc hC dX8_settle_23 (by rfl) (rl_inc _) (Nat.le_of_ble_eq_true rfl) ?_
          refine o_goto (tgt := 4) hC dX8_settle_26 (by decide) ?_
          have lp := ih (i + 1) (by omega)
          first
          | (rw [md_cnt_s (G := (fun w => gs A.2.2.2.2.2.2.1 A.2.2.2.2.2.2.2.1 w k 0)) c_17] at lp; exact lp)
          | (rw [md_cnt_n (G := (fun w => gs A.2.2.2.2.2.2.1 A.2.2.2.2.2.2.2.1 w k 0)) c_17] at lp; exact lp)
        · refine o_iinc hC dX8_settle_20 (by rfl) (rl_inc _) (Nat.le_of_ble_eq_true rfl) ?_
          refine o_iinc hC dX8_settle_23 (by rfl) (rl_inc _) (Nat.le_of_ble_eq_true rfl) ?_
          refine o_goto (tgt := 4) hC dX8_settle_26 (by decide) ?_
          have lp := ih (i + 1) (by omega)
          first
          | (rw [md_cnt_s (G := (fun w => gs A.2.2.2.2.2.2.1 A.2.2.2.2.2.2.2.1 w k 0)) c_17] at lp; exact lp)
          | (rw [md_cnt_n (G := (fun w => gs A.2.2.2.2.2.2.1 A.2.2.2.2.2.2.2.1 w k 0)) c_17] at lp; exact lp)
  show rl_G X (rl_e D ids H0) 0 [some (.ref m), some (.int (nI a)), none, none, none, none] [] h n 0 0
  refine o_iconst (v := nI 0) hC dX8_settle_0 (by decide +kernel) ?_
  refine o_istore_n hC dX8_settle_1 (Nat.le_of_ble_eq_true rfl) ?_
  refine o_iconst (v := nI 0) hC dX8_settle_2 (by decide +kernel) ?_
  refine o_istore_n hC dX8_settle_3 (Nat.le_of_ble_eq_true rfl) ?_
  exact loop1 k 0 (by omega)
end
section
/-! THE MODEL, functionally: either, both, turn -/
theorem keep_tfl {F G : Nat → Int64} {k : Nat} (h : ∀ e ∈ tls F G k, tok e) : tkeep (fun i => (F i, G i)) k k = tfl (tls F G k) := by
  rw [← tfold_tfl, tfold_keep k (fun i hi => h _ (tls_mem.mpr ⟨i, hi, rfl⟩))]
theorem tfl_tok (C : List tT) : tfl (C.filter (fun e => decide (tok e))) = tfl C := by
  refine ts_rev (P := fun C => tfl (C.filter (fun e => decide (tok e))) = tfl C) rfl (fun C t ih => ?_) C
  rw [List.filter_append, tfl_snoc]
  by_cases q : tok t
  · rw [List.filter_cons_of_pos (p := fun e => decide (tok e)) (decide_eq_true q), List.filter_nil, tfl_snoc, ih]
  · rw [List.filter_cons_of_neg (p := fun e => decide (tok e)) (fun w => q (of_decide_eq_true w)), List.filter_nil, List.append_nil, ih]
    unfold tadd
    rw [if_pos q]
/-- what a WAYS came to: FULL is none -/
def wre (A : md_D) (c : Nat) (fu fu' : Int32) (r : Option (List tT)) : Prop := (∃ L : List tT, r = some L ∧ fu' = fu ∧ mws A c L) ∨ (r = none ∧ fu' = nI 1 ∧ A.2.2.2.1 c = nI 0)
theorem wre.of {A : md_D} {c : Nat} {fu fu' : Int32} {C : List tT} {K : List tT} (e : K = tfl C) (h : (K.length ≤ 12 ∧ fu' = fu ∧ mws A c (tso K)) ∨ (12 < K.length ∧ fu' = nI 1 ∧ A.2.2.2.1 c = nI 0)) : wre A c fu fu' (wst C) := by
  subst e
  unfold wst
  rcases h with ⟨h1, h2, h3⟩ | ⟨h1, h2, h3⟩
  · rw [if_pos h1]
    exact Or.inl ⟨_, rfl, h2, h3⟩
  · rw [if_neg (by omega)]
    exact Or.inr ⟨rfl, h2, h3⟩

set_option maxHeartbeats 4000000 in
set_option maxRecDepth 100000 in
theorem cf_X8_either (l : Launch) (D : va_G) (ids : Nat → ClassId) (H0 : Heap) (h : rl_H) (n : Nat) (m : Nat) (T : md_T) (fu : Int32) (k : Nat) (A : md_D) (c a b : Nat) (La Lb : List tT) (hq : mf ids h h m T fu k A) (hc : c < 1368) (ha16 : a < 1368) (hb16 : b < 1368) (ha : mws A a La) (hb : mws A b Lb) (htok : ∀ e ∈ La ++ Lb, tok e) : rl_Met l (rl_e D ids H0) rl_BW rl_Ns yX8_either cX8_either 5 none ({ frames := 2, cells := 0, slots := 0, locals := 49 }) [.ref m, .int (nI c), .int (nI a), .int (nI b)] h n (fun v h' n' => ∃ (fu' : Int32) (k' : Nat) (A' : md_D), v = none ∧ n' = n ∧ mf ids h h' m T fu' k' A' ∧ mro A A' c ∧ wre A' c fu fu' (wst (La ++ Lb))) := by
  obtain ⟨hm0, g12, g13, g14, g15, g16, g17, g18, g19, g20, g21, g22⟩ := id hq
  have g0 := hm0.1
  have gk := hm0.2.1
  have b13 := hq.b13
  have b15 := hq.b15
  have b21 := hq.b21
  have la12 := ha.2.1
  have lb12 := hb.2.1
  have hal : tls (rwf A.2.2.2.2.1 a) (rwf A.2.2.2.2.2.1 a) La.length = La := ha.2.2
  have hbl : tls (rwf A.2.2.2.2.1 b) (rwf A.2.2.2.2.2.1 b) Lb.length = Lb := hb.2.2
  refine rl_Met.of (by decide +kernel) (Nat.le_of_ble_eq_true rfl) ?_
  intro X hC hB
  have loop2 : ∀ (mm i : Nat) (h1 : rl_H) (hn1 hl1 : Nat → Int64), i + mm = Lb.length → mf ids h h1 m T fu (La.length + i) (A.1, A.2.1, A.2.2.1, A.2.2.2.1, A.2.2.2.2.1, A.2.2.2.2.2.1, hn1, hl1, A.2.2.2.2.2.2.2.2.1, A.2.2.2.2.2.2.2.2.2.1, A.2.2.2.2.2.2.2.2.2.2) → tls hn1 hl1 (La.length + i) = La ++ tls (rwf A.2.2.2.2.1 b) (rwf A.2.2.2.2.2.1 b) i → rl_G X (rl_e D ids H0) 56 [some (.ref m), some (.int (nI c)), some (.int (nI a)), some (.int (nI b)), some (.int (nI i))] [] h1 n 0 0 := by
    intro mm
    induction mm with
    | zero =>
      intro i h1 hn1 hl1 hm hq1 hls
      have ei : i = Lb.length := by omega
      subst ei
      obtain ⟨hm0, g12, g13, g14, g15, g16, g17, g18, g19, g20, g21, g22⟩ := id hq1
      have g0 := hm0.1
      have gk := hm0.2.1
      refine o_iload hC dX8_either_56 (by rfl) ?_
      refine o_aload_n hC dX8_either_58 (by rfl) ?_
      refine o_getf hC (fX8_53 hC rfl) dX8_either_59 (by repeat (first | with_reducible assumption | (rw [rl_u_s]; done) | (rw [rl_u_s]; rfl) | rw [rl_u_n (by first | with_reducible assumption | omega)])) (by first | rfl | with_reducible assumption) ?_
      refine o_iload_n hC dX8_either_62 (by rfl) ?_
      refine o_ialdN (t0 := 0) (k := b) hC rfl dX8_either_63 (by repeat (first | with_reducible assumption | (rw [rl_u_s]; done) | (rw [rl_u_s]; rfl) | rw [rl_u_n (by first | with_reducible assumption | omega)])) (by omega) (by decide) ?_
      rw [hb.1]
      refine o_icmp_ge (tgt := 101) hC dX8_either_64 (by decide) (fun c_64 => ?_) (fun c_64 => ?_)
      · refine o_aload_n hC dX8_either_101 (by rfl) ?_
        refine o_iload_n hC dX8_either_102 (by rfl) ?_
        refine o_callV1 hC rl_BW_good rl_Ns_nw (by exact hB.2.2.2.2.2) YX8_settle IX8_settle VX8_settle (mX8_99 hC) (by rw [hB.1]; exact cf_X8_settle l D ids H0 _ _ m T _ _ _ c hq1.rf (by omega)) (by exact hq1.1.1) rfl rfl (Nat.le_of_ble_eq_true rfl) (by rw [hB.2.1]; first | exact Nat.le_of_ble_eq_true rfl | (dsimp only; omega)) (by rw [hB.2.1]; first | exact Nat.le_of_ble_eq_true rfl | (dsimp only; omega)) (by rw [hB.2.1]; first | exact Nat.le_of_ble_eq_true rfl | (dsimp only; omega)) (by rw [hB.2.1]; first | exact Nat.le_of_ble_eq_true rfl | (dsimp only; omega)) dX8_either_103 (fun v h_103 n_103 p_103 => ?_)
        obtain ⟨fs, As, rfl, rfl, q8, q9, q10⟩ := p_103
        try dsimp only [Option.toList, List.cons_append, List.nil_append]
        refine o_vret hC hB dX8_either_106 (Nat.le_of_ble_eq_true rfl) (Nat.le_of_ble_eq_true rfl) ?_
        refine ⟨fs, _, As, rfl, rfl, hq1.tr q8, q9, wre.of ?_ q10⟩
        rw [hbl] at hls
        rw [keep_tfl (F := hn1) (G := hl1) (by rw [hls]; exact htok), hls]
      · exact absurd (nI_le (by omega) (by omega)) c_64
    | succ mm ih =>
      intro i h1 hn1 hl1 hm hq1 hls
      obtain ⟨hm0, g12, g13, g14, g15, g16, g17, g18, g19, g20, g21, g22⟩ := id hq1
      have g0 := hm0.1
      have gk := hm0.2.1
      refine o_iload hC dX8_either_56 (by rfl) ?_
      refine o_aload_n hC dX8_either_58 (by rfl) ?_
      refine o_getf hC (fX8_53 hC rfl) dX8_either_59 (by repeat (first | with_reducible assumption | (rw [rl_u_s]; done) | (rw [rl_u_s]; rfl) | rw [rl_u_n (by first | with_reducible assumption | omega)])) (by first | rfl | with_reducible assumption) ?_
      refine o_iload_n hC dX8_either_62 (by rfl) ?_
      refine o_ialdN (t0 := 0) (k := b) hC rfl dX8_either_63 (by repeat (first | with_reducible assumption | (rw [rl_u_s]; done) | (rw [rl_u_s]; rfl) | rw [rl_u_n (by first | with_reducible assumption | omega)])) (by omega) (by decide) ?_
      rw [hb.1]
      refine o_icmp_ge (tgt := 101) hC dX8_either_64 (by decide) (fun c_64 => ?_) (fun c_64 => ?_)
      · exact absurd c_64 (nI_ge (by omega) (by omega))
      · refine o_aload_n hC dX8_either_67 (by rfl) ?_
        refine o_aload_n hC dX8_either_68 (by rfl) ?_
        refine o_getf hC (fX8_56 hC rfl) dX8_either_69 (by repeat (first | with_reducible assumption | (rw [rl_u_s]; done) | (rw [rl_u_s]; rfl) | rw [rl_u_n (by first | with_reducible assumption | omega)])) (by first | rfl | with_reducible assumption) ?_
        refine o_bipush (v := nI 12) hC dX8_either_72 (by decide +kernel) ?_
        refine o_iload_n hC dX8_either_74 (by rfl) ?_
        refine o_imul hC dX8_either_75 ?_
        try rw [nI_mul]
        refine o_iload hC dX8_either_76 (by rfl) ?_
        refine o_iadd hC dX8_either_78 ?_
        try rw [nI_add]
        refine o_laldN (t0 := 1) hC rfl dX8_either_79 (by repeat (first | with_reducible assumption | (rw [rl_u_s]; done) | (rw [rl_u_s]; rfl) | rw [rl_u_n (by first | with_reducible assumption | omega)])) (by omega) (by decide) ?_
        refine o_aload_n hC dX8_either_80 (by rfl) ?_
        refine o_getf hC (fX8_60 hC rfl) dX8_either_81 (by repeat (first | with_reducible assumption | (rw [rl_u_s]; done) | (rw [rl_u_s]; rfl) | rw [rl_u_n (by first | with_reducible assumption | omega)])) (by first | rfl | with_reducible assumption) ?_
        refine o_bipush (v := nI 12) hC dX8_either_84 (by decide +kernel) ?_
        refine o_iload_n hC dX8_either_86 (by rfl) ?_
        refine o_imul hC dX8_either_87 ?_
        try rw [nI_mul]
        refine o_iload hC dX8_either_88 (by rfl) ?_
        refine o_iadd hC dX8_either_90 ?_
        try rw [nI_add]
        refine o_laldN (t0 := 1) hC rfl dX8_either_91 (by repeat (first | with_reducible assumption | (rw [rl_u_s]; done) | (rw [rl_u_s]; rfl) | rw [rl_u_n (by first | with_reducible assumption | omega)])) (by omega) (by decide) ?_
        refine o_callV2 hC rl_BW_good rl_Ns_nw (by exact hB.2.2.2.2.2) YX8_heapTerm IX8_heapTerm VX8_heapTerm (mX8_95 hC) (by rw [hB.1]; exact cf_X8_heapTerm l D ids H0 _ _ m T _ _ _ _ _ hq1.rf (by omega)) (by exact hq1.1.1) rfl rfl (Nat.le_of_ble_eq_true rfl) (by rw [hB.2.1]; first | exact Nat.le_of_ble_eq_true rfl | (dsimp only; omega)) (by rw [hB.2.1]; first | exact Nat.le_of_ble_eq_true rfl | (dsimp only; omega)) (by rw [hB.2.1]; first | exact Nat.le_of_ble_eq_true rfl | (dsimp only; omega)) (by rw [hB.2.1]; first | exact Nat.le_of_ble_eq_true rfl | (dsimp only; omega)) dX8_either_92 (fun v h_92 n_92 p_92 => ?_)
        obtain ⟨rfl, rfl, q1⟩ := p_92
        try dsimp only [Option.toList, List.cons_append, List.nil_append]
        refine o_iinc hC dX8_either_95 (by rfl) (rl_inc _) (Nat.le_of_ble_eq_true rfl) ?_
        refine o_goto (tgt := 56) hC dX8_either_98 (by decide) ?_
        exact ih (i + 1) _ (vp_updL hn1 (La.length + i) (A.2.2.2.2.1 (12 * b + i))) (vp_updL hl1 (La.length + i) (A.2.2.2.2.2.1 (12 * b + i))) (by omega) (hq1.tr q1) (by show tls _ _ (La.length + i) ++ [(vp_updL hn1 (La.length + i) _ (La.length + i), vp_updL hl1 (La.length + i) _ (La.length + i))] = La ++ (tls _ _ i ++ [_]); rw [up_at, up_at, tls_eq (F := hn1) (G := hl1) (fun q hq => ⟨up_ne (by omega), up_ne (by omega)⟩), hls]; exact List.append_assoc _ _ _)
  have loop1 : ∀ (mm i : Nat) (h1 : rl_H) (hn1 hl1 : Nat → Int64), i + mm = La.length → mf ids h h1 m T fu i (A.1, A.2.1, A.2.2.1, A.2.2.2.1, A.2.2.2.2.1, A.2.2.2.2.2.1, hn1, hl1, A.2.2.2.2.2.2.2.2.1, A.2.2.2.2.2.2.2.2.2.1, A.2.2.2.2.2.2.2.2.2.2) → tls hn1 hl1 i = tls (rwf A.2.2.2.2.1 a) (rwf A.2.2.2.2.2.1 a) i → rl_G X (rl_e D ids H0) 8 [some (.ref m), some (.int (nI c)), some (.int (nI a)), some (.int (nI b)), some (.int (nI i))] [] h1 n 0 0 := by
    intro mm
    induction mm with
    | zero =>
      intro i h1 hn1 hl1 hm hq1 hls
      have ei : i = La.length := by omega
      subst ei
      obtain ⟨hm0, g12, g13, g14, g15, g16, g17, g18, g19, g20, g21, g22⟩ := id hq1
      have g0 := hm0.1
      have gk := hm0.2.1
      refine o_iload hC dX8_either_8 (by rfl) ?_
      refine o_aload_n hC dX8_either_10 (by rfl) ?_
      refine o_getf hC (fX8_53 hC rfl) dX8_either_11 (by repeat (first | with_reducible assumption | (rw [rl_u_s]; done) | (rw [rl_u_s]; rfl) | rw [rl_u_n (by first | with_reducible assumption | omega)])) (by first | rfl | with_reducible assumption) ?_
      refine o_iload_n hC dX8_either_14 (by rfl) ?_
      refine o_ialdN (t0 := 0) (k := a) hC rfl dX8_either_15 (by repeat (first | with_reducible assumption | (rw [rl_u_s]; done) | (rw [rl_u_s]; rfl) | rw [rl_u_n (by first | with_reducible assumption | omega)])) (by omega) (by decide) ?_
      rw [ha.1]
      refine o_icmp_ge (tgt := 53) hC dX8_either_16 (by decide) (fun c_16 => ?_) (fun c_16 => ?_)
      · refine o_iconst (v := nI 0) hC dX8_either_53 (by decide +kernel) ?_
        refine o_istore hC dX8_either_54 (Nat.le_of_ble_eq_true rfl) ?_
        exact loop2 Lb.length 0 _ hn1 hl1 (by omega) hq1 (by rw [Nat.add_zero, hls, hal, tls, List.append_nil])
      · exact absurd (nI_le (by omega) (by omega)) c_16
    | succ mm ih =>
      intro i h1 hn1 hl1 hm hq1 hls
      obtain ⟨hm0, g12, g13, g14, g15, g16, g17, g18, g19, g20, g21, g22⟩ := id hq1
      have g0 := hm0.1
      have gk := hm0.2.1
      refine o_iload hC dX8_either_8 (by rfl) ?_
      refine o_aload_n hC dX8_either_10 (by rfl) ?_
      refine o_getf hC (fX8_53 hC rfl) dX8_either_11 (by repeat (first | with_reducible assumption | (rw [rl_u_s]; done) | (rw [rl_u_s]; rfl) | rw [rl_u_n (by first | with_reducible assumption | omega)])) (by first | rfl | with_reducible assumption) ?_
      refine o_iload_n hC dX8_either_14 (by rfl) ?_
      refine o_ialdN (t0 := 0) (k := a) hC rfl dX8_either_15 (by repeat (first | with_reducible assumption | (rw [rl_u_s]; done) | (rw [rl_u_s]; rfl) | rw [rl_u_n (by first | with_reducible assumption | omega)])) (by omega) (by decide) ?_
      rw [ha.1]
      refine o_icmp_ge (tgt := 53) hC dX8_either_16 (by decide) (fun c_16 => ?_) (fun c_16 => ?_)
      · exact absurd c_16 (nI_ge (by omega) (by omega))
      · refine o_aload_n hC dX8_either_19 (by rfl) ?_
        refine o_aload_n hC dX8_either_20 (by rfl) ?_
        refine o_getf hC (fX8_56 hC rfl) dX8_either_21 (by repeat (first | with_reducible assumption | (rw [rl_u_s]; done) | (rw [rl_u_s]; rfl) | rw [rl_u_n (by first | with_reducible assumption | omega)])) (by first | rfl | with_reducible assumption) ?_
        refine o_bipush (v := nI 12) hC dX8_either_24 (by decide +kernel) ?_
        refine o_iload_n hC dX8_either_26 (by rfl) ?_
        refine o_imul hC dX8_either_27 ?_
        try rw [nI_mul]
        refine o_iload hC dX8_either_28 (by rfl) ?_
        refine o_iadd hC dX8_either_30 ?_
        try rw [nI_add]
        refine o_laldN (t0 := 1) hC rfl dX8_either_31 (by repeat (first | with_reducible assumption | (rw [rl_u_s]; done) | (rw [rl_u_s]; rfl) | rw [rl_u_n (by first | with_reducible assumption | omega)])) (by omega) (by decide) ?_
        refine o_aload_n hC dX8_either_32 (by rfl) ?_
        refine o_getf hC (fX8_60 hC rfl) dX8_either_33 (by repeat (first | with_reducible assumption | (rw [rl_u_s]; done) | (rw [rl_u_s]; rfl) | rw [rl_u_n (by first | with_reducible assumption | omega)])) (by first | rfl | with_reducible assumption) ?_
        refine o_bipush (v := nI 12) hC dX8_either_36 (by decide +kernel) ?_
        refine o_iload_n hC dX8_either_38 (by rfl) ?_
        refine o_imul hC dX8_either_39 ?_
        try rw [nI_mul]
        refine o_iload hC dX8_either_40 (by rfl) ?_
        refine o_iadd hC dX8_either_42 ?_
        try rw [nI_add]
        refine o_laldN (t0 := 1) hC rfl dX8_either_43 (by repeat (first | with_reducible assumption | (rw [rl_u_s]; done) | (rw [rl_u_s]; rfl) | rw [rl_u_n (by first | with_reducible assumption | omega)])) (by omega) (by decide) ?_
        refine o_callV2 hC rl_BW_good rl_Ns_nw (by exact hB.2.2.2.2.2) YX8_heapTerm IX8_heapTerm VX8_heapTerm (mX8_95 hC) (by rw [hB.1]; exact cf_X8_heapTerm l D ids H0 _ _ m T _ _ _ _ _ hq1.rf (by omega)) (by exact hq1.1.1) rfl rfl (Nat.le_of_ble_eq_true rfl) (by rw [hB.2.1]; first | exact Nat.le_of_ble_eq_true rfl | (dsimp only; omega)) (by rw [hB.2.1]; first | exact Nat.le_of_ble_eq_true rfl | (dsimp only; omega)) (by rw [hB.2.1]; first | exact Nat.le_of_ble_eq_true rfl | (dsimp only; omega)) (by rw [hB.2.1]; first | exact Nat.le_of_ble_eq_true rfl | (dsimp only; omega)) dX8_either_44 (fun v h_44 n_44 p_44 => ?_)
        obtain ⟨rfl, rfl, q1⟩ := p_44
        try dsimp only [Option.toList, List.cons_append, List.nil_append]
        refine o_iinc hC dX8_either_47 (by rfl) (rl_inc _) (Nat.le_of_ble_eq_true rfl) ?_
        refine o_goto (tgt := 8) hC dX8_either_50 (by decide) ?_
        exact ih (i + 1) _ (vp_updL hn1 i (A.2.2.2.2.1 (12 * a + i))) (vp_updL hl1 i (A.2.2.2.2.2.1 (12 * a + i))) (by omega) (hq1.tr q1) (by rw [tls, up_at, up_at, tls_eq (F := hn1) (G := hl1) (fun q hq => ⟨up_ne (by omega), up_ne (by omega)⟩), hls]; rfl)
  show rl_G X (rl_e D ids H0) 0 [some (.ref m), some (.int (nI c)), some (.int (nI a)), some (.int (nI b)), none] [] h n 0 0
  refine o_aload_n hC dX8_either_0 (by rfl) ?_
  refine o_iconst (v := nI 0) hC dX8_either_1 (by decide +kernel) ?_
  refine o_putf hC (fX8_82 hC rfl) (fwX8 rfl rfl rfl (Or.inl rfl)) dX8_either_2 (by repeat (first | with_reducible assumption | (rw [rl_u_s]; done) | (rw [rl_u_s]; rfl) | rw [rl_u_n (by first | with_reducible assumption | omega)])) (Nat.le_of_ble_eq_true rfl) ?_
  try simp only [List.set_cons_zero, List.set_cons_succ]
  refine o_iconst (v := nI 0) hC dX8_either_5 (by decide +kernel) ?_
  refine o_istore hC dX8_either_6 (Nat.le_of_ble_eq_true rfl) ?_
  exact loop1 La.length 0 _ A.2.2.2.2.2.2.1 A.2.2.2.2.2.2.2.1 (by omega) (hq.ob T fu 0 (by omega)) rfl

set_option maxHeartbeats 4000000 in
set_option maxRecDepth 100000 in
theorem cf_X8_both (l : Launch) (D : va_G) (ids : Nat → ClassId) (H0 : Heap) (h : rl_H) (n : Nat) (m : Nat) (T : md_T) (fu : Int32) (k : Nat) (A : md_D) (c a b : Nat) (La Lb : List tT) (hq : mf ids h h m T fu k A) (hc : c < 1368) (ha16 : a < 1368) (hb16 : b < 1368) (ha : mws A a La) (hb : mws A b Lb) : rl_Met l (rl_e D ids H0) rl_BW rl_Ns yX8_both cX8_both 10 none ({ frames := 2, cells := 0, slots := 0, locals := 49 }) [.ref m, .int (nI c), .int (nI a), .int (nI b)] h n (fun v h' n' => ∃ (fu' : Int32) (k' : Nat) (A' : md_D), v = none ∧ n' = n ∧ mf ids h h' m T fu' k' A' ∧ mro A A' c ∧ wre A' c fu fu' (wst (tbo La Lb))) := by
  obtain ⟨hm0, g12, g13, g14, g15, g16, g17, g18, g19, g20, g21, g22⟩ := id hq
  have g0 := hm0.1
  have gk := hm0.2.1
  have b13 := hq.b13
  have b15 := hq.b15
  have b21 := hq.b21
  have la12 := ha.2.1
  have lb12 := hb.2.1
  have hal : tls (rwf A.2.2.2.2.1 a) (rwf A.2.2.2.2.2.1 a) La.length = La := ha.2.2
  have hbl : tls (rwf A.2.2.2.2.1 b) (rwf A.2.2.2.2.2.1 b) Lb.length = Lb := hb.2.2
  refine rl_Met.of (by decide +kernel) (Nat.le_of_ble_eq_true rfl) ?_
  intro X hC hB
  have loop1 : ∀ (mm i k1 : Nat) (h1 : rl_H) (hn1 hl1 : Nat → Int64) (o5 o6 o8 : Option Value), i + mm = La.length → k1 ≤ 12 * i → mf ids h h1 m T fu k1 (A.1, A.2.1, A.2.2.1, A.2.2.2.1, A.2.2.2.2.1, A.2.2.2.2.2.1, hn1, hl1, A.2.2.2.2.2.2.2.2.1, A.2.2.2.2.2.2.2.2.2.1, A.2.2.2.2.2.2.2.2.2.2) → tls hn1 hl1 k1 = ((tbo (tls (rwf A.2.2.2.2.1 a) (rwf A.2.2.2.2.2.1 a) i) Lb).filter (fun e => decide (tok e))) → rl_G X (rl_e D ids H0) 8 [some (.ref m), some (.int (nI c)), some (.int (nI a)), some (.int (nI b)), some (.int (nI i)), o5, o6, none, o8, none] [] h1 n 0 0 := by
    intro mm
    induction mm with
    | zero =>
      intro i k1 h1 hn1 hl1 o5 o6 o8 hm hk1 hq1 hls
      have ei : i = La.length := by omega
      subst ei
      obtain ⟨hm0, g12, g13, g14, g15, g16, g17, g18, g19, g20, g21, g22⟩ := id hq1
      have g0 := hm0.1
      have gk := hm0.2.1
      refine o_iload hC dX8_both_8 (by rfl) ?_
      refine o_aload_n hC dX8_both_10 (by rfl) ?_
      refine o_getf hC (fX8_53 hC rfl) dX8_both_11 (by repeat (first | with_reducible assumption | (rw [rl_u_s]; done) | (rw [rl_u_s]; rfl) | rw [rl_u_n (by first | with_reducible assumption | omega)])) (by first | rfl | with_reducible assumption) ?_
      refine o_iload_n hC dX8_both_14 (by rfl) ?_
      refine o_ialdN (t0 := 0) (k := a) hC rfl dX8_both_15 (by repeat (first | with_reducible assumption | (rw [rl_u_s]; done) | (rw [rl_u_s]; rfl) | rw [rl_u_n (by first | with_reducible assumption | omega)])) (by omega) (by decide) ?_
      rw [ha.1]
      refine o_icmp_ge (tgt := 117) hC dX8_both_16 (by decide) (fun c_16 => ?_) (fun c_16 => ?_)
      · refine o_aload_n hC dX8_both_117 (by rfl) ?_
        refine o_iload_n hC dX8_both_118 (by rfl) ?_
        refine o_callV1 hC rl_BW_good rl_Ns_nw (by exact hB.2.2.2.2.2) YX8_settle IX8_settle VX8_settle (mX8_99 hC) (by rw [hB.1]; exact cf_X8_settle l D ids H0 _ _ m T _ _ _ c hq1.rf (by omega)) (by exact hq1.1.1) rfl rfl (Nat.le_of_ble_eq_true rfl) (by rw [hB.2.1]; first | exact Nat.le_of_ble_eq_true rfl | (dsimp only; omega)) (by rw [hB.2.1]; first | exact Nat.le_of_ble_eq_true rfl | (dsimp only; omega)) (by rw [hB.2.1]; first | exact Nat.le_of_ble_eq_true rfl | (dsimp only; omega)) (by rw [hB.2.1]; first | exact Nat.le_of_ble_eq_true rfl | (dsimp only; omega)) dX8_both_119 (fun v h_119 n_119 p_119 => ?_)
        obtain ⟨fs, As, rfl, rfl, q8, q9, q10⟩ := p_119
        try dsimp only [Option.toList, List.cons_append, List.nil_append]
        refine o_vret hC hB dX8_both_122 (Nat.le_of_ble_eq_true rfl) (Nat.le_of_ble_eq_true rfl) ?_
        refine ⟨fs, _, As, rfl, rfl, hq1.tr q8, q9, wre.of ?_ q10⟩
        rw [hal] at hls
        rw [keep_tfl (F := hn1) (G := hl1) (by rw [hls]; exact fun e he => of_decide_eq_true (List.mem_filter.mp he).2), hls, tfl_tok]
      · exact absurd (nI_le (by omega) (by omega)) c_16
    | succ mm ih =>
      intro i k1 h1 hn1 hl1 o5 o6 o8 hm hk1 hq1 hls
      have loop2 : ∀ (m2 j k2 : Nat) (h2 : rl_H) (hn2 hl2 : Nat → Int64) (o6 o8 : Option Value), j + m2 = Lb.length → k2 ≤ 12 * i + j → mf ids h h2 m T fu k2 (A.1, A.2.1, A.2.2.1, A.2.2.2.1, A.2.2.2.2.1, A.2.2.2.2.2.1, hn2, hl2, A.2.2.2.2.2.2.2.2.1, A.2.2.2.2.2.2.2.2.2.1, A.2.2.2.2.2.2.2.2.2.2) → tls hn2 hl2 k2 = ((tbo (tls (rwf A.2.2.2.2.1 a) (rwf A.2.2.2.2.2.1 a) i) Lb ++ (tls (rwf A.2.2.2.2.1 b) (rwf A.2.2.2.2.2.1 b) j).map (fun t => (A.2.2.2.2.1 (12 * a + i) ||| t.1, A.2.2.2.2.2.1 (12 * a + i) ||| t.2))).filter (fun e => decide (tok e))) → rl_G X (rl_e D ids H0) 22 [some (.ref m), some (.int (nI c)), some (.int (nI a)), some (.int (nI b)), some (.int (nI i)), some (.int (nI j)), o6, none, o8, none] [] h2 n 0 0 := by
        intro m2
        induction m2 with
        | zero =>
          intro j k2 h2 hn2 hl2 o6 o8 hm2 hk2 hq2 hls2
          have ej : j = Lb.length := by omega
          subst ej
          obtain ⟨hm0, g12, g13, g14, g15, g16, g17, g18, g19, g20, g21, g22⟩ := id hq2
          have g0 := hm0.1
          have gk := hm0.2.1
          refine o_iload hC dX8_both_22 (by rfl) ?_
          refine o_aload_n hC dX8_both_24 (by rfl) ?_
          refine o_getf hC (fX8_53 hC rfl) dX8_both_25 (by repeat (first | with_reducible assumption | (rw [rl_u_s]; done) | (rw [rl_u_s]; rfl) | rw [rl_u_n (by first | with_reducible assumption | omega)])) (by first | rfl | with_reducible assumption) ?_
          refine o_iload_n hC dX8_both_28 (by rfl) ?_
          refine o_ialdN (t0 := 0) (k := b) hC rfl dX8_both_29 (by repeat (first | with_reducible assumption | (rw [rl_u_s]; done) | (rw [rl_u_s]; rfl) | rw [rl_u_n (by first | with_reducible assumption | omega)])) (by omega) (by decide) ?_
          rw [hb.1]
          refine o_icmp_ge (tgt := 111) hC dX8_both_30 (by decide) (fun c_30 => ?_) (fun c_30 => ?_)
          · refine o_iinc hC dX8_both_111 (by rfl) (rl_inc _) (Nat.le_of_ble_eq_true rfl) ?_
            refine o_goto (tgt := 8) hC dX8_both_114 (by decide) ?_
            refine ih (i + 1) _ _ hn2 hl2 _ _ _ (by omega) (by omega) hq2 ?_
            rw [hls2, hbl, tls]
            unfold tbo
            rw [List.flatMap_append, List.flatMap_cons, List.flatMap_nil, List.append_nil]
          · exact absurd (nI_le (by omega) (by omega)) c_30
        | succ m2 ih2 =>
          intro j k2 h2 hn2 hl2 o6 o8 hm2 hk2 hq2 hls2
          obtain ⟨hm0, g12, g13, g14, g15, g16, g17, g18, g19, g20, g21, g22⟩ := id hq2
          have g0 := hm0.1
          have gk := hm0.2.1
          refine o_iload hC dX8_both_22 (by rfl) ?_
          refine o_aload_n hC dX8_both_24 (by rfl) ?_
          refine o_getf hC (fX8_53 hC rfl) dX8_both_25 (by repeat (first | with_reducible assumption | (rw [rl_u_s]; done) | (rw [rl_u_s]; rfl) | rw [rl_u_n (by first | with_reducible assumption | omega)])) (by first | rfl | with_reducible assumption) ?_
          refine o_iload_n hC dX8_both_28 (by rfl) ?_
          refine o_ialdN (t0 := 0) (k := b) hC rfl dX8_both_29 (by repeat (first | with_reducible assumption | (rw [rl_u_s]; done) | (rw [rl_u_s]; rfl) | rw [rl_u_n (by first | with_reducible assumption | omega)])) (by omega) (by decide) ?_
          rw [hb.1]
          refine o_icmp_ge (tgt := 111) hC dX8_both_30 (by decide) (fun c_30 => ?_) (fun c_30 => ?_)
          · exact absurd c_30 (nI_ge (by omega) (by omega))
          · refine o_aload_n hC dX8_both_33 (by rfl) ?_
            refine o_getf hC (fX8_56 hC rfl) dX8_both_34 (by repeat (first | with_reducible assumption | (rw [rl_u_s]; done) | (rw [rl_u_s]; rfl) | rw [rl_u_n (by first | with_reducible assumption | omega)])) (by first | rfl | with_reducible assumption) ?_
            refine o_bipush (v := nI 12) hC dX8_both_37 (by decide +kernel) ?_
            refine o_iload_n hC dX8_both_39 (by rfl) ?_
            refine o_imul hC dX8_both_40 ?_
            try rw [nI_mul]
            refine o_iload hC dX8_both_41 (by rfl) ?_
            refine o_iadd hC dX8_both_43 ?_
            try rw [nI_add]
            refine o_laldN (t0 := 1) hC rfl dX8_both_44 (by repeat (first | with_reducible assumption | (rw [rl_u_s]; done) | (rw [rl_u_s]; rfl) | rw [rl_u_n (by first | with_reducible assumption | omega)])) (by omega) (by decide) ?_
            refine o_aload_n hC dX8_both_45 (by rfl) ?_
            refine o_getf hC (fX8_56 hC rfl) dX8_both_46 (by repeat (first | with_reducible assumption | (rw [rl_u_s]; done) | (rw [rl_u_s]; rfl) | rw [rl_u_n (by first | with_reducible assumption | omega)])) (by first | rfl | with_reducible assumption) ?_
            refine o_bipush (v := nI 12) hC dX8_both_49 (by decide +kernel) ?_
            refine o_iload_n hC dX8_both_51 (by rfl) ?_
            refine o_imul hC dX8_both_52 ?_
            try rw [nI_mul]
            refine o_iload hC dX8_both_53 (by rfl) ?_
            refine o_iadd hC dX8_both_55 ?_
            try rw [nI_add]
            refine o_laldN (t0 := 1) hC rfl dX8_both_56 (by repeat (first | with_reducible assumption | (rw [rl_u_s]; done) | (rw [rl_u_s]; rfl) | rw [rl_u_n (by first | with_reducible assumption | omega)])) (by omega) (by decide) ?_
            refine o_lor hC dX8_both_57 ?_
            refine o_lstore hC dX8_both_58 (Nat.le_of_ble_eq_true rfl) ?_
            refine o_aload_n hC dX8_both_60 (by rfl) ?_
            refine o_getf hC (fX8_60 hC rfl) dX8_both_61 (by repeat (first | with_reducible assumption | (rw [rl_u_s]; done) | (rw [rl_u_s]; rfl) | rw [rl_u_n (by first | with_reducible assumption | omega)])) (by first | rfl | with_reducible assumption) ?_
            refine o_bipush (v := nI 12) hC dX8_both_64 (by decide +kernel) ?_
            refine o_iload_n hC dX8_both_66 (by rfl) ?_
            refine o_imul hC dX8_both_67 ?_
            try rw [nI_mul]
            refine o_iload hC dX8_both_68 (by rfl) ?_
            refine o_iadd hC dX8_both_70 ?_
            try rw [nI_add]
            refine o_laldN (t0 := 1) hC rfl dX8_both_71 (by repeat (first | with_reducible assumption | (rw [rl_u_s]; done) | (rw [rl_u_s]; rfl) | rw [rl_u_n (by first | with_reducible assumption | omega)])) (by omega) (by decide) ?_
            refine o_aload_n hC dX8_both_72 (by rfl) ?_
            refine o_getf hC (fX8_60 hC rfl) dX8_both_73 (by repeat (first | with_reducible assumption | (rw [rl_u_s]; done) | (rw [rl_u_s]; rfl) | rw [rl_u_n (by first | with_reducible assumption | omega)])) (by first | rfl | with_reducible assumption) ?_
            refine o_bipush (v := nI 12) hC dX8_both_76 (by decide +kernel) ?_
            refine o_iload_n hC dX8_both_78 (by rfl) ?_
            refine o_imul hC dX8_both_79 ?_
            try rw [nI_mul]
            refine o_iload hC dX8_both_80 (by rfl) ?_
            refine o_iadd hC dX8_both_82 ?_
            try rw [nI_add]
            refine o_laldN (t0 := 1) hC rfl dX8_both_83 (by repeat (first | with_reducible assumption | (rw [rl_u_s]; done) | (rw [rl_u_s]; rfl) | rw [rl_u_n (by first | with_reducible assumption | omega)])) (by omega) (by decide) ?_
            refine o_lor hC dX8_both_84 ?_
            refine o_lstore hC dX8_both_85 (Nat.le_of_ble_eq_true rfl) ?_
            refine o_lload hC dX8_both_87 (by rfl) ?_
            refine o_lload hC dX8_both_89 (by rfl) ?_
            refine o_land hC dX8_both_91 ?_
            refine o_lconst (v := 0) hC dX8_both_92 (by decide +kernel) ?_
            refine o_lcmp hC dX8_both_93 ?_
            refine o_if_ne (tgt := 105) hC dX8_both_94 (by decide) (fun c_94 => ?_) (fun c_94 => ?_)
            · refine o_iinc hC dX8_both_105 (by rfl) (rl_inc _) (Nat.le_of_ble_eq_true rfl) ?_
              refine o_goto (tgt := 22) hC dX8_both_108 (by decide) ?_
              refine ih2 (j + 1) _ _ hn2 hl2 _ _ (by omega) (by omega) hq2 ?_
              rw [hls2, tls, List.map_append, ← List.append_assoc, List.filter_append (l₁ := _ ++ _)]
              exact ((List.append_nil _).symm.trans (congrArg (_ ++ ·) (List.filter_cons_of_neg (p := fun e => decide (tok e)) (a := (A.2.2.2.2.1 (12 * a + i) ||| A.2.2.2.2.1 (12 * b + j), A.2.2.2.2.2.1 (12 * a + i) ||| A.2.2.2.2.2.1 (12 * b + j))) (l := []) (fun w => c_94 ((lg_cmp_eq _ _).mpr (of_decide_eq_true w)))).symm))
            · refine o_aload_n hC dX8_both_97 (by rfl) ?_
              refine o_lload hC dX8_both_98 (by rfl) ?_
              refine o_lload hC dX8_both_100 (by rfl) ?_
              refine o_callV2 hC rl_BW_good rl_Ns_nw (by exact hB.2.2.2.2.2) YX8_heapTerm IX8_heapTerm VX8_heapTerm (mX8_95 hC) (by rw [hB.1]; exact cf_X8_heapTerm l D ids H0 _ _ m T _ _ _ _ _ hq2.rf (by omega)) (by exact hq2.1.1) rfl rfl (Nat.le_of_ble_eq_true rfl) (by rw [hB.2.1]; first | exact Nat.le_of_ble_eq_true rfl | (dsimp only; omega)) (by rw [hB.2.1]; first | exact Nat.le_of_ble_eq_true rfl | (dsimp only; omega)) (by rw [hB.2.1]; first | exact Nat.le_of_ble_eq_true rfl | (dsimp only; omega)) (by rw [hB.2.1]; first | exact Nat.le_of_ble_eq_true rfl | (dsimp only; omega)) dX8_both_102 (fun v h_102 n_102 p_102 => ?_)
              obtain ⟨rfl, rfl, q1⟩ := p_102
              try dsimp only [Option.toList, List.cons_append, List.nil_append]
              refine o_iinc hC dX8_both_105 (by rfl) (rl_inc _) (Nat.le_of_ble_eq_true rfl) ?_
              refine o_goto (tgt := 22) hC dX8_both_108 (by decide) ?_
              refine ih2 (j + 1) _ _ (vp_updL hn2 k2 (A.2.2.2.2.1 (12 * a + i) ||| A.2.2.2.2.1 (12 * b + j))) (vp_updL hl2 k2 (A.2.2.2.2.2.1 (12 * a + i) ||| A.2.2.2.2.2.1 (12 * b + j))) _ _ (by omega) (by omega) (hq2.tr q1) ?_
              rw [tls, up_at, up_at, tls_eq (F := hn2) (G := hl2) (fun q hq => ⟨up_ne (by omega), up_ne (by omega)⟩), hls2, tls, List.map_append, ← List.append_assoc, List.filter_append (l₁ := _ ++ _)]
              congr 1
              exact (List.filter_cons_of_pos (p := fun e => decide (tok e)) (a := (A.2.2.2.2.1 (12 * a + i) ||| A.2.2.2.2.1 (12 * b + j), A.2.2.2.2.2.1 (12 * a + i) ||| A.2.2.2.2.2.1 (12 * b + j))) (l := []) (decide_eq_true ((lg_cmp_eq _ _).mp c_94))).symm
      obtain ⟨hm0, g12, g13, g14, g15, g16, g17, g18, g19, g20, g21, g22⟩ := id hq1
      have g0 := hm0.1
      have gk := hm0.2.1
      refine o_iload hC dX8_both_8 (by rfl) ?_
      refine o_aload_n hC dX8_both_10 (by rfl) ?_
      refine o_getf hC (fX8_53 hC rfl) dX8_both_11 (by repeat (first | with_reducible assumption | (rw [rl_u_s]; done) | (rw [rl_u_s]; rfl) | rw [rl_u_n (by first | with_reducible assumption | omega)])) (by first | rfl | with_reducible assumption) ?_
      refine o_iload_n hC dX8_both_14 (by rfl) ?_
      refine o_ialdN (t0 := 0) (k := a) hC rfl dX8_both_15 (by repeat (first | with_reducible assumption | (rw [rl_u_s]; done) | (rw [rl_u_s]; rfl) | rw [rl_u_n (by first | with_reducible assumption | omega)])) (by omega) (by decide) ?_
      rw [ha.1]
      refine o_icmp_ge (tgt := 117) hC dX8_both_16 (by decide) (fun c_16 => ?_) (fun c_16 => ?_)
      · exact absurd c_16 (nI_ge (by omega) (by omega))
      · refine o_iconst (v := nI 0) hC dX8_both_19 (by decide +kernel) ?_
        refine o_istore hC dX8_both_20 (Nat.le_of_ble_eq_true rfl) ?_
        exact loop2 Lb.length 0 k1 _ hn1 hl1 _ _ (by omega) (by omega) hq1 (by rw [hls, tls, List.map_nil, List.append_nil])
  show rl_G X (rl_e D ids H0) 0 [some (.ref m), some (.int (nI c)), some (.int (nI a)), some (.int (nI b)), none, none, none, none, none, none] [] h n 0 0
  refine o_aload_n hC dX8_both_0 (by rfl) ?_
  refine o_iconst (v := nI 0) hC dX8_both_1 (by decide +kernel) ?_
  refine o_putf hC (fX8_82 hC rfl) (fwX8 rfl rfl rfl (Or.inl rfl)) dX8_both_2 (by repeat (first | with_reducible assumption | (rw [rl_u_s]; done) | (rw [rl_u_s]; rfl) | rw [rl_u_n (by first | with_reducible assumption | omega)])) (Nat.le_of_ble_eq_true rfl) ?_
  try simp only [List.set_cons_zero, List.set_cons_succ]
  refine o_iconst (v := nI 0) hC dX8_both_5 (by decide +kernel) ?_
  refine o_istore hC dX8_both_6 (Nat.le_of_ble_eq_true rfl) ?_
  exact loop1 La.length 0 0 _ A.2.2.2.2.2.2.1 A.2.2.2.2.2.2.2.1 _ _ _ (by omega) (by omega) (hq.ob T fu 0 (by omega)) rfl
end
section
/-! THE MODEL, functionally: turn, not -/
theorem tadd_no {L : List tT} {t : tT} (h : ¬ tok t) : tadd L t = L := if_pos h
theorem tadd_ab {L : List tT} {t : tT} (h : ∃ e ∈ L, tle e t) : tadd L t = L := by
  unfold tadd
  by_cases ho : tok t
  · rw [if_neg (fun q => q ho), if_pos h]
  · rw [if_pos ho]
theorem tadd_new {L : List tT} {t : tT} (ho : tok t) (h : ¬ ∃ e ∈ L, tle e t) : tadd L t = L.filter (fun e => decide (¬ tle t e)) ++ [t] := by
  unfold tadd
  rw [if_neg (fun q => q ho), if_neg h]
/-- NOT of the model: FULL is none -/
def wrn (A : md_D) (c : Nat) (fu' : Int32) (r : Option (List tT)) : Prop := (∃ L : List tT, r = some L ∧ fu' = nI 0 ∧ mws A c L ∧ wok L) ∨ (r = none ∧ fu' = nI 1)
theorem tnot_full {W : List tT} {c e : Int64} {j r : Nat} (hW : wok W) (hj : j < W.length) (hr : r < 36) (h : 161 ≤ (tfl (tall (tfn W) c e 0 j ++ (List.range (r + 1)).filterMap (tvar (tfn W j) c e))).length) : 12 < (tfl (tall (tfn W) c e 0 W.length)).length := by
  have hs : tcs (tfn W) c e j = (List.range (r + 1)).filterMap (tvar (tfn W j) c e) ++ (List.range' (r + 1) (36 - (r + 1))).filterMap (tvar (tfn W j) c e) := by
    unfold tcs
    have e2 := List.range'_append_1 (s := 0) (m := r + 1) (n := 36 - (r + 1))
    rw [Nat.zero_add, show r + 1 + (36 - (r + 1)) = 36 by omega] at e2
    rw [← List.filterMap_append, List.range_eq_range', List.range_eq_range', e2]
  have hp : ∀ i : Nat, i < W.length → ∀ q : Nat, q < W.length → i ≠ q → ¬ tle (tfn W i) (tfn W q) := by
    intro i hi q hq hiq w
    have gi : tfn W i = W[i] := by unfold tfn; rw [List.getD_eq_getElem?_getD, List.getElem?_eq_getElem hi]; rfl
    have gq : tfn W q = W[q] := by unfold tfn; rw [List.getD_eq_getElem?_getD, List.getElem?_eq_getElem hq]; rfl
    rw [gi, gq] at w
    have h2 := List.pairwise_iff_getElem.mp hW.1
    rcases Nat.lt_or_gt_of_ne hiq with u | u
    · exact (h2 i q hi hq u).1 w
    · exact (h2 q i hq hi u).2 w
  have := tnot_long hW.2.2.2 hj hp hs
  omega

set_option maxHeartbeats 4000000 in
set_option maxRecDepth 100000 in
theorem cf_X8_turn (l : Launch) (D : va_G) (ids : Nat → ClassId) (H0 : Heap) (h : rl_H) (n : Nat) (m : Nat) (T : md_T) (fu : Int32) (k : Nat) (A : md_D) (a b : Int64) (hq : mf ids h h m T fu k A)  : rl_Met l (rl_e D ids H0) rl_BW rl_Ns yX8_turn cX8_turn 7 none ({ frames := 1, cells := 0, slots := 0, locals := 24 }) [.ref m, .long a, .long b] h n (fun v h' n' => ∃ (fu' : Int32) (k' : Nat) (hn' hl' : Nat → Int64), v = none ∧ n' = n ∧ mf ids h h' m T fu' k' (A.1, A.2.1, A.2.2.1, A.2.2.2.1, A.2.2.2.2.1, A.2.2.2.2.2.1, hn', hl', A.2.2.2.2.2.2.2.2.1, A.2.2.2.2.2.2.2.2.2.1, A.2.2.2.2.2.2.2.2.2.2) ∧ ((fu' = fu ∧ tls hn' hl' k' = tadd (tls A.2.2.2.2.2.2.1 A.2.2.2.2.2.2.2.1 k) (a, b)) ∨ (fu' = nI 1 ∧ 161 ≤ (tadd (tls A.2.2.2.2.2.2.1 A.2.2.2.2.2.2.2.1 k) (a, b)).length))) := by
  obtain ⟨hm0, g12, g13, g14, g15, g16, g17, g18, g19, g20, g21, g22⟩ := id hq
  have g0 := hm0.1
  have gk := hm0.2.1
  have b13 := hq.b13
  have b15 := hq.b15
  have b21 := hq.b21
  refine rl_Met.of (by decide +kernel) (Nat.le_of_ble_eq_true rfl) ?_
  intro X hC hB
  have loop2 : tok (a, b) → (¬ ∃ e ∈ (tls A.2.2.2.2.2.2.1 A.2.2.2.2.2.2.2.1 k), tle e (a, b)) → ∀ (mm i lf : Nat) (h1 : rl_H) (hn1 hl1 : Nat → Int64), i + mm = k → lf ≤ i → mf ids h h1 m T fu k (A.1, A.2.1, A.2.2.1, A.2.2.2.1, A.2.2.2.2.1, A.2.2.2.2.2.1, hn1, hl1, A.2.2.2.2.2.2.2.2.1, A.2.2.2.2.2.2.2.2.2.1, A.2.2.2.2.2.2.2.2.2.2) → (∀ q : Nat, i ≤ q → hn1 q = A.2.2.2.2.2.2.1 q ∧ hl1 q = A.2.2.2.2.2.2.2.1 q) → tls hn1 hl1 lf = (tls A.2.2.2.2.2.2.1 A.2.2.2.2.2.2.2.1 i).filter (fun e => decide (¬ tle (a, b) e)) → rl_G X (rl_e D ids H0) 70 [some (.ref m), some (.long a), none, some (.long b), none, some (.int (nI lf)), some (.int (nI i))] [] h1 n 0 0 := by
    intro htk hnone mm
    induction mm with
    | zero =>
      intro i lf h1 hn1 hl1 hm hl0 hq1 hsm hls
      have ei : i = k := by omega
      subst ei
      obtain ⟨hm0, g12, g13, g14, g15, g16, g17, g18, g19, g20, g21, g22⟩ := id hq1
      have g0 := hm0.1
      have gk := hm0.2.1
      refine o_iload hC dX8_turn_70 (by rfl) ?_
      refine o_aload_n hC dX8_turn_72 (by rfl) ?_
      refine o_getf hC (fX8_82 hC rfl) dX8_turn_73 (by repeat (first | with_reducible assumption | (rw [rl_u_s]; done) | (rw [rl_u_s]; rfl) | rw [rl_u_n (by first | with_reducible assumption | omega)])) (by first | rfl | with_reducible assumption) ?_
      refine o_icmp_ge (tgt := 152) hC dX8_turn_76 (by decide) (fun c_76 => ?_) (fun c_76 => ?_)
      · refine o_aload_n hC dX8_turn_152 (by rfl) ?_
        refine o_iload hC dX8_turn_153 (by rfl) ?_
        refine o_putf hC (fX8_82 hC rfl) (fwX8 rfl rfl rfl (Or.inl rfl)) dX8_turn_155 (by repeat (first | with_reducible assumption | (rw [rl_u_s]; done) | (rw [rl_u_s]; rfl) | rw [rl_u_n (by first | with_reducible assumption | omega)])) (Nat.le_of_ble_eq_true rfl) ?_
        try simp only [List.set_cons_zero, List.set_cons_succ]
        refine o_aload_n hC dX8_turn_158 (by rfl) ?_
        refine o_getf hC (fX8_82 hC rfl) dX8_turn_159 (by repeat (first | with_reducible assumption | (rw [rl_u_s]; done) | (rw [rl_u_s]; rfl) | rw [rl_u_n (by first | with_reducible assumption | omega)])) (by first | rfl | with_reducible assumption) ?_
        refine o_sipush (v := nI 160) hC dX8_turn_162 (by decide +kernel) ?_
        refine o_icmp_ne (tgt := 178) hC dX8_turn_165 (by decide) (fun c_165 => ?_) (fun c_165 => ?_)
        · have l160 : lf ≠ 160 := fun e => c_165 (by rw [e])
          have hq3 := hq1.ob T fu lf (by omega)
          refine o_aload_n hC dX8_turn_178 (by rfl) ?_
          refine o_lload_n hC dX8_turn_179 (by rfl) ?_
          refine o_lload_n hC dX8_turn_180 (by rfl) ?_
          refine o_callV2 hC rl_BW_good rl_Ns_nw (by exact hB.2.2.2.2.2) YX8_heapTerm IX8_heapTerm VX8_heapTerm (mX8_95 hC) (by rw [hB.1]; exact cf_X8_heapTerm l D ids H0 _ _ m T _ _ _ _ _ hq3.rf (by omega)) (by exact hq3.1.1) rfl rfl (Nat.le_of_ble_eq_true rfl) (by rw [hB.2.1]; first | exact Nat.le_of_ble_eq_true rfl | (dsimp only; omega)) (by rw [hB.2.1]; first | exact Nat.le_of_ble_eq_true rfl | (dsimp only; omega)) (by rw [hB.2.1]; first | exact Nat.le_of_ble_eq_true rfl | (dsimp only; omega)) (by rw [hB.2.1]; first | exact Nat.le_of_ble_eq_true rfl | (dsimp only; omega)) dX8_turn_181 (fun v h_181 n_181 p_181 => ?_)
          obtain ⟨rfl, rfl, q1⟩ := p_181
          try dsimp only [Option.toList, List.cons_append, List.nil_append]
          refine o_vret hC hB dX8_turn_184 (Nat.le_of_ble_eq_true rfl) (Nat.le_of_ble_eq_true rfl) ?_
          refine ⟨_, _, vp_updL hn1 lf a, vp_updL hl1 lf b, rfl, rfl, hq3.tr q1, Or.inl ⟨rfl, ?_⟩⟩
          rw [tadd_new htk hnone, tls, up_at, up_at, tls_eq (F := hn1) (G := hl1) (fun q hq => ⟨up_ne (by omega), up_ne (by omega)⟩), hls]
        · have l160 : lf = 160 := nI_inj2 (by omega) (by decide) c_165
          have hq2 := hq1.ob T fu lf (by omega)
          refine o_aload_n hC dX8_turn_168 (by rfl) ?_
          refine o_iconst (v := nI 1) hC dX8_turn_169 (by decide +kernel) ?_
          refine o_putf hC (fX8_91 hC rfl) (fwX8 rfl rfl rfl (Or.inl rfl)) dX8_turn_170 (by repeat (first | with_reducible assumption | (rw [rl_u_s]; done) | (rw [rl_u_s]; rfl) | rw [rl_u_n (by first | with_reducible assumption | omega)])) (Nat.le_of_ble_eq_true rfl) ?_
          try simp only [List.set_cons_zero, List.set_cons_succ]
          refine o_aload_n hC dX8_turn_173 (by rfl) ?_
          refine o_iconst (v := nI 0) hC dX8_turn_174 (by decide +kernel) ?_
          refine o_putf hC (fX8_82 hC rfl) (fwX8 rfl rfl rfl (Or.inl rfl)) dX8_turn_175 (by repeat (first | with_reducible assumption | (rw [rl_u_s]; done) | (rw [rl_u_s]; rfl) | rw [rl_u_n (by first | with_reducible assumption | omega)])) (Nat.le_of_ble_eq_true rfl) ?_
          try simp only [List.set_cons_zero, List.set_cons_succ]
          have hq3 := (hq2.ob T (nI 1) lf (by omega)).ob T (nI 1) 0 (by omega)
          refine o_aload_n hC dX8_turn_178 (by rfl) ?_
          refine o_lload_n hC dX8_turn_179 (by rfl) ?_
          refine o_lload_n hC dX8_turn_180 (by rfl) ?_
          refine o_callV2 hC rl_BW_good rl_Ns_nw (by exact hB.2.2.2.2.2) YX8_heapTerm IX8_heapTerm VX8_heapTerm (mX8_95 hC) (by rw [hB.1]; exact cf_X8_heapTerm l D ids H0 _ _ m T _ _ _ _ _ hq3.rf (by omega)) (by exact hq3.1.1) rfl rfl (Nat.le_of_ble_eq_true rfl) (by rw [hB.2.1]; first | exact Nat.le_of_ble_eq_true rfl | (dsimp only; omega)) (by rw [hB.2.1]; first | exact Nat.le_of_ble_eq_true rfl | (dsimp only; omega)) (by rw [hB.2.1]; first | exact Nat.le_of_ble_eq_true rfl | (dsimp only; omega)) (by rw [hB.2.1]; first | exact Nat.le_of_ble_eq_true rfl | (dsimp only; omega)) dX8_turn_181 (fun v h_181 n_181 p_181 => ?_)
          obtain ⟨rfl, rfl, q1⟩ := p_181
          try dsimp only [Option.toList, List.cons_append, List.nil_append]
          refine o_vret hC hB dX8_turn_184 (Nat.le_of_ble_eq_true rfl) (Nat.le_of_ble_eq_true rfl) ?_
          refine ⟨_, _, _, _, rfl, rfl, hq3.tr q1, Or.inr ⟨rfl, ?_⟩⟩
          rw [tadd_new htk hnone, ← hls, List.length_append, tls_len]
          exact Nat.succ_le_succ (Nat.le_of_eq l160.symm)
      · exact absurd (nI_le (by omega) (by omega)) c_76
    | succ mm ih =>
      intro i lf h1 hn1 hl1 hm hl0 hq1 hsm hls
      obtain ⟨hm0, g12, g13, g14, g15, g16, g17, g18, g19, g20, g21, g22⟩ := id hq1
      have g0 := hm0.1
      have gk := hm0.2.1
      have e1 := (hsm i (Nat.le_refl _)).1
      have e2 := (hsm i (Nat.le_refl _)).2
      refine o_iload hC dX8_turn_70 (by rfl) ?_
      refine o_aload_n hC dX8_turn_72 (by rfl) ?_
      refine o_getf hC (fX8_82 hC rfl) dX8_turn_73 (by repeat (first | with_reducible assumption | (rw [rl_u_s]; done) | (rw [rl_u_s]; rfl) | rw [rl_u_n (by first | with_reducible assumption | omega)])) (by first | rfl | with_reducible assumption) ?_
      refine o_icmp_ge (tgt := 152) hC dX8_turn_76 (by decide) (fun c_76 => ?_) (fun c_76 => ?_)
      · exact absurd c_76 (nI_ge (by omega) (by omega))
      · refine o_lload_n hC dX8_turn_79 (by rfl) ?_
        refine o_aload_n hC dX8_turn_80 (by rfl) ?_
        refine o_getf hC (fX8_63 hC rfl) dX8_turn_81 (by repeat (first | with_reducible assumption | (rw [rl_u_s]; done) | (rw [rl_u_s]; rfl) | rw [rl_u_n (by first | with_reducible assumption | omega)])) (by first | rfl | with_reducible assumption) ?_
        refine o_iload hC dX8_turn_84 (by rfl) ?_
        refine o_laldN (t0 := 1) hC rfl dX8_turn_86 (by repeat (first | with_reducible assumption | (rw [rl_u_s]; done) | (rw [rl_u_s]; rfl) | rw [rl_u_n (by first | with_reducible assumption | omega)])) (by omega) (by decide) ?_
        refine o_ldc2 hC nX8_85 dX8_turn_87 ?_
        refine o_lxor hC dX8_turn_90 ?_
        refine o_land hC dX8_turn_91 ?_
        refine o_lconst (v := 0) hC dX8_turn_92 (by decide +kernel) ?_
        refine o_lcmp hC dX8_turn_93 ?_
        refine o_if_ne (tgt := 115) hC dX8_turn_94 (by decide) (fun c_94 => ?_) (fun c_94 => ?_)
        · have nk : ¬ tle (a, b) (A.2.2.2.2.2.2.1 i, A.2.2.2.2.2.2.2.1 i) := by
            rw [← e1, ← e2]
            first
            | exact fun w => c_94 ((lg_cmp_eq _ _).mpr w.1)
            | exact fun w => c_112 ((lg_cmp_eq _ _).mpr w.2)
          refine o_aload_n hC dX8_turn_115 (by rfl) ?_
          refine o_getf hC (fX8_63 hC rfl) dX8_turn_116 (by repeat (first | with_reducible assumption | (rw [rl_u_s]; done) | (rw [rl_u_s]; rfl) | rw [rl_u_n (by first | with_reducible assumption | omega)])) (by first | rfl | with_reducible assumption) ?_
          refine o_iload hC dX8_turn_119 (by rfl) ?_
          refine o_aload_n hC dX8_turn_121 (by rfl) ?_
          refine o_getf hC (fX8_63 hC rfl) dX8_turn_122 (by repeat (first | with_reducible assumption | (rw [rl_u_s]; done) | (rw [rl_u_s]; rfl) | rw [rl_u_n (by first | with_reducible assumption | omega)])) (by first | rfl | with_reducible assumption) ?_
          refine o_iload hC dX8_turn_125 (by rfl) ?_
          refine o_laldN (t0 := 1) hC rfl dX8_turn_127 (by repeat (first | with_reducible assumption | (rw [rl_u_s]; done) | (rw [rl_u_s]; rfl) | rw [rl_u_n (by first | with_reducible assumption | omega)])) (by omega) (by decide) ?_
          refine o_lastN (t0 := 1) hC rfl dX8_turn_128 (by repeat (first | with_reducible assumption | (rw [rl_u_s]; done) | (rw [rl_u_s]; rfl) | rw [rl_u_n (by first | with_reducible assumption | omega)])) (by omega) (by decide) ?_
          refine o_aload_n hC dX8_turn_129 (by rfl) ?_
          refine o_getf hC (fX8_66 hC rfl) dX8_turn_130 (by repeat (first | with_reducible assumption | (rw [rl_u_s]; done) | (rw [rl_u_s]; rfl) | rw [rl_u_n (by first | with_reducible assumption | omega)])) (by first | rfl | with_reducible assumption) ?_
          refine o_iload hC dX8_turn_133 (by rfl) ?_
          refine o_aload_n hC dX8_turn_135 (by rfl) ?_
          refine o_getf hC (fX8_66 hC rfl) dX8_turn_136 (by repeat (first | with_reducible assumption | (rw [rl_u_s]; done) | (rw [rl_u_s]; rfl) | rw [rl_u_n (by first | with_reducible assumption | omega)])) (by first | rfl | with_reducible assumption) ?_
          refine o_iload hC dX8_turn_139 (by rfl) ?_
          refine o_laldN (t0 := 1) hC rfl dX8_turn_141 (by repeat (first | with_reducible assumption | (rw [rl_u_s]; done) | (rw [rl_u_s]; rfl) | rw [rl_u_n (by first | with_reducible assumption | omega)])) (by omega) (by decide) ?_
          refine o_lastN (t0 := 1) hC rfl dX8_turn_142 (by repeat (first | with_reducible assumption | (rw [rl_u_s]; done) | (rw [rl_u_s]; rfl) | rw [rl_u_n (by first | with_reducible assumption | omega)])) (by omega) (by decide) ?_
          refine o_iinc hC dX8_turn_143 (by rfl) (rl_inc _) (Nat.le_of_ble_eq_true rfl) ?_
          refine o_iinc hC dX8_turn_146 (by rfl) (rl_inc _) (Nat.le_of_ble_eq_true rfl) ?_
          refine o_goto (tgt := 70) hC dX8_turn_149 (by decide) ?_
          refine ih (i + 1) (lf + 1) _ (vp_updL hn1 lf (hn1 i)) (vp_updL hl1 lf (hl1 i)) (by omega) (by omega) ((hq1.s18 _).s19 _) (fun q hq => ⟨(up_ne (by omega)).trans (hsm q (by omega)).1, (up_ne (by omega)).trans (hsm q (by omega)).2⟩) ?_
          rw [tls, up_at, up_at, tls_eq (F := hn1) (G := hl1) (fun q hq => ⟨up_ne (by omega), up_ne (by omega)⟩), hls, tls, List.filter_append, tf_pos nk, List.filter_nil, e1, e2]
        · refine o_lload_n hC dX8_turn_97 (by rfl) ?_
          refine o_aload_n hC dX8_turn_98 (by rfl) ?_
          refine o_getf hC (fX8_66 hC rfl) dX8_turn_99 (by repeat (first | with_reducible assumption | (rw [rl_u_s]; done) | (rw [rl_u_s]; rfl) | rw [rl_u_n (by first | with_reducible assumption | omega)])) (by first | rfl | with_reducible assumption) ?_
          refine o_iload hC dX8_turn_102 (by rfl) ?_
          refine o_laldN (t0 := 1) hC rfl dX8_turn_104 (by repeat (first | with_reducible assumption | (rw [rl_u_s]; done) | (rw [rl_u_s]; rfl) | rw [rl_u_n (by first | with_reducible assumption | omega)])) (by omega) (by decide) ?_
          refine o_ldc2 hC nX8_85 dX8_turn_105 ?_
          refine o_lxor hC dX8_turn_108 ?_
          refine o_land hC dX8_turn_109 ?_
          refine o_lconst (v := 0) hC dX8_turn_110 (by decide +kernel) ?_
          refine o_lcmp hC dX8_turn_111 ?_
          refine o_if_eq (tgt := 146) hC dX8_turn_112 (by decide) (fun c_112 => ?_) (fun c_112 => ?_)
          · refine o_iinc hC dX8_turn_146 (by rfl) (rl_inc _) (Nat.le_of_ble_eq_true rfl) ?_
            refine o_goto (tgt := 70) hC dX8_turn_149 (by decide) ?_
            refine ih (i + 1) lf _ hn1 hl1 (by omega) (by omega) hq1 (fun q hq => hsm q (by omega)) ?_
            rw [hls, tls, List.filter_append, tf_neg (show tle (a, b) (A.2.2.2.2.2.2.1 i, A.2.2.2.2.2.2.2.1 i) from by rw [← e1, ← e2]; exact ⟨(lg_cmp_eq _ _).mp c_94, (lg_cmp_eq _ _).mp c_112⟩), List.filter_nil, List.append_nil]
          · have nk : ¬ tle (a, b) (A.2.2.2.2.2.2.1 i, A.2.2.2.2.2.2.2.1 i) := by
              rw [← e1, ← e2]
              first
              | exact fun w => c_94 ((lg_cmp_eq _ _).mpr w.1)
              | exact fun w => c_112 ((lg_cmp_eq _ _).mpr w.2)
            refine o_aload_n hC dX8_turn_115 (by rfl) ?_
            refine o_getf hC (fX8_63 hC rfl) dX8_turn_116 (by repeat (first | with_reducible assumption | (rw [rl_u_s]; done) | (rw [rl_u_s]; rfl) | rw [rl_u_n (by first | with_reducible assumption | omega)])) (by first | rfl | with_reducible assumption) ?_
            refine o_iload hC dX8_turn_119 (by rfl) ?_
            refine o_aload_n hC dX8_turn_121 (by rfl) ?_
            refine o_getf hC (fX8_63 hC rfl) dX8_turn_122 (by repeat (first | with_reducible assumption | (rw [rl_u_s]; done) | (rw [rl_u_s]; rfl) | rw [rl_u_n (by first | with_reducible assumption | omega)])) (by first | rfl | with_reducible assumption) ?_
            refine o_iload hC dX8_turn_125 (by rfl) ?_
            refine o_laldN (t0 := 1) hC rfl dX8_turn_127 (by repeat (first | with_reducible assumption | (rw [rl_u_s]; done) | (rw [rl_u_s]; rfl) | rw [rl_u_n (by first | with_reducible assumption | omega)])) (by omega) (by decide) ?_
            refine o_lastN (t0 := 1) hC rfl dX8_turn_128 (by repeat (first | with_reducible assumption | (rw [rl_u_s]; done) | (rw [rl_u_s]; rfl) | rw [rl_u_n (by first | with_reducible assumption | omega)])) (by omega) (by decide) ?_
            refine o_aload_n hC dX8_turn_129 (by rfl) ?_
            refine o_getf hC (fX8_66 hC rfl) dX8_turn_130 (by repeat (first | with_reducible assumption | (rw [rl_u_s]; done) | (rw [rl_u_s]; rfl) | rw [rl_u_n (by first | with_reducible assumption | omega)])) (by first | rfl | with_reducible assumption) ?_
            refine o_iload hC dX8_turn_133 (by rfl) ?_
            refine o_aload_n hC dX8_turn_135 (by rfl) ?_
            refine o_getf hC (fX8_66 hC rfl) dX8_turn_136 (by repeat (first | with_reducible assumption | (rw [rl_u_s]; done) | (rw [rl_u_s]; rfl) | rw [rl_u_n (by first | with_reducible assumption | omega)])) (by first | rfl | with_reducible assumption) ?_
            refine o_iload hC dX8_turn_139 (by rfl) ?_
            refine o_laldN (t0 := 1) hC rfl dX8_turn_141 (by repeat (first | with_reducible assumption | (rw [rl_u_s]; done) | (rw [rl_u_s]; rfl) | rw [rl_u_n (by first | with_reducible assumption | omega)])) (by omega) (by decide) ?_
            refine o_lastN (t0 := 1) hC rfl dX8_turn_142 (by repeat (first | with_reducible assumption | (rw [rl_u_s]; done) | (rw [rl_u_s]; rfl) | rw [rl_u_n (by first | with_reducible assumption | omega)])) (by omega) (by decide) ?_
            refine o_iinc hC dX8_turn_143 (by rfl) (rl_inc _) (Nat.le_of_ble_eq_true rfl) ?_
            refine o_iinc hC dX8_turn_146 (by rfl) (rl_inc _) (Nat.le_of_ble_eq_true rfl) ?_
            refine o_goto (tgt := 70) hC dX8_turn_149 (by decide) ?_
            refine ih (i + 1) (lf + 1) _ (vp_updL hn1 lf (hn1 i)) (vp_updL hl1 lf (hl1 i)) (by omega) (by omega) ((hq1.s18 _).s19 _) (fun q hq => ⟨(up_ne (by omega)).trans (hsm q (by omega)).1, (up_ne (by omega)).trans (hsm q (by omega)).2⟩) ?_
            rw [tls, up_at, up_at, tls_eq (F := hn1) (G := hl1) (fun q hq => ⟨up_ne (by omega), up_ne (by omega)⟩), hls, tls, List.filter_append, tf_pos nk, List.filter_nil, e1, e2]
  have loop1 : tok (a, b) → ∀ (mm i : Nat), i + mm = k → (∀ q : Nat, q < i → ¬ tle (A.2.2.2.2.2.2.1 q, A.2.2.2.2.2.2.2.1 q) (a, b)) → rl_G X (rl_e D ids H0) 12 [some (.ref m), some (.long a), none, some (.long b), none, some (.int (nI i)), none] [] h n 0 0 := by
    intro htk mm
    induction mm with
    | zero =>
      intro i hm hno
      refine o_iload hC dX8_turn_12 (by rfl) ?_
      refine o_aload_n hC dX8_turn_14 (by rfl) ?_
      refine o_getf hC (fX8_82 hC rfl) dX8_turn_15 (by repeat (first | with_reducible assumption | (rw [rl_u_s]; done) | (rw [rl_u_s]; rfl) | rw [rl_u_n (by first | with_reducible assumption | omega)])) (by first | rfl | with_reducible assumption) ?_
      refine o_icmp_ge (tgt := 64) hC dX8_turn_18 (by decide) (fun c_18 => ?_) (fun c_18 => ?_)
      · refine o_iconst (v := nI 0) hC dX8_turn_64 (by decide +kernel) ?_
        refine o_istore hC dX8_turn_65 (Nat.le_of_ble_eq_true rfl) ?_
        refine o_iconst (v := nI 0) hC dX8_turn_67 (by decide +kernel) ?_
        refine o_istore hC dX8_turn_68 (Nat.le_of_ble_eq_true rfl) ?_
        exact loop2 htk (fun ⟨e, he, hle⟩ => by obtain ⟨q, hq, rfl⟩ := tls_mem.mp he; exact hno q (by omega) hle) k 0 0 _ A.2.2.2.2.2.2.1 A.2.2.2.2.2.2.2.1 (by omega) (by omega) hq (fun _ _ => ⟨rfl, rfl⟩) rfl
      · exact absurd (nI_le (by omega) (by omega)) c_18
    | succ mm ih =>
      intro i hm hno
      refine o_iload hC dX8_turn_12 (by rfl) ?_
      refine o_aload_n hC dX8_turn_14 (by rfl) ?_
      refine o_getf hC (fX8_82 hC rfl) dX8_turn_15 (by repeat (first | with_reducible assumption | (rw [rl_u_s]; done) | (rw [rl_u_s]; rfl) | rw [rl_u_n (by first | with_reducible assumption | omega)])) (by first | rfl | with_reducible assumption) ?_
      refine o_icmp_ge (tgt := 64) hC dX8_turn_18 (by decide) (fun c_18 => ?_) (fun c_18 => ?_)
      · exact absurd c_18 (nI_ge (by omega) (by omega))
      · refine o_aload_n hC dX8_turn_21 (by rfl) ?_
        refine o_getf hC (fX8_63 hC rfl) dX8_turn_22 (by repeat (first | with_reducible assumption | (rw [rl_u_s]; done) | (rw [rl_u_s]; rfl) | rw [rl_u_n (by first | with_reducible assumption | omega)])) (by first | rfl | with_reducible assumption) ?_
        refine o_iload hC dX8_turn_25 (by rfl) ?_
        refine o_laldN (t0 := 1) hC rfl dX8_turn_27 (by repeat (first | with_reducible assumption | (rw [rl_u_s]; done) | (rw [rl_u_s]; rfl) | rw [rl_u_n (by first | with_reducible assumption | omega)])) (by omega) (by decide) ?_
        refine o_lload_n hC dX8_turn_28 (by rfl) ?_
        refine o_ldc2 hC nX8_85 dX8_turn_29 ?_
        refine o_lxor hC dX8_turn_32 ?_
        refine o_land hC dX8_turn_33 ?_
        refine o_lconst (v := 0) hC dX8_turn_34 (by decide +kernel) ?_
        refine o_lcmp hC dX8_turn_35 ?_
        refine o_if_ne (tgt := 58) hC dX8_turn_36 (by decide) (fun c_36 => ?_) (fun c_36 => ?_)
        · refine o_iinc hC dX8_turn_58 (by rfl) (rl_inc _) (Nat.le_of_ble_eq_true rfl) ?_
          refine o_goto (tgt := 12) hC dX8_turn_61 (by decide) ?_
          refine ih (i + 1) (by omega) (fun q hq => ?_)
          by_cases e : q = i
          · subst e
            first
            | exact fun w => c_36 ((lg_cmp_eq _ _).mpr w.1)
            | exact fun w => c_54 ((lg_cmp_eq _ _).mpr w.2)
          · exact hno q (by omega)
        · refine o_aload_n hC dX8_turn_39 (by rfl) ?_
          refine o_getf hC (fX8_66 hC rfl) dX8_turn_40 (by repeat (first | with_reducible assumption | (rw [rl_u_s]; done) | (rw [rl_u_s]; rfl) | rw [rl_u_n (by first | with_reducible assumption | omega)])) (by first | rfl | with_reducible assumption) ?_
          refine o_iload hC dX8_turn_43 (by rfl) ?_
          refine o_laldN (t0 := 1) hC rfl dX8_turn_45 (by repeat (first | with_reducible assumption | (rw [rl_u_s]; done) | (rw [rl_u_s]; rfl) | rw [rl_u_n (by first | with_reducible assumption | omega)])) (by omega) (by decide) ?_
          refine o_lload_n hC dX8_turn_46 (by rfl) ?_
          refine o_ldc2 hC nX8_85 dX8_turn_47 ?_
          refine o_lxor hC dX8_turn_50 ?_
          refine o_land hC dX8_turn_51 ?_
          refine o_lconst (v := 0) hC dX8_turn_52 (by decide +kernel) ?_
          refine o_lcmp hC dX8_turn_53 ?_
          refine o_if_ne (tgt := 58) hC dX8_turn_54 (by decide) (fun c_54 => ?_) (fun c_54 => ?_)
          · refine o_iinc hC dX8_turn_58 (by rfl) (rl_inc _) (Nat.le_of_ble_eq_true rfl) ?_
            refine o_goto (tgt := 12) hC dX8_turn_61 (by decide) ?_
            refine ih (i + 1) (by omega) (fun q hq => ?_)
            by_cases e : q = i
            · subst e
              first
              | exact fun w => c_36 ((lg_cmp_eq _ _).mpr w.1)
              | exact fun w => c_54 ((lg_cmp_eq _ _).mpr w.2)
            · exact hno q (by omega)
          · refine o_vret hC hB dX8_turn_57 (Nat.le_of_ble_eq_true rfl) (Nat.le_of_ble_eq_true rfl) ?_
            exact ⟨fu, k, A.2.2.2.2.2.2.1, A.2.2.2.2.2.2.2.1, rfl, rfl, hq, Or.inl ⟨rfl, (tadd_ab (t := (a, b)) ⟨(A.2.2.2.2.2.2.1 i, A.2.2.2.2.2.2.2.1 i), tls_mem.mpr ⟨i, by omega, rfl⟩, (lg_cmp_eq _ _).mp c_36, (lg_cmp_eq _ _).mp c_54⟩).symm⟩⟩
  show rl_G X (rl_e D ids H0) 0 [some (.ref m), some (.long a), none, some (.long b), none, none, none] [] h n 0 0
  refine o_lload_n hC dX8_turn_0 (by rfl) ?_
  refine o_lload_n hC dX8_turn_1 (by rfl) ?_
  refine o_land hC dX8_turn_2 ?_
  refine o_lconst (v := 0) hC dX8_turn_3 (by decide +kernel) ?_
  refine o_lcmp hC dX8_turn_4 ?_
  refine o_if_eq (tgt := 9) hC dX8_turn_5 (by decide) (fun c_5 => ?_) (fun c_5 => ?_)
  · refine o_iconst (v := nI 0) hC dX8_turn_9 (by decide +kernel) ?_
    refine o_istore hC dX8_turn_10 (Nat.le_of_ble_eq_true rfl) ?_
    exact loop1 ((lg_cmp_eq _ _).mp c_5) k 0 (by omega) (fun q hq => absurd hq (Nat.not_lt_zero q))
  · refine o_vret hC hB dX8_turn_8 (Nat.le_of_ble_eq_true rfl) (Nat.le_of_ble_eq_true rfl) ?_
    exact ⟨fu, k, A.2.2.2.2.2.2.1, A.2.2.2.2.2.2.2.1, rfl, rfl, hq, Or.inl ⟨rfl, (tadd_no (fun w => c_5 ((lg_cmp_eq _ _).mpr w))).symm⟩⟩
end
