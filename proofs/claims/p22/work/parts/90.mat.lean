/-! a ROW that matters -/
theorem ark_mem {tab : List arow} {j : Nat} (h : j < tab.length) : ark tab j ∈ tab := by
  rw [ark_at h]
  exact List.getElem_mem h
/-- a TERM without a ROW -/
abbrev tfg (b : Int64) (t : tT) : tT := (t.1 &&& (b ^^^ (-1)), t.2 &&& (b ^^^ (-1)))
theorem fo_fold (f g : Nat → Int64) (b : Int64) : ∀ (m j : Nat) (s : dr_S), fo_go f g b m j s = dr_fold ((tsg f g j m).map (tfg b)) s
  | 0, _, _ => rfl
  | m + 1, j, s => fo_fold f g b m (j + 1) _
theorem tadd_len (L : List tT) (t : tT) : (tadd L t).length ≤ L.length + 1 := by
  unfold tadd
  split
  · omega
  · split
    · omega
    · rw [List.length_append, List.length_singleton]
      have := List.length_filter_le (fun e => decide (¬ tle t e)) L
      omega
theorem tfl_len2 : ∀ (C L : List tT), (C.foldl tadd L).length ≤ L.length + C.length
  | [], L => Nat.le_refl _
  | t :: C, L => by
    have h1 := tfl_len2 C (tadd L t)
    have h2 := tadd_len L t
    show (C.foldl tadd (tadd L t)).length ≤ L.length + (C.length + 1)
    omega
theorem fo_out {ids : Nat → ClassId} {h h' : rl_H} {d w ka : Nat} {c : Int64} {A : List tT} {F G fa ga f g : Nat → Int64} {x : Int32} (ha : tls fa ga ka = A) (hA : ka ≤ 12) (H : dr_out ids h h' d w (fo_go fa ga c ka 0 (F, G, 0)) f g x) : ∃ L : List tT, wst (A.map (tfg c)) = some L ∧ wat ids h' w L := by
  rw [fo_fold, ← tls_0, ha] at H
  have la : A.length = ka := by rw [← ha, tls_len]
  rcases H.we (by rw [List.length_map]; omega) with ⟨L, e, -, hw⟩ | ⟨e, -⟩
  · exact ⟨L, e, hw⟩
  · unfold wst at e
    rw [if_pos] at e
    · exact absurd e (by simp)
    · have := tfl_len2 (A.map (tfg c)) []
      rw [List.length_map] at this
      have h0 : ([] : List tT).length = 0 := rfl
      show ((A.map (tfg c)).foldl tadd []).length ≤ 12
      omega
theorem thd_iff (t : tT) (x : Int64) : thd t x = true ↔ ∀ i : Nat, (bt t.1 i = true → bt x i = true) ∧ (bt t.2 i = true → bt x i = false) := by
  rw [decide_eq_true_iff, ts_sub, ts_dis]
  exact ⟨fun h i => ⟨h.1 i, h.2 i⟩, fun h => ⟨fun i => (h i).1, fun i => (h i).2⟩⟩
theorem bt_andn (a b : Int64) (i : Nat) : bt (a &&& (b ^^^ (-1))) i = (bt a i && !bt b i) := by
  have m1 : (-1 : Int64).toBitVec = BitVec.allOnes 64 := by decide +kernel
  show (a &&& (b ^^^ (-1))).toBitVec.getLsbD i = _
  rw [Int64.toBitVec_and, BitVec.getLsbD_and, Int64.toBitVec_xor, BitVec.getLsbD_xor, m1, BitVec.getLsbD_allOnes]
  by_cases h : i < 64
  · rw [decide_eq_true h, Bool.xor_true]
  · have e : a.toBitVec.getLsbD i = false := BitVec.getLsbD_of_ge _ _ (by omega)
    show (a.toBitVec.getLsbD i && _) = (a.toBitVec.getLsbD i && _)
    rw [e]
    rfl
theorem beq_of {a b : Bool} (h : a = true ↔ b = true) : a = b := by
  cases a <;> cases b <;> first | rfl | exact absurd (h.mp rfl) (by decide) | exact absurd (h.mpr rfl) (by decide)
theorem tno_iff (T : List tT) (x : Int64) : tno T x = true ↔ ∀ t ∈ T, ¬ thd t x = true := by
  rw [List.all_eq_true]
  exact ⟨fun h t ht e => by have := h t ht; rw [e] at this; exact absurd this (by decide), fun h t ht => by
    cases e : thd t x with
    | false => rfl
    | true => exact absurd e (h t ht)⟩
theorem tno_wst {C L : List tT} (h : wst C = some L) (hC : ∀ t ∈ C, tok t) (x : Int64) : tno L x = tno C x := by
  unfold wst at h
  split at h
  · have e := Option.some.inj h
    subst e
    apply beq_of
    rw [tno_iff, tno_iff]
    constructor
    · intro H t ht q
      obtain ⟨e, he, hle⟩ := tfl_min ht (hC t ht)
      refine H e ((tso_perm _).mem_iff.mpr he) ((thd_iff e x).mpr (fun i => ?_))
      have hq := (thd_iff t x).mp q i
      have h1 := (ts_sub e.1 t.1).mp hle.1 i
      have h2 := (ts_sub e.2 t.2).mp hle.2 i
      exact ⟨fun u => hq.1 (h1 u), fun u => hq.2 (h2 u)⟩
    · intro H t ht
      exact H t (tfl_mem ((tso_perm _).mem_iff.mp ht)).1
  · exact absurd h (by simp)
theorem bt_tbt {r : Nat} (hr : r < 36) (i : Nat) : bt (tbt r) i = decide (i = r) := by
  apply beq_of
  rw [decide_eq_true_iff]
  exact tbt_get r i hr
theorem tok_iff (t : tT) : tok t ↔ ∀ i : Nat, bt t.1 i = true → bt t.2 i = false := ts_dis t.1 t.2
theorem tfg_tok {b : Int64} {t : tT} (h : tok t) : tok (tfg b t) := by
  rw [tok_iff] at *
  intro i hi
  have hi : bt (t.1 &&& (b ^^^ (-1))) i = true := hi
  rw [bt_andn] at hi
  show bt (t.2 &&& (b ^^^ (-1))) i = false
  rw [bt_andn, h i ((Bool.and_eq_true _ _).mp hi).1]
  rfl
theorem thd_tfg {r : Nat} (hr : r < 36) {t : tT} (ht : tok t) {x : Int64} (hx : bt x r = false) : thd (tfg (tbt r) t) (tbt r ||| x) = (thd t x || thd t (tbt r ||| x)) := by
  have kb : ∀ (a : Int64) (i : Nat), bt (a &&& (tbt r ^^^ (-1))) i = (bt a i && !decide (i = r)) := fun a i => by rw [bt_andn, bt_tbt hr]
  have kx : ∀ i : Nat, bt (tbt r ||| x) i = (decide (i = r) || bt x i) := fun i => by rw [bt_or, bt_tbt hr]
  apply beq_of
  rw [Bool.or_eq_true, thd_iff, thd_iff, thd_iff]
  constructor
  · intro H
    have step : ∀ i : Nat, i ≠ r → (bt t.1 i = true → bt x i = true) ∧ (bt t.2 i = true → bt x i = false) := fun i hi => by
      have h := H i
      have h1 : (bt (t.1 &&& (tbt r ^^^ (-1))) i = true → bt (tbt r ||| x) i = true) ∧ (bt (t.2 &&& (tbt r ^^^ (-1))) i = true → bt (tbt r ||| x) i = false) := h
      rw [kb, kb, kx, decide_eq_false hi, Bool.not_false, Bool.and_true, Bool.and_true, Bool.false_or] at h1
      exact h1
    cases h1 : bt t.1 r with
    | true =>
      have h2 : bt t.2 r = false := (tok_iff t).mp ht r h1
      refine Or.inr (fun i => ?_)
      rw [kx]
      by_cases e : i = r
      · rw [e, decide_eq_true rfl, h2]
        exact ⟨fun _ => rfl, fun u => absurd u (by decide)⟩
      · rw [decide_eq_false e, Bool.false_or]
        exact step i e
    | false =>
      refine Or.inl (fun i => ?_)
      by_cases e : i = r
      · rw [e, h1, hx]
        exact ⟨fun u => absurd u (by decide), fun _ => rfl⟩
      · exact step i e
  · intro H i
    show (bt (t.1 &&& (tbt r ^^^ (-1))) i = true → bt (tbt r ||| x) i = true) ∧ (bt (t.2 &&& (tbt r ^^^ (-1))) i = true → bt (tbt r ||| x) i = false)
    rw [kb, kb, kx]
    by_cases e : i = r
    · rw [decide_eq_true e, Bool.not_true, Bool.and_false, Bool.and_false]
      exact ⟨fun u => absurd u (by decide), fun u => absurd u (by decide)⟩
    · rw [decide_eq_false e, Bool.not_false, Bool.and_true, Bool.and_true, Bool.false_or]
      rcases H with H | H
      · exact H i
      · have := H i
        rw [kx, decide_eq_false e, Bool.false_or] at this
        exact this
theorem tno_tfg {r : Nat} (hr : r < 36) {x : Int64} (hx : bt x r = false) : ∀ (W : List tT), (∀ t ∈ W, tok t) → tno (W.map (tfg (tbt r))) (tbt r ||| x) = (tno W x && tno W (tbt r ||| x))
  | [], _ => rfl
  | t :: W, h => by
    have ih := tno_tfg hr hx W (fun u hu => h u (List.mem_cons_of_mem _ hu))
    have e := thd_tfg hr (h t List.mem_cons_self) hx
    show (!thd (tfg (tbt r) t) (tbt r ||| x) && tno (W.map (tfg (tbt r))) (tbt r ||| x)) = ((!thd t x && tno W x) && (!thd t (tbt r ||| x) && tno W (tbt r ||| x)))
    rw [ih, e]
    cases thd t x <;> cases thd t (tbt r ||| x) <;> cases tno W x <;> cases tno W (tbt r ||| x) <;> rfl
abbrev rem (r : Nat) (E : List Nat) : List Nat := E.filter (fun e => decide (e ≠ r))
theorem or_lc (a b x : Int64) : a ||| (b ||| x) = b ||| (a ||| x) := by
  apply Int64.toBitVec_inj.mp
  rw [Int64.toBitVec_or, Int64.toBitVec_or, Int64.toBitVec_or, Int64.toBitVec_or, ← BitVec.or_assoc, ← BitVec.or_assoc, BitVec.or_comm a.toBitVec]
theorem cE_rem {r : Nat} : ∀ (E : List Nat) (P : Int64 → Bool), r ∈ E → E.Nodup → cE E P = cE (rem r E) P + cE (rem r E) (fun x => P (tbt r ||| x))
  | [], P, h, _ => absurd h (by simp)
  | e :: E, P, h, hn => by
    obtain ⟨hn1, hn2⟩ := List.nodup_cons.mp hn
    by_cases q : e = r
    · have e1 : rem r (e :: E) = E := by
        show (e :: E).filter (fun e => decide (e ≠ r)) = E
        rw [List.filter_cons_of_neg (by rw [q]; simp)]
        refine List.filter_eq_self.mpr (fun u hu => decide_eq_true (fun w => ?_))
        rw [w, ← q] at hu
        exact hn1 hu
      rw [e1, ← q]
      rfl
    · have hr : r ∈ E := by
        rcases List.mem_cons.mp h with u | u
        · exact absurd u.symm q
        · exact u
      have e1 : rem r (e :: E) = e :: rem r E := by
        show (e :: E).filter (fun e => decide (e ≠ r)) = _
        exact List.filter_cons_of_pos (p := fun e => decide (e ≠ r)) (decide_eq_true q)
      rw [e1]
      show cE E P + cE E (fun x => P (tbt e ||| x)) = cE (rem r E) P + cE (rem r E) (fun x => P (tbt e ||| x)) + (cE (rem r E) (fun x => P (tbt r ||| x)) + cE (rem r E) (fun x => P (tbt r ||| (tbt e ||| x))))
      have i1 := cE_rem E P hr hn2
      have i2 := cE_rem E (fun x => P (tbt e ||| x)) hr hn2
      have e2 : (fun x => P (tbt r ||| (tbt e ||| x))) = (fun x => P (tbt e ||| (tbt r ||| x))) := funext (fun x => by rw [or_lc])
      rw [e2]
      have i2 : cE E (fun x => P (tbt e ||| x)) = cE (rem r E) (fun x => P (tbt e ||| x)) + cE (rem r E) (fun x => P (tbt e ||| (tbt r ||| x))) := i2
      omega
theorem rem_no {r : Nat} {E : List Nat} {x : Int64} (hx : ∀ i : Nat, bt x i = true → i ∈ rem r E) : bt x r = false := by
  cases h : bt x r with
  | false => rfl
  | true => exact absurd (decide_eq_true_iff.mp (List.mem_filter.mp (hx r h)).2) (fun u => u rfl)
theorem rem_36 {r : Nat} {E : List Nat} (hE : ∀ e ∈ E, e < 36) : ∀ e ∈ rem r E, e < 36 := fun e he => hE e (List.mem_filter.mp he).1
theorem cab_1 {r : Nat} (hr : r < 36) {E : List Nat} (hrE : r ∈ E) (x : Int64) : cab (tbt r) 0 E x = bt x r := by
  apply beq_of
  unfold cab
  rw [List.all_eq_true]
  constructor
  · intro h
    have := h r hrE
    rw [bt_tbt hr, decide_eq_true rfl] at this
    exact ((Bool.and_eq_true _ _).mp this).1
  · intro h e he
    rw [bt_tbt hr, show bt 0 e = false from bit_0 e]
    by_cases q : e = r
    · rw [q, h]
      simp
    · rw [decide_eq_false q]
      rfl
theorem cab_2 {r : Nat} (hr : r < 36) {E : List Nat} (hrE : r ∈ E) (x : Int64) : cab 0 (tbt r) E x = !bt x r := by
  apply beq_of
  unfold cab
  rw [List.all_eq_true]
  constructor
  · intro h
    have := h r hrE
    rw [bt_tbt hr, decide_eq_true rfl] at this
    exact ((Bool.and_eq_true _ _).mp this).2
  · intro h e he
    rw [bt_tbt hr, show bt 0 e = false from bit_0 e]
    by_cases q : e = r
    · rw [q, h]
      simp
    · rw [decide_eq_false q]
      rfl
theorem cE_1 {r : Nat} (hr : r < 36) {E : List Nat} (hE : ∀ e ∈ E, e < 36) (hrE : r ∈ E) (hn : E.Nodup) (P : Int64 → Bool) : cE E (fun x => cab (tbt r) 0 E x && P x) = cE (rem r E) (fun x => P (tbt r ||| x)) := by
  rw [cE_rem E _ hrE hn]
  have e1 : cE (rem r E) (fun x => cab (tbt r) 0 E x && P x) = cE (rem r E) (fun _ => false) := cE_congr _ _ _ (rem_36 hE) (fun x hx => by
    show (cab (tbt r) 0 E x && P x) = false
    rw [cab_1 hr hrE, rem_no hx]
    rfl)
  have e2 : (fun x => cab (tbt r) 0 E (tbt r ||| x) && P (tbt r ||| x)) = (fun x => P (tbt r ||| x)) := funext (fun x => by
    rw [cab_1 hr hrE, bt_or, bt_tbt hr, decide_eq_true rfl]
    rfl)
  have e2 : cE (rem r E) (fun x => (fun x => cab (tbt r) 0 E x && P x) (tbt r ||| x)) = cE (rem r E) (fun x => P (tbt r ||| x)) := congrArg (cE (rem r E)) e2
  rw [e1, e2, cE_ff, Nat.zero_add]
theorem cE_2 {r : Nat} (hr : r < 36) {E : List Nat} (hE : ∀ e ∈ E, e < 36) (hrE : r ∈ E) (hn : E.Nodup) (P : Int64 → Bool) : cE E (fun x => cab 0 (tbt r) E x && P x) = cE (rem r E) P := by
  rw [cE_rem E _ hrE hn]
  have e1 : cE (rem r E) (fun x => cab 0 (tbt r) E x && P x) = cE (rem r E) P := cE_congr _ _ _ (rem_36 hE) (fun x hx => by
    show (cab 0 (tbt r) E x && P x) = P x
    rw [cab_2 hr hrE, rem_no hx]
    rfl)
  have e2 : cE (rem r E) (fun x => (fun x => cab 0 (tbt r) E x && P x) (tbt r ||| x)) = cE (rem r E) (fun _ => false) := congrArg (cE (rem r E)) (funext (fun x => by
    show (cab 0 (tbt r) E (tbt r ||| x) && P (tbt r ||| x)) = false
    rw [cab_2 hr hrE, bt_or, bt_tbt hr, decide_eq_true rfl]
    rfl))
  rw [e1, e2, cE_ff, Nat.add_zero]
theorem bt_ext {x y : Int64} (h : ∀ i : Nat, bt x i = bt y i) : x = y := Int64.toBitVec_inj.mp (BitVec.eq_of_getLsbD_eq (fun i _ => h i))
/-- how the model looks -/
def mma (W : List tT) (b : Int64) (E : List Nat) : Nat → Nat → Int32
  | 0, _ => nI 0
  | m + 1, s => if (wfh (rsn E s &&& (b ^^^ (-1))) W 0 = -1 ↔ wfh (rsn E s ||| b) W 0 = -1) then mma W b E m (s + 1) else nI 1
abbrev mdf (W : List tT) (b : Int64) (x : Int64) : Bool := tno W (x &&& (b ^^^ (-1))) != tno W (x ||| b)
theorem cn_mono (f : Nat → Bool) (p : Nat) : ∀ q : Nat, cn f p ≤ cn f (p + q)
  | 0 => Nat.le_refl _
  | q + 1 => by
    refine Nat.le_trans (cn_mono f p q) ?_
    show cn f (p + q) ≤ cn f (p + q) + _
    omega
theorem mma_cn {W : List tT} {b : Int64} {E : List Nat} (hW : W.length < 2147483648) : ∀ (m s : Nat), mma W b E m s = if cn (fun u => mdf W b (rsn E u)) (s + m) = cn (fun u => mdf W b (rsn E u)) s then nI 0 else nI 1
  | 0, s => by rw [Nat.add_zero, if_pos rfl]; rfl
  | m + 1, s => by
    have e1 := wfh_no (rsn E s &&& (b ^^^ (-1))) W 0 (by omega)
    have e2 := wfh_no (rsn E s ||| b) W 0 (by omega)
    have mono := cn_mono (fun u => mdf W b (rsn E u)) (s + 1) m
    have st : cn (fun u => mdf W b (rsn E u)) (s + 1) = cn (fun u => mdf W b (rsn E u)) s + (if mdf W b (rsn E s) then 1 else 0) := rfl
    rw [show s + (m + 1) = s + 1 + m by omega]
    show (if (wfh (rsn E s &&& (b ^^^ (-1))) W 0 = -1 ↔ wfh (rsn E s ||| b) W 0 = -1) then mma W b E m (s + 1) else nI 1) = _
    by_cases q : (wfh (rsn E s &&& (b ^^^ (-1))) W 0 = -1 ↔ wfh (rsn E s ||| b) W 0 = -1)
    · have d : mdf W b (rsn E s) = false := by
        show (tno W (rsn E s &&& (b ^^^ (-1))) != tno W (rsn E s ||| b)) = false
        rw [← e1, ← e2]
        by_cases q2 : wfh (rsn E s ||| b) W 0 = -1
        · rw [decide_eq_true q2, decide_eq_true (q.mpr q2)]
          rfl
        · rw [decide_eq_false q2, decide_eq_false (fun u => q2 (q.mp u))]
          rfl
      rw [d] at st
      have st : cn (fun u => mdf W b (rsn E u)) (s + 1) = cn (fun u => mdf W b (rsn E u)) s := st
      rw [if_pos q, mma_cn hW m (s + 1), st]
    · have d : mdf W b (rsn E s) = true := by
        show (tno W (rsn E s &&& (b ^^^ (-1))) != tno W (rsn E s ||| b)) = true
        rw [← e1, ← e2]
        by_cases q2 : wfh (rsn E s ||| b) W 0 = -1
        · by_cases q3 : wfh (rsn E s &&& (b ^^^ (-1))) W 0 = -1
          · exact absurd ⟨fun _ => q2, fun _ => q3⟩ q
          · rw [decide_eq_true q2, decide_eq_false q3]
            rfl
        · by_cases q3 : wfh (rsn E s &&& (b ^^^ (-1))) W 0 = -1
          · rw [decide_eq_false q2, decide_eq_true q3]
            rfl
          · exact absurd ⟨fun u => absurd u q3, fun u => absurd u q2⟩ q
      rw [d] at st
      have st : cn (fun u => mdf W b (rsn E u)) (s + 1) = cn (fun u => mdf W b (rsn E u)) s + 1 := st
      rw [if_neg q, if_neg (by omega)]
theorem rin_36 {all : Int64} {rc : Nat} (h36 : rc ≤ 36) : ∀ e ∈ rin all rc, e < 36 := fun e he => by
  have := List.mem_range.mp (List.mem_filter.mp he).1
  omega
theorem rin_nd (all : Int64) (rc : Nat) : (rin all rc).Nodup := List.Pairwise.filter _ List.nodup_range
/-- what the class says, of counts -/
theorem seen_cnt {all : Int64} {rc r : Nat} {W L : List tT} (h36 : rc ≤ 36) (n16 : (rin all rc).length ≤ 16) (hr : r < 36) (hrE : r ∈ rin all rc) (hW : ∀ t ∈ W, bin t.1 (rin all rc) ∧ bin t.2 (rin all rc)) (hk : ∀ t ∈ W, tok t) (hL : wst (W.map (tfg (tbt r))) = some L) : (swn (nI (rin all rc).length) W (tbt r) 0 = swn (nI (rin all rc).length) L (tbt r) 0 ∧ swn (nI (rin all rc).length) W 0 (tbt r) = swn (nI (rin all rc).length) L (tbt r) 0) ↔ cE (rin all rc) (fun x => mdf W (tbt r) x) = 0 := by
  have hE := rin_36 (all := all) h36
  have hn := rin_nd all rc
  have z0 : bin 0 (rin all rc) := fun i hi => by
    rw [show bt 0 i = false from bit_0 i] at hi
    exact absurd hi (by decide)
  have zr : bin (tbt r) (rin all rc) := fun i hi => by
    rw [(tbt_get r i hr).mp hi]
    exact hrE
  have hLb : ∀ t ∈ L, bin t.1 (rin all rc) ∧ bin t.2 (rin all rc) := by
    have hC : tbs (fun t => bin t.1 (rin all rc) ∧ bin t.2 (rin all rc)) (W.map (tfg (tbt r))) := fun t ht => by
      obtain ⟨u, hu, rfl⟩ := List.mem_map.mp ht
      obtain ⟨h1, h2⟩ := hW u hu
      exact ⟨fun i hi => by
        have hi : bt (u.1 &&& (tbt r ^^^ (-1))) i = true := hi
        rw [bt_andn] at hi
        exact h1 i ((Bool.and_eq_true _ _).mp hi).1, fun i hi => by
        have hi : bt (u.2 &&& (tbt r ^^^ (-1))) i = true := hi
        rw [bt_andn] at hi
        exact h2 i ((Bool.and_eq_true _ _).mp hi).1⟩
    exact wst_B (B := fun t => bin t.1 (rin all rc) ∧ bin t.2 (rin all rc)) hL hC
  have d1 : tbt r &&& 0 = 0 := (ts_dis _ _).mpr (fun i _ => bit_0 i)
  have d2 : (0 : Int64) &&& tbt r = 0 := (ts_dis _ _).mpr (fun i hi => by rw [show bt 0 i = false from bit_0 i] at hi; exact absurd hi (by decide))
  rw [swn_cE h36 n16 W _ _ hW zr z0 d1, swn_cE h36 n16 L _ _ hLb zr z0 d1, swn_cE h36 n16 W _ _ hW z0 zr d2, cE_1 hr hE hrE hn, cE_1 hr hE hrE hn, cE_2 hr hE hrE hn]
  have eb : cE (rem r (rin all rc)) (fun x => tno L (tbt r ||| x)) = cE (rem r (rin all rc)) (fun x => tno W x && tno W (tbt r ||| x)) := cE_congr _ _ _ (rem_36 hE) (fun x hx => by
    show tno L (tbt r ||| x) = _
    rw [tno_wst hL (fun t ht => by
      obtain ⟨u, hu, rfl⟩ := List.mem_map.mp ht
      exact tfg_tok (hk u hu)), tno_tfg hr (rem_no hx) W hk])
  have ed : cE (rin all rc) (fun x => mdf W (tbt r) x) = cE (rem r (rin all rc)) (fun x => tno W x != tno W (tbt r ||| x)) + cE (rem r (rin all rc)) (fun x => tno W x != tno W (tbt r ||| x)) := by
    rw [cE_rem _ _ hrE hn]
    have k1 : ∀ x : Int64, bt x r = false → x &&& (tbt r ^^^ (-1)) = x := fun x hx => bt_ext (fun i => by
      rw [bt_andn, bt_tbt hr]
      by_cases e : i = r
      · rw [e, hx]
        rfl
      · rw [decide_eq_false e, Bool.not_false, Bool.and_true])
    have k2 : ∀ x : Int64, bt x r = false → (tbt r ||| x) &&& (tbt r ^^^ (-1)) = x := fun x hx => bt_ext (fun i => by
      rw [bt_andn, bt_or, bt_tbt hr]
      by_cases e : i = r
      · rw [e, hx, decide_eq_true rfl]
        rfl
      · rw [decide_eq_false e, Bool.not_false, Bool.and_true, Bool.false_or])
    have k3 : ∀ x : Int64, x ||| tbt r = tbt r ||| x := fun x => bt_ext (fun i => by rw [bt_or, bt_or, Bool.or_comm])
    have k4 : ∀ x : Int64, (tbt r ||| x) ||| tbt r = tbt r ||| x := fun x => bt_ext (fun i => by
      rw [bt_or, bt_or]
      cases bt (tbt r) i <;> cases bt x i <;> rfl)
    have c1 : cE (rem r (rin all rc)) (fun x => mdf W (tbt r) x) = cE (rem r (rin all rc)) (fun x => tno W x != tno W (tbt r ||| x)) := cE_congr _ _ _ (rem_36 hE) (fun x hx => by
      show (tno W (x &&& (tbt r ^^^ (-1))) != tno W (x ||| tbt r)) = _
      rw [k1 x (rem_no hx), k3])
    have c2 : cE (rem r (rin all rc)) (fun x => mdf W (tbt r) (tbt r ||| x)) = cE (rem r (rin all rc)) (fun x => tno W x != tno W (tbt r ||| x)) := cE_congr _ _ _ (rem_36 hE) (fun x hx => by
      show (tno W ((tbt r ||| x) &&& (tbt r ^^^ (-1))) != tno W ((tbt r ||| x) ||| tbt r)) = _
      rw [k2 x (rem_no hx), k4])
    exact congr (congrArg HAdd.hAdd c1) c2
  rw [eb, ed]
  have s1 := cE_split (rem r (rin all rc)) (fun x => tno W (tbt r ||| x)) (fun x => tno W x)
  have s0 := cE_split (rem r (rin all rc)) (fun x => tno W x) (fun x => tno W (tbt r ||| x))
  have sq := cE_split (rem r (rin all rc)) (fun x => tno W x != tno W (tbt r ||| x)) (fun x => tno W (tbt r ||| x))
  have f1 : (fun x => tno W (tbt r ||| x) && tno W x) = (fun x => tno W x && tno W (tbt r ||| x)) := funext (fun x => Bool.and_comm _ _)
  have f2 : (fun x => (tno W x != tno W (tbt r ||| x)) && tno W (tbt r ||| x)) = (fun x => tno W (tbt r ||| x) && !tno W x) := funext (fun x => by cases tno W x <;> cases tno W (tbt r ||| x) <;> rfl)
  have f3 : (fun x => (tno W x != tno W (tbt r ||| x)) && !tno W (tbt r ||| x)) = (fun x => tno W x && !tno W (tbt r ||| x)) := funext (fun x => by cases tno W x <;> cases tno W (tbt r ||| x) <;> rfl)
  rw [f1] at s1
  rw [f2, f3] at sq
  have p16 : 2 ^ (rem r (rin all rc)).length ≤ 2 ^ 16 := Nat.pow_le_pow_right (by decide) (Nat.le_trans (List.length_filter_le _ _) n16)
  have b1 := cE_le (rem r (rin all rc)) (fun x => tno W (tbt r ||| x))
  have b0 := cE_le (rem r (rin all rc)) (fun x => tno W x)
  have et : cE (rem r (rin all rc)) (tno W) = cE (rem r (rin all rc)) (fun x => tno W x) := rfl
  constructor
  · rintro ⟨h1, h2⟩
    have h1 := nI_inj2 (by omega) (by omega) h1
    have h2 := nI_inj2 (by omega) (by omega) h2
    omega
  · intro h
    exact ⟨congrArg nI (by omega), congrArg nI (by omega)⟩
/-- a ROW of no TERM -/
theorem mdf_no {all : Int64} {rc r : Nat} {W : List tT} (h36 : rc ≤ 36) (hr : r < 36) (hrE : r ∉ rin all rc) (hW : ∀ t ∈ W, bin t.1 (rin all rc) ∧ bin t.2 (rin all rc)) : cE (rin all rc) (fun x => mdf W (tbt r) x) = 0 := by
  have e : cE (rin all rc) (fun x => mdf W (tbt r) x) = cE (rin all rc) (fun _ => false) := cE_congr _ _ _ (rin_36 h36) (fun x hx => by
    have key : ∀ t ∈ W, thd t (x &&& (tbt r ^^^ (-1))) = thd t (x ||| tbt r) := fun t ht => by
      obtain ⟨h1, h2⟩ := hW t ht
      apply beq_of
      rw [thd_iff, thd_iff]
      have same : ∀ i : Nat, i ∈ rin all rc → bt (x &&& (tbt r ^^^ (-1))) i = bt x i ∧ bt (x ||| tbt r) i = bt x i := fun i hi => by
        have ne : i ≠ r := fun u => hrE (u ▸ hi)
        rw [bt_andn, bt_or, bt_tbt hr, decide_eq_false ne]
        exact ⟨by rw [Bool.not_false, Bool.and_true], Bool.or_false _⟩
      constructor
      · intro H i
        exact ⟨fun u => by rw [(same i (h1 i u)).2, ← (same i (h1 i u)).1]; exact (H i).1 u, fun u => by rw [(same i (h2 i u)).2, ← (same i (h2 i u)).1]; exact (H i).2 u⟩
      · intro H i
        exact ⟨fun u => by rw [(same i (h1 i u)).1, ← (same i (h1 i u)).2]; exact (H i).1 u, fun u => by rw [(same i (h2 i u)).1, ← (same i (h2 i u)).2]; exact (H i).2 u⟩
    have k2 : tno W (x &&& (tbt r ^^^ (-1))) = tno W (x ||| tbt r) := by
      apply beq_of
      rw [tno_iff, tno_iff]
      exact ⟨fun H t ht => by rw [← key t ht]; exact H t ht, fun H t ht => by rw [key t ht]; exact H t ht⟩
    show (tno W (x &&& (tbt r ^^^ (-1))) != tno W (x ||| tbt r)) = false
    rw [k2]
    cases tno W (x ||| tbt r) <;> rfl)
  rw [e, cE_ff]
theorem mma_cE {W : List tT} {b : Int64} {E : List Nat} (hW : W.length < 2147483648) : mma W b E (2 ^ E.length) 0 = if cE E (fun x => mdf W b x) = 0 then nI 0 else nI 1 := by
  rw [mma_cn hW, Nat.zero_add, cn_cE E (fun x => mdf W b x)]
  rfl
