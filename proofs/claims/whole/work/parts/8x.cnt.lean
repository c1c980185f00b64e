/-! counting -/
abbrev bt (x : Int64) (i : Nat) : Bool := x.toBitVec.getLsbD i
theorem bt_or (x y : Int64) (i : Nat) : bt (x ||| y) i = (bt x i || bt y i) := ts_or x y i
/-- how many of the first m numbers -/
def cn (f : Nat → Bool) : Nat → Nat
  | 0 => 0
  | m + 1 => cn f m + (if f m then 1 else 0)
theorem cn_2 (f : Nat → Bool) : ∀ m : Nat, cn f (2 * m) = cn (fun s => f (2 * s)) m + cn (fun s => f (2 * s + 1)) m
  | 0 => rfl
  | m + 1 => by
    show cn f (2 * m) + (if f (2 * m) then 1 else 0) + (if f (2 * m + 1) then 1 else 0) = cn (fun s => f (2 * s)) m + (if f (2 * m) then 1 else 0) + (cn (fun s => f (2 * s + 1)) m + (if f (2 * m + 1) then 1 else 0))
    rw [cn_2 f m]
    omega
theorem cn_le (f : Nat → Bool) : ∀ m : Nat, cn f m ≤ m
  | 0 => Nat.le_refl _
  | m + 1 => by
    have := cn_le f m
    show cn f m + (if f m then 1 else 0) ≤ m + 1
    split <;> omega
/-- the set of number s -/
def rsn : List Nat → Nat → Int64
  | [], _ => 0
  | e :: E, s => (if s % 2 = 1 then tbt e else 0) ||| rsn E (s / 2)
/-- how many sets -/
def cE : List Nat → (Int64 → Bool) → Nat
  | [], P => if P 0 then 1 else 0
  | e :: E, P => cE E P + cE E (fun x => P (tbt e ||| x))
theorem or_0 (x : Int64) : (0 : Int64) ||| x = x := by
  apply Int64.toBitVec_inj.mp
  rw [Int64.toBitVec_or]
  exact BitVec.zero_or
theorem cn_cE : ∀ (E : List Nat) (P : Int64 → Bool), cn (fun s => P (rsn E s)) (2 ^ E.length) = cE E P
  | [], P => by
    show 0 + (if P (rsn [] 0) then 1 else 0) = (if P 0 then 1 else 0)
    rw [Nat.zero_add]
    rfl
  | e :: E, P => by
    show cn (fun s => P (rsn (e :: E) s)) (2 ^ (E.length + 1)) = _
    rw [Nat.pow_succ, Nat.mul_comm, cn_2]
    have e0 : (fun s => P (rsn (e :: E) (2 * s))) = (fun s => P (rsn E s)) := funext (fun s => by
      show P ((if 2 * s % 2 = 1 then tbt e else 0) ||| rsn E (2 * s / 2)) = _
      rw [if_neg (by omega), or_0, show 2 * s / 2 = s by omega])
    have e1 : (fun s => P (rsn (e :: E) (2 * s + 1))) = (fun s => (fun x => P (tbt e ||| x)) (rsn E s)) := funext (fun s => by
      show P ((if (2 * s + 1) % 2 = 1 then tbt e else 0) ||| rsn E ((2 * s + 1) / 2)) = P (tbt e ||| rsn E s)
      rw [if_pos (by omega), show (2 * s + 1) / 2 = s by omega])
    rw [e0, e1, cn_cE E P, cn_cE E (fun x => P (tbt e ||| x))]
    rfl
theorem cE_le : ∀ (E : List Nat) (P : Int64 → Bool), cE E P ≤ 2 ^ E.length
  | [], P => by
    show (if P 0 then 1 else 0) ≤ 1
    split <;> omega
  | e :: E, P => by
    have h1 := cE_le E P
    have h2 := cE_le E (fun x => P (tbt e ||| x))
    show cE E P + cE E (fun x => P (tbt e ||| x)) ≤ 2 ^ (E.length + 1)
    rw [Nat.pow_succ]
    omega
theorem cE_congr : ∀ (E : List Nat) (P Q : Int64 → Bool), (∀ e ∈ E, e < 36) → (∀ x : Int64, (∀ i : Nat, bt x i = true → i ∈ E) → P x = Q x) → cE E P = cE E Q
  | [], P, Q, _, h => by
    show (if P 0 then 1 else 0) = (if Q 0 then 1 else 0)
    rw [h 0 (fun i hi => by rw [show bt 0 i = false from bit_0 i] at hi; exact absurd hi (by decide))]
  | e :: E, P, Q, hE, h => by
    have hE2 : ∀ e ∈ E, e < 36 := fun x hx => hE x (List.mem_cons_of_mem _ hx)
    show cE E P + cE E (fun x => P (tbt e ||| x)) = cE E Q + cE E (fun x => Q (tbt e ||| x))
    rw [cE_congr E P Q hE2 (fun x hx => h x (fun i hi => List.mem_cons_of_mem _ (hx i hi))), cE_congr E (fun x => P (tbt e ||| x)) (fun x => Q (tbt e ||| x)) hE2 (fun x hx => h _ (fun i hi => by
      rw [bt_or] at hi
      rcases (Bool.or_eq_true _ _).mp hi with hi | hi
      · rw [(tbt_get e i (hE e List.mem_cons_self)).mp hi]
        exact List.mem_cons_self
      · exact List.mem_cons_of_mem _ (hx i hi)))]
theorem cE_split : ∀ (E : List Nat) (P Q : Int64 → Bool), cE E P = cE E (fun x => P x && Q x) + cE E (fun x => P x && !Q x)
  | [], P, Q => by
    show (if P 0 then 1 else 0) = (if P 0 && Q 0 then 1 else 0) + (if P 0 && !Q 0 then 1 else 0)
    cases P 0 <;> cases Q 0 <;> rfl
  | e :: E, P, Q => by
    have h1 := cE_split E P Q
    have h2 := cE_split E (fun x => P (tbt e ||| x)) (fun x => Q (tbt e ||| x))
    show cE E P + cE E (fun x => P (tbt e ||| x)) = cE E (fun x => P x && Q x) + cE E (fun x => P (tbt e ||| x) && Q (tbt e ||| x)) + (cE E (fun x => P x && !Q x) + cE E (fun x => P (tbt e ||| x) && !Q (tbt e ||| x)))
    omega
theorem cE_ff : ∀ (E : List Nat), cE E (fun _ => false) = 0
  | [] => rfl
  | e :: E => by
    show cE E (fun _ => false) + cE E (fun _ => false) = 0
    rw [cE_ff E]
theorem cE_tt : ∀ (E : List Nat), cE E (fun _ => true) = 2 ^ E.length
  | [] => rfl
  | e :: E => by
    show cE E (fun _ => true) + cE E (fun _ => true) = 2 ^ (E.length + 1)
    rw [cE_tt E, Nat.pow_succ]
    omega
/-- all of a, nothing of b, as far as E goes -/
def cab (a b : Int64) (E : List Nat) (x : Int64) : Bool := E.all (fun e => (!bt a e || bt x e) && (!bt b e || !bt x e))
theorem all_congr {E : List Nat} {f g : Nat → Bool} (h : ∀ e ∈ E, f e = g e) : E.all f = E.all g := by
  induction E with
  | nil => rfl
  | cons e E ih => rw [List.all_cons, List.all_cons, h e List.mem_cons_self, ih (fun x hx => h x (List.mem_cons_of_mem _ hx))]
theorem cE_ab : ∀ (E : List Nat) (a b : Int64), (∀ e ∈ E, e < 36) → E.Nodup → (∀ e ∈ E, ¬ (bt a e = true ∧ bt b e = true)) → cE E (cab a b E) * 2 ^ E.countP (fun e => bt a e || bt b e) = 2 ^ E.length
  | [], a, b, _, _, _ => rfl
  | e :: E, a, b, hE, hn, hd => by
    have hE2 : ∀ e ∈ E, e < 36 := fun x hx => hE x (List.mem_cons_of_mem _ hx)
    have he := hE e List.mem_cons_self
    have hne : e ∉ E := (List.nodup_cons.mp hn).1
    have ih := cE_ab E a b hE2 (List.nodup_cons.mp hn).2 (fun x hx => hd x (List.mem_cons_of_mem _ hx))
    have hde := hd e List.mem_cons_self
    have p1 : cE E (cab a b (e :: E)) = cE E (fun x => !bt a e && cab a b E x) := cE_congr E _ _ hE2 (fun x hx => by
      have h0 : bt x e = false := by
        cases h : bt x e with
        | false => rfl
        | true => exact absurd (hx e h) hne
      show (((!bt a e || bt x e) && (!bt b e || !bt x e)) && cab a b E x) = _
      rw [h0]
      cases bt a e <;> cases bt b e <;> rfl)
    have p2 : cE E (fun x => cab a b (e :: E) (tbt e ||| x)) = cE E (fun x => !bt b e && cab a b E x) := cE_congr E _ _ hE2 (fun x hx => by
      have h1 : bt (tbt e ||| x) e = true := by
        rw [bt_or, show bt (tbt e) e = true from (tbt_get e e he).mpr rfl]
        rfl
      have h2 : cab a b E (tbt e ||| x) = cab a b E x := all_congr (fun u hu => by
        have h3 : bt (tbt e ||| x) u = bt x u := by
          rw [bt_or]
          cases h : bt (tbt e) u with
          | false => rfl
          | true =>
            have := (tbt_get e u he).mp h
            rw [this] at hu
            exact absurd hu hne
        rw [h3])
      show (((!bt a e || bt (tbt e ||| x) e) && (!bt b e || !bt (tbt e ||| x) e)) && cab a b E (tbt e ||| x)) = _
      rw [h1, h2]
      cases bt a e <;> cases bt b e <;> rfl)
    show (cE E (cab a b (e :: E)) + cE E (fun x => cab a b (e :: E) (tbt e ||| x))) * _ = 2 ^ (E.length + 1)
    rw [p1, p2, List.countP_cons]
    cases ha : bt a e with
    | false =>
      cases hb : bt b e with
      | false =>
        show (cE E (fun x => true && cab a b E x) + cE E (fun x => true && cab a b E x)) * 2 ^ (E.countP (fun e => bt a e || bt b e) + 0) = _
        rw [show (fun x => true && cab a b E x) = cab a b E from funext (fun x => Bool.true_and _), Nat.add_zero, Nat.pow_succ, ← ih, Nat.add_mul]
        omega
      | true =>
        show (cE E (fun x => true && cab a b E x) + cE E (fun x => false && cab a b E x)) * 2 ^ (E.countP (fun e => bt a e || bt b e) + 1) = _
        rw [show (fun x => true && cab a b E x) = cab a b E from funext (fun x => Bool.true_and _), show (fun x => false && cab a b E x) = (fun _ => false) from funext (fun x => Bool.false_and _), cE_ff, Nat.add_zero, Nat.pow_succ, Nat.pow_succ, ← Nat.mul_assoc, ih]
    | true =>
      cases hb : bt b e with
      | false =>
        show (cE E (fun x => false && cab a b E x) + cE E (fun x => true && cab a b E x)) * 2 ^ (E.countP (fun e => bt a e || bt b e) + 1) = _
        rw [show (fun x => true && cab a b E x) = cab a b E from funext (fun x => Bool.true_and _), show (fun x => false && cab a b E x) = (fun _ => false) from funext (fun x => Bool.false_and _), cE_ff, Nat.zero_add, Nat.pow_succ, Nat.pow_succ, ← Nat.mul_assoc, ih]
      | true => exact absurd ⟨ha, hb⟩ hde
/-- bits that lie in E -/
abbrev bin (x : Int64) (E : List Nat) : Prop := ∀ i : Nat, bt x i = true → i ∈ E
theorem ts_dis (x y : Int64) : (x &&& y = 0) ↔ ∀ i : Nat, bt x i = true → bt y i = false := by
  constructor
  · intro h i hx
    have e : bt (x &&& y) i = false := by
      rw [h]
      exact bit_0 i
    have e2 : (bt x i && bt y i) = false := by
      rw [← e]
      show _ = (x &&& y).toBitVec.getLsbD i
      rw [Int64.toBitVec_and, BitVec.getLsbD_and]
    rw [hx] at e2
    exact e2
  · intro h
    refine Int64.toBitVec_inj.mp (BitVec.eq_of_getLsbD_eq (fun i hi => ?_))
    rw [Int64.toBitVec_and, BitVec.getLsbD_and, bit_0]
    cases hx : x.toBitVec.getLsbD i with
    | false => rfl
    | true => exact h i hx
/-- a TERM holds -/
abbrev thd (t : tT) (x : Int64) : Bool := decide (t.1 &&& (x ^^^ (-1)) = 0 ∧ t.2 &&& x = 0)
theorem thd_cab {t : tT} {x : Int64} {E : List Nat} (h1 : bin t.1 E) (h2 : bin t.2 E) : thd t x = cab t.1 t.2 E x := by
  have key : thd t x = true ↔ cab t.1 t.2 E x = true := by
    unfold cab
    rw [decide_eq_true_iff, List.all_eq_true, ts_sub, ts_dis]
    constructor
    · intro h e he
      cases ha : bt t.1 e with
      | false =>
        cases hb : bt t.2 e with
        | false => rfl
        | true => rw [h.2 e hb]; rfl
      | true =>
        rw [show bt x e = true from h.1 e ha]
        cases hb : bt t.2 e with
        | false => rfl
        | true => exact absurd ((h.2 e hb).symm.trans (h.1 e ha)) (by decide)
    · intro h
      constructor
      · intro i hi
        have := h i (h1 i hi)
        rw [show bt t.1 i = true from hi] at this
        exact ((Bool.and_eq_true _ _).mp this).1
      · intro i hi
        have := ((Bool.and_eq_true _ _).mp (h i (h2 i hi))).2
        rw [show bt t.2 i = true from hi] at this
        cases hx : bt x i with
        | false => rfl
        | true =>
          rw [hx] at this
          exact absurd this (by decide)
  cases h : thd t x with
  | true => exact (key.mp h).symm
  | false =>
    cases h9 : cab t.1 t.2 E x with
    | false => rfl
    | true => exact absurd (h.symm.trans (key.mpr h9)) (by decide)
theorem cab_or {a b : Int64} {t : tT} {E : List Nat} {x : Int64} : (cab a b E x && cab t.1 t.2 E x) = cab (a ||| t.1) (b ||| t.2) E x := by
  unfold cab
  induction E with
  | nil => rfl
  | cons e E ih =>
    rw [List.all_cons, List.all_cons, List.all_cons, ← ih, bt_or, bt_or]
    cases bt a e <;> cases bt b e <;> cases bt t.1 e <;> cases bt t.2 e <;> cases bt x e <;> cases (E.all fun e => (!bt a e || bt x e) && (!bt b e || !bt x e)) <;> cases (E.all fun e => (!bt t.1 e || bt x e) && (!bt t.2 e || !bt x e)) <;> rfl
theorem cab_no {a b : Int64} {E : List Nat} (ha : bin a E) (h : ¬ a &&& b = 0) (x : Int64) : cab a b E x = false := by
  rw [ts_dis] at h
  cases hc : cab a b E x with
  | false => rfl
  | true =>
    refine absurd (fun i hi => ?_) h
    have := (List.all_eq_true.mp hc) i (ha i hi)
    rw [show bt a i = true from hi] at this
    cases hb : bt b i with
    | false => rfl
    | true =>
      rw [hb] at this
      cases hx : bt x i <;> rw [hx] at this <;> exact absurd this (by decide)
/-- none of the TERMS holds -/
abbrev tno (T : List tT) (x : Int64) : Bool := T.all (fun t => !thd t x)
theorem nI_sub {a b : Nat} (h : b ≤ a) : nI a - nI b = nI (a - b) := by
  have e : nI a = nI (a - b) + nI b := by rw [nI_add, Nat.sub_add_cancel h]
  rw [e, Int32.add_sub_cancel]
theorem shl_k : ∀ k : Nat, k < 17 → nI 1 <<< (nI k &&& 31) = nI (2 ^ k) := by decide +kernel
/-- by inclusion and exclusion: how many sets have all of a, nothing of b, and hold none -/
def swn (rows : Int32) : List tT → Int64 → Int64 → Int32
  | [], a, b => nI 1 <<< ((rows - jd_bcL (a ||| b)) &&& 31)
  | t :: T, a, b => if (a ||| t.1) &&& (b ||| t.2) = 0 then swn rows T a b - swn rows T (a ||| t.1) (b ||| t.2) else swn rows T a b
theorem pcn_bits : ∀ (n v : Nat), pcn n v = (List.range n).countP (fun i => decide (v / 2 ^ i % 2 = 1))
  | 0, v => rfl
  | n + 1, v => by
    rw [List.range_succ_eq_map, List.countP_cons, List.countP_map]
    show v % 2 + pcn n (v / 2) = _
    rw [pcn_bits n (v / 2), Nat.pow_zero, Nat.div_one, Nat.add_comm]
    congr 1
    · congr 1
      funext i
      show decide (v / 2 / 2 ^ i % 2 = 1) = decide (v / 2 ^ (i + 1) % 2 = 1)
      rw [Nat.pow_succ, Nat.mul_comm, ← Nat.div_div_eq_div_mul]
    · by_cases h : v % 2 = 1
      · rw [h]; rfl
      · rw [show v % 2 = 0 by omega]; rfl
theorem bt_nat (x : Int64) (i : Nat) : bt x i = decide (l64 x / 2 ^ i % 2 = 1) := by
  show x.toBitVec.getLsbD i = _
  rw [BitVec.getLsbD, Nat.testBit_eq_decide_div_mod_eq]
theorem l64_lt {x : Int64} {rc : Nat} (h36 : rc ≤ 64) (h : ∀ i : Nat, bt x i = true → i < rc) : l64 x < 2 ^ rc := by
  apply Nat.lt_pow_two_of_testBit
  intro i hi
  cases hb : (l64 x).testBit i with
  | false => rfl
  | true => exact absurd (h i hb) (by omega)
/-- the ROWS of all, in order -/
abbrev rin (all : Int64) (rc : Nat) : List Nat := (List.range rc).filter (fun i => bt all i)
theorem bc_cnt {all x : Int64} {rc : Nat} (h36 : rc ≤ 36) (hx : ∀ i : Nat, bt x i = true → bt all i = true ∧ i < rc) : jd_bcL x = nI ((rin all rc).countP (fun i => bt x i)) := by
  have hl : l64 x < 2 ^ rc := l64_lt (by omega) (fun i hi => (hx i hi).2)
  have hl36 : l64 x < 2 ^ 36 := Nat.lt_of_lt_of_le hl (Nat.pow_le_pow_right (by decide) h36)
  rw [bc_pcn hl36]
  have e := pcn_hi rc (36 - rc) (l64 x) hl
  rw [show rc + (36 - rc) = 36 by omega] at e
  rw [e, pcn_bits, List.countP_filter]
  refine congrArg nI (congrArg (fun p => List.countP p (List.range rc)) (funext (fun i => (bt_nat x i).symm.trans ?_)))
  cases h : bt x i with
  | false => rfl
  | true => rw [(hx i h).1]; rfl
theorem swn_cE {all : Int64} {rc : Nat} (h36 : rc ≤ 36) (n16 : (rin all rc).length ≤ 16) : ∀ (T : List tT) (a b : Int64), (∀ t ∈ T, bin t.1 (rin all rc) ∧ bin t.2 (rin all rc)) → bin a (rin all rc) → bin b (rin all rc) → a &&& b = 0 → swn (nI (rin all rc).length) T a b = nI (cE (rin all rc) (fun x => cab a b (rin all rc) x && tno T x))
  | [], a, b, hT, ha, hb, hab => by
    have hE : ∀ e ∈ rin all rc, e < 36 := fun e he => by
      have := List.mem_range.mp (List.mem_filter.mp he).1
      omega
    have hnd : (rin all rc).Nodup := List.Pairwise.filter _ List.nodup_range
    have hor : ∀ i : Nat, bt (a ||| b) i = true → bt all i = true ∧ i < rc := fun i hi => by
      rw [bt_or] at hi
      rcases (Bool.or_eq_true _ _).mp hi with hi | hi
      · have := List.mem_filter.mp (ha i hi)
        exact ⟨this.2, List.mem_range.mp this.1⟩
      · have := List.mem_filter.mp (hb i hi)
        exact ⟨this.2, List.mem_range.mp this.1⟩
    have e1 : (fun x => cab a b (rin all rc) x && tno [] x) = cab a b (rin all rc) := funext (fun x => Bool.and_true _)
    have e2 := cE_ab (rin all rc) a b hE hnd (fun e he => fun q => by
      have := (ts_dis a b).mp hab e q.1
      rw [this] at q
      exact absurd q.2 (by decide))
    have e3 : (fun e => bt a e || bt b e) = (fun e => bt (a ||| b) e) := funext (fun e => (bt_or a b e).symm)
    rw [e3] at e2
    show nI 1 <<< ((nI (rin all rc).length - jd_bcL (a ||| b)) &&& 31) = _
    have cl : (rin all rc).countP (fun e => bt (a ||| b) e) ≤ (rin all rc).length := List.countP_le_length
    rw [bc_cnt h36 hor, nI_sub cl, shl_k _ (by omega), e1]
    refine congrArg nI ?_
    have e4 : 2 ^ ((rin all rc).length - (rin all rc).countP (fun e => bt (a ||| b) e)) * 2 ^ (rin all rc).countP (fun e => bt (a ||| b) e) = 2 ^ (rin all rc).length := by
      rw [← Nat.pow_add, Nat.sub_add_cancel cl]
    exact Nat.eq_of_mul_eq_mul_right (Nat.pow_pos (by decide)) (e4.trans e2.symm)
  | t :: T, a, b, hT, ha, hb, hab => by
    have hT2 : ∀ t ∈ T, bin t.1 (rin all rc) ∧ bin t.2 (rin all rc) := fun x hx => hT x (List.mem_cons_of_mem _ hx)
    obtain ⟨ht1, ht2⟩ := hT t List.mem_cons_self
    have ha2 : bin (a ||| t.1) (rin all rc) := fun i hi => by
      rw [bt_or] at hi
      rcases (Bool.or_eq_true _ _).mp hi with hi | hi
      · exact ha i hi
      · exact ht1 i hi
    have hb2 : bin (b ||| t.2) (rin all rc) := fun i hi => by
      rw [bt_or] at hi
      rcases (Bool.or_eq_true _ _).mp hi with hi | hi
      · exact hb i hi
      · exact ht2 i hi
    have ih := swn_cE h36 n16 T a b hT2 ha hb hab
    have sp := cE_split (rin all rc) (fun x => cab a b (rin all rc) x && tno T x) (fun x => thd t x)
    have e1 : (fun x => (cab a b (rin all rc) x && tno T x) && thd t x) = (fun x => cab (a ||| t.1) (b ||| t.2) (rin all rc) x && tno T x) := funext (fun x => by
      rw [← cab_or, thd_cab ht1 ht2]
      cases cab a b (rin all rc) x <;> cases tno T x <;> cases cab t.1 t.2 (rin all rc) x <;> rfl)
    have e2 : (fun x => (cab a b (rin all rc) x && tno T x) && !thd t x) = (fun x => cab a b (rin all rc) x && tno (t :: T) x) := funext (fun x => by
      show _ = (cab a b (rin all rc) x && (!thd t x && tno T x))
      cases cab a b (rin all rc) x <;> cases tno T x <;> cases thd t x <;> rfl)
    rw [e1, e2] at sp
    show (if (a ||| t.1) &&& (b ||| t.2) = 0 then swn (nI (rin all rc).length) T a b - swn (nI (rin all rc).length) T (a ||| t.1) (b ||| t.2) else swn (nI (rin all rc).length) T a b) = _
    by_cases h : (a ||| t.1) &&& (b ||| t.2) = 0
    · rw [if_pos h, ih, swn_cE h36 n16 T _ _ hT2 ha2 hb2 h, nI_sub (by omega)]
      refine congrArg nI ?_
      omega
    · rw [if_neg h, ih]
      have e3 : (fun x => cab (a ||| t.1) (b ||| t.2) (rin all rc) x && tno T x) = (fun _ => false) := funext (fun x => by rw [cab_no ha2 h x]; rfl)
      rw [e3, cE_ff] at sp
      refine congrArg nI ?_
      omega
theorem cab_00 (E : List Nat) (x : Int64) : cab 0 0 E x = true := by
  unfold cab
  refine List.all_eq_true.mpr (fun e _ => ?_)
  rw [show bt 0 e = false from bit_0 e]
  rfl
theorem wfh_no (x : Int64) : ∀ (L : List tT) (j : Nat), j + L.length < 2147483648 → (decide (wfh x L j = -1) = tno L x)
  | [], j, _ => by
    show decide ((-1 : Int32) = -1) = true
    decide
  | t :: L, j, h => by
    have h2 : j + 1 + L.length < 2147483648 := by
      have : j + (L.length + 1) < 2147483648 := h
      omega
    show decide ((if t.1 &&& (x ^^^ (-1)) = 0 ∧ t.2 &&& x = 0 then nI j else wfh x L (j + 1)) = -1) = (!thd t x && tno L x)
    by_cases q : t.1 &&& (x ^^^ (-1)) = 0 ∧ t.2 &&& x = 0
    · rw [if_pos q, show thd t x = true from decide_eq_true q, decide_eq_false (nI_m1 (by omega))]
      rfl
    · rw [if_neg q, show thd t x = false from decide_eq_false q, wfh_no x L (j + 1) h2]
      rfl
/-- how the model counts -/
def mcn (W : List tT) (E : List Nat) : Nat → Nat → Int32 → Int32
  | 0, _, c => c
  | m + 1, s, c => mcn W E m (s + 1) (if wfh (rsn E s) W 0 = -1 then c else c + nI 1)
theorem mcn_cn {W : List tT} {E : List Nat} (hW : W.length < 2147483648) : ∀ (m s c : Nat), mcn W E m s (nI c) = nI (c + (cn (fun u => !tno W (rsn E u)) (s + m) - cn (fun u => !tno W (rsn E u)) s))
  | 0, s, c => by
    show nI c = _
    rw [Nat.add_zero, Nat.sub_self]
    rfl
  | m + 1, s, c => by
    have mono : ∀ (f : Nat → Bool) (p q : Nat), cn f p ≤ cn f (p + q) := fun f p q => by
      induction q with
      | zero => exact Nat.le_refl _
      | succ q ih =>
        refine Nat.le_trans ih ?_
        show cn f (p + q) ≤ cn f (p + q) + _
        omega
    have e := wfh_no (rsn E s) W 0 (by omega)
    have st : cn (fun u => !tno W (rsn E u)) (s + 1) = cn (fun u => !tno W (rsn E u)) s + (if !tno W (rsn E s) then 1 else 0) := rfl
    have m1 := mono (fun u => !tno W (rsn E u)) (s + 1) m
    show mcn W E m (s + 1) (if wfh (rsn E s) W 0 = -1 then nI c else nI c + nI 1) = _
    rw [show s + (m + 1) = s + 1 + m by omega]
    by_cases q : wfh (rsn E s) W 0 = -1
    · rw [if_pos q, mcn_cn hW m (s + 1) c]
      rw [decide_eq_true q] at e
      rw [← e] at st
      refine congrArg nI ?_
      have st : cn (fun u => !tno W (rsn E u)) (s + 1) = cn (fun u => !tno W (rsn E u)) s + 0 := st
      omega
    · rw [if_neg q, nI_add, mcn_cn hW m (s + 1) (c + 1)]
      rw [decide_eq_false q] at e
      rw [← e] at st
      refine congrArg nI ?_
      have st : cn (fun u => !tno W (rsn E u)) (s + 1) = cn (fun u => !tno W (rsn E u)) s + 1 := st
      omega
/-- both counts are the same -/
theorem count_eq {all : Int64} {rc : Nat} {W : List tT} (h36 : rc ≤ 36) (n16 : (rin all rc).length ≤ 16) (hW : ∀ t ∈ W, bin t.1 (rin all rc) ∧ bin t.2 (rin all rc)) (hl : W.length ≤ 12) : nI 1 <<< (nI (rin all rc).length &&& 31) - swn (nI (rin all rc).length) W 0 0 = mcn W (rin all rc) (2 ^ (rin all rc).length) 0 (nI 0) := by
  have z0 : bin 0 (rin all rc) := fun i hi => by
    rw [show bt 0 i = false from bit_0 i] at hi
    exact absurd hi (by decide)
  have e1 := swn_cE h36 n16 W 0 0 hW z0 z0 (by decide)
  have e2 : (fun x => cab 0 0 (rin all rc) x && tno W x) = tno W := funext (fun x => by rw [cab_00]; rfl)
  rw [e2] at e1
  have sp := cE_split (rin all rc) (fun _ => true) (tno W)
  rw [cE_tt] at sp
  have e3 : (fun x => true && tno W x) = tno W := funext (fun x => Bool.true_and _)
  have e4 : (fun x => true && !tno W x) = (fun x => !tno W x) := funext (fun x => Bool.true_and _)
  rw [e3, e4] at sp
  have e5 := cn_cE (rin all rc) (fun x => !tno W x)
  rw [e1, shl_k _ (by omega), nI_sub (by omega), mcn_cn (by omega) _ 0 0, Nat.zero_add, Nat.zero_add, e5]
  refine congrArg nI ?_
  show _ = cE (rin all rc) (fun x => !tno W x) - 0
  omega
