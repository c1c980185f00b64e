section
/-! THE ABSTRACT MACHINE: a heap as a map from addresses to cells, locals as a list, one judgement rl_G for 'the machine comes to its end from here'. -/
/-- the cells that are known -/
abbrev rl_H : Type := Nat → Option va_E
/-- the same, but for one address -/
def rl_u (h : rl_H) (a : Nat) (e : va_E) : rl_H := fun q => if q = a then some e else h q
theorem rl_u_s {h : rl_H} {a : Nat} {e : va_E} : rl_u h a e a = some e := by simp [rl_u]
theorem rl_u_n {h : rl_H} {a q : Nat} {e : va_E} (hq : q ≠ a) : rl_u h a e q = h q := by simp [rl_u, hq]
/-- tables: the classes' numbers and slots, the classes, the array classes, the heap at the start -/
abbrev rl_E : Type := va_G × List vw_C × List (ClassId × FieldType) × Heap
/-- the heap H holds h, has n cells, and its first cells are those of the start -/
def rl_R (E : rl_E) (h : rl_H) (n : Nat) (H : Heap) : Prop :=
  H.size = n ∧ E.2.2.2.size ≤ n ∧ (∀ q : Nat, q < E.2.2.2.size → H[q]? = E.2.2.2[q]?) ∧ ∀ (a : Nat) (e : va_E), h a = some e → E.2.2.2.size ≤ a ∧ va_at E.1 E.2.1 (a, e) H
theorem rl_R.lt {E : rl_E} {h : rl_H} {n : Nat} {H : Heap} (hR : rl_R E h n H) {a : Nat} {e : va_E} (ha : h a = some e) : a < n := by
  have h1 := (hR.2.2.2 a e ha).2.lt
  rw [hR.1] at h1
  exact h1
/-- a cell is written -/
theorem rl_R.put {E : rl_E} {h : rl_H} {n : Nat} {H H1 : Heap} (hR : rl_R E h n H) {a : Nat} {e0 e : va_E} (ha : h a = some e0) (z : H1.size = H.size) (o : ∀ q : Nat, q ≠ a → H1[q]? = H[q]?) (he : va_at E.1 E.2.1 (a, e) H1) : rl_R E (rl_u h a e) n H1 := by
  have hb := (hR.2.2.2 a e0 ha).1
  refine ⟨z.trans hR.1, hR.2.1, fun q hq => ?_, fun q x hx => ?_⟩
  · rw [o q (by omega)]
    exact hR.2.2.1 q hq
  · by_cases hqa : q = a
    · subst hqa
      rw [rl_u_s] at hx
      cases hx
      exact ⟨hb, he⟩
    · rw [rl_u_n hqa] at hx
      exact ⟨(hR.2.2.2 q x hx).1, (hR.2.2.2 q x hx).2.kept (o q hqa)⟩
/-- a cell is made -/
theorem rl_R.push {E : rl_E} {h : rl_H} {n : Nat} {H H1 : Heap} (hR : rl_R E h n H) {e : va_E} (z : H1.size = n + 1) (o : ∀ q : Nat, q < n → H1[q]? = H[q]?) (he : va_at E.1 E.2.1 (n, e) H1) : rl_R E (rl_u h n e) (n + 1) H1 := by
  refine ⟨z, Nat.le_succ_of_le hR.2.1, fun q hq => ?_, fun q x hx => ?_⟩
  · rw [o q (Nat.lt_of_lt_of_le hq hR.2.1)]
    exact hR.2.2.1 q hq
  · by_cases hqa : q = n
    · subst hqa
      rw [rl_u_s] at hx
      cases hx
      exact ⟨hR.2.1, he⟩
    · rw [rl_u_n hqa] at hx
      exact ⟨(hR.2.2.2 q x hx).1, (hR.2.2.2 q x hx).2.kept (o q (hR.lt hx))⟩
/-- fewer cells are known -/
theorem rl_R.less {E : rl_E} {h h' : rl_H} {n : Nat} {H : Heap} (hR : rl_R E h n H) (hh : ∀ (a : Nat) (e : va_E), h' a = some e → h a = some e) : rl_R E h' n H := ⟨hR.1, hR.2.1, hR.2.2.1, fun a e ha => hR.2.2.2 a e (hh a e ha)⟩
/-! the locals -/
def rl_w : Nat → List (Option Value) → List (Nat × Value)
  | _, [] => []
  | i, none :: t => rl_w (i + 1) t
  | i, some v :: t => (i, v) :: rl_w (i + 1) t
theorem rl_w_at : ∀ (lo : List (Option Value)) (b i : Nat) (v : Value), lo[i]? = some (some v) → (b + i, v) ∈ rl_w b lo
  | [], _, _, _, h => by simp at h
  | o :: t, b, 0, v, h => by
    simp at h
    subst h
    exact List.mem_cons_self
  | none :: t, b, i + 1, v, h => by
    have := rl_w_at t (b + 1) i v (by simpa using h)
    rw [show b + 1 + i = b + (i + 1) by omega] at this
    exact this
  | some w :: t, b, i + 1, v, h => by
    have := rl_w_at t (b + 1) i v (by simpa using h)
    rw [show b + 1 + i = b + (i + 1) by omega] at this
    exact List.mem_cons_of_mem _ this
theorem rl_w_of : ∀ (lo : List (Option Value)) (b : Nat) (q : Nat × Value), q ∈ rl_w b lo → ∃ i, q.1 = b + i ∧ lo[i]? = some (some q.2)
  | [], _, _, h => by cases h
  | none :: t, b, q, h => by
    obtain ⟨i, h1, h2⟩ := rl_w_of t (b + 1) q h
    exact ⟨i + 1, by omega, by simpa using h2⟩
  | some w :: t, b, q, h => by
    rcases List.mem_cons.mp h with rfl | h
    · exact ⟨0, by simp, by simp⟩
    · obtain ⟨i, h1, h2⟩ := rl_w_of t (b + 1) q h
      exact ⟨i + 1, by omega, by simpa using h2⟩
/-- a long whose second half is overwritten is gone -/
def rl_c (i : Nat) (o : Option Value) : Option Value := match i, o with
  | 0, some (.long _) => none
  | 0, some (.double _) => none
  | _, o => o
def rl_s1 : List (Option Value) → Nat → Value → List (Option Value)
  | [], _, _ => []
  | _ :: t, 0, v => some v :: t
  | o :: t, i + 1, v => rl_c i o :: rl_s1 t i v
def rl_s2 : List (Option Value) → Nat → Value → List (Option Value)
  | [], _, _ => []
  | [_], 0, v => [some v]
  | _ :: _ :: t, 0, v => some v :: none :: t
  | o :: t, i + 1, v => rl_c i o :: rl_s2 t i v
theorem rl_s1_len : ∀ (lo : List (Option Value)) (i : Nat) (v : Value), (rl_s1 lo i v).length = lo.length
  | [], _, _ => rfl
  | _ :: t, 0, v => rfl
  | o :: t, i + 1, v => by simp [rl_s1, rl_s1_len t i v]
theorem rl_s2_len : ∀ (lo : List (Option Value)) (i : Nat) (v : Value), (rl_s2 lo i v).length = lo.length
  | [], _, _ => by simp [rl_s2]
  | [_], 0, v => rfl
  | _ :: _ :: t, 0, v => rfl
  | [o], i + 1, v => by simp [rl_s2]
  | o :: o2 :: t, i + 1, v => by simp [rl_s2, rl_s2_len (o2 :: t) i v]
theorem rl_c_of {i : Nat} {o : Option Value} {w : Value} (h : rl_c i o = some w) : o = some w ∧ ¬ (i = 0 ∧ w.category = 2) := by
  cases i with
  | zero =>
    cases o with
    | none => simp [rl_c] at h
    | some x => cases x <;> simp_all [rl_c, Value.category] <;> (subst h; simp [Value.category])
  | succ i => exact ⟨h, fun q => by omega⟩
theorem rl_s1_of : ∀ (lo : List (Option Value)) (i : Nat) (v : Value) (j : Nat) (w : Value), (rl_s1 lo i v)[j]? = some (some w) → (j = i ∧ w = v) ∨ (lo[j]? = some (some w) ∧ j ≠ i ∧ ¬ (j + 1 = i ∧ w.category = 2))
  | [], i, v, j, w, h => by simp [rl_s1] at h
  | o :: t, 0, v, 0, w, h => by
    simp [rl_s1] at h
    exact Or.inl ⟨rfl, h.symm⟩
  | o :: t, 0, v, j + 1, w, h => by
    simp [rl_s1] at h
    exact Or.inr ⟨by simpa using h, by omega, fun q => by omega⟩
  | o :: t, i + 1, v, 0, w, h => by
    simp [rl_s1] at h
    obtain ⟨h1, h2⟩ := rl_c_of h
    exact Or.inr ⟨by simp [h1], by omega, fun q => h2 ⟨by omega, q.2⟩⟩
  | o :: t, i + 1, v, j + 1, w, h => by
    simp [rl_s1] at h
    rcases rl_s1_of t i v j w h with ⟨h1, h2⟩ | ⟨h1, h2, h3⟩
    · exact Or.inl ⟨by omega, h2⟩
    · exact Or.inr ⟨by simpa using h1, by omega, fun q => h3 ⟨by omega, q.2⟩⟩
theorem rl_s2_of : ∀ (lo : List (Option Value)) (i : Nat) (v : Value) (j : Nat) (w : Value), (rl_s2 lo i v)[j]? = some (some w) → (j = i ∧ w = v) ∨ (lo[j]? = some (some w) ∧ j ≠ i ∧ j ≠ i + 1 ∧ ¬ (j + 1 = i ∧ w.category = 2))
  | [], i, v, j, w, h => by simp [rl_s2] at h
  | [o], 0, v, 0, w, h => by
    simp [rl_s2] at h
    exact Or.inl ⟨rfl, h.symm⟩
  | [o], 0, v, j + 1, w, h => by simp [rl_s2] at h
  | o :: o2 :: t, 0, v, 0, w, h => by
    simp [rl_s2] at h
    exact Or.inl ⟨rfl, h.symm⟩
  | o :: o2 :: t, 0, v, 1, w, h => by simp [rl_s2] at h
  | o :: o2 :: t, 0, v, j + 2, w, h => by
    simp [rl_s2] at h
    exact Or.inr ⟨by simpa using h, by omega, by omega, fun q => by omega⟩
  | [o], i + 1, v, 0, w, h => by
    simp [rl_s2] at h
    obtain ⟨h1, h2⟩ := rl_c_of h
    exact Or.inr ⟨by simp [h1], by omega, by omega, fun q => h2 ⟨by omega, q.2⟩⟩
  | [o], i + 1, v, j + 1, w, h => by simp [rl_s2] at h
  | o :: o2 :: t, i + 1, v, 0, w, h => by
    simp [rl_s2] at h
    obtain ⟨h1, h2⟩ := rl_c_of h
    exact Or.inr ⟨by simp [h1], by omega, by omega, fun q => h2 ⟨by omega, q.2⟩⟩
  | o :: o2 :: t, i + 1, v, j + 1, w, h => by
    have h : (rl_s2 (o2 :: t) i v)[j]? = some (some w) := by simpa [rl_s2] using h
    rcases rl_s2_of (o2 :: t) i v j w h with ⟨h1, h2⟩ | ⟨h1, h2, h3, h4⟩
    · exact Or.inl ⟨by omega, h2⟩
    · exact Or.inr ⟨by simpa using h1, by omega, by omega, fun q => h4 ⟨by omega, q.2⟩⟩
/-- locals that are held -/
def rl_L (ls : Array Slot) (lo : List (Option Value)) : Prop := lv_has ls lo.length (rl_w 0 lo)
theorem rl_L.at {ls : Array Slot} {lo : List (Option Value)} (h : rl_L ls lo) {i : Nat} {v : Value} (hi : lo[i]? = some (some v)) : ls[i]? = some (.val v) := by
  have := h.2.2 _ (rl_w_at lo 0 i v hi)
  simpa using this
theorem rl_L.of {ls : Array Slot} {nL : Nat} {l : List (Nat × Value)} (h : lv_has ls nL l) {lo : List (Option Value)} (hn : lo.length = nL) (hm : ∀ (i : Nat) (v : Value), lo[i]? = some (some v) → (i, v) ∈ l) : rl_L ls lo := by
  refine ⟨h.1.trans hn.symm, h.2.1, fun q hq => ?_⟩
  obtain ⟨i, h1, h2⟩ := rl_w_of lo 0 q hq
  have h3 := h.2.2 _ (hm i q.2 h2)
  have h4 : q.1 = i := by omega
  rw [h4]
  exact h3
theorem rl_L.less {ls : Array Slot} {lo lo' : List (Option Value)} (h : rl_L ls lo) (hn : lo'.length = lo.length) (hm : ∀ (i : Nat) (v : Value), lo'[i]? = some (some v) → lo[i]? = some (some v)) : rl_L ls lo' :=
  rl_L.of h hn (fun i v hi => by have := rl_w_at lo 0 i v (hm i v hi); simpa using this)
theorem rl_s1_L {ls' : Array Slot} {lo : List (Option Value)} {i : Nat} {v : Value} (h : lv_has ls' lo.length ((i, v) :: (rl_w 0 lo).filter (fun q => !(q.1 == i) && !(q.1 + 1 == i && q.2.category == 2)))) : rl_L ls' (rl_s1 lo i v) := by
  refine rl_L.of h (rl_s1_len lo i v) (fun j w hj => ?_)
  rcases rl_s1_of lo i v j w hj with ⟨rfl, rfl⟩ | ⟨h1, h2, h3⟩
  · exact List.mem_cons_self
  · refine List.mem_cons_of_mem _ (List.mem_filter.mpr ⟨by have := rl_w_at lo 0 j w h1; simpa using this, ?_⟩)
    simp only [Bool.and_eq_true, Bool.not_eq_true', Bool.and_eq_false_iff, beq_eq_false_iff_ne, ne_eq]
    refine ⟨h2, ?_⟩
    by_cases q : j + 1 = i
    · exact Or.inr (fun q2 => h3 ⟨q, q2⟩)
    · exact Or.inl q
theorem rl_s2_L {ls' : Array Slot} {lo : List (Option Value)} {i : Nat} {v : Value} (h : lv_has ls' lo.length ((i, v) :: (rl_w 0 lo).filter (fun q => !(q.1 == i) && (!(q.1 == i + 1) && !(q.1 + 1 == i && q.2.category == 2))))) : rl_L ls' (rl_s2 lo i v) := by
  refine rl_L.of h (rl_s2_len lo i v) (fun j w hj => ?_)
  rcases rl_s2_of lo i v j w hj with ⟨rfl, rfl⟩ | ⟨h1, h2, h4, h3⟩
  · exact List.mem_cons_self
  · refine List.mem_cons_of_mem _ (List.mem_filter.mpr ⟨by have := rl_w_at lo 0 j w h1; simpa using this, ?_⟩)
    simp only [Bool.and_eq_true, Bool.not_eq_true', Bool.and_eq_false_iff, beq_eq_false_iff_ne, ne_eq]
    refine ⟨h2, h4, ?_⟩
    by_cases q : j + 1 = i
    · exact Or.inr (fun q2 => h3 ⟨q, q2⟩)
    · exact Or.inl q
/-! the judgement -/
/-- the machine's part of a walk: program, launch, environment, room, the state at the method's entry; the method, its arguments, what lies below, its row, its code; the end -/
abbrev rl_X : Type := (Program × Launch × Env × Room × State) × (MethodId × Array Value × List Frame × Method × Code) × (State → Prop)
abbrev rl_W (X : rl_X) (H : Heap) (locs : List Loc) (ce sl : Nat) (g : JFrame) : Prop :=
  W X.1.1 X.1.2.1 X.1.2.2.1 X.1.2.2.2.1 X.1.2.2.2.2 X.2.1.1 X.2.1.2.1 X.2.1.2.2.1 X.2.1.2.2.2.1 X.2.1.2.2.2.2 H locs ce sl X.2.2 g
/-- from pc, with these locals, this stack, this heap of n cells, ce cells and sl slots made so far, the machine comes to its end -/
def rl_G (X : rl_X) (E : rl_E) (pc : Nat) (lo : List (Option Value)) (st : List Value) (h : rl_H) (n ce sl : Nat) : Prop :=
  ∀ (H : Heap) (locs : List Loc) (ls : Array Slot), rl_R E h n H → (∀ q ∈ locs, E.2.2.2.size ≤ q.base) → rl_L ls lo → rl_W X H locs ce sl (F0 X.2.1.1 pc ls st)
/-- what a walk stands on: the machine, the code, the own class, the words, the nest mates' words, the tables -/
def rl_C (X : rl_X) (E : rl_E) (cc : ByteArray) (own : String) (Ts Ns : List Cond) : Prop :=
  X.1.1.tables.exec = Jvm.exec ∧ X.2.1.2.2.2.2.code = cc ∧ X.1.2.2.2.2.vm.findClass own = some X.2.1.1.cls ∧ (∀ w ∈ Ts, w.before X.2.1.2.1 X.1.2.2.2.2 = true) ∧ (∀ w ∈ Ns, w.before #[] X.1.2.2.2.2 = true) ∧ va_K E.1 E.2.1 E.2.2.1 X.1.2.2.2.2 ∧ X.2.1.2.2.2.1.locks = false
section RLG
variable {X : rl_X} {E : rl_E} {cc : ByteArray} {own : String} {Ts Ns : List Cond} {pc : Nat} {lo : List (Option Value)} {st : List Value} {h : rl_H} {n ce sl : Nat}
theorem rl_G.widen {ce' sl' : Nat} (h1 : ce ≤ ce') (h2 : sl ≤ sl') (k : rl_G X E pc lo st h n ce' sl') : rl_G X E pc lo st h n ce sl := fun H locs ls a b c => W.widen h1 h2 (k H locs ls a b c)
/-- fewer locals are known at a label -/
theorem rl_G.less {lo' : List (Option Value)} (hn : lo'.length = lo.length) (hm : ∀ (i : Nat) (v : Value), lo'[i]? = some (some v) → lo[i]? = some (some v)) (k : rl_G X E pc lo' st h n ce sl) : rl_G X E pc lo st h n ce sl := fun H locs ls a b c => k H locs ls a b (c.less hn hm)
theorem o_iconst (hC : rl_C X E cc own Ts Ns) {k : Int} {v : Int32} (hd : decode cc pc = .ok (.iconst k, 1)) (hv : Int32.ofInt k = v) (kk : rl_G X E (pc + 1) lo (.int v :: st) h n ce sl) : rl_G X E pc lo st h n ce sl := fun H locs ls a b c => lv_iconst hC.1 hC.2.1 hd hv (kk H locs ls a b c)
theorem o_bipush (hC : rl_C X E cc own Ts Ns) {k : Int} {v : Int32} (hd : decode cc pc = .ok (.bipush k, 2)) (hv : (Int8.ofInt k).toInt32 = v) (kk : rl_G X E (pc + 2) lo (.int v :: st) h n ce sl) : rl_G X E pc lo st h n ce sl := fun H locs ls a b c => lv_bipush hC.1 hC.2.1 hd hv (kk H locs ls a b c)
theorem o_sipush (hC : rl_C X E cc own Ts Ns) {k : Int} {v : Int32} (hd : decode cc pc = .ok (.sipush k, 3)) (hv : (Int16.ofInt k).toInt32 = v) (kk : rl_G X E (pc + 3) lo (.int v :: st) h n ce sl) : rl_G X E pc lo st h n ce sl := fun H locs ls a b c => lv_sipush hC.1 hC.2.1 hd hv (kk H locs ls a b c)
theorem o_lconst (hC : rl_C X E cc own Ts Ns) {k : Fin 2} {v : Int64} (hd : decode cc pc = .ok (.lconst k, 1)) (hv : Int64.ofNat (k : Nat) = v) (kk : rl_G X E (pc + 1) lo (.long v :: st) h n ce sl) : rl_G X E pc lo st h n ce sl := fun H locs ls a b c => lv_lconst hC.1 hC.2.1 hd hv (kk H locs ls a b c)
theorem o_ldc (hC : rl_C X E cc own Ts Ns) {idx : Nat} {v : Int32} (hw : Cond.constant own idx v ∈ Ts) (hd : decode cc pc = .ok (.ldc idx, 2)) (kk : rl_G X E (pc + 2) lo (.int v :: st) h n ce sl) : rl_G X E pc lo st h n ce sl := fun H locs ls a b c => lv_ldc hC.1 hC.2.1 hC.2.2.1 (hC.2.2.2.1 _ hw) hd (kk H locs ls a b c)
theorem o_ldc2 (hC : rl_C X E cc own Ts Ns) {idx : Nat} {v : Int64} (hw : Cond.constantLong own idx v ∈ Ts) (hd : decode cc pc = .ok (.ldc2_w idx, 3)) (kk : rl_G X E (pc + 3) lo (.long v :: st) h n ce sl) : rl_G X E pc lo st h n ce sl := fun H locs ls a b c => lv_ldc2 hC.1 hC.2.1 hC.2.2.1 (hC.2.2.2.1 _ hw) hd (kk H locs ls a b c)
theorem o_iload_n (hC : rl_C X E cc own Ts Ns) {k : Fin 4} {x : Int32} (hd : decode cc pc = .ok (.iload_n k, 1)) (hl : lo[(k : Nat)]? = some (some (.int x))) (kk : rl_G X E (pc + 1) lo (.int x :: st) h n ce sl) : rl_G X E pc lo st h n ce sl := fun H locs ls a b c => lv_iload_n hC.1 hC.2.1 hd rfl (c.at hl) (kk H locs ls a b c)
theorem o_iload (hC : rl_C X E cc own Ts Ns) {k : Nat} {x : Int32} (hd : decode cc pc = .ok (.iload k, 2)) (hl : lo[k]? = some (some (.int x))) (kk : rl_G X E (pc + 2) lo (.int x :: st) h n ce sl) : rl_G X E pc lo st h n ce sl := fun H locs ls a b c => lv_iload hC.1 hC.2.1 hd (c.at hl) (kk H locs ls a b c)
theorem o_lload_n (hC : rl_C X E cc own Ts Ns) {k : Fin 4} {x : Int64} (hd : decode cc pc = .ok (.lload_n k, 1)) (hl : lo[(k : Nat)]? = some (some (.long x))) (kk : rl_G X E (pc + 1) lo (.long x :: st) h n ce sl) : rl_G X E pc lo st h n ce sl := fun H locs ls a b c => lv_lload_n hC.1 hC.2.1 hd rfl (c.at hl) (kk H locs ls a b c)
theorem o_lload (hC : rl_C X E cc own Ts Ns) {k : Nat} {x : Int64} (hd : decode cc pc = .ok (.lload k, 2)) (hl : lo[k]? = some (some (.long x))) (kk : rl_G X E (pc + 2) lo (.long x :: st) h n ce sl) : rl_G X E pc lo st h n ce sl := fun H locs ls a b c => lv_lload hC.1 hC.2.1 hd (c.at hl) (kk H locs ls a b c)
theorem o_aload_n (hC : rl_C X E cc own Ts Ns) {k : Fin 4} {x : Nat} (hd : decode cc pc = .ok (.aload_n k, 1)) (hl : lo[(k : Nat)]? = some (some (.ref x))) (kk : rl_G X E (pc + 1) lo (.ref x :: st) h n ce sl) : rl_G X E pc lo st h n ce sl := fun H locs ls a b c => lv_aload_n hC.1 hC.2.1 hd rfl (c.at hl) (kk H locs ls a b c)
theorem o_aload (hC : rl_C X E cc own Ts Ns) {k : Nat} {x : Nat} (hd : decode cc pc = .ok (.aload k, 2)) (hl : lo[k]? = some (some (.ref x))) (kk : rl_G X E (pc + 2) lo (.ref x :: st) h n ce sl) : rl_G X E pc lo st h n ce sl := fun H locs ls a b c => lv_aload hC.1 hC.2.1 hd (c.at hl) (kk H locs ls a b c)
theorem o_aload_nN (hC : rl_C X E cc own Ts Ns) {k : Fin 4} (hd : decode cc pc = .ok (.aload_n k, 1)) (hl : lo[(k : Nat)]? = some (some .null)) (kk : rl_G X E (pc + 1) lo (.null :: st) h n ce sl) : rl_G X E pc lo st h n ce sl := fun H locs ls a b c => lv_aload_nN hC.1 hC.2.1 hd rfl (c.at hl) (kk H locs ls a b c)
theorem o_aloadN (hC : rl_C X E cc own Ts Ns) {k : Nat} (hd : decode cc pc = .ok (.aload k, 2)) (hl : lo[k]? = some (some .null)) (kk : rl_G X E (pc + 2) lo (.null :: st) h n ce sl) : rl_G X E pc lo st h n ce sl := fun H locs ls a b c => lv_aloadN hC.1 hC.2.1 hd (c.at hl) (kk H locs ls a b c)
theorem o_istore_n (hC : rl_C X E cc own Ts Ns) {k : Fin 4} {x : Int32} (hd : decode cc pc = .ok (.istore_n k, 1)) (hn : (k : Nat) < lo.length) (kk : rl_G X E (pc + 1) (rl_s1 lo k (.int x)) st h n ce sl) : rl_G X E pc lo (.int x :: st) h n ce sl := fun H locs ls a b c => lv_istore_n hC.1 hC.2.1 hd rfl c hn rfl (fun ls' c' => kk H locs ls' a b (rl_s1_L c'))
theorem o_istore (hC : rl_C X E cc own Ts Ns) {k : Nat} {x : Int32} (hd : decode cc pc = .ok (.istore k, 2)) (hn : k < lo.length) (kk : rl_G X E (pc + 2) (rl_s1 lo k (.int x)) st h n ce sl) : rl_G X E pc lo (.int x :: st) h n ce sl := fun H locs ls a b c => lv_istore hC.1 hC.2.1 hd c hn rfl (fun ls' c' => kk H locs ls' a b (rl_s1_L c'))
theorem o_lstore_n (hC : rl_C X E cc own Ts Ns) {k : Fin 4} {x : Int64} (hd : decode cc pc = .ok (.lstore_n k, 1)) (hn : (k : Nat) + 1 < lo.length) (kk : rl_G X E (pc + 1) (rl_s2 lo k (.long x)) st h n ce sl) : rl_G X E pc lo (.long x :: st) h n ce sl := fun H locs ls a b c => lv_lstore_n hC.1 hC.2.1 hd rfl c hn rfl (fun ls' c' => kk H locs ls' a b (rl_s2_L c'))
theorem o_lstore (hC : rl_C X E cc own Ts Ns) {k : Nat} {x : Int64} (hd : decode cc pc = .ok (.lstore k, 2)) (hn : k + 1 < lo.length) (kk : rl_G X E (pc + 2) (rl_s2 lo k (.long x)) st h n ce sl) : rl_G X E pc lo (.long x :: st) h n ce sl := fun H locs ls a b c => lv_lstore hC.1 hC.2.1 hd c hn rfl (fun ls' c' => kk H locs ls' a b (rl_s2_L c'))
theorem o_astore_n (hC : rl_C X E cc own Ts Ns) {k : Fin 4} {x : Nat} (hd : decode cc pc = .ok (.astore_n k, 1)) (hn : (k : Nat) < lo.length) (kk : rl_G X E (pc + 1) (rl_s1 lo k (.ref x)) st h n ce sl) : rl_G X E pc lo (.ref x :: st) h n ce sl := fun H locs ls a b c => lv_astore_n hC.1 hC.2.1 hd rfl c hn rfl (fun ls' c' => kk H locs ls' a b (rl_s1_L c'))
theorem o_astore (hC : rl_C X E cc own Ts Ns) {k : Nat} {x : Nat} (hd : decode cc pc = .ok (.astore k, 2)) (hn : k < lo.length) (kk : rl_G X E (pc + 2) (rl_s1 lo k (.ref x)) st h n ce sl) : rl_G X E pc lo (.ref x :: st) h n ce sl := fun H locs ls a b c => lv_astore hC.1 hC.2.1 hd c hn rfl (fun ls' c' => kk H locs ls' a b (rl_s1_L c'))
theorem o_astore_nN (hC : rl_C X E cc own Ts Ns) {k : Fin 4} (hd : decode cc pc = .ok (.astore_n k, 1)) (hn : (k : Nat) < lo.length) (kk : rl_G X E (pc + 1) (rl_s1 lo k .null) st h n ce sl) : rl_G X E pc lo (.null :: st) h n ce sl := fun H locs ls a b c => lv_astore_nN hC.1 hC.2.1 hd rfl c hn rfl (fun ls' c' => kk H locs ls' a b (rl_s1_L c'))
theorem o_astoreN (hC : rl_C X E cc own Ts Ns) {k : Nat} (hd : decode cc pc = .ok (.astore k, 2)) (hn : k < lo.length) (kk : rl_G X E (pc + 2) (rl_s1 lo k .null) st h n ce sl) : rl_G X E pc lo (.null :: st) h n ce sl := fun H locs ls a b c => lv_astoreN hC.1 hC.2.1 hd c hn rfl (fun ls' c' => kk H locs ls' a b (rl_s1_L c'))
theorem o_iinc (hC : rl_C X E cc own Ts Ns) {k : Nat} {i : Int} {x v : Int32} (hd : decode cc pc = .ok (.iinc k i, 3)) (hl : lo[k]? = some (some (.int x))) (hv : x + Int32.ofInt i = v) (hn : k < lo.length) (kk : rl_G X E (pc + 3) (rl_s1 lo k (.int v)) st h n ce sl) : rl_G X E pc lo st h n ce sl := fun H locs ls a b c => by
  obtain ⟨j, hj⟩ := List.getElem?_of_mem (rl_w_at lo 0 k _ hl)
  rw [Nat.zero_add] at hj
  exact lv_iinc hC.1 hC.2.1 hd c hj hv hn rfl (fun ls' c' => kk H locs ls' a b (rl_s1_L c'))
end RLG
end
section
/-! THE ABSTRACT MACHINE: arithmetic, stack, branches -/
section RLA
variable {X : rl_X} {E : rl_E} {cc : ByteArray} {own : String} {Ts Ns : List Cond} {pc : Nat} {lo : List (Option Value)} {st : List Value} {h : rl_H} {n ce sl : Nat}
theorem o_iadd (hC : rl_C X E cc own Ts Ns) {x y : Int32} (hd : decode cc pc = .ok (.iadd, 1)) (kk : rl_G X E (pc + 1) lo (.int (x + y) :: st) h n ce sl) : rl_G X E pc lo (.int y :: .int x :: st) h n ce sl := fun H locs ls a b c => lv_iadd hC.1 hC.2.1 hd (kk H locs ls a b c)
theorem o_isub (hC : rl_C X E cc own Ts Ns) {x y : Int32} (hd : decode cc pc = .ok (.isub, 1)) (kk : rl_G X E (pc + 1) lo (.int (x - y) :: st) h n ce sl) : rl_G X E pc lo (.int y :: .int x :: st) h n ce sl := fun H locs ls a b c => lv_isub hC.1 hC.2.1 hd (kk H locs ls a b c)
theorem o_imul (hC : rl_C X E cc own Ts Ns) {x y : Int32} (hd : decode cc pc = .ok (.imul, 1)) (kk : rl_G X E (pc + 1) lo (.int (x * y) :: st) h n ce sl) : rl_G X E pc lo (.int y :: .int x :: st) h n ce sl := fun H locs ls a b c => lv_imul hC.1 hC.2.1 hd (kk H locs ls a b c)
theorem o_iand (hC : rl_C X E cc own Ts Ns) {x y : Int32} (hd : decode cc pc = .ok (.iand, 1)) (kk : rl_G X E (pc + 1) lo (.int (x &&& y) :: st) h n ce sl) : rl_G X E pc lo (.int y :: .int x :: st) h n ce sl := fun H locs ls a b c => lv_iand hC.1 hC.2.1 hd (kk H locs ls a b c)
theorem o_ior (hC : rl_C X E cc own Ts Ns) {x y : Int32} (hd : decode cc pc = .ok (.ior, 1)) (kk : rl_G X E (pc + 1) lo (.int (x ||| y) :: st) h n ce sl) : rl_G X E pc lo (.int y :: .int x :: st) h n ce sl := fun H locs ls a b c => lv_ior hC.1 hC.2.1 hd (kk H locs ls a b c)
theorem o_ixor (hC : rl_C X E cc own Ts Ns) {x y : Int32} (hd : decode cc pc = .ok (.ixor, 1)) (kk : rl_G X E (pc + 1) lo (.int (x ^^^ y) :: st) h n ce sl) : rl_G X E pc lo (.int y :: .int x :: st) h n ce sl := fun H locs ls a b c => lv_ixor hC.1 hC.2.1 hd (kk H locs ls a b c)
theorem o_idiv (hC : rl_C X E cc own Ts Ns) {x y : Int32} (hd : decode cc pc = .ok (.idiv, 1)) (hne : ¬ y = 0) (kk : rl_G X E (pc + 1) lo (.int (x / y) :: st) h n ce sl) : rl_G X E pc lo (.int y :: .int x :: st) h n ce sl := fun H locs ls a b c => lv_idiv hC.1 hC.2.1 hd hne (kk H locs ls a b c)
theorem o_irem (hC : rl_C X E cc own Ts Ns) {x y : Int32} (hd : decode cc pc = .ok (.irem, 1)) (hne : ¬ y = 0) (kk : rl_G X E (pc + 1) lo (.int (x - x / y * y) :: st) h n ce sl) : rl_G X E pc lo (.int y :: .int x :: st) h n ce sl := fun H locs ls a b c => lv_irem hC.1 hC.2.1 hd hne (kk H locs ls a b c)
theorem o_ladd (hC : rl_C X E cc own Ts Ns) {x y : Int64} (hd : decode cc pc = .ok (.ladd, 1)) (kk : rl_G X E (pc + 1) lo (.long (x + y) :: st) h n ce sl) : rl_G X E pc lo (.long y :: .long x :: st) h n ce sl := fun H locs ls a b c => lv_ladd hC.1 hC.2.1 hd (kk H locs ls a b c)
theorem o_lsub (hC : rl_C X E cc own Ts Ns) {x y : Int64} (hd : decode cc pc = .ok (.lsub, 1)) (kk : rl_G X E (pc + 1) lo (.long (x - y) :: st) h n ce sl) : rl_G X E pc lo (.long y :: .long x :: st) h n ce sl := fun H locs ls a b c => lv_lsub hC.1 hC.2.1 hd (kk H locs ls a b c)
theorem o_lmul (hC : rl_C X E cc own Ts Ns) {x y : Int64} (hd : decode cc pc = .ok (.lmul, 1)) (kk : rl_G X E (pc + 1) lo (.long (x * y) :: st) h n ce sl) : rl_G X E pc lo (.long y :: .long x :: st) h n ce sl := fun H locs ls a b c => lv_lmul hC.1 hC.2.1 hd (kk H locs ls a b c)
theorem o_land (hC : rl_C X E cc own Ts Ns) {x y : Int64} (hd : decode cc pc = .ok (.land, 1)) (kk : rl_G X E (pc + 1) lo (.long (x &&& y) :: st) h n ce sl) : rl_G X E pc lo (.long y :: .long x :: st) h n ce sl := fun H locs ls a b c => lv_land hC.1 hC.2.1 hd (kk H locs ls a b c)
theorem o_lor (hC : rl_C X E cc own Ts Ns) {x y : Int64} (hd : decode cc pc = .ok (.lor, 1)) (kk : rl_G X E (pc + 1) lo (.long (x ||| y) :: st) h n ce sl) : rl_G X E pc lo (.long y :: .long x :: st) h n ce sl := fun H locs ls a b c => lv_lor hC.1 hC.2.1 hd (kk H locs ls a b c)
theorem o_lxor (hC : rl_C X E cc own Ts Ns) {x y : Int64} (hd : decode cc pc = .ok (.lxor, 1)) (kk : rl_G X E (pc + 1) lo (.long (x ^^^ y) :: st) h n ce sl) : rl_G X E pc lo (.long y :: .long x :: st) h n ce sl := fun H locs ls a b c => lv_lxor hC.1 hC.2.1 hd (kk H locs ls a b c)
theorem o_ishl (hC : rl_C X E cc own Ts Ns) {x y : Int32} (hd : decode cc pc = .ok (.ishl, 1)) (kk : rl_G X E (pc + 1) lo (.int (x <<< (y &&& 31)) :: st) h n ce sl) : rl_G X E pc lo (.int y :: .int x :: st) h n ce sl := fun H locs ls a b c => lv_ishl hC.1 hC.2.1 hd (kk H locs ls a b c)
theorem o_ishr (hC : rl_C X E cc own Ts Ns) {x y : Int32} (hd : decode cc pc = .ok (.ishr, 1)) (kk : rl_G X E (pc + 1) lo (.int (x >>> (y &&& 31)) :: st) h n ce sl) : rl_G X E pc lo (.int y :: .int x :: st) h n ce sl := fun H locs ls a b c => lv_ishr hC.1 hC.2.1 hd (kk H locs ls a b c)
theorem o_iushr (hC : rl_C X E cc own Ts Ns) {x y : Int32} (hd : decode cc pc = .ok (.iushr, 1)) (kk : rl_G X E (pc + 1) lo (.int ((x.toUInt32 >>> (y.toUInt32 &&& Int32.toUInt32 31)).toInt32) :: st) h n ce sl) : rl_G X E pc lo (.int y :: .int x :: st) h n ce sl := fun H locs ls a b c => lv_iushr hC.1 hC.2.1 hd rfl (kk H locs ls a b c)
theorem o_lushr (hC : rl_C X E cc own Ts Ns) {x : Int64} {y : Int32} (hd : decode cc pc = .ok (.lushr, 1)) (kk : rl_G X E (pc + 1) lo (.long ((x.toUInt64 >>> (y.toInt64.toUInt64 &&& Int64.toUInt64 63)).toInt64) :: st) h n ce sl) : rl_G X E pc lo (.int y :: .long x :: st) h n ce sl := fun H locs ls a b c => lv_lushr hC.1 hC.2.1 hd rfl (kk H locs ls a b c)
theorem o_lshl (hC : rl_C X E cc own Ts Ns) {x : Int64} {y : Int32} (hd : decode cc pc = .ok (.lshl, 1)) (kk : rl_G X E (pc + 1) lo (.long (x <<< (y.toInt64 &&& 63)) :: st) h n ce sl) : rl_G X E pc lo (.int y :: .long x :: st) h n ce sl := fun H locs ls a b c => lv_lshl hC.1 hC.2.1 hd rfl (kk H locs ls a b c)
theorem o_lshr (hC : rl_C X E cc own Ts Ns) {x : Int64} {y : Int32} (hd : decode cc pc = .ok (.lshr, 1)) (kk : rl_G X E (pc + 1) lo (.long (x >>> (y.toInt64 &&& 63)) :: st) h n ce sl) : rl_G X E pc lo (.int y :: .long x :: st) h n ce sl := fun H locs ls a b c => lv_lshr hC.1 hC.2.1 hd rfl (kk H locs ls a b c)
theorem o_i2l (hC : rl_C X E cc own Ts Ns) {x : Int32} (hd : decode cc pc = .ok (.i2l, 1)) (kk : rl_G X E (pc + 1) lo (.long (x.toInt64) :: st) h n ce sl) : rl_G X E pc lo (.int x :: st) h n ce sl := fun H locs ls a b c => lv_i2l hC.1 hC.2.1 hd rfl (kk H locs ls a b c)
theorem o_l2i (hC : rl_C X E cc own Ts Ns) {x : Int64} (hd : decode cc pc = .ok (.l2i, 1)) (kk : rl_G X E (pc + 1) lo (.int (x.toInt32) :: st) h n ce sl) : rl_G X E pc lo (.long x :: st) h n ce sl := fun H locs ls a b c => lv_l2i hC.1 hC.2.1 hd rfl (kk H locs ls a b c)
theorem o_dup (hC : rl_C X E cc own Ts Ns) {v : Value} (hd : decode cc pc = .ok (.dup, 1)) (hv : v.category = 1) (kk : rl_G X E (pc + 1) lo (v :: v :: st) h n ce sl) : rl_G X E pc lo (v :: st) h n ce sl := fun H locs ls a b c => lv_dup hC.1 hC.2.1 hd hv (kk H locs ls a b c)
theorem o_pop (hC : rl_C X E cc own Ts Ns) {v : Value} (hd : decode cc pc = .ok (.pop, 1)) (hv : v.category = 1) (kk : rl_G X E (pc + 1) lo st h n ce sl) : rl_G X E pc lo (v :: st) h n ce sl := fun H locs ls a b c => lv_pop hC.1 hC.2.1 hd hv (kk H locs ls a b c)
theorem o_dup_x1 (hC : rl_C X E cc own Ts Ns) {v w : Value} (hd : decode cc pc = .ok (.dup_x1, 1)) (hv : v.category = 1) (hw : w.category = 1) (kk : rl_G X E (pc + 1) lo (v :: w :: v :: st) h n ce sl) : rl_G X E pc lo (v :: w :: st) h n ce sl := fun H locs ls a b c => lv_dup_x1 hC.1 hC.2.1 hd hv hw (kk H locs ls a b c)
theorem o_dup2 (hC : rl_C X E cc own Ts Ns) {v w : Value} (hd : decode cc pc = .ok (.dup2, 1)) (hv : v.category = 1) (hw : w.category = 1) (kk : rl_G X E (pc + 1) lo (v :: w :: v :: w :: st) h n ce sl) : rl_G X E pc lo (v :: w :: st) h n ce sl := fun H locs ls a b c => lv_dup2_11 hC.1 hC.2.1 hd hv hw (kk H locs ls a b c)
theorem o_null (hC : rl_C X E cc own Ts Ns) (hd : decode cc pc = .ok (.aconst_null, 1)) (kk : rl_G X E (pc + 1) lo (.null :: st) h n ce sl) : rl_G X E pc lo st h n ce sl := fun H locs ls a b c => lv_null hC.1 hC.2.1 hd (kk H locs ls a b c)
theorem o_goto (hC : rl_C X E cc own Ts Ns) {off : Int} {tgt : Nat} (hd : decode cc pc = .ok (.goto off, 3)) (ht : (pc : Int) + off = (tgt : Int)) (kk : rl_G X E tgt lo st h n ce sl) : rl_G X E pc lo st h n ce sl := fun H locs ls a b c => lv_goto hC.1 hC.2.1 hd ht (kk H locs ls a b c)
theorem o_if_eq (hC : rl_C X E cc own Ts Ns) {x : Int32} {off : Int} {tgt : Nat} (hd : decode cc pc = .ok (.ifCond .eq off, 3)) (ht : (pc : Int) + off = (tgt : Int)) (kt : x = 0 → rl_G X E tgt lo st h n ce sl) (kf : ¬ x = 0 → rl_G X E (pc + 3) lo st h n ce sl) : rl_G X E pc lo (.int x :: st) h n ce sl := fun H locs ls a b c => lv_if_eq hC.1 hC.2.1 hd ht (fun z => kt z H locs ls a b c) (fun z => kf z H locs ls a b c)
theorem o_icmp_eq (hC : rl_C X E cc own Ts Ns) {x y : Int32} {off : Int} {tgt : Nat} (hd : decode cc pc = .ok (.if_icmp .eq off, 3)) (ht : (pc : Int) + off = (tgt : Int)) (kt : x = y → rl_G X E tgt lo st h n ce sl) (kf : ¬ x = y → rl_G X E (pc + 3) lo st h n ce sl) : rl_G X E pc lo (.int y :: .int x :: st) h n ce sl := fun H locs ls a b c => lv_icmp_eq hC.1 hC.2.1 hd ht (fun z => kt z H locs ls a b c) (fun z => kf z H locs ls a b c)
theorem o_if_ne (hC : rl_C X E cc own Ts Ns) {x : Int32} {off : Int} {tgt : Nat} (hd : decode cc pc = .ok (.ifCond .ne off, 3)) (ht : (pc : Int) + off = (tgt : Int)) (kt : ¬ x = 0 → rl_G X E tgt lo st h n ce sl) (kf : x = 0 → rl_G X E (pc + 3) lo st h n ce sl) : rl_G X E pc lo (.int x :: st) h n ce sl := fun H locs ls a b c => lv_if_ne hC.1 hC.2.1 hd ht (fun z => kt z H locs ls a b c) (fun z => kf z H locs ls a b c)
theorem o_icmp_ne (hC : rl_C X E cc own Ts Ns) {x y : Int32} {off : Int} {tgt : Nat} (hd : decode cc pc = .ok (.if_icmp .ne off, 3)) (ht : (pc : Int) + off = (tgt : Int)) (kt : ¬ x = y → rl_G X E tgt lo st h n ce sl) (kf : x = y → rl_G X E (pc + 3) lo st h n ce sl) : rl_G X E pc lo (.int y :: .int x :: st) h n ce sl := fun H locs ls a b c => lv_icmp_ne hC.1 hC.2.1 hd ht (fun z => kt z H locs ls a b c) (fun z => kf z H locs ls a b c)
theorem o_if_lt (hC : rl_C X E cc own Ts Ns) {x : Int32} {off : Int} {tgt : Nat} (hd : decode cc pc = .ok (.ifCond .lt off, 3)) (ht : (pc : Int) + off = (tgt : Int)) (kt : x < 0 → rl_G X E tgt lo st h n ce sl) (kf : ¬ x < 0 → rl_G X E (pc + 3) lo st h n ce sl) : rl_G X E pc lo (.int x :: st) h n ce sl := fun H locs ls a b c => lv_if_lt hC.1 hC.2.1 hd ht (fun z => kt z H locs ls a b c) (fun z => kf z H locs ls a b c)
theorem o_icmp_lt (hC : rl_C X E cc own Ts Ns) {x y : Int32} {off : Int} {tgt : Nat} (hd : decode cc pc = .ok (.if_icmp .lt off, 3)) (ht : (pc : Int) + off = (tgt : Int)) (kt : x < y → rl_G X E tgt lo st h n ce sl) (kf : ¬ x < y → rl_G X E (pc + 3) lo st h n ce sl) : rl_G X E pc lo (.int y :: .int x :: st) h n ce sl := fun H locs ls a b c => lv_icmp_lt hC.1 hC.2.1 hd ht (fun z => kt z H locs ls a b c) (fun z => kf z H locs ls a b c)
theorem o_if_ge (hC : rl_C X E cc own Ts Ns) {x : Int32} {off : Int} {tgt : Nat} (hd : decode cc pc = .ok (.ifCond .ge off, 3)) (ht : (pc : Int) + off = (tgt : Int)) (kt : 0 ≤ x → rl_G X E tgt lo st h n ce sl) (kf : ¬ 0 ≤ x → rl_G X E (pc + 3) lo st h n ce sl) : rl_G X E pc lo (.int x :: st) h n ce sl := fun H locs ls a b c => lv_if_ge hC.1 hC.2.1 hd ht (fun z => kt z H locs ls a b c) (fun z => kf z H locs ls a b c)
theorem o_icmp_ge (hC : rl_C X E cc own Ts Ns) {x y : Int32} {off : Int} {tgt : Nat} (hd : decode cc pc = .ok (.if_icmp .ge off, 3)) (ht : (pc : Int) + off = (tgt : Int)) (kt : y ≤ x → rl_G X E tgt lo st h n ce sl) (kf : ¬ y ≤ x → rl_G X E (pc + 3) lo st h n ce sl) : rl_G X E pc lo (.int y :: .int x :: st) h n ce sl := fun H locs ls a b c => lv_icmp_ge hC.1 hC.2.1 hd ht (fun z => kt z H locs ls a b c) (fun z => kf z H locs ls a b c)
theorem o_if_gt (hC : rl_C X E cc own Ts Ns) {x : Int32} {off : Int} {tgt : Nat} (hd : decode cc pc = .ok (.ifCond .gt off, 3)) (ht : (pc : Int) + off = (tgt : Int)) (kt : 0 < x → rl_G X E tgt lo st h n ce sl) (kf : ¬ 0 < x → rl_G X E (pc + 3) lo st h n ce sl) : rl_G X E pc lo (.int x :: st) h n ce sl := fun H locs ls a b c => lv_if_gt hC.1 hC.2.1 hd ht (fun z => kt z H locs ls a b c) (fun z => kf z H locs ls a b c)
theorem o_icmp_gt (hC : rl_C X E cc own Ts Ns) {x y : Int32} {off : Int} {tgt : Nat} (hd : decode cc pc = .ok (.if_icmp .gt off, 3)) (ht : (pc : Int) + off = (tgt : Int)) (kt : y < x → rl_G X E tgt lo st h n ce sl) (kf : ¬ y < x → rl_G X E (pc + 3) lo st h n ce sl) : rl_G X E pc lo (.int y :: .int x :: st) h n ce sl := fun H locs ls a b c => lv_icmp_gt hC.1 hC.2.1 hd ht (fun z => kt z H locs ls a b c) (fun z => kf z H locs ls a b c)
theorem o_if_le (hC : rl_C X E cc own Ts Ns) {x : Int32} {off : Int} {tgt : Nat} (hd : decode cc pc = .ok (.ifCond .le off, 3)) (ht : (pc : Int) + off = (tgt : Int)) (kt : x ≤ 0 → rl_G X E tgt lo st h n ce sl) (kf : ¬ x ≤ 0 → rl_G X E (pc + 3) lo st h n ce sl) : rl_G X E pc lo (.int x :: st) h n ce sl := fun H locs ls a b c => lv_if_le hC.1 hC.2.1 hd ht (fun z => kt z H locs ls a b c) (fun z => kf z H locs ls a b c)
theorem o_icmp_le (hC : rl_C X E cc own Ts Ns) {x y : Int32} {off : Int} {tgt : Nat} (hd : decode cc pc = .ok (.if_icmp .le off, 3)) (ht : (pc : Int) + off = (tgt : Int)) (kt : x ≤ y → rl_G X E tgt lo st h n ce sl) (kf : ¬ x ≤ y → rl_G X E (pc + 3) lo st h n ce sl) : rl_G X E pc lo (.int y :: .int x :: st) h n ce sl := fun H locs ls a b c => lv_icmp_le hC.1 hC.2.1 hd ht (fun z => kt z H locs ls a b c) (fun z => kf z H locs ls a b c)
theorem o_ifnonnull (hC : rl_C X E cc own Ts Ns) {x : Nat} {off : Int} {tgt : Nat} (hd : decode cc pc = .ok (.ifnonnull off, 3)) (ht : (pc : Int) + off = (tgt : Int)) (kk : rl_G X E tgt lo st h n ce sl) : rl_G X E pc lo (.ref x :: st) h n ce sl := fun H locs ls a b c => lv_ifnonnull hC.1 hC.2.1 hd ht (kk H locs ls a b c)
theorem o_ifnull (hC : rl_C X E cc own Ts Ns) {x : Nat} {off : Int} (hd : decode cc pc = .ok (.ifnull off, 3)) (kk : rl_G X E (pc + 3) lo st h n ce sl) : rl_G X E pc lo (.ref x :: st) h n ce sl := fun H locs ls a b c => lv_ifnull hC.1 hC.2.1 hd (kk H locs ls a b c)
theorem o_ifnullN (hC : rl_C X E cc own Ts Ns) {off : Int} {tgt : Nat} (hd : decode cc pc = .ok (.ifnull off, 3)) (ht : (pc : Int) + off = (tgt : Int)) (kk : rl_G X E tgt lo st h n ce sl) : rl_G X E pc lo (.null :: st) h n ce sl := fun H locs ls a b c => lv_ifnullN hC.1 hC.2.1 hd ht (kk H locs ls a b c)
theorem o_ifnonnullN (hC : rl_C X E cc own Ts Ns) {off : Int} (hd : decode cc pc = .ok (.ifnonnull off, 3)) (kk : rl_G X E (pc + 3) lo st h n ce sl) : rl_G X E pc lo (.null :: st) h n ce sl := fun H locs ls a b c => lv_ifnonnullN hC.1 hC.2.1 hd (kk H locs ls a b c)
theorem o_tableIn (hC : rl_C X E cc own Ts Ns) {dflt lw hi : Int} {offs : Array Int} {len : Nat} {x : Int32} {off : Int} {tgt : Nat} (hd : decode cc pc = .ok (.tableswitch dflt lw hi offs, len)) (h1 : ¬ x.toInt < lw) (h2 : ¬ hi < x.toInt) (ho : offs[(x.toInt - lw).toNat]? = some off) (ht : (pc : Int) + off = (tgt : Int)) (kk : rl_G X E tgt lo st h n ce sl) : rl_G X E pc lo (.int x :: st) h n ce sl := fun H locs ls a b c => lv_tableIn hC.1 hC.2.1 hd h1 h2 ho ht (kk H locs ls a b c)
theorem o_tableOut (hC : rl_C X E cc own Ts Ns) {dflt lw hi : Int} {offs : Array Int} {len : Nat} {x : Int32} {tgt : Nat} (hd : decode cc pc = .ok (.tableswitch dflt lw hi offs, len)) (h1 : x.toInt < lw ∨ hi < x.toInt) (ht : (pc : Int) + dflt = (tgt : Int)) (kk : rl_G X E tgt lo st h n ce sl) : rl_G X E pc lo (.int x :: st) h n ce sl := fun H locs ls a b c => lv_tableOut hC.1 hC.2.1 hd h1 ht (kk H locs ls a b c)
theorem o_lookup (hC : rl_C X E cc own Ts Ns) {dflt : Int} {ps : Array (Int × Int)} {len : Nat} {x : Int32} {off : Int} {tgt : Nat} (hd : decode cc pc = .ok (.lookupswitch dflt ps, len)) (hp : (ps.toList.zip (ps.toList.drop 1)).all (fun (a, next) => a.1 < next.1) = true) (ho : Op.lookupswitch.offset ps.toList dflt x.toInt = off) (ht : (pc : Int) + off = (tgt : Int)) (kk : rl_G X E tgt lo st h n ce sl) : rl_G X E pc lo (.int x :: st) h n ce sl := fun H locs ls a b c => lv_lookup hC.1 hC.2.1 hd hp ho ht (kk H locs ls a b c)
end RLA
end
section
/-! THE ABSTRACT MACHINE: fields, arrays, new cells -/
/-- a field's link: of the own class, or of a nest mate -/
def rl_F (X : rl_X) (E : rl_E) (own : String) (Ts : List Cond) (idx ci k : Nat) : Prop :=
  ∃ (C : String) (T : u_T) (N : Nat), E.2.1[ci]? = some (C, T, N) ∧ k < N ∧ (T k).1 = C ∧ (∀ w ∈ u_ws C T N, w ∈ Ts) ∧
    ((Cond.fieldLink own idx C (T k).2.1 (T k).2.2.1).before X.2.1.2.1 X.1.2.2.2.2 = true ∨ ∃ host : String, (Cond.fieldLinkNest own idx C (T k).2.1 (T k).2.2.1 host).before X.2.1.2.1 X.1.2.2.2.2 = true)
theorem rl_Fo {X : rl_X} {E : rl_E} {cc : ByteArray} {own : String} {Ts Ns : List Cond} (hC : rl_C X E cc own Ts Ns) {idx ci k : Nat} {C : String} {T : u_T} {N : Nat} (h1 : E.2.1[ci]? = some (C, T, N)) (h2 : k < N) (h3 : (T k).1 = C) (h4 : ∀ w ∈ u_ws C T N, w ∈ Ts) (h5 : Cond.fieldLink own idx C (T k).2.1 (T k).2.2.1 ∈ Ts) : rl_F X E own Ts idx ci k := ⟨C, T, N, h1, h2, h3, h4, Or.inl (hC.2.2.2.1 _ h5)⟩
theorem rl_Fn {X : rl_X} {E : rl_E} {cc : ByteArray} {own : String} {Ts Ns : List Cond} (hC : rl_C X E cc own Ts Ns) {idx ci k : Nat} {C : String} {T : u_T} {N : Nat} (host : String) (h1 : E.2.1[ci]? = some (C, T, N)) (h2 : k < N) (h3 : (T k).1 = C) (h4 : ∀ w ∈ u_ws C T N, w ∈ Ts) (h5 : Cond.fieldLinkNest own idx C (T k).2.1 (T k).2.2.1 host ∈ Ns) : rl_F X E own Ts idx ci k := ⟨C, T, N, h1, h2, h3, h4, Or.inr ⟨host, va_Nw.use rfl (hC.2.2.2.2.1 _ h5)⟩⟩
/-- a field may be written: its type, its name alone in the class, not final or in a constructor of its own class -/
def rl_Fw (X : rl_X) (E : rl_E) (own : String) (ci k : Nat) (v : Value) : Prop :=
  ∀ (C : String) (T : u_T) (N : Nat), E.2.1[ci]? = some (C, T, N) → (∃ ty0 : Nat → FieldType, (∀ j, j < N → parseFieldDescriptor (T j).2.2.1 = some (ty0 j)) ∧ narrow (ty0 k) v = v ∧ fits (ty0 k) v = true) ∧ (∀ a, a < N → ∀ b, b < N → a ≠ b → (T a).2.1 ≠ (T b).2.1) ∧ ((T k).2.2.2 = false ∨ ((T k).2.2.2 = true ∧ X.2.1.2.2.2.1.name = "<init>" ∧ C = own))
section RLH
variable {X : rl_X} {E : rl_E} {cc : ByteArray} {own : String} {Ts Ns : List Cond} {pc : Nat} {lo : List (Option Value)} {st : List Value} {h : rl_H} {n ce sl : Nat}
theorem rl_P1 {a : Nat} {e : va_E} {H : Heap} (hR : rl_R E h n H) (ha : h a = some e) : va_P E.1 E.2.1 [(a, e)] H := fun k q hk => by
  have hz : k < 1 := (List.getElem?_eq_some_iff.mp hk).1
  rw [show k = 0 by omega] at hk
  cases hk
  exact (hR.2.2.2 a e ha).2
theorem o_lcmp (hC : rl_C X E cc own Ts Ns) {x y : Int64} (hd : decode cc pc = .ok (.lcmp, 1)) (kk : rl_G X E (pc + 1) lo (.int (lg_cmp x y) :: st) h n ce sl) : rl_G X E pc lo (.long y :: .long x :: st) h n ce sl := fun H locs ls a b c => W.lcmp hC.1 hC.2.1 hd (kk H locs ls a b c)
theorem o_getf (hC : rl_C X E cc own Ts Ns) {idx ci k a : Nat} {fs : List Value} {v : Value} (hF : rl_F X E own Ts idx ci k) (hd : decode cc pc = .ok (.getfield idx, 3)) (ha : h a = some (.inr (ci, fs))) (hv : fs[k]? = some v) (kk : rl_G X E (pc + 3) lo (v :: st) h n ce sl) : rl_G X E pc lo (.ref a :: st) h n ce sl := by
  intro H locs ls a1 b1 c1
  obtain ⟨C, T, N, h1, h2, h3, h4, h5⟩ := hF
  have hsame : ∀ x, X.1.2.2.2.2.fieldFound? (T k).1 (T k).2.1 (T k).2.2.1 = some x → X.1.2.2.2.2.fieldFound? C (T k).2.1 (T k).2.2.1 = some x := fun x hx => by rw [h3] at hx; exact hx
  rcases h5 with h5 | ⟨host, h5⟩
  · exact va_get hC.1 hC.2.1 hC.2.2.2.1 h4 hC.2.2.1 hC.2.2.2.2.2.1 (rl_P1 a1 ha) 0 rfl h1 k h2 h5 hsame hv hd (kk H locs ls a1 b1 c1)
  · exact va_getN hC.1 hC.2.1 hC.2.2.2.1 h4 hC.2.2.1 hC.2.2.2.2.2.1 (rl_P1 a1 ha) 0 rfl h1 k h2 h5 hsame hv hd (kk H locs ls a1 b1 c1)
theorem o_putf (hC : rl_C X E cc own Ts Ns) {idx ci k a : Nat} {fs : List Value} {v : Value} (hF : rl_F X E own Ts idx ci k) (hw : rl_Fw X E own ci k v) (hd : decode cc pc = .ok (.putfield idx, 3)) (ha : h a = some (.inr (ci, fs))) (hl : k < fs.length) (kk : rl_G X E (pc + 3) lo st (rl_u h a (.inr (ci, fs.set k v))) n ce sl) : rl_G X E pc lo (v :: .ref a :: st) h n ce sl := by
  intro H locs ls a1 b1 c1
  obtain ⟨C, T, N, h1, h2, h3, h4, h5⟩ := hF
  obtain ⟨⟨ty0, hty, hn, hfit⟩, hnm, hfin⟩ := hw C T N h1
  have hts := hC.2.2.2.1
  have hK := hC.2.2.2.2.2.1
  have hap := va_apart (own := own) hts h4 ty0 hty hnm hK h1
  obtain ⟨hb0, r, g1, cell, q1, q2, q3, q4⟩ := a1.2.2.2 a _ ha
  have hr : r = (C, T, N) := Option.some.inj (g1.symm.trans h1)
  subst hr
  obtain ⟨hS, hfc, kC, hkC, hkind⟩ := hK.1 ci _ h1
  obtain ⟨cf, kf, fi, f, hi, hsl⟩ := hS k h2
  have hi' : X.1.2.2.2.2.fieldFound? C (T k).2.1 (T k).2.2.1 = some (cf, kf, fi, f) := by rw [h3] at hi; exact hi
  have hlay := hts _ (h4 _ (u_in_lay h2))
  unfold u_lay at hlay
  have hst := (u_facts hfc hkC (u_lays hts h4 h2) hi).1
  have fin : ∀ H' : Heap, H'[a]? = some (cell.setSlot f.slot v) → H'.size = H.size → (∀ q, q ≠ a → H'[q]? = H[q]?) → rl_W X H' (locs ++ [⟨a, f.slot⟩]) ce sl (F0 X.2.1.1 (pc + 3) ls st) := by
    intro H' e1 e2 e3
    rw [hsl] at e1 ⊢
    refine kk H' _ ls (a1.put ha e2 e3 ⟨_, h1, t_OB.to (V := updV (vp_V fs) k v) ⟨_, e1, q2, q3, t_set q4 hap h2 v⟩ (fun j _ => vp_updV_set hl v j)⟩) (fun q hq => ?_) c1
    rcases List.mem_append.mp hq with hq | hq
    · exact b1 q hq
    · rw [List.mem_singleton.mp hq]
      exact hb0
  rcases hfin with hfin | ⟨hfin, hin2, hCo⟩
  · rw [if_neg (by rw [hfin]; decide)] at hlay
    have h6 := u_store hfc hkC hkind hlay hi (hty k h2) hn hfit
    rcases h5 with h5 | ⟨host, h5⟩
    · exact W.putK hC.1 hC.2.1 (f := f) ⟨hC.2.2.1, h5, ⟨_, _, _, hi'⟩, hst⟩ (by rw [q2]; exact h6) q1 q3 (by rw [hsl]; exact k2_hasslot (q4 k h2)) rfl rfl hd fin
    · exact va_WputK hC.1 hC.2.1 (f := f) hC.2.2.1 h5 hi' hst (by rw [q2]; exact h6) q1 q3 (by rw [hsl]; exact k2_hasslot (q4 k h2)) rfl rfl hd fin
  · rw [if_pos hfin] at hlay
    have hcf : X.2.1.1.cls = cf := by
      obtain ⟨_, _, c', _, _, _, -, -, hf', -, -, -, hown2, -⟩ := Cond.laysFinal_spec hlay
      have e1 : c' = cf := by have := hi.symm.trans hf'; simp at this; exact this.1.symm
      rw [h3, hCo] at hown2
      rw [← e1]; exact Option.some.inj (hC.2.2.1.symm.trans hown2)
    have h6 := u_fits hfc hkC hkind (Or.inr hlay) hi (hty k h2) hn hfit
    rcases h5 with h5 | ⟨host, h5⟩
    · exact W.putFinK hC.1 hC.2.1 hC.2.2.1 h5 hi' hst hcf hin2 (by rw [q2]; exact h6) q1 q3 (by rw [hsl]; exact k2_hasslot (q4 k h2)) rfl rfl hd fin
    · have hlt : f.slot < cell.slots.size := by rw [hsl]; exact k2_hasslot (q4 k h2)
      have ha2 : a < H.size := (Array.getElem?_eq_some_iff.mp q1).1
      refine va_Wputf hC.1 hC.2.1 hC.2.2.1 h5 hi' hst (Or.inr ⟨hcf, hin2⟩) q1 (by rw [q3]; exact fun h => by cases h) hlt h6.1 (by rw [q2, q3]; exact h6.2) rfl rfl hd ?_
      refine fin _ ?_ ?_ ?_
      · simp [Array.getElem?_setIfInBounds, ha2]
      · simp
      · intro q hq
        simp [Array.getElem?_setIfInBounds, Ne.symm hq]
/-! arrays -/
theorem o_alen (hC : rl_C X E cc own Ts Ns) {a t0 N : Nat} {cA : ClassId} {ty : FieldType} {x : (Nat → Int32) ⊕ (Nat → Int64) ⊕ (Nat → UInt32) ⊕ (Nat → UInt64) ⊕ (Nat → Option Nat)} (ht : E.2.2.1[t0]? = some (cA, ty)) (hd : decode cc pc = .ok (.arraylength, 1)) (ha : h a = some (.inl (cA, N, x))) (kk : rl_G X E (pc + 1) lo (.int (nI N) :: st) h n ce sl) : rl_G X E pc lo (.ref a :: st) h n ce sl := fun H locs ls a1 b1 c1 => va_alen hC.1 hC.2.1 hC.2.2.2.2.2.1 (rl_P1 a1 ha) 0 t0 rfl ht rfl hd (kk H locs ls a1 b1 c1)
theorem o_iald (hC : rl_C X E cc own Ts Ns) {a t0 N : Nat} {cA : ClassId} {f : Nat → Int32} {i : Int32} (ht : E.2.2.1[t0]? = some (cA, .int)) (hd : decode cc pc = .ok (.iaload, 1)) (ha : h a = some (.inl (cA, N, .inl f))) (hin : vp_in i N) (kk : rl_G X E (pc + 1) lo (.int (f i.toNatClampNeg) :: st) h n ce sl) : rl_G X E pc lo (.int i :: .ref a :: st) h n ce sl := fun H locs ls a1 b1 c1 => va_iald hC.1 hC.2.1 hC.2.2.2.2.2.1 (rl_P1 a1 ha) 0 t0 rfl ht hin hd (kk H locs ls a1 b1 c1)
theorem o_zald (hC : rl_C X E cc own Ts Ns) {a t0 N : Nat} {cA : ClassId} {f : Nat → Int32} {i : Int32} (ht : E.2.2.1[t0]? = some (cA, .boolean)) (hd : decode cc pc = .ok (.baload, 1)) (ha : h a = some (.inl (cA, N, .inl f))) (hin : vp_in i N) (kk : rl_G X E (pc + 1) lo (.int (f i.toNatClampNeg) :: st) h n ce sl) : rl_G X E pc lo (.int i :: .ref a :: st) h n ce sl := fun H locs ls a1 b1 c1 => va_zald hC.1 hC.2.1 hC.2.2.2.2.2.1 (rl_P1 a1 ha) 0 t0 rfl ht hin hd (kk H locs ls a1 b1 c1)
theorem o_lald (hC : rl_C X E cc own Ts Ns) {a t0 N : Nat} {cA : ClassId} {f : Nat → Int64} {i : Int32} (ht : E.2.2.1[t0]? = some (cA, .long)) (hd : decode cc pc = .ok (.laload, 1)) (ha : h a = some (.inl (cA, N, .inr (.inl f)))) (hin : vp_in i N) (kk : rl_G X E (pc + 1) lo (.long (f i.toNatClampNeg) :: st) h n ce sl) : rl_G X E pc lo (.int i :: .ref a :: st) h n ce sl := fun H locs ls a1 b1 c1 => va_lald hC.1 hC.2.1 hC.2.2.2.2.2.1 (rl_P1 a1 ha) 0 t0 rfl ht hin hd (kk H locs ls a1 b1 c1)
theorem o_aald (hC : rl_C X E cc own Ts Ns) {a t0 N : Nat} {cA : ClassId} {C : String} {f : Nat → Option Nat} {i : Int32} (ht : E.2.2.1[t0]? = some (cA, .object C)) (hd : decode cc pc = .ok (.aaload, 1)) (ha : h a = some (.inl (cA, N, .inr (.inr (.inr (.inr f)))))) (hin : vp_in i N) (kk : rl_G X E (pc + 1) lo (va_rf (f i.toNatClampNeg) :: st) h n ce sl) : rl_G X E pc lo (.int i :: .ref a :: st) h n ce sl := fun H locs ls a1 b1 c1 => va_aldq hC.1 hC.2.1 hC.2.2.2.2.2.1 (rl_P1 a1 ha) 0 t0 rfl ht hin hd (kk H locs ls a1 b1 c1)
theorem rl_put1 {a i : Nat} {e0 : va_E} {H : Heap} {locs : List Loc} (a1 : rl_R E h n H) (ha : h a = some e0) (b1 : ∀ q ∈ locs, E.2.2.2.size ≤ q.base) : ∀ q ∈ locs ++ [⟨a, i⟩], E.2.2.2.size ≤ q.base := by
  intro q hq
  rcases List.mem_append.mp hq with hq | hq
  · exact b1 q hq
  · rw [List.mem_singleton.mp hq]
    exact (a1.2.2.2 a e0 ha).1
theorem o_iast (hC : rl_C X E cc own Ts Ns) {a t0 N : Nat} {cA : ClassId} {f : Nat → Int32} {i x : Int32} (ht : E.2.2.1[t0]? = some (cA, .int)) (hd : decode cc pc = .ok (.iastore, 1)) (ha : h a = some (.inl (cA, N, .inl f))) (hin : vp_in i N) (kk : rl_G X E (pc + 1) lo st (rl_u h a (.inl (cA, N, .inl (upd f i.toNatClampNeg x)))) n ce sl) : rl_G X E pc lo (.int x :: .int i :: .ref a :: st) h n ce sl := by
  intro H locs ls a1 b1 c1
  have hat : H[a]? = some (arrV cA N (fun j => .int (f j))) := (a1.2.2.2 a _ ha).2
  refine W.iast hC.1 hC.2.1 hat ((hC.2.2.2.2.2.1.2 t0 _ ht).1 N (fun j => .int (f j))) (fun q => by cases q) (by show ¬ (i < 0 ∨ (arrV _ _ _).slots.size ≤ _); rw [arrV_size]; exact hin) rfl rfl hd fun H' e z o => ?_
  refine kk H' _ ls (a1.put ha z o ?_) (rl_put1 a1 ha b1) c1
  show H'[a]? = some (vp_cell _ _)
  rw [e, vp_cell_i, arrV_store]
  congr 2
  funext q
  by_cases hq : q = i.toNatClampNeg
  · subst hq
    simp [updV, upd]
  · simp [updV, upd, hq]
theorem o_last (hC : rl_C X E cc own Ts Ns) {a t0 N : Nat} {cA : ClassId} {f : Nat → Int64} {i : Int32} {x : Int64} (ht : E.2.2.1[t0]? = some (cA, .long)) (hd : decode cc pc = .ok (.lastore, 1)) (ha : h a = some (.inl (cA, N, .inr (.inl f)))) (hin : vp_in i N) (kk : rl_G X E (pc + 1) lo st (rl_u h a (.inl (cA, N, .inr (.inl (vp_updL f i.toNatClampNeg x))))) n ce sl) : rl_G X E pc lo (.long x :: .int i :: .ref a :: st) h n ce sl := by
  intro H locs ls a1 b1 c1
  have hat : H[a]? = some (arrV cA N (fun j => .long (f j))) := (a1.2.2.2 a _ ha).2
  refine W.last hC.1 hC.2.1 hat ((hC.2.2.2.2.2.1.2 t0 _ ht).1 N (fun j => .long (f j))) (fun q => by cases q) (by show ¬ (i < 0 ∨ (arrV _ _ _).slots.size ≤ _); rw [arrV_size]; exact hin) rfl rfl hd fun H' e z o => ?_
  refine kk H' _ ls (a1.put ha z o ?_) (rl_put1 a1 ha b1) c1
  show H'[a]? = some (vp_cell _ _)
  rw [e, vp_cell_l, arrV_store]
  congr 2
  funext q
  by_cases hq : q = i.toNatClampNeg
  · subst hq
    simp [updV, vp_updL]
  · simp [updV, vp_updL, hq]
/-- a reference into an array of objects of just that class -/
theorem o_aast (hC : rl_C X E cc own Ts Ns) {a v t0 ci N : Nat} {cA : ClassId} {r : vw_C} {vs : List Value} {f : Nat → Option Nat} {i : Int32} (ht : E.2.2.1[t0]? = some (cA, .object r.1)) (hc : E.2.1[ci]? = some r) (hd : decode cc pc = .ok (.aastore, 1)) (ha : h a = some (.inl (cA, N, .inr (.inr (.inr (.inr f)))))) (hv : h v = some (.inr (ci, vs))) (hin : vp_in i N) (kk : rl_G X E (pc + 1) lo st (rl_u h a (.inl (cA, N, .inr (.inr (.inr (.inr (va_up f i.toNatClampNeg (some v)))))))) n ce sl) : rl_G X E pc lo (.ref v :: .int i :: .ref a :: st) h n ce sl := by
  intro H locs ls a1 b1 c1
  have hlt : i.toNatClampNeg < N := Nat.not_le.mp fun q => hin (Or.inr q)
  have h0 : ¬ i < 0 := fun q => hin (Or.inl q)
  have hat : H[a]? = some (arrV cA N (fun j => va_rf (f j))) := (a1.2.2.2 a _ ha).2
  obtain ⟨-, r', hr', cellV, g1, g2, g3, -⟩ := a1.2.2.2 v _ hv
  have hK := hC.2.2.2.2.2.1
  have hcls := (hK.1 ci r hc).2
  obtain ⟨kA, comp, k1, k2, k3, -⟩ := (hK.2 t0 _ ht).2
  have hcomp : comp = E.1.1 ci := Option.some.inj (k3.symm.trans hcls.1)
  subst hcomp
  obtain ⟨kC, hkC, -⟩ := hcls.2
  refine W.aast hC.1 hC.2.1 hat (fun q h => by cases h) (fun h => by cases h) k1 k2 rfl hkC ⟨h0, by show _ < (arrV _ _ _).slots.size; rw [arrV_size]; exact hlt⟩ g1 (fun q h => by rw [g3] at h; cases h) (by rw [g2]; exact hkC) (by rw [g2]; exact va_assign hcls) rfl rfl hd fun H' e z o => ?_
  refine kk H' _ ls (a1.put ha z o ?_) (rl_put1 a1 ha b1) c1
  show H'[a]? = some (vp_cell _ _)
  rw [e, vp_cell_q, arrV_store]
  congr 2
  funext q
  by_cases hq : q = i.toNatClampNeg
  · subst hq
    simp [updV, va_up, va_rf]
  · simp [updV, va_up, hq]
/-! new cells -/
theorem o_new (hC : rl_C X E cc own Ts Ns) {idx ci N : Nat} {C : String} {T : u_T} {fs : List Value} (hc : E.2.1[ci]? = some (C, T, N)) (hin : ∀ w ∈ u_ws C T N, w ∈ Ts) (ty : Nat → FieldType) (hty : ∀ k, k < N → parseFieldDescriptor (T k).2.2.1 = some (ty k)) (h1 : Cond.classLink own idx C ∈ Ts) (h2 : Cond.instantiable C N ∈ Ts) (h3 : Cond.initialized C ∈ Ts) (hfs : ∀ j, j < N → defaultValue (ty j) = vp_V fs j) (hce : ce + 1 ≤ X.1.2.2.2.1.cells) (hsl : sl + N ≤ X.1.2.2.2.1.slots) (hd : decode cc pc = .ok (.new idx, 3))
    (kk : rl_G X E (pc + 3) lo (.ref n :: st) (rl_u h n (.inr (ci, fs))) (n + 1) (ce + 1) (sl + N)) : rl_G X E pc lo st h n ce sl := by
  intro H locs ls a1 b1 c1
  have hts := hC.2.2.2.1
  have hKn := hC.2.2.2.2.2.1.1 ci _ hc
  refine W.newcK hC.1 hC.2.1 hC.2.2.1 (hts _ h1) (hts _ h2) (hts _ h3) rfl hd hce hsl hKn.2.1 a1.1 fun H1 kC hkC e1 z1 o1 => ?_
  exact kk H1 locs ls (a1.push z1 o1 ⟨_, hc, (u_born ty hts hin hKn hkC e1 hty).to hfs⟩) b1 c1
theorem o_newa (hC : rl_C X E cc own Ts Ns) {atype : ArrayType} {t0 N' : Nat} {cA : ClassId} {ty : FieldType} {x : (Nat → Int32) ⊕ (Nat → Int64) ⊕ (Nat → UInt32) ⊕ (Nat → UInt64) ⊕ (Nat → Option Nat)} {i : Int32} (hty : newarray.typeOf atype = ty) (hnr : ∀ C, ty ≠ .object C) (h1 : Cond.arrayClass ty ∈ Ts) (ht : E.2.2.1[t0]? = some (cA, ty)) (hx : vp_cell cA (N', x) = arrV cA N' (fun _ => defaultValue ty)) (hn : ¬ i < 0) (hN : i.toNatClampNeg = N') (hby : N' * componentBytes ty ≤ 536870912) (hce : ce + 1 ≤ X.1.2.2.2.1.cells) (hsl : sl + N' ≤ X.1.2.2.2.1.slots) (hd : decode cc pc = .ok (.newarray atype, 2))
    (kk : rl_G X E (pc + 2) lo (.ref n :: st) (rl_u h n (.inl (cA, N', x))) (n + 1) (ce + 1) (sl + N')) : rl_G X E pc lo (.int i :: st) h n ce sl := by
  subst hty
  intro H locs ls a1 b1 c1
  have hK := hC.2.2.2.2.2.1
  refine va_newaK hC.1 hC.2.1 (hC.2.2.2.1 _ h1) rfl hd rfl hn hN hby hce hsl a1.1 fun H1 cA2 e1 z1 o1 hAr hNm => ?_
  have hA2 : cA2 = cA := by
    have h4 := (hK.2 t0 _ ht).2
    have h5 : X.1.2.2.2.2.vm.findClass ("[" ++ (newarray.typeOf atype).toString) = some cA := by
      cases atype <;> exact h4
    exact Option.some.inj (hNm.symm.trans h5)
  subst hA2
  refine kk H1 locs ls (a1.push z1 o1 ?_) b1 c1
  show H1[n]? = some (vp_cell _ _)
  rw [hx]
  exact e1
theorem o_anew (hC : rl_C X E cc own Ts Ns) {idx t0 N' : Nat} {cA : ClassId} {C : String} {i : Int32} (h1 : Cond.classLink own idx C ∈ Ts) (h2 : (Cond.arrayOver (.object C)).before X.2.1.2.1 X.1.2.2.2.2 = true) (ht : E.2.2.1[t0]? = some (cA, .object C)) (hn : ¬ i < 0) (hN : i.toNatClampNeg = N') (hby : N' * 4 ≤ 536870912) (hce : ce + 1 ≤ X.1.2.2.2.1.cells) (hsl : sl + N' ≤ X.1.2.2.2.1.slots) (hd : decode cc pc = .ok (.anewarray idx, 3))
    (kk : rl_G X E (pc + 3) lo (.ref n :: st) (rl_u h n (.inl (cA, N', .inr (.inr (.inr (.inr (fun _ => none))))))) (n + 1) (ce + 1) (sl + N')) : rl_G X E pc lo (.int i :: st) h n ce sl := by
  subst hN
  intro H locs ls a1 b1 c1
  have hK := hC.2.2.2.2.2.1
  obtain ⟨zn, -⟩ := id a1
  subst zn
  refine W.anew hC.1 hC.2.1 hC.2.2.1 (hC.2.2.2.1 _ h1) h2 rfl hd rfl hn hby hce hsl fun cA2 kA comp f1 f2 f3 f4 => ?_
  have hA2 : cA2 = cA := by
    obtain ⟨kA', comp', k1, k2, k3, k4⟩ := (hK.2 t0 _ ht).2
    exact Option.some.inj (f1.symm.trans k4)
  subst hA2
  generalize hH1 : H.push ({ cls := cA2, slots := Array.replicate i.toNatClampNeg .null, vm := .none } : Cell) = H1
  have z1 : H1.size = H.size + 1 := by rw [← hH1, Array.size_push]
  have e1 : H1[H.size]? = some (arrV cA2 i.toNatClampNeg (fun _ => .null)) := by rw [← hH1, Array.getElem?_push_size, ← arrV_new]
  have o1 : ∀ q : Nat, q < H.size → H1[q]? = H[q]? := fun q hq => by rw [← hH1, Array.getElem?_push, if_neg (Nat.ne_of_lt hq)]
  refine kk H1 locs ls (a1.push z1 o1 ?_) b1 c1
  show H1[H.size]? = some (vp_cell _ _)
  rw [vp_cell_q]
  exact e1
end RLH
end
section
/-! THE ABSTRACT MACHINE: contracts, calls, returns -/
/-- the words of nest mates and of arrays of objects, which stand beside the others -/
def rl_nw : Cond → Bool
  | .fieldLinkNest _ _ _ _ _ _ => true
  | .methodLinkNest _ _ _ _ => true
  | .arrayOver (.object _) => true
  | .arrayOver (.array _) => true
  | _ => false
theorem rl_AA {t : FieldType} {u U : State} (hvm : u.vm.Alike U.vm) (h : (Cond.arrayOver (.array t)).before #[] u = true) : (Cond.arrayOver (.array t)).before #[] U = true := by
  obtain ⟨comp, c, k, h1, h2, h3, h4, h5⟩ := arrayOverA_spec h
  obtain ⟨k', hk', he⟩ := hvm.2.2 _ _ h3
  have hi : (U.vm.classes.findIdx? fun (x : Class) => match x.kind with | .array component _ => component == comp | _ => false) = some c := by
    refine (va_idx_bare U.vm comp).symm.trans ?_
    first | rw [hvm.bare_eq] | rw [← hvm.bare_eq]
    exact (va_idx_bare u.vm comp).trans h2
  have hkind : k'.kind = .array comp (.array t) := by rw [he]; exact h4
  have f1 : U.vm.findClass (FieldType.array t).toString = some comp := by rw [hvm.findClass]; exact h1
  have f2 : U.vm.findClass ("[" ++ (FieldType.array t).toString) = some c := by rw [hvm.findClass]; exact h5
  unfold Cond.before Cond.holds
  simp only [Cond.value]
  rw [f1, Option.bind_some]
  refine (congrArg (fun o : Option Nat => (o.bind (fun c => (U.vm.classes[c]?).map fun (k : Class) => match k.kind with | .array _ ty => decide (ty = FieldType.array t) && decide (U.vm.findClass ("[" ++ (FieldType.array t).toString) = some c) | _ => false) == some true)) hi).trans ?_
  simp [hk', hkind, f2]
theorem rl_nw_warm {w : Cond} (hw : rl_nw w = true) {s U : State} (hW : s.WarmedH U.vm) (h : w.before #[] s = true) : w.before #[] U = true := by
  cases w with
  | fieldLinkNest => exact va_Nw.warmF hW h
  | methodLinkNest => exact va_Nw.warmM hW h
  | arrayOver t =>
    cases t with
    | object C => exact va_AO.moved hW.alike h
    | array t => exact rl_AA hW.alike h
    | _ => cases hw
  | _ => cases hw
theorem rl_nw_vm {w : Cond} (hw : rl_nw w = true) {s U : State} (hW : s.vm = U.vm) (h : w.before #[] s = true) : w.before #[] U = true := by
  cases w with
  | fieldLinkNest => exact va_Nw.same rfl hW h
  | methodLinkNest => exact va_Nw.same rfl hW h
  | arrayOver t =>
    cases t with
    | object C => exact va_AO.moved (by rw [hW]; exact Vm.Alike.refl _) h
    | array t => exact rl_AA (by rw [hW]; exact Vm.Alike.refl _) h
    | _ => cases hw
  | _ => cases hw
/-- a method's start: the heap holds h, the tables are known, the nest mates' words hold -/
abbrev rl_Pc (E : rl_E) (Ns : List Cond) (av : List Value) (h : rl_H) (n : Nat) : Array Value → State → Prop := va_Pc av (fun U => rl_R E h n U.heap ∧ va_K E.1 E.2.1 E.2.2.1 U ∧ ∀ w ∈ Ns, w.before #[] U = true)
/-- its end -/
abbrev rl_Qc (E : rl_E) (Post : Option Value → rl_H → Nat → Prop) : Array Value → State → Outcome → State → Prop := fun _ _ oc t => ∃ (v : Option Value) (h' : rl_H) (n' : Nat), oc = .returned v ∧ Post v h' n' ∧ rl_R E h' n' t.heap
/-- THE CONTRACT of a method: from every state that holds h it returns, with an answer and a heap as Post says -/
def rl_Met (l : Launch) (E : rl_E) (BW Ns : List Cond) (y : MethodName) (cc : ByteArray) (nL : Nat) (ret : Option FieldType) (rm : Room) (av : List Value) (h : rl_H) (n : Nat) (Post : Option Value → rl_H → Nat → Prop) : Prop :=
  Met l y (Cond.code y cc nL ret :: BW) rm (rl_Pc E Ns av h n) (rl_Qc E Post) rm.cells rm.slots (fun q => E.2.2.2.size ≤ q)
/-- the arguments as locals -/
def rl_a : List Value → List (Option Value)
  | [] => []
  | .long x :: t => some (.long x) :: none :: rl_a t
  | .double x :: t => some (.double x) :: none :: rl_a t
  | v :: t => some v :: rl_a t
def rl_in (nL : Nat) (av : List Value) : List (Option Value) := rl_a av ++ List.replicate (nL - (rl_a av).length) none
theorem rl_a_of : ∀ (av : List Value) (b i : Nat) (v : Value), (rl_a av)[i]? = some (some v) → (b + i, v) ∈ lv_args b av
  | [], b, i, v, h => by simp [rl_a] at h
  | w :: t, b, 0, v, h => by
    have h1 : w = v := by cases w <;> simp_all [rl_a]
    subst h1
    exact List.mem_cons_self
  | w :: t, b, i + 1, v, h => by
    refine List.mem_cons_of_mem _ ?_
    by_cases hc : w.category = 2
    · rw [if_pos hc]
      cases i with
      | zero => cases w <;> simp_all [rl_a, Value.category]
      | succ i =>
        have h1 : (rl_a t)[i]? = some (some v) := by cases w <;> simp_all [rl_a, Value.category]
        have := rl_a_of t (b + 2) i v h1
        rw [show b + (i + 1 + 1) = b + 2 + i by omega]
        exact this
    · rw [if_neg hc]
      have h1 : (rl_a t)[i]? = some (some v) := by cases w <;> simp_all [rl_a, Value.category]
      have := rl_a_of t (b + 1) i v h1
      rw [show b + (i + 1) = b + 1 + i by omega]
      exact this
theorem rl_a_len : ∀ av : List Value, (rl_a av).length = (lg_sl av).length
  | [] => rfl
  | w :: t => by
    have ih := rl_a_len t
    have hs : (lg_sl (w :: t)).length = (if w.category = 2 then [Slot.val w, Slot.second] else [Slot.val w]).length + (lg_sl t).length := by simp [lg_sl]
    rw [hs, ← ih]
    cases w <;> simp [rl_a, Value.category] <;> omega
theorem rl_in_L {av : List Value} {nL : Nat} (h : (rl_a av).length ≤ nL) : rl_L ((lg_sl av ++ List.replicate (nL - (lg_sl av).length) Slot.unset).toArray) (rl_in nL av) := by
  refine rl_L.of (lv_entry av (n := nL) (by rw [← rl_a_len]; exact h)) (by simp [rl_in]; omega) (fun i v hi => ?_)
  unfold rl_in at hi
  by_cases hl : i < (rl_a av).length
  · rw [List.getElem?_append_left hl] at hi
    have := rl_a_of av 0 i v hi
    simpa using this
  · rw [List.getElem?_append_right (by omega)] at hi
    simp [List.getElem?_replicate] at hi
section RLC
variable {X : rl_X} {E : rl_E} {cc : ByteArray} {own : String} {BW Ns : List Cond} {pc : Nat} {lo : List (Option Value)} {st : List Value} {h : rl_H} {n ce sl : Nat}
/-- the end that a walk goes to -/
def rl_Q (X : rl_X) (E : rl_E) (Post : Option Value → rl_H → Nat → Prop) (mc ms : Nat) : State → Prop := MQ X.2.1.2.2.1 (rl_Qc E Post) X.2.1.2.1 X.1.2.2.2.2 mc ms (fun q => E.2.2.2.size ≤ q)
/-- what a walk of a method has beside rl_C: its room, its end, its return type, its name, its locals -/
def rl_B (X : rl_X) (E : rl_E) (l : Launch) (y : MethodName) (nL : Nat) (ret : Option FieldType) (rm : Room) (Post : Option Value → rl_H → Nat → Prop) : Prop :=
  X.1.2.1 = l ∧ X.1.2.2.2.1 = rm ∧ X.2.2 = rl_Q X E Post rm.cells rm.slots ∧ X.2.1.2.2.2.1.sig.returnType = ret ∧ X.2.1.2.2.2.1.name = y.name ∧ X.2.1.2.2.2.2.maxLocals = nL
theorem rl_Met.of {l : Launch} {y : MethodName} {nL : Nat} {ret : Option FieldType} {rm : Room} {av : List Value} {Post : Option Value → rl_H → Nat → Prop} (hy : plainName y.cls = true) (hav : (rl_a av).length ≤ nL)
    (body : ∀ X : rl_X, rl_C X E cc y.cls BW Ns → rl_B X E l y nL ret rm Post → rl_G X E 0 (rl_in nL av) [] h n 0 0) : rl_Met l E BW Ns y cc nL ret rm av h n Post := by
  refine Met.ofW (cc := cc) (maxL := nL) (ret := ret) hy rfl ?_
  intro p e s m args below meth c s₁ B hml hv
  obtain ⟨rfl, hR, hK, hN⟩ := hv
  have hts := atoms_spec (ws := Cond.code y cc nL ret :: BW) B.pre
  have hown : s.vm.findClass y.cls = some m.cls := findClass_of_methodNamed B.named
  have hb := body ((p, l, e, rm, s), (m, av.toArray, below, meth, c), MQ below (rl_Qc E Post) av.toArray s rm.cells rm.slots (fun q => E.2.2.2.size ≤ q))
    ⟨B.exec, B.bytes, hown, fun w hw => hts w (List.mem_cons_of_mem _ hw), hN, hK, B.notSynchronized⟩ ⟨rfl, rfl, rfl, B.returns, (name_of_methodNamed B.named B.method).1, hml⟩
  rw [lg_entry_eq]
  exact hb s.heap [] _ hR (fun q hq => by cases hq) (rl_in_L hav)
/-! returns -/
variable {l : Launch} {y : MethodName} {nL : Nat} {ret : Option FieldType} {rm : Room} {Post : Option Value → rl_H → Nat → Prop}
theorem o_iret (hC : rl_C X E cc own BW Ns) (hB : rl_B X E l y nL (some .int) rm Post) {v : Int32} (hd : decode cc pc = .ok (.ireturn, 1)) (hce : ce ≤ rm.cells) (hsl : sl ≤ rm.slots) (hp : Post (some (.int v)) h n) : rl_G X E pc lo [.int v] h n ce sl := by
  intro H locs ls a b c
  show W _ _ _ _ _ _ _ _ _ _ _ _ _ _ X.2.2 _
  rw [hB.2.2.1]
  refine W.widen hce hsl ?_
  exact W.iret hC.1 hC.2.1 hB.2.2.2.1 (fun t ht _ => ⟨_, h, n, rfl, hp, by rw [ht]; exact a⟩) b hd hC.2.2.2.2.2.2
theorem o_zret (hC : rl_C X E cc own BW Ns) (hB : rl_B X E l y nL (some .boolean) rm Post) {v : Int32} (hd : decode cc pc = .ok (.ireturn, 1)) (hv : narrow .boolean (.int v) = .int v) (hce : ce ≤ rm.cells) (hsl : sl ≤ rm.slots) (hp : Post (some (.int v)) h n) : rl_G X E pc lo [.int v] h n ce sl := by
  intro H locs ls a b c
  show W _ _ _ _ _ _ _ _ _ _ _ _ _ _ X.2.2 _
  rw [hB.2.2.1]
  refine W.widen hce hsl ?_
  exact W.zret hC.1 hC.2.1 hB.2.2.2.1 hv (fun t ht _ => ⟨_, h, n, rfl, hp, by rw [ht]; exact a⟩) b hd hC.2.2.2.2.2.2
theorem o_lret (hC : rl_C X E cc own BW Ns) (hB : rl_B X E l y nL (some .long) rm Post) {v : Int64} (hd : decode cc pc = .ok (.lreturn, 1)) (hce : ce ≤ rm.cells) (hsl : sl ≤ rm.slots) (hp : Post (some (.long v)) h n) : rl_G X E pc lo [.long v] h n ce sl := by
  intro H locs ls a b c
  show W _ _ _ _ _ _ _ _ _ _ _ _ _ _ X.2.2 _
  rw [hB.2.2.1]
  refine W.widen hce hsl ?_
  exact W.lret hC.1 hC.2.1 hB.2.2.2.1 (fun t ht _ => ⟨_, h, n, rfl, hp, by rw [ht]; exact a⟩) b hd hC.2.2.2.2.2.2
theorem o_vret (hC : rl_C X E cc own BW Ns) (hB : rl_B X E l y nL none rm Post) (hd : decode cc pc = .ok (.return_, 1)) (hce : ce ≤ rm.cells) (hsl : sl ≤ rm.slots) (hp : Post none h n) : rl_G X E pc lo [] h n ce sl := by
  intro H locs ls a b c
  show W _ _ _ _ _ _ _ _ _ _ _ _ _ _ X.2.2 _
  rw [hB.2.2.1]
  refine W.widen hce hsl ?_
  exact W.vret hC.1 hC.2.1 hB.2.2.2.1 (fun t ht _ => ⟨_, h, n, rfl, hp, by rw [ht]; exact a⟩) b hd hC.2.2.2.2.2.2
theorem o_aret (hC : rl_C X E cc own BW Ns) {rt : FieldType} (hB : rl_B X E l y nL (some rt) rm Post) {v : Value} (hrt : (∃ n, rt = .object n) ∨ ∃ t, rt = .array t) (hv : v = .null ∨ ∃ a, v = .ref a) (hd : decode cc pc = .ok (.areturn, 1)) (hce : ce ≤ rm.cells) (hsl : sl ≤ rm.slots) (hp : Post (some v) h n) : rl_G X E pc lo [v] h n ce sl := by
  intro H locs ls a b c
  show W _ _ _ _ _ _ _ _ _ _ _ _ _ _ X.2.2 _
  rw [hB.2.2.1]
  refine W.widen hce hsl ?_
  exact W.aret hC.1 hC.2.1 hB.2.2.2.1 hrt hv (fun t ht _ => ⟨_, h, n, rfl, hp, by rw [ht]; exact a⟩) b hd hC.2.2.2.2.2.2
/-! calls -/
/-- what the words say of a method that is called -/
def rl_Y (BW : List Cond) (y : MethodName) (bytes : ByteArray) (maxL : Nat) (ret : Option FieldType) (k : Nat) : Prop :=
  Cond.code y bytes maxL ret ∈ BW ∧ Cond.initialized y.cls ∈ BW ∧ (y.cls ≠ "java/lang/invoke/MethodHandle" ∧ y.cls ≠ "java/lang/invoke/VarHandle" ∧ (parseMethodDescriptor y.desc).map (fun d => d.parameters.length) = some k)
/-- a method's link -/
def rl_M (X : rl_X) (own : String) (idx : Nat) (y : MethodName) : Prop := (Cond.methodLink own idx y).before X.2.1.2.1 X.1.2.2.2.2 = true ∨ ∃ host : String, va_Nw (.methodLinkNest own idx y host) X.1.2.2.2.2
theorem rl_Mo (hC : rl_C X E cc own BW Ns) {idx : Nat} (h1 : Cond.methodLink own idx y ∈ BW) : rl_M X own idx y := Or.inl (hC.2.2.2.1 _ h1)
theorem rl_Mn (hC : rl_C X E cc own BW Ns) {idx : Nat} {host : String} (h1 : Cond.methodLinkNest own idx y host ∈ Ns) : rl_M X own idx y := Or.inr ⟨host, hC.2.2.2.2.1 _ h1⟩
theorem rl_good {bytes : ByteArray} {maxL : Nat} (hG : ∀ w ∈ BW, goodWord w = true) (hc : Cond.code y bytes maxL ret ∈ BW) : GoodIn BW (Cond.code y bytes maxL ret :: BW) := by
  intro w hw
  rcases List.mem_cons.mp hw with rfl | hw
  · exact ⟨hc, good_of_word (hG _ hc)⟩
  · exact ⟨hw, good_of_word (hG _ hw)⟩
theorem rl_blind (hN : ∀ w ∈ Ns, rl_nw w = true) {av : List Value} : FrameBlind (rl_Pc E Ns av h n) := by
  intro a U g mk q
  obtain ⟨q0, q1, q2, q3⟩ := q
  exact ⟨q0, q1, va_K.moved (u := U) (U := U.calling g mk a) (Vm.Alike.refl U.vm) q2, fun w hw => rl_nw_vm (hN w hw) (s := U) rfl (q3 w hw)⟩
theorem rl_pre (hC : rl_C X E cc own BW Ns) (hN : ∀ w ∈ Ns, rl_nw w = true) {H : Heap} (hR : rl_R E h n H) {av : List Value} : ∀ U : State, U.heap = H → X.1.2.2.2.2.WarmedH U.vm → rl_Pc E Ns av h n av.toArray U :=
  fun U hU hW => ⟨rfl, by rw [hU]; exact hR, va_K.moved hW.alike hC.2.2.2.2.2.1, fun w hw => rl_nw_warm (hN w hw) hW (hC.2.2.2.2.1 w hw)⟩
theorem rl_run {mc ms : Nat} {H : Heap} {locs : List Loc} {g : JFrame} {rest : List Value} {a : Array Value} (b1 : ∀ q ∈ locs, E.2.2.2.size ≤ q.base)
    (hr : va_Run X.1.1 X.1.2.1 X.1.2.2.1 X.1.2.2.2.1 X.1.2.2.2.2 X.2.1.1 X.2.1.2.1 X.2.1.2.2.1 X.2.1.2.2.2.1 X.2.1.2.2.2.2 H locs ce sl mc ms g rest (rl_Qc E Post a) (fun q => E.2.2.2.size ≤ q))
    (kk : ∀ (v : Option Value) (h' : rl_H) (n' : Nat) (H1 : Heap) (locs1 : List Loc), Post v h' n' → rl_R E h' n' H1 → (∀ q ∈ locs1, E.2.2.2.size ≤ q.base) → rl_W X H1 locs1 (ce + mc) (sl + ms) { g with pc := g.pc + 3, stack := v.toList ++ rest }) : rl_W X H locs ce sl g := by
  intro T hT S
  obtain ⟨v, st0, t, T', L, e0, S', hL, e1, e2, ⟨v', h', n', hv, hp, hR⟩, go⟩ := hr T hT S
  cases hv
  obtain ⟨t', a1, a2⟩ := kk v h' n' T'.heap (locs ++ L) hp (by rw [e1]; exact hR) (fun q hq => (List.mem_append.mp hq).elim (b1 q) (hL q)) T' rfl S'
  exact ⟨t', go _ a1, a2⟩
theorem o_callV {bytes : ByteArray} {maxL nL' idx b ci N : Nat} {C : String} {T : u_T} {fs As rest : List Value} {ret' : Option FieldType} {rm' : Room} {y' : MethodName} {Post' : Option Value → rl_H → Nat → Prop}
    (hC : rl_C X E cc own BW Ns) (hG : ∀ w ∈ BW, goodWord w = true) (hN : ∀ w ∈ Ns, rl_nw w = true) (hml : X.2.1.2.2.2.2.maxLocals = lo.length) (hY : rl_Y BW y' bytes maxL ret' As.length) (h1 : Cond.instanceMethod y' ∈ BW) (h2 : Cond.selects y'.cls y' y' ∈ BW) (hl : rl_M X own idx y')
    (hM : rl_Met X.1.2.1 E BW Ns y' bytes maxL ret' rm' (.ref b :: As) h n Post') (hb : h b = some (.inr (ci, fs))) (hc : E.2.1[ci]? = some (C, T, N)) (hCy : C = y'.cls)
    (hst : (rest.map fun v => v.category).sum ≤ 8) (hr1 : rm'.frames + 1 ≤ X.1.2.2.2.1.frames) (hr2 : 8 + (maxL + 11) + rm'.locals ≤ X.1.2.2.2.1.locals) (hr3 : ce + rm'.cells ≤ X.1.2.2.2.1.cells) (hr4 : sl + rm'.slots ≤ X.1.2.2.2.1.slots) (hd : decode cc pc = .ok (.invokevirtual idx, 3))
    (kk : ∀ (v : Option Value) (h' : rl_H) (n' : Nat), Post' v h' n' → rl_G X E (pc + 3) lo (v.toList ++ rest) h' n' (ce + rm'.cells) (sl + rm'.slots)) : rl_G X E pc lo (As.reverse ++ .ref b :: rest) h n ce sl := by
  subst hCy
  intro H locs ls a1 b1 c1
  have hts := hC.2.2.2.1
  have hfix : CallFix X.1.1 X.2.1.1 X.2.1.2.2.2.2 cc lo.length X.1.2.2.2.2 X.2.1.2.1 BW own := ⟨hC.1, hC.2.1, hml, hC.2.2.1, hts⟩
  have hrecv : ∃ cellB : Cell, H[b]? = some cellB ∧ cellB.vm.isStatics = false ∧ X.1.2.2.2.2.vm.findClass y'.cls = some cellB.cls := va_recv hC.2.2.2.2.2.1 (rl_P1 a1 hb) hc (q0 := 0) rfl
  have hpre : PreV X.1.2.2.2.2 H y'.cls b (rl_Pc E Ns (.ref b :: As) h n) As := ⟨rl_blind hN, hrecv, rl_pre hC hN a1⟩
  have hend : ∀ (v : Option Value) (h' : rl_H) (n' : Nat) (H1 : Heap) (locs1 : List Loc), Post' v h' n' → rl_R E h' n' H1 → (∀ q ∈ locs1, E.2.2.2.size ≤ q.base) → rl_W X H1 locs1 (ce + rm'.cells) (sl + rm'.slots) (F0 X.2.1.1 (pc + 3) ls (v.toList ++ rest)) := fun v h' n' H1 locs1 hp hR hL => kk v h' n' hp H1 locs1 ls hR hL c1
  rcases hl with hl | ⟨host, hl⟩
  · exact rl_run b1 (va_runV (y := y') (As := As) (rest := rest) hfix hM ⟨callB_of As.length hts (rl_good hG hY.1) rfl rfl rfl (hts _ hY.2.1) hl hY.2.2 ⟨hr1, hr2⟩, hts _ h1, hts _ h2⟩ hpre rfl rfl c1.1 rfl (lv_room hst) hd ⟨hr3, hr4⟩) hend
  · exact rl_run b1 (va_runVN (y := y') (As := As) (rest := rest) hfix hM ⟨va_cnB As.length hts (rl_good hG hY.1) rfl rfl rfl hl (hts _ hY.2.1) hY.2.2 ⟨hr1, hr2⟩, hts _ h1, hts _ h2⟩ hpre rfl rfl c1.1 rfl (lv_room hst) hd ⟨hr3, hr4⟩) hend
theorem o_callS {bytes : ByteArray} {maxL nL' idx : Nat} {As rest : List Value} {ret' : Option FieldType} {rm' : Room} {y' : MethodName} {Post' : Option Value → rl_H → Nat → Prop}
    (hC : rl_C X E cc own BW Ns) (hG : ∀ w ∈ BW, goodWord w = true) (hN : ∀ w ∈ Ns, rl_nw w = true) (hml : X.2.1.2.2.2.2.maxLocals = lo.length) (hY : rl_Y BW y' bytes maxL ret' As.length) (h1 : Cond.static y' ∈ BW) (hl : rl_M X own idx y')
    (hM : rl_Met X.1.2.1 E BW Ns y' bytes maxL ret' rm' As h n Post')
    (hst : (rest.map fun v => v.category).sum ≤ 8) (hr1 : rm'.frames + 1 ≤ X.1.2.2.2.1.frames) (hr2 : 8 + (maxL + 11) + rm'.locals ≤ X.1.2.2.2.1.locals) (hr3 : ce + rm'.cells ≤ X.1.2.2.2.1.cells) (hr4 : sl + rm'.slots ≤ X.1.2.2.2.1.slots) (hd : decode cc pc = .ok (.invokestatic idx, 3))
    (kk : ∀ (v : Option Value) (h' : rl_H) (n' : Nat), Post' v h' n' → rl_G X E (pc + 3) lo (v.toList ++ rest) h' n' (ce + rm'.cells) (sl + rm'.slots)) : rl_G X E pc lo (As.reverse ++ rest) h n ce sl := by
  intro H locs ls a1 b1 c1
  have hts := hC.2.2.2.1
  have hfix : CallFix X.1.1 X.2.1.1 X.2.1.2.2.2.2 cc lo.length X.1.2.2.2.2 X.2.1.2.1 BW own := ⟨hC.1, hC.2.1, hml, hC.2.2.1, hts⟩
  have hpre : PreS X.1.2.2.2.2 H (rl_Pc E Ns As h n) As := ⟨rl_blind hN, rl_pre hC hN a1⟩
  have hend : ∀ (v : Option Value) (h' : rl_H) (n' : Nat) (H1 : Heap) (locs1 : List Loc), Post' v h' n' → rl_R E h' n' H1 → (∀ q ∈ locs1, E.2.2.2.size ≤ q.base) → rl_W X H1 locs1 (ce + rm'.cells) (sl + rm'.slots) (F0 X.2.1.1 (pc + 3) ls (v.toList ++ rest)) := fun v h' n' H1 locs1 hp hR hL => kk v h' n' hp H1 locs1 ls hR hL c1
  rcases hl with hl | ⟨host, hl⟩
  · exact rl_run b1 (va_runS (y := y') (As := As) (rest := rest) hfix hM ⟨callB_of As.length hts (rl_good hG hY.1) rfl rfl rfl (hts _ hY.2.1) hl hY.2.2 ⟨hr1, hr2⟩, hts _ h1⟩ hpre rfl rfl c1.1 rfl (lv_room hst) hd ⟨hr3, hr4⟩) hend
  · exact rl_run b1 (va_runSN (y := y') (As := As) (rest := rest) hfix hM ⟨va_cnB As.length hts (rl_good hG hY.1) rfl rfl rfl hl (hts _ hY.2.1) hY.2.2 ⟨hr1, hr2⟩, hts _ h1, trivial⟩ hpre rfl rfl c1.1 rfl (lv_room hst) hd ⟨hr3, hr4⟩) hend
theorem o_callI {bytes : ByteArray} {maxL nL' idx b : Nat} {As rest : List Value} {rm' : Room} {y' : MethodName} {Post' : Option Value → rl_H → Nat → Prop}
    (hC : rl_C X E cc own BW Ns) (hG : ∀ w ∈ BW, goodWord w = true) (hN : ∀ w ∈ Ns, rl_nw w = true) (hml : X.2.1.2.2.2.2.maxLocals = lo.length) (hY : rl_Y BW y' bytes maxL none As.length) (hi : y'.name = "<init>") (h1 : Cond.instanceMethod y' ∈ BW) (hl : rl_M X own idx y')
    (hM : rl_Met X.1.2.1 E BW Ns y' bytes maxL none rm' (.ref b :: As) h n Post')
    (hst : (rest.map fun v => v.category).sum ≤ 8) (hr1 : rm'.frames + 1 ≤ X.1.2.2.2.1.frames) (hr2 : 8 + (maxL + 11) + rm'.locals ≤ X.1.2.2.2.1.locals) (hr3 : ce + rm'.cells ≤ X.1.2.2.2.1.cells) (hr4 : sl + rm'.slots ≤ X.1.2.2.2.1.slots) (hd : decode cc pc = .ok (.invokespecial idx, 3))
    (kk : ∀ (v : Option Value) (h' : rl_H) (n' : Nat), Post' v h' n' → rl_G X E (pc + 3) lo (v.toList ++ rest) h' n' (ce + rm'.cells) (sl + rm'.slots)) : rl_G X E pc lo (As.reverse ++ .ref b :: rest) h n ce sl := by
  intro H locs ls a1 b1 c1
  have hts := hC.2.2.2.1
  have hfix : CallFix X.1.1 X.2.1.1 X.2.1.2.2.2.2 cc lo.length X.1.2.2.2.2 X.2.1.2.1 BW own := ⟨hC.1, hC.2.1, hml, hC.2.2.1, hts⟩
  have hpre : PreS X.1.2.2.2.2 H (rl_Pc E Ns (.ref b :: As) h n) (.ref b :: As) := ⟨rl_blind hN, rl_pre hC hN a1⟩
  have hend : ∀ (v : Option Value) (h' : rl_H) (n' : Nat) (H1 : Heap) (locs1 : List Loc), Post' v h' n' → rl_R E h' n' H1 → (∀ q ∈ locs1, E.2.2.2.size ≤ q.base) → rl_W X H1 locs1 (ce + rm'.cells) (sl + rm'.slots) (F0 X.2.1.1 (pc + 3) ls (v.toList ++ rest)) := fun v h' n' H1 locs1 hp hR hL => kk v h' n' hp H1 locs1 ls hR hL c1
  rcases hl with hl | ⟨host, hl⟩
  · exact rl_run b1 (va_runI (y := y') (As := As) (rest := rest) hfix hM ⟨callB_of As.length hts (rl_good hG hY.1) rfl rfl rfl (hts _ hY.2.1) hl hY.2.2 ⟨hr1, hr2⟩, hi, hts _ h1⟩ hpre rfl rfl c1.1 rfl (lv_room hst) hd ⟨hr3, hr4⟩) hend
  · exact rl_run b1 (va_runIN (y := y') (As := As) (rest := rest) hfix hM ⟨va_cnB As.length hts (rl_good hG hY.1) rfl rfl rfl hl (hts _ hY.2.1) hY.2.2 ⟨hr1, hr2⟩, hi, hts _ h1⟩ hpre rfl rfl c1.1 rfl (lv_room hst) hd ⟨hr3, hr4⟩) hend
/-- Object's own constructor -/
theorem o_objInit (hC : rl_C X E cc own BW Ns) {idx a : Nat} (hml : X.2.1.2.2.2.2.maxLocals = lo.length) (h1 : Cond.methodLink own idx objectInit ∈ BW) (h2 : Cond.instanceMethod objectInit ∈ BW) (h3 : Cond.code objectInit ⟨#[0xb1]⟩ 1 none ∈ BW) (hd : decode cc pc = .ok (.invokespecial idx, 3)) (hr1 : 1 ≤ X.1.2.2.2.1.frames) (hr2 : (st.map fun v => v.category).sum + 12 ≤ X.1.2.2.2.1.locals) (kk : rl_G X E (pc + 3) lo st h n ce sl) : rl_G X E pc lo (.ref a :: st) h n ce sl := by
  intro H locs ls a1 b1 c1
  have hts := hC.2.2.2.1
  exact W.objInit hC.1 hC.2.1 hC.2.2.1 (hts _ h1) (hts _ h2) (hts _ h3) rfl (by rw [hml]; exact c1.1) rfl hd hr1 (by show 2 * 0 + _ + 12 ≤ _; omega) (kk H locs ls a1 b1 c1)
end RLC
end
section
/-! new T[n][m] and the script's own cell -/
theorem rl_outer (c : ClassId) (N h0 : Nat) : ∀ i : Nat, Jvm.Free.Multi.outerC c N h0 i = arrV c N (fun j => va_rf (if j < i then some (h0 + 1 + j) else none))
  | 0 => by
    show ({ cls := c, slots := Array.replicate N .null, vm := .none } : Cell) = _
    rw [arrV_new]
    refine congrArg (arrV c N) (funext fun j => ?_)
    simp [va_rf]
  | i + 1 => by
    show (Jvm.Free.Multi.outerC c N h0 i).setSlot i (.ref (h0 + 1 + i)) = _
    rw [rl_outer c N h0 i, arrV_store]
    refine congrArg (arrV c N) (funext fun j => ?_)
    by_cases e : j = i
    · subst e
      simp [updV, va_rf]
    · by_cases h : j < i
      · simp [updV, e, h, Nat.lt_succ_of_lt h]
      · simp [updV, e, h, show ¬ j < i + 1 by omega]
/-- N cells from a on -/
def rl_us (h : rl_H) (a N : Nat) (e : va_E) : rl_H := fun q => if a ≤ q ∧ q < a + N then some e else h q
theorem rl_us_s {h : rl_H} {a N q : Nat} {e : va_E} (hq : a ≤ q ∧ q < a + N) : rl_us h a N e q = some e := if_pos hq
theorem rl_us_n {h : rl_H} {a N q : Nat} {e : va_E} (hq : q < a ∨ a + N ≤ q) : rl_us h a N e q = h q := if_neg (by omega)
section RLM
variable {X : rl_X} {E : rl_E} {cc : ByteArray} {own : String} {Ts Ns : List Cond} {pc : Nat} {lo : List (Option Value)} {st : List Value} {h : rl_H} {n ce sl : Nat}
theorem o_mna (hC : rl_C X E cc own Ts Ns) {idx t0 t1 N' K' : Nat} {ty : FieldType} {cA cy : ClassId} {i k : Int32} {z : vp_A} (h1 : Cond.classLink own idx ("[" ++ (FieldType.array ty).toString) ∈ Ts) (h2 : Cond.arrayOver (.array ty) ∈ Ns) (h3 : Cond.arrayClass ty ∈ Ts) (ht : E.2.2.1[t0]? = some (cA, .array ty)) (ht1 : E.2.2.1[t1]? = some (cy, ty)) (hnr : ∀ C, ty ≠ .object C)
    (hn : ¬ i < 0) (hk : ¬ k < 0) (hN : i.toNatClampNeg = N') (hM : k.toNatClampNeg = K') (hb1 : N' * 4 ≤ 536870912) (hb2 : K' * componentBytes ty ≤ 536870912) (hb3 : K' ≤ 536870912) (hdf : fits ty (defaultValue ty) = true) (hdd : (defaultValue ty).isDefault = true) (hce : ce + (1 + N') ≤ X.1.2.2.2.1.cells) (hsl : sl + (N' + N' * K') ≤ X.1.2.2.2.1.slots) (hz : ∀ c : ClassId, Jvm.Free.Multi.innerC c K' (defaultValue ty) = vp_cell c z) (hd : decode cc pc = .ok (.multianewarray idx 2, 4))
    (kk : rl_G X E (pc + 4) lo (.ref n :: st) (rl_us (rl_u h n (.inl (cA, N', .inr (.inr (.inr (.inr (fun j => if j < N' then some (n + 1 + j) else none))))))) (n + 1) N' (.inl (cy, z))) (n + 1 + N') (ce + 1 + N') (sl + N' + N' * K')) : rl_G X E pc lo (.int k :: .int i :: st) h n ce sl := by
  subst hN
  subst hM
  intro H locs ls a1 b1 c1 T hT Xs
  have hts := hC.2.2.2.1
  have hK := hC.2.2.2.2.2.1
  have hov : (Cond.arrayOver (.array ty)).before X.2.1.2.1 X.1.2.2.2.2 = true := hC.2.2.2.2.1 _ h2
  obtain ⟨vm₁, cA2, comp, -, fA, fC, hO, -, X', step⟩ := Xs.multianewarray2F hC.1 hC.2.2.1 (hts _ h1) hov (hts _ h3) (g := F0 X.2.1.1 pc ls (.int k :: .int i :: st)) rfl (by rw [hC.2.1]; exact hd) rfl hn hk hb1 hb2 hb3 hdf hdd hce hsl
  have e1 : cA2 = cA := Option.some.inj (fA.symm.trans (hK.2 t0 _ ht).2)
  have e2 : comp = cy := by
    have h5 : X.1.2.2.2.2.vm.findClass ("[" ++ ty.toString) = some cy := by
      have h4 := (hK.2 t1 _ ht1).2
      cases ty <;> first | exact h4 | exact absurd rfl (hnr _)
    exact Option.some.inj (fC.symm.trans h5)
  subst e1
  subst e2
  generalize hF : Jvm.Free.Multi.fill (T.setVm vm₁) cA2 comp i.toNatClampNeg k.toNatClampNeg (defaultValue ty) i.toNatClampNeg = F at X' step
  have hTh : (T.setVm vm₁).heap = H := hT
  obtain ⟨f1, f2, -, -⟩ := Jvm.Free.Multi.fill_facts (T.setVm vm₁) cA2 comp i.toNatClampNeg k.toNatClampNeg (defaultValue ty) i.toNatClampNeg
  rw [hF, hTh] at f1 f2
  have hold : ∀ x : Nat, x < H.size → F.heap[x]? = H[x]? := fun x hx => by
    have := Jvm.Free.Multi.fill_old (T.setVm vm₁) cA2 comp i.toNatClampNeg k.toNatClampNeg (defaultValue ty) (a := x) (by rw [hTh]; exact hx) i.toNatClampNeg
    rw [hF, hTh] at this
    exact this
  have hrow : ∀ j : Nat, j < i.toNatClampNeg → F.heap[H.size + 1 + j]? = some (vp_cell comp z) := fun j hj => by
    have := Jvm.Free.Multi.fill_inner (T.setVm vm₁) cA2 comp i.toNatClampNeg k.toNatClampNeg (defaultValue ty) i.toNatClampNeg j hj
    rw [hF, hTh, hz] at this
    exact this
  have hout : Jvm.Free.Multi.outerC cA2 i.toNatClampNeg H.size i.toNatClampNeg = vp_cell cA2 (i.toNatClampNeg, .inr (.inr (.inr (.inr (fun j => if j < i.toNatClampNeg then some (H.size + 1 + j) else none))))) := by
    rw [vp_cell_q]
    exact rl_outer cA2 i.toNatClampNeg H.size i.toNatClampNeg
  rw [hout] at f2
  have zn : H.size = n := a1.1
  subst zn
  have hR : rl_R E (rl_us (rl_u h H.size (.inl (cA2, i.toNatClampNeg, .inr (.inr (.inr (.inr (fun j => if j < i.toNatClampNeg then some (H.size + 1 + j) else none))))))) (H.size + 1) i.toNatClampNeg (.inl (comp, z))) (H.size + 1 + i.toNatClampNeg) F.heap := by
    refine ⟨f1, by have := a1.2.1; omega, fun q hq => ?_, fun q x hx => ?_⟩
    · rw [hold q (Nat.lt_of_lt_of_le hq a1.2.1)]
      exact a1.2.2.1 q hq
    · have hb0 := a1.2.1
      by_cases h9 : H.size + 1 ≤ q ∧ q < H.size + 1 + i.toNatClampNeg
      · rw [rl_us_s h9] at hx
        cases hx
        refine ⟨by omega, ?_⟩
        have := hrow (q - (H.size + 1)) (by omega)
        rw [show H.size + 1 + (q - (H.size + 1)) = q by omega] at this
        exact this
      · rw [rl_us_n (by omega)] at hx
        by_cases h8 : q = H.size
        · subst h8
          rw [rl_u_s] at hx
          cases hx
          exact ⟨hb0, f2⟩
        · rw [rl_u_n h8] at hx
          exact ⟨(a1.2.2.2 q x hx).1, (a1.2.2.2 q x hx).2.kept (hold q (a1.lt hx))⟩
  obtain ⟨t, y1, y2⟩ := kk F.heap locs ls hR b1 c1 F rfl X'
  refine ⟨t, step t ?_, y2⟩
  have e : T.heap.size = H.size := by rw [hT]
  rw [e]
  exact y1
end RLM
end
