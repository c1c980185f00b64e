/-! THE ABSTRACT MACHINE: a heap as a map from addresses to cells, locals as a list, one judgement rl_G for 'the machine comes to its end from here'. -/
/-- the cells that are known -/
abbrev rl_H : Type := Nat → Option va_E
/-- the same, but for one address -/
def rl_u (h : rl_H) (a : Nat) (e : va_E) : rl_H := fun q => if q = a then some e else h q
theorem rl_u_s {h : rl_H} {a : Nat} {e : va_E} : rl_u h a e a = some e := by simp [rl_u]
theorem rl_u_n {h : rl_H} {a q : Nat} {e : va_E} (hq : q ≠ a) : rl_u h a e q = h q := by simp [rl_u, hq]
/-- tables: the classes' numbers and slots, the classes, the array classes, the heap at the start -/
abbrev rl_E : Type := va_G × List vw_C × List (ClassId × FieldType) × Heap
/-- the heap H holds h, has n cells, and its first cells are those of the start -/
def rl_R (E : rl_E) (h : rl_H) (n : Nat) (H : Heap) : Prop :=
  H.size = n ∧ E.2.2.2.size ≤ n ∧ (∀ q : Nat, q < E.2.2.2.size → H[q]? = E.2.2.2[q]?) ∧ ∀ (a : Nat) (e : va_E), h a = some e → E.2.2.2.size ≤ a ∧ va_at E.1 E.2.1 (a, e) H
theorem rl_R.lt {E : rl_E} {h : rl_H} {n : Nat} {H : Heap} (hR : rl_R E h n H) {a : Nat} {e : va_E} (ha : h a = some e) : a < n := by
  have h1 := (hR.2.2.2 a e ha).2.lt
  rw [hR.1] at h1
  exact h1
/-- a cell is written -/
theorem rl_R.put {E : rl_E} {h : rl_H} {n : Nat} {H H1 : Heap} (hR : rl_R E h n H) {a : Nat} {e0 e : va_E} (ha : h a = some e0) (z : H1.size = H.size) (o : ∀ q : Nat, q ≠ a → H1[q]? = H[q]?) (he : va_at E.1 E.2.1 (a, e) H1) : rl_R E (rl_u h a e) n H1 := by
  have hb := (hR.2.2.2 a e0 ha).1
  refine ⟨z.trans hR.1, hR.2.1, fun q hq => ?_, fun q x hx => ?_⟩
  · rw [o q (by omega)]
    exact hR.2.2.1 q hq
  · by_cases hqa : q = a
    · subst hqa
      rw [rl_u_s] at hx
      cases hx
      exact ⟨hb, he⟩
    · rw [rl_u_n hqa] at hx
      exact ⟨(hR.2.2.2 q x hx).1, (hR.2.2.2 q x hx).2.kept (o q hqa)⟩
/-- a cell is made -/
theorem rl_R.push {E : rl_E} {h : rl_H} {n : Nat} {H H1 : Heap} (hR : rl_R E h n H) {e : va_E} (z : H1.size = n + 1) (o : ∀ q : Nat, q < n → H1[q]? = H[q]?) (he : va_at E.1 E.2.1 (n, e) H1) : rl_R E (rl_u h n e) (n + 1) H1 := by
  refine ⟨z, Nat.le_succ_of_le hR.2.1, fun q hq => ?_, fun q x hx => ?_⟩
  · rw [o q (Nat.lt_of_lt_of_le hq hR.2.1)]
    exact hR.2.2.1 q hq
  · by_cases hqa : q = n
    · subst hqa
      rw [rl_u_s] at hx
      cases hx
      exact ⟨hR.2.1, he⟩
    · rw [rl_u_n hqa] at hx
      exact ⟨(hR.2.2.2 q x hx).1, (hR.2.2.2 q x hx).2.kept (o q (hR.lt hx))⟩
/-- fewer cells are known -/
theorem rl_R.less {E : rl_E} {h h' : rl_H} {n : Nat} {H : Heap} (hR : rl_R E h n H) (hh : ∀ (a : Nat) (e : va_E), h' a = some e → h a = some e) : rl_R E h' n H := ⟨hR.1, hR.2.1, hR.2.2.1, fun a e ha => hR.2.2.2 a e (hh a e ha)⟩
/-! the locals -/
def rl_w : Nat → List (Option Value) → List (Nat × Value)
  | _, [] => []
  | i, none :: t => rl_w (i + 1) t
  | i, some v :: t => (i, v) :: rl_w (i + 1) t
theorem rl_w_at : ∀ (lo : List (Option Value)) (b i : Nat) (v : Value), lo[i]? = some (some v) → (b + i, v) ∈ rl_w b lo
  | [], _, _, _, h => by simp at h
  | o :: t, b, 0, v, h => by
    simp at h
    subst h
    exact List.mem_cons_self
  | none :: t, b, i + 1, v, h => by
    have := rl_w_at t (b + 1) i v (by simpa using h)
    rw [show b + 1 + i = b + (i + 1) by omega] at this
    exact this
  | some w :: t, b, i + 1, v, h => by
    have := rl_w_at t (b + 1) i v (by simpa using h)
    rw [show b + 1 + i = b + (i + 1) by omega] at this
    exact List.mem_cons_of_mem _ this
theorem rl_w_of : ∀ (lo : List (Option Value)) (b : Nat) (q : Nat × Value), q ∈ rl_w b lo → ∃ i, q.1 = b + i ∧ lo[i]? = some (some q.2)
  | [], _, _, h => by cases h
  | none :: t, b, q, h => by
    obtain ⟨i, h1, h2⟩ := rl_w_of t (b + 1) q h
    exact ⟨i + 1, by omega, by simpa using h2⟩
  | some w :: t, b, q, h => by
    rcases List.mem_cons.mp h with rfl | h
    · exact ⟨0, by simp, by simp⟩
    · obtain ⟨i, h1, h2⟩ := rl_w_of t (b + 1) q h
      exact ⟨i + 1, by omega, by simpa using h2⟩
/-- a long whose second half is overwritten is gone -/
def rl_c (i : Nat) (o : Option Value) : Option Value := match i, o with
  | 0, some (.long _) => none
  | 0, some (.double _) => none
  | _, o => o
def rl_s1 : List (Option Value) → Nat → Value → List (Option Value)
  | [], _, _ => []
  | _ :: t, 0, v => some v :: t
  | o :: t, i + 1, v => rl_c i o :: rl_s1 t i v
def rl_s2 : List (Option Value) → Nat → Value → List (Option Value)
  | [], _, _ => []
  | [_], 0, v => [some v]
  | _ :: _ :: t, 0, v => some v :: none :: t
  | o :: t, i + 1, v => rl_c i o :: rl_s2 t i v
theorem rl_s1_len : ∀ (lo : List (Option Value)) (i : Nat) (v : Value), (rl_s1 lo i v).length = lo.length
  | [], _, _ => rfl
  | _ :: t, 0, v => rfl
  | o :: t, i + 1, v => by simp [rl_s1, rl_s1_len t i v]
theorem rl_s2_len : ∀ (lo : List (Option Value)) (i : Nat) (v : Value), (rl_s2 lo i v).length = lo.length
  | [], _, _ => by simp [rl_s2]
  | [_], 0, v => rfl
  | _ :: _ :: t, 0, v => rfl
  | [o], i + 1, v => by simp [rl_s2]
  | o :: o2 :: t, i + 1, v => by simp [rl_s2, rl_s2_len (o2 :: t) i v]
theorem rl_c_of {i : Nat} {o : Option Value} {w : Value} (h : rl_c i o = some w) : o = some w ∧ ¬ (i = 0 ∧ w.category = 2) := by
  cases i with
  | zero =>
    cases o with
    | none => simp [rl_c] at h
    | some x => cases x <;> simp_all [rl_c, Value.category] <;> (subst h; simp [Value.category])
  | succ i => exact ⟨h, fun q => by omega⟩
theorem rl_s1_of : ∀ (lo : List (Option Value)) (i : Nat) (v : Value) (j : Nat) (w : Value), (rl_s1 lo i v)[j]? = some (some w) → (j = i ∧ w = v) ∨ (lo[j]? = some (some w) ∧ j ≠ i ∧ ¬ (j + 1 = i ∧ w.category = 2))
  | [], i, v, j, w, h => by simp [rl_s1] at h
  | o :: t, 0, v, 0, w, h => by
    simp [rl_s1] at h
    exact Or.inl ⟨rfl, h.symm⟩
  | o :: t, 0, v, j + 1, w, h => by
    simp [rl_s1] at h
    exact Or.inr ⟨by simpa using h, by omega, fun q => by omega⟩
  | o :: t, i + 1, v, 0, w, h => by
    simp [rl_s1] at h
    obtain ⟨h1, h2⟩ := rl_c_of h
    exact Or.inr ⟨by simp [h1], by omega, fun q => h2 ⟨by omega, q.2⟩⟩
  | o :: t, i + 1, v, j + 1, w, h => by
    simp [rl_s1] at h
    rcases rl_s1_of t i v j w h with ⟨h1, h2⟩ | ⟨h1, h2, h3⟩
    · exact Or.inl ⟨by omega, h2⟩
    · exact Or.inr ⟨by simpa using h1, by omega, fun q => h3 ⟨by omega, q.2⟩⟩
theorem rl_s2_of : ∀ (lo : List (Option Value)) (i : Nat) (v : Value) (j : Nat) (w : Value), (rl_s2 lo i v)[j]? = some (some w) → (j = i ∧ w = v) ∨ (lo[j]? = some (some w) ∧ j ≠ i ∧ j ≠ i + 1 ∧ ¬ (j + 1 = i ∧ w.category = 2))
  | [], i, v, j, w, h => by simp [rl_s2] at h
  | [o], 0, v, 0, w, h => by
    simp [rl_s2] at h
    exact Or.inl ⟨rfl, h.symm⟩
  | [o], 0, v, j + 1, w, h => by simp [rl_s2] at h
  | o :: o2 :: t, 0, v, 0, w, h => by
    simp [rl_s2] at h
    exact Or.inl ⟨rfl, h.symm⟩
  | o :: o2 :: t, 0, v, 1, w, h => by simp [rl_s2] at h
  | o :: o2 :: t, 0, v, j + 2, w, h => by
    simp [rl_s2] at h
    exact Or.inr ⟨by simpa using h, by omega, by omega, fun q => by omega⟩
  | [o], i + 1, v, 0, w, h => by
    simp [rl_s2] at h
    obtain ⟨h1, h2⟩ := rl_c_of h
    exact Or.inr ⟨by simp [h1], by omega, by omega, fun q => h2 ⟨by omega, q.2⟩⟩
  | [o], i + 1, v, j + 1, w, h => by simp [rl_s2] at h
  | o :: o2 :: t, i + 1, v, 0, w, h => by
    simp [rl_s2] at h
    obtain ⟨h1, h2⟩ := rl_c_of h
    exact Or.inr ⟨by simp [h1], by omega, by omega, fun q => h2 ⟨by omega, q.2⟩⟩
  | o :: o2 :: t, i + 1, v, j + 1, w, h => by
    have h : (rl_s2 (o2 :: t) i v)[j]? = some (some w) := by simpa [rl_s2] using h
    rcases rl_s2_of (o2 :: t) i v j w h with ⟨h1, h2⟩ | ⟨h1, h2, h3, h4⟩
    · exact Or.inl ⟨by omega, h2⟩
    · exact Or.inr ⟨by simpa using h1, by omega, by omega, fun q => h4 ⟨by omega, q.2⟩⟩
/-- locals that are held -/
def rl_L (ls : Array Slot) (lo : List (Option Value)) : Prop := lv_has ls lo.length (rl_w 0 lo)
theorem rl_L.at {ls : Array Slot} {lo : List (Option Value)} (h : rl_L ls lo) {i : Nat} {v : Value} (hi : lo[i]? = some (some v)) : ls[i]? = some (.val v) := by
  have := h.2.2 _ (rl_w_at lo 0 i v hi)
  simpa using this
theorem rl_L.of {ls : Array Slot} {nL : Nat} {l : List (Nat × Value)} (h : lv_has ls nL l) {lo : List (Option Value)} (hn : lo.length = nL) (hm : ∀ (i : Nat) (v : Value), lo[i]? = some (some v) → (i, v) ∈ l) : rl_L ls lo := by
  refine ⟨h.1.trans hn.symm, h.2.1, fun q hq => ?_⟩
  obtain ⟨i, h1, h2⟩ := rl_w_of lo 0 q hq
  have h3 := h.2.2 _ (hm i q.2 h2)
  have h4 : q.1 = i := by omega
  rw [h4]
  exact h3
theorem rl_L.less {ls : Array Slot} {lo lo' : List (Option Value)} (h : rl_L ls lo) (hn : lo'.length = lo.length) (hm : ∀ (i : Nat) (v : Value), lo'[i]? = some (some v) → lo[i]? = some (some v)) : rl_L ls lo' :=
  rl_L.of h hn (fun i v hi => by have := rl_w_at lo 0 i v (hm i v hi); simpa using this)
theorem rl_s1_L {ls' : Array Slot} {lo : List (Option Value)} {i : Nat} {v : Value} (h : lv_has ls' lo.length ((i, v) :: (rl_w 0 lo).filter (fun q => !(q.1 == i) && !(q.1 + 1 == i && q.2.category == 2)))) : rl_L ls' (rl_s1 lo i v) := by
  refine rl_L.of h (rl_s1_len lo i v) (fun j w hj => ?_)
  rcases rl_s1_of lo i v j w hj with ⟨rfl, rfl⟩ | ⟨h1, h2, h3⟩
  · exact List.mem_cons_self
  · refine List.mem_cons_of_mem _ (List.mem_filter.mpr ⟨by have := rl_w_at lo 0 j w h1; simpa using this, ?_⟩)
    simp only [Bool.and_eq_true, Bool.not_eq_true', Bool.and_eq_false_iff, beq_eq_false_iff_ne, ne_eq]
    refine ⟨h2, ?_⟩
    by_cases q : j + 1 = i
    · exact Or.inr (fun q2 => h3 ⟨q, q2⟩)
    · exact Or.inl q
theorem rl_s2_L {ls' : Array Slot} {lo : List (Option Value)} {i : Nat} {v : Value} (h : lv_has ls' lo.length ((i, v) :: (rl_w 0 lo).filter (fun q => !(q.1 == i) && (!(q.1 == i + 1) && !(q.1 + 1 == i && q.2.category == 2))))) : rl_L ls' (rl_s2 lo i v) := by
  refine rl_L.of h (rl_s2_len lo i v) (fun j w hj => ?_)
  rcases rl_s2_of lo i v j w hj with ⟨rfl, rfl⟩ | ⟨h1, h2, h4, h3⟩
  · exact List.mem_cons_self
  · refine List.mem_cons_of_mem _ (List.mem_filter.mpr ⟨by have := rl_w_at lo 0 j w h1; simpa using this, ?_⟩)
    simp only [Bool.and_eq_true, Bool.not_eq_true', Bool.and_eq_false_iff, beq_eq_false_iff_ne, ne_eq]
    refine ⟨h2, h4, ?_⟩
    by_cases q : j + 1 = i
    · exact Or.inr (fun q2 => h3 ⟨q, q2⟩)
    · exact Or.inl q
/-! the judgement -/
/-- the machine's part of a walk: program, launch, environment, room, the state at the method's entry; the method, its arguments, what lies below, its row, its code; the end -/
abbrev rl_X : Type := (Program × Launch × Env × Room × State) × (MethodId × Array Value × List Frame × Method × Code) × (State → Prop)
abbrev rl_W (X : rl_X) (H : Heap) (locs : List Loc) (ce sl : Nat) (g : JFrame) : Prop :=
  W X.1.1 X.1.2.1 X.1.2.2.1 X.1.2.2.2.1 X.1.2.2.2.2 X.2.1.1 X.2.1.2.1 X.2.1.2.2.1 X.2.1.2.2.2.1 X.2.1.2.2.2.2 H locs ce sl X.2.2 g
/-- from pc, with these locals, this stack, this heap of n cells, ce cells and sl slots made so far, the machine comes to its end -/
def rl_G (X : rl_X) (E : rl_E) (pc : Nat) (lo : List (Option Value)) (st : List Value) (h : rl_H) (n ce sl : Nat) : Prop :=
  ∀ (H : Heap) (locs : List Loc) (ls : Array Slot), rl_R E h n H → (∀ q ∈ locs, E.2.2.2.size ≤ q.base) → rl_L ls lo → rl_W X H locs ce sl (F0 X.2.1.1 pc ls st)
/-- what a walk stands on: the machine, the code, the own class, the words, the nest mates' words, the tables -/
def rl_C (X : rl_X) (E : rl_E) (cc : ByteArray) (own : String) (Ts Ns : List Cond) : Prop :=
  X.1.1.tables.exec = Jvm.exec ∧ X.2.1.2.2.2.2.code = cc ∧ X.1.2.2.2.2.vm.findClass own = some X.2.1.1.cls ∧ (∀ w ∈ Ts, w.before X.2.1.2.1 X.1.2.2.2.2 = true) ∧ (∀ w ∈ Ns, w.before #[] X.1.2.2.2.2 = true) ∧ va_K E.1 E.2.1 E.2.2.1 X.1.2.2.2.2 ∧ X.2.1.2.2.2.1.locks = false
section RLG
variable {X : rl_X} {E : rl_E} {cc : ByteArray} {own : String} {Ts Ns : List Cond} {pc : Nat} {lo : List (Option Value)} {st : List Value} {h : rl_H} {n ce sl : Nat}
theorem rl_G.widen {ce' sl' : Nat} (h1 : ce ≤ ce') (h2 : sl ≤ sl') (k : rl_G X E pc lo st h n ce' sl') : rl_G X E pc lo st h n ce sl := fun H locs ls a b c => W.widen h1 h2 (k H locs ls a b c)
/-- fewer locals are known at a label -/
theorem rl_G.less {lo' : List (Option Value)} (hn : lo'.length = lo.length) (hm : ∀ (i : Nat) (v : Value), lo'[i]? = some (some v) → lo[i]? = some (some v)) (k : rl_G X E pc lo' st h n ce sl) : rl_G X E pc lo st h n ce sl := fun H locs ls a b c => k H locs ls a b (c.less hn hm)
theorem o_iconst (hC : rl_C X E cc own Ts Ns) {k : Int} {v : Int32} (hd : decode cc pc = .ok (.iconst k, 1)) (hv : Int32.ofInt k = v) (kk : rl_G X E (pc + 1) lo (.int v :: st) h n ce sl) : rl_G X E pc lo st h n ce sl := fun H locs ls a b c => lv_iconst hC.1 hC.2.1 hd hv (kk H locs ls a b c)
theorem o_bipush (hC : rl_C X E cc own Ts Ns) {k : Int} {v : Int32} (hd : decode cc pc = .ok (.bipush k, 2)) (hv : (Int8.ofInt k).toInt32 = v) (kk : rl_G X E (pc + 2) lo (.int v :: st) h n ce sl) : rl_G X E pc lo st h n ce sl := fun H locs ls a b c => lv_bipush hC.1 hC.2.1 hd hv (kk H locs ls a b c)
theorem o_sipush (hC : rl_C X E cc own Ts Ns) {k : Int} {v : Int32} (hd : decode cc pc = .ok (.sipush k, 3)) (hv : (Int16.ofInt k).toInt32 = v) (kk : rl_G X E (pc + 3) lo (.int v :: st) h n ce sl) : rl_G X E pc lo st h n ce sl := fun H locs ls a b c => lv_sipush hC.1 hC.2.1 hd hv (kk H locs ls a b c)
theorem o_lconst (hC : rl_C X E cc own Ts Ns) {k : Fin 2} {v : Int64} (hd : decode cc pc = .ok (.lconst k, 1)) (hv : Int64.ofNat (k : Nat) = v) (kk : rl_G X E (pc + 1) lo (.long v :: st) h n ce sl) : rl_G X E pc lo st h n ce sl := fun H locs ls a b c => lv_lconst hC.1 hC.2.1 hd hv (kk H locs ls a b c)
theorem o_ldc (hC : rl_C X E cc own Ts Ns) {idx : Nat} {v : Int32} (hw : Cond.constant own idx v ∈ Ts) (hd : decode cc pc = .ok (.ldc idx, 2)) (kk : rl_G X E (pc + 2) lo (.int v :: st) h n ce sl) : rl_G X E pc lo st h n ce sl := fun H locs ls a b c => lv_ldc hC.1 hC.2.1 hC.2.2.1 (hC.2.2.2.1 _ hw) hd (kk H locs ls a b c)
theorem o_ldc2 (hC : rl_C X E cc own Ts Ns) {idx : Nat} {v : Int64} (hw : Cond.constantLong own idx v ∈ Ts) (hd : decode cc pc = .ok (.ldc2_w idx, 3)) (kk : rl_G X E (pc + 3) lo (.long v :: st) h n ce sl) : rl_G X E pc lo st h n ce sl := fun H locs ls a b c => lv_ldc2 hC.1 hC.2.1 hC.2.2.1 (hC.2.2.2.1 _ hw) hd (kk H locs ls a b c)
theorem o_iload_n (hC : rl_C X E cc own Ts Ns) {k : Fin 4} {x : Int32} (hd : decode cc pc = .ok (.iload_n k, 1)) (hl : lo[(k : Nat)]? = some (some (.int x))) (kk : rl_G X E (pc + 1) lo (.int x :: st) h n ce sl) : rl_G X E pc lo st h n ce sl := fun H locs ls a b c => lv_iload_n hC.1 hC.2.1 hd rfl (c.at hl) (kk H locs ls a b c)
theorem o_iload (hC : rl_C X E cc own Ts Ns) {k : Nat} {x : Int32} (hd : decode cc pc = .ok (.iload k, 2)) (hl : lo[k]? = some (some (.int x))) (kk : rl_G X E (pc + 2) lo (.int x :: st) h n ce sl) : rl_G X E pc lo st h n ce sl := fun H locs ls a b c => lv_iload hC.1 hC.2.1 hd (c.at hl) (kk H locs ls a b c)
theorem o_lload_n (hC : rl_C X E cc own Ts Ns) {k : Fin 4} {x : Int64} (hd : decode cc pc = .ok (.lload_n k, 1)) (hl : lo[(k : Nat)]? = some (some (.long x))) (kk : rl_G X E (pc + 1) lo (.long x :: st) h n ce sl) : rl_G X E pc lo st h n ce sl := fun H locs ls a b c => lv_lload_n hC.1 hC.2.1 hd rfl (c.at hl) (kk H locs ls a b c)
theorem o_lload (hC : rl_C X E cc own Ts Ns) {k : Nat} {x : Int64} (hd : decode cc pc = .ok (.lload k, 2)) (hl : lo[k]? = some (some (.long x))) (kk : rl_G X E (pc + 2) lo (.long x :: st) h n ce sl) : rl_G X E pc lo st h n ce sl := fun H locs ls a b c => lv_lload hC.1 hC.2.1 hd (c.at hl) (kk H locs ls a b c)
theorem o_aload_n (hC : rl_C X E cc own Ts Ns) {k : Fin 4} {x : Nat} (hd : decode cc pc = .ok (.aload_n k, 1)) (hl : lo[(k : Nat)]? = some (some (.ref x))) (kk : rl_G X E (pc + 1) lo (.ref x :: st) h n ce sl) : rl_G X E pc lo st h n ce sl := fun H locs ls a b c => lv_aload_n hC.1 hC.2.1 hd rfl (c.at hl) (kk H locs ls a b c)
theorem o_aload (hC : rl_C X E cc own Ts Ns) {k : Nat} {x : Nat} (hd : decode cc pc = .ok (.aload k, 2)) (hl : lo[k]? = some (some (.ref x))) (kk : rl_G X E (pc + 2) lo (.ref x :: st) h n ce sl) : rl_G X E pc lo st h n ce sl := fun H locs ls a b c => lv_aload hC.1 hC.2.1 hd (c.at hl) (kk H locs ls a b c)
theorem o_aload_nN (hC : rl_C X E cc own Ts Ns) {k : Fin 4} (hd : decode cc pc = .ok (.aload_n k, 1)) (hl : lo[(k : Nat)]? = some (some .null)) (kk : rl_G X E (pc + 1) lo (.null :: st) h n ce sl) : rl_G X E pc lo st h n ce sl := fun H locs ls a b c => lv_aload_nN hC.1 hC.2.1 hd rfl (c.at hl) (kk H locs ls a b c)
theorem o_aloadN (hC : rl_C X E cc own Ts Ns) {k : Nat} (hd : decode cc pc = .ok (.aload k, 2)) (hl : lo[k]? = some (some .null)) (kk : rl_G X E (pc + 2) lo (.null :: st) h n ce sl) : rl_G X E pc lo st h n ce sl := fun H locs ls a b c => lv_aloadN hC.1 hC.2.1 hd (c.at hl) (kk H locs ls a b c)
theorem o_istore_n (hC : rl_C X E cc own Ts Ns) {k : Fin 4} {x : Int32} (hd : decode cc pc = .ok (.istore_n k, 1)) (hn : (k : Nat) < lo.length) (kk : rl_G X E (pc + 1) (rl_s1 lo k (.int x)) st h n ce sl) : rl_G X E pc lo (.int x :: st) h n ce sl := fun H locs ls a b c => lv_istore_n hC.1 hC.2.1 hd rfl c hn rfl (fun ls' c' => kk H locs ls' a b (rl_s1_L c'))
theorem o_istore (hC : rl_C X E cc own Ts Ns) {k : Nat} {x : Int32} (hd : decode cc pc = .ok (.istore k, 2)) (hn : k < lo.length) (kk : rl_G X E (pc + 2) (rl_s1 lo k (.int x)) st h n ce sl) : rl_G X E pc lo (.int x :: st) h n ce sl := fun H locs ls a b c => lv_istore hC.1 hC.2.1 hd c hn rfl (fun ls' c' => kk H locs ls' a b (rl_s1_L c'))
theorem o_lstore_n (hC : rl_C X E cc own Ts Ns) {k : Fin 4} {x : Int64} (hd : decode cc pc = .ok (.lstore_n k, 1)) (hn : (k : Nat) + 1 < lo.length) (kk : rl_G X E (pc + 1) (rl_s2 lo k (.long x)) st h n ce sl) : rl_G X E pc lo (.long x :: st) h n ce sl := fun H locs ls a b c => lv_lstore_n hC.1 hC.2.1 hd rfl c hn rfl (fun ls' c' => kk H locs ls' a b (rl_s2_L c'))
theorem o_lstore (hC : rl_C X E cc own Ts Ns) {k : Nat} {x : Int64} (hd : decode cc pc = .ok (.lstore k, 2)) (hn : k + 1 < lo.length) (kk : rl_G X E (pc + 2) (rl_s2 lo k (.long x)) st h n ce sl) : rl_G X E pc lo (.long x :: st) h n ce sl := fun H locs ls a b c => lv_lstore hC.1 hC.2.1 hd c hn rfl (fun ls' c' => kk H locs ls' a b (rl_s2_L c'))
theorem o_astore_n (hC : rl_C X E cc own Ts Ns) {k : Fin 4} {x : Nat} (hd : decode cc pc = .ok (.astore_n k, 1)) (hn : (k : Nat) < lo.length) (kk : rl_G X E (pc + 1) (rl_s1 lo k (.ref x)) st h n ce sl) : rl_G X E pc lo (.ref x :: st) h n ce sl := fun H locs ls a b c => lv_astore_n hC.1 hC.2.1 hd rfl c hn rfl (fun ls' c' => kk H locs ls' a b (rl_s1_L c'))
theorem o_astore (hC : rl_C X E cc own Ts Ns) {k : Nat} {x : Nat} (hd : decode cc pc = .ok (.astore k, 2)) (hn : k < lo.length) (kk : rl_G X E (pc + 2) (rl_s1 lo k (.ref x)) st h n ce sl) : rl_G X E pc lo (.ref x :: st) h n ce sl := fun H locs ls a b c => lv_astore hC.1 hC.2.1 hd c hn rfl (fun ls' c' => kk H locs ls' a b (rl_s1_L c'))
theorem o_astore_nN (hC : rl_C X E cc own Ts Ns) {k : Fin 4} (hd : decode cc pc = .ok (.astore_n k, 1)) (hn : (k : Nat) < lo.length) (kk : rl_G X E (pc + 1) (rl_s1 lo k .null) st h n ce sl) : rl_G X E pc lo (.null :: st) h n ce sl := fun H locs ls a b c => lv_astore_nN hC.1 hC.2.1 hd rfl c hn rfl (fun ls' c' => kk H locs ls' a b (rl_s1_L c'))
theorem o_astoreN (hC : rl_C X E cc own Ts Ns) {k : Nat} (hd : decode cc pc = .ok (.astore k, 2)) (hn : k < lo.length) (kk : rl_G X E (pc + 2) (rl_s1 lo k .null) st h n ce sl) : rl_G X E pc lo (.null :: st) h n ce sl := fun H locs ls a b c => lv_astoreN hC.1 hC.2.1 hd c hn rfl (fun ls' c' => kk H locs ls' a b (rl_s1_L c'))
theorem o_iinc (hC : rl_C X E cc own Ts Ns) {k : Nat} {i : Int} {x v : Int32} (hd : decode cc pc = .ok (.iinc k i, 3)) (hl : lo[k]? = some (some (.int x))) (hv : x + Int32.ofInt i = v) (hn : k < lo.length) (kk : rl_G X E (pc + 3) (rl_s1 lo k (.int v)) st h n ce sl) : rl_G X E pc lo st h n ce sl := fun H locs ls a b c => by
  obtain ⟨j, hj⟩ := List.getElem?_of_mem (rl_w_at lo 0 k _ hl)
  rw [Nat.zero_add] at hj
  exact lv_iinc hC.1 hC.2.1 hd c hj hv hn rfl (fun ls' c' => kk H locs ls' a b (rl_s1_L c'))
end RLG
