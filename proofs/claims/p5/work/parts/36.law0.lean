/-! THE LAW: its end, what holds at its entry in the abstract machine, the script's rows -/
def R_law : String := "RowLineageLaw"
def lw_Q (_ : Array Value) (s : State) (o : Outcome) (t : State) : Prop := o = .returned (some (.int 1)) ∧ Framed s o t [] 601024 7293034
def lw_Z (below : List Frame) (a : Array Value) (s : State) : State → Prop := fun t => ∃ o, t.status = .running ∧ Ended t below o ∧ lw_Q a s o t
/-- the law's own end, with 1 on the stack -/
theorem lw_ret {p : Program} {l : Launch} {e : Env} {s : State} {m : MethodId} {below : List Frame} {meth : Method} {c : Code} {b : Nat} (hx : p.tables.exec = Jvm.exec) (hb : c.code = code) (hr : meth.sig.returnType = ret) (hlocks : meth.locks = false) {pc : Nat} {H : Heap} {ls : Array Slot} (hdg : decode code pc = .ok (.ireturn, 1)) : W p l e room_1 s m #[Value.ref b] below meth c H [] 601024 7293034 (lw_Z below #[Value.ref b] s) (F0 m pc ls [.int 1]) := by
  intro T hT X
  obtain ⟨fs, hret, hrun, hended, hW, hframe⟩ := X.leave (v := some (.int 1)) (hlocks := hlocks) (fun h => by rw [hr] at h; cases h)
  have hmeth' : T.vm.method? m = some meth := X.method'
  refine ⟨T.setFrames fs, ?_, .returned (some (.int 1)), hrun, hended, rfl, ⟨_, rfl⟩, hW, hframe⟩
  jvm_step X.here [X.here.top, hx, hb, hdg, hmeth', hr, ret, narrow_b1]
  (try refine ⟨rfl, ?_⟩); (try refine ⟨rfl, ?_⟩)
  first | (intro acts; rw [hret _ acts rfl rfl rfl]) | rw [hret _ _ rfl rfl rfl]
  exact Steps.refl _
/-- what holds at the law's entry -/
def lw_At (p : Program) (s : State) (m : MethodId) (meth : Method) (c : Code) (b L : Nat) (xs : Nat → Int32) : Prop :=
  p.tables.exec = Jvm.exec ∧ c.code = code ∧ meth.sig.returnType = ret ∧ c.maxLocals = 8 ∧ s.vm.findClass R_law = some m.cls ∧ (∀ w ∈ lw_tbl, w.before #[Value.ref b] s = true) ∧ va_X b L xs s s.heap ∧ b < s.heap.size ∧ meth.locks = false ∧ (Jvm.Cond.and given_1 narrow_1).before #[Value.ref b] s = true
/-! the tables out of the words -/
theorem lk_cls {s : State} {A : Array Value} (hts : ∀ w ∈ rl_BW, w.before A s = true) (c : Nat) : ∃ (cC : ClassId) (iS : Nat → Nat), ∀ q : vw_C, vwCl[c]? = some q → u_Kn s q.1 q.2.1 q.2.2 cC iS := by
  by_cases h : c < 9
  · have g : ∀ (C : String) (T : u_T) (N k : Nat), vwCl[c]? = some (C, T, N) → (∀ x ∈ u_ws C T N, x ∈ rl_BW) → Cond.instantiable C k ∈ rl_BW → ∃ (cC : ClassId) (iS : Nat → Nat), ∀ q : vw_C, vwCl[c]? = some q → u_Kn s q.1 q.2.1 q.2.2 cC iS := by
      intro C T N k hq hu hi
      obtain ⟨cC, iS, hk⟩ := u_known (C := C) (T := T) (N := N) hts hu (hts _ hi)
      exact ⟨cC, iS, fun q h2 => by rw [hq] at h2; cases h2; exact hk⟩
    rcases (by omega : c = 0 ∨ c = 1 ∨ c = 2 ∨ c = 3 ∨ c = 4 ∨ c = 5 ∨ c = 6 ∨ c = 7 ∨ c = 8) with rfl | rfl | rfl | rfl | rfl | rfl | rfl | rfl | rfl
    · exact g _ _ _ _ rfl uX0 iX0
    · exact g _ _ _ _ rfl uX1 iX1
    · exact g _ _ _ _ rfl uX2 iX2
    · exact g _ _ _ _ rfl uX3 iX3
    · exact g _ _ _ _ rfl uX4 iX4
    · exact g _ _ _ _ rfl uX5 iX5
    · exact g _ _ _ _ rfl uX6 iX6
    · exact g _ _ _ _ rfl uX7 iX7
    · exact g _ _ _ _ rfl uX8 iX8
  · exact ⟨s.vm.classes.size, fun _ => 0, fun q hq => by
      have := (List.getElem?_eq_some_iff.mp hq).1
      exact absurd this h⟩
def lk_tys : List FieldType := [.int, .long, .boolean, .object RX5, .object RX6, .object RX1, .object RX4, .array .int]
theorem lk_arr {s : State} {A B : Array Value} (hts : ∀ w ∈ rl_BW, w.before A s = true) (hns : ∀ w ∈ rl_Ns, w.before B s = true) (k : Nat) : ∃ cA : ClassId, ∀ ty : FieldType, lk_tys[k]? = some ty → ArrOfT s cA ty ∧ va_RA s cA ty := by
  have g1 : ∀ ty : FieldType, (∀ C, ty ≠ .object C) → lk_tys[k]? = some ty → Cond.arrayClass ty ∈ rl_BW → ∃ cA : ClassId, ∀ ty : FieldType, lk_tys[k]? = some ty → ArrOfT s cA ty ∧ va_RA s cA ty := by
    intro ty hn hq hw
    obtain ⟨cA, kA, comp, h1, h2, h3⟩ := Cond.arrayClass_spec (hts _ hw)
    refine ⟨cA, fun t ht => ?_⟩
    rw [hq] at ht
    cases ht
    refine ⟨fun N z => ⟨(fun k h => by cases h), kA, h2, comp, h3⟩, ?_⟩
    cases ty <;> first | exact h1 | exact absurd rfl (hn _)
  have g2 : ∀ C : String, lk_tys[k]? = some (.object C) → Cond.arrayOver (.object C) ∈ rl_Ns → ∃ cA : ClassId, ∀ ty : FieldType, lk_tys[k]? = some ty → ArrOfT s cA ty ∧ va_RA s cA ty := by
    intro C hq hw
    obtain ⟨comp, cA, kA, h1, -, h2, h3, h4⟩ := Cond.arrayOver_spec (hns _ hw)
    refine ⟨cA, fun t ht => ?_⟩
    rw [hq] at ht
    cases ht
    exact ⟨fun N z => ⟨(fun k h => by cases h), kA, h2, comp, h3⟩, kA, comp, h2, h3, h1, h4⟩
  have g3 : ∀ t : FieldType, lk_tys[k]? = some (.array t) → Cond.arrayOver (.array t) ∈ rl_Ns → ∃ cA : ClassId, ∀ ty : FieldType, lk_tys[k]? = some ty → ArrOfT s cA ty ∧ va_RA s cA ty := by
    intro C hq hw
    obtain ⟨comp, cA, kA, h1, -, h2, h3, h4⟩ := arrayOverA_spec (hns _ hw)
    refine ⟨cA, fun t ht => ?_⟩
    rw [hq] at ht
    cases ht
    exact ⟨fun N z => ⟨(fun k h => by cases h), kA, h2, comp, h3⟩, h4⟩
  by_cases h : k < 8
  · rcases (by omega : k = 0 ∨ k = 1 ∨ k = 2 ∨ k = 3 ∨ k = 4 ∨ k = 5 ∨ k = 6 ∨ k = 7) with rfl | rfl | rfl | rfl | rfl | rfl | rfl | rfl
    · exact g1 .int (fun C q => by cases q) rfl aw_int
    · exact g1 .long (fun C q => by cases q) rfl aw_long
    · exact g1 .boolean (fun C q => by cases q) rfl aw_boolean
    · exact g2 RX5 rfl aoX5
    · exact g2 RX6 rfl aoX6
    · exact g2 RX1 rfl aoX1
    · exact g2 RX4 rfl aoX4
    · exact g3 .int rfl aoArrI
  · exact ⟨s.vm.classes.size, fun ty hq => by
      have := (List.getElem?_eq_some_iff.mp hq).1
      exact absurd this h⟩
theorem lk_K {s : State} {A B : Array Value} (hts : ∀ w ∈ rl_BW, w.before A s = true) (hns : ∀ w ∈ rl_Ns, w.before B s = true) : ∃ (D : va_G) (ids : Nat → ClassId), va_K D vwCl (rl_tys ids) s := by
  refine ⟨(fun c => Classical.choose (lk_cls hts c), fun c => Classical.choose (Classical.choose_spec (lk_cls hts c))), fun k => Classical.choose (lk_arr hts hns k), fun c q hq => Classical.choose_spec (Classical.choose_spec (lk_cls hts c)) q hq, fun k q hq => ?_⟩
  have h : k < 8 := (List.getElem?_eq_some_iff.mp hq).1
  rcases (by omega : k = 0 ∨ k = 1 ∨ k = 2 ∨ k = 3 ∨ k = 4 ∨ k = 5 ∨ k = 6 ∨ k = 7) with rfl | rfl | rfl | rfl | rfl | rfl | rfl | rfl <;> (cases hq; exact Classical.choose_spec (lk_arr hts hns _) _ rfl)
/-- words of the tables say the same of all arguments -/
theorem lk_ns {w : Cond} (hw : rl_nw w = true) {A B : Array Value} {s : State} (h : w.before A s = true) : w.before B s = true := by
  cases w <;> first | exact h | cases hw
theorem lk_xs {w : Cond} (hw : rl_nx w = true) {A B : Array Value} {s : State} (h : w.before A s = true) : w.before B s = true := by
  cases w <;> first | exact h | cases hw
theorem lk_KX {s : State} {b : Nat} (D : va_G) (ids : Nat → ClassId) (hts : ∀ w ∈ lw_tbl, w.before #[Value.ref b] s = true) (hgv : (Jvm.Cond.and given_1 narrow_1).before #[Value.ref b] s = true) : rl_KX (rl_e D ids s.heap) s := by
  have hs := flat_of_before _ hgv
  refine ⟨fun w hw => lk_xs (List.mem_filter.mp hw).2 (hts w (List.mem_append_right _ (List.mem_filter.mp hw).1)), ?_, ?_, fun q hq => ?_, va_Nc.of (hs (.not (.castable "java/lang/IllegalArgumentException" "java/lang/IndexOutOfBoundsException")) (by decide +kernel))⟩
  · exact vx_Zqof (hts (.laysStatic "java/lang/Throwable" "UNASSIGNED_STACK" "[Ljava/lang/StackTraceElement;") (by decide +kernel)) (hts (.initialized "java/lang/Throwable") (by decide +kernel)) (hs (.isRef (.static "java/lang/Throwable" "UNASSIGNED_STACK" "[Ljava/lang/StackTraceElement;")) (by decide +kernel)) (fun a ha => Nat.not_le.mpr ha)
  · exact vx_Zqof (hts (.laysStatic "java/lang/Throwable" "SUPPRESSED_SENTINEL" "Ljava/util/List;") (by decide +kernel)) (hts (.initialized "java/lang/Throwable") (by decide +kernel)) (hs (.isRef (.static "java/lang/Throwable" "SUPPRESSED_SENTINEL" "Ljava/util/List;")) (by decide +kernel)) (fun a ha => Nat.not_le.mpr ha)
  · have g : ∀ (k : Nat) (tx : String), Cond.stringRef RX7 k tx ∈ lw_tbl → (Cond.exactly (.string RX7 k) "java/lang/String").before #[Value.ref b] s = true → ∃ sa, vk_R RX7 k tx sa s := by
      intro k tx h1 h2
      obtain ⟨a, -, -, -, h3, -⟩ := Cond.exactly_spec h2
      exact ⟨a, vk_R.of (hts _ h1) h3⟩
    simp only [rl_strs, List.mem_cons, List.not_mem_nil, or_false] at hq
    rcases hq with rfl | rfl | rfl | rfl
    · exact g _ _ (by decide +kernel) (hs _ (by decide +kernel))
    · exact g _ _ (by decide +kernel) (hs _ (by decide +kernel))
    · exact g _ _ (by decide +kernel) (hs _ (by decide +kernel))
    · exact g _ _ (by decide +kernel) (hs _ (by decide +kernel))
/-- what the law's walk has beside rl_C: the launch, the room, the script, its end -/
def lw_B (X : rl_X) (E : rl_E) (l : Launch) (b L : Nat) (xs : Nat → Int32) : Prop :=
  X.1.2.1 = l ∧ X.1.2.2.2.1 = room_1 ∧ (va_X b L xs X.1.2.2.2.2 E.2.2.2 ∧ b < E.2.2.2.size) ∧ rl_S0 X E ∧ (∀ (pc : Nat) (lo : List (Option Value)) (h : rl_H) (n ce sl : Nat), decode code pc = .ok (.ireturn, 1) → ce ≤ 601024 → sl ≤ 7293034 → rl_G X E pc lo [.int (nI 1)] h n ce sl) ∧ X.2.1.2.2.2.2.maxLocals = 8
section RLW
variable {X : rl_X} {E : rl_E} {cc : ByteArray} {own : String} {Ts Ns : List Cond} {pc : Nat} {lo : List (Option Value)} {st : List Value} {h : rl_H} {n ce sl : Nat} {l : Launch} {b L : Nat} {xs : Nat → Int32}
theorem o_sld (hC : rl_C X E cc own Ts Ns) (hB : lw_B X E l b L xs) {k : Nat} (hk : k < L) (hL : L < 2147483648) (hd : decode cc pc = .ok (.iaload, 1)) (kk : rl_G X E (pc + 1) lo (.int (xs k) :: st) h n ce sl) : rl_G X E pc lo (.int (nI k) :: .ref b :: st) h n ce sl := by
  intro H locs ls a b1 c1
  have hkk := kk H locs ls a b1 c1
  exact va_sld (A := fun q => E.2.2.2.size ≤ q) (H0 := E.2.2.2) hC.1 hC.2.1 hB.2.2.1.1 hB.2.2.1.2 (Nat.not_le.mpr hB.2.2.1.2) ⟨by rw [a.1]; exact a.2.1, fun q h1 _ => a.2.2.1 q h1, b1⟩ (rl_ix hk hL) hd (by rw [rl_cl hk hL]; exact hkk)
theorem o_slen (hC : rl_C X E cc own Ts Ns) (hB : lw_B X E l b L xs) (hd : decode cc pc = .ok (.arraylength, 1)) (kk : rl_G X E (pc + 1) lo (.int (nI L) :: st) h n ce sl) : rl_G X E pc lo (.ref b :: st) h n ce sl := by
  intro H locs ls a b1 c1
  have hkk := kk H locs ls a b1 c1
  exact va_slen (A := fun q => E.2.2.2.size ≤ q) (H0 := E.2.2.2) hC.1 hC.2.1 hB.2.2.1.1 hB.2.2.1.2 (Nat.not_le.mpr hB.2.2.1.2) ⟨by rw [a.1]; exact a.2.1, fun q h1 _ => a.2.2.1 q h1, b1⟩ hd hkk
end RLW
/-- the walk of the law in the abstract machine is a walk of the machine -/
theorem lw_into {p : Program} {e : Env} {s : State} {m : MethodId} {below : List Frame} {meth : Method} {c : Code} (l : Launch) {b L : Nat} {xs : Nat → Int32} (C0 : lw_At p s m meth c b L xs)
    (body : ∀ (D : va_G) (ids : Nat → ClassId) (X : rl_X), rl_C X (rl_e D ids s.heap) cL_law RL rl_BW rl_Ns → lw_B X (rl_e D ids s.heap) l b L xs → rl_G X (rl_e D ids s.heap) 0 (rl_in 8 [.ref b]) [] (fun _ => none) s.heap.size 0 0) : W p l e room_1 s m #[Value.ref b] below meth c s.heap [] 0 0 (lw_Z below #[Value.ref b] s) (entryFrame m ([Value.ref b] : List Value).toArray 8) := by
  obtain ⟨hx, hb, hr, hml, hown, hts, hX, hbl, hlocks, hgv⟩ := C0
  have hts' : ∀ w ∈ rl_BW, w.before #[Value.ref b] s = true := fun w hw => hts w (rl_BW_tbl w hw)
  have hns : ∀ w ∈ rl_Ns, w.before #[] s = true := fun w hw => lk_ns (rl_Ns_nw w hw) (hts w (rl_Ns_tbl w hw))
  obtain ⟨D, ids, hK⟩ := lk_K hts' hns
  have hR : rl_R (rl_e D ids s.heap) (fun _ => none) s.heap.size s.heap := ⟨rfl, Nat.le_refl _, fun _ _ => rfl, fun a e h => by cases h⟩
  have hb0 := body D ids ((p, l, e, room_1, s), (m, #[Value.ref b], below, meth, c), lw_Z below #[Value.ref b] s) ⟨hx, hb, hown, hts', hns, hK, hlocks⟩
    ⟨rfl, rfl, ⟨hX, hbl⟩, ⟨⟨_, _, hR⟩, lk_KX D ids hts hgv⟩, fun pc lo h n ce sl hd h1 h2 H locs ls a b1 c1 => W.widen h1 h2 (va_forget b1 (lw_ret hx hb hr hlocks hd)), hml⟩
  rw [lg_entry_eq]
  exact hb0 s.heap [] _ hR (fun q hq => by cases hq) (rl_in_L (Nat.le_of_ble_eq_true rfl))
