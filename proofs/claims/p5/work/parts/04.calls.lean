/-! THE ABSTRACT MACHINE: contracts, calls, returns -/
/-- the words of nest mates and of arrays of objects, which stand beside the others -/
def rl_nw : Cond → Bool
  | .fieldLinkNest _ _ _ _ _ _ => true
  | .methodLinkNest _ _ _ _ => true
  | .arrayOver (.object _) => true
  | .arrayOver (.array _) => true
  | _ => false
theorem rl_AA {t : FieldType} {u U : State} (hvm : u.vm.Alike U.vm) (h : (Cond.arrayOver (.array t)).before #[] u = true) : (Cond.arrayOver (.array t)).before #[] U = true := by
  obtain ⟨comp, c, k, h1, h2, h3, h4, h5⟩ := arrayOverA_spec h
  obtain ⟨k', hk', he⟩ := hvm.2.2 _ _ h3
  have hi : (U.vm.classes.findIdx? fun (x : Class) => match x.kind with | .array component _ => component == comp | _ => false) = some c := by
    refine (va_idx_bare U.vm comp).symm.trans ?_
    first | rw [hvm.bare_eq] | rw [← hvm.bare_eq]
    exact (va_idx_bare u.vm comp).trans h2
  have hkind : k'.kind = .array comp (.array t) := by rw [he]; exact h4
  have f1 : U.vm.findClass (FieldType.array t).toString = some comp := by rw [hvm.findClass]; exact h1
  have f2 : U.vm.findClass ("[" ++ (FieldType.array t).toString) = some c := by rw [hvm.findClass]; exact h5
  unfold Cond.before Cond.holds
  simp only [Cond.value]
  rw [f1, Option.bind_some]
  refine (congrArg (fun o : Option Nat => (o.bind (fun c => (U.vm.classes[c]?).map fun (k : Class) => match k.kind with | .array _ ty => decide (ty = FieldType.array t) && decide (U.vm.findClass ("[" ++ (FieldType.array t).toString) = some c) | _ => false) == some true)) hi).trans ?_
  simp [hk', hkind, f2]
theorem rl_nw_warm {w : Cond} (hw : rl_nw w = true) {s U : State} (hW : s.WarmedH U.vm) (h : w.before #[] s = true) : w.before #[] U = true := by
  cases w with
  | fieldLinkNest => exact va_Nw.warmF hW h
  | methodLinkNest => exact va_Nw.warmM hW h
  | arrayOver t =>
    cases t with
    | object C => exact va_AO.moved hW.alike h
    | array t => exact rl_AA hW.alike h
    | _ => cases hw
  | _ => cases hw
theorem rl_nw_vm {w : Cond} (hw : rl_nw w = true) {s U : State} (hW : s.vm = U.vm) (h : w.before #[] s = true) : w.before #[] U = true := by
  cases w with
  | fieldLinkNest => exact va_Nw.same rfl hW h
  | methodLinkNest => exact va_Nw.same rfl hW h
  | arrayOver t =>
    cases t with
    | object C => exact va_AO.moved (by rw [hW]; exact Vm.Alike.refl _) h
    | array t => exact rl_AA (by rw [hW]; exact Vm.Alike.refl _) h
    | _ => cases hw
  | _ => cases hw
/-- a method's start: the heap holds h, the tables are known, the nest mates' words hold -/
abbrev rl_Pc (E : rl_E) (Ns : List Cond) (av : List Value) (h : rl_H) (n : Nat) : Array Value → State → Prop := va_Pc av (fun U => rl_R E h n U.heap ∧ va_K E.1 E.2.1 E.2.2.1 U ∧ ∀ w ∈ Ns, w.before #[] U = true)
/-- its end -/
abbrev rl_Qc (E : rl_E) (Post : Option Value → rl_H → Nat → Prop) : Array Value → State → Outcome → State → Prop := fun _ _ oc t => ∃ (v : Option Value) (h' : rl_H) (n' : Nat), oc = .returned v ∧ Post v h' n' ∧ rl_R E h' n' t.heap
/-- THE CONTRACT of a method: from every state that holds h it returns, with an answer and a heap as Post says -/
def rl_Met (l : Launch) (E : rl_E) (BW Ns : List Cond) (y : MethodName) (cc : ByteArray) (nL : Nat) (ret : Option FieldType) (rm : Room) (av : List Value) (h : rl_H) (n : Nat) (Post : Option Value → rl_H → Nat → Prop) : Prop :=
  Met l y (Cond.code y cc nL ret :: BW) rm (rl_Pc E Ns av h n) (rl_Qc E Post) rm.cells rm.slots (fun q => E.2.2.2.size ≤ q)
/-- the arguments as locals -/
def rl_a : List Value → List (Option Value)
  | [] => []
  | .long x :: t => some (.long x) :: none :: rl_a t
  | .double x :: t => some (.double x) :: none :: rl_a t
  | v :: t => some v :: rl_a t
def rl_in (nL : Nat) (av : List Value) : List (Option Value) := rl_a av ++ List.replicate (nL - (rl_a av).length) none
theorem rl_a_of : ∀ (av : List Value) (b i : Nat) (v : Value), (rl_a av)[i]? = some (some v) → (b + i, v) ∈ lv_args b av
  | [], b, i, v, h => by simp [rl_a] at h
  | w :: t, b, 0, v, h => by
    have h1 : w = v := by cases w <;> simp_all [rl_a]
    subst h1
    exact List.mem_cons_self
  | w :: t, b, i + 1, v, h => by
    refine List.mem_cons_of_mem _ ?_
    by_cases hc : w.category = 2
    · rw [if_pos hc]
      cases i with
      | zero => cases w <;> simp_all [rl_a, Value.category]
      | succ i =>
        have h1 : (rl_a t)[i]? = some (some v) := by cases w <;> simp_all [rl_a, Value.category]
        have := rl_a_of t (b + 2) i v h1
        rw [show b + (i + 1 + 1) = b + 2 + i by omega]
        exact this
    · rw [if_neg hc]
      have h1 : (rl_a t)[i]? = some (some v) := by cases w <;> simp_all [rl_a, Value.category]
      have := rl_a_of t (b + 1) i v h1
      rw [show b + (i + 1) = b + 1 + i by omega]
      exact this
theorem rl_a_len : ∀ av : List Value, (rl_a av).length = (lg_sl av).length
  | [] => rfl
  | w :: t => by
    have ih := rl_a_len t
    have hs : (lg_sl (w :: t)).length = (if w.category = 2 then [Slot.val w, Slot.second] else [Slot.val w]).length + (lg_sl t).length := by simp [lg_sl]
    rw [hs, ← ih]
    cases w <;> simp [rl_a, Value.category] <;> omega
theorem rl_in_L {av : List Value} {nL : Nat} (h : (rl_a av).length ≤ nL) : rl_L ((lg_sl av ++ List.replicate (nL - (lg_sl av).length) Slot.unset).toArray) (rl_in nL av) := by
  refine rl_L.of (lv_entry av (n := nL) (by rw [← rl_a_len]; exact h)) (by simp [rl_in]; omega) (fun i v hi => ?_)
  unfold rl_in at hi
  by_cases hl : i < (rl_a av).length
  · rw [List.getElem?_append_left hl] at hi
    have := rl_a_of av 0 i v hi
    simpa using this
  · rw [List.getElem?_append_right (by omega)] at hi
    simp [List.getElem?_replicate] at hi
section RLC
variable {X : rl_X} {E : rl_E} {cc : ByteArray} {own : String} {BW Ns : List Cond} {pc : Nat} {lo : List (Option Value)} {st : List Value} {h : rl_H} {n ce sl : Nat}
/-- the end that a walk goes to -/
def rl_Q (X : rl_X) (E : rl_E) (Post : Option Value → rl_H → Nat → Prop) (mc ms : Nat) : State → Prop := MQ X.2.1.2.2.1 (rl_Qc E Post) X.2.1.2.1 X.1.2.2.2.2 mc ms (fun q => E.2.2.2.size ≤ q)
/-- what a walk of a method has beside rl_C: its room, its end, its return type, its name, its locals -/
def rl_B (X : rl_X) (E : rl_E) (l : Launch) (y : MethodName) (nL : Nat) (ret : Option FieldType) (rm : Room) (Post : Option Value → rl_H → Nat → Prop) : Prop :=
  X.1.2.1 = l ∧ X.1.2.2.2.1 = rm ∧ X.2.2 = rl_Q X E Post rm.cells rm.slots ∧ X.2.1.2.2.2.1.sig.returnType = ret ∧ X.2.1.2.2.2.1.name = y.name ∧ X.2.1.2.2.2.2.maxLocals = nL
theorem rl_Met.of {l : Launch} {y : MethodName} {nL : Nat} {ret : Option FieldType} {rm : Room} {av : List Value} {Post : Option Value → rl_H → Nat → Prop} (hy : plainName y.cls = true) (hav : (rl_a av).length ≤ nL)
    (body : ∀ X : rl_X, rl_C X E cc y.cls BW Ns → rl_B X E l y nL ret rm Post → rl_G X E 0 (rl_in nL av) [] h n 0 0) : rl_Met l E BW Ns y cc nL ret rm av h n Post := by
  refine Met.ofW (cc := cc) (maxL := nL) (ret := ret) hy rfl ?_
  intro p e s m args below meth c s₁ B hml hv
  obtain ⟨rfl, hR, hK, hN⟩ := hv
  have hts := atoms_spec (ws := Cond.code y cc nL ret :: BW) B.pre
  have hown : s.vm.findClass y.cls = some m.cls := findClass_of_methodNamed B.named
  have hb := body ((p, l, e, rm, s), (m, av.toArray, below, meth, c), MQ below (rl_Qc E Post) av.toArray s rm.cells rm.slots (fun q => E.2.2.2.size ≤ q))
    ⟨B.exec, B.bytes, hown, fun w hw => hts w (List.mem_cons_of_mem _ hw), hN, hK, B.notSynchronized⟩ ⟨rfl, rfl, rfl, B.returns, (name_of_methodNamed B.named B.method).1, hml⟩
  rw [lg_entry_eq]
  exact hb s.heap [] _ hR (fun q hq => by cases hq) (rl_in_L hav)
/-! returns -/
variable {l : Launch} {y : MethodName} {nL : Nat} {ret : Option FieldType} {rm : Room} {Post : Option Value → rl_H → Nat → Prop}
theorem o_iret (hC : rl_C X E cc own BW Ns) (hB : rl_B X E l y nL (some .int) rm Post) {v : Int32} (hd : decode cc pc = .ok (.ireturn, 1)) (hce : ce ≤ rm.cells) (hsl : sl ≤ rm.slots) (hp : Post (some (.int v)) h n) : rl_G X E pc lo [.int v] h n ce sl := by
  intro H locs ls a b c
  show W _ _ _ _ _ _ _ _ _ _ _ _ _ _ X.2.2 _
  rw [hB.2.2.1]
  refine W.widen hce hsl ?_
  exact W.iret hC.1 hC.2.1 hB.2.2.2.1 (fun t ht _ => ⟨_, h, n, rfl, hp, by rw [ht]; exact a⟩) b hd hC.2.2.2.2.2.2
theorem o_zret (hC : rl_C X E cc own BW Ns) (hB : rl_B X E l y nL (some .boolean) rm Post) {v : Int32} (hd : decode cc pc = .ok (.ireturn, 1)) (hv : narrow .boolean (.int v) = .int v) (hce : ce ≤ rm.cells) (hsl : sl ≤ rm.slots) (hp : Post (some (.int v)) h n) : rl_G X E pc lo [.int v] h n ce sl := by
  intro H locs ls a b c
  show W _ _ _ _ _ _ _ _ _ _ _ _ _ _ X.2.2 _
  rw [hB.2.2.1]
  refine W.widen hce hsl ?_
  exact W.zret hC.1 hC.2.1 hB.2.2.2.1 hv (fun t ht _ => ⟨_, h, n, rfl, hp, by rw [ht]; exact a⟩) b hd hC.2.2.2.2.2.2
theorem o_lret (hC : rl_C X E cc own BW Ns) (hB : rl_B X E l y nL (some .long) rm Post) {v : Int64} (hd : decode cc pc = .ok (.lreturn, 1)) (hce : ce ≤ rm.cells) (hsl : sl ≤ rm.slots) (hp : Post (some (.long v)) h n) : rl_G X E pc lo [.long v] h n ce sl := by
  intro H locs ls a b c
  show W _ _ _ _ _ _ _ _ _ _ _ _ _ _ X.2.2 _
  rw [hB.2.2.1]
  refine W.widen hce hsl ?_
  exact W.lret hC.1 hC.2.1 hB.2.2.2.1 (fun t ht _ => ⟨_, h, n, rfl, hp, by rw [ht]; exact a⟩) b hd hC.2.2.2.2.2.2
theorem o_vret (hC : rl_C X E cc own BW Ns) (hB : rl_B X E l y nL none rm Post) (hd : decode cc pc = .ok (.return_, 1)) (hce : ce ≤ rm.cells) (hsl : sl ≤ rm.slots) (hp : Post none h n) : rl_G X E pc lo [] h n ce sl := by
  intro H locs ls a b c
  show W _ _ _ _ _ _ _ _ _ _ _ _ _ _ X.2.2 _
  rw [hB.2.2.1]
  refine W.widen hce hsl ?_
  exact W.vret hC.1 hC.2.1 hB.2.2.2.1 (fun t ht _ => ⟨_, h, n, rfl, hp, by rw [ht]; exact a⟩) b hd hC.2.2.2.2.2.2
theorem o_aret (hC : rl_C X E cc own BW Ns) {rt : FieldType} (hB : rl_B X E l y nL (some rt) rm Post) {v : Value} (hrt : (∃ n, rt = .object n) ∨ ∃ t, rt = .array t) (hv : v = .null ∨ ∃ a, v = .ref a) (hd : decode cc pc = .ok (.areturn, 1)) (hce : ce ≤ rm.cells) (hsl : sl ≤ rm.slots) (hp : Post (some v) h n) : rl_G X E pc lo [v] h n ce sl := by
  intro H locs ls a b c
  show W _ _ _ _ _ _ _ _ _ _ _ _ _ _ X.2.2 _
  rw [hB.2.2.1]
  refine W.widen hce hsl ?_
  exact W.aret hC.1 hC.2.1 hB.2.2.2.1 hrt hv (fun t ht _ => ⟨_, h, n, rfl, hp, by rw [ht]; exact a⟩) b hd hC.2.2.2.2.2.2
/-! calls -/
/-- what the words say of a method that is called -/
def rl_Y (BW : List Cond) (y : MethodName) (bytes : ByteArray) (maxL : Nat) (ret : Option FieldType) (k : Nat) : Prop :=
  Cond.code y bytes maxL ret ∈ BW ∧ Cond.initialized y.cls ∈ BW ∧ (y.cls ≠ "java/lang/invoke/MethodHandle" ∧ y.cls ≠ "java/lang/invoke/VarHandle" ∧ (parseMethodDescriptor y.desc).map (fun d => d.parameters.length) = some k)
/-- a method's link -/
def rl_M (X : rl_X) (own : String) (idx : Nat) (y : MethodName) : Prop := (Cond.methodLink own idx y).before X.2.1.2.1 X.1.2.2.2.2 = true ∨ ∃ host : String, va_Nw (.methodLinkNest own idx y host) X.1.2.2.2.2
theorem rl_Mo (hC : rl_C X E cc own BW Ns) {idx : Nat} (h1 : Cond.methodLink own idx y ∈ BW) : rl_M X own idx y := Or.inl (hC.2.2.2.1 _ h1)
theorem rl_Mn (hC : rl_C X E cc own BW Ns) {idx : Nat} {host : String} (h1 : Cond.methodLinkNest own idx y host ∈ Ns) : rl_M X own idx y := Or.inr ⟨host, hC.2.2.2.2.1 _ h1⟩
theorem rl_good {bytes : ByteArray} {maxL : Nat} (hG : ∀ w ∈ BW, goodWord w = true) (hc : Cond.code y bytes maxL ret ∈ BW) : GoodIn BW (Cond.code y bytes maxL ret :: BW) := by
  intro w hw
  rcases List.mem_cons.mp hw with rfl | hw
  · exact ⟨hc, good_of_word (hG _ hc)⟩
  · exact ⟨hw, good_of_word (hG _ hw)⟩
theorem rl_blind (hN : ∀ w ∈ Ns, rl_nw w = true) {av : List Value} : FrameBlind (rl_Pc E Ns av h n) := by
  intro a U g mk q
  obtain ⟨q0, q1, q2, q3⟩ := q
  exact ⟨q0, q1, va_K.moved (u := U) (U := U.calling g mk a) (Vm.Alike.refl U.vm) q2, fun w hw => rl_nw_vm (hN w hw) (s := U) rfl (q3 w hw)⟩
theorem rl_pre (hC : rl_C X E cc own BW Ns) (hN : ∀ w ∈ Ns, rl_nw w = true) {H : Heap} (hR : rl_R E h n H) {av : List Value} : ∀ U : State, U.heap = H → X.1.2.2.2.2.WarmedH U.vm → rl_Pc E Ns av h n av.toArray U :=
  fun U hU hW => ⟨rfl, by rw [hU]; exact hR, va_K.moved hW.alike hC.2.2.2.2.2.1, fun w hw => rl_nw_warm (hN w hw) hW (hC.2.2.2.2.1 w hw)⟩
theorem rl_run {mc ms : Nat} {H : Heap} {locs : List Loc} {g : JFrame} {rest : List Value} {a : Array Value} (b1 : ∀ q ∈ locs, E.2.2.2.size ≤ q.base)
    (hr : va_Run X.1.1 X.1.2.1 X.1.2.2.1 X.1.2.2.2.1 X.1.2.2.2.2 X.2.1.1 X.2.1.2.1 X.2.1.2.2.1 X.2.1.2.2.2.1 X.2.1.2.2.2.2 H locs ce sl mc ms g rest (rl_Qc E Post a) (fun q => E.2.2.2.size ≤ q))
    (kk : ∀ (v : Option Value) (h' : rl_H) (n' : Nat) (H1 : Heap) (locs1 : List Loc), Post v h' n' → rl_R E h' n' H1 → (∀ q ∈ locs1, E.2.2.2.size ≤ q.base) → rl_W X H1 locs1 (ce + mc) (sl + ms) { g with pc := g.pc + 3, stack := v.toList ++ rest }) : rl_W X H locs ce sl g := by
  intro T hT S
  obtain ⟨v, st0, t, T', L, e0, S', hL, e1, e2, ⟨v', h', n', hv, hp, hR⟩, go⟩ := hr T hT S
  cases hv
  obtain ⟨t', a1, a2⟩ := kk v h' n' T'.heap (locs ++ L) hp (by rw [e1]; exact hR) (fun q hq => (List.mem_append.mp hq).elim (b1 q) (hL q)) T' rfl S'
  exact ⟨t', go _ a1, a2⟩
theorem o_callV {bytes : ByteArray} {maxL nL' idx b ci N : Nat} {C : String} {T : u_T} {fs As rest : List Value} {ret' : Option FieldType} {rm' : Room} {y' : MethodName} {Post' : Option Value → rl_H → Nat → Prop}
    (hC : rl_C X E cc own BW Ns) (hG : ∀ w ∈ BW, goodWord w = true) (hN : ∀ w ∈ Ns, rl_nw w = true) (hml : X.2.1.2.2.2.2.maxLocals = lo.length) (hY : rl_Y BW y' bytes maxL ret' As.length) (h1 : Cond.instanceMethod y' ∈ BW) (h2 : Cond.selects y'.cls y' y' ∈ BW) (hl : rl_M X own idx y')
    (hM : rl_Met X.1.2.1 E BW Ns y' bytes maxL ret' rm' (.ref b :: As) h n Post') (hb : h b = some (.inr (ci, fs))) (hc : E.2.1[ci]? = some (C, T, N)) (hCy : C = y'.cls)
    (hst : (rest.map fun v => v.category).sum ≤ 8) (hr1 : rm'.frames + 1 ≤ X.1.2.2.2.1.frames) (hr2 : 8 + (maxL + 11) + rm'.locals ≤ X.1.2.2.2.1.locals) (hr3 : ce + rm'.cells ≤ X.1.2.2.2.1.cells) (hr4 : sl + rm'.slots ≤ X.1.2.2.2.1.slots) (hd : decode cc pc = .ok (.invokevirtual idx, 3))
    (kk : ∀ (v : Option Value) (h' : rl_H) (n' : Nat), Post' v h' n' → rl_G X E (pc + 3) lo (v.toList ++ rest) h' n' (ce + rm'.cells) (sl + rm'.slots)) : rl_G X E pc lo (As.reverse ++ .ref b :: rest) h n ce sl := by
  subst hCy
  intro H locs ls a1 b1 c1
  have hts := hC.2.2.2.1
  have hfix : CallFix X.1.1 X.2.1.1 X.2.1.2.2.2.2 cc lo.length X.1.2.2.2.2 X.2.1.2.1 BW own := ⟨hC.1, hC.2.1, hml, hC.2.2.1, hts⟩
  have hrecv : ∃ cellB : Cell, H[b]? = some cellB ∧ cellB.vm.isStatics = false ∧ X.1.2.2.2.2.vm.findClass y'.cls = some cellB.cls := va_recv hC.2.2.2.2.2.1 (rl_P1 a1 hb) hc (q0 := 0) rfl
  have hpre : PreV X.1.2.2.2.2 H y'.cls b (rl_Pc E Ns (.ref b :: As) h n) As := ⟨rl_blind hN, hrecv, rl_pre hC hN a1⟩
  have hend : ∀ (v : Option Value) (h' : rl_H) (n' : Nat) (H1 : Heap) (locs1 : List Loc), Post' v h' n' → rl_R E h' n' H1 → (∀ q ∈ locs1, E.2.2.2.size ≤ q.base) → rl_W X H1 locs1 (ce + rm'.cells) (sl + rm'.slots) (F0 X.2.1.1 (pc + 3) ls (v.toList ++ rest)) := fun v h' n' H1 locs1 hp hR hL => kk v h' n' hp H1 locs1 ls hR hL c1
  rcases hl with hl | ⟨host, hl⟩
  · exact rl_run b1 (va_runV (y := y') (As := As) (rest := rest) hfix hM ⟨callB_of As.length hts (rl_good hG hY.1) rfl rfl rfl (hts _ hY.2.1) hl hY.2.2 ⟨hr1, hr2⟩, hts _ h1, hts _ h2⟩ hpre rfl rfl c1.1 rfl (lv_room hst) hd ⟨hr3, hr4⟩) hend
  · exact rl_run b1 (va_runVN (y := y') (As := As) (rest := rest) hfix hM ⟨va_cnB As.length hts (rl_good hG hY.1) rfl rfl rfl hl (hts _ hY.2.1) hY.2.2 ⟨hr1, hr2⟩, hts _ h1, hts _ h2⟩ hpre rfl rfl c1.1 rfl (lv_room hst) hd ⟨hr3, hr4⟩) hend
theorem o_callS {bytes : ByteArray} {maxL nL' idx : Nat} {As rest : List Value} {ret' : Option FieldType} {rm' : Room} {y' : MethodName} {Post' : Option Value → rl_H → Nat → Prop}
    (hC : rl_C X E cc own BW Ns) (hG : ∀ w ∈ BW, goodWord w = true) (hN : ∀ w ∈ Ns, rl_nw w = true) (hml : X.2.1.2.2.2.2.maxLocals = lo.length) (hY : rl_Y BW y' bytes maxL ret' As.length) (h1 : Cond.static y' ∈ BW) (hl : rl_M X own idx y')
    (hM : rl_Met X.1.2.1 E BW Ns y' bytes maxL ret' rm' As h n Post')
    (hst : (rest.map fun v => v.category).sum ≤ 8) (hr1 : rm'.frames + 1 ≤ X.1.2.2.2.1.frames) (hr2 : 8 + (maxL + 11) + rm'.locals ≤ X.1.2.2.2.1.locals) (hr3 : ce + rm'.cells ≤ X.1.2.2.2.1.cells) (hr4 : sl + rm'.slots ≤ X.1.2.2.2.1.slots) (hd : decode cc pc = .ok (.invokestatic idx, 3))
    (kk : ∀ (v : Option Value) (h' : rl_H) (n' : Nat), Post' v h' n' → rl_G X E (pc + 3) lo (v.toList ++ rest) h' n' (ce + rm'.cells) (sl + rm'.slots)) : rl_G X E pc lo (As.reverse ++ rest) h n ce sl := by
  intro H locs ls a1 b1 c1
  have hts := hC.2.2.2.1
  have hfix : CallFix X.1.1 X.2.1.1 X.2.1.2.2.2.2 cc lo.length X.1.2.2.2.2 X.2.1.2.1 BW own := ⟨hC.1, hC.2.1, hml, hC.2.2.1, hts⟩
  have hpre : PreS X.1.2.2.2.2 H (rl_Pc E Ns As h n) As := ⟨rl_blind hN, rl_pre hC hN a1⟩
  have hend : ∀ (v : Option Value) (h' : rl_H) (n' : Nat) (H1 : Heap) (locs1 : List Loc), Post' v h' n' → rl_R E h' n' H1 → (∀ q ∈ locs1, E.2.2.2.size ≤ q.base) → rl_W X H1 locs1 (ce + rm'.cells) (sl + rm'.slots) (F0 X.2.1.1 (pc + 3) ls (v.toList ++ rest)) := fun v h' n' H1 locs1 hp hR hL => kk v h' n' hp H1 locs1 ls hR hL c1
  rcases hl with hl | ⟨host, hl⟩
  · exact rl_run b1 (va_runS (y := y') (As := As) (rest := rest) hfix hM ⟨callB_of As.length hts (rl_good hG hY.1) rfl rfl rfl (hts _ hY.2.1) hl hY.2.2 ⟨hr1, hr2⟩, hts _ h1⟩ hpre rfl rfl c1.1 rfl (lv_room hst) hd ⟨hr3, hr4⟩) hend
  · exact rl_run b1 (va_runSN (y := y') (As := As) (rest := rest) hfix hM ⟨va_cnB As.length hts (rl_good hG hY.1) rfl rfl rfl hl (hts _ hY.2.1) hY.2.2 ⟨hr1, hr2⟩, hts _ h1, trivial⟩ hpre rfl rfl c1.1 rfl (lv_room hst) hd ⟨hr3, hr4⟩) hend
theorem o_callI {bytes : ByteArray} {maxL nL' idx b : Nat} {As rest : List Value} {rm' : Room} {y' : MethodName} {Post' : Option Value → rl_H → Nat → Prop}
    (hC : rl_C X E cc own BW Ns) (hG : ∀ w ∈ BW, goodWord w = true) (hN : ∀ w ∈ Ns, rl_nw w = true) (hml : X.2.1.2.2.2.2.maxLocals = lo.length) (hY : rl_Y BW y' bytes maxL none As.length) (hi : y'.name = "<init>") (h1 : Cond.instanceMethod y' ∈ BW) (hl : rl_M X own idx y')
    (hM : rl_Met X.1.2.1 E BW Ns y' bytes maxL none rm' (.ref b :: As) h n Post')
    (hst : (rest.map fun v => v.category).sum ≤ 8) (hr1 : rm'.frames + 1 ≤ X.1.2.2.2.1.frames) (hr2 : 8 + (maxL + 11) + rm'.locals ≤ X.1.2.2.2.1.locals) (hr3 : ce + rm'.cells ≤ X.1.2.2.2.1.cells) (hr4 : sl + rm'.slots ≤ X.1.2.2.2.1.slots) (hd : decode cc pc = .ok (.invokespecial idx, 3))
    (kk : ∀ (v : Option Value) (h' : rl_H) (n' : Nat), Post' v h' n' → rl_G X E (pc + 3) lo (v.toList ++ rest) h' n' (ce + rm'.cells) (sl + rm'.slots)) : rl_G X E pc lo (As.reverse ++ .ref b :: rest) h n ce sl := by
  intro H locs ls a1 b1 c1
  have hts := hC.2.2.2.1
  have hfix : CallFix X.1.1 X.2.1.1 X.2.1.2.2.2.2 cc lo.length X.1.2.2.2.2 X.2.1.2.1 BW own := ⟨hC.1, hC.2.1, hml, hC.2.2.1, hts⟩
  have hpre : PreS X.1.2.2.2.2 H (rl_Pc E Ns (.ref b :: As) h n) (.ref b :: As) := ⟨rl_blind hN, rl_pre hC hN a1⟩
  have hend : ∀ (v : Option Value) (h' : rl_H) (n' : Nat) (H1 : Heap) (locs1 : List Loc), Post' v h' n' → rl_R E h' n' H1 → (∀ q ∈ locs1, E.2.2.2.size ≤ q.base) → rl_W X H1 locs1 (ce + rm'.cells) (sl + rm'.slots) (F0 X.2.1.1 (pc + 3) ls (v.toList ++ rest)) := fun v h' n' H1 locs1 hp hR hL => kk v h' n' hp H1 locs1 ls hR hL c1
  rcases hl with hl | ⟨host, hl⟩
  · exact rl_run b1 (va_runI (y := y') (As := As) (rest := rest) hfix hM ⟨callB_of As.length hts (rl_good hG hY.1) rfl rfl rfl (hts _ hY.2.1) hl hY.2.2 ⟨hr1, hr2⟩, hi, hts _ h1⟩ hpre rfl rfl c1.1 rfl (lv_room hst) hd ⟨hr3, hr4⟩) hend
  · exact rl_run b1 (va_runIN (y := y') (As := As) (rest := rest) hfix hM ⟨va_cnB As.length hts (rl_good hG hY.1) rfl rfl rfl hl (hts _ hY.2.1) hY.2.2 ⟨hr1, hr2⟩, hi, hts _ h1⟩ hpre rfl rfl c1.1 rfl (lv_room hst) hd ⟨hr3, hr4⟩) hend
/-- Object's own constructor -/
theorem o_objInit (hC : rl_C X E cc own BW Ns) {idx a : Nat} (hml : X.2.1.2.2.2.2.maxLocals = lo.length) (h1 : Cond.methodLink own idx objectInit ∈ BW) (h2 : Cond.instanceMethod objectInit ∈ BW) (h3 : Cond.code objectInit ⟨#[0xb1]⟩ 1 none ∈ BW) (hd : decode cc pc = .ok (.invokespecial idx, 3)) (hr1 : 1 ≤ X.1.2.2.2.1.frames) (hr2 : (st.map fun v => v.category).sum + 12 ≤ X.1.2.2.2.1.locals) (kk : rl_G X E (pc + 3) lo st h n ce sl) : rl_G X E pc lo (.ref a :: st) h n ce sl := by
  intro H locs ls a1 b1 c1
  have hts := hC.2.2.2.1
  exact W.objInit hC.1 hC.2.1 hC.2.2.1 (hts _ h1) (hts _ h2) (hts _ h3) rfl (by rw [hml]; exact c1.1) rfl hd hr1 (by show 2 * 0 + _ + 12 ≤ _; omega) (kk H locs ls a1 b1 c1)
end RLC
