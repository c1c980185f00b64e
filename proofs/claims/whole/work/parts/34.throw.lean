/-! throws: what they need beside the words, their contract, the throw, the call that catches -/
def rl_nx : Cond → Bool
  | .castable _ _ => true
  | .declares _ => true
  | _ => false
def rl_Xs : List Cond := tables_1.filter rl_nx
theorem rl_nx_ot {w : Cond} (hw : rl_nx w = true) : w.onTables = true := by
  cases w <;> first | rfl | cases hw
theorem rl_nx_warm {w : Cond} (hw : rl_nx w = true) {s U : State} (hW : s.WarmedH U.vm) (h : w.before #[] s = true) : w.before #[] U = true := by
  cases w with
  | castable => exact va_Nw.warmC hW h
  | declares => exact va_Nw.warmD hW h
  | _ => cases hw
def rl_strs : List (Nat × String) := [(147, "no such tuple"), (153, "no such column"), (164, "no such term"), (168, "what is 0 or 1")]
def rl_KX (E : rl_E) (U : State) : Prop :=
  (∀ w ∈ rl_Xs, w.before #[] U = true) ∧ vx_Zq Bundle.tN "UNASSIGNED_STACK" Bundle.steD (fun q => E.2.2.2.size ≤ q) U U.heap ∧ vx_Zq Bundle.tN "SUPPRESSED_SENTINEL" Bundle.listD (fun q => E.2.2.2.size ≤ q) U U.heap ∧ (∀ q ∈ rl_strs, ∃ sa, vk_R RX7 q.1 q.2 sa U) ∧ va_Nc "java/lang/IllegalArgumentException" "java/lang/IndexOutOfBoundsException" U
theorem rl_KX.to {E : rl_E} {s U : State} (hW : s.WarmedH U.vm) (hq : ∀ a : Nat, a < E.2.2.2.size → U.heap[a]? = s.heap[a]?) (h : rl_KX E s) : rl_KX E U := by
  obtain ⟨h1, h2, h3, h4, h5⟩ := h
  refine ⟨fun w hw => rl_nx_warm (List.mem_filter.mp hw).2 hW (h1 w hw), (h2.moved hW.alike).kept (fun a _ hA => hq a (Nat.not_le.mp hA)), (h3.moved hW.alike).kept (fun a _ hA => hq a (Nat.not_le.mp hA)), fun q hq => ?_, h5.moved hW.alike⟩
  obtain ⟨sa, hs⟩ := h4 q hq
  exact ⟨sa, hs.warm hW⟩
theorem rl_KX.vm {E : rl_E} {s U : State} (hv : s.vm = U.vm) (hh : U.heap = s.heap) (h : rl_KX E s) : rl_KX E U := by
  obtain ⟨h1, h2, h3, h4, h5⟩ := h
  refine ⟨fun w hw => va_Nw.same (rl_nx_ot (List.mem_filter.mp hw).2) hv (h1 w hw), ?_, ?_, fun q hq => ?_, h5.moved (by rw [hv]; exact Vm.Alike.refl _)⟩
  · rw [hh]
    exact h2.moved (by rw [hv]; exact Vm.Alike.refl _)
  · rw [hh]
    exact h3.moved (by rw [hv]; exact Vm.Alike.refl _)
  · obtain ⟨sa, hs⟩ := h4 q hq
    exact ⟨sa, hs.same hv.symm⟩
abbrev rl_PcX (E : rl_E) (Ns : List Cond) (av : List Value) (h : rl_H) (n : Nat) : Array Value → State → Prop := va_Pc av (fun U => (rl_R E h n U.heap ∧ va_K E.1 E.2.1 E.2.2.1 U ∧ ∀ w ∈ Ns, w.before #[] U = true) ∧ rl_KX E U)
abbrev rl_XC (E : rl_E) (h : rl_H) (n : Nat) (PX : String → Prop) : String → State → State → Prop := fun C _ t => PX C ∧ ∃ n', n ≤ n' ∧ rl_R E h n' t.heap
/-- the contract of a method that returns or throws; what it throws leaves h as it was -/
def rl_MetX (l : Launch) (E : rl_E) (BW Ns : List Cond) (y : MethodName) (cc : ByteArray) (nL : Nat) (ret : Option FieldType) (rm : Room) (av : List Value) (h : rl_H) (n : Nat) (Post : Option Value → rl_H → Nat → Prop) (PX : String → Prop) : Prop :=
  vx_Met l y (Cond.code y cc nL ret :: BW) rm (rl_PcX E Ns av h n) (rl_Qc E Post) (rl_XC E h n PX) rm.cells rm.slots (fun q => E.2.2.2.size ≤ q)
theorem rl_blindX {E : rl_E} {Ns : List Cond} (hN : ∀ w ∈ Ns, rl_nw w = true) {av : List Value} {h : rl_H} {n : Nat} : FrameBlind (rl_PcX E Ns av h n) := by
  intro a U g mk q
  obtain ⟨q0, ⟨q1, q2, q3⟩, q4⟩ := q
  exact ⟨q0, ⟨q1, va_K.moved (u := U) (U := U.calling g mk a) (Vm.Alike.refl U.vm) q2, fun w hw => rl_nw_vm (hN w hw) (s := U) rfl (q3 w hw)⟩, rl_KX.vm (s := U) rfl rfl q4⟩
section RLX
variable {X : rl_X} {E : rl_E} {cc : ByteArray} {own : String} {BW Ns : List Cond} {pc : Nat} {lo : List (Option Value)} {st : List Value} {h : rl_H} {n ce sl : Nat}
/-- the start of a walk with throws: the heap at the entry, what throws need -/
def rl_S0 (X : rl_X) (E : rl_E) : Prop := (∃ (h0 : rl_H) (n0 : Nat), rl_R E h0 n0 X.1.2.2.2.2.heap) ∧ rl_KX E X.1.2.2.2.2
/-- what a walk of a throwing method has beside rl_C -/
def rl_BX (X : rl_X) (E : rl_E) (l : Launch) (nL : Nat) (ret : Option FieldType) (rm : Room) (Post : Option Value → rl_H → Nat → Prop) (XC : String → State → State → Prop) : Prop :=
  X.1.2.1 = l ∧ X.1.2.2.2.1 = rm ∧ X.2.2 = vx_MQ X.2.1.2.2.1 (rl_Qc E Post) XC X.2.1.2.1 X.1.2.2.2.2 rm.cells rm.slots (fun q => E.2.2.2.size ≤ q) ∧ X.2.1.2.2.2.1.sig.returnType = ret ∧ X.2.1.2.2.2.2.maxLocals = nL ∧ ∀ x ∈ X.2.1.2.2.2.2.exceptionTable.toList, False
theorem rl_MetX.of {l : Launch} {y : MethodName} {nL : Nat} {ret : Option FieldType} {rm : Room} {av : List Value} {Post : Option Value → rl_H → Nat → Prop} {PX : String → Prop} (hy : plainName y.cls = true) (hav : (rl_a av).length ≤ nL)
    (body : ∀ X : rl_X, rl_C X E cc y.cls BW Ns → rl_BX X E l nL ret rm Post (rl_XC E h n PX) → rl_S0 X E → X.1.2.2.2.2.heap.size = n → rl_G X E 0 (rl_in nL av) [] h n 0 0) : rl_MetX l E BW Ns y cc nL ret rm av h n Post PX := by
  refine vx_ofW (cc := cc) (maxL := nL) (ret := ret) hy rfl ?_
  intro p e s m args below meth c s₁ B hml ht hv
  obtain ⟨rfl, ⟨hR, hK, hN⟩, hX⟩ := hv
  have hts := atoms_spec (ws := Cond.code y cc nL ret :: BW) B.pre
  have hown : s.vm.findClass y.cls = some m.cls := findClass_of_methodNamed B.named
  have hb := body ((p, l, e, rm, s), (m, av.toArray, below, meth, c), vx_MQ below (rl_Qc E Post) (rl_XC E h n PX) av.toArray s rm.cells rm.slots (fun q => E.2.2.2.size ≤ q))
    ⟨B.exec, B.bytes, hown, fun w hw => hts w (List.mem_cons_of_mem _ hw), hN, hK, B.notSynchronized⟩ ⟨rfl, rfl, rfl, B.returns, hml, ht⟩ ⟨⟨h, n, hR⟩, hX⟩ hR.1
  rw [lg_entry_eq]
  exact hb s.heap [] _ hR (fun q hq => by cases hq) (rl_in_L hav)
/-- throw new E("text") -/
theorem o_throwS {l : Launch} {nL : Nat} {ret : Option FieldType} {rm : Room} {Post : Option Value → rl_H → Nat → Prop} {PX : String → Prop} {n0 : Nat} (hC : rl_C X E cc own BW Ns) (hl : l.stackTraces = false) (hB : rl_BX X E l nL ret rm Post (rl_XC E h n0 PX)) (hS : rl_S0 X E) (hn0 : X.1.2.2.2.2.heap.size = n0) (hnn : n0 ≤ n) {cls text : String} {names : List String} {ik is ic : Nat}
    (hcls : Bundle.fit cls = true) (hnames : ∀ x ∈ names, Bundle.fit x = true) (hk : Cond.classLink own ik cls ∈ BW) (hini : Cond.initialized cls ∈ BW) (hstr : ∃ sa, vk_R own is text sa X.1.2.2.2.2)
    (ha1 : ∀ w ∈ (vx_atS own ic cls names).filter goodWord, w ∈ BW) (ha2 : ∀ w ∈ (vx_atS own ic cls names).filter (fun w => !goodWord w), w ∈ rl_Xs) (hgood : ∀ w ∈ Cond.classLink own ik cls :: Cond.initialized cls :: vx_atS own ic cls names, vx_ot w = true)
    (d0 : decode cc pc = .ok (.new ik, 3)) (d3 : decode cc (pc + 3) = .ok (.dup, 1)) (d4 : decode cc (pc + 4) = .ok (.ldc is, 2)) (d6 : decode cc (pc + 6) = .ok (.invokespecial ic, 3)) (d9 : decode cc (pc + 9) = .ok (.athrow, 1))
    (hr1 : names.length + 3 < rm.frames) (hr2 : (st.map fun v => v.category).sum + (13 * (names.length + 1) + 43) ≤ rm.locals) (hr3 : ce + 1 ≤ rm.cells) (hr4 : sl + 6 ≤ rm.slots) (hml : X.2.1.2.2.2.2.maxLocals = lo.length) (hPX : PX cls) : rl_G X E pc lo st h n ce sl := by
  intro H locs ls a1 b1 c1
  show W _ _ _ _ _ _ _ _ _ _ _ _ _ _ X.2.2 _
  obtain ⟨e1, e2, e3, e4, e5, e6⟩ := hB
  obtain ⟨⟨h0, n00, r0⟩, kx⟩ := hS
  obtain ⟨sa, hstr⟩ := hstr
  rw [e3]
  have hts := hC.2.2.2.1
  have hat : ∀ w ∈ vx_atS own ic cls names, w.before X.2.1.2.1 X.1.2.2.2.2 = true := vx_hat (fun w hw => hts w (ha1 w hw)) ha2 (fun w hw => va_Nw.use (rl_nx_ot (List.mem_filter.mp hw).2) (kx.1 w hw))
  have hS2 : va_S (fun q => E.2.2.2.size ≤ q) X.1.2.2.2.2.heap H locs := ⟨by rw [hn0, a1.1]; exact hnn, fun q hq hA => by rw [a1.2.2.1 q (Nat.not_le.mp hA), r0.2.2.1 q (Nat.not_le.mp hA)], b1⟩
  refine vx_throwS hC.1 hC.2.1 (by rw [e1]; exact hl) hC.2.2.1 hcls hnames (hts _ hk) (hts _ hini) hstr hat hgood kx.2.1 kx.2.2.1 hS2 (by rw [hml]; exact c1.1) d0 d3 d4 d6 d9 (fun x hx => (e6 x hx).elim) (by rw [e2]; exact hr1) (by rw [e2]; exact hr2) (by rw [e2]; exact hr3) (by rw [e2]; exact hr4) hC.2.2.2.2.2.2 ?_ b1 hr3 hr4
  intro t hal hsz hkp
  refine ⟨hPX, t.heap.size, by rw [a1.1] at hsz; omega, rfl, by rw [a1.1] at hsz; exact Nat.le_trans a1.2.1 hsz, fun q hq => ?_, fun a x hx => ?_⟩
  · rw [hkp q (by rw [a1.1]; exact Nat.lt_of_lt_of_le hq a1.2.1)]
    exact a1.2.2.1 q hq
  · exact ⟨(a1.2.2.2 a x hx).1, (a1.2.2.2 a x hx).2.kept (hkp a (by rw [a1.1]; exact a1.lt hx))⟩
/-- a call of a method that may throw; the first row of the own table takes it -/
theorem o_callVX {bytes : ByteArray} {maxL idx b ci N : Nat} {C : String} {T : u_T} {fs As rest : List Value} {ret' : Option FieldType} {rm' : Room} {y' : MethodName} {Post' : Option Value → rl_H → Nat → Prop} {PX : String → Prop} {nm : String} {x : ExceptionTableEntry} {suf : List ExceptionTableEntry}
    (hC : rl_C X E cc own BW Ns) (hG : ∀ w ∈ BW, goodWord w = true) (hN : ∀ w ∈ Ns, rl_nw w = true) (hS : rl_S0 X E) (hml : X.2.1.2.2.2.2.maxLocals = lo.length) (hY : rl_Y BW y' bytes maxL ret' As.length) (h1 : Cond.instanceMethod y' ∈ BW) (h2 : Cond.selects y'.cls y' y' ∈ BW) (hl : Cond.methodLink own idx y' ∈ BW)
    (hM : rl_MetX X.1.2.1 E BW Ns y' bytes maxL ret' rm' (.ref b :: As) h n Post' PX) (hb : h b = some (.inr (ci, fs))) (hc : E.2.1[ci]? = some (C, T, N)) (hCy : C = y'.cls)
    (hst : (rest.map fun v => v.category).sum ≤ 8) (hr1 : rm'.frames + 1 ≤ X.1.2.2.2.1.frames) (hr2 : 8 + (maxL + 11) + rm'.locals ≤ X.1.2.2.2.1.locals) (hr3 : ce + rm'.cells ≤ X.1.2.2.2.1.cells) (hr4 : sl + rm'.slots ≤ X.1.2.2.2.1.slots) (hd : decode cc pc = .ok (.invokevirtual idx, 3))
    (hsplit : X.2.1.2.2.2.2.exceptionTable.toList = x :: suf) (hx : covers x pc = true) (hx0 : x.catchType ≠ 0) (hxl : Cond.classLink own x.catchType nm ∈ BW) (hcast : ∀ F : String, PX F → Cond.castable F nm ∈ rl_Xs)
    (kx : ∀ (q n' : Nat), n ≤ n' → rl_G X E x.handlerPc lo [.ref q] h n' (ce + rm'.cells) (sl + rm'.slots))
    (kk : ∀ (v : Option Value) (h' : rl_H) (n' : Nat), Post' v h' n' → rl_G X E (pc + 3) lo (v.toList ++ rest) h' n' (ce + rm'.cells) (sl + rm'.slots)) : rl_G X E pc lo (As.reverse ++ .ref b :: rest) h n ce sl := by
  subst hCy
  intro H locs ls a1 b1 c1
  have hts := hC.2.2.2.1
  obtain ⟨⟨h0, n00, r0⟩, kX⟩ := hS
  have hfix : CallFix X.1.1 X.2.1.1 X.2.1.2.2.2.2 cc lo.length X.1.2.2.2.2 X.2.1.2.1 BW own := ⟨hC.1, hC.2.1, hml, hC.2.2.1, hts⟩
  have hrecv : ∃ cellB : Cell, H[b]? = some cellB ∧ cellB.vm.isStatics = false ∧ X.1.2.2.2.2.vm.findClass y'.cls = some cellB.cls := va_recv hC.2.2.2.2.2.1 (rl_P1 a1 hb) hc (q0 := 0) rfl
  have hpre : PreV X.1.2.2.2.2 H y'.cls b (rl_PcX E Ns (.ref b :: As) h n) As := ⟨rl_blindX hN, hrecv, fun U hU hW => ⟨rfl, (rl_pre (av := .ref b :: As) hC hN a1 U hU hW).2, kX.to hW (fun a ha => by rw [hU, a1.2.2.1 a ha, r0.2.2.1 a ha])⟩⟩
  have hr : vx_Run X.1.1 X.1.2.1 X.1.2.2.1 X.1.2.2.2.1 X.1.2.2.2.2 X.2.1.1 X.2.1.2.1 X.2.1.2.2.1 X.2.1.2.2.2.1 X.2.1.2.2.2.2 H locs ce sl rm'.cells rm'.slots (F0 X.2.1.1 pc ls (As.reverse ++ .ref b :: rest)) rest (rl_Qc E Post' (Value.ref b :: As).toArray) (rl_XC E h n PX) (fun q => E.2.2.2.size ≤ q) := vx_runV (y := y') (As := As) (rest := rest) (g := F0 X.2.1.1 pc ls (As.reverse ++ .ref b :: rest)) hfix hM ⟨callB_of As.length hts (rl_good hG hY.1) rfl rfl rfl (hts _ hY.2.1) (hts _ hl) hY.2.2 ⟨hr1, hr2⟩, hts _ h1, hts _ h2⟩ hpre rfl rfl c1.1 rfl (lv_room hst) hd ⟨hr3, hr4⟩
  intro T0 hT S
  rcases hr T0 hT S with ⟨v, st0, t, T', L, e0, S', hL, e1, e2, ⟨v', h', n', hv, hp, hR⟩, go⟩ | ⟨q, st0, t, T', L, F, ce0, e0, S', hL, e1, e2, ⟨hpx, n', hn', hR⟩, hce, hcv, hcl, stp⟩
  · cases hv
    obtain ⟨t', y1, y2⟩ := kk v h' n' hp T'.heap (locs ++ L) ls (by rw [e1]; exact hR) (fun q hq => (List.mem_append.mp hq).elim (b1 q) (hL q)) c1 T' rfl S'
    exact ⟨t', go _ y1, y2⟩
  · have hW : vx_W X.1.1 X.1.2.1 X.1.2.2.1 X.1.2.2.2.1 X.1.2.2.2.2 X.2.1.1 X.2.1.2.1 X.2.1.2.2.1 X.2.1.2.2.2.1 X.2.1.2.2.2.2 T'.heap (locs ++ L) (ce + rm'.cells) (sl + rm'.slots) X.2.2 (F0 X.2.1.1 pc ls rest) q :=
      vx_catch (E := F) (ce := ce0) (name := nm) hC.2.2.1 [] x suf hsplit (fun z hz => by cases hz) hx hx0 (hts _ hxl) (va_Nw.use rfl (kX.1 _ (hcast F hpx))) (by rw [e1]; exact hce) hcv hcl (kx q n' hn' T'.heap (locs ++ L) ls (by rw [e1]; exact hR) (fun q hq => (List.mem_append.mp hq).elim (b1 q) (hL q)) c1)
    obtain ⟨t', y1, y2⟩ := hW T' rfl S'
    exact ⟨t', stp.trans y1, y2⟩
/-- a call that may throw one of two, each caught on its own -/
theorem o_callVY {bytes : ByteArray} {maxL idx b ci N : Nat} {C : String} {T : u_T} {fs As rest : List Value} {ret' : Option FieldType} {rm' : Room} {y' : MethodName} {Post' : Option Value → rl_H → Nat → Prop} {PX : String → Prop} {nm nm2 : String} {x x2 : ExceptionTableEntry} {suf : List ExceptionTableEntry}
    (hC : rl_C X E cc own BW Ns) (hG : ∀ w ∈ BW, goodWord w = true) (hN : ∀ w ∈ Ns, rl_nw w = true) (hS : rl_S0 X E) (hml : X.2.1.2.2.2.2.maxLocals = lo.length) (hY : rl_Y BW y' bytes maxL ret' As.length) (h1 : Cond.instanceMethod y' ∈ BW) (h2 : Cond.selects y'.cls y' y' ∈ BW) (hl : Cond.methodLink own idx y' ∈ BW)
    (hM : rl_MetX X.1.2.1 E BW Ns y' bytes maxL ret' rm' (.ref b :: As) h n Post' PX) (hb : h b = some (.inr (ci, fs))) (hc : E.2.1[ci]? = some (C, T, N)) (hCy : C = y'.cls)
    (hst : (rest.map fun v => v.category).sum ≤ 8) (hr1 : rm'.frames + 1 ≤ X.1.2.2.2.1.frames) (hr2 : 8 + (maxL + 11) + rm'.locals ≤ X.1.2.2.2.1.locals) (hr3 : ce + rm'.cells ≤ X.1.2.2.2.1.cells) (hr4 : sl + rm'.slots ≤ X.1.2.2.2.1.slots) (hd : decode cc pc = .ok (.invokevirtual idx, 3))
    (hsplit : X.2.1.2.2.2.2.exceptionTable.toList = x :: x2 :: suf) (hx : covers x pc = true) (hx0 : x.catchType ≠ 0) (hxl : Cond.classLink own x.catchType nm ∈ BW) (hx2 : covers x2 pc = true) (hx20 : x2.catchType ≠ 0) (hxl2 : Cond.classLink own x2.catchType nm2 ∈ BW) (hcast : ∀ F : String, PX F → Cond.castable F nm ∈ rl_Xs ∨ ((F = "java/lang/IllegalArgumentException" ∧ nm = "java/lang/IndexOutOfBoundsException") ∧ Cond.castable F nm2 ∈ rl_Xs))
    (kx : ∀ (q n' : Nat), n ≤ n' → rl_G X E x.handlerPc lo [.ref q] h n' (ce + rm'.cells) (sl + rm'.slots))
    (kx2 : ∀ (q n' : Nat), n ≤ n' → rl_G X E x2.handlerPc lo [.ref q] h n' (ce + rm'.cells) (sl + rm'.slots))
    (kk : ∀ (v : Option Value) (h' : rl_H) (n' : Nat), Post' v h' n' → rl_G X E (pc + 3) lo (v.toList ++ rest) h' n' (ce + rm'.cells) (sl + rm'.slots)) : rl_G X E pc lo (As.reverse ++ .ref b :: rest) h n ce sl := by
  subst hCy
  intro H locs ls a1 b1 c1
  have hts := hC.2.2.2.1
  obtain ⟨⟨h0, n00, r0⟩, kX⟩ := hS
  have hfix : CallFix X.1.1 X.2.1.1 X.2.1.2.2.2.2 cc lo.length X.1.2.2.2.2 X.2.1.2.1 BW own := ⟨hC.1, hC.2.1, hml, hC.2.2.1, hts⟩
  have hrecv : ∃ cellB : Cell, H[b]? = some cellB ∧ cellB.vm.isStatics = false ∧ X.1.2.2.2.2.vm.findClass y'.cls = some cellB.cls := va_recv hC.2.2.2.2.2.1 (rl_P1 a1 hb) hc (q0 := 0) rfl
  have hpre : PreV X.1.2.2.2.2 H y'.cls b (rl_PcX E Ns (.ref b :: As) h n) As := ⟨rl_blindX hN, hrecv, fun U hU hW => ⟨rfl, (rl_pre (av := .ref b :: As) hC hN a1 U hU hW).2, kX.to hW (fun a ha => by rw [hU, a1.2.2.1 a ha, r0.2.2.1 a ha])⟩⟩
  have hr : vx_Run X.1.1 X.1.2.1 X.1.2.2.1 X.1.2.2.2.1 X.1.2.2.2.2 X.2.1.1 X.2.1.2.1 X.2.1.2.2.1 X.2.1.2.2.2.1 X.2.1.2.2.2.2 H locs ce sl rm'.cells rm'.slots (F0 X.2.1.1 pc ls (As.reverse ++ .ref b :: rest)) rest (rl_Qc E Post' (Value.ref b :: As).toArray) (rl_XC E h n PX) (fun q => E.2.2.2.size ≤ q) := vx_runV (y := y') (As := As) (rest := rest) (g := F0 X.2.1.1 pc ls (As.reverse ++ .ref b :: rest)) hfix hM ⟨callB_of As.length hts (rl_good hG hY.1) rfl rfl rfl (hts _ hY.2.1) (hts _ hl) hY.2.2 ⟨hr1, hr2⟩, hts _ h1, hts _ h2⟩ hpre rfl rfl c1.1 rfl (lv_room hst) hd ⟨hr3, hr4⟩
  intro T0 hT S
  rcases hr T0 hT S with ⟨v, st0, t, T', L, e0, S', hL, e1, e2, ⟨v', h', n', hv, hp, hR⟩, go⟩ | ⟨q, st0, t, T', L, F, ce0, e0, S', hL, e1, e2, ⟨hpx, n', hn', hR⟩, hce, hcv, hcl, stp⟩
  · cases hv
    obtain ⟨t', y1, y2⟩ := kk v h' n' hp T'.heap (locs ++ L) ls (by rw [e1]; exact hR) (fun q hq => (List.mem_append.mp hq).elim (b1 q) (hL q)) c1 T' rfl S'
    exact ⟨t', go _ y1, y2⟩
  · have hW : vx_W X.1.1 X.1.2.1 X.1.2.2.1 X.1.2.2.2.1 X.1.2.2.2.2 X.2.1.1 X.2.1.2.1 X.2.1.2.2.1 X.2.1.2.2.2.1 X.2.1.2.2.2.2 T'.heap (locs ++ L) (ce + rm'.cells) (sl + rm'.slots) X.2.2 (F0 X.2.1.1 pc ls rest) q := by
      rcases hcast F hpx with hcc | ⟨⟨rfl, rfl⟩, hcc⟩
      · exact vx_catch (E := F) (ce := ce0) (name := nm) hC.2.2.1 [] x (x2 :: suf) hsplit (fun z hz => by cases hz) hx hx0 (hts _ hxl) (va_Nw.use rfl (kX.1 _ hcc)) (by rw [e1]; exact hce) hcv hcl (kx q n' hn' T'.heap (locs ++ L) ls (by rw [e1]; exact hR) (fun q hq => (List.mem_append.mp hq).elim (b1 q) (hL q)) c1)
      · exact vx_catch (E := "java/lang/IllegalArgumentException") (ce := ce0) (name := nm2) hC.2.2.1 [x] x2 suf hsplit (fun z hz => by rw [List.mem_singleton.mp hz]; exact Or.inr ⟨hx0, _, hts _ hxl, kX.2.2.2.2⟩) hx2 hx20 (hts _ hxl2) (va_Nw.use rfl (kX.1 _ hcc)) (by rw [e1]; exact hce) hcv hcl (kx2 q n' hn' T'.heap (locs ++ L) ls (by rw [e1]; exact hR) (fun q hq => (List.mem_append.mp hq).elim (b1 q) (hL q)) c1)
    obtain ⟨t', y1, y2⟩ := hW T' rfl S'
    exact ⟨t', stp.trans y1, y2⟩
theorem o_iretX {l : Launch} {nL : Nat} {rm : Room} {Post : Option Value → rl_H → Nat → Prop} {XC : String → State → State → Prop} (hC : rl_C X E cc own BW Ns) (hB : rl_BX X E l nL (some .int) rm Post XC) {v : Int32} (hd : decode cc pc = .ok (.ireturn, 1)) (hce : ce ≤ rm.cells) (hsl : sl ≤ rm.slots) (hp : Post (some (.int v)) h n) : rl_G X E pc lo [.int v] h n ce sl := by
  intro H locs ls a b c
  show W _ _ _ _ _ _ _ _ _ _ _ _ _ _ X.2.2 _
  rw [hB.2.2.1]
  refine vx_ret (W.widen hce hsl ?_)
  exact W.iret hC.1 hC.2.1 hB.2.2.2.1 (fun t ht _ => ⟨_, h, n, rfl, hp, by rw [ht]; exact a⟩) b hd hC.2.2.2.2.2.2
theorem o_lretX {l : Launch} {nL : Nat} {rm : Room} {Post : Option Value → rl_H → Nat → Prop} {XC : String → State → State → Prop} (hC : rl_C X E cc own BW Ns) (hB : rl_BX X E l nL (some .long) rm Post XC) {v : Int64} (hd : decode cc pc = .ok (.lreturn, 1)) (hce : ce ≤ rm.cells) (hsl : sl ≤ rm.slots) (hp : Post (some (.long v)) h n) : rl_G X E pc lo [.long v] h n ce sl := by
  intro H locs ls a b c
  show W _ _ _ _ _ _ _ _ _ _ _ _ _ _ X.2.2 _
  rw [hB.2.2.1]
  refine vx_ret (W.widen hce hsl ?_)
  exact W.lret hC.1 hC.2.1 hB.2.2.2.1 (fun t ht _ => ⟨_, h, n, rfl, hp, by rw [ht]; exact a⟩) b hd hC.2.2.2.2.2.2
end RLX
