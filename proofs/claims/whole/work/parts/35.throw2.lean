/-! cell and way on a fresh object throw; the law's own cell and way catch that -/
theorem zIOB : Cond.initialized "java/lang/IndexOutOfBoundsException" ∈ rl_BW := rl_bw 15 (by decide +kernel) (by decide +kernel)
theorem xIOB : Cond.castable "java/lang/IndexOutOfBoundsException" "java/lang/IndexOutOfBoundsException" ∈ rl_Xs := List.mem_filter.mpr ⟨List.mem_of_getElem? (i := 616) (by decide +kernel), rfl⟩
abbrev rl_exn : List String := ["java/lang/RuntimeException", "java/lang/Exception"]
theorem tg1 : ∀ w ∈ (vx_atS RX7 149 "java/lang/IndexOutOfBoundsException" rl_exn).filter goodWord, w ∈ rl_BW := by decide +kernel
theorem tg2 : ∀ w ∈ (vx_atS RX7 149 "java/lang/IndexOutOfBoundsException" rl_exn).filter (fun w => !goodWord w), w ∈ rl_Xs := by decide +kernel
theorem tg3 : ∀ w ∈ Cond.classLink RX7 145 "java/lang/IndexOutOfBoundsException" :: Cond.initialized "java/lang/IndexOutOfBoundsException" :: vx_atS RX7 149 "java/lang/IndexOutOfBoundsException" rl_exn, vx_ot w = true := by decide +kernel
theorem wL_cell : Cond.codeWith yL_cell cL_cell 5 (some .int) [(0, 10, 13, 13)] ∈ rl_BW := rl_bw 608 (by decide +kernel) (by decide +kernel)
theorem wL_way : Cond.codeWith yL_way cL_way 6 (some .int) [(0, 11, 14, 13), (0, 11, 18, 19)] ∈ rl_BW := rl_bw 684 (by decide +kernel) (by decide +kernel)
theorem sL_cell : Cond.static yL_cell ∈ rl_BW := rl_bw 607 (by decide +kernel) (by decide +kernel)
theorem sL_way : Cond.static yL_way ∈ rl_BW := rl_bw 683 (by decide +kernel) (by decide +kernel)
theorem lL_cell : Cond.methodLink RL 72 yL_cell ∈ rl_BW := rl_bw 606 (by decide +kernel) (by decide +kernel)
theorem lL_way : Cond.methodLink RL 86 yL_way ∈ rl_BW := rl_bw 682 (by decide +kernel) (by decide +kernel)
theorem lL_xcell : Cond.methodLink RL 7 yX7_cell ∈ rl_BW := rl_bw 610 (by decide +kernel) (by decide +kernel)
theorem lL_xway : Cond.methodLink RL 15 yX7_way ∈ rl_BW := rl_bw 686 (by decide +kernel) (by decide +kernel)

set_option maxHeartbeats 4000000 in
set_option maxRecDepth 100000 in
theorem fr_X7_cell (l : Launch) (D : va_G) (ids : Nat → ClassId) (H0 : Heap) (h : rl_H) (n : Nat) (x : Nat) (t c : Int32) (hl : l.stackTraces = false) (hx : rw_new ids h x) : rl_MetX l (rl_e D ids H0) rl_BW rl_Ns yX7_cell cX7_cell 4 (some .int) ({ frames := 6, cells := 1, slots := 6, locals := 90 }) [.ref x, .int t, .int c] h n (fun _ _ _ => False) (fun C => C = "java/lang/IndexOutOfBoundsException") := by
  refine rl_MetX.of (by decide +kernel) (Nat.le_of_ble_eq_true rfl) ?_
  intro X hC hB hS hn0
  show rl_G X (rl_e D ids H0) 0 [some (.ref x), some (.int t), some (.int c), none] [] h n 0 0
  refine o_aload_n hC dX7_cell_0 (by rfl) ?_
  refine o_iload_n hC dX7_cell_1 (by rfl) ?_
  refine o_callV1 hC rl_BW_good rl_Ns_nw (by exact hB.2.2.2.2.1) YX7_resultTuple IX7_resultTuple VX7_resultTuple (mX7_141 hC) (by rw [hB.1]; exact fr_X7_resultTuple l D ids H0 h n x _ hx) (by exact hx.1) rfl rfl (Nat.le_of_ble_eq_true rfl) (by rw [hB.2.1]; first | exact Nat.le_of_ble_eq_true rfl | (dsimp only; omega)) (by rw [hB.2.1]; first | exact Nat.le_of_ble_eq_true rfl | (dsimp only; omega)) (by rw [hB.2.1]; first | exact Nat.le_of_ble_eq_true rfl | (dsimp only; omega)) (by rw [hB.2.1]; first | exact Nat.le_of_ble_eq_true rfl | (dsimp only; omega)) dX7_cell_2 (fun v h_2 n_2 p_2 => ?_)
  obtain ⟨rfl, rfl, rfl⟩ := p_2
  try dsimp only [Option.toList, List.cons_append, List.nil_append]
  refine o_astore_nN hC dX7_cell_5 (Nat.le_of_ble_eq_true rfl) ?_
  refine o_aload_nN hC dX7_cell_6 (by rfl) ?_
  refine o_ifnonnullN hC dX7_cell_7 ?_
  exact o_throwS (cls := "java/lang/IndexOutOfBoundsException") (text := "no such tuple") (names := rl_exn) (ik := 145) (is := 147) (ic := 149) hC hl hB hS hn0 (Nat.le_refl _) (by decide +kernel) (by decide +kernel) kX7_145 zIOB (hS.2.2.2.2.1 (147, "no such tuple") (by decide)) tg1 tg2 tg3 dX7_cell_10 dX7_cell_13 dX7_cell_14 dX7_cell_16 dX7_cell_19 (by decide) (by decide) (by decide) (by decide) (by exact hB.2.2.2.2.1) rfl

set_option maxHeartbeats 4000000 in
set_option maxRecDepth 100000 in
theorem fr_X7_way (l : Launch) (D : va_G) (ids : Nat → ClassId) (H0 : Heap) (h : rl_H) (n : Nat) (x : Nat) (t k w : Int32) (hl : l.stackTraces = false) (hx : rw_new ids h x) : rl_MetX l (rl_e D ids H0) rl_BW rl_Ns yX7_way cX7_way 5 (some .long) ({ frames := 6, cells := 1, slots := 6, locals := 90 }) [.ref x, .int t, .int k, .int w] h n (fun _ _ _ => False) (fun C => C = "java/lang/IndexOutOfBoundsException") := by
  refine rl_MetX.of (by decide +kernel) (Nat.le_of_ble_eq_true rfl) ?_
  intro X hC hB hS hn0
  show rl_G X (rl_e D ids H0) 0 [some (.ref x), some (.int t), some (.int k), some (.int w), none] [] h n 0 0
  refine o_aload_n hC dX7_way_0 (by rfl) ?_
  refine o_iload_n hC dX7_way_1 (by rfl) ?_
  refine o_callV1 hC rl_BW_good rl_Ns_nw (by exact hB.2.2.2.2.1) YX7_resultTuple IX7_resultTuple VX7_resultTuple (mX7_141 hC) (by rw [hB.1]; exact fr_X7_resultTuple l D ids H0 h n x _ hx) (by exact hx.1) rfl rfl (Nat.le_of_ble_eq_true rfl) (by rw [hB.2.1]; first | exact Nat.le_of_ble_eq_true rfl | (dsimp only; omega)) (by rw [hB.2.1]; first | exact Nat.le_of_ble_eq_true rfl | (dsimp only; omega)) (by rw [hB.2.1]; first | exact Nat.le_of_ble_eq_true rfl | (dsimp only; omega)) (by rw [hB.2.1]; first | exact Nat.le_of_ble_eq_true rfl | (dsimp only; omega)) dX7_way_2 (fun v h_2 n_2 p_2 => ?_)
  obtain ⟨rfl, rfl, rfl⟩ := p_2
  try dsimp only [Option.toList, List.cons_append, List.nil_append]
  refine o_astoreN hC dX7_way_5 (Nat.le_of_ble_eq_true rfl) ?_
  refine o_aloadN hC dX7_way_7 (by rfl) ?_
  refine o_ifnonnullN hC dX7_way_9 ?_
  exact o_throwS (cls := "java/lang/IndexOutOfBoundsException") (text := "no such tuple") (names := rl_exn) (ik := 145) (is := 147) (ic := 149) hC hl hB hS hn0 (Nat.le_refl _) (by decide +kernel) (by decide +kernel) kX7_145 zIOB (hS.2.2.2.2.1 (147, "no such tuple") (by decide)) tg1 tg2 tg3 dX7_way_12 dX7_way_15 dX7_way_16 dX7_way_18 dX7_way_21 (by decide) (by decide) (by decide) (by decide) (by exact hB.2.2.2.2.1) rfl

/-- the contract of a method with a table of its own -/
def rl_MetW (l : Launch) (E : rl_E) (BW Ns : List Cond) (y : MethodName) (cc : ByteArray) (nL : Nat) (ret : Option FieldType) (hh : List (Nat × Nat × Nat × Nat)) (rm : Room) (av : List Value) (h : rl_H) (n : Nat) (Post : Option Value → rl_H → Nat → Prop) : Prop :=
  Met l y (Cond.codeWith y cc nL ret hh :: BW) rm (rl_PcX E Ns av h n) (rl_Qc E Post) rm.cells rm.slots (fun q => E.2.2.2.size ≤ q)
section RLT
variable {X : rl_X} {E : rl_E} {cc : ByteArray} {own : String} {BW Ns : List Cond} {pc : Nat} {lo : List (Option Value)} {st : List Value} {h : rl_H} {n ce sl : Nat}
theorem rl_MetW.of {l : Launch} {y : MethodName} {nL : Nat} {ret : Option FieldType} {hh : List (Nat × Nat × Nat × Nat)} {rm : Room} {av : List Value} {Post : Option Value → rl_H → Nat → Prop} (hy : plainName y.cls = true) (hav : (rl_a av).length ≤ nL)
    (body : ∀ X : rl_X, rl_C X E cc y.cls BW Ns → rl_B X E l y nL ret rm Post → rl_S0 X E → X.2.1.2.2.2.2.exceptionTable.toList = tableOf hh → rl_G X E 0 (rl_in nL av) [] h n 0 0) : rl_MetW l E BW Ns y cc nL ret hh rm av h n Post := by
  refine va_MetW (cc := cc) (maxL := nL) (ret := ret) (hh := hh) hy rfl ?_
  intro p e s m args below meth c s₁ B hml hv
  obtain ⟨rfl, ⟨hR, hK, hN⟩, hX⟩ := hv
  have hts := atoms_spec (ws := Cond.codeWith y cc nL ret hh :: BW) B.pre
  have hown : s.vm.findClass y.cls = some m.cls := findClass_of_methodNamed B.named
  have hb := body ((p, l, e, rm, s), (m, av.toArray, below, meth, c), MQ below (rl_Qc E Post) av.toArray s rm.cells rm.slots (fun q => E.2.2.2.size ≤ q))
    ⟨B.exec, B.bytes, hown, fun w hw => hts w (List.mem_cons_of_mem _ hw), hN, hK, B.notSynchronized⟩ ⟨rfl, rfl, rfl, B.returns, (name_of_methodNamed B.named B.method).1, hml⟩ ⟨⟨h, n, hR⟩, hX⟩ (vx_table (x := y) B (hts _ List.mem_cons_self))
  rw [lg_entry_eq]
  exact hb s.heap [] _ hR (fun q hq => by cases hq) (rl_in_L hav)
theorem o_callSW {bytes : ByteArray} {maxL idx : Nat} {As rest : List Value} {ret' : Option FieldType} {hh : List (Nat × Nat × Nat × Nat)} {rm' : Room} {y' : MethodName} {Post' : Option Value → rl_H → Nat → Prop}
    (hC : rl_C X E cc own BW Ns) (hG : ∀ w ∈ BW, goodWord w = true) (hN : ∀ w ∈ Ns, rl_nw w = true) (hS : rl_S0 X E) (hml : X.2.1.2.2.2.2.maxLocals = lo.length) (hcode : Cond.codeWith y' bytes maxL ret' hh ∈ BW) (hini : Cond.initialized y'.cls ∈ BW) (hstat : Cond.static y' ∈ BW) (hl : Cond.methodLink own idx y' ∈ BW)
    (hd2 : y'.cls ≠ "java/lang/invoke/MethodHandle" ∧ y'.cls ≠ "java/lang/invoke/VarHandle" ∧ (parseMethodDescriptor y'.desc).map (fun d => d.parameters.length) = some As.length) (hM : rl_MetW X.1.2.1 E BW Ns y' bytes maxL ret' hh rm' As h n Post')
    (hst : (rest.map fun v => v.category).sum ≤ 8) (hr1 : rm'.frames + 1 ≤ X.1.2.2.2.1.frames) (hr2 : 8 + (maxL + 11) + rm'.locals ≤ X.1.2.2.2.1.locals) (hr3 : ce + rm'.cells ≤ X.1.2.2.2.1.cells) (hr4 : sl + rm'.slots ≤ X.1.2.2.2.1.slots) (hd : decode cc pc = .ok (.invokestatic idx, 3))
    (kk : ∀ (v : Option Value) (h' : rl_H) (n' : Nat), Post' v h' n' → rl_G X E (pc + 3) lo (v.toList ++ rest) h' n' (ce + rm'.cells) (sl + rm'.slots)) : rl_G X E pc lo (As.reverse ++ rest) h n ce sl := by
  intro H locs ls a1 b1 c1
  have hts := hC.2.2.2.1
  obtain ⟨⟨h0, n00, r0⟩, kX⟩ := hS
  have hfix : CallFix X.1.1 X.2.1.1 X.2.1.2.2.2.2 cc lo.length X.1.2.2.2.2 X.2.1.2.1 BW own := ⟨hC.1, hC.2.1, hml, hC.2.2.1, hts⟩
  have hpre : PreS X.1.2.2.2.2 H (rl_PcX E Ns As h n) As := ⟨rl_blindX hN, fun U hU hW => ⟨rfl, (rl_pre (av := As) hC hN a1 U hU hW).2, kX.to hW (fun a ha => by rw [hU, a1.2.2.1 a ha, r0.2.2.1 a ha])⟩⟩
  have hend : ∀ (v : Option Value) (h' : rl_H) (n' : Nat) (H1 : Heap) (locs1 : List Loc), Post' v h' n' → rl_R E h' n' H1 → (∀ q ∈ locs1, E.2.2.2.size ≤ q.base) → rl_W X H1 locs1 (ce + rm'.cells) (sl + rm'.slots) (F0 X.2.1.1 (pc + 3) ls (v.toList ++ rest)) := fun v h' n' H1 locs1 hp hR hL => kk v h' n' hp H1 locs1 ls hR hL c1
  have hgd : GoodIn BW (Cond.codeWith y' bytes maxL ret' hh :: BW) := by
    intro w hw
    rcases List.mem_cons.mp hw with rfl | hw
    · exact ⟨hcode, good_of_word (hG _ hcode)⟩
    · exact ⟨hw, good_of_word (hG _ hw)⟩
  refine rl_run b1 (vx_runSW (y := y') (hh := hh) (bytes := bytes) (maxL := maxL) (ret := ret') (n := As.length) (As := As) (rest := rest) hfix hM ⟨⟨rfl, rfl, hr1, hr2, pay_in hts hgd, List.mem_cons_self⟩, hts _ hcode, hts _ hini, ⟨hd2.1, hd2.2.1⟩, fun sig h => ?_, hts _ hl, hts _ hstat⟩ hpre rfl rfl c1.1 rfl (lv_room hst) hd ⟨hr3, hr4⟩) hend
  have h2 := hd2.2.2
  rw [h] at h2
  exact (Option.some.inj h2).symm
end RLT

set_option maxHeartbeats 4000000 in
set_option maxRecDepth 100000 in
theorem fr_L_cell (l : Launch) (D : va_G) (ids : Nat → ClassId) (H0 : Heap) (h : rl_H) (n : Nat) (x ou : Nat) (t c : Int32) (hl : l.stackTraces = false) (hx : rw_new ids h x) : rl_MetW l (rl_e D ids H0) rl_BW rl_Ns yL_cell cL_cell 5 (some .int) [(0, 10, 13, 13)] ({ frames := 7, cells := 1, slots := 6, locals := 113 }) [.ref x, .int t, .int c, .ref ou] h n (fun v h' n' => v = some (.int (nI 1)) ∧ h' = h ∧ n ≤ n') := by
  refine rl_MetW.of (by decide +kernel) (Nat.le_of_ble_eq_true rfl) ?_
  intro X hC hB hS ht0
  have ht : X.2.1.2.2.2.2.exceptionTable.toList = { startPc := 0, endPc := 10, handlerPc := 13, catchType := 13 } :: [] := ht0
  show rl_G X (rl_e D ids H0) 0 [some (.ref x), some (.int t), some (.int c), some (.ref ou), none] [] h n 0 0
  refine o_aload_n hC dL_cell_0 (by rfl) ?_
  refine o_iconst (v := nI 0) hC dL_cell_1 (by decide +kernel) ?_
  refine o_aload_n hC dL_cell_2 (by rfl) ?_
  refine o_iload_n hC dL_cell_3 (by rfl) ?_
  refine o_iload_n hC dL_cell_4 (by rfl) ?_
  refine o_callVX (As := [.int t, .int c]) (rest := [.int (nI 0), .ref ou]) (x := { startPc := 0, endPc := 10, handlerPc := 13, catchType := 13 }) (suf := []) (nm := "java/lang/IndexOutOfBoundsException") hC rl_BW_good rl_Ns_nw hS (by exact hB.2.2.2.2.2) YX7_cell IX7_cell VX7_cell lL_xcell (by rw [hB.1]; exact fr_X7_cell l D ids H0 h n x t c hl hx) hx.1 rfl rfl (Nat.le_of_ble_eq_true rfl) (by rw [hB.2.1]; first | exact Nat.le_of_ble_eq_true rfl | (dsimp only; omega)) (by rw [hB.2.1]; first | exact Nat.le_of_ble_eq_true rfl | (dsimp only; omega)) (by rw [hB.2.1]; first | exact Nat.le_of_ble_eq_true rfl | (dsimp only; omega)) (by rw [hB.2.1]; first | exact Nat.le_of_ble_eq_true rfl | (dsimp only; omega)) dL_cell_5 ht (by decide) (by decide) kL_13 (fun F hF => by rw [hF]; exact xIOB) (fun q n2 hn2 => ?_) (fun v h2 n2 p => False.elim p)
  refine o_astore hC dL_cell_13 (Nat.le_of_ble_eq_true rfl) ?_
  refine o_iconst (v := nI 1) hC dL_cell_15 (by decide +kernel) ?_
  refine o_iret hC hB dL_cell_16 (Nat.le_of_ble_eq_true rfl) (Nat.le_of_ble_eq_true rfl) ?_
  exact ⟨rfl, rfl, hn2⟩

set_option maxHeartbeats 4000000 in
set_option maxRecDepth 100000 in
theorem fr_L_way (l : Launch) (D : va_G) (ids : Nat → ClassId) (H0 : Heap) (h : rl_H) (n : Nat) (x ou : Nat) (t k w : Int32) (hl : l.stackTraces = false) (hx : rw_new ids h x) : rl_MetW l (rl_e D ids H0) rl_BW rl_Ns yL_way cL_way 6 (some .int) [(0, 11, 14, 13), (0, 11, 18, 19)] ({ frames := 7, cells := 1, slots := 6, locals := 114 }) [.ref x, .int t, .int k, .int w, .ref ou] h n (fun v h' n' => v = some (.int (nI 1)) ∧ h' = h ∧ n ≤ n') := by
  refine rl_MetW.of (by decide +kernel) (Nat.le_of_ble_eq_true rfl) ?_
  intro X hC hB hS ht0
  have ht : X.2.1.2.2.2.2.exceptionTable.toList = { startPc := 0, endPc := 11, handlerPc := 14, catchType := 13 } :: [{ startPc := 0, endPc := 11, handlerPc := 18, catchType := 19 }] := ht0
  show rl_G X (rl_e D ids H0) 0 [some (.ref x), some (.int t), some (.int k), some (.int w), some (.ref ou), none] [] h n 0 0
  refine o_aload hC dL_way_0 (by rfl) ?_
  refine o_iconst (v := nI 0) hC dL_way_2 (by decide +kernel) ?_
  refine o_aload_n hC dL_way_3 (by rfl) ?_
  refine o_iload_n hC dL_way_4 (by rfl) ?_
  refine o_iload_n hC dL_way_5 (by rfl) ?_
  refine o_iload_n hC dL_way_6 (by rfl) ?_
  refine o_callVX (As := [.int t, .int k, .int w]) (rest := [.int (nI 0), .ref ou]) (x := { startPc := 0, endPc := 11, handlerPc := 14, catchType := 13 }) (suf := [{ startPc := 0, endPc := 11, handlerPc := 18, catchType := 19 }]) (nm := "java/lang/IndexOutOfBoundsException") hC rl_BW_good rl_Ns_nw hS (by exact hB.2.2.2.2.2) YX7_way IX7_way VX7_way lL_xway (by rw [hB.1]; exact fr_X7_way l D ids H0 h n x t k w hl hx) hx.1 rfl rfl (Nat.le_of_ble_eq_true rfl) (by rw [hB.2.1]; first | exact Nat.le_of_ble_eq_true rfl | (dsimp only; omega)) (by rw [hB.2.1]; first | exact Nat.le_of_ble_eq_true rfl | (dsimp only; omega)) (by rw [hB.2.1]; first | exact Nat.le_of_ble_eq_true rfl | (dsimp only; omega)) (by rw [hB.2.1]; first | exact Nat.le_of_ble_eq_true rfl | (dsimp only; omega)) dL_way_7 ht (by decide) (by decide) kL_13 (fun F hF => by rw [hF]; exact xIOB) (fun q n2 hn2 => ?_) (fun v h2 n2 p => False.elim p)
  refine o_astore hC dL_way_14 (Nat.le_of_ble_eq_true rfl) ?_
  refine o_iconst (v := nI 1) hC dL_way_16 (by decide +kernel) ?_
  refine o_iret hC hB dL_way_17 (Nat.le_of_ble_eq_true rfl) (Nat.le_of_ble_eq_true rfl) ?_
  exact ⟨rfl, rfl, hn2⟩
