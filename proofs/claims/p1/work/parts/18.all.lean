section
/-! the tables of this claim, and rows for indices that are natural numbers -/
def rl_tys (ids : Nat → ClassId) : List (ClassId × FieldType) := [(ids 0, .int), (ids 1, .long), (ids 2, .boolean), (ids 3, .object RX5), (ids 4, .object RX6), (ids 5, .object RX1), (ids 6, .object RX4), (ids 7, .array .int)]
abbrev rl_e (D : va_G) (ids : Nat → ClassId) (H0 : Heap) : rl_E := (D, vwCl, rl_tys ids, H0)
theorem rl_inc (k : Nat) : nI k + Int32.ofInt 1 = nI (k + 1) := nI_1 k
theorem rl_dec (k : Nat) : nI (k + 1) + Int32.ofInt (-1) = nI k := by
  have h : Int32.ofInt (-1) = -1 := by decide +kernel
  rw [h]
  exact pk_m1 k
theorem rl_cl {k N : Nat} (hk : k < N) (hN : N < 2147483648) : (nI k).toNatClampNeg = k := nI_clamp (by omega)
theorem rl_ix {k N : Nat} (hk : k < N) (hN : N < 2147483648) : vp_in (nI k) N := vp_in_nI hk (by omega)
section RLN
variable {X : rl_X} {E : rl_E} {cc : ByteArray} {own : String} {Ts Ns : List Cond} {pc : Nat} {lo : List (Option Value)} {st : List Value} {h : rl_H} {n ce sl : Nat}
theorem o_ialdN (hC : rl_C X E cc own Ts Ns) {a t0 N k : Nat} {cA : ClassId} {f : Nat → Int32} (ht : E.2.2.1[t0]? = some (cA, .int)) (hd : decode cc pc = .ok (.iaload, 1)) (ha : h a = some (.inl (cA, N, .inl f))) (hk : k < N) (hN : N < 2147483648) (kk : rl_G X E (pc + 1) lo (.int (f k) :: st) h n ce sl) : rl_G X E pc lo (.int (nI k) :: .ref a :: st) h n ce sl := o_iald hC ht hd ha (rl_ix hk hN) (by rw [rl_cl hk hN]; exact kk)
theorem o_zaldN (hC : rl_C X E cc own Ts Ns) {a t0 N k : Nat} {cA : ClassId} {f : Nat → Int32} (ht : E.2.2.1[t0]? = some (cA, .boolean)) (hd : decode cc pc = .ok (.baload, 1)) (ha : h a = some (.inl (cA, N, .inl f))) (hk : k < N) (hN : N < 2147483648) (kk : rl_G X E (pc + 1) lo (.int (f k) :: st) h n ce sl) : rl_G X E pc lo (.int (nI k) :: .ref a :: st) h n ce sl := o_zald hC ht hd ha (rl_ix hk hN) (by rw [rl_cl hk hN]; exact kk)
theorem o_laldN (hC : rl_C X E cc own Ts Ns) {a t0 N k : Nat} {cA : ClassId} {f : Nat → Int64} (ht : E.2.2.1[t0]? = some (cA, .long)) (hd : decode cc pc = .ok (.laload, 1)) (ha : h a = some (.inl (cA, N, .inr (.inl f)))) (hk : k < N) (hN : N < 2147483648) (kk : rl_G X E (pc + 1) lo (.long (f k) :: st) h n ce sl) : rl_G X E pc lo (.int (nI k) :: .ref a :: st) h n ce sl := o_lald hC ht hd ha (rl_ix hk hN) (by rw [rl_cl hk hN]; exact kk)
theorem o_aaldN (hC : rl_C X E cc own Ts Ns) {a t0 N k : Nat} {cA : ClassId} {C : String} {f : Nat → Option Nat} (ht : E.2.2.1[t0]? = some (cA, .object C)) (hd : decode cc pc = .ok (.aaload, 1)) (ha : h a = some (.inl (cA, N, .inr (.inr (.inr (.inr f)))))) (hk : k < N) (hN : N < 2147483648) (kk : rl_G X E (pc + 1) lo (va_rf (f k) :: st) h n ce sl) : rl_G X E pc lo (.int (nI k) :: .ref a :: st) h n ce sl := o_aald hC ht hd ha (rl_ix hk hN) (by rw [rl_cl hk hN]; exact kk)
theorem o_iastN (hC : rl_C X E cc own Ts Ns) {a t0 N k : Nat} {cA : ClassId} {f : Nat → Int32} {x : Int32} (ht : E.2.2.1[t0]? = some (cA, .int)) (hd : decode cc pc = .ok (.iastore, 1)) (ha : h a = some (.inl (cA, N, .inl f))) (hk : k < N) (hN : N < 2147483648) (kk : rl_G X E (pc + 1) lo st (rl_u h a (.inl (cA, N, .inl (upd f k x)))) n ce sl) : rl_G X E pc lo (.int x :: .int (nI k) :: .ref a :: st) h n ce sl := o_iast hC ht hd ha (rl_ix hk hN) (by rw [rl_cl hk hN]; exact kk)
theorem o_lastN (hC : rl_C X E cc own Ts Ns) {a t0 N k : Nat} {cA : ClassId} {f : Nat → Int64} {x : Int64} (ht : E.2.2.1[t0]? = some (cA, .long)) (hd : decode cc pc = .ok (.lastore, 1)) (ha : h a = some (.inl (cA, N, .inr (.inl f)))) (hk : k < N) (hN : N < 2147483648) (kk : rl_G X E (pc + 1) lo st (rl_u h a (.inl (cA, N, .inr (.inl (vp_updL f k x))))) n ce sl) : rl_G X E pc lo (.long x :: .int (nI k) :: .ref a :: st) h n ce sl := o_last hC ht hd ha (rl_ix hk hN) (by rw [rl_cl hk hN]; exact kk)
theorem o_aastN (hC : rl_C X E cc own Ts Ns) {a v t0 ci N k : Nat} {cA : ClassId} {r : vw_C} {vs : List Value} {f : Nat → Option Nat} (ht : E.2.2.1[t0]? = some (cA, .object r.1)) (hc : E.2.1[ci]? = some r) (hd : decode cc pc = .ok (.aastore, 1)) (ha : h a = some (.inl (cA, N, .inr (.inr (.inr (.inr f)))))) (hv : h v = some (.inr (ci, vs))) (hk : k < N) (hN : N < 2147483648) (kk : rl_G X E (pc + 1) lo st (rl_u h a (.inl (cA, N, .inr (.inr (.inr (.inr (va_up f k (some v)))))))) n ce sl) : rl_G X E pc lo (.ref v :: .int (nI k) :: .ref a :: st) h n ce sl := o_aast hC ht hc hd ha hv (rl_ix hk hN) (by rw [rl_cl hk hN]; exact kk)
/-- an array of arrays of numbers -/
theorem o_aaldA (hC : rl_C X E cc own Ts Ns) {a t0 N k : Nat} {cA : ClassId} {ty : FieldType} {f : Nat → Option Nat} (ht : E.2.2.1[t0]? = some (cA, .array ty)) (hd : decode cc pc = .ok (.aaload, 1)) (ha : h a = some (.inl (cA, N, .inr (.inr (.inr (.inr f)))))) (hk : k < N) (hN : N < 2147483648) (kk : rl_G X E (pc + 1) lo (va_rf (f k) :: st) h n ce sl) : rl_G X E pc lo (.int (nI k) :: .ref a :: st) h n ce sl := by
  intro H locs ls a1 b1 c1
  have hat : H[a]? = some (arrV cA N (fun j => va_rf (f j))) := (a1.2.2.2 a _ ha).2
  have hkk := kk H locs ls a1 b1 c1
  exact W.aald (v := va_rf (f k)) (ty := .array ty) hC.1 hC.2.1 hat ((hC.2.2.2.2.2.1.2 t0 _ ht).1 N (fun j => va_rf (f j))) rfl (fun q => by cases q) (by show ¬ (nI k < 0 ∨ (arrV _ _ _).slots.size ≤ _); rw [arrV_size]; exact rl_ix hk hN) (by rw [rl_cl hk hN]; show (arrV _ _ _).slots[_]? = _; rw [arrV_read _ _ hk]) rfl rfl hd hkk
end RLN
theorem fwX0 {X : rl_X} {E : rl_E} {own : String} {k : Nat} {v : Value} (hE : E.2.1 = vwCl) (h1 : narrow (tyX0 k) v = v) (h2 : fits (tyX0 k) v = true) (h3 : (TX0 k).2.2.2 = false ∨ ((TX0 k).2.2.2 = true ∧ X.2.1.2.2.2.1.name = "<init>" ∧ RX0 = own)) : rl_Fw X E own 0 k v := by
  intro C T N h
  rw [hE] at h
  cases h
  exact ⟨⟨tyX0, tyX0_ok, h1, h2⟩, nmX0, h3⟩
theorem fwX1 {X : rl_X} {E : rl_E} {own : String} {k : Nat} {v : Value} (hE : E.2.1 = vwCl) (h1 : narrow (tyX1 k) v = v) (h2 : fits (tyX1 k) v = true) (h3 : (TX1 k).2.2.2 = false ∨ ((TX1 k).2.2.2 = true ∧ X.2.1.2.2.2.1.name = "<init>" ∧ RX1 = own)) : rl_Fw X E own 1 k v := by
  intro C T N h
  rw [hE] at h
  cases h
  exact ⟨⟨tyX1, tyX1_ok, h1, h2⟩, nmX1, h3⟩
theorem fwX2 {X : rl_X} {E : rl_E} {own : String} {k : Nat} {v : Value} (hE : E.2.1 = vwCl) (h1 : narrow (tyX2 k) v = v) (h2 : fits (tyX2 k) v = true) (h3 : (TX2 k).2.2.2 = false ∨ ((TX2 k).2.2.2 = true ∧ X.2.1.2.2.2.1.name = "<init>" ∧ RX2 = own)) : rl_Fw X E own 2 k v := by
  intro C T N h
  rw [hE] at h
  cases h
  exact ⟨⟨tyX2, tyX2_ok, h1, h2⟩, nmX2, h3⟩
theorem fwX3 {X : rl_X} {E : rl_E} {own : String} {k : Nat} {v : Value} (hE : E.2.1 = vwCl) (h1 : narrow (tyX3 k) v = v) (h2 : fits (tyX3 k) v = true) (h3 : (TX3 k).2.2.2 = false ∨ ((TX3 k).2.2.2 = true ∧ X.2.1.2.2.2.1.name = "<init>" ∧ RX3 = own)) : rl_Fw X E own 3 k v := by
  intro C T N h
  rw [hE] at h
  cases h
  exact ⟨⟨tyX3, tyX3_ok, h1, h2⟩, nmX3, h3⟩
theorem fwX4 {X : rl_X} {E : rl_E} {own : String} {k : Nat} {v : Value} (hE : E.2.1 = vwCl) (h1 : narrow (tyX4 k) v = v) (h2 : fits (tyX4 k) v = true) (h3 : (TX4 k).2.2.2 = false ∨ ((TX4 k).2.2.2 = true ∧ X.2.1.2.2.2.1.name = "<init>" ∧ RX4 = own)) : rl_Fw X E own 4 k v := by
  intro C T N h
  rw [hE] at h
  cases h
  exact ⟨⟨tyX4, tyX4_ok, h1, h2⟩, nmX4, h3⟩
theorem fwX5 {X : rl_X} {E : rl_E} {own : String} {k : Nat} {v : Value} (hE : E.2.1 = vwCl) (h1 : narrow (tyX5 k) v = v) (h2 : fits (tyX5 k) v = true) (h3 : (TX5 k).2.2.2 = false ∨ ((TX5 k).2.2.2 = true ∧ X.2.1.2.2.2.1.name = "<init>" ∧ RX5 = own)) : rl_Fw X E own 5 k v := by
  intro C T N h
  rw [hE] at h
  cases h
  exact ⟨⟨tyX5, tyX5_ok, h1, h2⟩, nmX5, h3⟩
theorem fwX6 {X : rl_X} {E : rl_E} {own : String} {k : Nat} {v : Value} (hE : E.2.1 = vwCl) (h1 : narrow (tyX6 k) v = v) (h2 : fits (tyX6 k) v = true) (h3 : (TX6 k).2.2.2 = false ∨ ((TX6 k).2.2.2 = true ∧ X.2.1.2.2.2.1.name = "<init>" ∧ RX6 = own)) : rl_Fw X E own 6 k v := by
  intro C T N h
  rw [hE] at h
  cases h
  exact ⟨⟨tyX6, tyX6_ok, h1, h2⟩, nmX6, h3⟩
theorem fwX7 {X : rl_X} {E : rl_E} {own : String} {k : Nat} {v : Value} (hE : E.2.1 = vwCl) (h1 : narrow (tyX7 k) v = v) (h2 : fits (tyX7 k) v = true) (h3 : (TX7 k).2.2.2 = false ∨ ((TX7 k).2.2.2 = true ∧ X.2.1.2.2.2.1.name = "<init>" ∧ RX7 = own)) : rl_Fw X E own 7 k v := by
  intro C T N h
  rw [hE] at h
  cases h
  exact ⟨⟨tyX7, tyX7_ok, h1, h2⟩, nmX7, h3⟩
theorem fwX8 {X : rl_X} {E : rl_E} {own : String} {k : Nat} {v : Value} (hE : E.2.1 = vwCl) (h1 : narrow (tyX8 k) v = v) (h2 : fits (tyX8 k) v = true) (h3 : (TX8 k).2.2.2 = false ∨ ((TX8 k).2.2.2 = true ∧ X.2.1.2.2.2.1.name = "<init>" ∧ RX8 = own)) : rl_Fw X E own 8 k v := by
  intro C T N h
  rw [hE] at h
  cases h
  exact ⟨⟨tyX8, tyX8_ok, h1, h2⟩, nmX8, h3⟩
end
section
/-! calls with their arguments written out -/
section RLV
variable {X : rl_X} {E : rl_E} {cc : ByteArray} {own : String} {BW Ns : List Cond} {pc : Nat} {lo : List (Option Value)} {st : List Value} {h : rl_H} {n ce sl : Nat}
theorem o_callV0 {bytes : ByteArray} {maxL idx b ci N : Nat} {C : String} {T : u_T} {fs rest : List Value} {ret' : Option FieldType} {rm' : Room} {y' : MethodName} {Post' : Option Value → rl_H → Nat → Prop} (hC : rl_C X E cc own BW Ns) (hG : ∀ w ∈ BW, goodWord w = true) (hN : ∀ w ∈ Ns, rl_nw w = true) (hml : X.2.1.2.2.2.2.maxLocals = lo.length) (hY : rl_Y BW y' bytes maxL ret' 0) (h1 : Cond.instanceMethod y' ∈ BW) (h2 : Cond.selects y'.cls y' y' ∈ BW) (hl : rl_M X own idx y') (hM : rl_Met X.1.2.1 E BW Ns y' bytes maxL ret' rm' (.ref b :: []) h n Post') (hb : h b = some (.inr (ci, fs))) (hc : E.2.1[ci]? = some (C, T, N)) (hCy : C = y'.cls) (hst : (rest.map fun v => v.category).sum ≤ 8) (hr1 : rm'.frames + 1 ≤ X.1.2.2.2.1.frames) (hr2 : 8 + (maxL + 11) + rm'.locals ≤ X.1.2.2.2.1.locals) (hr3 : ce + rm'.cells ≤ X.1.2.2.2.1.cells) (hr4 : sl + rm'.slots ≤ X.1.2.2.2.1.slots) (hd : decode cc pc = .ok (.invokevirtual idx, 3)) (kk : ∀ (v : Option Value) (h' : rl_H) (n' : Nat), Post' v h' n' → rl_G X E (pc + 3) lo (v.toList ++ rest) h' n' (ce + rm'.cells) (sl + rm'.slots)) : rl_G X E pc lo (.ref b :: rest) h n ce sl := o_callV (As := []) (nL' := 0) hC hG hN hml hY h1 h2 hl hM hb hc hCy hst hr1 hr2 hr3 hr4 hd kk
theorem o_callI0 {bytes : ByteArray} {maxL idx b : Nat} {rest : List Value} {rm' : Room} {y' : MethodName} {Post' : Option Value → rl_H → Nat → Prop} (hC : rl_C X E cc own BW Ns) (hG : ∀ w ∈ BW, goodWord w = true) (hN : ∀ w ∈ Ns, rl_nw w = true) (hml : X.2.1.2.2.2.2.maxLocals = lo.length) (hY : rl_Y BW y' bytes maxL none 0) (hi : y'.name = "<init>") (h1 : Cond.instanceMethod y' ∈ BW) (hl : rl_M X own idx y') (hM : rl_Met X.1.2.1 E BW Ns y' bytes maxL none rm' (.ref b :: []) h n Post') (hst : (rest.map fun v => v.category).sum ≤ 8) (hr1 : rm'.frames + 1 ≤ X.1.2.2.2.1.frames) (hr2 : 8 + (maxL + 11) + rm'.locals ≤ X.1.2.2.2.1.locals) (hr3 : ce + rm'.cells ≤ X.1.2.2.2.1.cells) (hr4 : sl + rm'.slots ≤ X.1.2.2.2.1.slots) (hd : decode cc pc = .ok (.invokespecial idx, 3)) (kk : ∀ (v : Option Value) (h' : rl_H) (n' : Nat), Post' v h' n' → rl_G X E (pc + 3) lo (v.toList ++ rest) h' n' (ce + rm'.cells) (sl + rm'.slots)) : rl_G X E pc lo (.ref b :: rest) h n ce sl := o_callI (As := []) (nL' := 0) hC hG hN hml hY hi h1 hl hM hst hr1 hr2 hr3 hr4 hd kk
theorem o_callV1 {bytes : ByteArray} {maxL idx b ci N : Nat} {C : String} {T : u_T} {fs rest : List Value} {a1 : Value} {ret' : Option FieldType} {rm' : Room} {y' : MethodName} {Post' : Option Value → rl_H → Nat → Prop} (hC : rl_C X E cc own BW Ns) (hG : ∀ w ∈ BW, goodWord w = true) (hN : ∀ w ∈ Ns, rl_nw w = true) (hml : X.2.1.2.2.2.2.maxLocals = lo.length) (hY : rl_Y BW y' bytes maxL ret' 1) (h1 : Cond.instanceMethod y' ∈ BW) (h2 : Cond.selects y'.cls y' y' ∈ BW) (hl : rl_M X own idx y') (hM : rl_Met X.1.2.1 E BW Ns y' bytes maxL ret' rm' (.ref b :: [a1]) h n Post') (hb : h b = some (.inr (ci, fs))) (hc : E.2.1[ci]? = some (C, T, N)) (hCy : C = y'.cls) (hst : (rest.map fun v => v.category).sum ≤ 8) (hr1 : rm'.frames + 1 ≤ X.1.2.2.2.1.frames) (hr2 : 8 + (maxL + 11) + rm'.locals ≤ X.1.2.2.2.1.locals) (hr3 : ce + rm'.cells ≤ X.1.2.2.2.1.cells) (hr4 : sl + rm'.slots ≤ X.1.2.2.2.1.slots) (hd : decode cc pc = .ok (.invokevirtual idx, 3)) (kk : ∀ (v : Option Value) (h' : rl_H) (n' : Nat), Post' v h' n' → rl_G X E (pc + 3) lo (v.toList ++ rest) h' n' (ce + rm'.cells) (sl + rm'.slots)) : rl_G X E pc lo (a1 :: .ref b :: rest) h n ce sl := o_callV (As := [a1]) (nL' := 0) hC hG hN hml hY h1 h2 hl hM hb hc hCy hst hr1 hr2 hr3 hr4 hd kk
theorem o_callI1 {bytes : ByteArray} {maxL idx b : Nat} {rest : List Value} {a1 : Value} {rm' : Room} {y' : MethodName} {Post' : Option Value → rl_H → Nat → Prop} (hC : rl_C X E cc own BW Ns) (hG : ∀ w ∈ BW, goodWord w = true) (hN : ∀ w ∈ Ns, rl_nw w = true) (hml : X.2.1.2.2.2.2.maxLocals = lo.length) (hY : rl_Y BW y' bytes maxL none 1) (hi : y'.name = "<init>") (h1 : Cond.instanceMethod y' ∈ BW) (hl : rl_M X own idx y') (hM : rl_Met X.1.2.1 E BW Ns y' bytes maxL none rm' (.ref b :: [a1]) h n Post') (hst : (rest.map fun v => v.category).sum ≤ 8) (hr1 : rm'.frames + 1 ≤ X.1.2.2.2.1.frames) (hr2 : 8 + (maxL + 11) + rm'.locals ≤ X.1.2.2.2.1.locals) (hr3 : ce + rm'.cells ≤ X.1.2.2.2.1.cells) (hr4 : sl + rm'.slots ≤ X.1.2.2.2.1.slots) (hd : decode cc pc = .ok (.invokespecial idx, 3)) (kk : ∀ (v : Option Value) (h' : rl_H) (n' : Nat), Post' v h' n' → rl_G X E (pc + 3) lo (v.toList ++ rest) h' n' (ce + rm'.cells) (sl + rm'.slots)) : rl_G X E pc lo (a1 :: .ref b :: rest) h n ce sl := o_callI (As := [a1]) (nL' := 0) hC hG hN hml hY hi h1 hl hM hst hr1 hr2 hr3 hr4 hd kk
theorem o_callS1 {bytes : ByteArray} {maxL idx : Nat} {rest : List Value} {a1 : Value} {ret' : Option FieldType} {rm' : Room} {y' : MethodName} {Post' : Option Value → rl_H → Nat → Prop} (hC : rl_C X E cc own BW Ns) (hG : ∀ w ∈ BW, goodWord w = true) (hN : ∀ w ∈ Ns, rl_nw w = true) (hml : X.2.1.2.2.2.2.maxLocals = lo.length) (hY : rl_Y BW y' bytes maxL ret' 1) (h1 : Cond.static y' ∈ BW) (hl : rl_M X own idx y') (hM : rl_Met X.1.2.1 E BW Ns y' bytes maxL ret' rm' [a1] h n Post') (hst : (rest.map fun v => v.category).sum ≤ 8) (hr1 : rm'.frames + 1 ≤ X.1.2.2.2.1.frames) (hr2 : 8 + (maxL + 11) + rm'.locals ≤ X.1.2.2.2.1.locals) (hr3 : ce + rm'.cells ≤ X.1.2.2.2.1.cells) (hr4 : sl + rm'.slots ≤ X.1.2.2.2.1.slots) (hd : decode cc pc = .ok (.invokestatic idx, 3)) (kk : ∀ (v : Option Value) (h' : rl_H) (n' : Nat), Post' v h' n' → rl_G X E (pc + 3) lo (v.toList ++ rest) h' n' (ce + rm'.cells) (sl + rm'.slots)) : rl_G X E pc lo (a1 :: rest) h n ce sl := o_callS (As := [a1]) (nL' := 0) hC hG hN hml hY h1 hl hM hst hr1 hr2 hr3 hr4 hd kk
theorem o_callV2 {bytes : ByteArray} {maxL idx b ci N : Nat} {C : String} {T : u_T} {fs rest : List Value} {a1 a2 : Value} {ret' : Option FieldType} {rm' : Room} {y' : MethodName} {Post' : Option Value → rl_H → Nat → Prop} (hC : rl_C X E cc own BW Ns) (hG : ∀ w ∈ BW, goodWord w = true) (hN : ∀ w ∈ Ns, rl_nw w = true) (hml : X.2.1.2.2.2.2.maxLocals = lo.length) (hY : rl_Y BW y' bytes maxL ret' 2) (h1 : Cond.instanceMethod y' ∈ BW) (h2 : Cond.selects y'.cls y' y' ∈ BW) (hl : rl_M X own idx y') (hM : rl_Met X.1.2.1 E BW Ns y' bytes maxL ret' rm' (.ref b :: [a1, a2]) h n Post') (hb : h b = some (.inr (ci, fs))) (hc : E.2.1[ci]? = some (C, T, N)) (hCy : C = y'.cls) (hst : (rest.map fun v => v.category).sum ≤ 8) (hr1 : rm'.frames + 1 ≤ X.1.2.2.2.1.frames) (hr2 : 8 + (maxL + 11) + rm'.locals ≤ X.1.2.2.2.1.locals) (hr3 : ce + rm'.cells ≤ X.1.2.2.2.1.cells) (hr4 : sl + rm'.slots ≤ X.1.2.2.2.1.slots) (hd : decode cc pc = .ok (.invokevirtual idx, 3)) (kk : ∀ (v : Option Value) (h' : rl_H) (n' : Nat), Post' v h' n' → rl_G X E (pc + 3) lo (v.toList ++ rest) h' n' (ce + rm'.cells) (sl + rm'.slots)) : rl_G X E pc lo (a2 :: a1 :: .ref b :: rest) h n ce sl := o_callV (As := [a1, a2]) (nL' := 0) hC hG hN hml hY h1 h2 hl hM hb hc hCy hst hr1 hr2 hr3 hr4 hd kk
theorem o_callI2 {bytes : ByteArray} {maxL idx b : Nat} {rest : List Value} {a1 a2 : Value} {rm' : Room} {y' : MethodName} {Post' : Option Value → rl_H → Nat → Prop} (hC : rl_C X E cc own BW Ns) (hG : ∀ w ∈ BW, goodWord w = true) (hN : ∀ w ∈ Ns, rl_nw w = true) (hml : X.2.1.2.2.2.2.maxLocals = lo.length) (hY : rl_Y BW y' bytes maxL none 2) (hi : y'.name = "<init>") (h1 : Cond.instanceMethod y' ∈ BW) (hl : rl_M X own idx y') (hM : rl_Met X.1.2.1 E BW Ns y' bytes maxL none rm' (.ref b :: [a1, a2]) h n Post') (hst : (rest.map fun v => v.category).sum ≤ 8) (hr1 : rm'.frames + 1 ≤ X.1.2.2.2.1.frames) (hr2 : 8 + (maxL + 11) + rm'.locals ≤ X.1.2.2.2.1.locals) (hr3 : ce + rm'.cells ≤ X.1.2.2.2.1.cells) (hr4 : sl + rm'.slots ≤ X.1.2.2.2.1.slots) (hd : decode cc pc = .ok (.invokespecial idx, 3)) (kk : ∀ (v : Option Value) (h' : rl_H) (n' : Nat), Post' v h' n' → rl_G X E (pc + 3) lo (v.toList ++ rest) h' n' (ce + rm'.cells) (sl + rm'.slots)) : rl_G X E pc lo (a2 :: a1 :: .ref b :: rest) h n ce sl := o_callI (As := [a1, a2]) (nL' := 0) hC hG hN hml hY hi h1 hl hM hst hr1 hr2 hr3 hr4 hd kk
theorem o_callS2 {bytes : ByteArray} {maxL idx : Nat} {rest : List Value} {a1 a2 : Value} {ret' : Option FieldType} {rm' : Room} {y' : MethodName} {Post' : Option Value → rl_H → Nat → Prop} (hC : rl_C X E cc own BW Ns) (hG : ∀ w ∈ BW, goodWord w = true) (hN : ∀ w ∈ Ns, rl_nw w = true) (hml : X.2.1.2.2.2.2.maxLocals = lo.length) (hY : rl_Y BW y' bytes maxL ret' 2) (h1 : Cond.static y' ∈ BW) (hl : rl_M X own idx y') (hM : rl_Met X.1.2.1 E BW Ns y' bytes maxL ret' rm' [a1, a2] h n Post') (hst : (rest.map fun v => v.category).sum ≤ 8) (hr1 : rm'.frames + 1 ≤ X.1.2.2.2.1.frames) (hr2 : 8 + (maxL + 11) + rm'.locals ≤ X.1.2.2.2.1.locals) (hr3 : ce + rm'.cells ≤ X.1.2.2.2.1.cells) (hr4 : sl + rm'.slots ≤ X.1.2.2.2.1.slots) (hd : decode cc pc = .ok (.invokestatic idx, 3)) (kk : ∀ (v : Option Value) (h' : rl_H) (n' : Nat), Post' v h' n' → rl_G X E (pc + 3) lo (v.toList ++ rest) h' n' (ce + rm'.cells) (sl + rm'.slots)) : rl_G X E pc lo (a2 :: a1 :: rest) h n ce sl := o_callS (As := [a1, a2]) (nL' := 0) hC hG hN hml hY h1 hl hM hst hr1 hr2 hr3 hr4 hd kk
theorem o_callV3 {bytes : ByteArray} {maxL idx b ci N : Nat} {C : String} {T : u_T} {fs rest : List Value} {a1 a2 a3 : Value} {ret' : Option FieldType} {rm' : Room} {y' : MethodName} {Post' : Option Value → rl_H → Nat → Prop} (hC : rl_C X E cc own BW Ns) (hG : ∀ w ∈ BW, goodWord w = true) (hN : ∀ w ∈ Ns, rl_nw w = true) (hml : X.2.1.2.2.2.2.maxLocals = lo.length) (hY : rl_Y BW y' bytes maxL ret' 3) (h1 : Cond.instanceMethod y' ∈ BW) (h2 : Cond.selects y'.cls y' y' ∈ BW) (hl : rl_M X own idx y') (hM : rl_Met X.1.2.1 E BW Ns y' bytes maxL ret' rm' (.ref b :: [a1, a2, a3]) h n Post') (hb : h b = some (.inr (ci, fs))) (hc : E.2.1[ci]? = some (C, T, N)) (hCy : C = y'.cls) (hst : (rest.map fun v => v.category).sum ≤ 8) (hr1 : rm'.frames + 1 ≤ X.1.2.2.2.1.frames) (hr2 : 8 + (maxL + 11) + rm'.locals ≤ X.1.2.2.2.1.locals) (hr3 : ce + rm'.cells ≤ X.1.2.2.2.1.cells) (hr4 : sl + rm'.slots ≤ X.1.2.2.2.1.slots) (hd : decode cc pc = .ok (.invokevirtual idx, 3)) (kk : ∀ (v : Option Value) (h' : rl_H) (n' : Nat), Post' v h' n' → rl_G X E (pc + 3) lo (v.toList ++ rest) h' n' (ce + rm'.cells) (sl + rm'.slots)) : rl_G X E pc lo (a3 :: a2 :: a1 :: .ref b :: rest) h n ce sl := o_callV (As := [a1, a2, a3]) (nL' := 0) hC hG hN hml hY h1 h2 hl hM hb hc hCy hst hr1 hr2 hr3 hr4 hd kk
theorem o_callI3 {bytes : ByteArray} {maxL idx b : Nat} {rest : List Value} {a1 a2 a3 : Value} {rm' : Room} {y' : MethodName} {Post' : Option Value → rl_H → Nat → Prop} (hC : rl_C X E cc own BW Ns) (hG : ∀ w ∈ BW, goodWord w = true) (hN : ∀ w ∈ Ns, rl_nw w = true) (hml : X.2.1.2.2.2.2.maxLocals = lo.length) (hY : rl_Y BW y' bytes maxL none 3) (hi : y'.name = "<init>") (h1 : Cond.instanceMethod y' ∈ BW) (hl : rl_M X own idx y') (hM : rl_Met X.1.2.1 E BW Ns y' bytes maxL none rm' (.ref b :: [a1, a2, a3]) h n Post') (hst : (rest.map fun v => v.category).sum ≤ 8) (hr1 : rm'.frames + 1 ≤ X.1.2.2.2.1.frames) (hr2 : 8 + (maxL + 11) + rm'.locals ≤ X.1.2.2.2.1.locals) (hr3 : ce + rm'.cells ≤ X.1.2.2.2.1.cells) (hr4 : sl + rm'.slots ≤ X.1.2.2.2.1.slots) (hd : decode cc pc = .ok (.invokespecial idx, 3)) (kk : ∀ (v : Option Value) (h' : rl_H) (n' : Nat), Post' v h' n' → rl_G X E (pc + 3) lo (v.toList ++ rest) h' n' (ce + rm'.cells) (sl + rm'.slots)) : rl_G X E pc lo (a3 :: a2 :: a1 :: .ref b :: rest) h n ce sl := o_callI (As := [a1, a2, a3]) (nL' := 0) hC hG hN hml hY hi h1 hl hM hst hr1 hr2 hr3 hr4 hd kk
theorem o_callS3 {bytes : ByteArray} {maxL idx : Nat} {rest : List Value} {a1 a2 a3 : Value} {ret' : Option FieldType} {rm' : Room} {y' : MethodName} {Post' : Option Value → rl_H → Nat → Prop} (hC : rl_C X E cc own BW Ns) (hG : ∀ w ∈ BW, goodWord w = true) (hN : ∀ w ∈ Ns, rl_nw w = true) (hml : X.2.1.2.2.2.2.maxLocals = lo.length) (hY : rl_Y BW y' bytes maxL ret' 3) (h1 : Cond.static y' ∈ BW) (hl : rl_M X own idx y') (hM : rl_Met X.1.2.1 E BW Ns y' bytes maxL ret' rm' [a1, a2, a3] h n Post') (hst : (rest.map fun v => v.category).sum ≤ 8) (hr1 : rm'.frames + 1 ≤ X.1.2.2.2.1.frames) (hr2 : 8 + (maxL + 11) + rm'.locals ≤ X.1.2.2.2.1.locals) (hr3 : ce + rm'.cells ≤ X.1.2.2.2.1.cells) (hr4 : sl + rm'.slots ≤ X.1.2.2.2.1.slots) (hd : decode cc pc = .ok (.invokestatic idx, 3)) (kk : ∀ (v : Option Value) (h' : rl_H) (n' : Nat), Post' v h' n' → rl_G X E (pc + 3) lo (v.toList ++ rest) h' n' (ce + rm'.cells) (sl + rm'.slots)) : rl_G X E pc lo (a3 :: a2 :: a1 :: rest) h n ce sl := o_callS (As := [a1, a2, a3]) (nL' := 0) hC hG hN hml hY h1 hl hM hst hr1 hr2 hr3 hr4 hd kk
theorem o_callV4 {bytes : ByteArray} {maxL idx b ci N : Nat} {C : String} {T : u_T} {fs rest : List Value} {a1 a2 a3 a4 : Value} {ret' : Option FieldType} {rm' : Room} {y' : MethodName} {Post' : Option Value → rl_H → Nat → Prop} (hC : rl_C X E cc own BW Ns) (hG : ∀ w ∈ BW, goodWord w = true) (hN : ∀ w ∈ Ns, rl_nw w = true) (hml : X.2.1.2.2.2.2.maxLocals = lo.length) (hY : rl_Y BW y' bytes maxL ret' 4) (h1 : Cond.instanceMethod y' ∈ BW) (h2 : Cond.selects y'.cls y' y' ∈ BW) (hl : rl_M X own idx y') (hM : rl_Met X.1.2.1 E BW Ns y' bytes maxL ret' rm' (.ref b :: [a1, a2, a3, a4]) h n Post') (hb : h b = some (.inr (ci, fs))) (hc : E.2.1[ci]? = some (C, T, N)) (hCy : C = y'.cls) (hst : (rest.map fun v => v.category).sum ≤ 8) (hr1 : rm'.frames + 1 ≤ X.1.2.2.2.1.frames) (hr2 : 8 + (maxL + 11) + rm'.locals ≤ X.1.2.2.2.1.locals) (hr3 : ce + rm'.cells ≤ X.1.2.2.2.1.cells) (hr4 : sl + rm'.slots ≤ X.1.2.2.2.1.slots) (hd : decode cc pc = .ok (.invokevirtual idx, 3)) (kk : ∀ (v : Option Value) (h' : rl_H) (n' : Nat), Post' v h' n' → rl_G X E (pc + 3) lo (v.toList ++ rest) h' n' (ce + rm'.cells) (sl + rm'.slots)) : rl_G X E pc lo (a4 :: a3 :: a2 :: a1 :: .ref b :: rest) h n ce sl := o_callV (As := [a1, a2, a3, a4]) (nL' := 0) hC hG hN hml hY h1 h2 hl hM hb hc hCy hst hr1 hr2 hr3 hr4 hd kk
theorem o_callI4 {bytes : ByteArray} {maxL idx b : Nat} {rest : List Value} {a1 a2 a3 a4 : Value} {rm' : Room} {y' : MethodName} {Post' : Option Value → rl_H → Nat → Prop} (hC : rl_C X E cc own BW Ns) (hG : ∀ w ∈ BW, goodWord w = true) (hN : ∀ w ∈ Ns, rl_nw w = true) (hml : X.2.1.2.2.2.2.maxLocals = lo.length) (hY : rl_Y BW y' bytes maxL none 4) (hi : y'.name = "<init>") (h1 : Cond.instanceMethod y' ∈ BW) (hl : rl_M X own idx y') (hM : rl_Met X.1.2.1 E BW Ns y' bytes maxL none rm' (.ref b :: [a1, a2, a3, a4]) h n Post') (hst : (rest.map fun v => v.category).sum ≤ 8) (hr1 : rm'.frames + 1 ≤ X.1.2.2.2.1.frames) (hr2 : 8 + (maxL + 11) + rm'.locals ≤ X.1.2.2.2.1.locals) (hr3 : ce + rm'.cells ≤ X.1.2.2.2.1.cells) (hr4 : sl + rm'.slots ≤ X.1.2.2.2.1.slots) (hd : decode cc pc = .ok (.invokespecial idx, 3)) (kk : ∀ (v : Option Value) (h' : rl_H) (n' : Nat), Post' v h' n' → rl_G X E (pc + 3) lo (v.toList ++ rest) h' n' (ce + rm'.cells) (sl + rm'.slots)) : rl_G X E pc lo (a4 :: a3 :: a2 :: a1 :: .ref b :: rest) h n ce sl := o_callI (As := [a1, a2, a3, a4]) (nL' := 0) hC hG hN hml hY hi h1 hl hM hst hr1 hr2 hr3 hr4 hd kk
theorem o_callS4 {bytes : ByteArray} {maxL idx : Nat} {rest : List Value} {a1 a2 a3 a4 : Value} {ret' : Option FieldType} {rm' : Room} {y' : MethodName} {Post' : Option Value → rl_H → Nat → Prop} (hC : rl_C X E cc own BW Ns) (hG : ∀ w ∈ BW, goodWord w = true) (hN : ∀ w ∈ Ns, rl_nw w = true) (hml : X.2.1.2.2.2.2.maxLocals = lo.length) (hY : rl_Y BW y' bytes maxL ret' 4) (h1 : Cond.static y' ∈ BW) (hl : rl_M X own idx y') (hM : rl_Met X.1.2.1 E BW Ns y' bytes maxL ret' rm' [a1, a2, a3, a4] h n Post') (hst : (rest.map fun v => v.category).sum ≤ 8) (hr1 : rm'.frames + 1 ≤ X.1.2.2.2.1.frames) (hr2 : 8 + (maxL + 11) + rm'.locals ≤ X.1.2.2.2.1.locals) (hr3 : ce + rm'.cells ≤ X.1.2.2.2.1.cells) (hr4 : sl + rm'.slots ≤ X.1.2.2.2.1.slots) (hd : decode cc pc = .ok (.invokestatic idx, 3)) (kk : ∀ (v : Option Value) (h' : rl_H) (n' : Nat), Post' v h' n' → rl_G X E (pc + 3) lo (v.toList ++ rest) h' n' (ce + rm'.cells) (sl + rm'.slots)) : rl_G X E pc lo (a4 :: a3 :: a2 :: a1 :: rest) h n ce sl := o_callS (As := [a1, a2, a3, a4]) (nL' := 0) hC hG hN hml hY h1 hl hM hst hr1 hr2 hr3 hr4 hd kk
theorem o_callV5 {bytes : ByteArray} {maxL idx b ci N : Nat} {C : String} {T : u_T} {fs rest : List Value} {a1 a2 a3 a4 a5 : Value} {ret' : Option FieldType} {rm' : Room} {y' : MethodName} {Post' : Option Value → rl_H → Nat → Prop} (hC : rl_C X E cc own BW Ns) (hG : ∀ w ∈ BW, goodWord w = true) (hN : ∀ w ∈ Ns, rl_nw w = true) (hml : X.2.1.2.2.2.2.maxLocals = lo.length) (hY : rl_Y BW y' bytes maxL ret' 5) (h1 : Cond.instanceMethod y' ∈ BW) (h2 : Cond.selects y'.cls y' y' ∈ BW) (hl : rl_M X own idx y') (hM : rl_Met X.1.2.1 E BW Ns y' bytes maxL ret' rm' (.ref b :: [a1, a2, a3, a4, a5]) h n Post') (hb : h b = some (.inr (ci, fs))) (hc : E.2.1[ci]? = some (C, T, N)) (hCy : C = y'.cls) (hst : (rest.map fun v => v.category).sum ≤ 8) (hr1 : rm'.frames + 1 ≤ X.1.2.2.2.1.frames) (hr2 : 8 + (maxL + 11) + rm'.locals ≤ X.1.2.2.2.1.locals) (hr3 : ce + rm'.cells ≤ X.1.2.2.2.1.cells) (hr4 : sl + rm'.slots ≤ X.1.2.2.2.1.slots) (hd : decode cc pc = .ok (.invokevirtual idx, 3)) (kk : ∀ (v : Option Value) (h' : rl_H) (n' : Nat), Post' v h' n' → rl_G X E (pc + 3) lo (v.toList ++ rest) h' n' (ce + rm'.cells) (sl + rm'.slots)) : rl_G X E pc lo (a5 :: a4 :: a3 :: a2 :: a1 :: .ref b :: rest) h n ce sl := o_callV (As := [a1, a2, a3, a4, a5]) (nL' := 0) hC hG hN hml hY h1 h2 hl hM hb hc hCy hst hr1 hr2 hr3 hr4 hd kk
theorem o_callI5 {bytes : ByteArray} {maxL idx b : Nat} {rest : List Value} {a1 a2 a3 a4 a5 : Value} {rm' : Room} {y' : MethodName} {Post' : Option Value → rl_H → Nat → Prop} (hC : rl_C X E cc own BW Ns) (hG : ∀ w ∈ BW, goodWord w = true) (hN : ∀ w ∈ Ns, rl_nw w = true) (hml : X.2.1.2.2.2.2.maxLocals = lo.length) (hY : rl_Y BW y' bytes maxL none 5) (hi : y'.name = "<init>") (h1 : Cond.instanceMethod y' ∈ BW) (hl : rl_M X own idx y') (hM : rl_Met X.1.2.1 E BW Ns y' bytes maxL none rm' (.ref b :: [a1, a2, a3, a4, a5]) h n Post') (hst : (rest.map fun v => v.category).sum ≤ 8) (hr1 : rm'.frames + 1 ≤ X.1.2.2.2.1.frames) (hr2 : 8 + (maxL + 11) + rm'.locals ≤ X.1.2.2.2.1.locals) (hr3 : ce + rm'.cells ≤ X.1.2.2.2.1.cells) (hr4 : sl + rm'.slots ≤ X.1.2.2.2.1.slots) (hd : decode cc pc = .ok (.invokespecial idx, 3)) (kk : ∀ (v : Option Value) (h' : rl_H) (n' : Nat), Post' v h' n' → rl_G X E (pc + 3) lo (v.toList ++ rest) h' n' (ce + rm'.cells) (sl + rm'.slots)) : rl_G X E pc lo (a5 :: a4 :: a3 :: a2 :: a1 :: .ref b :: rest) h n ce sl := o_callI (As := [a1, a2, a3, a4, a5]) (nL' := 0) hC hG hN hml hY hi h1 hl hM hst hr1 hr2 hr3 hr4 hd kk
theorem o_callS5 {bytes : ByteArray} {maxL idx : Nat} {rest : List Value} {a1 a2 a3 a4 a5 : Value} {ret' : Option FieldType} {rm' : Room} {y' : MethodName} {Post' : Option Value → rl_H → Nat → Prop} (hC : rl_C X E cc own BW Ns) (hG : ∀ w ∈ BW, goodWord w = true) (hN : ∀ w ∈ Ns, rl_nw w = true) (hml : X.2.1.2.2.2.2.maxLocals = lo.length) (hY : rl_Y BW y' bytes maxL ret' 5) (h1 : Cond.static y' ∈ BW) (hl : rl_M X own idx y') (hM : rl_Met X.1.2.1 E BW Ns y' bytes maxL ret' rm' [a1, a2, a3, a4, a5] h n Post') (hst : (rest.map fun v => v.category).sum ≤ 8) (hr1 : rm'.frames + 1 ≤ X.1.2.2.2.1.frames) (hr2 : 8 + (maxL + 11) + rm'.locals ≤ X.1.2.2.2.1.locals) (hr3 : ce + rm'.cells ≤ X.1.2.2.2.1.cells) (hr4 : sl + rm'.slots ≤ X.1.2.2.2.1.slots) (hd : decode cc pc = .ok (.invokestatic idx, 3)) (kk : ∀ (v : Option Value) (h' : rl_H) (n' : Nat), Post' v h' n' → rl_G X E (pc + 3) lo (v.toList ++ rest) h' n' (ce + rm'.cells) (sl + rm'.slots)) : rl_G X E pc lo (a5 :: a4 :: a3 :: a2 :: a1 :: rest) h n ce sl := o_callS (As := [a1, a2, a3, a4, a5]) (nL' := 0) hC hG hN hml hY h1 hl hM hst hr1 hr2 hr3 hr4 hd kk
end RLV
/-- nothing has changed but between a and b -/
def rl_fr (h h' : rl_H) (a b : Nat) : Prop := ∀ q : Nat, q < a ∨ b ≤ q → h' q = h q
end
section
theorem w_acN : Cond.native arraycopyName ∈ rl_BW := rl_bw 392 (by decide +kernel) (by decide +kernel)
theorem w_acS : Cond.static arraycopyName ∈ rl_BW := rl_bw 391 (by decide +kernel) (by decide +kernel)
theorem w_acI : Cond.initialized "java/lang/System" ∈ rl_BW := rl_bw 11 (by decide +kernel) (by decide +kernel)
theorem acX5_22 : Cond.methodLink RX5 22 arraycopyName ∈ rl_BW := rl_bw 390 (by decide +kernel) (by decide +kernel)
theorem acX2_133 : Cond.methodLink RX2 133 arraycopyName ∈ rl_BW := rl_bw 434 (by decide +kernel) (by decide +kernel)
section RLP
variable {X : rl_X} {E : rl_E} {cc : ByteArray} {own : String} {Ts Ns : List Cond} {pc : Nat} {lo : List (Option Value)} {st : List Value} {h : rl_H} {n ce sl : Nat}
theorem o_ldcw (hC : rl_C X E cc own Ts Ns) {idx : Nat} {v : Int32} (hw : Cond.constant own idx v ∈ Ts) (hd : decode cc pc = .ok (.ldc_w idx, 3)) (kk : rl_G X E (pc + 3) lo (.int v :: st) h n ce sl) : rl_G X E pc lo st h n ce sl := fun H locs ls a b c => lv_ldcw hC.1 hC.2.1 hC.2.2.1 (hC.2.2.2.1 _ hw) hd (kk H locs ls a b c)
/-- System.arraycopy of ints -/
theorem o_copyi (hC : rl_C X E cc own Ts Ns) (hml : X.2.1.2.2.2.2.maxLocals = lo.length) {idx a0 a t0 n0 n1 sp dp k : Nat} {c0 c1 : ClassId} {f g : Nat → Int32} (w1 : Cond.methodLink own idx arraycopyName ∈ Ts) (w2 : Cond.native arraycopyName ∈ Ts) (w3 : Cond.static arraycopyName ∈ Ts) (w4 : Cond.initialized "java/lang/System" ∈ Ts) (ht0 : E.2.2.1[t0]? = some (c0, .int)) (ht1 : E.2.2.1[t0]? = some (c1, .int)) (hd : decode cc pc = .ok (.invokestatic idx, 3)) (ha0 : h a0 = some (.inl (c0, n0, .inl f))) (ha1 : h a = some (.inl (c1, n1, .inl g))) (h4 : sp + k ≤ n0) (h5 : dp + k ≤ n1) (hb0 : n0 < 2147483648) (hb1 : n1 < 2147483648) (hr1 : 1 ≤ X.1.2.2.2.1.frames) (hr2 : (st.map fun v => v.category).sum + (nativeFrameWords "java/lang/System" "arraycopy" 5 + 11) ≤ X.1.2.2.2.1.locals)
    (kk : rl_G X E (pc + 3) lo st (rl_u h a (.inl (c1, n1, .inl (va_cpy f g sp dp k)))) n ce sl) : rl_G X E pc lo (.int (nI k) :: .int (nI dp) :: .ref a :: .int (nI sp) :: .ref a0 :: st) h n ce sl := by
  intro H locs ls a1 b1 c1' T hT Xs
  have hts := hC.2.2.2.1
  have hK := hC.2.2.2.2.2.1
  have es : (nI sp).toNatClampNeg = sp := nI_clamp (by omega)
  have ed : (nI dp).toNatClampNeg = dp := nI_clamp (by omega)
  have ek : (nI k).toNatClampNeg = k := nI_clamp (by omega)
  have is : (nI sp).toInt = (sp : Int) := nI_toInt (by omega)
  have id' : (nI dp).toInt = (dp : Int) := nI_toInt (by omega)
  have ik : (nI k).toInt = (k : Int) := nI_toInt (by omega)
  have hc0 : H[a0]? = some (vp_cell c0 (n0, .inl f)) := (a1.2.2.2 a0 _ ha0).2
  have hc1 : H[a]? = some (vp_cell c1 (n1, .inl g)) := (a1.2.2.2 a _ ha1).2
  have hb := (a1.2.2.2 a _ ha1).1
  obtain ⟨-, k0, hk0, cm0, hkk0⟩ := (hK.2 t0 _ ht0).1 n0 (fun j => .int (f j))
  obtain ⟨-, k1, hk1, cm1, hkk1⟩ := (hK.2 t0 _ ht1).1 n1 (fun j => .int (g j))
  obtain ⟨vm', X', step⟩ := Xs.arraycopy hC.1 hC.2.2.1 (hts _ w1) (hts _ w2) (hts _ w3) (hts _ w4) (src := a0) (dst := a) (cs := vp_cell c0 (n0, .inl f)) (cd := vp_cell c1 (n1, .inl g)) (srcPos := nI sp) (destPos := nI dp) (n := nI k) (by rw [hT]; exact hc0) (by rw [hT]; exact hc1)
    (fun _ h => by cases h) (fun _ h => by cases h) (fun h => by cases h) (fun h => by cases h) hk0 hk1 hkk0 hkk1 (by simp [refKind]) (nI_pos (by omega)) (nI_pos (by omega)) (nI_pos (by omega))
    (by rw [is, ik]; show ¬ _ > ((arrV c0 n0 (fun j => .int (f j))).slots.size : Int); rw [arrV_size]; omega)
    (by rw [id', ik]; show ¬ _ > ((arrV c1 n1 (fun j => .int (g j))).slots.size : Int); rw [arrV_size]; omega)
    (fun vm₁ _ i hi => by
      rw [ek] at hi
      have e : (vp_cell c0 (n0, .inl f)).slots.getD ((nI sp).toNatClampNeg + i) .null = .int (f (sp + i)) := by
        rw [es]
        show (arrV c0 n0 (fun j => .int (f j))).slots.getD _ _ = _
        rw [Array.getD_eq_getD_getElem?, arrV_read _ _ (by omega)]
        rfl
      refine ⟨?_, ?_⟩
      · rw [e]
        rfl
      · rw [e]
        exact trivial)
    (g := F0 X.2.1.1 pc ls (.int (nI k) :: .int (nI dp) :: .ref a :: .int (nI sp) :: .ref a0 :: st)) rfl (by rw [hml]; exact c1'.1) (rest := st) rfl (by rw [hC.2.1]; exact hd) hr1 (by show 2 * 0 + _ + _ ≤ _; omega)
  have e1 : copied (vp_cell c0 (n0, .inl f)) (vp_cell c1 (n1, .inl g)) (nI sp) (nI dp) (nI k) = vp_cell c1 (n1, .inl (va_cpy f g (nI sp).toNatClampNeg (nI dp).toNatClampNeg (nI k).toNatClampNeg)) := va_copied (fun z => .int z) c0 c1 f g (by rw [es, ek]; exact h4)
  rw [es, ed, ek] at e1
  rw [e1] at X' step
  have hl : a < H.size := (Array.getElem?_eq_some_iff.mp hc1).1
  have hheap : ((T.setVm vm').setCell a (vp_cell c1 (n1, .inl (va_cpy f g sp dp k)))).heap = H.setIfInBounds a (vp_cell c1 (n1, .inl (va_cpy f g sp dp k))) := by rw [← hT]; rfl
  have oq : ∀ q : Nat, q ≠ a → (H.setIfInBounds a (vp_cell c1 (n1, .inl (va_cpy f g sp dp k))))[q]? = H[q]? := fun q hq => by simp [Array.getElem?_setIfInBounds, Ne.symm hq]
  obtain ⟨t, y1, y2⟩ := kk _ _ ls (a1.put ha1 (by simp) oq (show (H.setIfInBounds a _)[a]? = some _ by simp [Array.getElem?_setIfInBounds, hl])) (fun q hq => by
      rcases List.mem_append.mp hq with h9 | h9
      · exact b1 q h9
      · obtain ⟨z, -, hz⟩ := List.mem_map.mp h9
        rw [← hz]
        exact hb) c1' _ hheap X'
  exact ⟨t, step t y1, y2⟩
end RLP
end
section
/-! RowLineage$Ways: at w, its needs at w + 1, its lacks at w + 2 -/
def ws_at (ids : Nat → ClassId) (h : rl_H) (w : Nat) (f g : Nat → Int64) (k : Nat) : Prop :=
  h w = some (.inr (6, [.ref (w + 1), .ref (w + 2), .int (nI k)])) ∧ h (w + 1) = some (.inl (ids 1, 12, .inr (.inl f))) ∧ h (w + 2) = some (.inl (ids 1, 12, .inr (.inl g))) ∧ k ≤ 12
theorem ws_at.kept {ids : Nat → ClassId} {h h' : rl_H} {w a b : Nat} {f g : Nat → Int64} {k : Nat} (H : ws_at ids h w f g k) (hf : rl_fr h h' a b) (hd : w + 3 ≤ a ∨ b ≤ w) : ws_at ids h' w f g k :=
  ⟨by rw [hf w (by omega)]; exact H.1, by rw [hf (w + 1) (by omega)]; exact H.2.1, by rw [hf (w + 2) (by omega)]; exact H.2.2.1, H.2.2.2⟩
theorem rl_fr.rf {h : rl_H} {a b : Nat} : rl_fr h h a b := fun _ _ => rfl
theorem rl_fr.tr {h h1 h2 : rl_H} {a b : Nat} (x : rl_fr h h1 a b) (y : rl_fr h1 h2 a b) : rl_fr h h2 a b := fun q hq => (y q hq).trans (x q hq)
theorem rl_fr.wd {h h1 : rl_H} {a b a' b' : Nat} (x : rl_fr h h1 a b) (z1 : a' ≤ a) (z2 : b ≤ b') : rl_fr h h1 a' b' := fun q hq => x q (by omega)
/-- the first of the TERMS that holds, from j on, m of them -/
noncomputable def tm_first (f g : Nat → Int64) (x : Int64) : Nat → Nat → Int32
  | 0, _ => -1
  | m + 1, j => if f j &&& (x ^^^ (-1)) = 0 ∧ g j &&& x = 0 then nI j else tm_first f g x m (j + 1)
/-- all rows of the TERMS -/
def tm_rows (f g : Nat → Int64) : Nat → Nat → Int64 → Int64
  | 0, _, a => a
  | m + 1, j, a => tm_rows f g m (j + 1) (a ||| (f j ||| g j))
/-- a TERM is put among the first t, which stand in order -/
noncomputable def tm_ins (a b : Int64) : Nat → (Nat → Int64) → (Nat → Int64) → (Nat → Int64) × (Nat → Int64)
  | 0, f, g => (vp_updL f 0 a, vp_updL g 0 b)
  | t + 1, f, g => if a < f t ∨ (f t = a ∧ b < g t) then tm_ins a b t (vp_updL f (t + 1) (f t)) (vp_updL g (t + 1) (g t)) else (vp_updL f (t + 1) a, vp_updL g (t + 1) b)

set_option maxHeartbeats 4000000 in
set_option maxRecDepth 100000 in
theorem ct_X6_firstThatHolds (l : Launch) (D : va_G) (ids : Nat → ClassId) (H0 : Heap) (h : rl_H) (n : Nat) (w k : Nat) (f g : Nat → Int64) (x : Int64) (hw : ws_at ids h w f g k) : rl_Met l (rl_e D ids H0) rl_BW rl_Ns yX6_firstThatHolds cX6_firstThatHolds 4 (some .int) ({ frames := 0, cells := 0, slots := 0, locals := 0 }) [.ref w, .long x] h n (fun v h' n' => v = some (.int (tm_first f g x k 0)) ∧ h' = h ∧ n' = n) := by
  obtain ⟨h1, h2, h3, hk⟩ := hw
  refine rl_Met.of (by decide +kernel) (Nat.le_of_ble_eq_true rfl) ?_
  intro X hC hB
  have loop : ∀ (m j : Nat), j + m = k → tm_first f g x k 0 = tm_first f g x m j → rl_G X (rl_e D ids H0) 2 [some (.ref w), some (.long x), none, some (.int (nI j))] [] h n 0 0 := by
    intro m
    induction m with
    | zero =>
      intro j hj hs
      refine o_iload_n hC dX6_firstThatHolds_2 (by rfl) ?_
      refine o_aload_n hC dX6_firstThatHolds_3 (by rfl) ?_
      refine o_getf hC (fX6_18 hC rfl) dX6_firstThatHolds_4 (by repeat (first | with_reducible assumption | (rw [rl_u_s]; done) | (rw [rl_u_s]; rfl) | rw [rl_u_n (by first | with_reducible assumption | omega)])) (by first | rfl | with_reducible assumption) ?_
      refine o_icmp_ge (tgt := 48) hC dX6_firstThatHolds_7 (by decide) (fun c_7 => ?_) (fun c_7 => ?_)
      · refine o_iconst (v := (-1 : Int32)) hC dX6_firstThatHolds_48 (by decide +kernel) ?_
        refine o_iret hC hB dX6_firstThatHolds_49 (Nat.le_of_ble_eq_true rfl) (Nat.le_of_ble_eq_true rfl) ?_
        exact ⟨by rw [hs]; rfl, rfl, rfl⟩
      · exact absurd (nI_le (by omega) (by omega)) c_7
    | succ m ih =>
      intro j hj hs
      refine o_iload_n hC dX6_firstThatHolds_2 (by rfl) ?_
      refine o_aload_n hC dX6_firstThatHolds_3 (by rfl) ?_
      refine o_getf hC (fX6_18 hC rfl) dX6_firstThatHolds_4 (by repeat (first | with_reducible assumption | (rw [rl_u_s]; done) | (rw [rl_u_s]; rfl) | rw [rl_u_n (by first | with_reducible assumption | omega)])) (by first | rfl | with_reducible assumption) ?_
      refine o_icmp_ge (tgt := 48) hC dX6_firstThatHolds_7 (by decide) (fun c_7 => ?_) (fun c_7 => ?_)
      · exact absurd c_7 (nI_ge (by omega) (by omega))
      · refine o_aload_n hC dX6_firstThatHolds_10 (by rfl) ?_
        refine o_getf hC (fX6_9 hC rfl) dX6_firstThatHolds_11 (by repeat (first | with_reducible assumption | (rw [rl_u_s]; done) | (rw [rl_u_s]; rfl) | rw [rl_u_n (by first | with_reducible assumption | omega)])) (by first | rfl | with_reducible assumption) ?_
        refine o_iload_n hC dX6_firstThatHolds_14 (by rfl) ?_
        refine o_laldN (t0 := 1) hC rfl dX6_firstThatHolds_15 (by repeat (first | with_reducible assumption | (rw [rl_u_s]; done) | (rw [rl_u_s]; rfl) | rw [rl_u_n (by first | with_reducible assumption | omega)])) (by omega) (by decide) ?_
        refine o_lload_n hC dX6_firstThatHolds_16 (by rfl) ?_
        refine o_ldc2 hC nX6_26 dX6_firstThatHolds_17 ?_
        refine o_lxor hC dX6_firstThatHolds_20 ?_
        refine o_land hC dX6_firstThatHolds_21 ?_
        refine o_lconst (v := 0) hC dX6_firstThatHolds_22 (by decide +kernel) ?_
        refine o_lcmp hC dX6_firstThatHolds_23 ?_
        refine o_if_ne (tgt := 42) hC dX6_firstThatHolds_24 (by decide) (fun c_24 => ?_) (fun c_24 => ?_)
        · refine o_iinc hC dX6_firstThatHolds_42 (by rfl) (rl_inc _) (Nat.le_of_ble_eq_true rfl) ?_
          refine o_goto (tgt := 2) hC dX6_firstThatHolds_45 (by decide) ?_
          exact ih (j + 1) (by omega) (by rw [hs, tm_first, if_neg]; exact fun q => by first | exact c_24 ((lg_cmp_eq _ _).mpr q.1) | exact c_37 ((lg_cmp_eq _ _).mpr q.2))
        · refine o_aload_n hC dX6_firstThatHolds_27 (by rfl) ?_
          refine o_getf hC (fX6_15 hC rfl) dX6_firstThatHolds_28 (by repeat (first | with_reducible assumption | (rw [rl_u_s]; done) | (rw [rl_u_s]; rfl) | rw [rl_u_n (by first | with_reducible assumption | omega)])) (by first | rfl | with_reducible assumption) ?_
          refine o_iload_n hC dX6_firstThatHolds_31 (by rfl) ?_
          refine o_laldN (t0 := 1) hC rfl dX6_firstThatHolds_32 (by repeat (first | with_reducible assumption | (rw [rl_u_s]; done) | (rw [rl_u_s]; rfl) | rw [rl_u_n (by first | with_reducible assumption | omega)])) (by omega) (by decide) ?_
          refine o_lload_n hC dX6_firstThatHolds_33 (by rfl) ?_
          refine o_land hC dX6_firstThatHolds_34 ?_
          refine o_lconst (v := 0) hC dX6_firstThatHolds_35 (by decide +kernel) ?_
          refine o_lcmp hC dX6_firstThatHolds_36 ?_
          refine o_if_ne (tgt := 42) hC dX6_firstThatHolds_37 (by decide) (fun c_37 => ?_) (fun c_37 => ?_)
          · refine o_iinc hC dX6_firstThatHolds_42 (by rfl) (rl_inc _) (Nat.le_of_ble_eq_true rfl) ?_
            refine o_goto (tgt := 2) hC dX6_firstThatHolds_45 (by decide) ?_
            exact ih (j + 1) (by omega) (by rw [hs, tm_first, if_neg]; exact fun q => by first | exact c_24 ((lg_cmp_eq _ _).mpr q.1) | exact c_37 ((lg_cmp_eq _ _).mpr q.2))
          · refine o_iload_n hC dX6_firstThatHolds_40 (by rfl) ?_
            refine o_iret hC hB dX6_firstThatHolds_41 (Nat.le_of_ble_eq_true rfl) (Nat.le_of_ble_eq_true rfl) ?_
            refine ⟨?_, rfl, rfl⟩
            rw [hs, tm_first, if_pos ⟨(lg_cmp_eq _ _).mp c_24, (lg_cmp_eq _ _).mp c_37⟩]
  show rl_G X (rl_e D ids H0) 0 [some (.ref w), some (.long x), none, none] [] h n 0 0
  refine o_iconst (v := nI 0) hC dX6_firstThatHolds_0 (by decide +kernel) ?_
  refine o_istore_n hC dX6_firstThatHolds_1 (Nat.le_of_ble_eq_true rfl) ?_
  exact loop k 0 (by omega) rfl

set_option maxHeartbeats 4000000 in
set_option maxRecDepth 100000 in
theorem ct_X6_init (l : Launch) (D : va_G) (ids : Nat → ClassId) (H0 : Heap) (h : rl_H) (n : Nat) (w : Nat) (h1 : h w = some (.inr (6, [.null, .null, .int (nI 0)]))) (hn : n = w + 1) : rl_Met l (rl_e D ids H0) rl_BW rl_Ns yX6_init cX6_init 1 none ({ frames := 1, cells := 2, slots := 24, locals := 16 }) [.ref w] h n (fun v h' n' => v = none ∧ n' = w + 3 ∧ ws_at ids h' w (fun _ => 0) (fun _ => 0) 0 ∧ rl_fr h h' w (w + 3)) := by
  subst hn
  refine rl_Met.of (by decide +kernel) (Nat.le_of_ble_eq_true rfl) ?_
  intro X hC hB
  show rl_G X (rl_e D ids H0) 0 [some (.ref w)] [] h (w + 1) 0 0
  refine o_aload_n hC dX6_init_0 (by rfl) ?_
  refine o_objInit hC (by exact hB.2.2.2.2.2) mX6_3 w_objI w_objC dX6_init_1 (by rw [hB.2.1]; first | exact Nat.le_of_ble_eq_true rfl | (dsimp only; omega)) (by rw [hB.2.1]; first | exact Nat.le_of_ble_eq_true rfl | (dsimp only; omega)) ?_
  refine o_aload_n hC dX6_init_4 (by rfl) ?_
  refine o_bipush (v := nI 12) hC dX6_init_5 (by decide +kernel) ?_
  refine o_newa (atype := .long) (ty := .long) (t0 := 1) (N' := 12) (x := .inr (.inl (fun _ => 0))) hC rfl (fun C q => by cases q) aw_long rfl rfl (nI_pos (by decide)) (nI_clamp (by decide)) (by decide) (by rw [hB.2.1]; first | exact Nat.le_of_ble_eq_true rfl | (dsimp only; omega)) (by rw [hB.2.1]; first | exact Nat.le_of_ble_eq_true rfl | (dsimp only; omega)) dX6_init_7 ?_
  refine o_putf hC (fX6_9 hC rfl) (fwX6 rfl rfl rfl (Or.inr ⟨rfl, hB.2.2.2.2.1, rfl⟩)) dX6_init_9 (by repeat (first | with_reducible assumption | (rw [rl_u_s]; done) | (rw [rl_u_s]; rfl) | rw [rl_u_n (by first | with_reducible assumption | omega)])) (Nat.le_of_ble_eq_true rfl) ?_
  try simp only [List.set_cons_zero, List.set_cons_succ]
  refine o_aload_n hC dX6_init_12 (by rfl) ?_
  refine o_bipush (v := nI 12) hC dX6_init_13 (by decide +kernel) ?_
  refine o_newa (atype := .long) (ty := .long) (t0 := 1) (N' := 12) (x := .inr (.inl (fun _ => 0))) hC rfl (fun C q => by cases q) aw_long rfl rfl (nI_pos (by decide)) (nI_clamp (by decide)) (by decide) (by rw [hB.2.1]; first | exact Nat.le_of_ble_eq_true rfl | (dsimp only; omega)) (by rw [hB.2.1]; first | exact Nat.le_of_ble_eq_true rfl | (dsimp only; omega)) dX6_init_15 ?_
  refine o_putf hC (fX6_15 hC rfl) (fwX6 rfl rfl rfl (Or.inr ⟨rfl, hB.2.2.2.2.1, rfl⟩)) dX6_init_17 (by repeat (first | with_reducible assumption | (rw [rl_u_s]; done) | (rw [rl_u_s]; rfl) | rw [rl_u_n (by first | with_reducible assumption | omega)])) (Nat.le_of_ble_eq_true rfl) ?_
  try simp only [List.set_cons_zero, List.set_cons_succ]
  refine o_vret hC hB dX6_init_20 (Nat.le_of_ble_eq_true rfl) (Nat.le_of_ble_eq_true rfl) ?_
  refine ⟨rfl, rfl, ⟨by repeat (first | with_reducible assumption | (rw [rl_u_s]; done) | (rw [rl_u_s]; rfl) | rw [rl_u_n (by first | with_reducible assumption | omega)]), by repeat (first | with_reducible assumption | (rw [rl_u_s]; done) | (rw [rl_u_s]; rfl) | rw [rl_u_n (by first | with_reducible assumption | omega)]), by repeat (first | with_reducible assumption | (rw [rl_u_s]; done) | (rw [rl_u_s]; rfl) | rw [rl_u_n (by first | with_reducible assumption | omega)]), by omega⟩, ?_⟩
  intro q hq
  repeat (first | rfl | rw [rl_u_n (by omega)])

set_option maxHeartbeats 4000000 in
set_option maxRecDepth 100000 in
theorem ct_X6_becomeFalse (l : Launch) (D : va_G) (ids : Nat → ClassId) (H0 : Heap) (h : rl_H) (n : Nat) (w k : Nat) (f g : Nat → Int64) (hw : ws_at ids h w f g k) : rl_Met l (rl_e D ids H0) rl_BW rl_Ns yX6_becomeFalse cX6_becomeFalse 1 none ({ frames := 0, cells := 0, slots := 0, locals := 0 }) [.ref w] h n (fun v h' n' => v = none ∧ n' = n ∧ ws_at ids h' w f g 0 ∧ rl_fr h h' w (w + 1)) := by
  obtain ⟨h1, h2, h3, hk⟩ := hw
  refine rl_Met.of (by decide +kernel) (Nat.le_of_ble_eq_true rfl) ?_
  intro X hC hB
  show rl_G X (rl_e D ids H0) 0 [some (.ref w)] [] h n 0 0
  refine o_aload_n hC dX6_becomeFalse_0 (by rfl) ?_
  refine o_iconst (v := nI 0) hC dX6_becomeFalse_1 (by decide +kernel) ?_
  refine o_putf hC (fX6_18 hC rfl) (fwX6 rfl rfl rfl (Or.inl rfl)) dX6_becomeFalse_2 (by repeat (first | with_reducible assumption | (rw [rl_u_s]; done) | (rw [rl_u_s]; rfl) | rw [rl_u_n (by first | with_reducible assumption | omega)])) (Nat.le_of_ble_eq_true rfl) ?_
  try simp only [List.set_cons_zero, List.set_cons_succ]
  refine o_vret hC hB dX6_becomeFalse_5 (Nat.le_of_ble_eq_true rfl) (Nat.le_of_ble_eq_true rfl) ?_
  refine ⟨rfl, rfl, ⟨by repeat (first | with_reducible assumption | (rw [rl_u_s]; done) | (rw [rl_u_s]; rfl) | rw [rl_u_n (by first | with_reducible assumption | omega)]), by repeat (first | with_reducible assumption | (rw [rl_u_s]; done) | (rw [rl_u_s]; rfl) | rw [rl_u_n (by first | with_reducible assumption | omega)]), by repeat (first | with_reducible assumption | (rw [rl_u_s]; done) | (rw [rl_u_s]; rfl) | rw [rl_u_n (by first | with_reducible assumption | omega)]), by omega⟩, ?_⟩
  intro q hq
  repeat (first | rfl | rw [rl_u_n (by omega)])

set_option maxHeartbeats 4000000 in
set_option maxRecDepth 100000 in
theorem ct_X6_becomeTerm (l : Launch) (D : va_G) (ids : Nat → ClassId) (H0 : Heap) (h : rl_H) (n : Nat) (w k : Nat) (f g : Nat → Int64) (a b : Int64) (hw : ws_at ids h w f g k) : rl_Met l (rl_e D ids H0) rl_BW rl_Ns yX6_becomeTerm cX6_becomeTerm 5 none ({ frames := 0, cells := 0, slots := 0, locals := 0 }) [.ref w, .long a, .long b] h n (fun v h' n' => v = none ∧ n' = n ∧ ws_at ids h' w (vp_updL f 0 a) (vp_updL g 0 b) 1 ∧ rl_fr h h' w (w + 3)) := by
  obtain ⟨h1, h2, h3, hk⟩ := hw
  refine rl_Met.of (by decide +kernel) (Nat.le_of_ble_eq_true rfl) ?_
  intro X hC hB
  show rl_G X (rl_e D ids H0) 0 [some (.ref w), some (.long a), none, some (.long b), none] [] h n 0 0
  refine o_aload_n hC dX6_becomeTerm_0 (by rfl) ?_
  refine o_getf hC (fX6_9 hC rfl) dX6_becomeTerm_1 (by repeat (first | with_reducible assumption | (rw [rl_u_s]; done) | (rw [rl_u_s]; rfl) | rw [rl_u_n (by first | with_reducible assumption | omega)])) (by first | rfl | with_reducible assumption) ?_
  refine o_iconst (v := nI 0) hC dX6_becomeTerm_4 (by decide +kernel) ?_
  refine o_lload_n hC dX6_becomeTerm_5 (by rfl) ?_
  refine o_lastN (t0 := 1) hC rfl dX6_becomeTerm_6 (by repeat (first | with_reducible assumption | (rw [rl_u_s]; done) | (rw [rl_u_s]; rfl) | rw [rl_u_n (by first | with_reducible assumption | omega)])) (by omega) (by decide) ?_
  refine o_aload_n hC dX6_becomeTerm_7 (by rfl) ?_
  refine o_getf hC (fX6_15 hC rfl) dX6_becomeTerm_8 (by repeat (first | with_reducible assumption | (rw [rl_u_s]; done) | (rw [rl_u_s]; rfl) | rw [rl_u_n (by first | with_reducible assumption | omega)])) (by first | rfl | with_reducible assumption) ?_
  refine o_iconst (v := nI 0) hC dX6_becomeTerm_11 (by decide +kernel) ?_
  refine o_lload_n hC dX6_becomeTerm_12 (by rfl) ?_
  refine o_lastN (t0 := 1) hC rfl dX6_becomeTerm_13 (by repeat (first | with_reducible assumption | (rw [rl_u_s]; done) | (rw [rl_u_s]; rfl) | rw [rl_u_n (by first | with_reducible assumption | omega)])) (by omega) (by decide) ?_
  refine o_aload_n hC dX6_becomeTerm_14 (by rfl) ?_
  refine o_iconst (v := nI 1) hC dX6_becomeTerm_15 (by decide +kernel) ?_
  refine o_putf hC (fX6_18 hC rfl) (fwX6 rfl rfl rfl (Or.inl rfl)) dX6_becomeTerm_16 (by repeat (first | with_reducible assumption | (rw [rl_u_s]; done) | (rw [rl_u_s]; rfl) | rw [rl_u_n (by first | with_reducible assumption | omega)])) (Nat.le_of_ble_eq_true rfl) ?_
  try simp only [List.set_cons_zero, List.set_cons_succ]
  refine o_vret hC hB dX6_becomeTerm_19 (Nat.le_of_ble_eq_true rfl) (Nat.le_of_ble_eq_true rfl) ?_
  refine ⟨rfl, rfl, ⟨by repeat (first | with_reducible assumption | (rw [rl_u_s]; done) | (rw [rl_u_s]; rfl) | rw [rl_u_n (by first | with_reducible assumption | omega)]), by repeat (first | with_reducible assumption | (rw [rl_u_s]; done) | (rw [rl_u_s]; rfl) | rw [rl_u_n (by first | with_reducible assumption | omega)]), by repeat (first | with_reducible assumption | (rw [rl_u_s]; done) | (rw [rl_u_s]; rfl) | rw [rl_u_n (by first | with_reducible assumption | omega)]), by omega⟩, ?_⟩
  intro q hq
  repeat (first | rfl | rw [rl_u_n (by omega)])

set_option maxHeartbeats 4000000 in
set_option maxRecDepth 100000 in
theorem ct_X6_becomeTrue (l : Launch) (D : va_G) (ids : Nat → ClassId) (H0 : Heap) (h : rl_H) (n : Nat) (w k : Nat) (f g : Nat → Int64) (hw : ws_at ids h w f g k) : rl_Met l (rl_e D ids H0) rl_BW rl_Ns yX6_becomeTrue cX6_becomeTrue 1 none ({ frames := 1, cells := 0, slots := 0, locals := 24 }) [.ref w] h n (fun v h' n' => v = none ∧ n' = n ∧ ws_at ids h' w (vp_updL f 0 0) (vp_updL g 0 0) 1 ∧ rl_fr h h' w (w + 3)) := by
  refine rl_Met.of (by decide +kernel) (Nat.le_of_ble_eq_true rfl) ?_
  intro X hC hB
  show rl_G X (rl_e D ids H0) 0 [some (.ref w)] [] h n 0 0
  refine o_aload_n hC dX6_becomeTrue_0 (by rfl) ?_
  refine o_lconst (v := 0) hC dX6_becomeTrue_1 (by decide +kernel) ?_
  refine o_lconst (v := 0) hC dX6_becomeTrue_2 (by decide +kernel) ?_
  refine o_callV2 hC rl_BW_good rl_Ns_nw (by exact hB.2.2.2.2.2) YX6_becomeTerm IX6_becomeTerm VX6_becomeTerm (mX6_22 hC) (by rw [hB.1]; exact ct_X6_becomeTerm l D ids H0 h n w k f g 0 0 hw) (by exact hw.1) rfl rfl (Nat.le_of_ble_eq_true rfl) (by rw [hB.2.1]; first | exact Nat.le_of_ble_eq_true rfl | (dsimp only; omega)) (by rw [hB.2.1]; first | exact Nat.le_of_ble_eq_true rfl | (dsimp only; omega)) (by rw [hB.2.1]; first | exact Nat.le_of_ble_eq_true rfl | (dsimp only; omega)) (by rw [hB.2.1]; first | exact Nat.le_of_ble_eq_true rfl | (dsimp only; omega)) dX6_becomeTrue_3 (fun v h_3 n_3 p_3 => ?_)
  obtain ⟨rfl, rfl, p1, p2⟩ := p_3
  try dsimp only [Option.toList, List.cons_append, List.nil_append]
  refine o_vret hC hB dX6_becomeTrue_6 (Nat.le_of_ble_eq_true rfl) (Nat.le_of_ble_eq_true rfl) ?_
  exact ⟨rfl, rfl, p1, p2⟩

set_option maxHeartbeats 4000000 in
set_option maxRecDepth 100000 in
theorem ct_X6_holdsWith (l : Launch) (D : va_G) (ids : Nat → ClassId) (H0 : Heap) (h : rl_H) (n : Nat) (w k : Nat) (f g : Nat → Int64) (x : Int64) (hw : ws_at ids h w f g k) : rl_Met l (rl_e D ids H0) rl_BW rl_Ns yX6_holdsWith cX6_holdsWith 3 (some .boolean) ({ frames := 1, cells := 0, slots := 0, locals := 23 }) [.ref w, .long x] h n (fun v h' n' => v = some (.int (if tm_first f g x k 0 = -1 then nI 0 else nI 1)) ∧ h' = h ∧ n' = n) := by
  refine rl_Met.of (by decide +kernel) (Nat.le_of_ble_eq_true rfl) ?_
  intro X hC hB
  show rl_G X (rl_e D ids H0) 0 [some (.ref w), some (.long x), none] [] h n 0 0
  refine o_aload_n hC dX6_holdsWith_0 (by rfl) ?_
  refine o_lload_n hC dX6_holdsWith_1 (by rfl) ?_
  refine o_callV1 hC rl_BW_good rl_Ns_nw (by exact hB.2.2.2.2.2) YX6_firstThatHolds IX6_firstThatHolds VX6_firstThatHolds (mX6_28 hC) (by rw [hB.1]; exact ct_X6_firstThatHolds l D ids H0 h n w k f g x hw) (by exact hw.1) rfl rfl (Nat.le_of_ble_eq_true rfl) (by rw [hB.2.1]; first | exact Nat.le_of_ble_eq_true rfl | (dsimp only; omega)) (by rw [hB.2.1]; first | exact Nat.le_of_ble_eq_true rfl | (dsimp only; omega)) (by rw [hB.2.1]; first | exact Nat.le_of_ble_eq_true rfl | (dsimp only; omega)) (by rw [hB.2.1]; first | exact Nat.le_of_ble_eq_true rfl | (dsimp only; omega)) dX6_holdsWith_2 (fun v h_2 n_2 p_2 => ?_)
  obtain ⟨rfl, rfl, rfl⟩ := p_2
  try dsimp only [Option.toList, List.cons_append, List.nil_append]
  refine o_iconst (v := (-1 : Int32)) hC dX6_holdsWith_5 (by decide +kernel) ?_
  refine o_icmp_eq (tgt := 13) hC dX6_holdsWith_6 (by decide) (fun c_6 => ?_) (fun c_6 => ?_)
  · refine o_iconst (v := nI 0) hC dX6_holdsWith_13 (by decide +kernel) ?_
    refine o_zret hC hB dX6_holdsWith_14 (by first | rfl | decide +kernel) (Nat.le_of_ble_eq_true rfl) (Nat.le_of_ble_eq_true rfl) ?_
    refine ⟨?_, rfl, rfl⟩
    first | rw [if_pos c_6] | rw [if_neg c_6]
  · refine o_iconst (v := nI 1) hC dX6_holdsWith_9 (by decide +kernel) ?_
    refine o_goto (tgt := 14) hC dX6_holdsWith_10 (by decide) ?_
    refine o_zret hC hB dX6_holdsWith_14 (by first | rfl | decide +kernel) (Nat.le_of_ble_eq_true rfl) (Nat.le_of_ble_eq_true rfl) ?_
    refine ⟨?_, rfl, rfl⟩
    first | rw [if_pos c_6] | rw [if_neg c_6]

set_option maxHeartbeats 4000000 in
set_option maxRecDepth 100000 in
theorem ct_X6_rowsOfTerms (l : Launch) (D : va_G) (ids : Nat → ClassId) (H0 : Heap) (h : rl_H) (n : Nat) (w k : Nat) (f g : Nat → Int64) (hw : ws_at ids h w f g k) : rl_Met l (rl_e D ids H0) rl_BW rl_Ns yX6_rowsOfTerms cX6_rowsOfTerms 4 (some .long) ({ frames := 0, cells := 0, slots := 0, locals := 0 }) [.ref w] h n (fun v h' n' => v = some (.long (tm_rows f g k 0 0)) ∧ h' = h ∧ n' = n) := by
  obtain ⟨h1, h2, h3, hk⟩ := hw
  refine rl_Met.of (by decide +kernel) (Nat.le_of_ble_eq_true rfl) ?_
  intro X hC hB
  have loop : ∀ (m j : Nat) (a : Int64), j + m = k → tm_rows f g k 0 0 = tm_rows f g m j a → rl_G X (rl_e D ids H0) 4 [some (.ref w), some (.long a), none, some (.int (nI j))] [] h n 0 0 := by
    intro m
    induction m with
    | zero =>
      intro j a hj hs
      refine o_iload_n hC dX6_rowsOfTerms_4 (by rfl) ?_
      refine o_aload_n hC dX6_rowsOfTerms_5 (by rfl) ?_
      refine o_getf hC (fX6_18 hC rfl) dX6_rowsOfTerms_6 (by repeat (first | with_reducible assumption | (rw [rl_u_s]; done) | (rw [rl_u_s]; rfl) | rw [rl_u_n (by first | with_reducible assumption | omega)])) (by first | rfl | with_reducible assumption) ?_
      refine o_icmp_ge (tgt := 34) hC dX6_rowsOfTerms_9 (by decide) (fun c_9 => ?_) (fun c_9 => ?_)
      · refine o_lload_n hC dX6_rowsOfTerms_34 (by rfl) ?_
        refine o_lret hC hB dX6_rowsOfTerms_35 (Nat.le_of_ble_eq_true rfl) (Nat.le_of_ble_eq_true rfl) ?_
        exact ⟨by rw [hs]; rfl, rfl, rfl⟩
      · exact absurd (nI_le (by omega) (by omega)) c_9
    | succ m ih =>
      intro j a hj hs
      refine o_iload_n hC dX6_rowsOfTerms_4 (by rfl) ?_
      refine o_aload_n hC dX6_rowsOfTerms_5 (by rfl) ?_
      refine o_getf hC (fX6_18 hC rfl) dX6_rowsOfTerms_6 (by repeat (first | with_reducible assumption | (rw [rl_u_s]; done) | (rw [rl_u_s]; rfl) | rw [rl_u_n (by first | with_reducible assumption | omega)])) (by first | rfl | with_reducible assumption) ?_
      refine o_icmp_ge (tgt := 34) hC dX6_rowsOfTerms_9 (by decide) (fun c_9 => ?_) (fun c_9 => ?_)
      · exact absurd c_9 (nI_ge (by omega) (by omega))
      · refine o_lload_n hC dX6_rowsOfTerms_12 (by rfl) ?_
        refine o_aload_n hC dX6_rowsOfTerms_13 (by rfl) ?_
        refine o_getf hC (fX6_9 hC rfl) dX6_rowsOfTerms_14 (by repeat (first | with_reducible assumption | (rw [rl_u_s]; done) | (rw [rl_u_s]; rfl) | rw [rl_u_n (by first | with_reducible assumption | omega)])) (by first | rfl | with_reducible assumption) ?_
        refine o_iload_n hC dX6_rowsOfTerms_17 (by rfl) ?_
        refine o_laldN (t0 := 1) hC rfl dX6_rowsOfTerms_18 (by repeat (first | with_reducible assumption | (rw [rl_u_s]; done) | (rw [rl_u_s]; rfl) | rw [rl_u_n (by first | with_reducible assumption | omega)])) (by omega) (by decide) ?_
        refine o_aload_n hC dX6_rowsOfTerms_19 (by rfl) ?_
        refine o_getf hC (fX6_15 hC rfl) dX6_rowsOfTerms_20 (by repeat (first | with_reducible assumption | (rw [rl_u_s]; done) | (rw [rl_u_s]; rfl) | rw [rl_u_n (by first | with_reducible assumption | omega)])) (by first | rfl | with_reducible assumption) ?_
        refine o_iload_n hC dX6_rowsOfTerms_23 (by rfl) ?_
        refine o_laldN (t0 := 1) hC rfl dX6_rowsOfTerms_24 (by repeat (first | with_reducible assumption | (rw [rl_u_s]; done) | (rw [rl_u_s]; rfl) | rw [rl_u_n (by first | with_reducible assumption | omega)])) (by omega) (by decide) ?_
        refine o_lor hC dX6_rowsOfTerms_25 ?_
        refine o_lor hC dX6_rowsOfTerms_26 ?_
        refine o_lstore_n hC dX6_rowsOfTerms_27 (Nat.le_of_ble_eq_true rfl) ?_
        refine o_iinc hC dX6_rowsOfTerms_28 (by rfl) (rl_inc _) (Nat.le_of_ble_eq_true rfl) ?_
        refine o_goto (tgt := 4) hC dX6_rowsOfTerms_31 (by decide) ?_
        exact ih (j + 1) _ (by omega) hs
  show rl_G X (rl_e D ids H0) 0 [some (.ref w), none, none, none] [] h n 0 0
  refine o_lconst (v := 0) hC dX6_rowsOfTerms_0 (by decide +kernel) ?_
  refine o_lstore_n hC dX6_rowsOfTerms_1 (Nat.le_of_ble_eq_true rfl) ?_
  refine o_iconst (v := nI 0) hC dX6_rowsOfTerms_2 (by decide +kernel) ?_
  refine o_istore_n hC dX6_rowsOfTerms_3 (Nat.le_of_ble_eq_true rfl) ?_
  exact loop k 0 0 (by omega) rfl

set_option maxHeartbeats 4000000 in
set_option maxRecDepth 100000 in
theorem ct_X6_insert (l : Launch) (D : va_G) (ids : Nat → ClassId) (H0 : Heap) (h : rl_H) (n : Nat) (w k : Nat) (f g : Nat → Int64) (a b : Int64) (hw : ws_at ids h w f g k) : rl_Met l (rl_e D ids H0) rl_BW rl_Ns yX6_insert cX6_insert 6 none ({ frames := 0, cells := 0, slots := 0, locals := 0 }) [.ref w, .long a, .long b] h n (fun v h' n' => v = none ∧ n' = n ∧ ((k < 12 ∧ ws_at ids h' w (tm_ins a b k f g).1 (tm_ins a b k f g).2 (k + 1) ∧ rl_fr h h' w (w + 3)) ∨ (12 ≤ k ∧ h' = h))) := by
  obtain ⟨h1, h2, h3, hk⟩ := hw
  refine rl_Met.of (by decide +kernel) (Nat.le_of_ble_eq_true rfl) ?_
  intro X hC hB
  have fin : ∀ (t : Nat) (h' : rl_H) (F G : Nat → Int64), t ≤ k → k < 12 → h' w = some (.inr (6, [.ref (w + 1), .ref (w + 2), .int (nI k)])) ∧ h' (w + 1) = some (.inl (ids 1, 12, .inr (.inl F))) ∧ h' (w + 2) = some (.inl (ids 1, 12, .inr (.inl G))) → rl_fr h h' w (w + 3) → tm_ins a b k f g = (vp_updL F t a, vp_updL G t b) → rl_G X (rl_e D ids H0) 101 [some (.ref w), some (.long a), none, some (.long b), none, some (.int (nI t))] [] h' n 0 0 := by
    intro t h' F G ht hk2 hws hfr hs
    obtain ⟨g1, g2, g3⟩ := hws
    refine o_aload_n hC dX6_insert_101 (by rfl) ?_
    refine o_getf hC (fX6_9 hC rfl) dX6_insert_102 (by repeat (first | with_reducible assumption | (rw [rl_u_s]; done) | (rw [rl_u_s]; rfl) | rw [rl_u_n (by first | with_reducible assumption | omega)])) (by first | rfl | with_reducible assumption) ?_
    refine o_iload hC dX6_insert_105 (by rfl) ?_
    refine o_lload_n hC dX6_insert_107 (by rfl) ?_
    refine o_lastN (t0 := 1) hC rfl dX6_insert_108 (by repeat (first | with_reducible assumption | (rw [rl_u_s]; done) | (rw [rl_u_s]; rfl) | rw [rl_u_n (by first | with_reducible assumption | omega)])) (by omega) (by decide) ?_
    refine o_aload_n hC dX6_insert_109 (by rfl) ?_
    refine o_getf hC (fX6_15 hC rfl) dX6_insert_110 (by repeat (first | with_reducible assumption | (rw [rl_u_s]; done) | (rw [rl_u_s]; rfl) | rw [rl_u_n (by first | with_reducible assumption | omega)])) (by first | rfl | with_reducible assumption) ?_
    refine o_iload hC dX6_insert_113 (by rfl) ?_
    refine o_lload_n hC dX6_insert_115 (by rfl) ?_
    refine o_lastN (t0 := 1) hC rfl dX6_insert_116 (by repeat (first | with_reducible assumption | (rw [rl_u_s]; done) | (rw [rl_u_s]; rfl) | rw [rl_u_n (by first | with_reducible assumption | omega)])) (by omega) (by decide) ?_
    refine o_aload_n hC dX6_insert_117 (by rfl) ?_
    refine o_dup hC dX6_insert_118 rfl ?_
    refine o_getf hC (fX6_18 hC rfl) dX6_insert_119 (by repeat (first | with_reducible assumption | (rw [rl_u_s]; done) | (rw [rl_u_s]; rfl) | rw [rl_u_n (by first | with_reducible assumption | omega)])) (by first | rfl | with_reducible assumption) ?_
    refine o_iconst (v := nI 1) hC dX6_insert_122 (by decide +kernel) ?_
    refine o_iadd hC dX6_insert_123 ?_
    rw [nI_add k 1]
    refine o_putf hC (fX6_18 hC rfl) (fwX6 rfl rfl rfl (Or.inl rfl)) dX6_insert_124 (by repeat (first | with_reducible assumption | (rw [rl_u_s]; done) | (rw [rl_u_s]; rfl) | rw [rl_u_n (by first | with_reducible assumption | omega)])) (Nat.le_of_ble_eq_true rfl) ?_
    try simp only [List.set_cons_zero, List.set_cons_succ]
    refine o_vret hC hB dX6_insert_127 (Nat.le_of_ble_eq_true rfl) (Nat.le_of_ble_eq_true rfl) ?_
    refine ⟨rfl, rfl, Or.inl ⟨hk2, ⟨by repeat (first | with_reducible assumption | (rw [rl_u_s]; done) | (rw [rl_u_s]; rfl) | rw [rl_u_n (by first | with_reducible assumption | omega)]), ?_, ?_, by omega⟩, ?_⟩⟩
    · rw [hs]
      repeat (first | with_reducible assumption | (rw [rl_u_s]; done) | (rw [rl_u_s]; rfl) | rw [rl_u_n (by first | with_reducible assumption | omega)])
    · rw [hs]
      repeat (first | with_reducible assumption | (rw [rl_u_s]; done) | (rw [rl_u_s]; rfl) | rw [rl_u_n (by first | with_reducible assumption | omega)])
    · intro q hq
      repeat (first | exact hfr q hq | rw [rl_u_n (by omega)])
  have loop : ∀ (t : Nat) (h' : rl_H) (F G : Nat → Int64), t ≤ k → k < 12 → h' w = some (.inr (6, [.ref (w + 1), .ref (w + 2), .int (nI k)])) ∧ h' (w + 1) = some (.inl (ids 1, 12, .inr (.inl F))) ∧ h' (w + 2) = some (.inl (ids 1, 12, .inr (.inl G))) → rl_fr h h' w (w + 3) → tm_ins a b k f g = tm_ins a b t F G → rl_G X (rl_e D ids H0) 16 [some (.ref w), some (.long a), none, some (.long b), none, some (.int (nI t))] [] h' n 0 0 := by
    intro t
    induction t with
    | zero =>
      intro h' F G ht hk2 hws hfr hs
      refine o_iload hC dX6_insert_16 (by rfl) ?_
      refine o_if_le (tgt := 101) hC dX6_insert_18 (by decide) (fun c_18 => ?_) (fun c_18 => ?_)
      · exact fin 0 h' F G ht hk2 hws hfr hs
      · exact absurd (nI_le (Nat.le_refl 0) (by omega)) c_18
    | succ t ih =>
      intro h' F G ht hk2 hws hfr hs
      obtain ⟨g1, g2, g3⟩ := id hws
      refine o_iload hC dX6_insert_16 (by rfl) ?_
      refine o_if_le (tgt := 101) hC dX6_insert_18 (by decide) (fun c_18 => absurd c_18 (nI_nle (by omega) (by omega))) (fun c_18 => ?_)
      refine o_aload_n hC dX6_insert_21 (by rfl) ?_
      refine o_getf hC (fX6_9 hC rfl) dX6_insert_22 (by repeat (first | with_reducible assumption | (rw [rl_u_s]; done) | (rw [rl_u_s]; rfl) | rw [rl_u_n (by first | with_reducible assumption | omega)])) (by first | rfl | with_reducible assumption) ?_
      refine o_iload hC dX6_insert_25 (by rfl) ?_
      refine o_iconst (v := nI 1) hC dX6_insert_27 (by decide +kernel) ?_
      refine o_isub hC dX6_insert_28 ?_
      rw [pk_sub (show 1 ≤ t + 1 by omega), Nat.add_sub_cancel]
      refine o_laldN (t0 := 1) hC rfl dX6_insert_29 (by repeat (first | with_reducible assumption | (rw [rl_u_s]; done) | (rw [rl_u_s]; rfl) | rw [rl_u_n (by first | with_reducible assumption | omega)])) (by omega) (by decide) ?_
      refine o_lload_n hC dX6_insert_30 (by rfl) ?_
      refine o_lcmp hC dX6_insert_31 ?_
      refine o_if_gt (tgt := 63) hC dX6_insert_32 (by decide) (fun c_32 => ?_) (fun c_32 => ?_)
      · refine o_aload_n hC dX6_insert_63 (by rfl) ?_
        refine o_getf hC (fX6_9 hC rfl) dX6_insert_64 (by repeat (first | with_reducible assumption | (rw [rl_u_s]; done) | (rw [rl_u_s]; rfl) | rw [rl_u_n (by first | with_reducible assumption | omega)])) (by first | rfl | with_reducible assumption) ?_
        refine o_iload hC dX6_insert_67 (by rfl) ?_
        refine o_aload_n hC dX6_insert_69 (by rfl) ?_
        refine o_getf hC (fX6_9 hC rfl) dX6_insert_70 (by repeat (first | with_reducible assumption | (rw [rl_u_s]; done) | (rw [rl_u_s]; rfl) | rw [rl_u_n (by first | with_reducible assumption | omega)])) (by first | rfl | with_reducible assumption) ?_
        refine o_iload hC dX6_insert_73 (by rfl) ?_
        refine o_iconst (v := nI 1) hC dX6_insert_75 (by decide +kernel) ?_
        refine o_isub hC dX6_insert_76 ?_
        rw [pk_sub (show 1 ≤ t + 1 by omega), Nat.add_sub_cancel]
        refine o_laldN (t0 := 1) hC rfl dX6_insert_77 (by repeat (first | with_reducible assumption | (rw [rl_u_s]; done) | (rw [rl_u_s]; rfl) | rw [rl_u_n (by first | with_reducible assumption | omega)])) (by omega) (by decide) ?_
        refine o_lastN (t0 := 1) hC rfl dX6_insert_78 (by repeat (first | with_reducible assumption | (rw [rl_u_s]; done) | (rw [rl_u_s]; rfl) | rw [rl_u_n (by first | with_reducible assumption | omega)])) (by omega) (by decide) ?_
        refine o_aload_n hC dX6_insert_79 (by rfl) ?_
        refine o_getf hC (fX6_15 hC rfl) dX6_insert_80 (by repeat (first | with_reducible assumption | (rw [rl_u_s]; done) | (rw [rl_u_s]; rfl) | rw [rl_u_n (by first | with_reducible assumption | omega)])) (by first | rfl | with_reducible assumption) ?_
        refine o_iload hC dX6_insert_83 (by rfl) ?_
        refine o_aload_n hC dX6_insert_85 (by rfl) ?_
        refine o_getf hC (fX6_15 hC rfl) dX6_insert_86 (by repeat (first | with_reducible assumption | (rw [rl_u_s]; done) | (rw [rl_u_s]; rfl) | rw [rl_u_n (by first | with_reducible assumption | omega)])) (by first | rfl | with_reducible assumption) ?_
        refine o_iload hC dX6_insert_89 (by rfl) ?_
        refine o_iconst (v := nI 1) hC dX6_insert_91 (by decide +kernel) ?_
        refine o_isub hC dX6_insert_92 ?_
        rw [pk_sub (show 1 ≤ t + 1 by omega), Nat.add_sub_cancel]
        refine o_laldN (t0 := 1) hC rfl dX6_insert_93 (by repeat (first | with_reducible assumption | (rw [rl_u_s]; done) | (rw [rl_u_s]; rfl) | rw [rl_u_n (by first | with_reducible assumption | omega)])) (by omega) (by decide) ?_
        refine o_lastN (t0 := 1) hC rfl dX6_insert_94 (by repeat (first | with_reducible assumption | (rw [rl_u_s]; done) | (rw [rl_u_s]; rfl) | rw [rl_u_n (by first | with_reducible assumption | omega)])) (by omega) (by decide) ?_
        refine o_iinc hC dX6_insert_95 (by rfl) (rl_dec _) (Nat.le_of_ble_eq_true rfl) ?_
        refine o_goto (tgt := 16) hC dX6_insert_98 (by decide) ?_
        exact ih _ _ _ (by omega) hk2 ⟨by repeat (first | with_reducible assumption | (rw [rl_u_s]; done) | (rw [rl_u_s]; rfl) | rw [rl_u_n (by first | with_reducible assumption | omega)]), by repeat (first | with_reducible assumption | (rw [rl_u_s]; done) | (rw [rl_u_s]; rfl) | rw [rl_u_n (by first | with_reducible assumption | omega)]), by repeat (first | with_reducible assumption | (rw [rl_u_s]; done) | (rw [rl_u_s]; rfl) | rw [rl_u_n (by first | with_reducible assumption | omega)])⟩ (fun q hq => by rw [rl_u_n (by omega), rl_u_n (by omega)]; exact hfr q hq) (by rw [hs, tm_ins, if_pos]; first | exact Or.inl ((lg_cmp_gt _ _).mp c_32) | exact Or.inr ⟨(lg_cmp_eq _ _).mp c_46, Int64.not_le.mp (fun q => c_60 ((lg_cmp_le _ _).mpr q))⟩)
      · refine o_aload_n hC dX6_insert_35 (by rfl) ?_
        refine o_getf hC (fX6_9 hC rfl) dX6_insert_36 (by repeat (first | with_reducible assumption | (rw [rl_u_s]; done) | (rw [rl_u_s]; rfl) | rw [rl_u_n (by first | with_reducible assumption | omega)])) (by first | rfl | with_reducible assumption) ?_
        refine o_iload hC dX6_insert_39 (by rfl) ?_
        refine o_iconst (v := nI 1) hC dX6_insert_41 (by decide +kernel) ?_
        refine o_isub hC dX6_insert_42 ?_
        rw [pk_sub (show 1 ≤ t + 1 by omega), Nat.add_sub_cancel]
        refine o_laldN (t0 := 1) hC rfl dX6_insert_43 (by repeat (first | with_reducible assumption | (rw [rl_u_s]; done) | (rw [rl_u_s]; rfl) | rw [rl_u_n (by first | with_reducible assumption | omega)])) (by omega) (by decide) ?_
        refine o_lload_n hC dX6_insert_44 (by rfl) ?_
        refine o_lcmp hC dX6_insert_45 ?_
        refine o_if_ne (tgt := 101) hC dX6_insert_46 (by decide) (fun c_46 => ?_) (fun c_46 => ?_)
        · exact fin (t + 1) h' F G ht hk2 hws hfr (by rw [hs, tm_ins, if_neg]; exact fun q => by first | exact q.elim (fun q => c_32 ((lg_cmp_gt _ _).mpr q)) (fun q => c_46 ((lg_cmp_eq _ _).mpr q.1)) | exact q.elim (fun q => c_32 ((lg_cmp_gt _ _).mpr q)) (fun q => absurd ((lg_cmp_le _ _).mp c_60) (Int64.not_le.mpr q.2)))
        · refine o_aload_n hC dX6_insert_49 (by rfl) ?_
          refine o_getf hC (fX6_15 hC rfl) dX6_insert_50 (by repeat (first | with_reducible assumption | (rw [rl_u_s]; done) | (rw [rl_u_s]; rfl) | rw [rl_u_n (by first | with_reducible assumption | omega)])) (by first | rfl | with_reducible assumption) ?_
          refine o_iload hC dX6_insert_53 (by rfl) ?_
          refine o_iconst (v := nI 1) hC dX6_insert_55 (by decide +kernel) ?_
          refine o_isub hC dX6_insert_56 ?_
          rw [pk_sub (show 1 ≤ t + 1 by omega), Nat.add_sub_cancel]
          refine o_laldN (t0 := 1) hC rfl dX6_insert_57 (by repeat (first | with_reducible assumption | (rw [rl_u_s]; done) | (rw [rl_u_s]; rfl) | rw [rl_u_n (by first | with_reducible assumption | omega)])) (by omega) (by decide) ?_
          refine o_lload_n hC dX6_insert_58 (by rfl) ?_
          refine o_lcmp hC dX6_insert_59 ?_
          refine o_if_le (tgt := 101) hC dX6_insert_60 (by decide) (fun c_60 => ?_) (fun c_60 => ?_)
          · exact fin (t + 1) h' F G ht hk2 hws hfr (by rw [hs, tm_ins, if_neg]; exact fun q => by first | exact q.elim (fun q => c_32 ((lg_cmp_gt _ _).mpr q)) (fun q => c_46 ((lg_cmp_eq _ _).mpr q.1)) | exact q.elim (fun q => c_32 ((lg_cmp_gt _ _).mpr q)) (fun q => absurd ((lg_cmp_le _ _).mp c_60) (Int64.not_le.mpr q.2)))
          · refine o_aload_n hC dX6_insert_63 (by rfl) ?_
            refine o_getf hC (fX6_9 hC rfl) dX6_insert_64 (by repeat (first | with_reducible assumption | (rw [rl_u_s]; done) | (rw [rl_u_s]; rfl) | rw [rl_u_n (by first | with_reducible assumption | omega)])) (by first | rfl | with_reducible assumption) ?_
            refine o_iload hC dX6_insert_67 (by rfl) ?_
            refine o_aload_n hC dX6_insert_69 (by rfl) ?_
            refine o_getf hC (fX6_9 hC rfl) dX6_insert_70 (by repeat (first | with_reducible assumption | (rw [rl_u_s]; done) | (rw [rl_u_s]; rfl) | rw [rl_u_n (by first | with_reducible assumption | omega)])) (by first | rfl | with_reducible assumption) ?_
            refine o_iload hC dX6_insert_73 (by rfl) ?_
            refine o_iconst (v := nI 1) hC dX6_insert_75 (by decide +kernel) ?_
            refine o_isub hC dX6_insert_76 ?_
            rw [pk_sub (show 1 ≤ t + 1 by omega), Nat.add_sub_cancel]
            refine o_laldN (t0 := 1) hC rfl dX6_insert_77 (by repeat (first | with_reducible assumption | (rw [rl_u_s]; done) | (rw [rl_u_s]; rfl) | rw [rl_u_n (by first | with_reducible assumption | omega)])) (by omega) (by decide) ?_
            refine o_lastN (t0 := 1) hC rfl dX6_insert_78 (by repeat (first | with_reducible assumption | (rw [rl_u_s]; done) | (rw [rl_u_s]; rfl) | rw [rl_u_n (by first | with_reducible assumption | omega)])) (by omega) (by decide) ?_
            refine o_aload_n hC dX6_insert_79 (by rfl) ?_
            refine o_getf hC (fX6_15 hC rfl) dX6_insert_80 (by repeat (first | with_reducible assumption | (rw [rl_u_s]; done) | (rw [rl_u_s]; rfl) | rw [rl_u_n (by first | with_reducible assumption | omega)])) (by first | rfl | with_reducible assumption) ?_
            refine o_iload hC dX6_insert_83 (by rfl) ?_
            refine o_aload_n hC dX6_insert_85 (by rfl) ?_
            refine o_getf hC (fX6_15 hC rfl) dX6_insert_86 (by repeat (first | with_reducible assumption | (rw [rl_u_s]; done) | (rw [rl_u_s]; rfl) | rw [rl_u_n (by first | with_reducible assumption | omega)])) (by first | rfl | with_reducible assumption) ?_
            refine o_iload hC dX6_insert_89 (by rfl) ?_
            refine o_iconst (v := nI 1) hC dX6_insert_91 (by decide +kernel) ?_
            refine o_isub hC dX6_insert_92 ?_
            rw [pk_sub (show 1 ≤ t + 1 by omega), Nat.add_sub_cancel]
            refine o_laldN (t0 := 1) hC rfl dX6_insert_93 (by repeat (first | with_reducible assumption | (rw [rl_u_s]; done) | (rw [rl_u_s]; rfl) | rw [rl_u_n (by first | with_reducible assumption | omega)])) (by omega) (by decide) ?_
            refine o_lastN (t0 := 1) hC rfl dX6_insert_94 (by repeat (first | with_reducible assumption | (rw [rl_u_s]; done) | (rw [rl_u_s]; rfl) | rw [rl_u_n (by first | with_reducible assumption | omega)])) (by omega) (by decide) ?_
            refine o_iinc hC dX6_insert_95 (by rfl) (rl_dec _) (Nat.le_of_ble_eq_true rfl) ?_
            refine o_goto (tgt := 16) hC dX6_insert_98 (by decide) ?_
            exact ih _ _ _ (by omega) hk2 ⟨by repeat (first | with_reducible assumption | (rw [rl_u_s]; done) | (rw [rl_u_s]; rfl) | rw [rl_u_n (by first | with_reducible assumption | omega)]), by repeat (first | with_reducible assumption | (rw [rl_u_s]; done) | (rw [rl_u_s]; rfl) | rw [rl_u_n (by first | with_reducible assumption | omega)]), by repeat (first | with_reducible assumption | (rw [rl_u_s]; done) | (rw [rl_u_s]; rfl) | rw [rl_u_n (by first | with_reducible assumption | omega)])⟩ (fun q hq => by rw [rl_u_n (by omega), rl_u_n (by omega)]; exact hfr q hq) (by rw [hs, tm_ins, if_pos]; first | exact Or.inl ((lg_cmp_gt _ _).mp c_32) | exact Or.inr ⟨(lg_cmp_eq _ _).mp c_46, Int64.not_le.mp (fun q => c_60 ((lg_cmp_le _ _).mpr q))⟩)
  show rl_G X (rl_e D ids H0) 0 [some (.ref w), some (.long a), none, some (.long b), none, none] [] h n 0 0
  refine o_aload_n hC dX6_insert_0 (by rfl) ?_
  refine o_getf hC (fX6_18 hC rfl) dX6_insert_1 (by repeat (first | with_reducible assumption | (rw [rl_u_s]; done) | (rw [rl_u_s]; rfl) | rw [rl_u_n (by first | with_reducible assumption | omega)])) (by first | rfl | with_reducible assumption) ?_
  refine o_bipush (v := nI 12) hC dX6_insert_4 (by decide +kernel) ?_
  refine o_icmp_lt (tgt := 10) hC dX6_insert_6 (by decide) (fun c_6 => ?_) (fun c_6 => ?_)
  · refine o_aload_n hC dX6_insert_10 (by rfl) ?_
    refine o_getf hC (fX6_18 hC rfl) dX6_insert_11 (by repeat (first | with_reducible assumption | (rw [rl_u_s]; done) | (rw [rl_u_s]; rfl) | rw [rl_u_n (by first | with_reducible assumption | omega)])) (by first | rfl | with_reducible assumption) ?_
    refine o_istore hC dX6_insert_14 (Nat.le_of_ble_eq_true rfl) ?_
    exact loop k h f g (Nat.le_refl k) (by rcases Nat.lt_or_ge k 12 with q | q; exact q; exact absurd c_6 (nI_nlt q (by omega))) ⟨h1, h2, h3⟩ rl_fr.rf rfl
  · refine o_vret hC hB dX6_insert_9 (Nat.le_of_ble_eq_true rfl) (Nat.le_of_ble_eq_true rfl) ?_
    exact ⟨rfl, rfl, Or.inr ⟨by rcases Nat.lt_or_ge k 12 with q | q; exact absurd (nI_lt q (by omega)) c_6; exact q, rfl⟩⟩
end
section
/-! Long.bitCount, Integer.bitCount, Math.min, Math.max -/
def jd_sr (x : Int64) (k : Int32) : Int64 := (x.toUInt64 >>> (k.toInt64.toUInt64 &&& Int64.toUInt64 63)).toInt64
def jd_1 (x : Int64) : Int64 := x - (jd_sr x (nI 1) &&& 6148914691236517205)
def jd_2 (x : Int64) : Int64 := (x &&& 3689348814741910323) + (jd_sr x (nI 2) &&& 3689348814741910323)
def jd_3 (x : Int64) : Int64 := (x + jd_sr x (nI 4)) &&& 1085102592571150095
def jd_4 (x : Int64) : Int64 := x + jd_sr x (nI 8)
def jd_5 (x : Int64) : Int64 := x + jd_sr x (nI 16)
def jd_6 (x : Int64) : Int64 := x + jd_sr x (nI 32)
def jd_bcL (x : Int64) : Int32 := (jd_6 (jd_5 (jd_4 (jd_3 (jd_2 (jd_1 x)))))).toInt32 &&& nI 127
def jd_sh (x : Int32) (k : Int32) : Int32 := (x.toUInt32 >>> (k.toUInt32 &&& Int32.toUInt32 31)).toInt32
def jd_i1 (x : Int32) : Int32 := x - (jd_sh x (nI 1) &&& 1431655765)
def jd_i2 (x : Int32) : Int32 := (x &&& 858993459) + (jd_sh x (nI 2) &&& 858993459)
def jd_i3 (x : Int32) : Int32 := (x + jd_sh x (nI 4)) &&& 252645135
def jd_i4 (x : Int32) : Int32 := x + jd_sh x (nI 8)
def jd_i5 (x : Int32) : Int32 := x + jd_sh x (nI 16)
def jd_bcI (x : Int32) : Int32 := jd_i5 (jd_i4 (jd_i3 (jd_i2 (jd_i1 x)))) &&& nI 63

set_option maxHeartbeats 4000000 in
set_option maxRecDepth 100000 in
theorem ct_J13_bitCount_95d88 (l : Launch) (D : va_G) (ids : Nat → ClassId) (H0 : Heap) (h : rl_H) (n : Nat) (x : Int64)  : rl_Met l (rl_e D ids H0) rl_BW rl_Ns yJ13_bitCount_95d88 cJ13_bitCount_95d88 2 (some .int) ({ frames := 0, cells := 0, slots := 0, locals := 0 }) [.long x] h n (fun v h' n' => v = some (.int (jd_bcL x)) ∧ h' = h ∧ n' = n) := by
  refine rl_Met.of (by decide +kernel) (Nat.le_of_ble_eq_true rfl) ?_
  intro X hC hB
  show rl_G X (rl_e D ids H0) 0 [some (.long x), none] [] h n 0 0
  refine o_lload_n hC dJ13_bitCount_95d88_0 (by rfl) ?_
  refine o_lload_n hC dJ13_bitCount_95d88_1 (by rfl) ?_
  refine o_iconst (v := nI 1) hC dJ13_bitCount_95d88_2 (by decide +kernel) ?_
  refine o_lushr hC dJ13_bitCount_95d88_3 ?_
  refine o_ldc2 hC nJ13_314 dJ13_bitCount_95d88_4 ?_
  refine o_land hC dJ13_bitCount_95d88_7 ?_
  refine o_lsub hC dJ13_bitCount_95d88_8 ?_
  refine o_lstore_n hC dJ13_bitCount_95d88_9 (Nat.le_of_ble_eq_true rfl) ?_
  refine o_lload_n hC dJ13_bitCount_95d88_10 (by rfl) ?_
  refine o_ldc2 hC nJ13_316 dJ13_bitCount_95d88_11 ?_
  refine o_land hC dJ13_bitCount_95d88_14 ?_
  refine o_lload_n hC dJ13_bitCount_95d88_15 (by rfl) ?_
  refine o_iconst (v := nI 2) hC dJ13_bitCount_95d88_16 (by decide +kernel) ?_
  refine o_lushr hC dJ13_bitCount_95d88_17 ?_
  refine o_ldc2 hC nJ13_316 dJ13_bitCount_95d88_18 ?_
  refine o_land hC dJ13_bitCount_95d88_21 ?_
  refine o_ladd hC dJ13_bitCount_95d88_22 ?_
  refine o_lstore_n hC dJ13_bitCount_95d88_23 (Nat.le_of_ble_eq_true rfl) ?_
  refine o_lload_n hC dJ13_bitCount_95d88_24 (by rfl) ?_
  refine o_lload_n hC dJ13_bitCount_95d88_25 (by rfl) ?_
  refine o_iconst (v := nI 4) hC dJ13_bitCount_95d88_26 (by decide +kernel) ?_
  refine o_lushr hC dJ13_bitCount_95d88_27 ?_
  refine o_ladd hC dJ13_bitCount_95d88_28 ?_
  refine o_ldc2 hC nJ13_318 dJ13_bitCount_95d88_29 ?_
  refine o_land hC dJ13_bitCount_95d88_32 ?_
  refine o_lstore_n hC dJ13_bitCount_95d88_33 (Nat.le_of_ble_eq_true rfl) ?_
  refine o_lload_n hC dJ13_bitCount_95d88_34 (by rfl) ?_
  refine o_lload_n hC dJ13_bitCount_95d88_35 (by rfl) ?_
  refine o_bipush (v := nI 8) hC dJ13_bitCount_95d88_36 (by decide +kernel) ?_
  refine o_lushr hC dJ13_bitCount_95d88_38 ?_
  refine o_ladd hC dJ13_bitCount_95d88_39 ?_
  refine o_lstore_n hC dJ13_bitCount_95d88_40 (Nat.le_of_ble_eq_true rfl) ?_
  refine o_lload_n hC dJ13_bitCount_95d88_41 (by rfl) ?_
  refine o_lload_n hC dJ13_bitCount_95d88_42 (by rfl) ?_
  refine o_bipush (v := nI 16) hC dJ13_bitCount_95d88_43 (by decide +kernel) ?_
  refine o_lushr hC dJ13_bitCount_95d88_45 ?_
  refine o_ladd hC dJ13_bitCount_95d88_46 ?_
  refine o_lstore_n hC dJ13_bitCount_95d88_47 (Nat.le_of_ble_eq_true rfl) ?_
  refine o_lload_n hC dJ13_bitCount_95d88_48 (by rfl) ?_
  refine o_lload_n hC dJ13_bitCount_95d88_49 (by rfl) ?_
  refine o_bipush (v := nI 32) hC dJ13_bitCount_95d88_50 (by decide +kernel) ?_
  refine o_lushr hC dJ13_bitCount_95d88_52 ?_
  refine o_ladd hC dJ13_bitCount_95d88_53 ?_
  refine o_lstore_n hC dJ13_bitCount_95d88_54 (Nat.le_of_ble_eq_true rfl) ?_
  refine o_lload_n hC dJ13_bitCount_95d88_55 (by rfl) ?_
  refine o_l2i hC dJ13_bitCount_95d88_56 ?_
  refine o_bipush (v := nI 127) hC dJ13_bitCount_95d88_57 (by decide +kernel) ?_
  refine o_iand hC dJ13_bitCount_95d88_59 ?_
  refine o_iret hC hB dJ13_bitCount_95d88_60 (Nat.le_of_ble_eq_true rfl) (Nat.le_of_ble_eq_true rfl) ?_
  exact ⟨rfl, rfl, rfl⟩

/-! RowLineage$Node, RowLineage$Sources -/
abbrev nd_v (op wd fi se co ot ki nu sta : Int32) : va_E := .inr (1, [.int op, .int wd, .int fi, .int se, .int co, .int ot, .int ki, .int nu, .int sta])

set_option maxHeartbeats 4000000 in
set_option maxRecDepth 100000 in
theorem ct_X1_init (l : Launch) (D : va_G) (ids : Nat → ClassId) (H0 : Heap) (h : rl_H) (n : Nat) (a : Nat)  : rl_Met l (rl_e D ids H0) rl_BW rl_Ns yX1_init cX1_init 1 none ({ frames := 1, cells := 0, slots := 0, locals := 16 }) [.ref a] h n (fun v h' n' => v = none ∧ h' = h ∧ n' = n) := by
  refine rl_Met.of (by decide +kernel) (Nat.le_of_ble_eq_true rfl) ?_
  intro X hC hB
  show rl_G X (rl_e D ids H0) 0 [some (.ref a)] [] h n 0 0
  refine o_aload_n hC dX1_init_0 (by rfl) ?_
  refine o_objInit hC (by exact hB.2.2.2.2.2) mX1_3 w_objI w_objC dX1_init_1 (by rw [hB.2.1]; first | exact Nat.le_of_ble_eq_true rfl | (dsimp only; omega)) (by rw [hB.2.1]; first | exact Nat.le_of_ble_eq_true rfl | (dsimp only; omega)) ?_
  refine o_vret hC hB dX1_init_4 (Nat.le_of_ble_eq_true rfl) (Nat.le_of_ble_eq_true rfl) ?_
  exact ⟨rfl, rfl, rfl⟩

set_option maxHeartbeats 4000000 in
set_option maxRecDepth 100000 in
theorem ct_X1_describe (l : Launch) (D : va_G) (ids : Nat → ClassId) (H0 : Heap) (h : rl_H) (n : Nat) (a : Nat) (op wd fi se co ot ki nu sta : Int32) (o2 w2 f2 s2 : Int32) (h1 : h a = some (nd_v op wd fi se co ot ki nu sta)) : rl_Met l (rl_e D ids H0) rl_BW rl_Ns yX1_describe cX1_describe 5 none ({ frames := 0, cells := 0, slots := 0, locals := 0 }) [.ref a, .int o2, .int w2, .int f2, .int s2] h n (fun v h' n' => v = none ∧ n' = n ∧ h' a = some (nd_v o2 w2 f2 s2 co ot ki nu (nI 0)) ∧ ∀ q : Nat, q ≠ a → h' q = h q) := by
  refine rl_Met.of (by decide +kernel) (Nat.le_of_ble_eq_true rfl) ?_
  intro X hC hB
  show rl_G X (rl_e D ids H0) 0 [some (.ref a), some (.int o2), some (.int w2), some (.int f2), some (.int s2)] [] h n 0 0
  refine o_aload_n hC dX1_describe_0 (by rfl) ?_
  refine o_iload_n hC dX1_describe_1 (by rfl) ?_
  refine o_putf hC (fX1_9 hC rfl) (fwX1 rfl rfl rfl (Or.inl rfl)) dX1_describe_2 (by repeat (first | with_reducible assumption | (rw [rl_u_s]; done) | (rw [rl_u_s]; rfl) | rw [rl_u_n (by first | with_reducible assumption | omega)])) (Nat.le_of_ble_eq_true rfl) ?_
  try simp only [List.set_cons_zero, List.set_cons_succ]
  refine o_aload_n hC dX1_describe_5 (by rfl) ?_
  refine o_iload_n hC dX1_describe_6 (by rfl) ?_
  refine o_putf hC (fX1_15 hC rfl) (fwX1 rfl rfl rfl (Or.inl rfl)) dX1_describe_7 (by repeat (first | with_reducible assumption | (rw [rl_u_s]; done) | (rw [rl_u_s]; rfl) | rw [rl_u_n (by first | with_reducible assumption | omega)])) (Nat.le_of_ble_eq_true rfl) ?_
  try simp only [List.set_cons_zero, List.set_cons_succ]
  refine o_aload_n hC dX1_describe_10 (by rfl) ?_
  refine o_iload_n hC dX1_describe_11 (by rfl) ?_
  refine o_putf hC (fX1_18 hC rfl) (fwX1 rfl rfl rfl (Or.inl rfl)) dX1_describe_12 (by repeat (first | with_reducible assumption | (rw [rl_u_s]; done) | (rw [rl_u_s]; rfl) | rw [rl_u_n (by first | with_reducible assumption | omega)])) (Nat.le_of_ble_eq_true rfl) ?_
  try simp only [List.set_cons_zero, List.set_cons_succ]
  refine o_aload_n hC dX1_describe_15 (by rfl) ?_
  refine o_iload hC dX1_describe_16 (by rfl) ?_
  refine o_putf hC (fX1_21 hC rfl) (fwX1 rfl rfl rfl (Or.inl rfl)) dX1_describe_18 (by repeat (first | with_reducible assumption | (rw [rl_u_s]; done) | (rw [rl_u_s]; rfl) | rw [rl_u_n (by first | with_reducible assumption | omega)])) (Nat.le_of_ble_eq_true rfl) ?_
  try simp only [List.set_cons_zero, List.set_cons_succ]
  refine o_aload_n hC dX1_describe_21 (by rfl) ?_
  refine o_iconst (v := nI 0) hC dX1_describe_22 (by decide +kernel) ?_
  refine o_putf hC (fX1_24 hC rfl) (fwX1 rfl rfl rfl (Or.inl rfl)) dX1_describe_23 (by repeat (first | with_reducible assumption | (rw [rl_u_s]; done) | (rw [rl_u_s]; rfl) | rw [rl_u_n (by first | with_reducible assumption | omega)])) (Nat.le_of_ble_eq_true rfl) ?_
  try simp only [List.set_cons_zero, List.set_cons_succ]
  refine o_vret hC hB dX1_describe_26 (Nat.le_of_ble_eq_true rfl) (Nat.le_of_ble_eq_true rfl) ?_
  refine ⟨rfl, rfl, by repeat (first | with_reducible assumption | (rw [rl_u_s]; done) | (rw [rl_u_s]; rfl) | rw [rl_u_n (by first | with_reducible assumption | omega)]), ?_⟩
  intro q hq
  repeat (first | rfl | rw [rl_u_n hq])

set_option maxHeartbeats 4000000 in
set_option maxRecDepth 100000 in
theorem ct_X1_detail (l : Launch) (D : va_G) (ids : Nat → ClassId) (H0 : Heap) (h : rl_H) (n : Nat) (a : Nat) (op wd fi se co ot ki nu sta : Int32) (c2 t2 k2 u2 : Int32) (h1 : h a = some (nd_v op wd fi se co ot ki nu sta)) : rl_Met l (rl_e D ids H0) rl_BW rl_Ns yX1_detail cX1_detail 5 none ({ frames := 0, cells := 0, slots := 0, locals := 0 }) [.ref a, .int c2, .int t2, .int k2, .int u2] h n (fun v h' n' => v = none ∧ n' = n ∧ h' a = some (nd_v op wd fi se c2 t2 k2 u2 sta) ∧ ∀ q : Nat, q ≠ a → h' q = h q) := by
  refine rl_Met.of (by decide +kernel) (Nat.le_of_ble_eq_true rfl) ?_
  intro X hC hB
  show rl_G X (rl_e D ids H0) 0 [some (.ref a), some (.int c2), some (.int t2), some (.int k2), some (.int u2)] [] h n 0 0
  refine o_aload_n hC dX1_detail_0 (by rfl) ?_
  refine o_iload_n hC dX1_detail_1 (by rfl) ?_
  refine o_putf hC (fX1_27 hC rfl) (fwX1 rfl rfl rfl (Or.inl rfl)) dX1_detail_2 (by repeat (first | with_reducible assumption | (rw [rl_u_s]; done) | (rw [rl_u_s]; rfl) | rw [rl_u_n (by first | with_reducible assumption | omega)])) (Nat.le_of_ble_eq_true rfl) ?_
  try simp only [List.set_cons_zero, List.set_cons_succ]
  refine o_aload_n hC dX1_detail_5 (by rfl) ?_
  refine o_iload_n hC dX1_detail_6 (by rfl) ?_
  refine o_putf hC (fX1_30 hC rfl) (fwX1 rfl rfl rfl (Or.inl rfl)) dX1_detail_7 (by repeat (first | with_reducible assumption | (rw [rl_u_s]; done) | (rw [rl_u_s]; rfl) | rw [rl_u_n (by first | with_reducible assumption | omega)])) (Nat.le_of_ble_eq_true rfl) ?_
  try simp only [List.set_cons_zero, List.set_cons_succ]
  refine o_aload_n hC dX1_detail_10 (by rfl) ?_
  refine o_iload_n hC dX1_detail_11 (by rfl) ?_
  refine o_putf hC (fX1_33 hC rfl) (fwX1 rfl rfl rfl (Or.inl rfl)) dX1_detail_12 (by repeat (first | with_reducible assumption | (rw [rl_u_s]; done) | (rw [rl_u_s]; rfl) | rw [rl_u_n (by first | with_reducible assumption | omega)])) (Nat.le_of_ble_eq_true rfl) ?_
  try simp only [List.set_cons_zero, List.set_cons_succ]
  refine o_aload_n hC dX1_detail_15 (by rfl) ?_
  refine o_iload hC dX1_detail_16 (by rfl) ?_
  refine o_putf hC (fX1_36 hC rfl) (fwX1 rfl rfl rfl (Or.inl rfl)) dX1_detail_18 (by repeat (first | with_reducible assumption | (rw [rl_u_s]; done) | (rw [rl_u_s]; rfl) | rw [rl_u_n (by first | with_reducible assumption | omega)])) (Nat.le_of_ble_eq_true rfl) ?_
  try simp only [List.set_cons_zero, List.set_cons_succ]
  refine o_vret hC hB dX1_detail_21 (Nat.le_of_ble_eq_true rfl) (Nat.le_of_ble_eq_true rfl) ?_
  refine ⟨rfl, rfl, by repeat (first | with_reducible assumption | (rw [rl_u_s]; done) | (rw [rl_u_s]; rfl) | rw [rl_u_n (by first | with_reducible assumption | omega)]), ?_⟩
  intro q hq
  repeat (first | rfl | rw [rl_u_n hq])

/-- at s: widths s + 1, sourceOf s + 2, numbers s + 3, its rows from s + 4 on -/
def so_at (ids : Nat → ClassId) (h : rl_H) (s : Nat) (wf sf : Nat → Int32) (cf : Nat → Nat → Int32) (sc rc : Nat) : Prop :=
  h s = some (.inr (3, [.ref (s + 1), .ref (s + 2), .ref (s + 3), .int (nI sc), .int (nI rc)])) ∧ h (s + 1) = some (.inl (ids 0, 4, .inl wf)) ∧ h (s + 2) = some (.inl (ids 0, 36, .inl sf)) ∧ h (s + 3) = some (.inl (ids 7, 36, .inr (.inr (.inr (.inr (fun j => if j < 36 then some (s + 4 + j) else none)))))) ∧ (∀ r, r < 36 → h (s + 4 + r) = some (.inl (ids 0, 6, .inl (cf r)))) ∧ sc ≤ 4 ∧ rc ≤ 36
theorem so_at.kept {ids : Nat → ClassId} {h h' : rl_H} {s a b : Nat} {wf sf : Nat → Int32} {cf : Nat → Nat → Int32} {sc rc : Nat} (H : so_at ids h s wf sf cf sc rc) (hf : rl_fr h h' a b) (hd : s + 40 ≤ a ∨ b ≤ s) : so_at ids h' s wf sf cf sc rc :=
  ⟨by rw [hf s (by omega)]; exact H.1, by rw [hf (s + 1) (by omega)]; exact H.2.1, by rw [hf (s + 2) (by omega)]; exact H.2.2.1, by rw [hf (s + 3) (by omega)]; exact H.2.2.2.1, fun r hr => by rw [hf (s + 4 + r) (by omega)]; exact H.2.2.2.2.1 r hr, H.2.2.2.2.2⟩

set_option maxHeartbeats 4000000 in
set_option maxRecDepth 100000 in
theorem ct_X3_init (l : Launch) (D : va_G) (ids : Nat → ClassId) (H0 : Heap) (h : rl_H) (n : Nat) (s : Nat) (h1 : h s = some (.inr (3, [.null, .null, .null, .int (nI 0), .int (nI 0)]))) (hn : n = s + 1) : rl_Met l (rl_e D ids H0) rl_BW rl_Ns yX3_init cX3_init 1 none ({ frames := 1, cells := 39, slots := 292, locals := 16 }) [.ref s] h n (fun v h' n' => v = none ∧ n' = s + 40 ∧ so_at ids h' s (fun _ => 0) (fun _ => 0) (fun _ _ => 0) 0 0 ∧ rl_fr h h' s (s + 40)) := by
  subst hn
  refine rl_Met.of (by decide +kernel) (Nat.le_of_ble_eq_true rfl) ?_
  intro X hC hB
  show rl_G X (rl_e D ids H0) 0 [some (.ref s)] [] h (s + 1) 0 0
  refine o_aload_n hC dX3_init_0 (by rfl) ?_
  refine o_objInit hC (by exact hB.2.2.2.2.2) mX3_3 w_objI w_objC dX3_init_1 (by rw [hB.2.1]; first | exact Nat.le_of_ble_eq_true rfl | (dsimp only; omega)) (by rw [hB.2.1]; first | exact Nat.le_of_ble_eq_true rfl | (dsimp only; omega)) ?_
  refine o_aload_n hC dX3_init_4 (by rfl) ?_
  refine o_iconst (v := nI 4) hC dX3_init_5 (by decide +kernel) ?_
  refine o_newa (atype := .int) (ty := .int) (t0 := 0) (N' := 4) (x := .inl (fun _ => 0)) hC rfl (fun C q => by cases q) aw_int rfl rfl (nI_pos (by decide)) (nI_clamp (by decide)) (by decide) (by rw [hB.2.1]; first | exact Nat.le_of_ble_eq_true rfl | (dsimp only; omega)) (by rw [hB.2.1]; first | exact Nat.le_of_ble_eq_true rfl | (dsimp only; omega)) dX3_init_6 ?_
  refine o_putf hC (fX3_9 hC rfl) (fwX3 rfl rfl rfl (Or.inr ⟨rfl, hB.2.2.2.2.1, rfl⟩)) dX3_init_8 (by repeat (first | with_reducible assumption | (rw [rl_u_s]; done) | (rw [rl_u_s]; rfl) | rw [rl_u_n (by first | with_reducible assumption | omega)] | rw [rl_us_n (by omega)])) (Nat.le_of_ble_eq_true rfl) ?_
  try simp only [List.set_cons_zero, List.set_cons_succ]
  refine o_aload_n hC dX3_init_11 (by rfl) ?_
  refine o_bipush (v := nI 36) hC dX3_init_12 (by decide +kernel) ?_
  refine o_newa (atype := .int) (ty := .int) (t0 := 0) (N' := 36) (x := .inl (fun _ => 0)) hC rfl (fun C q => by cases q) aw_int rfl rfl (nI_pos (by decide)) (nI_clamp (by decide)) (by decide) (by rw [hB.2.1]; first | exact Nat.le_of_ble_eq_true rfl | (dsimp only; omega)) (by rw [hB.2.1]; first | exact Nat.le_of_ble_eq_true rfl | (dsimp only; omega)) dX3_init_14 ?_
  refine o_putf hC (fX3_15 hC rfl) (fwX3 rfl rfl rfl (Or.inr ⟨rfl, hB.2.2.2.2.1, rfl⟩)) dX3_init_16 (by repeat (first | with_reducible assumption | (rw [rl_u_s]; done) | (rw [rl_u_s]; rfl) | rw [rl_u_n (by first | with_reducible assumption | omega)] | rw [rl_us_n (by omega)])) (Nat.le_of_ble_eq_true rfl) ?_
  try simp only [List.set_cons_zero, List.set_cons_succ]
  refine o_aload_n hC dX3_init_19 (by rfl) ?_
  refine o_bipush (v := nI 36) hC dX3_init_20 (by decide +kernel) ?_
  refine o_bipush (v := nI 6) hC dX3_init_22 (by decide +kernel) ?_
  refine o_mna (t0 := 7) (t1 := 0) (ty := .int) (N' := 36) (K' := 6) (z := (6, .inl (fun _ => 0))) hC kX3_18 aoArrI aw_int rfl rfl (fun C q => by cases q) (nI_pos (by decide)) (nI_pos (by decide)) (nI_clamp (by decide)) (nI_clamp (by decide)) (by decide) (by decide) (by decide) rfl rfl (by rw [hB.2.1]; first | exact Nat.le_of_ble_eq_true rfl | (dsimp only; omega)) (by rw [hB.2.1]; first | exact Nat.le_of_ble_eq_true rfl | (dsimp only; omega)) (fun c => ?_) dX3_init_24 ?_
  · rw [vp_cell_i]
    exact arrV_new c 6 (.int 0)
  refine o_putf hC (fX3_20 hC rfl) (fwX3 rfl rfl rfl (Or.inr ⟨rfl, hB.2.2.2.2.1, rfl⟩)) dX3_init_28 (by repeat (first | with_reducible assumption | (rw [rl_u_s]; done) | (rw [rl_u_s]; rfl) | rw [rl_u_n (by first | with_reducible assumption | omega)] | rw [rl_us_n (by omega)])) (Nat.le_of_ble_eq_true rfl) ?_
  try simp only [List.set_cons_zero, List.set_cons_succ]
  refine o_vret hC hB dX3_init_31 (Nat.le_of_ble_eq_true rfl) (Nat.le_of_ble_eq_true rfl) ?_
  refine ⟨rfl, rfl, ⟨by repeat (first | with_reducible assumption | (rw [rl_u_s]; done) | (rw [rl_u_s]; rfl) | rw [rl_u_n (by first | with_reducible assumption | omega)] | rw [rl_us_n (by omega)]), by repeat (first | with_reducible assumption | (rw [rl_u_s]; done) | (rw [rl_u_s]; rfl) | rw [rl_u_n (by first | with_reducible assumption | omega)] | rw [rl_us_n (by omega)]), by repeat (first | with_reducible assumption | (rw [rl_u_s]; done) | (rw [rl_u_s]; rfl) | rw [rl_u_n (by first | with_reducible assumption | omega)] | rw [rl_us_n (by omega)]), by repeat (first | with_reducible assumption | (rw [rl_u_s]; done) | (rw [rl_u_s]; rfl) | rw [rl_u_n (by first | with_reducible assumption | omega)] | rw [rl_us_n (by omega)]), fun r hr => ?_, by omega, by omega⟩, ?_⟩
  · rw [rl_u_n (by omega), rl_us_s (by omega)]
  · intro q hq
    repeat (first | rfl | rw [rl_u_n (by omega)] | rw [rl_us_n (by omega)])

set_option maxHeartbeats 4000000 in
set_option maxRecDepth 100000 in
theorem ct_X3_isSource (l : Launch) (D : va_G) (ids : Nat → ClassId) (H0 : Heap) (h : rl_H) (n : Nat) (s : Nat) (wf sf : Nat → Int32) (cf : Nat → Nat → Int32) (sc rc : Nat) (x : Int32) (hs : so_at ids h s wf sf cf sc rc) : rl_Met l (rl_e D ids H0) rl_BW rl_Ns yX3_isSource cX3_isSource 2 (some .boolean) ({ frames := 0, cells := 0, slots := 0, locals := 0 }) [.ref s, .int x] h n (fun v h' n' => v = some (.int (if x < 0 ∨ nI sc ≤ x then nI 0 else nI 1)) ∧ h' = h ∧ n' = n) := by
  obtain ⟨h1, h2, h3, h4, h5, hsc, hrc⟩ := hs
  refine rl_Met.of (by decide +kernel) (Nat.le_of_ble_eq_true rfl) ?_
  intro X hC hB
  show rl_G X (rl_e D ids H0) 0 [some (.ref s), some (.int x)] [] h n 0 0
  refine o_iload_n hC dX3_isSource_0 (by rfl) ?_
  refine o_if_lt (tgt := 16) hC dX3_isSource_1 (by decide) (fun c_1 => ?_) (fun c_1 => ?_)
  · refine o_iconst (v := nI 0) hC dX3_isSource_16 (by decide +kernel) ?_
    refine o_zret hC hB dX3_isSource_17 (by first | rfl | decide +kernel) (Nat.le_of_ble_eq_true rfl) (Nat.le_of_ble_eq_true rfl) ?_
    refine ⟨?_, rfl, rfl⟩
    first | rw [if_pos (Or.inl c_1)] | rw [if_pos (Or.inr c_9)] | rw [if_neg (fun q => q.elim c_1 c_9)]
  · refine o_iload_n hC dX3_isSource_4 (by rfl) ?_
    refine o_aload_n hC dX3_isSource_5 (by rfl) ?_
    refine o_getf hC (fX3_23 hC rfl) dX3_isSource_6 (by repeat (first | with_reducible assumption | (rw [rl_u_s]; done) | (rw [rl_u_s]; rfl) | rw [rl_u_n (by first | with_reducible assumption | omega)])) (by first | rfl | with_reducible assumption) ?_
    refine o_icmp_ge (tgt := 16) hC dX3_isSource_9 (by decide) (fun c_9 => ?_) (fun c_9 => ?_)
    · refine o_iconst (v := nI 0) hC dX3_isSource_16 (by decide +kernel) ?_
      refine o_zret hC hB dX3_isSource_17 (by first | rfl | decide +kernel) (Nat.le_of_ble_eq_true rfl) (Nat.le_of_ble_eq_true rfl) ?_
      refine ⟨?_, rfl, rfl⟩
      first | rw [if_pos (Or.inl c_1)] | rw [if_pos (Or.inr c_9)] | rw [if_neg (fun q => q.elim c_1 c_9)]
    · refine o_iconst (v := nI 1) hC dX3_isSource_12 (by decide +kernel) ?_
      refine o_goto (tgt := 17) hC dX3_isSource_13 (by decide) ?_
      refine o_zret hC hB dX3_isSource_17 (by first | rfl | decide +kernel) (Nat.le_of_ble_eq_true rfl) (Nat.le_of_ble_eq_true rfl) ?_
      refine ⟨?_, rfl, rfl⟩
      first | rw [if_pos (Or.inl c_1)] | rw [if_pos (Or.inr c_9)] | rw [if_neg (fun q => q.elim c_1 c_9)]

set_option maxHeartbeats 4000000 in
set_option maxRecDepth 100000 in
theorem ct_X3_isRow (l : Launch) (D : va_G) (ids : Nat → ClassId) (H0 : Heap) (h : rl_H) (n : Nat) (s : Nat) (wf sf : Nat → Int32) (cf : Nat → Nat → Int32) (sc rc : Nat) (x : Int32) (hs : so_at ids h s wf sf cf sc rc) : rl_Met l (rl_e D ids H0) rl_BW rl_Ns yX3_isRow cX3_isRow 2 (some .boolean) ({ frames := 0, cells := 0, slots := 0, locals := 0 }) [.ref s, .int x] h n (fun v h' n' => v = some (.int (if x < 0 ∨ nI rc ≤ x then nI 0 else nI 1)) ∧ h' = h ∧ n' = n) := by
  obtain ⟨h1, h2, h3, h4, h5, hsc, hrc⟩ := hs
  refine rl_Met.of (by decide +kernel) (Nat.le_of_ble_eq_true rfl) ?_
  intro X hC hB
  show rl_G X (rl_e D ids H0) 0 [some (.ref s), some (.int x)] [] h n 0 0
  refine o_iload_n hC dX3_isRow_0 (by rfl) ?_
  refine o_if_lt (tgt := 16) hC dX3_isRow_1 (by decide) (fun c_1 => ?_) (fun c_1 => ?_)
  · refine o_iconst (v := nI 0) hC dX3_isRow_16 (by decide +kernel) ?_
    refine o_zret hC hB dX3_isRow_17 (by first | rfl | decide +kernel) (Nat.le_of_ble_eq_true rfl) (Nat.le_of_ble_eq_true rfl) ?_
    refine ⟨?_, rfl, rfl⟩
    first | rw [if_pos (Or.inl c_1)] | rw [if_pos (Or.inr c_9)] | rw [if_neg (fun q => q.elim c_1 c_9)]
  · refine o_iload_n hC dX3_isRow_4 (by rfl) ?_
    refine o_aload_n hC dX3_isRow_5 (by rfl) ?_
    refine o_getf hC (fX3_27 hC rfl) dX3_isRow_6 (by repeat (first | with_reducible assumption | (rw [rl_u_s]; done) | (rw [rl_u_s]; rfl) | rw [rl_u_n (by first | with_reducible assumption | omega)])) (by first | rfl | with_reducible assumption) ?_
    refine o_icmp_ge (tgt := 16) hC dX3_isRow_9 (by decide) (fun c_9 => ?_) (fun c_9 => ?_)
    · refine o_iconst (v := nI 0) hC dX3_isRow_16 (by decide +kernel) ?_
      refine o_zret hC hB dX3_isRow_17 (by first | rfl | decide +kernel) (Nat.le_of_ble_eq_true rfl) (Nat.le_of_ble_eq_true rfl) ?_
      refine ⟨?_, rfl, rfl⟩
      first | rw [if_pos (Or.inl c_1)] | rw [if_pos (Or.inr c_9)] | rw [if_neg (fun q => q.elim c_1 c_9)]
    · refine o_iconst (v := nI 1) hC dX3_isRow_12 (by decide +kernel) ?_
      refine o_goto (tgt := 17) hC dX3_isRow_13 (by decide) ?_
      refine o_zret hC hB dX3_isRow_17 (by first | rfl | decide +kernel) (Nat.le_of_ble_eq_true rfl) (Nat.le_of_ble_eq_true rfl) ?_
      refine ⟨?_, rfl, rfl⟩
      first | rw [if_pos (Or.inl c_1)] | rw [if_pos (Or.inr c_9)] | rw [if_neg (fun q => q.elim c_1 c_9)]

set_option maxHeartbeats 4000000 in
set_option maxRecDepth 100000 in
theorem ct_X3_addSource (l : Launch) (D : va_G) (ids : Nat → ClassId) (H0 : Heap) (h : rl_H) (n : Nat) (s : Nat) (wf sf : Nat → Int32) (cf : Nat → Nat → Int32) (sc rc : Nat) (x : Int32) (hs : so_at ids h s wf sf cf sc rc) (hlt : sc < 4) : rl_Met l (rl_e D ids H0) rl_BW rl_Ns yX3_addSource cX3_addSource 2 (some .int) ({ frames := 0, cells := 0, slots := 0, locals := 0 }) [.ref s, .int x] h n (fun v h' n' => v = some (.int (nI sc)) ∧ n' = n ∧ so_at ids h' s (upd wf sc x) sf cf (sc + 1) rc ∧ rl_fr h h' s (s + 2)) := by
  obtain ⟨h1, h2, h3, h4, h5, hsc, hrc⟩ := hs
  refine rl_Met.of (by decide +kernel) (Nat.le_of_ble_eq_true rfl) ?_
  intro X hC hB
  show rl_G X (rl_e D ids H0) 0 [some (.ref s), some (.int x)] [] h n 0 0
  refine o_aload_n hC dX3_addSource_0 (by rfl) ?_
  refine o_getf hC (fX3_9 hC rfl) dX3_addSource_1 (by repeat (first | with_reducible assumption | (rw [rl_u_s]; done) | (rw [rl_u_s]; rfl) | rw [rl_u_n (by first | with_reducible assumption | omega)])) (by first | rfl | with_reducible assumption) ?_
  refine o_aload_n hC dX3_addSource_4 (by rfl) ?_
  refine o_getf hC (fX3_23 hC rfl) dX3_addSource_5 (by repeat (first | with_reducible assumption | (rw [rl_u_s]; done) | (rw [rl_u_s]; rfl) | rw [rl_u_n (by first | with_reducible assumption | omega)])) (by first | rfl | with_reducible assumption) ?_
  refine o_iload_n hC dX3_addSource_8 (by rfl) ?_
  refine o_iastN (t0 := 0) hC rfl dX3_addSource_9 (by repeat (first | with_reducible assumption | (rw [rl_u_s]; done) | (rw [rl_u_s]; rfl) | rw [rl_u_n (by first | with_reducible assumption | omega)])) (by omega) (by decide) ?_
  refine o_aload_n hC dX3_addSource_10 (by rfl) ?_
  refine o_dup hC dX3_addSource_11 rfl ?_
  refine o_getf hC (fX3_23 hC rfl) dX3_addSource_12 (by repeat (first | with_reducible assumption | (rw [rl_u_s]; done) | (rw [rl_u_s]; rfl) | rw [rl_u_n (by first | with_reducible assumption | omega)])) (by first | rfl | with_reducible assumption) ?_
  refine o_dup_x1 hC dX3_addSource_15 rfl rfl ?_
  refine o_iconst (v := nI 1) hC dX3_addSource_16 (by decide +kernel) ?_
  refine o_iadd hC dX3_addSource_17 ?_
  rw [nI_add sc 1]
  refine o_putf hC (fX3_23 hC rfl) (fwX3 rfl rfl rfl (Or.inl rfl)) dX3_addSource_18 (by repeat (first | with_reducible assumption | (rw [rl_u_s]; done) | (rw [rl_u_s]; rfl) | rw [rl_u_n (by first | with_reducible assumption | omega)])) (Nat.le_of_ble_eq_true rfl) ?_
  try simp only [List.set_cons_zero, List.set_cons_succ]
  refine o_iret hC hB dX3_addSource_21 (Nat.le_of_ble_eq_true rfl) (Nat.le_of_ble_eq_true rfl) ?_
  refine ⟨rfl, rfl, ⟨by repeat (first | with_reducible assumption | (rw [rl_u_s]; done) | (rw [rl_u_s]; rfl) | rw [rl_u_n (by first | with_reducible assumption | omega)]), by repeat (first | with_reducible assumption | (rw [rl_u_s]; done) | (rw [rl_u_s]; rfl) | rw [rl_u_n (by first | with_reducible assumption | omega)]), by repeat (first | with_reducible assumption | (rw [rl_u_s]; done) | (rw [rl_u_s]; rfl) | rw [rl_u_n (by first | with_reducible assumption | omega)]), by repeat (first | with_reducible assumption | (rw [rl_u_s]; done) | (rw [rl_u_s]; rfl) | rw [rl_u_n (by first | with_reducible assumption | omega)]), fun r hr => ?_, by omega, hrc⟩, ?_⟩
  · rw [rl_u_n (by omega), rl_u_n (by omega)]
    exact h5 r hr
  · intro q hq
    repeat (first | rfl | rw [rl_u_n (by omega)])

set_option maxHeartbeats 4000000 in
set_option maxRecDepth 100000 in
theorem ct_X3_forgetAll (l : Launch) (D : va_G) (ids : Nat → ClassId) (H0 : Heap) (h : rl_H) (n : Nat) (s : Nat) (wf sf : Nat → Int32) (cf : Nat → Nat → Int32) (sc rc : Nat) (hs : so_at ids h s wf sf cf sc rc) : rl_Met l (rl_e D ids H0) rl_BW rl_Ns yX3_forgetAll cX3_forgetAll 1 none ({ frames := 0, cells := 0, slots := 0, locals := 0 }) [.ref s] h n (fun v h' n' => v = none ∧ n' = n ∧ so_at ids h' s wf sf cf 0 0 ∧ rl_fr h h' s (s + 1)) := by
  obtain ⟨h1, h2, h3, h4, h5, hsc, hrc⟩ := hs
  refine rl_Met.of (by decide +kernel) (Nat.le_of_ble_eq_true rfl) ?_
  intro X hC hB
  show rl_G X (rl_e D ids H0) 0 [some (.ref s)] [] h n 0 0
  refine o_aload_n hC dX3_forgetAll_0 (by rfl) ?_
  refine o_iconst (v := nI 0) hC dX3_forgetAll_1 (by decide +kernel) ?_
  refine o_putf hC (fX3_23 hC rfl) (fwX3 rfl rfl rfl (Or.inl rfl)) dX3_forgetAll_2 (by repeat (first | with_reducible assumption | (rw [rl_u_s]; done) | (rw [rl_u_s]; rfl) | rw [rl_u_n (by first | with_reducible assumption | omega)])) (Nat.le_of_ble_eq_true rfl) ?_
  try simp only [List.set_cons_zero, List.set_cons_succ]
  refine o_aload_n hC dX3_forgetAll_5 (by rfl) ?_
  refine o_iconst (v := nI 0) hC dX3_forgetAll_6 (by decide +kernel) ?_
  refine o_putf hC (fX3_27 hC rfl) (fwX3 rfl rfl rfl (Or.inl rfl)) dX3_forgetAll_7 (by repeat (first | with_reducible assumption | (rw [rl_u_s]; done) | (rw [rl_u_s]; rfl) | rw [rl_u_n (by first | with_reducible assumption | omega)])) (Nat.le_of_ble_eq_true rfl) ?_
  try simp only [List.set_cons_zero, List.set_cons_succ]
  refine o_vret hC hB dX3_forgetAll_10 (Nat.le_of_ble_eq_true rfl) (Nat.le_of_ble_eq_true rfl) ?_
  refine ⟨rfl, rfl, ⟨by repeat (first | with_reducible assumption | (rw [rl_u_s]; done) | (rw [rl_u_s]; rfl) | rw [rl_u_n (by first | with_reducible assumption | omega)]), by repeat (first | with_reducible assumption | (rw [rl_u_s]; done) | (rw [rl_u_s]; rfl) | rw [rl_u_n (by first | with_reducible assumption | omega)]), by repeat (first | with_reducible assumption | (rw [rl_u_s]; done) | (rw [rl_u_s]; rfl) | rw [rl_u_n (by first | with_reducible assumption | omega)]), by repeat (first | with_reducible assumption | (rw [rl_u_s]; done) | (rw [rl_u_s]; rfl) | rw [rl_u_n (by first | with_reducible assumption | omega)]), fun r hr => ?_, by omega, by omega⟩, ?_⟩
  · rw [rl_u_n (by omega), rl_u_n (by omega)]
    exact h5 r hr
  · intro q hq
    repeat (first | rfl | rw [rl_u_n (by omega)])

set_option maxHeartbeats 4000000 in
set_option maxRecDepth 100000 in
theorem ct_X3_addRow (l : Launch) (D : va_G) (ids : Nat → ClassId) (H0 : Heap) (h : rl_H) (n : Nat) (s : Nat) (wf sf : Nat → Int32) (cf : Nat → Nat → Int32) (sc rc : Nat) (x a b c d : Int32) (hs : so_at ids h s wf sf cf sc rc) (hlt : rc < 36) : rl_Met l (rl_e D ids H0) rl_BW rl_Ns yX3_addRow cX3_addRow 7 (some .int) ({ frames := 0, cells := 0, slots := 0, locals := 0 }) [.ref s, .int x, .int a, .int b, .int c, .int d] h n (fun v h' n' => v = some (.int (nI rc)) ∧ n' = n ∧ so_at ids h' s wf (upd sf rc x) (fun r => if r = rc then upd (upd (upd (upd (cf rc) 0 a) 1 b) 2 c) 3 d else cf r) sc (rc + 1) ∧ rl_fr h h' s (s + 40)) := by
  obtain ⟨h1, h2, h3, h4, h5, hsc, hrc⟩ := hs
  refine rl_Met.of (by decide +kernel) (Nat.le_of_ble_eq_true rfl) ?_
  intro X hC hB
  show rl_G X (rl_e D ids H0) 0 [some (.ref s), some (.int x), some (.int a), some (.int b), some (.int c), some (.int d), none] [] h n 0 0
  refine o_aload_n hC dX3_addRow_0 (by rfl) ?_
  refine o_getf hC (fX3_20 hC rfl) dX3_addRow_1 (by repeat (first | with_reducible assumption | (rw [rl_u_s]; done) | (rw [rl_u_s]; rfl) | rw [rl_u_n (by first | with_reducible assumption | omega)])) (by first | rfl | with_reducible assumption) ?_
  refine o_aload_n hC dX3_addRow_4 (by rfl) ?_
  refine o_getf hC (fX3_27 hC rfl) dX3_addRow_5 (by repeat (first | with_reducible assumption | (rw [rl_u_s]; done) | (rw [rl_u_s]; rfl) | rw [rl_u_n (by first | with_reducible assumption | omega)])) (by first | rfl | with_reducible assumption) ?_
  refine o_aaldA (t0 := 7) hC rfl dX3_addRow_8 (by repeat (first | with_reducible assumption | (rw [rl_u_s]; done) | (rw [rl_u_s]; rfl) | rw [rl_u_n (by first | with_reducible assumption | omega)])) (by omega) (by decide) ?_
  rw [if_pos (by omega)]
  dsimp only [va_rf]
  have h6 := h5 rc (by omega)
  refine o_astore hC dX3_addRow_9 (Nat.le_of_ble_eq_true rfl) ?_
  refine o_aload hC dX3_addRow_11 (by rfl) ?_
  refine o_iconst (v := nI 0) hC dX3_addRow_13 (by decide +kernel) ?_
  refine o_iload_n hC dX3_addRow_14 (by rfl) ?_
  refine o_iastN (t0 := 0) hC rfl dX3_addRow_15 (by repeat (first | with_reducible assumption | (rw [rl_u_s]; done) | (rw [rl_u_s]; rfl) | rw [rl_u_n (by first | with_reducible assumption | omega)])) (by omega) (by decide) ?_
  refine o_aload hC dX3_addRow_16 (by rfl) ?_
  refine o_iconst (v := nI 1) hC dX3_addRow_18 (by decide +kernel) ?_
  refine o_iload_n hC dX3_addRow_19 (by rfl) ?_
  refine o_iastN (t0 := 0) hC rfl dX3_addRow_20 (by repeat (first | with_reducible assumption | (rw [rl_u_s]; done) | (rw [rl_u_s]; rfl) | rw [rl_u_n (by first | with_reducible assumption | omega)])) (by omega) (by decide) ?_
  refine o_aload hC dX3_addRow_21 (by rfl) ?_
  refine o_iconst (v := nI 2) hC dX3_addRow_23 (by decide +kernel) ?_
  refine o_iload hC dX3_addRow_24 (by rfl) ?_
  refine o_iastN (t0 := 0) hC rfl dX3_addRow_26 (by repeat (first | with_reducible assumption | (rw [rl_u_s]; done) | (rw [rl_u_s]; rfl) | rw [rl_u_n (by first | with_reducible assumption | omega)])) (by omega) (by decide) ?_
  refine o_aload hC dX3_addRow_27 (by rfl) ?_
  refine o_iconst (v := nI 3) hC dX3_addRow_29 (by decide +kernel) ?_
  refine o_iload hC dX3_addRow_30 (by rfl) ?_
  refine o_iastN (t0 := 0) hC rfl dX3_addRow_32 (by repeat (first | with_reducible assumption | (rw [rl_u_s]; done) | (rw [rl_u_s]; rfl) | rw [rl_u_n (by first | with_reducible assumption | omega)])) (by omega) (by decide) ?_
  refine o_aload_n hC dX3_addRow_33 (by rfl) ?_
  refine o_getf hC (fX3_15 hC rfl) dX3_addRow_34 (by repeat (first | with_reducible assumption | (rw [rl_u_s]; done) | (rw [rl_u_s]; rfl) | rw [rl_u_n (by first | with_reducible assumption | omega)])) (by first | rfl | with_reducible assumption) ?_
  refine o_aload_n hC dX3_addRow_37 (by rfl) ?_
  refine o_getf hC (fX3_27 hC rfl) dX3_addRow_38 (by repeat (first | with_reducible assumption | (rw [rl_u_s]; done) | (rw [rl_u_s]; rfl) | rw [rl_u_n (by first | with_reducible assumption | omega)])) (by first | rfl | with_reducible assumption) ?_
  refine o_iload_n hC dX3_addRow_41 (by rfl) ?_
  refine o_iastN (t0 := 0) hC rfl dX3_addRow_42 (by repeat (first | with_reducible assumption | (rw [rl_u_s]; done) | (rw [rl_u_s]; rfl) | rw [rl_u_n (by first | with_reducible assumption | omega)])) (by omega) (by decide) ?_
  refine o_aload_n hC dX3_addRow_43 (by rfl) ?_
  refine o_dup hC dX3_addRow_44 rfl ?_
  refine o_getf hC (fX3_27 hC rfl) dX3_addRow_45 (by repeat (first | with_reducible assumption | (rw [rl_u_s]; done) | (rw [rl_u_s]; rfl) | rw [rl_u_n (by first | with_reducible assumption | omega)])) (by first | rfl | with_reducible assumption) ?_
  refine o_dup_x1 hC dX3_addRow_48 rfl rfl ?_
  refine o_iconst (v := nI 1) hC dX3_addRow_49 (by decide +kernel) ?_
  refine o_iadd hC dX3_addRow_50 ?_
  rw [nI_add rc 1]
  refine o_putf hC (fX3_27 hC rfl) (fwX3 rfl rfl rfl (Or.inl rfl)) dX3_addRow_51 (by repeat (first | with_reducible assumption | (rw [rl_u_s]; done) | (rw [rl_u_s]; rfl) | rw [rl_u_n (by first | with_reducible assumption | omega)])) (Nat.le_of_ble_eq_true rfl) ?_
  try simp only [List.set_cons_zero, List.set_cons_succ]
  refine o_iret hC hB dX3_addRow_54 (Nat.le_of_ble_eq_true rfl) (Nat.le_of_ble_eq_true rfl) ?_
  refine ⟨rfl, rfl, ⟨by repeat (first | with_reducible assumption | (rw [rl_u_s]; done) | (rw [rl_u_s]; rfl) | rw [rl_u_n (by first | with_reducible assumption | omega)]), by repeat (first | with_reducible assumption | (rw [rl_u_s]; done) | (rw [rl_u_s]; rfl) | rw [rl_u_n (by first | with_reducible assumption | omega)]), by repeat (first | with_reducible assumption | (rw [rl_u_s]; done) | (rw [rl_u_s]; rfl) | rw [rl_u_n (by first | with_reducible assumption | omega)]), by repeat (first | with_reducible assumption | (rw [rl_u_s]; done) | (rw [rl_u_s]; rfl) | rw [rl_u_n (by first | with_reducible assumption | omega)]), fun r hr => ?_, hsc, by omega⟩, ?_⟩
  · dsimp only
    by_cases e : r = rc
    · subst e
      rw [if_pos rfl]
      repeat (first | with_reducible assumption | (rw [rl_u_s]; done) | (rw [rl_u_s]; rfl) | rw [rl_u_n (by first | with_reducible assumption | omega)])
    · rw [if_neg e]
      have h7 := h5 r hr
      repeat (first | with_reducible assumption | (rw [rl_u_s]; done) | (rw [rl_u_s]; rfl) | rw [rl_u_n (by first | with_reducible assumption | omega)])
  · intro q hq
    repeat (first | rfl | rw [rl_u_n (by omega)])
end
section
/-! RowLineage$Draft: at d, its needs at d + 1, its lacks at d + 2 -/
abbrev dr_S : Type := (Nat → Int64) × (Nat → Int64) × Nat
def dr_at (ids : Nat → ClassId) (h : rl_H) (d : Nat) (s : dr_S) : Prop :=
  h d = some (.inr (0, [.ref (d + 1), .ref (d + 2), .int (nI s.2.2)])) ∧ h (d + 1) = some (.inl (ids 1, 432, .inr (.inl s.1))) ∧ h (d + 2) = some (.inl (ids 1, 432, .inr (.inl s.2.1))) ∧ s.2.2 ≤ 432
/-- the TERMS j on, m of them, held against the new one a, b: absorbed, or what is kept -/
noncomputable def dr_go (a b : Int64) : Nat → Nat → Nat → (Nat → Int64) → (Nat → Int64) → ((Nat → Int64) × (Nat → Int64)) ⊕ dr_S
  | 0, _, p, F, G => .inr (F, G, p)
  | m + 1, j, p, F, G => if F j &&& (a ^^^ (-1)) = 0 ∧ G j &&& (b ^^^ (-1)) = 0 then .inl (F, G) else if ¬ a &&& (F j ^^^ (-1)) = 0 ∨ ¬ b &&& (G j ^^^ (-1)) = 0 then dr_go a b m (j + 1) (p + 1) (vp_updL F p (F j)) (vp_updL G p (G j)) else dr_go a b m (j + 1) p F G
noncomputable def dr_add (a b : Int64) (s : dr_S) : dr_S := if a &&& b = 0 then (match dr_go a b s.2.2 0 0 s.1 s.2.1 with
  | .inl q => (q.1, q.2, s.2.2)
  | .inr q => if q.2.2 < 432 then (vp_updL q.1 q.2.2 a, vp_updL q.2.1 q.2.2 b, q.2.2 + 1) else q) else s
theorem dr_go_le (a b : Int64) : ∀ (m j p : Nat) (F G : Nat → Int64) (q : dr_S), dr_go a b m j p F G = .inr q → q.2.2 ≤ p + m
  | 0, _, p, F, G, q, h => by
    simp only [dr_go] at h
    cases h
    exact Nat.le_refl _
  | m + 1, j, p, F, G, q, h => by
    rw [dr_go] at h
    split at h
    · cases h
    · split at h
      · have := dr_go_le a b m _ _ _ _ q h
        omega
      · have := dr_go_le a b m _ _ _ _ q h
        omega
theorem dr_add_le (a b : Int64) (s : dr_S) (hs : s.2.2 ≤ 432) : (dr_add a b s).2.2 ≤ 432 ∧ (dr_add a b s).2.2 ≤ s.2.2 + 1 := by
  unfold dr_add
  split
  · split
    · exact ⟨hs, Nat.le_succ _⟩
    · rename_i q hq
      have := dr_go_le a b _ _ _ _ _ q hq
      split
      · exact ⟨by show q.2.2 + 1 ≤ 432; omega, by show q.2.2 + 1 ≤ _; omega⟩
      · exact ⟨by omega, by omega⟩
  · exact ⟨hs, Nat.le_succ _⟩

set_option maxHeartbeats 4000000 in
set_option maxRecDepth 100000 in
theorem ct_X0_init (l : Launch) (D : va_G) (ids : Nat → ClassId) (H0 : Heap) (h : rl_H) (n : Nat) (d : Nat) (h1 : h d = some (.inr (0, [.null, .null, .int (nI 0)]))) (hn : n = d + 1) : rl_Met l (rl_e D ids H0) rl_BW rl_Ns yX0_init cX0_init 1 none ({ frames := 1, cells := 2, slots := 864, locals := 16 }) [.ref d] h n (fun v h' n' => v = none ∧ n' = d + 3 ∧ dr_at ids h' d (fun _ => 0, fun _ => 0, 0) ∧ rl_fr h h' d (d + 3)) := by
  subst hn
  refine rl_Met.of (by decide +kernel) (Nat.le_of_ble_eq_true rfl) ?_
  intro X hC hB
  show rl_G X (rl_e D ids H0) 0 [some (.ref d)] [] h (d + 1) 0 0
  refine o_aload_n hC dX0_init_0 (by rfl) ?_
  refine o_objInit hC (by exact hB.2.2.2.2.2) mX0_3 w_objI w_objC dX0_init_1 (by rw [hB.2.1]; first | exact Nat.le_of_ble_eq_true rfl | (dsimp only; omega)) (by rw [hB.2.1]; first | exact Nat.le_of_ble_eq_true rfl | (dsimp only; omega)) ?_
  refine o_aload_n hC dX0_init_4 (by rfl) ?_
  refine o_sipush (v := nI 432) hC dX0_init_5 (by decide +kernel) ?_
  refine o_newa (atype := .long) (ty := .long) (t0 := 1) (N' := 432) (x := .inr (.inl (fun _ => 0))) hC rfl (fun C q => by cases q) aw_long rfl rfl (nI_pos (by decide)) (nI_clamp (by decide)) (by decide) (by rw [hB.2.1]; first | exact Nat.le_of_ble_eq_true rfl | (dsimp only; omega)) (by rw [hB.2.1]; first | exact Nat.le_of_ble_eq_true rfl | (dsimp only; omega)) dX0_init_8 ?_
  refine o_putf hC (fX0_11 hC rfl) (fwX0 rfl rfl rfl (Or.inr ⟨rfl, hB.2.2.2.2.1, rfl⟩)) dX0_init_10 (by repeat (first | with_reducible assumption | (rw [rl_u_s]; done) | (rw [rl_u_s]; rfl) | rw [rl_u_n (by first | with_reducible assumption | omega)])) (Nat.le_of_ble_eq_true rfl) ?_
  try simp only [List.set_cons_zero, List.set_cons_succ]
  refine o_aload_n hC dX0_init_13 (by rfl) ?_
  refine o_sipush (v := nI 432) hC dX0_init_14 (by decide +kernel) ?_
  refine o_newa (atype := .long) (ty := .long) (t0 := 1) (N' := 432) (x := .inr (.inl (fun _ => 0))) hC rfl (fun C q => by cases q) aw_long rfl rfl (nI_pos (by decide)) (nI_clamp (by decide)) (by decide) (by rw [hB.2.1]; first | exact Nat.le_of_ble_eq_true rfl | (dsimp only; omega)) (by rw [hB.2.1]; first | exact Nat.le_of_ble_eq_true rfl | (dsimp only; omega)) dX0_init_17 ?_
  refine o_putf hC (fX0_15 hC rfl) (fwX0 rfl rfl rfl (Or.inr ⟨rfl, hB.2.2.2.2.1, rfl⟩)) dX0_init_19 (by repeat (first | with_reducible assumption | (rw [rl_u_s]; done) | (rw [rl_u_s]; rfl) | rw [rl_u_n (by first | with_reducible assumption | omega)])) (Nat.le_of_ble_eq_true rfl) ?_
  try simp only [List.set_cons_zero, List.set_cons_succ]
  refine o_vret hC hB dX0_init_22 (Nat.le_of_ble_eq_true rfl) (Nat.le_of_ble_eq_true rfl) ?_
  refine ⟨rfl, rfl, ⟨by repeat (first | with_reducible assumption | (rw [rl_u_s]; done) | (rw [rl_u_s]; rfl) | rw [rl_u_n (by first | with_reducible assumption | omega)]), by repeat (first | with_reducible assumption | (rw [rl_u_s]; done) | (rw [rl_u_s]; rfl) | rw [rl_u_n (by first | with_reducible assumption | omega)]), by repeat (first | with_reducible assumption | (rw [rl_u_s]; done) | (rw [rl_u_s]; rfl) | rw [rl_u_n (by first | with_reducible assumption | omega)]), by decide⟩, ?_⟩
  intro q hq
  repeat (first | rfl | rw [rl_u_n (by omega)])

set_option maxHeartbeats 4000000 in
set_option maxRecDepth 100000 in
theorem ct_X0_add (l : Launch) (D : va_G) (ids : Nat → ClassId) (H0 : Heap) (h : rl_H) (n : Nat) (d : Nat) (s : dr_S) (a b : Int64) (hd : dr_at ids h d s) : rl_Met l (rl_e D ids H0) rl_BW rl_Ns yX0_add cX0_add 7 none ({ frames := 0, cells := 0, slots := 0, locals := 0 }) [.ref d, .long a, .long b] h n (fun v h' n' => v = none ∧ n' = n ∧ dr_at ids h' d (dr_add a b s) ∧ rl_fr h h' d (d + 3)) := by
  obtain ⟨h1, h2, h3, hk⟩ := hd
  refine rl_Met.of (by decide +kernel) (Nat.le_of_ble_eq_true rfl) ?_
  intro X hC hB
  have fin : ∀ (p j : Nat) (h' : rl_H) (F G : Nat → Int64), p ≤ 432 → h' d = some (.inr (0, [.ref (d + 1), .ref (d + 2), .int (nI s.2.2)])) ∧ h' (d + 1) = some (.inl (ids 1, 432, .inr (.inl F))) ∧ h' (d + 2) = some (.inl (ids 1, 432, .inr (.inl G))) → rl_fr h h' d (d + 3) → a &&& b = 0 → dr_go a b s.2.2 0 0 s.1 s.2.1 = .inr (F, G, p) → rl_G X (rl_e D ids H0) 134 [some (.ref d), some (.long a), none, some (.long b), none, some (.int (nI p)), some (.int (nI j))] [] h' n 0 0 := by
    intro p j h' F G hp hws hfr hab hs
    obtain ⟨g1, g2, g3⟩ := hws
    refine o_aload_n hC dX0_add_134 (by rfl) ?_
    refine o_iload hC dX0_add_135 (by rfl) ?_
    refine o_putf hC (fX0_18 hC rfl) (fwX0 rfl rfl rfl (Or.inl rfl)) dX0_add_137 (by repeat (first | with_reducible assumption | (rw [rl_u_s]; done) | (rw [rl_u_s]; rfl) | rw [rl_u_n (by first | with_reducible assumption | omega)])) (Nat.le_of_ble_eq_true rfl) ?_
    try simp only [List.set_cons_zero, List.set_cons_succ]
    refine o_aload_n hC dX0_add_140 (by rfl) ?_
    refine o_getf hC (fX0_18 hC rfl) dX0_add_141 (by repeat (first | with_reducible assumption | (rw [rl_u_s]; done) | (rw [rl_u_s]; rfl) | rw [rl_u_n (by first | with_reducible assumption | omega)])) (by first | rfl | with_reducible assumption) ?_
    refine o_sipush (v := nI 432) hC dX0_add_144 (by decide +kernel) ?_
    refine o_icmp_ge (tgt := 180) hC dX0_add_147 (by decide) (fun c_147 => ?_) (fun c_147 => ?_)
    · refine o_vret hC hB dX0_add_180 (Nat.le_of_ble_eq_true rfl) (Nat.le_of_ble_eq_true rfl) ?_
      have hge : ¬ p < 432 := fun q => nI_ge q (by omega) c_147
      have e : dr_add a b s = (F, G, p) := by
        unfold dr_add
        rw [if_pos hab, hs]
        exact if_neg hge
      refine ⟨rfl, rfl, ?_, ?_⟩
      · rw [e]
        exact ⟨by repeat (first | with_reducible assumption | (rw [rl_u_s]; done) | (rw [rl_u_s]; rfl) | rw [rl_u_n (by first | with_reducible assumption | omega)]), by repeat (first | with_reducible assumption | (rw [rl_u_s]; done) | (rw [rl_u_s]; rfl) | rw [rl_u_n (by first | with_reducible assumption | omega)]), by repeat (first | with_reducible assumption | (rw [rl_u_s]; done) | (rw [rl_u_s]; rfl) | rw [rl_u_n (by first | with_reducible assumption | omega)]), hp⟩
      · intro q hq
        repeat (first | exact hfr q hq | rw [rl_u_n (by omega)])
    · refine o_aload_n hC dX0_add_150 (by rfl) ?_
      refine o_getf hC (fX0_11 hC rfl) dX0_add_151 (by repeat (first | with_reducible assumption | (rw [rl_u_s]; done) | (rw [rl_u_s]; rfl) | rw [rl_u_n (by first | with_reducible assumption | omega)])) (by first | rfl | with_reducible assumption) ?_
      refine o_aload_n hC dX0_add_154 (by rfl) ?_
      refine o_getf hC (fX0_18 hC rfl) dX0_add_155 (by repeat (first | with_reducible assumption | (rw [rl_u_s]; done) | (rw [rl_u_s]; rfl) | rw [rl_u_n (by first | with_reducible assumption | omega)])) (by first | rfl | with_reducible assumption) ?_
      refine o_lload_n hC dX0_add_158 (by rfl) ?_
      refine o_lastN (t0 := 1) hC rfl dX0_add_159 (by repeat (first | with_reducible assumption | (rw [rl_u_s]; done) | (rw [rl_u_s]; rfl) | rw [rl_u_n (by first | with_reducible assumption | omega)])) (by first | omega | (rcases Nat.lt_or_ge p 432 with q | q; exact q; exact absurd (nI_le q (by omega)) c_147)) (by decide) ?_
      refine o_aload_n hC dX0_add_160 (by rfl) ?_
      refine o_getf hC (fX0_15 hC rfl) dX0_add_161 (by repeat (first | with_reducible assumption | (rw [rl_u_s]; done) | (rw [rl_u_s]; rfl) | rw [rl_u_n (by first | with_reducible assumption | omega)])) (by first | rfl | with_reducible assumption) ?_
      refine o_aload_n hC dX0_add_164 (by rfl) ?_
      refine o_getf hC (fX0_18 hC rfl) dX0_add_165 (by repeat (first | with_reducible assumption | (rw [rl_u_s]; done) | (rw [rl_u_s]; rfl) | rw [rl_u_n (by first | with_reducible assumption | omega)])) (by first | rfl | with_reducible assumption) ?_
      refine o_lload_n hC dX0_add_168 (by rfl) ?_
      refine o_lastN (t0 := 1) hC rfl dX0_add_169 (by repeat (first | with_reducible assumption | (rw [rl_u_s]; done) | (rw [rl_u_s]; rfl) | rw [rl_u_n (by first | with_reducible assumption | omega)])) (by first | omega | (rcases Nat.lt_or_ge p 432 with q | q; exact q; exact absurd (nI_le q (by omega)) c_147)) (by decide) ?_
      refine o_aload_n hC dX0_add_170 (by rfl) ?_
      refine o_dup hC dX0_add_171 rfl ?_
      refine o_getf hC (fX0_18 hC rfl) dX0_add_172 (by repeat (first | with_reducible assumption | (rw [rl_u_s]; done) | (rw [rl_u_s]; rfl) | rw [rl_u_n (by first | with_reducible assumption | omega)])) (by first | rfl | with_reducible assumption) ?_
      refine o_iconst (v := nI 1) hC dX0_add_175 (by decide +kernel) ?_
      refine o_iadd hC dX0_add_176 ?_
      rw [nI_add p 1]
      refine o_putf hC (fX0_18 hC rfl) (fwX0 rfl rfl rfl (Or.inl rfl)) dX0_add_177 (by repeat (first | with_reducible assumption | (rw [rl_u_s]; done) | (rw [rl_u_s]; rfl) | rw [rl_u_n (by first | with_reducible assumption | omega)])) (Nat.le_of_ble_eq_true rfl) ?_
      try simp only [List.set_cons_zero, List.set_cons_succ]
      refine o_vret hC hB dX0_add_180 (Nat.le_of_ble_eq_true rfl) (Nat.le_of_ble_eq_true rfl) ?_
      have hlt : p < 432 := by
        rcases Nat.lt_or_ge p 432 with q | q
        · exact q
        · exact absurd (nI_le q (by omega)) c_147
      have e : dr_add a b s = (vp_updL F p a, vp_updL G p b, p + 1) := by
        unfold dr_add
        rw [if_pos hab, hs]
        exact if_pos hlt
      refine ⟨rfl, rfl, ?_, ?_⟩
      · rw [e]
        exact ⟨by repeat (first | with_reducible assumption | (rw [rl_u_s]; done) | (rw [rl_u_s]; rfl) | rw [rl_u_n (by first | with_reducible assumption | omega)]), by repeat (first | with_reducible assumption | (rw [rl_u_s]; done) | (rw [rl_u_s]; rfl) | rw [rl_u_n (by first | with_reducible assumption | omega)]), by repeat (first | with_reducible assumption | (rw [rl_u_s]; done) | (rw [rl_u_s]; rfl) | rw [rl_u_n (by first | with_reducible assumption | omega)]), by show p + 1 ≤ 432; omega⟩
      · intro q hq
        repeat (first | exact hfr q hq | rw [rl_u_n (by omega)])
  have loop : ∀ (m j p : Nat) (h' : rl_H) (F G : Nat → Int64), j + m = s.2.2 → p ≤ j → h' d = some (.inr (0, [.ref (d + 1), .ref (d + 2), .int (nI s.2.2)])) ∧ h' (d + 1) = some (.inl (ids 1, 432, .inr (.inl F))) ∧ h' (d + 2) = some (.inl (ids 1, 432, .inr (.inl G))) → rl_fr h h' d (d + 3) → a &&& b = 0 → dr_go a b s.2.2 0 0 s.1 s.2.1 = dr_go a b m j p F G → rl_G X (rl_e D ids H0) 15 [some (.ref d), some (.long a), none, some (.long b), none, some (.int (nI p)), some (.int (nI j))] [] h' n 0 0 := by
    intro m
    induction m with
    | zero =>
      intro j p h' F G hj hp hws hfr hab hs
      obtain ⟨g1, g2, g3⟩ := id hws
      refine o_iload hC dX0_add_15 (by rfl) ?_
      refine o_aload_n hC dX0_add_17 (by rfl) ?_
      refine o_getf hC (fX0_18 hC rfl) dX0_add_18 (by repeat (first | with_reducible assumption | (rw [rl_u_s]; done) | (rw [rl_u_s]; rfl) | rw [rl_u_n (by first | with_reducible assumption | omega)])) (by first | rfl | with_reducible assumption) ?_
      refine o_icmp_ge (tgt := 134) hC dX0_add_21 (by decide) (fun c_21 => ?_) (fun c_21 => ?_)
      · exact fin p j h' F G (by omega) hws hfr hab hs
      · exact absurd (nI_le (by omega) (by omega)) c_21
    | succ m ih =>
      intro j p h' F G hj hp hws hfr hab hs
      obtain ⟨g1, g2, g3⟩ := id hws
      refine o_iload hC dX0_add_15 (by rfl) ?_
      refine o_aload_n hC dX0_add_17 (by rfl) ?_
      refine o_getf hC (fX0_18 hC rfl) dX0_add_18 (by repeat (first | with_reducible assumption | (rw [rl_u_s]; done) | (rw [rl_u_s]; rfl) | rw [rl_u_n (by first | with_reducible assumption | omega)])) (by first | rfl | with_reducible assumption) ?_
      refine o_icmp_ge (tgt := 134) hC dX0_add_21 (by decide) (fun c_21 => ?_) (fun c_21 => ?_)
      · exact absurd c_21 (nI_ge (by omega) (by omega))
      · refine o_aload_n hC dX0_add_24 (by rfl) ?_
        refine o_getf hC (fX0_11 hC rfl) dX0_add_25 (by repeat (first | with_reducible assumption | (rw [rl_u_s]; done) | (rw [rl_u_s]; rfl) | rw [rl_u_n (by first | with_reducible assumption | omega)])) (by first | rfl | with_reducible assumption) ?_
        refine o_iload hC dX0_add_28 (by rfl) ?_
        refine o_laldN (t0 := 1) hC rfl dX0_add_30 (by repeat (first | with_reducible assumption | (rw [rl_u_s]; done) | (rw [rl_u_s]; rfl) | rw [rl_u_n (by first | with_reducible assumption | omega)])) (by omega) (by decide) ?_
        refine o_lload_n hC dX0_add_31 (by rfl) ?_
        refine o_ldc2 hC nX0_42 dX0_add_32 ?_
        refine o_lxor hC dX0_add_35 ?_
        refine o_land hC dX0_add_36 ?_
        refine o_lconst (v := 0) hC dX0_add_37 (by decide +kernel) ?_
        refine o_lcmp hC dX0_add_38 ?_
        refine o_if_ne (tgt := 61) hC dX0_add_39 (by decide) (fun c_39 => ?_) (fun c_39 => ?_)
        · refine o_lload_n hC dX0_add_61 (by rfl) ?_
          refine o_aload_n hC dX0_add_62 (by rfl) ?_
          refine o_getf hC (fX0_11 hC rfl) dX0_add_63 (by repeat (first | with_reducible assumption | (rw [rl_u_s]; done) | (rw [rl_u_s]; rfl) | rw [rl_u_n (by first | with_reducible assumption | omega)])) (by first | rfl | with_reducible assumption) ?_
          refine o_iload hC dX0_add_66 (by rfl) ?_
          refine o_laldN (t0 := 1) hC rfl dX0_add_68 (by repeat (first | with_reducible assumption | (rw [rl_u_s]; done) | (rw [rl_u_s]; rfl) | rw [rl_u_n (by first | with_reducible assumption | omega)])) (by omega) (by decide) ?_
          refine o_ldc2 hC nX0_42 dX0_add_69 ?_
          refine o_lxor hC dX0_add_72 ?_
          refine o_land hC dX0_add_73 ?_
          refine o_lconst (v := 0) hC dX0_add_74 (by decide +kernel) ?_
          refine o_lcmp hC dX0_add_75 ?_
          refine o_if_ne (tgt := 97) hC dX0_add_76 (by decide) (fun c_76 => ?_) (fun c_76 => ?_)
          · refine o_aload_n hC dX0_add_97 (by rfl) ?_
            refine o_getf hC (fX0_11 hC rfl) dX0_add_98 (by repeat (first | with_reducible assumption | (rw [rl_u_s]; done) | (rw [rl_u_s]; rfl) | rw [rl_u_n (by first | with_reducible assumption | omega)])) (by first | rfl | with_reducible assumption) ?_
            refine o_iload hC dX0_add_101 (by rfl) ?_
            refine o_aload_n hC dX0_add_103 (by rfl) ?_
            refine o_getf hC (fX0_11 hC rfl) dX0_add_104 (by repeat (first | with_reducible assumption | (rw [rl_u_s]; done) | (rw [rl_u_s]; rfl) | rw [rl_u_n (by first | with_reducible assumption | omega)])) (by first | rfl | with_reducible assumption) ?_
            refine o_iload hC dX0_add_107 (by rfl) ?_
            refine o_laldN (t0 := 1) hC rfl dX0_add_109 (by repeat (first | with_reducible assumption | (rw [rl_u_s]; done) | (rw [rl_u_s]; rfl) | rw [rl_u_n (by first | with_reducible assumption | omega)])) (by omega) (by decide) ?_
            refine o_lastN (t0 := 1) hC rfl dX0_add_110 (by repeat (first | with_reducible assumption | (rw [rl_u_s]; done) | (rw [rl_u_s]; rfl) | rw [rl_u_n (by first | with_reducible assumption | omega)])) (by omega) (by decide) ?_
            refine o_aload_n hC dX0_add_111 (by rfl) ?_
            refine o_getf hC (fX0_15 hC rfl) dX0_add_112 (by repeat (first | with_reducible assumption | (rw [rl_u_s]; done) | (rw [rl_u_s]; rfl) | rw [rl_u_n (by first | with_reducible assumption | omega)])) (by first | rfl | with_reducible assumption) ?_
            refine o_iload hC dX0_add_115 (by rfl) ?_
            refine o_aload_n hC dX0_add_117 (by rfl) ?_
            refine o_getf hC (fX0_15 hC rfl) dX0_add_118 (by repeat (first | with_reducible assumption | (rw [rl_u_s]; done) | (rw [rl_u_s]; rfl) | rw [rl_u_n (by first | with_reducible assumption | omega)])) (by first | rfl | with_reducible assumption) ?_
            refine o_iload hC dX0_add_121 (by rfl) ?_
            refine o_laldN (t0 := 1) hC rfl dX0_add_123 (by repeat (first | with_reducible assumption | (rw [rl_u_s]; done) | (rw [rl_u_s]; rfl) | rw [rl_u_n (by first | with_reducible assumption | omega)])) (by omega) (by decide) ?_
            refine o_lastN (t0 := 1) hC rfl dX0_add_124 (by repeat (first | with_reducible assumption | (rw [rl_u_s]; done) | (rw [rl_u_s]; rfl) | rw [rl_u_n (by first | with_reducible assumption | omega)])) (by omega) (by decide) ?_
            refine o_iinc hC dX0_add_125 (by rfl) (rl_inc _) (Nat.le_of_ble_eq_true rfl) ?_
            refine o_iinc hC dX0_add_128 (by rfl) (rl_inc _) (Nat.le_of_ble_eq_true rfl) ?_
            refine o_goto (tgt := 15) hC dX0_add_131 (by decide) ?_
            first
            | exact ih (j + 1) (p + 1) _ _ _ (by omega) (by omega) ⟨by repeat (first | with_reducible assumption | (rw [rl_u_s]; done) | (rw [rl_u_s]; rfl) | rw [rl_u_n (by first | with_reducible assumption | omega)]), by repeat (first | with_reducible assumption | (rw [rl_u_s]; done) | (rw [rl_u_s]; rfl) | rw [rl_u_n (by first | with_reducible assumption | omega)]), by repeat (first | with_reducible assumption | (rw [rl_u_s]; done) | (rw [rl_u_s]; rfl) | rw [rl_u_n (by first | with_reducible assumption | omega)])⟩ (fun q hq => by rw [rl_u_n (by omega), rl_u_n (by omega)]; exact hfr q hq) hab (by rw [hs, dr_go, if_neg (fun q => by first | exact c_39 ((lg_cmp_eq _ _).mpr q.1) | exact c_57 ((lg_cmp_eq _ _).mpr q.2)), if_pos (by first | exact Or.inl (fun q => c_76 ((lg_cmp_eq _ _).mpr q)) | exact Or.inr (fun q => c_94 ((lg_cmp_eq _ _).mpr q)))])
            | exact ih (j + 1) p _ _ _ (by omega) (by omega) ⟨g1, g2, g3⟩ hfr hab (by rw [hs, dr_go, if_neg (fun q => by first | exact c_39 ((lg_cmp_eq _ _).mpr q.1) | exact c_57 ((lg_cmp_eq _ _).mpr q.2)), if_neg (fun q => q.elim (fun q => q ((lg_cmp_eq _ _).mp c_76)) (fun q => q ((lg_cmp_eq _ _).mp c_94)))])
          · refine o_lload_n hC dX0_add_79 (by rfl) ?_
            refine o_aload_n hC dX0_add_80 (by rfl) ?_
            refine o_getf hC (fX0_15 hC rfl) dX0_add_81 (by repeat (first | with_reducible assumption | (rw [rl_u_s]; done) | (rw [rl_u_s]; rfl) | rw [rl_u_n (by first | with_reducible assumption | omega)])) (by first | rfl | with_reducible assumption) ?_
            refine o_iload hC dX0_add_84 (by rfl) ?_
            refine o_laldN (t0 := 1) hC rfl dX0_add_86 (by repeat (first | with_reducible assumption | (rw [rl_u_s]; done) | (rw [rl_u_s]; rfl) | rw [rl_u_n (by first | with_reducible assumption | omega)])) (by omega) (by decide) ?_
            refine o_ldc2 hC nX0_42 dX0_add_87 ?_
            refine o_lxor hC dX0_add_90 ?_
            refine o_land hC dX0_add_91 ?_
            refine o_lconst (v := 0) hC dX0_add_92 (by decide +kernel) ?_
            refine o_lcmp hC dX0_add_93 ?_
            refine o_if_eq (tgt := 128) hC dX0_add_94 (by decide) (fun c_94 => ?_) (fun c_94 => ?_)
            · refine o_iinc hC dX0_add_128 (by rfl) (rl_inc _) (Nat.le_of_ble_eq_true rfl) ?_
              refine o_goto (tgt := 15) hC dX0_add_131 (by decide) ?_
              first
              | exact ih (j + 1) (p + 1) _ _ _ (by omega) (by omega) ⟨by repeat (first | with_reducible assumption | (rw [rl_u_s]; done) | (rw [rl_u_s]; rfl) | rw [rl_u_n (by first | with_reducible assumption | omega)]), by repeat (first | with_reducible assumption | (rw [rl_u_s]; done) | (rw [rl_u_s]; rfl) | rw [rl_u_n (by first | with_reducible assumption | omega)]), by repeat (first | with_reducible assumption | (rw [rl_u_s]; done) | (rw [rl_u_s]; rfl) | rw [rl_u_n (by first | with_reducible assumption | omega)])⟩ (fun q hq => by rw [rl_u_n (by omega), rl_u_n (by omega)]; exact hfr q hq) hab (by rw [hs, dr_go, if_neg (fun q => by first | exact c_39 ((lg_cmp_eq _ _).mpr q.1) | exact c_57 ((lg_cmp_eq _ _).mpr q.2)), if_pos (by first | exact Or.inl (fun q => c_76 ((lg_cmp_eq _ _).mpr q)) | exact Or.inr (fun q => c_94 ((lg_cmp_eq _ _).mpr q)))])
              | exact ih (j + 1) p _ _ _ (by omega) (by omega) ⟨g1, g2, g3⟩ hfr hab (by rw [hs, dr_go, if_neg (fun q => by first | exact c_39 ((lg_cmp_eq _ _).mpr q.1) | exact c_57 ((lg_cmp_eq _ _).mpr q.2)), if_neg (fun q => q.elim (fun q => q ((lg_cmp_eq _ _).mp c_76)) (fun q => q ((lg_cmp_eq _ _).mp c_94)))])
            · refine o_aload_n hC dX0_add_97 (by rfl) ?_
              refine o_getf hC (fX0_11 hC rfl) dX0_add_98 (by repeat (first | with_reducible assumption | (rw [rl_u_s]; done) | (rw [rl_u_s]; rfl) | rw [rl_u_n (by first | with_reducible assumption | omega)])) (by first | rfl | with_reducible assumption) ?_
              refine o_iload hC dX0_add_101 (by rfl) ?_
              refine o_aload_n hC dX0_add_103 (by rfl) ?_
              refine o_getf hC (fX0_11 hC rfl) dX0_add_104 (by repeat (first | with_reducible assumption | (rw [rl_u_s]; done) | (rw [rl_u_s]; rfl) | rw [rl_u_n (by first | with_reducible assumption | omega)])) (by first | rfl | with_reducible assumption) ?_
              refine o_iload hC dX0_add_107 (by rfl) ?_
              refine o_laldN (t0 := 1) hC rfl dX0_add_109 (by repeat (first | with_reducible assumption | (rw [rl_u_s]; done) | (rw [rl_u_s]; rfl) | rw [rl_u_n (by first | with_reducible assumption | omega)])) (by omega) (by decide) ?_
              refine o_lastN (t0 := 1) hC rfl dX0_add_110 (by repeat (first | with_reducible assumption | (rw [rl_u_s]; done) | (rw [rl_u_s]; rfl) | rw [rl_u_n (by first | with_reducible assumption | omega)])) (by omega) (by decide) ?_
              refine o_aload_n hC dX0_add_111 (by rfl) ?_
              refine o_getf hC (fX0_15 hC rfl) dX0_add_112 (by repeat (first | with_reducible assumption | (rw [rl_u_s]; done) | (rw [rl_u_s]; rfl) | rw [rl_u_n (by first | with_reducible assumption | omega)])) (by first | rfl | with_reducible assumption) ?_
              refine o_iload hC dX0_add_115 (by rfl) ?_
              refine o_aload_n hC dX0_add_117 (by rfl) ?_
              refine o_getf hC (fX0_15 hC rfl) dX0_add_118 (by repeat (first | with_reducible assumption | (rw [rl_u_s]; done) | (rw [rl_u_s]; rfl) | rw [rl_u_n (by first | with_reducible assumption | omega)])) (by first | rfl | with_reducible assumption) ?_
              refine o_iload hC dX0_add_121 (by rfl) ?_
              refine o_laldN (t0 := 1) hC rfl dX0_add_123 (by repeat (first | with_reducible assumption | (rw [rl_u_s]; done) | (rw [rl_u_s]; rfl) | rw [rl_u_n (by first | with_reducible assumption | omega)])) (by omega) (by decide) ?_
              refine o_lastN (t0 := 1) hC rfl dX0_add_124 (by repeat (first | with_reducible assumption | (rw [rl_u_s]; done) | (rw [rl_u_s]; rfl) | rw [rl_u_n (by first | with_reducible assumption | omega)])) (by omega) (by decide) ?_
              refine o_iinc hC dX0_add_125 (by rfl) (rl_inc _) (Nat.le_of_ble_eq_true rfl) ?_
              refine o_iinc hC dX0_add_128 (by rfl) (rl_inc _) (Nat.le_of_ble_eq_true rfl) ?_
              refine o_goto (tgt := 15) hC dX0_add_131 (by decide) ?_
              first
              | exact ih (j + 1) (p + 1) _ _ _ (by omega) (by omega) ⟨by repeat (first | with_reducible assumption | (rw [rl_u_s]; done) | (rw [rl_u_s]; rfl) | rw [rl_u_n (by first | with_reducible assumption | omega)]), by repeat (first | with_reducible assumption | (rw [rl_u_s]; done) | (rw [rl_u_s]; rfl) | rw [rl_u_n (by first | with_reducible assumption | omega)]), by repeat (first | with_reducible assumption | (rw [rl_u_s]; done) | (rw [rl_u_s]; rfl) | rw [rl_u_n (by first | with_reducible assumption | omega)])⟩ (fun q hq => by rw [rl_u_n (by omega), rl_u_n (by omega)]; exact hfr q hq) hab (by rw [hs, dr_go, if_neg (fun q => by first | exact c_39 ((lg_cmp_eq _ _).mpr q.1) | exact c_57 ((lg_cmp_eq _ _).mpr q.2)), if_pos (by first | exact Or.inl (fun q => c_76 ((lg_cmp_eq _ _).mpr q)) | exact Or.inr (fun q => c_94 ((lg_cmp_eq _ _).mpr q)))])
              | exact ih (j + 1) p _ _ _ (by omega) (by omega) ⟨g1, g2, g3⟩ hfr hab (by rw [hs, dr_go, if_neg (fun q => by first | exact c_39 ((lg_cmp_eq _ _).mpr q.1) | exact c_57 ((lg_cmp_eq _ _).mpr q.2)), if_neg (fun q => q.elim (fun q => q ((lg_cmp_eq _ _).mp c_76)) (fun q => q ((lg_cmp_eq _ _).mp c_94)))])
        · refine o_aload_n hC dX0_add_42 (by rfl) ?_
          refine o_getf hC (fX0_15 hC rfl) dX0_add_43 (by repeat (first | with_reducible assumption | (rw [rl_u_s]; done) | (rw [rl_u_s]; rfl) | rw [rl_u_n (by first | with_reducible assumption | omega)])) (by first | rfl | with_reducible assumption) ?_
          refine o_iload hC dX0_add_46 (by rfl) ?_
          refine o_laldN (t0 := 1) hC rfl dX0_add_48 (by repeat (first | with_reducible assumption | (rw [rl_u_s]; done) | (rw [rl_u_s]; rfl) | rw [rl_u_n (by first | with_reducible assumption | omega)])) (by omega) (by decide) ?_
          refine o_lload_n hC dX0_add_49 (by rfl) ?_
          refine o_ldc2 hC nX0_42 dX0_add_50 ?_
          refine o_lxor hC dX0_add_53 ?_
          refine o_land hC dX0_add_54 ?_
          refine o_lconst (v := 0) hC dX0_add_55 (by decide +kernel) ?_
          refine o_lcmp hC dX0_add_56 ?_
          refine o_if_ne (tgt := 61) hC dX0_add_57 (by decide) (fun c_57 => ?_) (fun c_57 => ?_)
          · refine o_lload_n hC dX0_add_61 (by rfl) ?_
            refine o_aload_n hC dX0_add_62 (by rfl) ?_
            refine o_getf hC (fX0_11 hC rfl) dX0_add_63 (by repeat (first | with_reducible assumption | (rw [rl_u_s]; done) | (rw [rl_u_s]; rfl) | rw [rl_u_n (by first | with_reducible assumption | omega)])) (by first | rfl | with_reducible assumption) ?_
            refine o_iload hC dX0_add_66 (by rfl) ?_
            refine o_laldN (t0 := 1) hC rfl dX0_add_68 (by repeat (first | with_reducible assumption | (rw [rl_u_s]; done) | (rw [rl_u_s]; rfl) | rw [rl_u_n (by first | with_reducible assumption | omega)])) (by omega) (by decide) ?_
            refine o_ldc2 hC nX0_42 dX0_add_69 ?_
            refine o_lxor hC dX0_add_72 ?_
            refine o_land hC dX0_add_73 ?_
            refine o_lconst (v := 0) hC dX0_add_74 (by decide +kernel) ?_
            refine o_lcmp hC dX0_add_75 ?_
            refine o_if_ne (tgt := 97) hC dX0_add_76 (by decide) (fun c_76 => ?_) (fun c_76 => ?_)
            · refine o_aload_n hC dX0_add_97 (by rfl) ?_
              refine o_getf hC (fX0_11 hC rfl) dX0_add_98 (by repeat (first | with_reducible assumption | (rw [rl_u_s]; done) | (rw [rl_u_s]; rfl) | rw [rl_u_n (by first | with_reducible assumption | omega)])) (by first | rfl | with_reducible assumption) ?_
              refine o_iload hC dX0_add_101 (by rfl) ?_
              refine o_aload_n hC dX0_add_103 (by rfl) ?_
              refine o_getf hC (fX0_11 hC rfl) dX0_add_104 (by repeat (first | with_reducible assumption | (rw [rl_u_s]; done) | (rw [rl_u_s]; rfl) | rw [rl_u_n (by first | with_reducible assumption | omega)])) (by first | rfl | with_reducible assumption) ?_
              refine o_iload hC dX0_add_107 (by rfl) ?_
              refine o_laldN (t0 := 1) hC rfl dX0_add_109 (by repeat (first | with_reducible assumption | (rw [rl_u_s]; done) | (rw [rl_u_s]; rfl) | rw [rl_u_n (by first | with_reducible assumption | omega)])) (by omega) (by decide) ?_
              refine o_lastN (t0 := 1) hC rfl dX0_add_110 (by repeat (first | with_reducible assumption | (rw [rl_u_s]; done) | (rw [rl_u_s]; rfl) | rw [rl_u_n (by first | with_reducible assumption | omega)])) (by omega) (by decide) ?_
              refine o_aload_n hC dX0_add_111 (by rfl) ?_
              refine o_getf hC (fX0_15 hC rfl) dX0_add_112 (by repeat (first | with_reducible assumption | (rw [rl_u_s]; done) | (rw [rl_u_s]; rfl) | rw [rl_u_n (by first | with_reducible assumption | omega)])) (by first | rfl | with_reducible assumption) ?_
              refine o_iload hC dX0_add_115 (by rfl) ?_
              refine o_aload_n hC dX0_add_117 (by rfl) ?_
              refine o_getf hC (fX0_15 hC rfl) dX0_add_118 (by repeat (first | with_reducible assumption | (rw [rl_u_s]; done) | (rw [rl_u_s]; rfl) | rw [rl_u_n (by first | with_reducible assumption | omega)])) (by first | rfl | with_reducible assumption) ?_
              refine o_iload hC dX0_add_121 (by rfl) ?_
              refine o_laldN (t0 := 1) hC rfl dX0_add_123 (by repeat (first | with_reducible assumption | (rw [rl_u_s]; done) | (rw [rl_u_s]; rfl) | rw [rl_u_n (by first | with_reducible assumption | omega)])) (by omega) (by decide) ?_
              refine o_lastN (t0 := 1) hC rfl dX0_add_124 (by repeat (first | with_reducible assumption | (rw [rl_u_s]; done) | (rw [rl_u_s]; rfl) | rw [rl_u_n (by first | with_reducible assumption | omega)])) (by omega) (by decide) ?_
              refine o_iinc hC dX0_add_125 (by rfl) (rl_inc _) (Nat.le_of_ble_eq_true rfl) ?_
              refine o_iinc hC dX0_add_128 (by rfl) (rl_inc _) (Nat.le_of_ble_eq_true rfl) ?_
              refine o_goto (tgt := 15) hC dX0_add_131 (by decide) ?_
              first
              | exact ih (j + 1) (p + 1) _ _ _ (by omega) (by omega) ⟨by repeat (first | with_reducible assumption | (rw [rl_u_s]; done) | (rw [rl_u_s]; rfl) | rw [rl_u_n (by first | with_reducible assumption | omega)]), by repeat (first | with_reducible assumption | (rw [rl_u_s]; done) | (rw [rl_u_s]; rfl) | rw [rl_u_n (by first | with_reducible assumption | omega)]), by repeat (first | with_reducible assumption | (rw [rl_u_s]; done) | (rw [rl_u_s]; rfl) | rw [rl_u_n (by first | with_reducible assumption | omega)])⟩ (fun q hq => by rw [rl_u_n (by omega), rl_u_n (by omega)]; exact hfr q hq) hab (by rw [hs, dr_go, if_neg (fun q => by first | exact c_39 ((lg_cmp_eq _ _).mpr q.1) | exact c_57 ((lg_cmp_eq _ _).mpr q.2)), if_pos (by first | exact Or.inl (fun q => c_76 ((lg_cmp_eq _ _).mpr q)) | exact Or.inr (fun q => c_94 ((lg_cmp_eq _ _).mpr q)))])
              | exact ih (j + 1) p _ _ _ (by omega) (by omega) ⟨g1, g2, g3⟩ hfr hab (by rw [hs, dr_go, if_neg (fun q => by first | exact c_39 ((lg_cmp_eq _ _).mpr q.1) | exact c_57 ((lg_cmp_eq _ _).mpr q.2)), if_neg (fun q => q.elim (fun q => q ((lg_cmp_eq _ _).mp c_76)) (fun q => q ((lg_cmp_eq _ _).mp c_94)))])
            · refine o_lload_n hC dX0_add_79 (by rfl) ?_
              refine o_aload_n hC dX0_add_80 (by rfl) ?_
              refine o_getf hC (fX0_15 hC rfl) dX0_add_81 (by repeat (first | with_reducible assumption | (rw [rl_u_s]; done) | (rw [rl_u_s]; rfl) | rw [rl_u_n (by first | with_reducible assumption | omega)])) (by first | rfl | with_reducible assumption) ?_
              refine o_iload hC dX0_add_84 (by rfl) ?_
              refine o_laldN (t0 := 1) hC rfl dX0_add_86 (by repeat (first | with_reducible assumption | (rw [rl_u_s]; done) | (rw [rl_u_s]; rfl) | rw [rl_u_n (by first | with_reducible assumption | omega)])) (by omega) (by decide) ?_
              refine o_ldc2 hC nX0_42 dX0_add_87 ?_
              refine o_lxor hC dX0_add_90 ?_
              refine o_land hC dX0_add_91 ?_
              refine o_lconst (v := 0) hC dX0_add_92 (by decide +kernel) ?_
              refine o_lcmp hC dX0_add_93 ?_
              refine o_if_eq (tgt := 128) hC dX0_add_94 (by decide) (fun c_94 => ?_) (fun c_94 => ?_)
              · refine o_iinc hC dX0_add_128 (by rfl) (rl_inc _) (Nat.le_of_ble_eq_true rfl) ?_
                refine o_goto (tgt := 15) hC dX0_add_131 (by decide) ?_
                first
                | exact ih (j + 1) (p + 1) _ _ _ (by omega) (by omega) ⟨by repeat (first | with_reducible assumption | (rw [rl_u_s]; done) | (rw [rl_u_s]; rfl) | rw [rl_u_n (by first | with_reducible assumption | omega)]), by repeat (first | with_reducible assumption | (rw [rl_u_s]; done) | (rw [rl_u_s]; rfl) | rw [rl_u_n (by first | with_reducible assumption | omega)]), by repeat (first | with_reducible assumption | (rw [rl_u_s]; done) | (rw [rl_u_s]; rfl) | rw [rl_u_n (by first | with_reducible assumption | omega)])⟩ (fun q hq => by rw [rl_u_n (by omega), rl_u_n (by omega)]; exact hfr q hq) hab (by rw [hs, dr_go, if_neg (fun q => by first | exact c_39 ((lg_cmp_eq _ _).mpr q.1) | exact c_57 ((lg_cmp_eq _ _).mpr q.2)), if_pos (by first | exact Or.inl (fun q => c_76 ((lg_cmp_eq _ _).mpr q)) | exact Or.inr (fun q => c_94 ((lg_cmp_eq _ _).mpr q)))])
                | exact ih (j + 1) p _ _ _ (by omega) (by omega) ⟨g1, g2, g3⟩ hfr hab (by rw [hs, dr_go, if_neg (fun q => by first | exact c_39 ((lg_cmp_eq _ _).mpr q.1) | exact c_57 ((lg_cmp_eq _ _).mpr q.2)), if_neg (fun q => q.elim (fun q => q ((lg_cmp_eq _ _).mp c_76)) (fun q => q ((lg_cmp_eq _ _).mp c_94)))])
              · refine o_aload_n hC dX0_add_97 (by rfl) ?_
                refine o_getf hC (fX0_11 hC rfl) dX0_add_98 (by repeat (first | with_reducible assumption | (rw [rl_u_s]; done) | (rw [rl_u_s]; rfl) | rw [rl_u_n (by first | with_reducible assumption | omega)])) (by first | rfl | with_reducible assumption) ?_
                refine o_iload hC dX0_add_101 (by rfl) ?_
                refine o_aload_n hC dX0_add_103 (by rfl) ?_
                refine o_getf hC (fX0_11 hC rfl) dX0_add_104 (by repeat (first | with_reducible assumption | (rw [rl_u_s]; done) | (rw [rl_u_s]; rfl) | rw [rl_u_n (by first | with_reducible assumption | omega)])) (by first | rfl | with_reducible assumption) ?_
                refine o_iload hC dX0_add_107 (by rfl) ?_
                refine o_laldN (t0 := 1) hC rfl dX0_add_109 (by repeat (first | with_reducible assumption | (rw [rl_u_s]; done) | (rw [rl_u_s]; rfl) | rw [rl_u_n (by first | with_reducible assumption | omega)])) (by omega) (by decide) ?_
                refine o_lastN (t0 := 1) hC rfl dX0_add_110 (by repeat (first | with_reducible assumption | (rw [rl_u_s]; done) | (rw [rl_u_s]; rfl) | rw [rl_u_n (by first | with_reducible assumption | omega)])) (by omega) (by decide) ?_
                refine o_aload_n hC dX0_add_111 (by rfl) ?_
                refine o_getf hC (fX0_15 hC rfl) dX0_add_112 (by repeat (first | with_reducible assumption | (rw [rl_u_s]; done) | (rw [rl_u_s]; rfl) | rw [rl_u_n (by first | with_reducible assumption | omega)])) (by first | rfl | with_reducible assumption) ?_
                refine o_iload hC dX0_add_115 (by rfl) ?_
                refine o_aload_n hC dX0_add_117 (by rfl) ?_
                refine o_getf hC (fX0_15 hC rfl) dX0_add_118 (by repeat (first | with_reducible assumption | (rw [rl_u_s]; done) | (rw [rl_u_s]; rfl) | rw [rl_u_n (by first | with_reducible assumption | omega)])) (by first | rfl | with_reducible assumption) ?_
                refine o_iload hC dX0_add_121 (by rfl) ?_
                refine o_laldN (t0 := 1) hC rfl dX0_add_123 (by repeat (first | with_reducible assumption | (rw [rl_u_s]; done) | (rw [rl_u_s]; rfl) | rw [rl_u_n (by first | with_reducible assumption | omega)])) (by omega) (by decide) ?_
                refine o_lastN (t0 := 1) hC rfl dX0_add_124 (by repeat (first | with_reducible assumption | (rw [rl_u_s]; done) | (rw [rl_u_s]; rfl) | rw [rl_u_n (by first | with_reducible assumption | omega)])) (by omega) (by decide) ?_
                refine o_iinc hC dX0_add_125 (by rfl) (rl_inc _) (Nat.le_of_ble_eq_true rfl) ?_
                refine o_iinc hC dX0_add_128 (by rfl) (rl_inc _) (Nat.le_of_ble_eq_true rfl) ?_
                refine o_goto (tgt := 15) hC dX0_add_131 (by decide) ?_
                first
                | exact ih (j + 1) (p + 1) _ _ _ (by omega) (by omega) ⟨by repeat (first | with_reducible assumption | (rw [rl_u_s]; done) | (rw [rl_u_s]; rfl) | rw [rl_u_n (by first | with_reducible assumption | omega)]), by repeat (first | with_reducible assumption | (rw [rl_u_s]; done) | (rw [rl_u_s]; rfl) | rw [rl_u_n (by first | with_reducible assumption | omega)]), by repeat (first | with_reducible assumption | (rw [rl_u_s]; done) | (rw [rl_u_s]; rfl) | rw [rl_u_n (by first | with_reducible assumption | omega)])⟩ (fun q hq => by rw [rl_u_n (by omega), rl_u_n (by omega)]; exact hfr q hq) hab (by rw [hs, dr_go, if_neg (fun q => by first | exact c_39 ((lg_cmp_eq _ _).mpr q.1) | exact c_57 ((lg_cmp_eq _ _).mpr q.2)), if_pos (by first | exact Or.inl (fun q => c_76 ((lg_cmp_eq _ _).mpr q)) | exact Or.inr (fun q => c_94 ((lg_cmp_eq _ _).mpr q)))])
                | exact ih (j + 1) p _ _ _ (by omega) (by omega) ⟨g1, g2, g3⟩ hfr hab (by rw [hs, dr_go, if_neg (fun q => by first | exact c_39 ((lg_cmp_eq _ _).mpr q.1) | exact c_57 ((lg_cmp_eq _ _).mpr q.2)), if_neg (fun q => q.elim (fun q => q ((lg_cmp_eq _ _).mp c_76)) (fun q => q ((lg_cmp_eq _ _).mp c_94)))])
          · refine o_vret hC hB dX0_add_60 (Nat.le_of_ble_eq_true rfl) (Nat.le_of_ble_eq_true rfl) ?_
            have e : dr_add a b s = (F, G, s.2.2) := by
              unfold dr_add
              rw [if_pos hab, hs, dr_go, if_pos ⟨(lg_cmp_eq _ _).mp c_39, (lg_cmp_eq _ _).mp c_57⟩]
            refine ⟨rfl, rfl, ?_, hfr⟩
            rw [e]
            exact ⟨g1, g2, g3, hk⟩
  show rl_G X (rl_e D ids H0) 0 [some (.ref d), some (.long a), none, some (.long b), none, none, none] [] h n 0 0
  refine o_lload_n hC dX0_add_0 (by rfl) ?_
  refine o_lload_n hC dX0_add_1 (by rfl) ?_
  refine o_land hC dX0_add_2 ?_
  refine o_lconst (v := 0) hC dX0_add_3 (by decide +kernel) ?_
  refine o_lcmp hC dX0_add_4 ?_
  refine o_if_eq (tgt := 9) hC dX0_add_5 (by decide) (fun c_5 => ?_) (fun c_5 => ?_)
  · refine o_iconst (v := nI 0) hC dX0_add_9 (by decide +kernel) ?_
    refine o_istore hC dX0_add_10 (Nat.le_of_ble_eq_true rfl) ?_
    refine o_iconst (v := nI 0) hC dX0_add_12 (by decide +kernel) ?_
    refine o_istore hC dX0_add_13 (Nat.le_of_ble_eq_true rfl) ?_
    exact loop s.2.2 0 0 h s.1 s.2.1 (by omega) (Nat.le_refl 0) ⟨h1, h2, h3⟩ rl_fr.rf ((lg_cmp_eq _ _).mp c_5) rfl
  · refine o_vret hC hB dX0_add_8 (Nat.le_of_ble_eq_true rfl) (Nat.le_of_ble_eq_true rfl) ?_
    exact ⟨rfl, rfl, by unfold dr_add; rw [if_neg (fun q => c_5 ((lg_cmp_eq _ _).mpr q))]; exact ⟨h1, h2, h3, hk⟩, rl_fr.rf⟩
end
section
/-! Draft.settle and what ends with it -/
theorem dr_at.kept {ids : Nat → ClassId} {h h' : rl_H} {d a b : Nat} {s : dr_S} (H : dr_at ids h d s) (hf : rl_fr h h' a b) (hd : d + 3 ≤ a ∨ b ≤ d) : dr_at ids h' d s :=
  ⟨by rw [hf d (by omega)]; exact H.1, by rw [hf (d + 1) (by omega)]; exact H.2.1, by rw [hf (d + 2) (by omega)]; exact H.2.2.1, H.2.2.2⟩
/-- the TERMS j on, m of them, are put in order into F, G -/
noncomputable def st_go (A B : Nat → Int64) : Nat → Nat → (Nat → Int64) → (Nat → Int64) → (Nat → Int64) × (Nat → Int64)
  | 0, _, F, G => (F, G)
  | m + 1, j, F, G => st_go A B m (j + 1) (tm_ins (A j) (B j) j F G).1 (tm_ins (A j) (B j) j F G).2
/-- nothing has changed but at d .. d + 2 and at w .. w + 2 -/
def rl_f2 (h h' : rl_H) (d w : Nat) : Prop := ∀ q : Nat, (q < d ∨ d + 3 ≤ q) → (q < w ∨ w + 3 ≤ q) → h' q = h q
/-- the end of either, both, forget: FULL, or the TERMS in order -/
def dr_out (ids : Nat → ClassId) (h h' : rl_H) (d w : Nat) (s : dr_S) (f g : Nat → Int64) (x : Int32) : Prop :=
  dr_at ids h' d s ∧ ((12 < s.2.2 ∧ x = nI 0 ∧ rl_fr h h' d (d + 3)) ∨ (s.2.2 ≤ 12 ∧ x = nI 1 ∧ ws_at ids h' w (st_go s.1 s.2.1 s.2.2 0 f g).1 (st_go s.1 s.2.1 s.2.2 0 f g).2 s.2.2 ∧ rl_f2 h h' d w))
theorem dr_out.of {ids : Nat → ClassId} {h h1 h' : rl_H} {d w : Nat} {s : dr_S} {f g : Nat → Int64} {x : Int32} (hf : rl_fr h h1 d (d + 3)) (H : dr_out ids h1 h' d w s f g x) : dr_out ids h h' d w s f g x := by
  obtain ⟨a, b | b⟩ := H
  · exact ⟨a, Or.inl ⟨b.1, b.2.1, hf.tr b.2.2⟩⟩
  · exact ⟨a, Or.inr ⟨b.1, b.2.1, b.2.2.1, fun q h1 h2 => (b.2.2.2 q h1 h2).trans (hf q h1)⟩⟩

set_option maxHeartbeats 4000000 in
set_option maxRecDepth 100000 in
theorem ct_X0_settle (l : Launch) (D : va_G) (ids : Nat → ClassId) (H0 : Heap) (h : rl_H) (n : Nat) (d w k : Nat) (s : dr_S) (f g : Nat → Int64) (hd : dr_at ids h d s) (hw : ws_at ids h w f g k) (hdis : d + 3 ≤ w ∨ w + 3 ≤ d) : rl_Met l (rl_e D ids H0) rl_BW rl_Ns yX0_settle cX0_settle 3 (some .boolean) ({ frames := 1, cells := 0, slots := 0, locals := 25 }) [.ref d, .ref w] h n (fun v h' n' => ∃ x : Int32, v = some (.int x) ∧ n' = n ∧ dr_out ids h h' d w s f g x) := by
  obtain ⟨h1, h2, h3, hk⟩ := id hd
  refine rl_Met.of (by decide +kernel) (Nat.le_of_ble_eq_true rfl) ?_
  intro X hC hB
  have loop : ∀ (m j : Nat) (h' : rl_H) (F G : Nat → Int64), j + m = s.2.2 → s.2.2 ≤ 12 → dr_at ids h' d s → ws_at ids h' w F G j → rl_fr h h' w (w + 3) → st_go s.1 s.2.1 s.2.2 0 f g = st_go s.1 s.2.1 m j F G → rl_G X (rl_e D ids H0) 17 [some (.ref d), some (.ref w), some (.int (nI j))] [] h' n 0 0 := by
    intro m
    induction m with
    | zero =>
      intro j h' F G hj hle hd2 hw2 hfr hs
      obtain ⟨g1, g2, g3, -⟩ := id hd2
      refine o_iload_n hC dX0_settle_17 (by rfl) ?_
      refine o_aload_n hC dX0_settle_18 (by rfl) ?_
      refine o_getf hC (fX0_18 hC rfl) dX0_settle_19 (by repeat (first | with_reducible assumption | (rw [rl_u_s]; done) | (rw [rl_u_s]; rfl) | rw [rl_u_n (by first | with_reducible assumption | omega)])) (by first | rfl | with_reducible assumption) ?_
      refine o_icmp_ge (tgt := 47) hC dX0_settle_22 (by decide) (fun c_22 => ?_) (fun c_22 => ?_)
      · refine o_iconst (v := nI 1) hC dX0_settle_47 (by decide +kernel) ?_
        refine o_zret hC hB dX0_settle_48 (by first | rfl | decide +kernel) (Nat.le_of_ble_eq_true rfl) (Nat.le_of_ble_eq_true rfl) ?_
        refine ⟨_, rfl, rfl, hd2, Or.inr ⟨hle, rfl, ?_, fun q _ hq => hfr q hq⟩⟩
        rw [hs]
        have e : j = s.2.2 := by omega
        rw [← e]
        exact hw2
      · exact absurd (nI_le (by omega) (by omega)) c_22
    | succ m ih =>
      intro j h' F G hj hle hd2 hw2 hfr hs
      obtain ⟨g1, g2, g3, -⟩ := id hd2
      refine o_iload_n hC dX0_settle_17 (by rfl) ?_
      refine o_aload_n hC dX0_settle_18 (by rfl) ?_
      refine o_getf hC (fX0_18 hC rfl) dX0_settle_19 (by repeat (first | with_reducible assumption | (rw [rl_u_s]; done) | (rw [rl_u_s]; rfl) | rw [rl_u_n (by first | with_reducible assumption | omega)])) (by first | rfl | with_reducible assumption) ?_
      refine o_icmp_ge (tgt := 47) hC dX0_settle_22 (by decide) (fun c_22 => ?_) (fun c_22 => ?_)
      · exact absurd c_22 (nI_ge (by omega) (by omega))
      · refine o_aload_n hC dX0_settle_25 (by rfl) ?_
        refine o_aload_n hC dX0_settle_26 (by rfl) ?_
        refine o_getf hC (fX0_11 hC rfl) dX0_settle_27 (by repeat (first | with_reducible assumption | (rw [rl_u_s]; done) | (rw [rl_u_s]; rfl) | rw [rl_u_n (by first | with_reducible assumption | omega)])) (by first | rfl | with_reducible assumption) ?_
        refine o_iload_n hC dX0_settle_30 (by rfl) ?_
        refine o_laldN (t0 := 1) hC rfl dX0_settle_31 (by repeat (first | with_reducible assumption | (rw [rl_u_s]; done) | (rw [rl_u_s]; rfl) | rw [rl_u_n (by first | with_reducible assumption | omega)])) (by omega) (by decide) ?_
        refine o_aload_n hC dX0_settle_32 (by rfl) ?_
        refine o_getf hC (fX0_15 hC rfl) dX0_settle_33 (by repeat (first | with_reducible assumption | (rw [rl_u_s]; done) | (rw [rl_u_s]; rfl) | rw [rl_u_n (by first | with_reducible assumption | omega)])) (by first | rfl | with_reducible assumption) ?_
        refine o_iload_n hC dX0_settle_36 (by rfl) ?_
        refine o_laldN (t0 := 1) hC rfl dX0_settle_37 (by repeat (first | with_reducible assumption | (rw [rl_u_s]; done) | (rw [rl_u_s]; rfl) | rw [rl_u_n (by first | with_reducible assumption | omega)])) (by omega) (by decide) ?_
        refine o_callV2 hC rl_BW_good rl_Ns_nw (by exact hB.2.2.2.2.2) YX6_insert IX6_insert VX6_insert (mX0_47 hC) (by rw [hB.1]; exact ct_X6_insert l D ids H0 h' n w j F G _ _ hw2) (by exact hw2.1) rfl rfl (Nat.le_of_ble_eq_true rfl) (by rw [hB.2.1]; first | exact Nat.le_of_ble_eq_true rfl | (dsimp only; omega)) (by rw [hB.2.1]; first | exact Nat.le_of_ble_eq_true rfl | (dsimp only; omega)) (by rw [hB.2.1]; first | exact Nat.le_of_ble_eq_true rfl | (dsimp only; omega)) (by rw [hB.2.1]; first | exact Nat.le_of_ble_eq_true rfl | (dsimp only; omega)) dX0_settle_38 (fun v h_38 n_38 p_38 => ?_)
        obtain ⟨rfl, rfl, p2⟩ := p_38
        obtain ⟨p1, p2, p3⟩ := p2.resolve_right (fun q => absurd q.1 (by omega))
        try dsimp only [Option.toList, List.cons_append, List.nil_append]
        refine o_iinc hC dX0_settle_41 (by rfl) (rl_inc _) (Nat.le_of_ble_eq_true rfl) ?_
        refine o_goto (tgt := 17) hC dX0_settle_44 (by decide) ?_
        exact ih (j + 1) _ _ _ (by omega) hle (hd2.kept p3 hdis) p2 (hfr.tr p3) hs
  show rl_G X (rl_e D ids H0) 0 [some (.ref d), some (.ref w), none] [] h n 0 0
  refine o_aload_n hC dX0_settle_0 (by rfl) ?_
  refine o_getf hC (fX0_18 hC rfl) dX0_settle_1 (by repeat (first | with_reducible assumption | (rw [rl_u_s]; done) | (rw [rl_u_s]; rfl) | rw [rl_u_n (by first | with_reducible assumption | omega)])) (by first | rfl | with_reducible assumption) ?_
  refine o_bipush (v := nI 12) hC dX0_settle_4 (by decide +kernel) ?_
  refine o_icmp_le (tgt := 11) hC dX0_settle_6 (by decide) (fun c_6 => ?_) (fun c_6 => ?_)
  · refine o_aload_n hC dX0_settle_11 (by rfl) ?_
    refine o_callV0 hC rl_BW_good rl_Ns_nw (by exact hB.2.2.2.2.2) YX6_becomeFalse IX6_becomeFalse VX6_becomeFalse (mX0_44 hC) (by rw [hB.1]; exact ct_X6_becomeFalse l D ids H0 h n w k f g hw) (by exact hw.1) rfl rfl (Nat.le_of_ble_eq_true rfl) (by rw [hB.2.1]; first | exact Nat.le_of_ble_eq_true rfl | (dsimp only; omega)) (by rw [hB.2.1]; first | exact Nat.le_of_ble_eq_true rfl | (dsimp only; omega)) (by rw [hB.2.1]; first | exact Nat.le_of_ble_eq_true rfl | (dsimp only; omega)) (by rw [hB.2.1]; first | exact Nat.le_of_ble_eq_true rfl | (dsimp only; omega)) dX0_settle_12 (fun v h_12 n_12 p_12 => ?_)
    obtain ⟨rfl, rfl, p1, p2⟩ := p_12
    try dsimp only [Option.toList, List.cons_append, List.nil_append]
    refine o_iconst (v := nI 0) hC dX0_settle_15 (by decide +kernel) ?_
    refine o_istore_n hC dX0_settle_16 (Nat.le_of_ble_eq_true rfl) ?_
    exact loop s.2.2 0 _ f g (by omega) (by rcases Nat.lt_or_ge 12 s.2.2 with q | q; exact absurd c_6 (nI_ge q (by omega)); exact q) (hd.kept p2 (by omega)) p1 (p2.wd (Nat.le_refl _) (by omega)) rfl
  · refine o_iconst (v := nI 0) hC dX0_settle_9 (by decide +kernel) ?_
    refine o_zret hC hB dX0_settle_10 (by first | rfl | decide +kernel) (Nat.le_of_ble_eq_true rfl) (Nat.le_of_ble_eq_true rfl) ?_
    refine ⟨_, rfl, rfl, hd, Or.inl ⟨?_, rfl, rl_fr.rf⟩⟩
    rcases Nat.lt_or_ge 12 s.2.2 with q | q
    · exact q
    · exact absurd (nI_le q (by omega)) c_6

noncomputable def ei_go (f g : Nat → Int64) : Nat → Nat → dr_S → dr_S
  | 0, _, s => s
  | m + 1, j, s => ei_go f g m (j + 1) (dr_add (f j) (g j) s)

set_option maxHeartbeats 4000000 in
set_option maxRecDepth 100000 in
theorem ct_X0_either (l : Launch) (D : va_G) (ids : Nat → ClassId) (H0 : Heap) (h : rl_H) (n : Nat) (d wa wb wm ka kb km : Nat) (s : dr_S) (fa ga fb gb fm gm : Nat → Int64) (hd : dr_at ids h d s) (ha : ws_at ids h wa fa ga ka) (hb : ws_at ids h wb fb gb kb) (hm : ws_at ids h wm fm gm km) (da : d + 3 ≤ wa ∨ wa + 3 ≤ d) (db : d + 3 ≤ wb ∨ wb + 3 ≤ d) (dm : d + 3 ≤ wm ∨ wm + 3 ≤ d) : rl_Met l (rl_e D ids H0) rl_BW rl_Ns yX0_either cX0_either 5 (some .boolean) ({ frames := 2, cells := 0, slots := 0, locals := 47 }) [.ref d, .ref wa, .ref wb, .ref wm] h n (fun v h' n' => ∃ x : Int32, v = some (.int x) ∧ n' = n ∧ dr_out ids h h' d wm (ei_go fb gb kb 0 (ei_go fa ga ka 0 (s.1, s.2.1, 0))) fm gm x) := by
  obtain ⟨h1, h2, h3, hk⟩ := id hd
  refine rl_Met.of (by decide +kernel) (Nat.le_of_ble_eq_true rfl) ?_
  intro X hC hB
  have loop2 : ∀ (m j : Nat) (h' : rl_H) (t : dr_S), j + m = kb → dr_at ids h' d t → rl_fr h h' d (d + 3) → (ei_go fb gb kb 0 (ei_go fa ga ka 0 (s.1, s.2.1, 0))) = ei_go fb gb m j t → rl_G X (rl_e D ids H0) 44 [some (.ref d), some (.ref wa), some (.ref wb), some (.ref wm), some (.int (nI j))] [] h' n 0 0 := by
    intro m
    induction m with
    | zero =>
      intro j h' t hj hd2 hfr hs
      obtain ⟨g1, g2, g3, g4⟩ := id hd2
      obtain ⟨w1, w2, w3, w4⟩ := hb.kept hfr (by omega)
      refine o_iload hC dX0_either_44 (by rfl) ?_
      refine o_aload_n hC dX0_either_46 (by rfl) ?_
      refine o_getf hC (fX0_22 hC rfl) dX0_either_47 (by repeat (first | with_reducible assumption | (rw [rl_u_s]; done) | (rw [rl_u_s]; rfl) | rw [rl_u_n (by first | with_reducible assumption | omega)])) (by first | rfl | with_reducible assumption) ?_
      refine o_icmp_ge (tgt := 77) hC dX0_either_50 (by decide) (fun c_50 => ?_) (fun c_50 => ?_)
      · refine o_aload_n hC dX0_either_77 (by rfl) ?_
        refine o_aload_n hC dX0_either_78 (by rfl) ?_
        refine o_callV1 hC rl_BW_good rl_Ns_nw (by exact hB.2.2.2.2.2) YX0_settle IX0_settle VX0_settle (mX0_31 hC) (by rw [hB.1]; exact ct_X0_settle l D ids H0 h' n d wm km t fm gm hd2 (hm.kept hfr (by omega)) dm) (by exact g1) rfl rfl (Nat.le_of_ble_eq_true rfl) (by rw [hB.2.1]; first | exact Nat.le_of_ble_eq_true rfl | (dsimp only; omega)) (by rw [hB.2.1]; first | exact Nat.le_of_ble_eq_true rfl | (dsimp only; omega)) (by rw [hB.2.1]; first | exact Nat.le_of_ble_eq_true rfl | (dsimp only; omega)) (by rw [hB.2.1]; first | exact Nat.le_of_ble_eq_true rfl | (dsimp only; omega)) dX0_either_79 (fun v h_79 n_79 p_79 => ?_)
        obtain ⟨x, rfl, rfl, p1⟩ := p_79
        try dsimp only [Option.toList, List.cons_append, List.nil_append]
        refine o_zret hC hB dX0_either_82 (by rcases p1.2 with q | q; rw [q.2.1]; decide +kernel; rw [q.2.1]; decide +kernel) (Nat.le_of_ble_eq_true rfl) (Nat.le_of_ble_eq_true rfl) ?_
        refine ⟨x, rfl, rfl, ?_⟩
        rw [hs]
        exact dr_out.of hfr p1
      · exact absurd (nI_le (by omega) (by omega)) c_50
    | succ m ih =>
      intro j h' t hj hd2 hfr hs
      obtain ⟨g1, g2, g3, g4⟩ := id hd2
      obtain ⟨w1, w2, w3, w4⟩ := hb.kept hfr (by omega)
      refine o_iload hC dX0_either_44 (by rfl) ?_
      refine o_aload_n hC dX0_either_46 (by rfl) ?_
      refine o_getf hC (fX0_22 hC rfl) dX0_either_47 (by repeat (first | with_reducible assumption | (rw [rl_u_s]; done) | (rw [rl_u_s]; rfl) | rw [rl_u_n (by first | with_reducible assumption | omega)])) (by first | rfl | with_reducible assumption) ?_
      refine o_icmp_ge (tgt := 77) hC dX0_either_50 (by decide) (fun c_50 => ?_) (fun c_50 => ?_)
      · exact absurd c_50 (nI_ge (by omega) (by omega))
      · refine o_aload_n hC dX0_either_53 (by rfl) ?_
        refine o_aload_n hC dX0_either_54 (by rfl) ?_
        refine o_getf hC (fX0_25 hC rfl) dX0_either_55 (by repeat (first | with_reducible assumption | (rw [rl_u_s]; done) | (rw [rl_u_s]; rfl) | rw [rl_u_n (by first | with_reducible assumption | omega)])) (by first | rfl | with_reducible assumption) ?_
        refine o_iload hC dX0_either_58 (by rfl) ?_
        refine o_laldN (t0 := 1) hC rfl dX0_either_60 (by repeat (first | with_reducible assumption | (rw [rl_u_s]; done) | (rw [rl_u_s]; rfl) | rw [rl_u_n (by first | with_reducible assumption | omega)])) (by omega) (by decide) ?_
        refine o_aload_n hC dX0_either_61 (by rfl) ?_
        refine o_getf hC (fX0_26 hC rfl) dX0_either_62 (by repeat (first | with_reducible assumption | (rw [rl_u_s]; done) | (rw [rl_u_s]; rfl) | rw [rl_u_n (by first | with_reducible assumption | omega)])) (by first | rfl | with_reducible assumption) ?_
        refine o_iload hC dX0_either_65 (by rfl) ?_
        refine o_laldN (t0 := 1) hC rfl dX0_either_67 (by repeat (first | with_reducible assumption | (rw [rl_u_s]; done) | (rw [rl_u_s]; rfl) | rw [rl_u_n (by first | with_reducible assumption | omega)])) (by omega) (by decide) ?_
        refine o_callV2 hC rl_BW_good rl_Ns_nw (by exact hB.2.2.2.2.2) YX0_add IX0_add VX0_add (mX0_27 hC) (by rw [hB.1]; exact ct_X0_add l D ids H0 h' n d t _ _ hd2) (by exact g1) rfl rfl (Nat.le_of_ble_eq_true rfl) (by rw [hB.2.1]; first | exact Nat.le_of_ble_eq_true rfl | (dsimp only; omega)) (by rw [hB.2.1]; first | exact Nat.le_of_ble_eq_true rfl | (dsimp only; omega)) (by rw [hB.2.1]; first | exact Nat.le_of_ble_eq_true rfl | (dsimp only; omega)) (by rw [hB.2.1]; first | exact Nat.le_of_ble_eq_true rfl | (dsimp only; omega)) dX0_either_68 (fun v h_68 n_68 p_68 => ?_)
        obtain ⟨rfl, rfl, p1, p2⟩ := p_68
        try dsimp only [Option.toList, List.cons_append, List.nil_append]
        refine o_iinc hC dX0_either_71 (by rfl) (rl_inc _) (Nat.le_of_ble_eq_true rfl) ?_
        refine o_goto (tgt := 44) hC dX0_either_74 (by decide) ?_
        exact ih (j + 1) _ _ (by omega) p1 (hfr.tr p2) hs
  have loop1 : ∀ (m j : Nat) (h' : rl_H) (t : dr_S), j + m = ka → dr_at ids h' d t → rl_fr h h' d (d + 3) → (ei_go fa ga ka 0 (s.1, s.2.1, 0)) = ei_go fa ga m j t → rl_G X (rl_e D ids H0) 8 [some (.ref d), some (.ref wa), some (.ref wb), some (.ref wm), some (.int (nI j))] [] h' n 0 0 := by
    intro m
    induction m with
    | zero =>
      intro j h' t hj hd2 hfr hs
      obtain ⟨g1, g2, g3, g4⟩ := id hd2
      obtain ⟨w1, w2, w3, w4⟩ := ha.kept hfr (by omega)
      refine o_iload hC dX0_either_8 (by rfl) ?_
      refine o_aload_n hC dX0_either_10 (by rfl) ?_
      refine o_getf hC (fX0_22 hC rfl) dX0_either_11 (by repeat (first | with_reducible assumption | (rw [rl_u_s]; done) | (rw [rl_u_s]; rfl) | rw [rl_u_n (by first | with_reducible assumption | omega)])) (by first | rfl | with_reducible assumption) ?_
      refine o_icmp_ge (tgt := 41) hC dX0_either_14 (by decide) (fun c_14 => ?_) (fun c_14 => ?_)
      · refine o_iconst (v := nI 0) hC dX0_either_41 (by decide +kernel) ?_
        refine o_istore hC dX0_either_42 (Nat.le_of_ble_eq_true rfl) ?_
        exact loop2 kb 0 _ _ (by omega) hd2 hfr (by rw [hs]; rfl)
      · exact absurd (nI_le (by omega) (by omega)) c_14
    | succ m ih =>
      intro j h' t hj hd2 hfr hs
      obtain ⟨g1, g2, g3, g4⟩ := id hd2
      obtain ⟨w1, w2, w3, w4⟩ := ha.kept hfr (by omega)
      refine o_iload hC dX0_either_8 (by rfl) ?_
      refine o_aload_n hC dX0_either_10 (by rfl) ?_
      refine o_getf hC (fX0_22 hC rfl) dX0_either_11 (by repeat (first | with_reducible assumption | (rw [rl_u_s]; done) | (rw [rl_u_s]; rfl) | rw [rl_u_n (by first | with_reducible assumption | omega)])) (by first | rfl | with_reducible assumption) ?_
      refine o_icmp_ge (tgt := 41) hC dX0_either_14 (by decide) (fun c_14 => ?_) (fun c_14 => ?_)
      · exact absurd c_14 (nI_ge (by omega) (by omega))
      · refine o_aload_n hC dX0_either_17 (by rfl) ?_
        refine o_aload_n hC dX0_either_18 (by rfl) ?_
        refine o_getf hC (fX0_25 hC rfl) dX0_either_19 (by repeat (first | with_reducible assumption | (rw [rl_u_s]; done) | (rw [rl_u_s]; rfl) | rw [rl_u_n (by first | with_reducible assumption | omega)])) (by first | rfl | with_reducible assumption) ?_
        refine o_iload hC dX0_either_22 (by rfl) ?_
        refine o_laldN (t0 := 1) hC rfl dX0_either_24 (by repeat (first | with_reducible assumption | (rw [rl_u_s]; done) | (rw [rl_u_s]; rfl) | rw [rl_u_n (by first | with_reducible assumption | omega)])) (by omega) (by decide) ?_
        refine o_aload_n hC dX0_either_25 (by rfl) ?_
        refine o_getf hC (fX0_26 hC rfl) dX0_either_26 (by repeat (first | with_reducible assumption | (rw [rl_u_s]; done) | (rw [rl_u_s]; rfl) | rw [rl_u_n (by first | with_reducible assumption | omega)])) (by first | rfl | with_reducible assumption) ?_
        refine o_iload hC dX0_either_29 (by rfl) ?_
        refine o_laldN (t0 := 1) hC rfl dX0_either_31 (by repeat (first | with_reducible assumption | (rw [rl_u_s]; done) | (rw [rl_u_s]; rfl) | rw [rl_u_n (by first | with_reducible assumption | omega)])) (by omega) (by decide) ?_
        refine o_callV2 hC rl_BW_good rl_Ns_nw (by exact hB.2.2.2.2.2) YX0_add IX0_add VX0_add (mX0_27 hC) (by rw [hB.1]; exact ct_X0_add l D ids H0 h' n d t _ _ hd2) (by exact g1) rfl rfl (Nat.le_of_ble_eq_true rfl) (by rw [hB.2.1]; first | exact Nat.le_of_ble_eq_true rfl | (dsimp only; omega)) (by rw [hB.2.1]; first | exact Nat.le_of_ble_eq_true rfl | (dsimp only; omega)) (by rw [hB.2.1]; first | exact Nat.le_of_ble_eq_true rfl | (dsimp only; omega)) (by rw [hB.2.1]; first | exact Nat.le_of_ble_eq_true rfl | (dsimp only; omega)) dX0_either_32 (fun v h_32 n_32 p_32 => ?_)
        obtain ⟨rfl, rfl, p1, p2⟩ := p_32
        try dsimp only [Option.toList, List.cons_append, List.nil_append]
        refine o_iinc hC dX0_either_35 (by rfl) (rl_inc _) (Nat.le_of_ble_eq_true rfl) ?_
        refine o_goto (tgt := 8) hC dX0_either_38 (by decide) ?_
        exact ih (j + 1) _ _ (by omega) p1 (hfr.tr p2) hs
  show rl_G X (rl_e D ids H0) 0 [some (.ref d), some (.ref wa), some (.ref wb), some (.ref wm), none] [] h n 0 0
  refine o_aload_n hC dX0_either_0 (by rfl) ?_
  refine o_iconst (v := nI 0) hC dX0_either_1 (by decide +kernel) ?_
  refine o_putf hC (fX0_18 hC rfl) (fwX0 rfl rfl rfl (Or.inl rfl)) dX0_either_2 (by repeat (first | with_reducible assumption | (rw [rl_u_s]; done) | (rw [rl_u_s]; rfl) | rw [rl_u_n (by first | with_reducible assumption | omega)])) (Nat.le_of_ble_eq_true rfl) ?_
  try simp only [List.set_cons_zero, List.set_cons_succ]
  refine o_iconst (v := nI 0) hC dX0_either_5 (by decide +kernel) ?_
  refine o_istore hC dX0_either_6 (Nat.le_of_ble_eq_true rfl) ?_
  exact loop1 _ 0 _ _ (by omega) ⟨by repeat (first | with_reducible assumption | (rw [rl_u_s]; done) | (rw [rl_u_s]; rfl) | rw [rl_u_n (by first | with_reducible assumption | omega)]), by repeat (first | with_reducible assumption | (rw [rl_u_s]; done) | (rw [rl_u_s]; rfl) | rw [rl_u_n (by first | with_reducible assumption | omega)]), by repeat (first | with_reducible assumption | (rw [rl_u_s]; done) | (rw [rl_u_s]; rfl) | rw [rl_u_n (by first | with_reducible assumption | omega)]), Nat.zero_le _⟩ (fun q hq => rl_u_n (by omega)) rfl
end
section
/-! RowLineage$Tuple: at t, its cells at t + 1, its Ways at t + 2 -/
def tp_at (ids : Nat → ClassId) (h : rl_H) (t : Nat) (c : Nat → Int32) (f g : Nat → Int64) (k : Nat) : Prop :=
  h t = some (.inr (5, [.ref (t + 1), .ref (t + 2)])) ∧ h (t + 1) = some (.inl (ids 0, 6, .inl c)) ∧ ws_at ids h (t + 2) f g k
theorem tp_at.kept {ids : Nat → ClassId} {h h' : rl_H} {t a b : Nat} {c : Nat → Int32} {f g : Nat → Int64} {k : Nat} (H : tp_at ids h t c f g k) (hf : rl_fr h h' a b) (hd : t + 5 ≤ a ∨ b ≤ t) : tp_at ids h' t c f g k :=
  ⟨by rw [hf t (by omega)]; exact H.1, by rw [hf (t + 1) (by omega)]; exact H.2.1, H.2.2.kept hf (by omega)⟩

set_option maxHeartbeats 4000000 in
set_option maxRecDepth 100000 in
theorem ct_X5_init (l : Launch) (D : va_G) (ids : Nat → ClassId) (H0 : Heap) (h : rl_H) (n : Nat) (t : Nat) (h1 : h t = some (.inr (5, [.null, .null]))) (hn : n = t + 1) : rl_Met l (rl_e D ids H0) rl_BW rl_Ns yX5_init cX5_init 1 none ({ frames := 2, cells := 4, slots := 33, locals := 36 }) [.ref t] h n (fun v h' n' => v = none ∧ n' = t + 5 ∧ tp_at ids h' t (fun _ => 0) (fun _ => 0) (fun _ => 0) 0 ∧ rl_fr h h' t (t + 5)) := by
  subst hn
  refine rl_Met.of (by decide +kernel) (Nat.le_of_ble_eq_true rfl) ?_
  intro X hC hB
  show rl_G X (rl_e D ids H0) 0 [some (.ref t)] [] h (t + 1) 0 0
  refine o_aload_n hC dX5_init_0 (by rfl) ?_
  refine o_objInit hC (by exact hB.2.2.2.2.2) mX5_3 w_objI w_objC dX5_init_1 (by rw [hB.2.1]; first | exact Nat.le_of_ble_eq_true rfl | (dsimp only; omega)) (by rw [hB.2.1]; first | exact Nat.le_of_ble_eq_true rfl | (dsimp only; omega)) ?_
  refine o_aload_n hC dX5_init_4 (by rfl) ?_
  refine o_bipush (v := nI 6) hC dX5_init_5 (by decide +kernel) ?_
  refine o_newa (atype := .int) (ty := .int) (t0 := 0) (N' := 6) (x := .inl (fun _ => 0)) hC rfl (fun C q => by cases q) aw_int rfl rfl (nI_pos (by decide)) (nI_clamp (by decide)) (by decide) (by rw [hB.2.1]; first | exact Nat.le_of_ble_eq_true rfl | (dsimp only; omega)) (by rw [hB.2.1]; first | exact Nat.le_of_ble_eq_true rfl | (dsimp only; omega)) dX5_init_7 ?_
  refine o_putf hC (fX5_9 hC rfl) (fwX5 rfl rfl rfl (Or.inr ⟨rfl, hB.2.2.2.2.1, rfl⟩)) dX5_init_9 (by repeat (first | with_reducible assumption | (rw [rl_u_s]; done) | (rw [rl_u_s]; rfl) | rw [rl_u_n (by first | with_reducible assumption | omega)])) (Nat.le_of_ble_eq_true rfl) ?_
  try simp only [List.set_cons_zero, List.set_cons_succ]
  refine o_aload_n hC dX5_init_12 (by rfl) ?_
  refine o_new (ci := 6) (fs := [.null, .null, .int (nI 0)]) hC rfl uX6 tyX6 tyX6_ok kX5_15 iX6 zX6 (by decide +kernel) (by rw [hB.2.1]; first | exact Nat.le_of_ble_eq_true rfl | (dsimp only; omega)) (by rw [hB.2.1]; first | exact Nat.le_of_ble_eq_true rfl | (dsimp only; omega)) dX5_init_13 ?_
  refine o_dup hC dX5_init_16 rfl ?_
  refine o_callI0 hC rl_BW_good rl_Ns_nw (by exact hB.2.2.2.2.2) YX6_init rfl IX6_init (mX5_17 hC) (by rw [hB.1]; exact ct_X6_init l D ids H0 _ _ (t + 2) (by repeat (first | with_reducible assumption | (rw [rl_u_s]; done) | (rw [rl_u_s]; rfl) | rw [rl_u_n (by first | with_reducible assumption | omega)])) rfl) (Nat.le_of_ble_eq_true rfl) (by rw [hB.2.1]; first | exact Nat.le_of_ble_eq_true rfl | (dsimp only; omega)) (by rw [hB.2.1]; first | exact Nat.le_of_ble_eq_true rfl | (dsimp only; omega)) (by rw [hB.2.1]; first | exact Nat.le_of_ble_eq_true rfl | (dsimp only; omega)) (by rw [hB.2.1]; first | exact Nat.le_of_ble_eq_true rfl | (dsimp only; omega)) dX5_init_17 (fun v h_17 n_17 p_17 => ?_)
  obtain ⟨rfl, rfl, p1, p2⟩ := p_17
  have q0 : h_17 t = some (.inr (5, [.ref (t + 1), .null])) := by
    rw [p2 t (by omega)]
    repeat (first | with_reducible assumption | (rw [rl_u_s]; done) | (rw [rl_u_s]; rfl) | rw [rl_u_n (by first | with_reducible assumption | omega)])
  have q1 : h_17 (t + 1) = some (.inl (ids 0, 6, .inl (fun _ => 0))) := by
    rw [p2 (t + 1) (by omega)]
    repeat (first | with_reducible assumption | (rw [rl_u_s]; done) | (rw [rl_u_s]; rfl) | rw [rl_u_n (by first | with_reducible assumption | omega)])
  try dsimp only [Option.toList, List.cons_append, List.nil_append]
  refine o_putf hC (fX5_18 hC rfl) (fwX5 rfl rfl rfl (Or.inr ⟨rfl, hB.2.2.2.2.1, rfl⟩)) dX5_init_20 (by repeat (first | with_reducible assumption | (rw [rl_u_s]; done) | (rw [rl_u_s]; rfl) | rw [rl_u_n (by first | with_reducible assumption | omega)])) (Nat.le_of_ble_eq_true rfl) ?_
  try simp only [List.set_cons_zero, List.set_cons_succ]
  refine o_vret hC hB dX5_init_23 (Nat.le_of_ble_eq_true rfl) (Nat.le_of_ble_eq_true rfl) ?_
  refine ⟨rfl, rfl, ⟨by repeat (first | with_reducible assumption | (rw [rl_u_s]; done) | (rw [rl_u_s]; rfl) | rw [rl_u_n (by first | with_reducible assumption | omega)]), by repeat (first | with_reducible assumption | (rw [rl_u_s]; done) | (rw [rl_u_s]; rfl) | rw [rl_u_n (by first | with_reducible assumption | omega)]), p1.kept (a := t) (b := t + 1) (fun q hq => rl_u_n (by omega)) (by omega)⟩, ?_⟩
  intro q hq
  rw [rl_u_n (by omega), p2 q (by omega)]
  repeat (first | rfl | rw [rl_u_n (by omega)])

set_option maxHeartbeats 4000000 in
set_option maxRecDepth 100000 in
theorem ct_X5_become (l : Launch) (D : va_G) (ids : Nat → ClassId) (H0 : Heap) (h : rl_H) (n : Nat) (t ka k : Nat) (c kc : Nat → Int32) (f g : Nat → Int64) (ht : tp_at ids h t c f g k) (hk1 : h ka = some (.inl (ids 0, 6, .inl kc))) : rl_Met l (rl_e D ids H0) rl_BW rl_Ns yX5_become cX5_become 2 none ({ frames := 1, cells := 0, slots := 0, locals := 80 }) [.ref t, .ref ka] h n (fun v h' n' => v = none ∧ n' = n ∧ tp_at ids h' t (va_cpy kc c 0 0 6) f g 0 ∧ rl_fr h h' t (t + 5)) := by
  obtain ⟨h1, h2, hw⟩ := ht
  refine rl_Met.of (by decide +kernel) (Nat.le_of_ble_eq_true rfl) ?_
  intro X hC hB
  show rl_G X (rl_e D ids H0) 0 [some (.ref t), some (.ref ka)] [] h n 0 0
  refine o_aload_n hC dX5_become_0 (by rfl) ?_
  refine o_iconst (v := nI 0) hC dX5_become_1 (by decide +kernel) ?_
  refine o_aload_n hC dX5_become_2 (by rfl) ?_
  refine o_getf hC (fX5_9 hC rfl) dX5_become_3 (by repeat (first | with_reducible assumption | (rw [rl_u_s]; done) | (rw [rl_u_s]; rfl) | rw [rl_u_n (by first | with_reducible assumption | omega)])) (by first | rfl | with_reducible assumption) ?_
  refine o_iconst (v := nI 0) hC dX5_become_6 (by decide +kernel) ?_
  refine o_bipush (v := nI 6) hC dX5_become_7 (by decide +kernel) ?_
  refine o_copyi (t0 := 0) (sp := 0) (dp := 0) (k := 6) hC (by exact hB.2.2.2.2.2) acX5_22 w_acN w_acS w_acI rfl rfl dX5_become_9 hk1 h2 (by omega) (by omega) (by decide) (by decide) (by rw [hB.2.1]; first | exact Nat.le_of_ble_eq_true rfl | (dsimp only; omega)) (by rw [hB.2.1]; first | exact Nat.le_of_ble_eq_true rfl | (dsimp only; omega)) ?_
  have f1 : rl_fr h (rl_u h (t + 1) (.inl (ids 0, 6, .inl (va_cpy kc c 0 0 6)))) (t + 1) (t + 2) := fun q hq => rl_u_n (by omega)
  have w1 := hw.kept f1 (by omega)
  have r0 : (rl_u h (t + 1) (.inl (ids 0, 6, .inl (va_cpy kc c 0 0 6)))) t = some (.inr (5, [.ref (t + 1), .ref (t + 2)])) := by rw [rl_u_n (by omega)]; exact h1
  have r1 : (rl_u h (t + 1) (.inl (ids 0, 6, .inl (va_cpy kc c 0 0 6)))) (t + 1) = some (.inl (ids 0, 6, .inl (va_cpy kc c 0 0 6))) := rl_u_s
  generalize rl_u h (t + 1) (.inl (ids 0, 6, .inl (va_cpy kc c 0 0 6))) = hh at f1 w1 r0 r1 ⊢
  refine o_aload_n hC dX5_become_12 (by rfl) ?_
  refine o_getf hC (fX5_18 hC rfl) dX5_become_13 (by repeat (first | with_reducible assumption | (rw [rl_u_s]; done) | (rw [rl_u_s]; rfl) | rw [rl_u_n (by first | with_reducible assumption | omega)])) (by first | rfl | with_reducible assumption) ?_
  refine o_callV0 hC rl_BW_good rl_Ns_nw (by exact hB.2.2.2.2.2) YX6_becomeFalse IX6_becomeFalse VX6_becomeFalse (mX5_28 hC) (by rw [hB.1]; exact ct_X6_becomeFalse l D ids H0 hh n (t + 2) k f g w1) (by exact w1.1) rfl rfl (Nat.le_of_ble_eq_true rfl) (by rw [hB.2.1]; first | exact Nat.le_of_ble_eq_true rfl | (dsimp only; omega)) (by rw [hB.2.1]; first | exact Nat.le_of_ble_eq_true rfl | (dsimp only; omega)) (by rw [hB.2.1]; first | exact Nat.le_of_ble_eq_true rfl | (dsimp only; omega)) (by rw [hB.2.1]; first | exact Nat.le_of_ble_eq_true rfl | (dsimp only; omega)) dX5_become_16 (fun v h_16 n_16 p_16 => ?_)
  obtain ⟨rfl, rfl, p1, p2⟩ := p_16
  try dsimp only [Option.toList, List.cons_append, List.nil_append]
  refine o_vret hC hB dX5_become_19 (Nat.le_of_ble_eq_true rfl) (Nat.le_of_ble_eq_true rfl) ?_
  refine ⟨rfl, rfl, ⟨by rw [p2 t (by omega)]; exact r0, by rw [p2 (t + 1) (by omega)]; exact r1, p1⟩, (f1.wd (by omega) (by omega)).tr (p2.wd (by omega) (by omega))⟩

/-- the order of two TUPLES by their first w numbers, from j on -/
def tb_ord (a b : Nat → Int32) : Nat → Nat → Int32
  | 0, _ => nI 0
  | m + 1, j => if a j = b j then tb_ord a b m (j + 1) else if b j ≤ a j then nI 1 else -1

set_option maxHeartbeats 4000000 in
set_option maxRecDepth 100000 in
theorem ct_X4_order (l : Launch) (D : va_G) (ids : Nat → ClassId) (H0 : Heap) (h : rl_H) (n : Nat) (a x z wd : Nat) (tv : Value) (sv : Value) (p q : Nat → Int32) (h1 : h a = some (.inr (4, [tv, sv, .int (nI wd)]))) (h2 : h x = some (.inl (ids 0, 6, .inl p))) (h3 : h z = some (.inl (ids 0, 6, .inl q))) (hwd : wd ≤ 6) : rl_Met l (rl_e D ids H0) rl_BW rl_Ns yX4_order cX4_order 4 (some .int) ({ frames := 0, cells := 0, slots := 0, locals := 0 }) [.ref a, .ref x, .ref z] h n (fun v h' n' => v = some (.int (tb_ord p q wd 0)) ∧ h' = h ∧ n' = n) := by
  refine rl_Met.of (by decide +kernel) (Nat.le_of_ble_eq_true rfl) ?_
  intro X hC hB
  have loop : ∀ (m j : Nat), j + m = wd → tb_ord p q wd 0 = tb_ord p q m j → rl_G X (rl_e D ids H0) 2 [some (.ref a), some (.ref x), some (.ref z), some (.int (nI j))] [] h n 0 0 := by
    intro m
    induction m with
    | zero =>
      intro j hj hs
      refine o_iload_n hC dX4_order_2 (by rfl) ?_
      refine o_aload_n hC dX4_order_3 (by rfl) ?_
      refine o_getf hC (fX4_22 hC rfl) dX4_order_4 (by repeat (first | with_reducible assumption | (rw [rl_u_s]; done) | (rw [rl_u_s]; rfl) | rw [rl_u_n (by first | with_reducible assumption | omega)])) (by first | rfl | with_reducible assumption) ?_
      refine o_icmp_ge (tgt := 40) hC dX4_order_7 (by decide) (fun c_7 => ?_) (fun c_7 => ?_)
      · refine o_iconst (v := nI 0) hC dX4_order_40 (by decide +kernel) ?_
        refine o_iret hC hB dX4_order_41 (Nat.le_of_ble_eq_true rfl) (Nat.le_of_ble_eq_true rfl) ?_
        exact ⟨by rw [hs]; rfl, rfl, rfl⟩
      · exact absurd (nI_le (by omega) (by omega)) c_7
    | succ m ih =>
      intro j hj hs
      refine o_iload_n hC dX4_order_2 (by rfl) ?_
      refine o_aload_n hC dX4_order_3 (by rfl) ?_
      refine o_getf hC (fX4_22 hC rfl) dX4_order_4 (by repeat (first | with_reducible assumption | (rw [rl_u_s]; done) | (rw [rl_u_s]; rfl) | rw [rl_u_n (by first | with_reducible assumption | omega)])) (by first | rfl | with_reducible assumption) ?_
      refine o_icmp_ge (tgt := 40) hC dX4_order_7 (by decide) (fun c_7 => ?_) (fun c_7 => ?_)
      · exact absurd c_7 (nI_ge (by omega) (by omega))
      · refine o_aload_n hC dX4_order_10 (by rfl) ?_
        refine o_iload_n hC dX4_order_11 (by rfl) ?_
        refine o_ialdN (t0 := 0) hC rfl dX4_order_12 (by repeat (first | with_reducible assumption | (rw [rl_u_s]; done) | (rw [rl_u_s]; rfl) | rw [rl_u_n (by first | with_reducible assumption | omega)])) (by omega) (by decide) ?_
        refine o_aload_n hC dX4_order_13 (by rfl) ?_
        refine o_iload_n hC dX4_order_14 (by rfl) ?_
        refine o_ialdN (t0 := 0) hC rfl dX4_order_15 (by repeat (first | with_reducible assumption | (rw [rl_u_s]; done) | (rw [rl_u_s]; rfl) | rw [rl_u_n (by first | with_reducible assumption | omega)])) (by omega) (by decide) ?_
        refine o_icmp_eq (tgt := 34) hC dX4_order_16 (by decide) (fun c_16 => ?_) (fun c_16 => ?_)
        · refine o_iinc hC dX4_order_34 (by rfl) (rl_inc _) (Nat.le_of_ble_eq_true rfl) ?_
          refine o_goto (tgt := 2) hC dX4_order_37 (by decide) ?_
          exact ih (j + 1) (by omega) (by rw [hs, tb_ord, if_pos c_16])
        · refine o_aload_n hC dX4_order_19 (by rfl) ?_
          refine o_iload_n hC dX4_order_20 (by rfl) ?_
          refine o_ialdN (t0 := 0) hC rfl dX4_order_21 (by repeat (first | with_reducible assumption | (rw [rl_u_s]; done) | (rw [rl_u_s]; rfl) | rw [rl_u_n (by first | with_reducible assumption | omega)])) (by omega) (by decide) ?_
          refine o_aload_n hC dX4_order_22 (by rfl) ?_
          refine o_iload_n hC dX4_order_23 (by rfl) ?_
          refine o_ialdN (t0 := 0) hC rfl dX4_order_24 (by repeat (first | with_reducible assumption | (rw [rl_u_s]; done) | (rw [rl_u_s]; rfl) | rw [rl_u_n (by first | with_reducible assumption | omega)])) (by omega) (by decide) ?_
          refine o_icmp_ge (tgt := 32) hC dX4_order_25 (by decide) (fun c_25 => ?_) (fun c_25 => ?_)
          · refine o_iconst (v := nI 1) hC dX4_order_32 (by decide +kernel) ?_
            refine o_iret hC hB dX4_order_33 (Nat.le_of_ble_eq_true rfl) (Nat.le_of_ble_eq_true rfl) ?_
            refine ⟨?_, rfl, rfl⟩
            rw [hs, tb_ord, if_neg c_16]
            first | rw [if_pos c_25] | rw [if_neg c_25]
          · refine o_iconst (v := (-1 : Int32)) hC dX4_order_28 (by decide +kernel) ?_
            refine o_goto (tgt := 33) hC dX4_order_29 (by decide) ?_
            refine o_iret hC hB dX4_order_33 (Nat.le_of_ble_eq_true rfl) (Nat.le_of_ble_eq_true rfl) ?_
            refine ⟨?_, rfl, rfl⟩
            rw [hs, tb_ord, if_neg c_16]
            first | rw [if_pos c_25] | rw [if_neg c_25]
  show rl_G X (rl_e D ids H0) 0 [some (.ref a), some (.ref x), some (.ref z), none] [] h n 0 0
  refine o_iconst (v := nI 0) hC dX4_order_0 (by decide +kernel) ?_
  refine o_istore_n hC dX4_order_1 (Nat.le_of_ble_eq_true rfl) ?_
  exact loop wd 0 (by omega) rfl

set_option maxHeartbeats 4000000 in
set_option maxRecDepth 100000 in
theorem ct_X4_begin (l : Launch) (D : va_G) (ids : Nat → ClassId) (H0 : Heap) (h : rl_H) (n : Nat) (a : Nat) (tv sv wv : Value) (x : Int32) (h1 : h a = some (.inr (4, [tv, sv, wv]))) : rl_Met l (rl_e D ids H0) rl_BW rl_Ns yX4_begin cX4_begin 2 none ({ frames := 0, cells := 0, slots := 0, locals := 0 }) [.ref a, .int x] h n (fun v h' n' => v = none ∧ n' = n ∧ h' a = some (.inr (4, [tv, .int (nI 0), .int x])) ∧ ∀ q : Nat, q ≠ a → h' q = h q) := by
  refine rl_Met.of (by decide +kernel) (Nat.le_of_ble_eq_true rfl) ?_
  intro X hC hB
  show rl_G X (rl_e D ids H0) 0 [some (.ref a), some (.int x)] [] h n 0 0
  refine o_aload_n hC dX4_begin_0 (by rfl) ?_
  refine o_iconst (v := nI 0) hC dX4_begin_1 (by decide +kernel) ?_
  refine o_putf hC (fX4_18 hC rfl) (fwX4 rfl rfl rfl (Or.inl rfl)) dX4_begin_2 (by repeat (first | with_reducible assumption | (rw [rl_u_s]; done) | (rw [rl_u_s]; rfl) | rw [rl_u_n (by first | with_reducible assumption | omega)])) (Nat.le_of_ble_eq_true rfl) ?_
  try simp only [List.set_cons_zero, List.set_cons_succ]
  refine o_aload_n hC dX4_begin_5 (by rfl) ?_
  refine o_iload_n hC dX4_begin_6 (by rfl) ?_
  refine o_putf hC (fX4_22 hC rfl) (fwX4 rfl rfl rfl (Or.inl rfl)) dX4_begin_7 (by repeat (first | with_reducible assumption | (rw [rl_u_s]; done) | (rw [rl_u_s]; rfl) | rw [rl_u_n (by first | with_reducible assumption | omega)])) (Nat.le_of_ble_eq_true rfl) ?_
  try simp only [List.set_cons_zero, List.set_cons_succ]
  refine o_vret hC hB dX4_begin_10 (Nat.le_of_ble_eq_true rfl) (Nat.le_of_ble_eq_true rfl) ?_
  refine ⟨rfl, rfl, by repeat (first | with_reducible assumption | (rw [rl_u_s]; done) | (rw [rl_u_s]; rfl) | rw [rl_u_n (by first | with_reducible assumption | omega)]), ?_⟩
  intro q hq
  repeat (first | rfl | rw [rl_u_n hq])
end
section
set_option maxHeartbeats 4000000 in
set_option maxRecDepth 100000 in
theorem ct_X4_init (l : Launch) (D : va_G) (ids : Nat → ClassId) (H0 : Heap) (h : rl_H) (n : Nat) (a r : Nat) (h1 : h a = some (.inr (4, [.null, .int (nI 0), .int (nI 0)]))) (hn : n = a + 1) (hr : r ≤ 80) : rl_Met l (rl_e D ids H0) rl_BW rl_Ns yX4_init cX4_init 3 none ({ frames := 3, cells := 1 + 5 * r, slots := 80 + 35 * r, locals := 56 }) [.ref a, .int (nI r)] h n (fun v h' n' => v = none ∧ n' = a + 2 + 5 * r ∧ ∃ p : Nat → Option Nat, h' a = some (.inr (4, [.ref (a + 1), .int (nI 0), .int (nI 0)])) ∧ h' (a + 1) = some (.inl (ids 3, 80, .inr (.inr (.inr (.inr p))))) ∧ (∀ i, i < 80 → p i = if i < r then some (a + 2 + 5 * i) else none) ∧ (∀ i, i < r → tp_at ids h' (a + 2 + 5 * i) (fun _ => 0) (fun _ => 0) (fun _ => 0) 0) ∧ rl_fr h h' a (a + 2 + 5 * r)) := by
  subst hn
  refine rl_Met.of (by decide +kernel) (Nat.le_of_ble_eq_true rfl) ?_
  intro X hC hB
  have loop : ∀ (m j : Nat) (h' : rl_H) (p : Nat → Option Nat), j + m = r → h' a = some (.inr (4, [.ref (a + 1), .int (nI 0), .int (nI 0)])) ∧ h' (a + 1) = some (.inl (ids 3, 80, .inr (.inr (.inr (.inr p))))) ∧ (∀ i, i < 80 → p i = if i < j then some (a + 2 + 5 * i) else none) ∧ (∀ i, i < j → tp_at ids h' (a + 2 + 5 * i) (fun _ => 0) (fun _ => 0) (fun _ => 0) 0) ∧ rl_fr h h' a (a + 2 + 5 * j) → rl_G X (rl_e D ids H0) 15 [some (.ref a), some (.int (nI r)), some (.int (nI j))] [] h' (a + 2 + 5 * j) (1 + 5 * j) (80 + 35 * j) := by
    intro m
    induction m with
    | zero =>
      intro j h' p hj hI
      have e : j = r := by omega
      subst e
      refine o_iload_n hC dX4_init_15 (by rfl) ?_
      refine o_iload_n hC dX4_init_16 (by rfl) ?_
      refine o_icmp_ge (tgt := 45) hC dX4_init_17 (by decide) (fun c_17 => ?_) (fun c_17 => ?_)
      · refine o_vret hC hB dX4_init_45 (by first | omega | (dsimp only; omega)) (by first | omega | (dsimp only; omega)) ?_
        exact ⟨rfl, rfl, p, hI⟩
      · exact absurd (nI_le (Nat.le_refl _) (by omega)) c_17
    | succ m ih =>
      intro j h' p hj hI
      obtain ⟨g1, g2, g3, g4, g5⟩ := hI
      refine o_iload_n hC dX4_init_15 (by rfl) ?_
      refine o_iload_n hC dX4_init_16 (by rfl) ?_
      refine o_icmp_ge (tgt := 45) hC dX4_init_17 (by decide) (fun c_17 => ?_) (fun c_17 => ?_)
      · first | exact absurd c_17 (nI_ge (by omega) (by omega)) | exact absurd c_23 (nI_ge (by omega) (by omega))
      · refine o_iload_n hC dX4_init_20 (by rfl) ?_
        refine o_bipush (v := nI 80) hC dX4_init_21 (by decide +kernel) ?_
        refine o_icmp_ge (tgt := 45) hC dX4_init_23 (by decide) (fun c_23 => ?_) (fun c_23 => ?_)
        · first | exact absurd c_17 (nI_ge (by omega) (by omega)) | exact absurd c_23 (nI_ge (by omega) (by omega))
        · refine o_aload_n hC dX4_init_26 (by rfl) ?_
          refine o_getf hC (fX4_11 hC rfl) dX4_init_27 (by repeat (first | with_reducible assumption | (rw [rl_u_s]; done) | (rw [rl_u_s]; rfl) | rw [rl_u_n (by first | with_reducible assumption | omega)])) (by first | rfl | with_reducible assumption) ?_
          refine o_iload_n hC dX4_init_30 (by rfl) ?_
          refine o_new (ci := 5) (fs := [.null, .null]) hC rfl uX5 tyX5 tyX5_ok kX4_9 iX5 zX5 (by decide +kernel) (by rw [hB.2.1]; first | exact Nat.le_of_ble_eq_true rfl | (dsimp only; omega)) (by rw [hB.2.1]; first | exact Nat.le_of_ble_eq_true rfl | (dsimp only; omega)) dX4_init_31 ?_
          refine o_dup hC dX4_init_34 rfl ?_
          refine o_callI0 hC rl_BW_good rl_Ns_nw (by exact hB.2.2.2.2.2) YX5_init rfl IX5_init (mX4_17 hC) (by rw [hB.1]; exact ct_X5_init l D ids H0 _ _ (a + 2 + 5 * j) (by repeat (first | with_reducible assumption | (rw [rl_u_s]; done) | (rw [rl_u_s]; rfl) | rw [rl_u_n (by first | with_reducible assumption | omega)])) rfl) (Nat.le_of_ble_eq_true rfl) (by rw [hB.2.1]; first | exact Nat.le_of_ble_eq_true rfl | (dsimp only; omega)) (by rw [hB.2.1]; first | exact Nat.le_of_ble_eq_true rfl | (dsimp only; omega)) (by rw [hB.2.1]; first | exact Nat.le_of_ble_eq_true rfl | (dsimp only; omega)) (by rw [hB.2.1]; first | exact Nat.le_of_ble_eq_true rfl | (dsimp only; omega)) dX4_init_35 (fun v h_35 n_35 p_35 => ?_)
          obtain ⟨rfl, rfl, p1, p2⟩ := p_35
          have r1 : h_35 a = some (.inr (4, [.ref (a + 1), .int (nI 0), .int (nI 0)])) := by
            repeat (first | with_reducible assumption | (rw [rl_u_s]; done) | (rw [rl_u_s]; rfl) | rw [rl_u_n (by first | with_reducible assumption | omega)] | rw [p2 _ (by omega)])
          have r2 : h_35 (a + 1) = some (.inl (ids 3, 80, .inr (.inr (.inr (.inr p))))) := by
            repeat (first | with_reducible assumption | (rw [rl_u_s]; done) | (rw [rl_u_s]; rfl) | rw [rl_u_n (by first | with_reducible assumption | omega)] | rw [p2 _ (by omega)])
          try dsimp only [Option.toList, List.cons_append, List.nil_append]
          refine o_aastN (t0 := 3) (vs := [.ref (a + 2 + 5 * j + 1), .ref (a + 2 + 5 * j + 2)]) hC rfl rfl dX4_init_38 r2 p1.1 (by omega) (by decide) ?_
          refine o_iinc hC dX4_init_39 (by rfl) (rl_inc _) (Nat.le_of_ble_eq_true rfl) ?_
          refine o_goto (tgt := 15) hC dX4_init_42 (by decide) ?_
          refine rl_G.widen (ce' := 1 + 5 * (j + 1)) (sl' := 80 + 35 * (j + 1)) (by first | omega | (dsimp only; omega)) (by first | omega | (dsimp only; omega)) ?_
          have hI2 : (rl_u h_35 (a + 1) (.inl (ids 3, 80, .inr (.inr (.inr (.inr (va_up p j (some (a + 2 + 5 * j))))))))) a = some (.inr (4, [.ref (a + 1), .int (nI 0), .int (nI 0)])) ∧ (rl_u h_35 (a + 1) (.inl (ids 3, 80, .inr (.inr (.inr (.inr (va_up p j (some (a + 2 + 5 * j))))))))) (a + 1) = some (.inl (ids 3, 80, .inr (.inr (.inr (.inr (va_up p j (some (a + 2 + 5 * j)))))))) ∧ (∀ i, i < 80 → (va_up p j (some (a + 2 + 5 * j))) i = if i < j + 1 then some (a + 2 + 5 * i) else none) ∧ (∀ i, i < j + 1 → tp_at ids (rl_u h_35 (a + 1) (.inl (ids 3, 80, .inr (.inr (.inr (.inr (va_up p j (some (a + 2 + 5 * j))))))))) (a + 2 + 5 * i) (fun _ => 0) (fun _ => 0) (fun _ => 0) 0) ∧ rl_fr h (rl_u h_35 (a + 1) (.inl (ids 3, 80, .inr (.inr (.inr (.inr (va_up p j (some (a + 2 + 5 * j))))))))) a (a + 2 + 5 * (j + 1)) := ?_
          · rw [show a + 2 + 5 * j + 5 = a + 2 + 5 * (j + 1) by omega]
            exact ih (j + 1) _ _ (by omega) hI2
          · refine ⟨by repeat (first | with_reducible assumption | (rw [rl_u_s]; done) | (rw [rl_u_s]; rfl) | rw [rl_u_n (by first | with_reducible assumption | omega)]), rl_u_s, fun i hi => ?_, fun i hi => ?_, fun q hq => ?_⟩
            · by_cases e : i = j
              · subst e
                rw [va_up_self, if_pos (by omega)]
              · rw [va_up_ne _ _ e, g3 i hi]
                by_cases e2 : i < j
                · rw [if_pos e2, if_pos (by omega)]
                · rw [if_neg e2, if_neg (by omega)]
            · have fr : rl_fr h_35 (rl_u h_35 (a + 1) (.inl (ids 3, 80, .inr (.inr (.inr (.inr (va_up p j (some (a + 2 + 5 * j))))))))) (a + 1) (a + 2) := fun q hq => rl_u_n (by omega)
              by_cases e : i = j
              · subst e
                exact p1.kept fr (by omega)
              · have fr0 : rl_fr h' (rl_u h' (a + 2 + 5 * j) (.inr (5, [.null, .null]))) (a + 2 + 5 * j) (a + 2 + 5 * j + 1) := fun q hq => rl_u_n (by omega)
                exact (((g4 i (by omega)).kept fr0 (by omega)).kept p2 (by omega)).kept fr (by omega)
            · rw [rl_u_n (by omega), p2 q (by omega), rl_u_n (by omega)]
              exact g5 q (by omega)
  show rl_G X (rl_e D ids H0) 0 [some (.ref a), some (.int (nI r)), none] [] h (a + 1) 0 0
  refine o_aload_n hC dX4_init_0 (by rfl) ?_
  refine o_objInit hC (by exact hB.2.2.2.2.2) mX4_3 w_objI w_objC dX4_init_1 (by rw [hB.2.1]; first | exact Nat.le_of_ble_eq_true rfl | (dsimp only; omega)) (by rw [hB.2.1]; first | exact Nat.le_of_ble_eq_true rfl | (dsimp only; omega)) ?_
  refine o_aload_n hC dX4_init_4 (by rfl) ?_
  refine o_bipush (v := nI 80) hC dX4_init_5 (by decide +kernel) ?_
  refine o_anew (t0 := 3) (N' := 80) hC kX4_9 (va_AO.use (hC.2.2.2.2.1 _ aoX5)) rfl (nI_pos (by decide)) (nI_clamp (by decide)) (by decide) (by rw [hB.2.1]; first | exact Nat.le_of_ble_eq_true rfl | (dsimp only; omega)) (by rw [hB.2.1]; first | exact Nat.le_of_ble_eq_true rfl | (dsimp only; omega)) dX4_init_7 ?_
  refine o_putf hC (fX4_11 hC rfl) (fwX4 rfl rfl rfl (Or.inr ⟨rfl, hB.2.2.2.2.1, rfl⟩)) dX4_init_10 (by repeat (first | with_reducible assumption | (rw [rl_u_s]; done) | (rw [rl_u_s]; rfl) | rw [rl_u_n (by first | with_reducible assumption | omega)])) (Nat.le_of_ble_eq_true rfl) ?_
  try simp only [List.set_cons_zero, List.set_cons_succ]
  refine o_iconst (v := nI 0) hC dX4_init_13 (by decide +kernel) ?_
  refine o_istore_n hC dX4_init_14 (Nat.le_of_ble_eq_true rfl) ?_
  refine loop r 0 _ (fun _ => none) (by omega) ⟨by repeat (first | with_reducible assumption | (rw [rl_u_s]; done) | (rw [rl_u_s]; rfl) | rw [rl_u_n (by first | with_reducible assumption | omega)]), by repeat (first | with_reducible assumption | (rw [rl_u_s]; done) | (rw [rl_u_s]; rfl) | rw [rl_u_n (by first | with_reducible assumption | omega)]), fun i hi => by rw [if_neg (by omega)], fun i hi => by omega, fun q hq => ?_⟩
  repeat (first | rfl | rw [rl_u_n (by omega)])
end
section
/-! RowLineage$Operators: at o; its Draft at o + 1, made at o + 4, turned at o + 7 (its Ways from o + 10 on), group at o + 8, key at o + 9 -/
def op_at (ids : Nat → ClassId) (h : rl_H) (o so : Nat) (dr : dr_S) (f g : Nat → Int64) (k : Nat) (gp : Nat → Option Nat) (kc : Nat → Int32) (F G : Nat → Nat → Int64) (K : Nat → Nat) : Prop :=
  h o = some (.inr (2, [.ref (o + 1), .ref (o + 4), .ref (o + 7), .ref (o + 8), .ref (o + 9)])) ∧ dr_at ids h (o + 1) dr ∧ ws_at ids h (o + 4) f g k ∧
  (∃ tp : Nat → Option Nat, h (o + 7) = some (.inl (ids 4, 4, .inr (.inr (.inr (.inr tp))))) ∧ ∀ m, m < 4 → tp m = some (o + 10 + 3 * m)) ∧ h (o + 8) = some (.inl (ids 3, 4, .inr (.inr (.inr (.inr gp))))) ∧ h (o + 9) = some (.inl (ids 0, 6, .inl kc)) ∧ ∀ m, m < 4 → ws_at ids h (o + 10 + 3 * m) (F m) (G m) (K m)
theorem op_at.kept {ids : Nat → ClassId} {h h' : rl_H} {o so a b : Nat} {dr : dr_S} {f g : Nat → Int64} {k : Nat} {gp : Nat → Option Nat} {kc : Nat → Int32} {F G : Nat → Nat → Int64} {K : Nat → Nat} (H : op_at ids h o so dr f g k gp kc F G K) (hf : rl_fr h h' a b) (hd : o + 22 ≤ a ∨ b ≤ o) : op_at ids h' o so dr f g k gp kc F G K := by
  obtain ⟨h1, h2, h3, ⟨tp, h4, h5⟩, h6, h7, h8⟩ := H
  exact ⟨by rw [hf o (by omega)]; exact h1, h2.kept hf (by omega), h3.kept hf (by omega), ⟨tp, by rw [hf (o + 7) (by omega)]; exact h4, h5⟩, by rw [hf (o + 8) (by omega)]; exact h6, by rw [hf (o + 9) (by omega)]; exact h7, fun m hm => (h8 m hm).kept hf (by omega)⟩

set_option maxHeartbeats 4000000 in
set_option maxRecDepth 100000 in
theorem ct_X2_init (l : Launch) (D : va_G) (ids : Nat → ClassId) (H0 : Heap) (h : rl_H) (n : Nat) (o so : Nat) (h1 : h o = some (.inr (2, [.null, .null, .null, .null, .null]))) (hn : n = o + 1) : rl_Met l (rl_e D ids H0) rl_BW rl_Ns yX2_init cX2_init 2 none ({ frames := 2, cells := 21, slots := 1016, locals := 36 }) [.ref o] h n (fun v h' n' => v = none ∧ n' = o + 22 ∧ op_at ids h' o so (fun _ => 0, fun _ => 0, 0) (fun _ => 0) (fun _ => 0) 0 (fun _ => none) (fun _ => 0) (fun _ _ => 0) (fun _ _ => 0) (fun _ => 0) ∧ rl_fr h h' o (o + 22)) := by
  subst hn
  refine rl_Met.of (by decide +kernel) (Nat.le_of_ble_eq_true rfl) ?_
  intro X hC hB
  have loop : ∀ (m j : Nat) (h' : rl_H) (p : Nat → Option Nat), j + m = 4 → h' o = some (.inr (2, [.ref (o + 1), .ref (o + 4), .ref (o + 7), .ref (o + 8), .ref (o + 9)])) ∧ dr_at ids h' (o + 1) (fun _ => 0, fun _ => 0, 0) ∧ ws_at ids h' (o + 4) (fun _ => 0) (fun _ => 0) 0 ∧ h' (o + 7) = some (.inl (ids 4, 4, .inr (.inr (.inr (.inr p))))) ∧ (∀ i, i < j → p i = some (o + 10 + 3 * i)) ∧ h' (o + 8) = some (.inl (ids 3, 4, .inr (.inr (.inr (.inr (fun _ => none)))))) ∧ h' (o + 9) = some (.inl (ids 0, 6, .inl (fun _ => 0))) ∧ (∀ i, i < j → ws_at ids h' (o + 10 + 3 * i) (fun _ => 0) (fun _ => 0) 0) ∧ rl_fr h h' o (o + 10 + 3 * j) → rl_G X (rl_e D ids H0) 52 [some (.ref o), some (.int (nI j))] [] h' (o + 10 + 3 * j) (9 + 3 * j) (908 + 27 * j) := by
    intro m
    induction m with
    | zero =>
      intro j h' p hj hI
      have e : j = 4 := by omega
      subst e
      refine o_iload_n hC dX2_init_52 (by rfl) ?_
      refine o_iconst (v := nI 4) hC dX2_init_53 (by decide +kernel) ?_
      refine o_icmp_ge (tgt := 76) hC dX2_init_54 (by decide) (fun c_54 => ?_) (fun c_54 => ?_)
      · refine o_vret hC hB dX2_init_76 (by first | omega | (dsimp only; omega)) (by first | omega | (dsimp only; omega)) ?_
        obtain ⟨g1, g2, g3, g4, g5, g6, g7, g8, g9⟩ := hI
        exact ⟨rfl, rfl, ⟨g1, g2, g3, ⟨p, g4, g5⟩, g6, g7, g8⟩, g9⟩
      · exact absurd (nI_le (Nat.le_refl _) (by omega)) c_54
    | succ m ih =>
      intro j h' p hj hI
      obtain ⟨g1, g2, g3, g4, g5, g6, g7, g8, g9⟩ := hI
      refine o_iload_n hC dX2_init_52 (by rfl) ?_
      refine o_iconst (v := nI 4) hC dX2_init_53 (by decide +kernel) ?_
      refine o_icmp_ge (tgt := 76) hC dX2_init_54 (by decide) (fun c_54 => ?_) (fun c_54 => ?_)
      · exact absurd c_54 (nI_ge (by omega) (by omega))
      · refine o_aload_n hC dX2_init_57 (by rfl) ?_
        refine o_getf hC (fX2_25 hC rfl) dX2_init_58 (by repeat (first | with_reducible assumption | (rw [rl_u_s]; done) | (rw [rl_u_s]; rfl) | rw [rl_u_n (by first | with_reducible assumption | omega)])) (by first | rfl | with_reducible assumption) ?_
        refine o_iload_n hC dX2_init_61 (by rfl) ?_
        refine o_new (ci := 6) (fs := [.null, .null, .int (nI 0)]) hC rfl uX6 tyX6 tyX6_ok kX2_18 iX6 zX6 (by decide +kernel) (by rw [hB.2.1]; first | exact Nat.le_of_ble_eq_true rfl | (dsimp only; omega)) (by rw [hB.2.1]; first | exact Nat.le_of_ble_eq_true rfl | (dsimp only; omega)) dX2_init_62 ?_
        refine o_dup hC dX2_init_65 rfl ?_
        refine o_callI0 hC rl_BW_good rl_Ns_nw (by exact hB.2.2.2.2.2) YX6_init rfl IX6_init (mX2_20 hC) (by rw [hB.1]; exact ct_X6_init l D ids H0 _ _ (o + 10 + 3 * j) (by repeat (first | with_reducible assumption | (rw [rl_u_s]; done) | (rw [rl_u_s]; rfl) | rw [rl_u_n (by first | with_reducible assumption | omega)])) rfl) (Nat.le_of_ble_eq_true rfl) (by rw [hB.2.1]; first | exact Nat.le_of_ble_eq_true rfl | (dsimp only; omega)) (by rw [hB.2.1]; first | exact Nat.le_of_ble_eq_true rfl | (dsimp only; omega)) (by rw [hB.2.1]; first | exact Nat.le_of_ble_eq_true rfl | (dsimp only; omega)) (by rw [hB.2.1]; first | exact Nat.le_of_ble_eq_true rfl | (dsimp only; omega)) dX2_init_66 (fun v h_66 n_66 p_66 => ?_)
        obtain ⟨rfl, rfl, p1, p2⟩ := p_66
        have fr0 : rl_fr h' (rl_u h' (o + 10 + 3 * j) (.inr (6, [.null, .null, .int (nI 0)]))) (o + 10 + 3 * j) (o + 10 + 3 * j + 1) := fun q hq => rl_u_n (by omega)
        have r2 : h_66 (o + 7) = some (.inl (ids 4, 4, .inr (.inr (.inr (.inr p))))) := by
          repeat (first | with_reducible assumption | (rw [rl_u_s]; done) | (rw [rl_u_s]; rfl) | rw [rl_u_n (by first | with_reducible assumption | omega)] | rw [p2 _ (by omega)])
        try dsimp only [Option.toList, List.cons_append, List.nil_append]
        refine o_aastN (t0 := 4) (vs := [.ref (o + 10 + 3 * j + 1), .ref (o + 10 + 3 * j + 2), .int (nI 0)]) hC rfl rfl dX2_init_69 r2 p1.1 (by omega) (by decide) ?_
        refine o_iinc hC dX2_init_70 (by rfl) (rl_inc _) (Nat.le_of_ble_eq_true rfl) ?_
        refine o_goto (tgt := 52) hC dX2_init_73 (by decide) ?_
        refine rl_G.widen (ce' := (9 + 3 * (j + 1))) (sl' := (908 + 27 * (j + 1))) (by first | omega | (dsimp only; omega)) (by first | omega | (dsimp only; omega)) ?_
        have fr : rl_fr h_66 (rl_u h_66 (o + 7) (.inl (ids 4, 4, .inr (.inr (.inr (.inr (va_up p j (some (o + 10 + 3 * j))))))))) (o + 7) (o + 8) := fun q hq => rl_u_n (by omega)
        rw [show o + 10 + 3 * j + 3 = o + 10 + 3 * (j + 1) by omega]
        refine ih (j + 1) _ (va_up p j (some (o + 10 + 3 * j))) (by omega) ⟨by repeat (first | with_reducible assumption | (rw [rl_u_s]; done) | (rw [rl_u_s]; rfl) | rw [rl_u_n (by first | with_reducible assumption | omega)] | rw [p2 _ (by omega)]), ((g2.kept fr0 (by omega)).kept p2 (by omega)).kept fr (by omega), ((g3.kept fr0 (by omega)).kept p2 (by omega)).kept fr (by omega), rl_u_s, fun i hi => ?_, by repeat (first | with_reducible assumption | (rw [rl_u_s]; done) | (rw [rl_u_s]; rfl) | rw [rl_u_n (by first | with_reducible assumption | omega)] | rw [p2 _ (by omega)]), by repeat (first | with_reducible assumption | (rw [rl_u_s]; done) | (rw [rl_u_s]; rfl) | rw [rl_u_n (by first | with_reducible assumption | omega)] | rw [p2 _ (by omega)]), fun i hi => ?_, fun q hq => ?_⟩
        · by_cases e : i = j
          · subst e
            rw [va_up_self]
          · rw [va_up_ne _ _ e]
            exact g5 i (by omega)
        · by_cases e : i = j
          · subst e
            exact p1.kept fr (by omega)
          · exact (((g8 i (by omega)).kept fr0 (by omega)).kept p2 (by omega)).kept fr (by omega)
        · rw [rl_u_n (by omega), p2 q (by omega), rl_u_n (by omega)]
          exact g9 q (by omega)
  show rl_G X (rl_e D ids H0) 0 [some (.ref o), none] [] h (o + 1) 0 0
  refine o_aload_n hC dX2_init_0 (by rfl) ?_
  refine o_objInit hC (by exact hB.2.2.2.2.2) mX2_3 w_objI w_objC dX2_init_1 (by rw [hB.2.1]; first | exact Nat.le_of_ble_eq_true rfl | (dsimp only; omega)) (by rw [hB.2.1]; first | exact Nat.le_of_ble_eq_true rfl | (dsimp only; omega)) ?_
  refine o_aload_n hC dX2_init_4 (by rfl) ?_
  refine o_new (ci := 0) (fs := [.null, .null, .int (nI 0)]) hC rfl uX0 tyX0 tyX0_ok kX2_9 iX0 zX0 (by decide +kernel) (by rw [hB.2.1]; first | exact Nat.le_of_ble_eq_true rfl | (dsimp only; omega)) (by rw [hB.2.1]; first | exact Nat.le_of_ble_eq_true rfl | (dsimp only; omega)) dX2_init_5 ?_
  refine o_dup hC dX2_init_8 rfl ?_
  refine o_callI0 hC rl_BW_good rl_Ns_nw (by exact hB.2.2.2.2.2) YX0_init rfl IX0_init (mX2_11 hC) (by rw [hB.1]; exact ct_X0_init l D ids H0 _ _ (o + 1) (by repeat (first | with_reducible assumption | (rw [rl_u_s]; done) | (rw [rl_u_s]; rfl) | rw [rl_u_n (by first | with_reducible assumption | omega)])) rfl) (Nat.le_of_ble_eq_true rfl) (by rw [hB.2.1]; first | exact Nat.le_of_ble_eq_true rfl | (dsimp only; omega)) (by rw [hB.2.1]; first | exact Nat.le_of_ble_eq_true rfl | (dsimp only; omega)) (by rw [hB.2.1]; first | exact Nat.le_of_ble_eq_true rfl | (dsimp only; omega)) (by rw [hB.2.1]; first | exact Nat.le_of_ble_eq_true rfl | (dsimp only; omega)) dX2_init_9 (fun v h_9 n_9 p_9 => ?_)
  obtain ⟨rfl, rfl, a1, fr9⟩ := p_9
  try dsimp only [Option.toList, List.cons_append, List.nil_append]
  refine o_putf hC (fX2_12 hC rfl) (fwX2 rfl rfl rfl (Or.inr ⟨rfl, hB.2.2.2.2.1, rfl⟩)) dX2_init_12 (by repeat (first | with_reducible assumption | (rw [rl_u_s]; done) | (rw [rl_u_s]; rfl) | rw [rl_u_n (by first | with_reducible assumption | omega)] | rw [fr20 _ (by omega)] | rw [fr9 _ (by omega)])) (Nat.le_of_ble_eq_true rfl) ?_
  try simp only [List.set_cons_zero, List.set_cons_succ]
  refine o_aload_n hC dX2_init_15 (by rfl) ?_
  refine o_new (ci := 6) (fs := [.null, .null, .int (nI 0)]) hC rfl uX6 tyX6 tyX6_ok kX2_18 iX6 zX6 (by decide +kernel) (by rw [hB.2.1]; first | exact Nat.le_of_ble_eq_true rfl | (dsimp only; omega)) (by rw [hB.2.1]; first | exact Nat.le_of_ble_eq_true rfl | (dsimp only; omega)) dX2_init_16 ?_
  refine o_dup hC dX2_init_19 rfl ?_
  refine o_callI0 hC rl_BW_good rl_Ns_nw (by exact hB.2.2.2.2.2) YX6_init rfl IX6_init (mX2_20 hC) (by rw [hB.1]; exact ct_X6_init l D ids H0 _ _ (o + 4) (by repeat (first | with_reducible assumption | (rw [rl_u_s]; done) | (rw [rl_u_s]; rfl) | rw [rl_u_n (by first | with_reducible assumption | omega)] | rw [fr9 _ (by omega)])) rfl) (Nat.le_of_ble_eq_true rfl) (by rw [hB.2.1]; first | exact Nat.le_of_ble_eq_true rfl | (dsimp only; omega)) (by rw [hB.2.1]; first | exact Nat.le_of_ble_eq_true rfl | (dsimp only; omega)) (by rw [hB.2.1]; first | exact Nat.le_of_ble_eq_true rfl | (dsimp only; omega)) (by rw [hB.2.1]; first | exact Nat.le_of_ble_eq_true rfl | (dsimp only; omega)) dX2_init_20 (fun v h_20 n_20 p_20 => ?_)
  obtain ⟨rfl, rfl, b1, fr20⟩ := p_20
  obtain ⟨a2, a3, a4, -⟩ := id a1
  obtain ⟨b2, b3, b4, -⟩ := id b1
  try dsimp only [Option.toList, List.cons_append, List.nil_append]
  refine o_putf hC (fX2_21 hC rfl) (fwX2 rfl rfl rfl (Or.inr ⟨rfl, hB.2.2.2.2.1, rfl⟩)) dX2_init_23 (by repeat (first | with_reducible assumption | (rw [rl_u_s]; done) | (rw [rl_u_s]; rfl) | rw [rl_u_n (by first | with_reducible assumption | omega)] | rw [fr20 _ (by omega)] | rw [fr9 _ (by omega)])) (Nat.le_of_ble_eq_true rfl) ?_
  try simp only [List.set_cons_zero, List.set_cons_succ]
  refine o_aload_n hC dX2_init_26 (by rfl) ?_
  refine o_iconst (v := nI 4) hC dX2_init_27 (by decide +kernel) ?_
  refine o_anew (t0 := 4) (N' := 4) hC kX2_18 (va_AO.use (hC.2.2.2.2.1 _ aoX6)) rfl (nI_pos (by decide)) (nI_clamp (by decide)) (by decide) (by rw [hB.2.1]; first | exact Nat.le_of_ble_eq_true rfl | (dsimp only; omega)) (by rw [hB.2.1]; first | exact Nat.le_of_ble_eq_true rfl | (dsimp only; omega)) dX2_init_28 ?_
  refine o_putf hC (fX2_25 hC rfl) (fwX2 rfl rfl rfl (Or.inr ⟨rfl, hB.2.2.2.2.1, rfl⟩)) dX2_init_31 (by repeat (first | with_reducible assumption | (rw [rl_u_s]; done) | (rw [rl_u_s]; rfl) | rw [rl_u_n (by first | with_reducible assumption | omega)] | rw [fr20 _ (by omega)] | rw [fr9 _ (by omega)])) (Nat.le_of_ble_eq_true rfl) ?_
  try simp only [List.set_cons_zero, List.set_cons_succ]
  refine o_aload_n hC dX2_init_34 (by rfl) ?_
  refine o_iconst (v := nI 4) hC dX2_init_35 (by decide +kernel) ?_
  refine o_anew (t0 := 3) (N' := 4) hC kX2_29 (va_AO.use (hC.2.2.2.2.1 _ aoX5)) rfl (nI_pos (by decide)) (nI_clamp (by decide)) (by decide) (by rw [hB.2.1]; first | exact Nat.le_of_ble_eq_true rfl | (dsimp only; omega)) (by rw [hB.2.1]; first | exact Nat.le_of_ble_eq_true rfl | (dsimp only; omega)) dX2_init_36 ?_
  refine o_putf hC (fX2_31 hC rfl) (fwX2 rfl rfl rfl (Or.inr ⟨rfl, hB.2.2.2.2.1, rfl⟩)) dX2_init_39 (by repeat (first | with_reducible assumption | (rw [rl_u_s]; done) | (rw [rl_u_s]; rfl) | rw [rl_u_n (by first | with_reducible assumption | omega)] | rw [fr20 _ (by omega)] | rw [fr9 _ (by omega)])) (Nat.le_of_ble_eq_true rfl) ?_
  try simp only [List.set_cons_zero, List.set_cons_succ]
  refine o_aload_n hC dX2_init_42 (by rfl) ?_
  refine o_bipush (v := nI 6) hC dX2_init_43 (by decide +kernel) ?_
  refine o_newa (atype := .int) (ty := .int) (t0 := 0) (N' := 6) (x := .inl (fun _ => 0)) hC rfl (fun C q => by cases q) aw_int rfl rfl (nI_pos (by decide)) (nI_clamp (by decide)) (by decide) (by rw [hB.2.1]; first | exact Nat.le_of_ble_eq_true rfl | (dsimp only; omega)) (by rw [hB.2.1]; first | exact Nat.le_of_ble_eq_true rfl | (dsimp only; omega)) dX2_init_45 ?_
  refine o_putf hC (fX2_35 hC rfl) (fwX2 rfl rfl rfl (Or.inr ⟨rfl, hB.2.2.2.2.1, rfl⟩)) dX2_init_47 (by repeat (first | with_reducible assumption | (rw [rl_u_s]; done) | (rw [rl_u_s]; rfl) | rw [rl_u_n (by first | with_reducible assumption | omega)] | rw [fr20 _ (by omega)] | rw [fr9 _ (by omega)])) (Nat.le_of_ble_eq_true rfl) ?_
  try simp only [List.set_cons_zero, List.set_cons_succ]
  refine o_iconst (v := nI 0) hC dX2_init_50 (by decide +kernel) ?_
  refine o_istore_n hC dX2_init_51 (Nat.le_of_ble_eq_true rfl) ?_
  refine rl_G.widen (ce' := 9 + 3 * 0) (sl' := 908 + 27 * 0) (by first | omega | (dsimp only; omega)) (by first | omega | (dsimp only; omega)) ?_
  refine loop 4 0 _ (fun _ => none) (by omega) ⟨by repeat (first | with_reducible assumption | (rw [rl_u_s]; done) | (rw [rl_u_s]; rfl) | rw [rl_u_n (by first | with_reducible assumption | omega)] | rw [fr20 _ (by omega)] | rw [fr9 _ (by omega)]), ⟨by repeat (first | with_reducible assumption | (rw [rl_u_s]; done) | (rw [rl_u_s]; rfl) | rw [rl_u_n (by first | with_reducible assumption | omega)] | rw [fr20 _ (by omega)] | rw [fr9 _ (by omega)]), by repeat (first | with_reducible assumption | (rw [rl_u_s]; done) | (rw [rl_u_s]; rfl) | rw [rl_u_n (by first | with_reducible assumption | omega)] | rw [fr20 _ (by omega)] | rw [fr9 _ (by omega)]), by repeat (first | with_reducible assumption | (rw [rl_u_s]; done) | (rw [rl_u_s]; rfl) | rw [rl_u_n (by first | with_reducible assumption | omega)] | rw [fr20 _ (by omega)] | rw [fr9 _ (by omega)]), Nat.zero_le _⟩, ⟨by repeat (first | with_reducible assumption | (rw [rl_u_s]; done) | (rw [rl_u_s]; rfl) | rw [rl_u_n (by first | with_reducible assumption | omega)] | rw [fr20 _ (by omega)] | rw [fr9 _ (by omega)]), by repeat (first | with_reducible assumption | (rw [rl_u_s]; done) | (rw [rl_u_s]; rfl) | rw [rl_u_n (by first | with_reducible assumption | omega)] | rw [fr20 _ (by omega)] | rw [fr9 _ (by omega)]), by repeat (first | with_reducible assumption | (rw [rl_u_s]; done) | (rw [rl_u_s]; rfl) | rw [rl_u_n (by first | with_reducible assumption | omega)] | rw [fr20 _ (by omega)] | rw [fr9 _ (by omega)]), Nat.zero_le _⟩, by repeat (first | with_reducible assumption | (rw [rl_u_s]; done) | (rw [rl_u_s]; rfl) | rw [rl_u_n (by first | with_reducible assumption | omega)] | rw [fr20 _ (by omega)] | rw [fr9 _ (by omega)]), fun i hi => by omega, by repeat (first | with_reducible assumption | (rw [rl_u_s]; done) | (rw [rl_u_s]; rfl) | rw [rl_u_n (by first | with_reducible assumption | omega)] | rw [fr20 _ (by omega)] | rw [fr9 _ (by omega)]), by repeat (first | with_reducible assumption | (rw [rl_u_s]; done) | (rw [rl_u_s]; rfl) | rw [rl_u_n (by first | with_reducible assumption | omega)] | rw [fr20 _ (by omega)] | rw [fr9 _ (by omega)]), fun i hi => by omega, fun q hq => ?_⟩
  have a0 := a1
  repeat (first | rfl | rw [rl_u_n (by omega)] | rw [fr20 _ (by omega)] | rw [fr9 _ (by omega)])
end
section
/-! cells that are the same in another heap -/
theorem ws_at.eqv {ids : Nat → ClassId} {h h' : rl_H} {w : Nat} {f g : Nat → Int64} {k : Nat} (H : ws_at ids h w f g k) (he : ∀ q, w ≤ q → q < w + 3 → h' q = h q) : ws_at ids h' w f g k :=
  ⟨by rw [he w (by omega) (by omega)]; exact H.1, by rw [he (w + 1) (by omega) (by omega)]; exact H.2.1, by rw [he (w + 2) (by omega) (by omega)]; exact H.2.2.1, H.2.2.2⟩
theorem dr_at.eqv {ids : Nat → ClassId} {h h' : rl_H} {d : Nat} {s : dr_S} (H : dr_at ids h d s) (he : ∀ q, d ≤ q → q < d + 3 → h' q = h q) : dr_at ids h' d s :=
  ⟨by rw [he d (by omega) (by omega)]; exact H.1, by rw [he (d + 1) (by omega) (by omega)]; exact H.2.1, by rw [he (d + 2) (by omega) (by omega)]; exact H.2.2.1, H.2.2.2⟩
theorem tp_at.eqv {ids : Nat → ClassId} {h h' : rl_H} {t : Nat} {c : Nat → Int32} {f g : Nat → Int64} {k : Nat} (H : tp_at ids h t c f g k) (he : ∀ q, t ≤ q → q < t + 5 → h' q = h q) : tp_at ids h' t c f g k :=
  ⟨by rw [he t (by omega) (by omega)]; exact H.1, by rw [he (t + 1) (by omega) (by omega)]; exact H.2.1, H.2.2.eqv (fun q h1 h2 => he q (by omega) (by omega))⟩
theorem so_at.eqv {ids : Nat → ClassId} {h h' : rl_H} {s : Nat} {wf sf : Nat → Int32} {cf : Nat → Nat → Int32} {sc rc : Nat} (H : so_at ids h s wf sf cf sc rc) (he : ∀ q, s ≤ q → q < s + 40 → h' q = h q) : so_at ids h' s wf sf cf sc rc :=
  ⟨by rw [he s (by omega) (by omega)]; exact H.1, by rw [he (s + 1) (by omega) (by omega)]; exact H.2.1, by rw [he (s + 2) (by omega) (by omega)]; exact H.2.2.1, by rw [he (s + 3) (by omega) (by omega)]; exact H.2.2.2.1, fun r hr => by rw [he (s + 4 + r) (by omega) (by omega)]; exact H.2.2.2.2.1 r hr, H.2.2.2.2.2⟩
theorem op_at.eqv {ids : Nat → ClassId} {h h' : rl_H} {o so : Nat} {dr : dr_S} {f g : Nat → Int64} {k : Nat} {gp : Nat → Option Nat} {kc : Nat → Int32} {F G : Nat → Nat → Int64} {K : Nat → Nat} (H : op_at ids h o so dr f g k gp kc F G K) (he : ∀ q, o ≤ q → q < o + 22 → h' q = h q) : op_at ids h' o so dr f g k gp kc F G K := by
  obtain ⟨h1, h2, h3, ⟨tp, h4, h5⟩, h6, h7, h8⟩ := H
  exact ⟨by rw [he o (by omega) (by omega)]; exact h1, h2.eqv (fun q a b => he q (by omega) (by omega)), h3.eqv (fun q a b => he q (by omega) (by omega)), ⟨tp, by rw [he (o + 7) (by omega) (by omega)]; exact h4, h5⟩, by rw [he (o + 8) (by omega) (by omega)]; exact h6, by rw [he (o + 9) (by omega) (by omega)]; exact h7, fun m hm => (h8 m hm).eqv (fun q a b => he q (by omega) (by omega))⟩
/-- a new RowLineage at x -/
def rw_new (ids : Nat → ClassId) (h : rl_H) (x : Nat) : Prop :=
  h x = some (.inr (7, [.ref (x + 1), .ref (x + 41), .ref (x + 63), .ref (x + 64), .ref (x + 65), .ref (x + 67), .int (nI 0), .int (-1), .long 0])) ∧ so_at ids h (x + 1) (fun _ => 0) (fun _ => 0) (fun _ _ => 0) 0 0 ∧
  op_at ids h (x + 41) (x + 1) (fun _ => 0, fun _ => 0, 0) (fun _ => 0) (fun _ => 0) 0 (fun _ => none) (fun _ => 0) (fun _ _ => 0) (fun _ _ => 0) (fun _ => 0) ∧
  h (x + 63) = some (.inl (ids 5, 16, .inr (.inr (.inr (.inr (fun _ => none)))))) ∧ h (x + 64) = some (.inl (ids 6, 16, .inr (.inr (.inr (.inr (fun _ => none)))))) ∧
  h (x + 65) = some (.inr (4, [.ref (x + 66), .int (nI 0), .int (nI 0)])) ∧ ws_at ids h (x + 67) (fun _ => 0) (fun _ => 0) 0

set_option maxHeartbeats 4000000 in
set_option maxRecDepth 100000 in
theorem ct_X7_init (l : Launch) (D : va_G) (ids : Nat → ClassId) (H0 : Heap) (h : rl_H) (n : Nat) (x : Nat) (h1 : h x = some (.inr (7, [.null, .null, .null, .null, .null, .null, .int (nI 0), .int (nI 0), .long 0]))) (hn : n = x + 1) : rl_Met l (rl_e D ids H0) rl_BW rl_Ns yX7_init cX7_init 1 none ({ frames := 4, cells := 69, slots := 1460, locals := 78 }) [.ref x] h n (fun v h' n' => v = none ∧ n' = x + 70 ∧ rw_new ids h' x ∧ rl_fr h h' x (x + 70)) := by
  subst hn
  refine rl_Met.of (by decide +kernel) (Nat.le_of_ble_eq_true rfl) ?_
  intro X hC hB
  show rl_G X (rl_e D ids H0) 0 [some (.ref x)] [] h (x + 1) 0 0
  refine o_aload_n hC dX7_init_0 (by rfl) ?_
  refine o_objInit hC (by exact hB.2.2.2.2.2) mX7_1 w_objI w_objC dX7_init_1 (by rw [hB.2.1]; first | exact Nat.le_of_ble_eq_true rfl | (dsimp only; omega)) (by rw [hB.2.1]; first | exact Nat.le_of_ble_eq_true rfl | (dsimp only; omega)) ?_
  refine o_aload_n hC dX7_init_4 (by rfl) ?_
  refine o_new (ci := 3) (fs := [.null, .null, .null, .int (nI 0), .int (nI 0)]) hC rfl uX3 tyX3 tyX3_ok kX7_7 iX3 zX3 (by decide +kernel) (by rw [hB.2.1]; first | exact Nat.le_of_ble_eq_true rfl | (dsimp only; omega)) (by rw [hB.2.1]; first | exact Nat.le_of_ble_eq_true rfl | (dsimp only; omega)) dX7_init_5 ?_
  refine o_dup hC dX7_init_8 rfl ?_
  refine o_callI0 hC rl_BW_good rl_Ns_nw (by exact hB.2.2.2.2.2) YX3_init rfl IX3_init (mX7_9 hC) (by rw [hB.1]; exact ct_X3_init l D ids H0 _ _ (x + 1) (by repeat (first | with_reducible assumption | (rw [rl_u_s]; done) | (rw [rl_u_s]; rfl) | rw [rl_u_n (by first | with_reducible assumption | omega)])) rfl) (Nat.le_of_ble_eq_true rfl) (by rw [hB.2.1]; first | exact Nat.le_of_ble_eq_true rfl | (dsimp only; omega)) (by rw [hB.2.1]; first | exact Nat.le_of_ble_eq_true rfl | (dsimp only; omega)) (by rw [hB.2.1]; first | exact Nat.le_of_ble_eq_true rfl | (dsimp only; omega)) (by rw [hB.2.1]; first | exact Nat.le_of_ble_eq_true rfl | (dsimp only; omega)) dX7_init_9 (fun v h_9 n_9 p_9 => ?_)
  obtain ⟨rfl, rfl, s1, fr9⟩ := p_9
  try dsimp only [Option.toList, List.cons_append, List.nil_append]
  refine o_putf hC (fX7_10 hC rfl) (fwX7 rfl rfl rfl (Or.inr ⟨rfl, hB.2.2.2.2.1, rfl⟩)) dX7_init_12 (by repeat (first | with_reducible assumption | (rw [rl_u_s]; done) | (rw [rl_u_s]; rfl) | rw [rl_u_n (by first | with_reducible assumption | omega)] | rw [fr65 _ (by omega)] | rw [fr54 _ (by omega)] | rw [fr24 _ (by omega)] | rw [fr9 _ (by omega)])) (Nat.le_of_ble_eq_true rfl) ?_
  try simp only [List.set_cons_zero, List.set_cons_succ]
  refine o_aload_n hC dX7_init_15 (by rfl) ?_
  refine o_new (ci := 2) (fs := [.null, .null, .null, .null, .null]) hC rfl uX2 tyX2 tyX2_ok kX7_16 iX2 zX2 (by decide +kernel) (by rw [hB.2.1]; first | exact Nat.le_of_ble_eq_true rfl | (dsimp only; omega)) (by rw [hB.2.1]; first | exact Nat.le_of_ble_eq_true rfl | (dsimp only; omega)) dX7_init_16 ?_
  refine o_dup hC dX7_init_19 rfl ?_
  refine o_callI0 hC rl_BW_good rl_Ns_nw (by exact hB.2.2.2.2.2) YX2_init rfl IX2_init (mX7_18 hC) (by rw [hB.1]; exact ct_X2_init l D ids H0 _ _ (x + 41) (x + 1) (by repeat (first | with_reducible assumption | (rw [rl_u_s]; done) | (rw [rl_u_s]; rfl) | rw [rl_u_n (by first | with_reducible assumption | omega)] | rw [fr9 _ (by omega)])) rfl) (Nat.le_of_ble_eq_true rfl) (by rw [hB.2.1]; first | exact Nat.le_of_ble_eq_true rfl | (dsimp only; omega)) (by rw [hB.2.1]; first | exact Nat.le_of_ble_eq_true rfl | (dsimp only; omega)) (by rw [hB.2.1]; first | exact Nat.le_of_ble_eq_true rfl | (dsimp only; omega)) (by rw [hB.2.1]; first | exact Nat.le_of_ble_eq_true rfl | (dsimp only; omega)) dX7_init_20 (fun v h_20 n_20 p_20 => ?_)
  obtain ⟨rfl, rfl, o1, fr24⟩ := p_20
  try dsimp only [Option.toList, List.cons_append, List.nil_append]
  refine o_putf hC (fX7_19 hC rfl) (fwX7 rfl rfl rfl (Or.inr ⟨rfl, hB.2.2.2.2.1, rfl⟩)) dX7_init_23 (by repeat (first | with_reducible assumption | (rw [rl_u_s]; done) | (rw [rl_u_s]; rfl) | rw [rl_u_n (by first | with_reducible assumption | omega)] | rw [fr65 _ (by omega)] | rw [fr54 _ (by omega)] | rw [fr24 _ (by omega)] | rw [fr9 _ (by omega)])) (Nat.le_of_ble_eq_true rfl) ?_
  try simp only [List.set_cons_zero, List.set_cons_succ]
  refine o_aload_n hC dX7_init_26 (by rfl) ?_
  refine o_bipush (v := nI 16) hC dX7_init_27 (by decide +kernel) ?_
  refine o_anew (t0 := 5) (N' := 16) hC kX7_23 (va_AO.use (hC.2.2.2.2.1 _ aoX1)) rfl (nI_pos (by decide)) (nI_clamp (by decide)) (by decide) (by rw [hB.2.1]; first | exact Nat.le_of_ble_eq_true rfl | (dsimp only; omega)) (by rw [hB.2.1]; first | exact Nat.le_of_ble_eq_true rfl | (dsimp only; omega)) dX7_init_29 ?_
  refine o_putf hC (fX7_25 hC rfl) (fwX7 rfl rfl rfl (Or.inr ⟨rfl, hB.2.2.2.2.1, rfl⟩)) dX7_init_32 (by repeat (first | with_reducible assumption | (rw [rl_u_s]; done) | (rw [rl_u_s]; rfl) | rw [rl_u_n (by first | with_reducible assumption | omega)] | rw [fr65 _ (by omega)] | rw [fr54 _ (by omega)] | rw [fr24 _ (by omega)] | rw [fr9 _ (by omega)])) (Nat.le_of_ble_eq_true rfl) ?_
  try simp only [List.set_cons_zero, List.set_cons_succ]
  refine o_aload_n hC dX7_init_35 (by rfl) ?_
  refine o_bipush (v := nI 16) hC dX7_init_36 (by decide +kernel) ?_
  refine o_anew (t0 := 6) (N' := 16) hC kX7_29 (va_AO.use (hC.2.2.2.2.1 _ aoX4)) rfl (nI_pos (by decide)) (nI_clamp (by decide)) (by decide) (by rw [hB.2.1]; first | exact Nat.le_of_ble_eq_true rfl | (dsimp only; omega)) (by rw [hB.2.1]; first | exact Nat.le_of_ble_eq_true rfl | (dsimp only; omega)) dX7_init_38 ?_
  refine o_putf hC (fX7_31 hC rfl) (fwX7 rfl rfl rfl (Or.inr ⟨rfl, hB.2.2.2.2.1, rfl⟩)) dX7_init_41 (by repeat (first | with_reducible assumption | (rw [rl_u_s]; done) | (rw [rl_u_s]; rfl) | rw [rl_u_n (by first | with_reducible assumption | omega)] | rw [fr65 _ (by omega)] | rw [fr54 _ (by omega)] | rw [fr24 _ (by omega)] | rw [fr9 _ (by omega)])) (Nat.le_of_ble_eq_true rfl) ?_
  try simp only [List.set_cons_zero, List.set_cons_succ]
  refine o_aload_n hC dX7_init_44 (by rfl) ?_
  refine o_new (ci := 4) (fs := [.null, .int (nI 0), .int (nI 0)]) hC rfl uX4 tyX4 tyX4_ok kX7_29 iX4 zX4 (by decide +kernel) (by rw [hB.2.1]; first | exact Nat.le_of_ble_eq_true rfl | (dsimp only; omega)) (by rw [hB.2.1]; first | exact Nat.le_of_ble_eq_true rfl | (dsimp only; omega)) dX7_init_45 ?_
  refine o_dup hC dX7_init_48 rfl ?_
  refine o_iconst (v := nI 0) hC dX7_init_49 (by decide +kernel) ?_
  refine o_callI1 hC rl_BW_good rl_Ns_nw (by exact hB.2.2.2.2.2) YX4_init rfl IX4_init (mX7_35 hC) (by rw [hB.1]; exact ct_X4_init l D ids H0 _ _ (x + 65) 0 (by repeat (first | with_reducible assumption | (rw [rl_u_s]; done) | (rw [rl_u_s]; rfl) | rw [rl_u_n (by first | with_reducible assumption | omega)] | rw [fr24 _ (by omega)] | rw [fr9 _ (by omega)])) rfl (by omega)) (Nat.le_of_ble_eq_true rfl) (by rw [hB.2.1]; first | exact Nat.le_of_ble_eq_true rfl | (dsimp only; omega)) (by rw [hB.2.1]; first | exact Nat.le_of_ble_eq_true rfl | (dsimp only; omega)) (by rw [hB.2.1]; first | exact Nat.le_of_ble_eq_true rfl | (dsimp only; omega)) (by rw [hB.2.1]; first | exact Nat.le_of_ble_eq_true rfl | (dsimp only; omega)) dX7_init_50 (fun v h_50 n_50 p_50 => ?_)
  obtain ⟨rfl, rfl, p, t1, t2, t3, t4, fr54⟩ := p_50
  try dsimp only [Option.toList, List.cons_append, List.nil_append]
  refine o_putf hC (fX7_38 hC rfl) (fwX7 rfl rfl rfl (Or.inr ⟨rfl, hB.2.2.2.2.1, rfl⟩)) dX7_init_53 (by repeat (first | with_reducible assumption | (rw [rl_u_s]; done) | (rw [rl_u_s]; rfl) | rw [rl_u_n (by first | with_reducible assumption | omega)] | rw [fr65 _ (by omega)] | rw [fr54 _ (by omega)] | rw [fr24 _ (by omega)] | rw [fr9 _ (by omega)])) (Nat.le_of_ble_eq_true rfl) ?_
  try simp only [List.set_cons_zero, List.set_cons_succ]
  refine o_aload_n hC dX7_init_56 (by rfl) ?_
  refine o_new (ci := 6) (fs := [.null, .null, .int (nI 0)]) hC rfl uX6 tyX6 tyX6_ok kX7_42 iX6 zX6 (by decide +kernel) (by rw [hB.2.1]; first | exact Nat.le_of_ble_eq_true rfl | (dsimp only; omega)) (by rw [hB.2.1]; first | exact Nat.le_of_ble_eq_true rfl | (dsimp only; omega)) dX7_init_57 ?_
  refine o_dup hC dX7_init_60 rfl ?_
  refine o_callI0 hC rl_BW_good rl_Ns_nw (by exact hB.2.2.2.2.2) YX6_init rfl IX6_init (mX7_44 hC) (by rw [hB.1]; exact ct_X6_init l D ids H0 _ _ (x + 67) (by repeat (first | with_reducible assumption | (rw [rl_u_s]; done) | (rw [rl_u_s]; rfl) | rw [rl_u_n (by first | with_reducible assumption | omega)] | rw [fr54 _ (by omega)] | rw [fr24 _ (by omega)] | rw [fr9 _ (by omega)])) rfl) (Nat.le_of_ble_eq_true rfl) (by rw [hB.2.1]; first | exact Nat.le_of_ble_eq_true rfl | (dsimp only; omega)) (by rw [hB.2.1]; first | exact Nat.le_of_ble_eq_true rfl | (dsimp only; omega)) (by rw [hB.2.1]; first | exact Nat.le_of_ble_eq_true rfl | (dsimp only; omega)) (by rw [hB.2.1]; first | exact Nat.le_of_ble_eq_true rfl | (dsimp only; omega)) dX7_init_61 (fun v h_61 n_61 p_61 => ?_)
  obtain ⟨rfl, rfl, w1, fr65⟩ := p_61
  try dsimp only [Option.toList, List.cons_append, List.nil_append]
  refine o_putf hC (fX7_45 hC rfl) (fwX7 rfl rfl rfl (Or.inr ⟨rfl, hB.2.2.2.2.1, rfl⟩)) dX7_init_64 (by repeat (first | with_reducible assumption | (rw [rl_u_s]; done) | (rw [rl_u_s]; rfl) | rw [rl_u_n (by first | with_reducible assumption | omega)] | rw [fr65 _ (by omega)] | rw [fr54 _ (by omega)] | rw [fr24 _ (by omega)] | rw [fr9 _ (by omega)])) (Nat.le_of_ble_eq_true rfl) ?_
  try simp only [List.set_cons_zero, List.set_cons_succ]
  refine o_aload_n hC dX7_init_67 (by rfl) ?_
  refine o_iconst (v := (-1 : Int32)) hC dX7_init_68 (by decide +kernel) ?_
  refine o_putf hC (fX7_49 hC rfl) (fwX7 rfl rfl rfl (Or.inl rfl)) dX7_init_69 (by repeat (first | with_reducible assumption | (rw [rl_u_s]; done) | (rw [rl_u_s]; rfl) | rw [rl_u_n (by first | with_reducible assumption | omega)] | rw [fr65 _ (by omega)] | rw [fr54 _ (by omega)] | rw [fr24 _ (by omega)] | rw [fr9 _ (by omega)])) (Nat.le_of_ble_eq_true rfl) ?_
  try simp only [List.set_cons_zero, List.set_cons_succ]
  refine o_vret hC hB dX7_init_72 (Nat.le_of_ble_eq_true rfl) (Nat.le_of_ble_eq_true rfl) ?_
  refine ⟨rfl, rfl, ⟨by repeat (first | with_reducible assumption | (rw [rl_u_s]; done) | (rw [rl_u_s]; rfl) | rw [rl_u_n (by first | with_reducible assumption | omega)] | rw [fr65 _ (by omega)] | rw [fr54 _ (by omega)] | rw [fr24 _ (by omega)] | rw [fr9 _ (by omega)]), s1.eqv (fun q h1 h2 => by repeat (first | rfl | rw [rl_u_n (by omega)] | rw [fr65 _ (by omega)] | rw [fr54 _ (by omega)] | rw [fr24 _ (by omega)] | rw [fr9 _ (by omega)])), o1.eqv (fun q h1 h2 => by repeat (first | rfl | rw [rl_u_n (by omega)] | rw [fr65 _ (by omega)] | rw [fr54 _ (by omega)] | rw [fr24 _ (by omega)] | rw [fr9 _ (by omega)])), by repeat (first | with_reducible assumption | (rw [rl_u_s]; done) | (rw [rl_u_s]; rfl) | rw [rl_u_n (by first | with_reducible assumption | omega)] | rw [fr65 _ (by omega)] | rw [fr54 _ (by omega)] | rw [fr24 _ (by omega)] | rw [fr9 _ (by omega)]), by repeat (first | with_reducible assumption | (rw [rl_u_s]; done) | (rw [rl_u_s]; rfl) | rw [rl_u_n (by first | with_reducible assumption | omega)] | rw [fr65 _ (by omega)] | rw [fr54 _ (by omega)] | rw [fr24 _ (by omega)] | rw [fr9 _ (by omega)]), by repeat (first | with_reducible assumption | (rw [rl_u_s]; done) | (rw [rl_u_s]; rfl) | rw [rl_u_n (by first | with_reducible assumption | omega)] | rw [fr65 _ (by omega)] | rw [fr54 _ (by omega)] | rw [fr24 _ (by omega)] | rw [fr9 _ (by omega)]), w1.eqv (fun q h1 h2 => by repeat (first | rfl | rw [rl_u_n (by omega)] | rw [fr65 _ (by omega)] | rw [fr54 _ (by omega)] | rw [fr24 _ (by omega)] | rw [fr9 _ (by omega)]))⟩, ?_⟩
  intro q hq
  repeat (first | rfl | rw [rl_u_n (by omega)] | rw [fr65 _ (by omega)] | rw [fr54 _ (by omega)] | rw [fr24 _ (by omega)] | rw [fr9 _ (by omega)])

/-- the model at m: its fields, and its arrays from m + 1 on -/
def md_at (ids : Nat → ClassId) (h : rl_H) (m : Nat) (code sources rows nodes resultColumns isFull heap inMany : Int32) (present : Int64) (a_sourceColumns a_rowSource a_rowCells a_nOp a_nFirst a_nSecond a_nA a_nB a_nC a_nV a_nColumns a_cells a_tuples a_isMade a_terms a_tuple a_group a_inTerms : Nat → Int32) (a_needs a_lacks a_heapNeeds a_heapLacks : Nat → Int64) : Prop :=
  h m = some (.inr (8, [.int code, .int sources, .ref (m + 1), .int rows, .ref (m + 2), .ref (m + 3), .long present, .int nodes, .ref (m + 4), .ref (m + 5), .ref (m + 6), .ref (m + 7), .ref (m + 8), .ref (m + 9), .ref (m + 10), .ref (m + 11), .ref (m + 12), .ref (m + 13), .ref (m + 14), .int resultColumns, .ref (m + 15), .ref (m + 16), .ref (m + 17), .int isFull, .ref (m + 18), .ref (m + 19), .int heap, .ref (m + 20), .ref (m + 21), .ref (m + 22), .int inMany])) ∧ h (m + 1) = some (.inl (ids 0, 4, .inl a_sourceColumns)) ∧ h (m + 2) = some (.inl (ids 0, 36, .inl a_rowSource)) ∧ h (m + 3) = some (.inl (ids 0, 144, .inl a_rowCells)) ∧ h (m + 4) = some (.inl (ids 0, 16, .inl a_nOp)) ∧ h (m + 5) = some (.inl (ids 0, 16, .inl a_nFirst)) ∧ h (m + 6) = some (.inl (ids 0, 16, .inl a_nSecond)) ∧ h (m + 7) = some (.inl (ids 0, 16, .inl a_nA)) ∧ h (m + 8) = some (.inl (ids 0, 16, .inl a_nB)) ∧ h (m + 9) = some (.inl (ids 0, 16, .inl a_nC)) ∧ h (m + 10) = some (.inl (ids 0, 16, .inl a_nV)) ∧ h (m + 11) = some (.inl (ids 0, 16, .inl a_nColumns)) ∧ h (m + 12) = some (.inl (ids 0, 8160, .inl a_cells)) ∧ h (m + 13) = some (.inl (ids 0, 17, .inl a_tuples)) ∧ h (m + 14) = some (.inl (ids 2, 16, .inl a_isMade)) ∧ h (m + 15) = some (.inl (ids 0, 1368, .inl a_terms)) ∧ h (m + 16) = some (.inl (ids 1, 16416, .inr (.inl a_needs))) ∧ h (m + 17) = some (.inl (ids 1, 16416, .inr (.inl a_lacks))) ∧ h (m + 18) = some (.inl (ids 1, 160, .inr (.inl a_heapNeeds))) ∧ h (m + 19) = some (.inl (ids 1, 160, .inr (.inl a_heapLacks))) ∧ h (m + 20) = some (.inl (ids 0, 6, .inl a_tuple)) ∧ h (m + 21) = some (.inl (ids 0, 4, .inl a_group)) ∧ h (m + 22) = some (.inl (ids 0, 36, .inl a_inTerms))
set_option maxHeartbeats 4000000 in
set_option maxRecDepth 100000 in
theorem ct_X8_init (l : Launch) (D : va_G) (ids : Nat → ClassId) (H0 : Heap) (h : rl_H) (n : Nat) (m : Nat) (h1 : h m = some (.inr (8, [.int (nI 0), .int (nI 0), .null, .int (nI 0), .null, .null, .long 0, .int (nI 0), .null, .null, .null, .null, .null, .null, .null, .null, .null, .null, .null, .int (nI 0), .null, .null, .null, .int (nI 0), .null, .null, .int (nI 0), .null, .null, .null, .int (nI 0)]))) (hn : n = m + 1) : rl_Met l (rl_e D ids H0) rl_BW rl_Ns yX8_init cX8_init 1 none ({ frames := 1, cells := 22, slots := 43071, locals := 16 }) [.ref m] h n (fun v h' n' => v = none ∧ n' = m + 23 ∧ md_at ids h' m (nI 0) (nI 0) (nI 0) (nI 0) (nI 0) (nI 0) (nI 0) (nI 0) 0 (fun _ => 0) (fun _ => 0) (fun _ => 0) (fun _ => 0) (fun _ => 0) (fun _ => 0) (fun _ => 0) (fun _ => 0) (fun _ => 0) (fun _ => 0) (fun _ => 0) (fun _ => 0) (fun _ => 0) (fun _ => 0) (fun _ => 0) (fun _ => 0) (fun _ => 0) (fun _ => 0) (fun _ => 0) (fun _ => 0) (fun _ => 0) (fun _ => 0) ∧ rl_fr h h' m (m + 23)) := by
  subst hn
  refine rl_Met.of (by decide +kernel) (Nat.le_of_ble_eq_true rfl) ?_
  intro X hC hB
  show rl_G X (rl_e D ids H0) 0 [some (.ref m)] [] h (m + 1) 0 0
  refine o_aload_n hC dX8_init_0 (by rfl) ?_
  refine o_objInit hC (by exact hB.2.2.2.2.2) mX8_1 w_objI w_objC dX8_init_1 (by rw [hB.2.1]; first | exact Nat.le_of_ble_eq_true rfl | (dsimp only; omega)) (by rw [hB.2.1]; first | exact Nat.le_of_ble_eq_true rfl | (dsimp only; omega)) ?_
  refine o_aload_n hC dX8_init_4 (by rfl) ?_
  refine o_iconst (v := nI 4) hC dX8_init_5 (by decide +kernel) ?_
  refine o_newa (atype := .int) (ty := .int) (t0 := 0) (N' := 4) (x := .inl (fun _ => 0)) hC rfl (fun C q => by cases q) aw_int rfl rfl (nI_pos (by decide)) (nI_clamp (by decide)) (by decide) (by rw [hB.2.1]; first | exact Nat.le_of_ble_eq_true rfl | (dsimp only; omega)) (by rw [hB.2.1]; first | exact Nat.le_of_ble_eq_true rfl | (dsimp only; omega)) dX8_init_6 ?_
  refine o_putf hC (fX8_7 hC rfl) (fwX8 rfl rfl rfl (Or.inr ⟨rfl, hB.2.2.2.2.1, rfl⟩)) dX8_init_8 (by repeat (first | with_reducible assumption | (rw [rl_u_s]; done) | (rw [rl_u_s]; rfl) | rw [rl_u_n (by first | with_reducible assumption | omega)])) (Nat.le_of_ble_eq_true rfl) ?_
  try simp only [List.set_cons_zero, List.set_cons_succ]
  refine o_aload_n hC dX8_init_11 (by rfl) ?_
  refine o_bipush (v := nI 36) hC dX8_init_12 (by decide +kernel) ?_
  refine o_newa (atype := .int) (ty := .int) (t0 := 0) (N' := 36) (x := .inl (fun _ => 0)) hC rfl (fun C q => by cases q) aw_int rfl rfl (nI_pos (by decide)) (nI_clamp (by decide)) (by decide) (by rw [hB.2.1]; first | exact Nat.le_of_ble_eq_true rfl | (dsimp only; omega)) (by rw [hB.2.1]; first | exact Nat.le_of_ble_eq_true rfl | (dsimp only; omega)) dX8_init_14 ?_
  refine o_putf hC (fX8_13 hC rfl) (fwX8 rfl rfl rfl (Or.inr ⟨rfl, hB.2.2.2.2.1, rfl⟩)) dX8_init_16 (by repeat (first | with_reducible assumption | (rw [rl_u_s]; done) | (rw [rl_u_s]; rfl) | rw [rl_u_n (by first | with_reducible assumption | omega)])) (Nat.le_of_ble_eq_true rfl) ?_
  try simp only [List.set_cons_zero, List.set_cons_succ]
  refine o_aload_n hC dX8_init_19 (by rfl) ?_
  refine o_sipush (v := nI 144) hC dX8_init_20 (by decide +kernel) ?_
  refine o_newa (atype := .int) (ty := .int) (t0 := 0) (N' := 144) (x := .inl (fun _ => 0)) hC rfl (fun C q => by cases q) aw_int rfl rfl (nI_pos (by decide)) (nI_clamp (by decide)) (by decide) (by rw [hB.2.1]; first | exact Nat.le_of_ble_eq_true rfl | (dsimp only; omega)) (by rw [hB.2.1]; first | exact Nat.le_of_ble_eq_true rfl | (dsimp only; omega)) dX8_init_23 ?_
  refine o_putf hC (fX8_16 hC rfl) (fwX8 rfl rfl rfl (Or.inr ⟨rfl, hB.2.2.2.2.1, rfl⟩)) dX8_init_25 (by repeat (first | with_reducible assumption | (rw [rl_u_s]; done) | (rw [rl_u_s]; rfl) | rw [rl_u_n (by first | with_reducible assumption | omega)])) (Nat.le_of_ble_eq_true rfl) ?_
  try simp only [List.set_cons_zero, List.set_cons_succ]
  refine o_aload_n hC dX8_init_28 (by rfl) ?_
  refine o_bipush (v := nI 16) hC dX8_init_29 (by decide +kernel) ?_
  refine o_newa (atype := .int) (ty := .int) (t0 := 0) (N' := 16) (x := .inl (fun _ => 0)) hC rfl (fun C q => by cases q) aw_int rfl rfl (nI_pos (by decide)) (nI_clamp (by decide)) (by decide) (by rw [hB.2.1]; first | exact Nat.le_of_ble_eq_true rfl | (dsimp only; omega)) (by rw [hB.2.1]; first | exact Nat.le_of_ble_eq_true rfl | (dsimp only; omega)) dX8_init_31 ?_
  refine o_putf hC (fX8_19 hC rfl) (fwX8 rfl rfl rfl (Or.inr ⟨rfl, hB.2.2.2.2.1, rfl⟩)) dX8_init_33 (by repeat (first | with_reducible assumption | (rw [rl_u_s]; done) | (rw [rl_u_s]; rfl) | rw [rl_u_n (by first | with_reducible assumption | omega)])) (Nat.le_of_ble_eq_true rfl) ?_
  try simp only [List.set_cons_zero, List.set_cons_succ]
  refine o_aload_n hC dX8_init_36 (by rfl) ?_
  refine o_bipush (v := nI 16) hC dX8_init_37 (by decide +kernel) ?_
  refine o_newa (atype := .int) (ty := .int) (t0 := 0) (N' := 16) (x := .inl (fun _ => 0)) hC rfl (fun C q => by cases q) aw_int rfl rfl (nI_pos (by decide)) (nI_clamp (by decide)) (by decide) (by rw [hB.2.1]; first | exact Nat.le_of_ble_eq_true rfl | (dsimp only; omega)) (by rw [hB.2.1]; first | exact Nat.le_of_ble_eq_true rfl | (dsimp only; omega)) dX8_init_39 ?_
  refine o_putf hC (fX8_22 hC rfl) (fwX8 rfl rfl rfl (Or.inr ⟨rfl, hB.2.2.2.2.1, rfl⟩)) dX8_init_41 (by repeat (first | with_reducible assumption | (rw [rl_u_s]; done) | (rw [rl_u_s]; rfl) | rw [rl_u_n (by first | with_reducible assumption | omega)])) (Nat.le_of_ble_eq_true rfl) ?_
  try simp only [List.set_cons_zero, List.set_cons_succ]
  refine o_aload_n hC dX8_init_44 (by rfl) ?_
  refine o_bipush (v := nI 16) hC dX8_init_45 (by decide +kernel) ?_
  refine o_newa (atype := .int) (ty := .int) (t0 := 0) (N' := 16) (x := .inl (fun _ => 0)) hC rfl (fun C q => by cases q) aw_int rfl rfl (nI_pos (by decide)) (nI_clamp (by decide)) (by decide) (by rw [hB.2.1]; first | exact Nat.le_of_ble_eq_true rfl | (dsimp only; omega)) (by rw [hB.2.1]; first | exact Nat.le_of_ble_eq_true rfl | (dsimp only; omega)) dX8_init_47 ?_
  refine o_putf hC (fX8_25 hC rfl) (fwX8 rfl rfl rfl (Or.inr ⟨rfl, hB.2.2.2.2.1, rfl⟩)) dX8_init_49 (by repeat (first | with_reducible assumption | (rw [rl_u_s]; done) | (rw [rl_u_s]; rfl) | rw [rl_u_n (by first | with_reducible assumption | omega)])) (Nat.le_of_ble_eq_true rfl) ?_
  try simp only [List.set_cons_zero, List.set_cons_succ]
  refine o_aload_n hC dX8_init_52 (by rfl) ?_
  refine o_bipush (v := nI 16) hC dX8_init_53 (by decide +kernel) ?_
  refine o_newa (atype := .int) (ty := .int) (t0 := 0) (N' := 16) (x := .inl (fun _ => 0)) hC rfl (fun C q => by cases q) aw_int rfl rfl (nI_pos (by decide)) (nI_clamp (by decide)) (by decide) (by rw [hB.2.1]; first | exact Nat.le_of_ble_eq_true rfl | (dsimp only; omega)) (by rw [hB.2.1]; first | exact Nat.le_of_ble_eq_true rfl | (dsimp only; omega)) dX8_init_55 ?_
  refine o_putf hC (fX8_28 hC rfl) (fwX8 rfl rfl rfl (Or.inr ⟨rfl, hB.2.2.2.2.1, rfl⟩)) dX8_init_57 (by repeat (first | with_reducible assumption | (rw [rl_u_s]; done) | (rw [rl_u_s]; rfl) | rw [rl_u_n (by first | with_reducible assumption | omega)])) (Nat.le_of_ble_eq_true rfl) ?_
  try simp only [List.set_cons_zero, List.set_cons_succ]
  refine o_aload_n hC dX8_init_60 (by rfl) ?_
  refine o_bipush (v := nI 16) hC dX8_init_61 (by decide +kernel) ?_
  refine o_newa (atype := .int) (ty := .int) (t0 := 0) (N' := 16) (x := .inl (fun _ => 0)) hC rfl (fun C q => by cases q) aw_int rfl rfl (nI_pos (by decide)) (nI_clamp (by decide)) (by decide) (by rw [hB.2.1]; first | exact Nat.le_of_ble_eq_true rfl | (dsimp only; omega)) (by rw [hB.2.1]; first | exact Nat.le_of_ble_eq_true rfl | (dsimp only; omega)) dX8_init_63 ?_
  refine o_putf hC (fX8_31 hC rfl) (fwX8 rfl rfl rfl (Or.inr ⟨rfl, hB.2.2.2.2.1, rfl⟩)) dX8_init_65 (by repeat (first | with_reducible assumption | (rw [rl_u_s]; done) | (rw [rl_u_s]; rfl) | rw [rl_u_n (by first | with_reducible assumption | omega)])) (Nat.le_of_ble_eq_true rfl) ?_
  try simp only [List.set_cons_zero, List.set_cons_succ]
  refine o_aload_n hC dX8_init_68 (by rfl) ?_
  refine o_bipush (v := nI 16) hC dX8_init_69 (by decide +kernel) ?_
  refine o_newa (atype := .int) (ty := .int) (t0 := 0) (N' := 16) (x := .inl (fun _ => 0)) hC rfl (fun C q => by cases q) aw_int rfl rfl (nI_pos (by decide)) (nI_clamp (by decide)) (by decide) (by rw [hB.2.1]; first | exact Nat.le_of_ble_eq_true rfl | (dsimp only; omega)) (by rw [hB.2.1]; first | exact Nat.le_of_ble_eq_true rfl | (dsimp only; omega)) dX8_init_71 ?_
  refine o_putf hC (fX8_34 hC rfl) (fwX8 rfl rfl rfl (Or.inr ⟨rfl, hB.2.2.2.2.1, rfl⟩)) dX8_init_73 (by repeat (first | with_reducible assumption | (rw [rl_u_s]; done) | (rw [rl_u_s]; rfl) | rw [rl_u_n (by first | with_reducible assumption | omega)])) (Nat.le_of_ble_eq_true rfl) ?_
  try simp only [List.set_cons_zero, List.set_cons_succ]
  refine o_aload_n hC dX8_init_76 (by rfl) ?_
  refine o_bipush (v := nI 16) hC dX8_init_77 (by decide +kernel) ?_
  refine o_newa (atype := .int) (ty := .int) (t0 := 0) (N' := 16) (x := .inl (fun _ => 0)) hC rfl (fun C q => by cases q) aw_int rfl rfl (nI_pos (by decide)) (nI_clamp (by decide)) (by decide) (by rw [hB.2.1]; first | exact Nat.le_of_ble_eq_true rfl | (dsimp only; omega)) (by rw [hB.2.1]; first | exact Nat.le_of_ble_eq_true rfl | (dsimp only; omega)) dX8_init_79 ?_
  refine o_putf hC (fX8_37 hC rfl) (fwX8 rfl rfl rfl (Or.inr ⟨rfl, hB.2.2.2.2.1, rfl⟩)) dX8_init_81 (by repeat (first | with_reducible assumption | (rw [rl_u_s]; done) | (rw [rl_u_s]; rfl) | rw [rl_u_n (by first | with_reducible assumption | omega)])) (Nat.le_of_ble_eq_true rfl) ?_
  try simp only [List.set_cons_zero, List.set_cons_succ]
  refine o_aload_n hC dX8_init_84 (by rfl) ?_
  refine o_bipush (v := nI 16) hC dX8_init_85 (by decide +kernel) ?_
  refine o_newa (atype := .int) (ty := .int) (t0 := 0) (N' := 16) (x := .inl (fun _ => 0)) hC rfl (fun C q => by cases q) aw_int rfl rfl (nI_pos (by decide)) (nI_clamp (by decide)) (by decide) (by rw [hB.2.1]; first | exact Nat.le_of_ble_eq_true rfl | (dsimp only; omega)) (by rw [hB.2.1]; first | exact Nat.le_of_ble_eq_true rfl | (dsimp only; omega)) dX8_init_87 ?_
  refine o_putf hC (fX8_40 hC rfl) (fwX8 rfl rfl rfl (Or.inr ⟨rfl, hB.2.2.2.2.1, rfl⟩)) dX8_init_89 (by repeat (first | with_reducible assumption | (rw [rl_u_s]; done) | (rw [rl_u_s]; rfl) | rw [rl_u_n (by first | with_reducible assumption | omega)])) (Nat.le_of_ble_eq_true rfl) ?_
  try simp only [List.set_cons_zero, List.set_cons_succ]
  refine o_aload_n hC dX8_init_92 (by rfl) ?_
  refine o_sipush (v := nI 8160) hC dX8_init_93 (by decide +kernel) ?_
  refine o_newa (atype := .int) (ty := .int) (t0 := 0) (N' := 8160) (x := .inl (fun _ => 0)) hC rfl (fun C q => by cases q) aw_int rfl rfl (nI_pos (by decide)) (nI_clamp (by decide)) (by decide) (by rw [hB.2.1]; first | exact Nat.le_of_ble_eq_true rfl | (dsimp only; omega)) (by rw [hB.2.1]; first | exact Nat.le_of_ble_eq_true rfl | (dsimp only; omega)) dX8_init_96 ?_
  refine o_putf hC (fX8_43 hC rfl) (fwX8 rfl rfl rfl (Or.inr ⟨rfl, hB.2.2.2.2.1, rfl⟩)) dX8_init_98 (by repeat (first | with_reducible assumption | (rw [rl_u_s]; done) | (rw [rl_u_s]; rfl) | rw [rl_u_n (by first | with_reducible assumption | omega)])) (Nat.le_of_ble_eq_true rfl) ?_
  try simp only [List.set_cons_zero, List.set_cons_succ]
  refine o_aload_n hC dX8_init_101 (by rfl) ?_
  refine o_bipush (v := nI 17) hC dX8_init_102 (by decide +kernel) ?_
  refine o_newa (atype := .int) (ty := .int) (t0 := 0) (N' := 17) (x := .inl (fun _ => 0)) hC rfl (fun C q => by cases q) aw_int rfl rfl (nI_pos (by decide)) (nI_clamp (by decide)) (by decide) (by rw [hB.2.1]; first | exact Nat.le_of_ble_eq_true rfl | (dsimp only; omega)) (by rw [hB.2.1]; first | exact Nat.le_of_ble_eq_true rfl | (dsimp only; omega)) dX8_init_104 ?_
  refine o_putf hC (fX8_46 hC rfl) (fwX8 rfl rfl rfl (Or.inr ⟨rfl, hB.2.2.2.2.1, rfl⟩)) dX8_init_106 (by repeat (first | with_reducible assumption | (rw [rl_u_s]; done) | (rw [rl_u_s]; rfl) | rw [rl_u_n (by first | with_reducible assumption | omega)])) (Nat.le_of_ble_eq_true rfl) ?_
  try simp only [List.set_cons_zero, List.set_cons_succ]
  refine o_aload_n hC dX8_init_109 (by rfl) ?_
  refine o_bipush (v := nI 16) hC dX8_init_110 (by decide +kernel) ?_
  refine o_newa (atype := .boolean) (ty := .boolean) (t0 := 2) (N' := 16) (x := .inl (fun _ => 0)) hC rfl (fun C q => by cases q) aw_boolean rfl rfl (nI_pos (by decide)) (nI_clamp (by decide)) (by decide) (by rw [hB.2.1]; first | exact Nat.le_of_ble_eq_true rfl | (dsimp only; omega)) (by rw [hB.2.1]; first | exact Nat.le_of_ble_eq_true rfl | (dsimp only; omega)) dX8_init_112 ?_
  refine o_putf hC (fX8_49 hC rfl) (fwX8 rfl rfl rfl (Or.inr ⟨rfl, hB.2.2.2.2.1, rfl⟩)) dX8_init_114 (by repeat (first | with_reducible assumption | (rw [rl_u_s]; done) | (rw [rl_u_s]; rfl) | rw [rl_u_n (by first | with_reducible assumption | omega)])) (Nat.le_of_ble_eq_true rfl) ?_
  try simp only [List.set_cons_zero, List.set_cons_succ]
  refine o_aload_n hC dX8_init_117 (by rfl) ?_
  refine o_sipush (v := nI 1368) hC dX8_init_118 (by decide +kernel) ?_
  refine o_newa (atype := .int) (ty := .int) (t0 := 0) (N' := 1368) (x := .inl (fun _ => 0)) hC rfl (fun C q => by cases q) aw_int rfl rfl (nI_pos (by decide)) (nI_clamp (by decide)) (by decide) (by rw [hB.2.1]; first | exact Nat.le_of_ble_eq_true rfl | (dsimp only; omega)) (by rw [hB.2.1]; first | exact Nat.le_of_ble_eq_true rfl | (dsimp only; omega)) dX8_init_121 ?_
  refine o_putf hC (fX8_53 hC rfl) (fwX8 rfl rfl rfl (Or.inr ⟨rfl, hB.2.2.2.2.1, rfl⟩)) dX8_init_123 (by repeat (first | with_reducible assumption | (rw [rl_u_s]; done) | (rw [rl_u_s]; rfl) | rw [rl_u_n (by first | with_reducible assumption | omega)])) (Nat.le_of_ble_eq_true rfl) ?_
  try simp only [List.set_cons_zero, List.set_cons_succ]
  refine o_aload_n hC dX8_init_126 (by rfl) ?_
  refine o_sipush (v := nI 16416) hC dX8_init_127 (by decide +kernel) ?_
  refine o_newa (atype := .long) (ty := .long) (t0 := 1) (N' := 16416) (x := .inr (.inl (fun _ => 0))) hC rfl (fun C q => by cases q) aw_long rfl rfl (nI_pos (by decide)) (nI_clamp (by decide)) (by decide) (by rw [hB.2.1]; first | exact Nat.le_of_ble_eq_true rfl | (dsimp only; omega)) (by rw [hB.2.1]; first | exact Nat.le_of_ble_eq_true rfl | (dsimp only; omega)) dX8_init_130 ?_
  refine o_putf hC (fX8_56 hC rfl) (fwX8 rfl rfl rfl (Or.inr ⟨rfl, hB.2.2.2.2.1, rfl⟩)) dX8_init_132 (by repeat (first | with_reducible assumption | (rw [rl_u_s]; done) | (rw [rl_u_s]; rfl) | rw [rl_u_n (by first | with_reducible assumption | omega)])) (Nat.le_of_ble_eq_true rfl) ?_
  try simp only [List.set_cons_zero, List.set_cons_succ]
  refine o_aload_n hC dX8_init_135 (by rfl) ?_
  refine o_sipush (v := nI 16416) hC dX8_init_136 (by decide +kernel) ?_
  refine o_newa (atype := .long) (ty := .long) (t0 := 1) (N' := 16416) (x := .inr (.inl (fun _ => 0))) hC rfl (fun C q => by cases q) aw_long rfl rfl (nI_pos (by decide)) (nI_clamp (by decide)) (by decide) (by rw [hB.2.1]; first | exact Nat.le_of_ble_eq_true rfl | (dsimp only; omega)) (by rw [hB.2.1]; first | exact Nat.le_of_ble_eq_true rfl | (dsimp only; omega)) dX8_init_139 ?_
  refine o_putf hC (fX8_60 hC rfl) (fwX8 rfl rfl rfl (Or.inr ⟨rfl, hB.2.2.2.2.1, rfl⟩)) dX8_init_141 (by repeat (first | with_reducible assumption | (rw [rl_u_s]; done) | (rw [rl_u_s]; rfl) | rw [rl_u_n (by first | with_reducible assumption | omega)])) (Nat.le_of_ble_eq_true rfl) ?_
  try simp only [List.set_cons_zero, List.set_cons_succ]
  refine o_aload_n hC dX8_init_144 (by rfl) ?_
  refine o_sipush (v := nI 160) hC dX8_init_145 (by decide +kernel) ?_
  refine o_newa (atype := .long) (ty := .long) (t0 := 1) (N' := 160) (x := .inr (.inl (fun _ => 0))) hC rfl (fun C q => by cases q) aw_long rfl rfl (nI_pos (by decide)) (nI_clamp (by decide)) (by decide) (by rw [hB.2.1]; first | exact Nat.le_of_ble_eq_true rfl | (dsimp only; omega)) (by rw [hB.2.1]; first | exact Nat.le_of_ble_eq_true rfl | (dsimp only; omega)) dX8_init_148 ?_
  refine o_putf hC (fX8_63 hC rfl) (fwX8 rfl rfl rfl (Or.inr ⟨rfl, hB.2.2.2.2.1, rfl⟩)) dX8_init_150 (by repeat (first | with_reducible assumption | (rw [rl_u_s]; done) | (rw [rl_u_s]; rfl) | rw [rl_u_n (by first | with_reducible assumption | omega)])) (Nat.le_of_ble_eq_true rfl) ?_
  try simp only [List.set_cons_zero, List.set_cons_succ]
  refine o_aload_n hC dX8_init_153 (by rfl) ?_
  refine o_sipush (v := nI 160) hC dX8_init_154 (by decide +kernel) ?_
  refine o_newa (atype := .long) (ty := .long) (t0 := 1) (N' := 160) (x := .inr (.inl (fun _ => 0))) hC rfl (fun C q => by cases q) aw_long rfl rfl (nI_pos (by decide)) (nI_clamp (by decide)) (by decide) (by rw [hB.2.1]; first | exact Nat.le_of_ble_eq_true rfl | (dsimp only; omega)) (by rw [hB.2.1]; first | exact Nat.le_of_ble_eq_true rfl | (dsimp only; omega)) dX8_init_157 ?_
  refine o_putf hC (fX8_66 hC rfl) (fwX8 rfl rfl rfl (Or.inr ⟨rfl, hB.2.2.2.2.1, rfl⟩)) dX8_init_159 (by repeat (first | with_reducible assumption | (rw [rl_u_s]; done) | (rw [rl_u_s]; rfl) | rw [rl_u_n (by first | with_reducible assumption | omega)])) (Nat.le_of_ble_eq_true rfl) ?_
  try simp only [List.set_cons_zero, List.set_cons_succ]
  refine o_aload_n hC dX8_init_162 (by rfl) ?_
  refine o_bipush (v := nI 6) hC dX8_init_163 (by decide +kernel) ?_
  refine o_newa (atype := .int) (ty := .int) (t0 := 0) (N' := 6) (x := .inl (fun _ => 0)) hC rfl (fun C q => by cases q) aw_int rfl rfl (nI_pos (by decide)) (nI_clamp (by decide)) (by decide) (by rw [hB.2.1]; first | exact Nat.le_of_ble_eq_true rfl | (dsimp only; omega)) (by rw [hB.2.1]; first | exact Nat.le_of_ble_eq_true rfl | (dsimp only; omega)) dX8_init_165 ?_
  refine o_putf hC (fX8_69 hC rfl) (fwX8 rfl rfl rfl (Or.inr ⟨rfl, hB.2.2.2.2.1, rfl⟩)) dX8_init_167 (by repeat (first | with_reducible assumption | (rw [rl_u_s]; done) | (rw [rl_u_s]; rfl) | rw [rl_u_n (by first | with_reducible assumption | omega)])) (Nat.le_of_ble_eq_true rfl) ?_
  try simp only [List.set_cons_zero, List.set_cons_succ]
  refine o_aload_n hC dX8_init_170 (by rfl) ?_
  refine o_iconst (v := nI 4) hC dX8_init_171 (by decide +kernel) ?_
  refine o_newa (atype := .int) (ty := .int) (t0 := 0) (N' := 4) (x := .inl (fun _ => 0)) hC rfl (fun C q => by cases q) aw_int rfl rfl (nI_pos (by decide)) (nI_clamp (by decide)) (by decide) (by rw [hB.2.1]; first | exact Nat.le_of_ble_eq_true rfl | (dsimp only; omega)) (by rw [hB.2.1]; first | exact Nat.le_of_ble_eq_true rfl | (dsimp only; omega)) dX8_init_172 ?_
  refine o_putf hC (fX8_72 hC rfl) (fwX8 rfl rfl rfl (Or.inr ⟨rfl, hB.2.2.2.2.1, rfl⟩)) dX8_init_174 (by repeat (first | with_reducible assumption | (rw [rl_u_s]; done) | (rw [rl_u_s]; rfl) | rw [rl_u_n (by first | with_reducible assumption | omega)])) (Nat.le_of_ble_eq_true rfl) ?_
  try simp only [List.set_cons_zero, List.set_cons_succ]
  refine o_aload_n hC dX8_init_177 (by rfl) ?_
  refine o_bipush (v := nI 36) hC dX8_init_178 (by decide +kernel) ?_
  refine o_newa (atype := .int) (ty := .int) (t0 := 0) (N' := 36) (x := .inl (fun _ => 0)) hC rfl (fun C q => by cases q) aw_int rfl rfl (nI_pos (by decide)) (nI_clamp (by decide)) (by decide) (by rw [hB.2.1]; first | exact Nat.le_of_ble_eq_true rfl | (dsimp only; omega)) (by rw [hB.2.1]; first | exact Nat.le_of_ble_eq_true rfl | (dsimp only; omega)) dX8_init_180 ?_
  refine o_putf hC (fX8_75 hC rfl) (fwX8 rfl rfl rfl (Or.inr ⟨rfl, hB.2.2.2.2.1, rfl⟩)) dX8_init_182 (by repeat (first | with_reducible assumption | (rw [rl_u_s]; done) | (rw [rl_u_s]; rfl) | rw [rl_u_n (by first | with_reducible assumption | omega)])) (Nat.le_of_ble_eq_true rfl) ?_
  try simp only [List.set_cons_zero, List.set_cons_succ]
  refine o_vret hC hB dX8_init_185 (Nat.le_of_ble_eq_true rfl) (Nat.le_of_ble_eq_true rfl) ?_
  refine ⟨rfl, rfl, ⟨by repeat (first | with_reducible assumption | (rw [rl_u_s]; done) | (rw [rl_u_s]; rfl) | rw [rl_u_n (by first | with_reducible assumption | omega)]), by repeat (first | with_reducible assumption | (rw [rl_u_s]; done) | (rw [rl_u_s]; rfl) | rw [rl_u_n (by first | with_reducible assumption | omega)]), by repeat (first | with_reducible assumption | (rw [rl_u_s]; done) | (rw [rl_u_s]; rfl) | rw [rl_u_n (by first | with_reducible assumption | omega)]), by repeat (first | with_reducible assumption | (rw [rl_u_s]; done) | (rw [rl_u_s]; rfl) | rw [rl_u_n (by first | with_reducible assumption | omega)]), by repeat (first | with_reducible assumption | (rw [rl_u_s]; done) | (rw [rl_u_s]; rfl) | rw [rl_u_n (by first | with_reducible assumption | omega)]), by repeat (first | with_reducible assumption | (rw [rl_u_s]; done) | (rw [rl_u_s]; rfl) | rw [rl_u_n (by first | with_reducible assumption | omega)]), by repeat (first | with_reducible assumption | (rw [rl_u_s]; done) | (rw [rl_u_s]; rfl) | rw [rl_u_n (by first | with_reducible assumption | omega)]), by repeat (first | with_reducible assumption | (rw [rl_u_s]; done) | (rw [rl_u_s]; rfl) | rw [rl_u_n (by first | with_reducible assumption | omega)]), by repeat (first | with_reducible assumption | (rw [rl_u_s]; done) | (rw [rl_u_s]; rfl) | rw [rl_u_n (by first | with_reducible assumption | omega)]), by repeat (first | with_reducible assumption | (rw [rl_u_s]; done) | (rw [rl_u_s]; rfl) | rw [rl_u_n (by first | with_reducible assumption | omega)]), by repeat (first | with_reducible assumption | (rw [rl_u_s]; done) | (rw [rl_u_s]; rfl) | rw [rl_u_n (by first | with_reducible assumption | omega)]), by repeat (first | with_reducible assumption | (rw [rl_u_s]; done) | (rw [rl_u_s]; rfl) | rw [rl_u_n (by first | with_reducible assumption | omega)]), by repeat (first | with_reducible assumption | (rw [rl_u_s]; done) | (rw [rl_u_s]; rfl) | rw [rl_u_n (by first | with_reducible assumption | omega)]), by repeat (first | with_reducible assumption | (rw [rl_u_s]; done) | (rw [rl_u_s]; rfl) | rw [rl_u_n (by first | with_reducible assumption | omega)]), by repeat (first | with_reducible assumption | (rw [rl_u_s]; done) | (rw [rl_u_s]; rfl) | rw [rl_u_n (by first | with_reducible assumption | omega)]), by repeat (first | with_reducible assumption | (rw [rl_u_s]; done) | (rw [rl_u_s]; rfl) | rw [rl_u_n (by first | with_reducible assumption | omega)]), by repeat (first | with_reducible assumption | (rw [rl_u_s]; done) | (rw [rl_u_s]; rfl) | rw [rl_u_n (by first | with_reducible assumption | omega)]), by repeat (first | with_reducible assumption | (rw [rl_u_s]; done) | (rw [rl_u_s]; rfl) | rw [rl_u_n (by first | with_reducible assumption | omega)]), by repeat (first | with_reducible assumption | (rw [rl_u_s]; done) | (rw [rl_u_s]; rfl) | rw [rl_u_n (by first | with_reducible assumption | omega)]), by repeat (first | with_reducible assumption | (rw [rl_u_s]; done) | (rw [rl_u_s]; rfl) | rw [rl_u_n (by first | with_reducible assumption | omega)]), by repeat (first | with_reducible assumption | (rw [rl_u_s]; done) | (rw [rl_u_s]; rfl) | rw [rl_u_n (by first | with_reducible assumption | omega)]), by repeat (first | with_reducible assumption | (rw [rl_u_s]; done) | (rw [rl_u_s]; rfl) | rw [rl_u_n (by first | with_reducible assumption | omega)]), by repeat (first | with_reducible assumption | (rw [rl_u_s]; done) | (rw [rl_u_s]; rfl) | rw [rl_u_n (by first | with_reducible assumption | omega)])⟩, ?_⟩
  intro q hq
  repeat (first | rfl | rw [rl_u_n (by omega)])
end
