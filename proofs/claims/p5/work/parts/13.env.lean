/-! the tables of this claim, and rows for indices that are natural numbers -/
def rl_tys (ids : Nat → ClassId) : List (ClassId × FieldType) := [(ids 0, .int), (ids 1, .long), (ids 2, .boolean), (ids 3, .object RX5), (ids 4, .object RX6), (ids 5, .object RX1), (ids 6, .object RX4), (ids 7, .array .int)]
abbrev rl_e (D : va_G) (ids : Nat → ClassId) (H0 : Heap) : rl_E := (D, vwCl, rl_tys ids, H0)
theorem rl_inc (k : Nat) : nI k + Int32.ofInt 1 = nI (k + 1) := nI_1 k
theorem rl_dec (k : Nat) : nI (k + 1) + Int32.ofInt (-1) = nI k := by
  have h : Int32.ofInt (-1) = -1 := by decide +kernel
  rw [h]
  exact pk_m1 k
theorem rl_cl {k N : Nat} (hk : k < N) (hN : N < 2147483648) : (nI k).toNatClampNeg = k := nI_clamp (by omega)
theorem rl_ix {k N : Nat} (hk : k < N) (hN : N < 2147483648) : vp_in (nI k) N := vp_in_nI hk (by omega)
section RLN
variable {X : rl_X} {E : rl_E} {cc : ByteArray} {own : String} {Ts Ns : List Cond} {pc : Nat} {lo : List (Option Value)} {st : List Value} {h : rl_H} {n ce sl : Nat}
theorem o_ialdN (hC : rl_C X E cc own Ts Ns) {a t0 N k : Nat} {cA : ClassId} {f : Nat → Int32} (ht : E.2.2.1[t0]? = some (cA, .int)) (hd : decode cc pc = .ok (.iaload, 1)) (ha : h a = some (.inl (cA, N, .inl f))) (hk : k < N) (hN : N < 2147483648) (kk : rl_G X E (pc + 1) lo (.int (f k) :: st) h n ce sl) : rl_G X E pc lo (.int (nI k) :: .ref a :: st) h n ce sl := o_iald hC ht hd ha (rl_ix hk hN) (by rw [rl_cl hk hN]; exact kk)
theorem o_zaldN (hC : rl_C X E cc own Ts Ns) {a t0 N k : Nat} {cA : ClassId} {f : Nat → Int32} (ht : E.2.2.1[t0]? = some (cA, .boolean)) (hd : decode cc pc = .ok (.baload, 1)) (ha : h a = some (.inl (cA, N, .inl f))) (hk : k < N) (hN : N < 2147483648) (kk : rl_G X E (pc + 1) lo (.int (f k) :: st) h n ce sl) : rl_G X E pc lo (.int (nI k) :: .ref a :: st) h n ce sl := o_zald hC ht hd ha (rl_ix hk hN) (by rw [rl_cl hk hN]; exact kk)
theorem o_laldN (hC : rl_C X E cc own Ts Ns) {a t0 N k : Nat} {cA : ClassId} {f : Nat → Int64} (ht : E.2.2.1[t0]? = some (cA, .long)) (hd : decode cc pc = .ok (.laload, 1)) (ha : h a = some (.inl (cA, N, .inr (.inl f)))) (hk : k < N) (hN : N < 2147483648) (kk : rl_G X E (pc + 1) lo (.long (f k) :: st) h n ce sl) : rl_G X E pc lo (.int (nI k) :: .ref a :: st) h n ce sl := o_lald hC ht hd ha (rl_ix hk hN) (by rw [rl_cl hk hN]; exact kk)
theorem o_aaldN (hC : rl_C X E cc own Ts Ns) {a t0 N k : Nat} {cA : ClassId} {C : String} {f : Nat → Option Nat} (ht : E.2.2.1[t0]? = some (cA, .object C)) (hd : decode cc pc = .ok (.aaload, 1)) (ha : h a = some (.inl (cA, N, .inr (.inr (.inr (.inr f)))))) (hk : k < N) (hN : N < 2147483648) (kk : rl_G X E (pc + 1) lo (va_rf (f k) :: st) h n ce sl) : rl_G X E pc lo (.int (nI k) :: .ref a :: st) h n ce sl := o_aald hC ht hd ha (rl_ix hk hN) (by rw [rl_cl hk hN]; exact kk)
theorem o_iastN (hC : rl_C X E cc own Ts Ns) {a t0 N k : Nat} {cA : ClassId} {f : Nat → Int32} {x : Int32} (ht : E.2.2.1[t0]? = some (cA, .int)) (hd : decode cc pc = .ok (.iastore, 1)) (ha : h a = some (.inl (cA, N, .inl f))) (hk : k < N) (hN : N < 2147483648) (kk : rl_G X E (pc + 1) lo st (rl_u h a (.inl (cA, N, .inl (upd f k x)))) n ce sl) : rl_G X E pc lo (.int x :: .int (nI k) :: .ref a :: st) h n ce sl := o_iast hC ht hd ha (rl_ix hk hN) (by rw [rl_cl hk hN]; exact kk)
theorem o_lastN (hC : rl_C X E cc own Ts Ns) {a t0 N k : Nat} {cA : ClassId} {f : Nat → Int64} {x : Int64} (ht : E.2.2.1[t0]? = some (cA, .long)) (hd : decode cc pc = .ok (.lastore, 1)) (ha : h a = some (.inl (cA, N, .inr (.inl f)))) (hk : k < N) (hN : N < 2147483648) (kk : rl_G X E (pc + 1) lo st (rl_u h a (.inl (cA, N, .inr (.inl (vp_updL f k x))))) n ce sl) : rl_G X E pc lo (.long x :: .int (nI k) :: .ref a :: st) h n ce sl := o_last hC ht hd ha (rl_ix hk hN) (by rw [rl_cl hk hN]; exact kk)
theorem o_aastN (hC : rl_C X E cc own Ts Ns) {a v t0 ci N k : Nat} {cA : ClassId} {r : vw_C} {vs : List Value} {f : Nat → Option Nat} (ht : E.2.2.1[t0]? = some (cA, .object r.1)) (hc : E.2.1[ci]? = some r) (hd : decode cc pc = .ok (.aastore, 1)) (ha : h a = some (.inl (cA, N, .inr (.inr (.inr (.inr f)))))) (hv : h v = some (.inr (ci, vs))) (hk : k < N) (hN : N < 2147483648) (kk : rl_G X E (pc + 1) lo st (rl_u h a (.inl (cA, N, .inr (.inr (.inr (.inr (va_up f k (some v)))))))) n ce sl) : rl_G X E pc lo (.ref v :: .int (nI k) :: .ref a :: st) h n ce sl := o_aast hC ht hc hd ha hv (rl_ix hk hN) (by rw [rl_cl hk hN]; exact kk)
/-- an array of arrays of numbers -/
theorem o_aaldA (hC : rl_C X E cc own Ts Ns) {a t0 N k : Nat} {cA : ClassId} {ty : FieldType} {f : Nat → Option Nat} (ht : E.2.2.1[t0]? = some (cA, .array ty)) (hd : decode cc pc = .ok (.aaload, 1)) (ha : h a = some (.inl (cA, N, .inr (.inr (.inr (.inr f)))))) (hk : k < N) (hN : N < 2147483648) (kk : rl_G X E (pc + 1) lo (va_rf (f k) :: st) h n ce sl) : rl_G X E pc lo (.int (nI k) :: .ref a :: st) h n ce sl := by
  intro H locs ls a1 b1 c1
  have hat : H[a]? = some (arrV cA N (fun j => va_rf (f j))) := (a1.2.2.2 a _ ha).2
  have hkk := kk H locs ls a1 b1 c1
  exact W.aald (v := va_rf (f k)) (ty := .array ty) hC.1 hC.2.1 hat ((hC.2.2.2.2.2.1.2 t0 _ ht).1 N (fun j => va_rf (f j))) rfl (fun q => by cases q) (by show ¬ (nI k < 0 ∨ (arrV _ _ _).slots.size ≤ _); rw [arrV_size]; exact rl_ix hk hN) (by rw [rl_cl hk hN]; show (arrV _ _ _).slots[_]? = _; rw [arrV_read _ _ hk]) rfl rfl hd hkk
end RLN
theorem fwX0 {X : rl_X} {E : rl_E} {own : String} {k : Nat} {v : Value} (hE : E.2.1 = vwCl) (h1 : narrow (tyX0 k) v = v) (h2 : fits (tyX0 k) v = true) (h3 : (TX0 k).2.2.2 = false ∨ ((TX0 k).2.2.2 = true ∧ X.2.1.2.2.2.1.name = "<init>" ∧ RX0 = own)) : rl_Fw X E own 0 k v := by
  intro C T N h
  rw [hE] at h
  cases h
  exact ⟨⟨tyX0, tyX0_ok, h1, h2⟩, nmX0, h3⟩
theorem fwX1 {X : rl_X} {E : rl_E} {own : String} {k : Nat} {v : Value} (hE : E.2.1 = vwCl) (h1 : narrow (tyX1 k) v = v) (h2 : fits (tyX1 k) v = true) (h3 : (TX1 k).2.2.2 = false ∨ ((TX1 k).2.2.2 = true ∧ X.2.1.2.2.2.1.name = "<init>" ∧ RX1 = own)) : rl_Fw X E own 1 k v := by
  intro C T N h
  rw [hE] at h
  cases h
  exact ⟨⟨tyX1, tyX1_ok, h1, h2⟩, nmX1, h3⟩
theorem fwX2 {X : rl_X} {E : rl_E} {own : String} {k : Nat} {v : Value} (hE : E.2.1 = vwCl) (h1 : narrow (tyX2 k) v = v) (h2 : fits (tyX2 k) v = true) (h3 : (TX2 k).2.2.2 = false ∨ ((TX2 k).2.2.2 = true ∧ X.2.1.2.2.2.1.name = "<init>" ∧ RX2 = own)) : rl_Fw X E own 2 k v := by
  intro C T N h
  rw [hE] at h
  cases h
  exact ⟨⟨tyX2, tyX2_ok, h1, h2⟩, nmX2, h3⟩
theorem fwX3 {X : rl_X} {E : rl_E} {own : String} {k : Nat} {v : Value} (hE : E.2.1 = vwCl) (h1 : narrow (tyX3 k) v = v) (h2 : fits (tyX3 k) v = true) (h3 : (TX3 k).2.2.2 = false ∨ ((TX3 k).2.2.2 = true ∧ X.2.1.2.2.2.1.name = "<init>" ∧ RX3 = own)) : rl_Fw X E own 3 k v := by
  intro C T N h
  rw [hE] at h
  cases h
  exact ⟨⟨tyX3, tyX3_ok, h1, h2⟩, nmX3, h3⟩
theorem fwX4 {X : rl_X} {E : rl_E} {own : String} {k : Nat} {v : Value} (hE : E.2.1 = vwCl) (h1 : narrow (tyX4 k) v = v) (h2 : fits (tyX4 k) v = true) (h3 : (TX4 k).2.2.2 = false ∨ ((TX4 k).2.2.2 = true ∧ X.2.1.2.2.2.1.name = "<init>" ∧ RX4 = own)) : rl_Fw X E own 4 k v := by
  intro C T N h
  rw [hE] at h
  cases h
  exact ⟨⟨tyX4, tyX4_ok, h1, h2⟩, nmX4, h3⟩
theorem fwX5 {X : rl_X} {E : rl_E} {own : String} {k : Nat} {v : Value} (hE : E.2.1 = vwCl) (h1 : narrow (tyX5 k) v = v) (h2 : fits (tyX5 k) v = true) (h3 : (TX5 k).2.2.2 = false ∨ ((TX5 k).2.2.2 = true ∧ X.2.1.2.2.2.1.name = "<init>" ∧ RX5 = own)) : rl_Fw X E own 5 k v := by
  intro C T N h
  rw [hE] at h
  cases h
  exact ⟨⟨tyX5, tyX5_ok, h1, h2⟩, nmX5, h3⟩
theorem fwX6 {X : rl_X} {E : rl_E} {own : String} {k : Nat} {v : Value} (hE : E.2.1 = vwCl) (h1 : narrow (tyX6 k) v = v) (h2 : fits (tyX6 k) v = true) (h3 : (TX6 k).2.2.2 = false ∨ ((TX6 k).2.2.2 = true ∧ X.2.1.2.2.2.1.name = "<init>" ∧ RX6 = own)) : rl_Fw X E own 6 k v := by
  intro C T N h
  rw [hE] at h
  cases h
  exact ⟨⟨tyX6, tyX6_ok, h1, h2⟩, nmX6, h3⟩
theorem fwX7 {X : rl_X} {E : rl_E} {own : String} {k : Nat} {v : Value} (hE : E.2.1 = vwCl) (h1 : narrow (tyX7 k) v = v) (h2 : fits (tyX7 k) v = true) (h3 : (TX7 k).2.2.2 = false ∨ ((TX7 k).2.2.2 = true ∧ X.2.1.2.2.2.1.name = "<init>" ∧ RX7 = own)) : rl_Fw X E own 7 k v := by
  intro C T N h
  rw [hE] at h
  cases h
  exact ⟨⟨tyX7, tyX7_ok, h1, h2⟩, nmX7, h3⟩
theorem fwX8 {X : rl_X} {E : rl_E} {own : String} {k : Nat} {v : Value} (hE : E.2.1 = vwCl) (h1 : narrow (tyX8 k) v = v) (h2 : fits (tyX8 k) v = true) (h3 : (TX8 k).2.2.2 = false ∨ ((TX8 k).2.2.2 = true ∧ X.2.1.2.2.2.1.name = "<init>" ∧ RX8 = own)) : rl_Fw X E own 8 k v := by
  intro C T N h
  rw [hE] at h
  cases h
  exact ⟨⟨tyX8, tyX8_ok, h1, h2⟩, nmX8, h3⟩
