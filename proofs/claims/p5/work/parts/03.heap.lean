/-! THE ABSTRACT MACHINE: fields, arrays, new cells -/
/-- a field's link: of the own class, or of a nest mate -/
def rl_F (X : rl_X) (E : rl_E) (own : String) (Ts : List Cond) (idx ci k : Nat) : Prop :=
  ∃ (C : String) (T : u_T) (N : Nat), E.2.1[ci]? = some (C, T, N) ∧ k < N ∧ (T k).1 = C ∧ (∀ w ∈ u_ws C T N, w ∈ Ts) ∧
    ((Cond.fieldLink own idx C (T k).2.1 (T k).2.2.1).before X.2.1.2.1 X.1.2.2.2.2 = true ∨ ∃ host : String, (Cond.fieldLinkNest own idx C (T k).2.1 (T k).2.2.1 host).before X.2.1.2.1 X.1.2.2.2.2 = true)
theorem rl_Fo {X : rl_X} {E : rl_E} {cc : ByteArray} {own : String} {Ts Ns : List Cond} (hC : rl_C X E cc own Ts Ns) {idx ci k : Nat} {C : String} {T : u_T} {N : Nat} (h1 : E.2.1[ci]? = some (C, T, N)) (h2 : k < N) (h3 : (T k).1 = C) (h4 : ∀ w ∈ u_ws C T N, w ∈ Ts) (h5 : Cond.fieldLink own idx C (T k).2.1 (T k).2.2.1 ∈ Ts) : rl_F X E own Ts idx ci k := ⟨C, T, N, h1, h2, h3, h4, Or.inl (hC.2.2.2.1 _ h5)⟩
theorem rl_Fn {X : rl_X} {E : rl_E} {cc : ByteArray} {own : String} {Ts Ns : List Cond} (hC : rl_C X E cc own Ts Ns) {idx ci k : Nat} {C : String} {T : u_T} {N : Nat} (host : String) (h1 : E.2.1[ci]? = some (C, T, N)) (h2 : k < N) (h3 : (T k).1 = C) (h4 : ∀ w ∈ u_ws C T N, w ∈ Ts) (h5 : Cond.fieldLinkNest own idx C (T k).2.1 (T k).2.2.1 host ∈ Ns) : rl_F X E own Ts idx ci k := ⟨C, T, N, h1, h2, h3, h4, Or.inr ⟨host, va_Nw.use rfl (hC.2.2.2.2.1 _ h5)⟩⟩
/-- a field may be written: its type, its name alone in the class, not final or in a constructor of its own class -/
def rl_Fw (X : rl_X) (E : rl_E) (own : String) (ci k : Nat) (v : Value) : Prop :=
  ∀ (C : String) (T : u_T) (N : Nat), E.2.1[ci]? = some (C, T, N) → (∃ ty0 : Nat → FieldType, (∀ j, j < N → parseFieldDescriptor (T j).2.2.1 = some (ty0 j)) ∧ narrow (ty0 k) v = v ∧ fits (ty0 k) v = true) ∧ (∀ a, a < N → ∀ b, b < N → a ≠ b → (T a).2.1 ≠ (T b).2.1) ∧ ((T k).2.2.2 = false ∨ ((T k).2.2.2 = true ∧ X.2.1.2.2.2.1.name = "<init>" ∧ C = own))
section RLH
variable {X : rl_X} {E : rl_E} {cc : ByteArray} {own : String} {Ts Ns : List Cond} {pc : Nat} {lo : List (Option Value)} {st : List Value} {h : rl_H} {n ce sl : Nat}
theorem rl_P1 {a : Nat} {e : va_E} {H : Heap} (hR : rl_R E h n H) (ha : h a = some e) : va_P E.1 E.2.1 [(a, e)] H := fun k q hk => by
  have hz : k < 1 := (List.getElem?_eq_some_iff.mp hk).1
  rw [show k = 0 by omega] at hk
  cases hk
  exact (hR.2.2.2 a e ha).2
theorem o_lcmp (hC : rl_C X E cc own Ts Ns) {x y : Int64} (hd : decode cc pc = .ok (.lcmp, 1)) (kk : rl_G X E (pc + 1) lo (.int (lg_cmp x y) :: st) h n ce sl) : rl_G X E pc lo (.long y :: .long x :: st) h n ce sl := fun H locs ls a b c => W.lcmp hC.1 hC.2.1 hd (kk H locs ls a b c)
theorem o_getf (hC : rl_C X E cc own Ts Ns) {idx ci k a : Nat} {fs : List Value} {v : Value} (hF : rl_F X E own Ts idx ci k) (hd : decode cc pc = .ok (.getfield idx, 3)) (ha : h a = some (.inr (ci, fs))) (hv : fs[k]? = some v) (kk : rl_G X E (pc + 3) lo (v :: st) h n ce sl) : rl_G X E pc lo (.ref a :: st) h n ce sl := by
  intro H locs ls a1 b1 c1
  obtain ⟨C, T, N, h1, h2, h3, h4, h5⟩ := hF
  have hsame : ∀ x, X.1.2.2.2.2.fieldFound? (T k).1 (T k).2.1 (T k).2.2.1 = some x → X.1.2.2.2.2.fieldFound? C (T k).2.1 (T k).2.2.1 = some x := fun x hx => by rw [h3] at hx; exact hx
  rcases h5 with h5 | ⟨host, h5⟩
  · exact va_get hC.1 hC.2.1 hC.2.2.2.1 h4 hC.2.2.1 hC.2.2.2.2.2.1 (rl_P1 a1 ha) 0 rfl h1 k h2 h5 hsame hv hd (kk H locs ls a1 b1 c1)
  · exact va_getN hC.1 hC.2.1 hC.2.2.2.1 h4 hC.2.2.1 hC.2.2.2.2.2.1 (rl_P1 a1 ha) 0 rfl h1 k h2 h5 hsame hv hd (kk H locs ls a1 b1 c1)
theorem o_putf (hC : rl_C X E cc own Ts Ns) {idx ci k a : Nat} {fs : List Value} {v : Value} (hF : rl_F X E own Ts idx ci k) (hw : rl_Fw X E own ci k v) (hd : decode cc pc = .ok (.putfield idx, 3)) (ha : h a = some (.inr (ci, fs))) (hl : k < fs.length) (kk : rl_G X E (pc + 3) lo st (rl_u h a (.inr (ci, fs.set k v))) n ce sl) : rl_G X E pc lo (v :: .ref a :: st) h n ce sl := by
  intro H locs ls a1 b1 c1
  obtain ⟨C, T, N, h1, h2, h3, h4, h5⟩ := hF
  obtain ⟨⟨ty0, hty, hn, hfit⟩, hnm, hfin⟩ := hw C T N h1
  have hts := hC.2.2.2.1
  have hK := hC.2.2.2.2.2.1
  have hap := va_apart (own := own) hts h4 ty0 hty hnm hK h1
  obtain ⟨hb0, r, g1, cell, q1, q2, q3, q4⟩ := a1.2.2.2 a _ ha
  have hr : r = (C, T, N) := Option.some.inj (g1.symm.trans h1)
  subst hr
  obtain ⟨hS, hfc, kC, hkC, hkind⟩ := hK.1 ci _ h1
  obtain ⟨cf, kf, fi, f, hi, hsl⟩ := hS k h2
  have hi' : X.1.2.2.2.2.fieldFound? C (T k).2.1 (T k).2.2.1 = some (cf, kf, fi, f) := by rw [h3] at hi; exact hi
  have hlay := hts _ (h4 _ (u_in_lay h2))
  unfold u_lay at hlay
  have hst := (u_facts hfc hkC (u_lays hts h4 h2) hi).1
  have fin : ∀ H' : Heap, H'[a]? = some (cell.setSlot f.slot v) → H'.size = H.size → (∀ q, q ≠ a → H'[q]? = H[q]?) → rl_W X H' (locs ++ [⟨a, f.slot⟩]) ce sl (F0 X.2.1.1 (pc + 3) ls st) := by
    intro H' e1 e2 e3
    rw [hsl] at e1 ⊢
    refine kk H' _ ls (a1.put ha e2 e3 ⟨_, h1, t_OB.to (V := updV (vp_V fs) k v) ⟨_, e1, q2, q3, t_set q4 hap h2 v⟩ (fun j _ => vp_updV_set hl v j)⟩) (fun q hq => ?_) c1
    rcases List.mem_append.mp hq with hq | hq
    · exact b1 q hq
    · rw [List.mem_singleton.mp hq]
      exact hb0
  rcases hfin with hfin | ⟨hfin, hin2, hCo⟩
  · rw [if_neg (by rw [hfin]; decide)] at hlay
    have h6 := u_store hfc hkC hkind hlay hi (hty k h2) hn hfit
    rcases h5 with h5 | ⟨host, h5⟩
    · exact W.putK hC.1 hC.2.1 (f := f) ⟨hC.2.2.1, h5, ⟨_, _, _, hi'⟩, hst⟩ (by rw [q2]; exact h6) q1 q3 (by rw [hsl]; exact k2_hasslot (q4 k h2)) rfl rfl hd fin
    · exact va_WputK hC.1 hC.2.1 (f := f) hC.2.2.1 h5 hi' hst (by rw [q2]; exact h6) q1 q3 (by rw [hsl]; exact k2_hasslot (q4 k h2)) rfl rfl hd fin
  · rw [if_pos hfin] at hlay
    have hcf : X.2.1.1.cls = cf := by
      obtain ⟨_, _, c', _, _, _, -, -, hf', -, -, -, hown2, -⟩ := Cond.laysFinal_spec hlay
      have e1 : c' = cf := by have := hi.symm.trans hf'; simp at this; exact this.1.symm
      rw [h3, hCo] at hown2
      rw [← e1]; exact Option.some.inj (hC.2.2.1.symm.trans hown2)
    have h6 := u_fits hfc hkC hkind (Or.inr hlay) hi (hty k h2) hn hfit
    rcases h5 with h5 | ⟨host, h5⟩
    · exact W.putFinK hC.1 hC.2.1 hC.2.2.1 h5 hi' hst hcf hin2 (by rw [q2]; exact h6) q1 q3 (by rw [hsl]; exact k2_hasslot (q4 k h2)) rfl rfl hd fin
    · have hlt : f.slot < cell.slots.size := by rw [hsl]; exact k2_hasslot (q4 k h2)
      have ha2 : a < H.size := (Array.getElem?_eq_some_iff.mp q1).1
      refine va_Wputf hC.1 hC.2.1 hC.2.2.1 h5 hi' hst (Or.inr ⟨hcf, hin2⟩) q1 (by rw [q3]; exact fun h => by cases h) hlt h6.1 (by rw [q2, q3]; exact h6.2) rfl rfl hd ?_
      refine fin _ ?_ ?_ ?_
      · simp [Array.getElem?_setIfInBounds, ha2]
      · simp
      · intro q hq
        simp [Array.getElem?_setIfInBounds, Ne.symm hq]
/-! arrays -/
theorem o_alen (hC : rl_C X E cc own Ts Ns) {a t0 N : Nat} {cA : ClassId} {ty : FieldType} {x : (Nat → Int32) ⊕ (Nat → Int64) ⊕ (Nat → UInt32) ⊕ (Nat → UInt64) ⊕ (Nat → Option Nat)} (ht : E.2.2.1[t0]? = some (cA, ty)) (hd : decode cc pc = .ok (.arraylength, 1)) (ha : h a = some (.inl (cA, N, x))) (kk : rl_G X E (pc + 1) lo (.int (nI N) :: st) h n ce sl) : rl_G X E pc lo (.ref a :: st) h n ce sl := fun H locs ls a1 b1 c1 => va_alen hC.1 hC.2.1 hC.2.2.2.2.2.1 (rl_P1 a1 ha) 0 t0 rfl ht rfl hd (kk H locs ls a1 b1 c1)
theorem o_iald (hC : rl_C X E cc own Ts Ns) {a t0 N : Nat} {cA : ClassId} {f : Nat → Int32} {i : Int32} (ht : E.2.2.1[t0]? = some (cA, .int)) (hd : decode cc pc = .ok (.iaload, 1)) (ha : h a = some (.inl (cA, N, .inl f))) (hin : vp_in i N) (kk : rl_G X E (pc + 1) lo (.int (f i.toNatClampNeg) :: st) h n ce sl) : rl_G X E pc lo (.int i :: .ref a :: st) h n ce sl := fun H locs ls a1 b1 c1 => va_iald hC.1 hC.2.1 hC.2.2.2.2.2.1 (rl_P1 a1 ha) 0 t0 rfl ht hin hd (kk H locs ls a1 b1 c1)
theorem o_zald (hC : rl_C X E cc own Ts Ns) {a t0 N : Nat} {cA : ClassId} {f : Nat → Int32} {i : Int32} (ht : E.2.2.1[t0]? = some (cA, .boolean)) (hd : decode cc pc = .ok (.baload, 1)) (ha : h a = some (.inl (cA, N, .inl f))) (hin : vp_in i N) (kk : rl_G X E (pc + 1) lo (.int (f i.toNatClampNeg) :: st) h n ce sl) : rl_G X E pc lo (.int i :: .ref a :: st) h n ce sl := fun H locs ls a1 b1 c1 => va_zald hC.1 hC.2.1 hC.2.2.2.2.2.1 (rl_P1 a1 ha) 0 t0 rfl ht hin hd (kk H locs ls a1 b1 c1)
theorem o_lald (hC : rl_C X E cc own Ts Ns) {a t0 N : Nat} {cA : ClassId} {f : Nat → Int64} {i : Int32} (ht : E.2.2.1[t0]? = some (cA, .long)) (hd : decode cc pc = .ok (.laload, 1)) (ha : h a = some (.inl (cA, N, .inr (.inl f)))) (hin : vp_in i N) (kk : rl_G X E (pc + 1) lo (.long (f i.toNatClampNeg) :: st) h n ce sl) : rl_G X E pc lo (.int i :: .ref a :: st) h n ce sl := fun H locs ls a1 b1 c1 => va_lald hC.1 hC.2.1 hC.2.2.2.2.2.1 (rl_P1 a1 ha) 0 t0 rfl ht hin hd (kk H locs ls a1 b1 c1)
theorem o_aald (hC : rl_C X E cc own Ts Ns) {a t0 N : Nat} {cA : ClassId} {C : String} {f : Nat → Option Nat} {i : Int32} (ht : E.2.2.1[t0]? = some (cA, .object C)) (hd : decode cc pc = .ok (.aaload, 1)) (ha : h a = some (.inl (cA, N, .inr (.inr (.inr (.inr f)))))) (hin : vp_in i N) (kk : rl_G X E (pc + 1) lo (va_rf (f i.toNatClampNeg) :: st) h n ce sl) : rl_G X E pc lo (.int i :: .ref a :: st) h n ce sl := fun H locs ls a1 b1 c1 => va_aldq hC.1 hC.2.1 hC.2.2.2.2.2.1 (rl_P1 a1 ha) 0 t0 rfl ht hin hd (kk H locs ls a1 b1 c1)
theorem rl_put1 {a i : Nat} {e0 : va_E} {H : Heap} {locs : List Loc} (a1 : rl_R E h n H) (ha : h a = some e0) (b1 : ∀ q ∈ locs, E.2.2.2.size ≤ q.base) : ∀ q ∈ locs ++ [⟨a, i⟩], E.2.2.2.size ≤ q.base := by
  intro q hq
  rcases List.mem_append.mp hq with hq | hq
  · exact b1 q hq
  · rw [List.mem_singleton.mp hq]
    exact (a1.2.2.2 a e0 ha).1
theorem o_iast (hC : rl_C X E cc own Ts Ns) {a t0 N : Nat} {cA : ClassId} {f : Nat → Int32} {i x : Int32} (ht : E.2.2.1[t0]? = some (cA, .int)) (hd : decode cc pc = .ok (.iastore, 1)) (ha : h a = some (.inl (cA, N, .inl f))) (hin : vp_in i N) (kk : rl_G X E (pc + 1) lo st (rl_u h a (.inl (cA, N, .inl (upd f i.toNatClampNeg x)))) n ce sl) : rl_G X E pc lo (.int x :: .int i :: .ref a :: st) h n ce sl := by
  intro H locs ls a1 b1 c1
  have hat : H[a]? = some (arrV cA N (fun j => .int (f j))) := (a1.2.2.2 a _ ha).2
  refine W.iast hC.1 hC.2.1 hat ((hC.2.2.2.2.2.1.2 t0 _ ht).1 N (fun j => .int (f j))) (fun q => by cases q) (by show ¬ (i < 0 ∨ (arrV _ _ _).slots.size ≤ _); rw [arrV_size]; exact hin) rfl rfl hd fun H' e z o => ?_
  refine kk H' _ ls (a1.put ha z o ?_) (rl_put1 a1 ha b1) c1
  show H'[a]? = some (vp_cell _ _)
  rw [e, vp_cell_i, arrV_store]
  congr 2
  funext q
  by_cases hq : q = i.toNatClampNeg
  · subst hq
    simp [updV, upd]
  · simp [updV, upd, hq]
theorem o_last (hC : rl_C X E cc own Ts Ns) {a t0 N : Nat} {cA : ClassId} {f : Nat → Int64} {i : Int32} {x : Int64} (ht : E.2.2.1[t0]? = some (cA, .long)) (hd : decode cc pc = .ok (.lastore, 1)) (ha : h a = some (.inl (cA, N, .inr (.inl f)))) (hin : vp_in i N) (kk : rl_G X E (pc + 1) lo st (rl_u h a (.inl (cA, N, .inr (.inl (vp_updL f i.toNatClampNeg x))))) n ce sl) : rl_G X E pc lo (.long x :: .int i :: .ref a :: st) h n ce sl := by
  intro H locs ls a1 b1 c1
  have hat : H[a]? = some (arrV cA N (fun j => .long (f j))) := (a1.2.2.2 a _ ha).2
  refine W.last hC.1 hC.2.1 hat ((hC.2.2.2.2.2.1.2 t0 _ ht).1 N (fun j => .long (f j))) (fun q => by cases q) (by show ¬ (i < 0 ∨ (arrV _ _ _).slots.size ≤ _); rw [arrV_size]; exact hin) rfl rfl hd fun H' e z o => ?_
  refine kk H' _ ls (a1.put ha z o ?_) (rl_put1 a1 ha b1) c1
  show H'[a]? = some (vp_cell _ _)
  rw [e, vp_cell_l, arrV_store]
  congr 2
  funext q
  by_cases hq : q = i.toNatClampNeg
  · subst hq
    simp [updV, vp_updL]
  · simp [updV, vp_updL, hq]
/-- a reference into an array of objects of just that class -/
theorem o_aast (hC : rl_C X E cc own Ts Ns) {a v t0 ci N : Nat} {cA : ClassId} {r : vw_C} {vs : List Value} {f : Nat → Option Nat} {i : Int32} (ht : E.2.2.1[t0]? = some (cA, .object r.1)) (hc : E.2.1[ci]? = some r) (hd : decode cc pc = .ok (.aastore, 1)) (ha : h a = some (.inl (cA, N, .inr (.inr (.inr (.inr f)))))) (hv : h v = some (.inr (ci, vs))) (hin : vp_in i N) (kk : rl_G X E (pc + 1) lo st (rl_u h a (.inl (cA, N, .inr (.inr (.inr (.inr (va_up f i.toNatClampNeg (some v)))))))) n ce sl) : rl_G X E pc lo (.ref v :: .int i :: .ref a :: st) h n ce sl := by
  intro H locs ls a1 b1 c1
  have hlt : i.toNatClampNeg < N := Nat.not_le.mp fun q => hin (Or.inr q)
  have h0 : ¬ i < 0 := fun q => hin (Or.inl q)
  have hat : H[a]? = some (arrV cA N (fun j => va_rf (f j))) := (a1.2.2.2 a _ ha).2
  obtain ⟨-, r', hr', cellV, g1, g2, g3, -⟩ := a1.2.2.2 v _ hv
  have hK := hC.2.2.2.2.2.1
  have hcls := (hK.1 ci r hc).2
  obtain ⟨kA, comp, k1, k2, k3, -⟩ := (hK.2 t0 _ ht).2
  have hcomp : comp = E.1.1 ci := Option.some.inj (k3.symm.trans hcls.1)
  subst hcomp
  obtain ⟨kC, hkC, -⟩ := hcls.2
  refine W.aast hC.1 hC.2.1 hat (fun q h => by cases h) (fun h => by cases h) k1 k2 rfl hkC ⟨h0, by show _ < (arrV _ _ _).slots.size; rw [arrV_size]; exact hlt⟩ g1 (fun q h => by rw [g3] at h; cases h) (by rw [g2]; exact hkC) (by rw [g2]; exact va_assign hcls) rfl rfl hd fun H' e z o => ?_
  refine kk H' _ ls (a1.put ha z o ?_) (rl_put1 a1 ha b1) c1
  show H'[a]? = some (vp_cell _ _)
  rw [e, vp_cell_q, arrV_store]
  congr 2
  funext q
  by_cases hq : q = i.toNatClampNeg
  · subst hq
    simp [updV, va_up, va_rf]
  · simp [updV, va_up, hq]
/-! new cells -/
theorem o_new (hC : rl_C X E cc own Ts Ns) {idx ci N : Nat} {C : String} {T : u_T} {fs : List Value} (hc : E.2.1[ci]? = some (C, T, N)) (hin : ∀ w ∈ u_ws C T N, w ∈ Ts) (ty : Nat → FieldType) (hty : ∀ k, k < N → parseFieldDescriptor (T k).2.2.1 = some (ty k)) (h1 : Cond.classLink own idx C ∈ Ts) (h2 : Cond.instantiable C N ∈ Ts) (h3 : Cond.initialized C ∈ Ts) (hfs : ∀ j, j < N → defaultValue (ty j) = vp_V fs j) (hce : ce + 1 ≤ X.1.2.2.2.1.cells) (hsl : sl + N ≤ X.1.2.2.2.1.slots) (hd : decode cc pc = .ok (.new idx, 3))
    (kk : rl_G X E (pc + 3) lo (.ref n :: st) (rl_u h n (.inr (ci, fs))) (n + 1) (ce + 1) (sl + N)) : rl_G X E pc lo st h n ce sl := by
  intro H locs ls a1 b1 c1
  have hts := hC.2.2.2.1
  have hKn := hC.2.2.2.2.2.1.1 ci _ hc
  refine W.newcK hC.1 hC.2.1 hC.2.2.1 (hts _ h1) (hts _ h2) (hts _ h3) rfl hd hce hsl hKn.2.1 a1.1 fun H1 kC hkC e1 z1 o1 => ?_
  exact kk H1 locs ls (a1.push z1 o1 ⟨_, hc, (u_born ty hts hin hKn hkC e1 hty).to hfs⟩) b1 c1
theorem o_newa (hC : rl_C X E cc own Ts Ns) {atype : ArrayType} {t0 N' : Nat} {cA : ClassId} {ty : FieldType} {x : (Nat → Int32) ⊕ (Nat → Int64) ⊕ (Nat → UInt32) ⊕ (Nat → UInt64) ⊕ (Nat → Option Nat)} {i : Int32} (hty : newarray.typeOf atype = ty) (hnr : ∀ C, ty ≠ .object C) (h1 : Cond.arrayClass ty ∈ Ts) (ht : E.2.2.1[t0]? = some (cA, ty)) (hx : vp_cell cA (N', x) = arrV cA N' (fun _ => defaultValue ty)) (hn : ¬ i < 0) (hN : i.toNatClampNeg = N') (hby : N' * componentBytes ty ≤ 536870912) (hce : ce + 1 ≤ X.1.2.2.2.1.cells) (hsl : sl + N' ≤ X.1.2.2.2.1.slots) (hd : decode cc pc = .ok (.newarray atype, 2))
    (kk : rl_G X E (pc + 2) lo (.ref n :: st) (rl_u h n (.inl (cA, N', x))) (n + 1) (ce + 1) (sl + N')) : rl_G X E pc lo (.int i :: st) h n ce sl := by
  subst hty
  intro H locs ls a1 b1 c1
  have hK := hC.2.2.2.2.2.1
  refine va_newaK hC.1 hC.2.1 (hC.2.2.2.1 _ h1) rfl hd rfl hn hN hby hce hsl a1.1 fun H1 cA2 e1 z1 o1 hAr hNm => ?_
  have hA2 : cA2 = cA := by
    have h4 := (hK.2 t0 _ ht).2
    have h5 : X.1.2.2.2.2.vm.findClass ("[" ++ (newarray.typeOf atype).toString) = some cA := by
      cases atype <;> exact h4
    exact Option.some.inj (hNm.symm.trans h5)
  subst hA2
  refine kk H1 locs ls (a1.push z1 o1 ?_) b1 c1
  show H1[n]? = some (vp_cell _ _)
  rw [hx]
  exact e1
theorem o_anew (hC : rl_C X E cc own Ts Ns) {idx t0 N' : Nat} {cA : ClassId} {C : String} {i : Int32} (h1 : Cond.classLink own idx C ∈ Ts) (h2 : (Cond.arrayOver (.object C)).before X.2.1.2.1 X.1.2.2.2.2 = true) (ht : E.2.2.1[t0]? = some (cA, .object C)) (hn : ¬ i < 0) (hN : i.toNatClampNeg = N') (hby : N' * 4 ≤ 536870912) (hce : ce + 1 ≤ X.1.2.2.2.1.cells) (hsl : sl + N' ≤ X.1.2.2.2.1.slots) (hd : decode cc pc = .ok (.anewarray idx, 3))
    (kk : rl_G X E (pc + 3) lo (.ref n :: st) (rl_u h n (.inl (cA, N', .inr (.inr (.inr (.inr (fun _ => none))))))) (n + 1) (ce + 1) (sl + N')) : rl_G X E pc lo (.int i :: st) h n ce sl := by
  subst hN
  intro H locs ls a1 b1 c1
  have hK := hC.2.2.2.2.2.1
  obtain ⟨zn, -⟩ := id a1
  subst zn
  refine W.anew hC.1 hC.2.1 hC.2.2.1 (hC.2.2.2.1 _ h1) h2 rfl hd rfl hn hby hce hsl fun cA2 kA comp f1 f2 f3 f4 => ?_
  have hA2 : cA2 = cA := by
    obtain ⟨kA', comp', k1, k2, k3, k4⟩ := (hK.2 t0 _ ht).2
    exact Option.some.inj (f1.symm.trans k4)
  subst hA2
  generalize hH1 : H.push ({ cls := cA2, slots := Array.replicate i.toNatClampNeg .null, vm := .none } : Cell) = H1
  have z1 : H1.size = H.size + 1 := by rw [← hH1, Array.size_push]
  have e1 : H1[H.size]? = some (arrV cA2 i.toNatClampNeg (fun _ => .null)) := by rw [← hH1, Array.getElem?_push_size, ← arrV_new]
  have o1 : ∀ q : Nat, q < H.size → H1[q]? = H[q]? := fun q hq => by rw [← hH1, Array.getElem?_push, if_neg (Nat.ne_of_lt hq)]
  refine kk H1 locs ls (a1.push z1 o1 ?_) b1 c1
  show H1[H.size]? = some (vp_cell _ _)
  rw [vp_cell_q]
  exact e1
end RLH
