section
/-! THE MODEL by shapes: its object, its arrays (m + 12 to m + 22 by shape and bounds, m + 1 to m + 11 as they are) -/
theorem nI_mul (a b : Nat) : nI a * nI b = nI (a * b) := (Int32.ofNat_mul a b).symm
section RLZ
variable {X : rl_X} {E : rl_E} {cc : ByteArray} {own : String} {Ts Ns : List Cond} {pc : Nat} {lo : List (Option Value)} {st : List Value} {h : rl_H} {n ce sl : Nat}
theorem o_zast (hC : rl_C X E cc own Ts Ns) {a t0 N : Nat} {cA : ClassId} {f : Nat → Int32} {i x : Int32} (ht : E.2.2.1[t0]? = some (cA, .boolean)) (hd : decode cc pc = .ok (.bastore, 1)) (ha : h a = some (.inl (cA, N, .inl f))) (hin : vp_in i N) (kk : rl_G X E (pc + 1) lo st (rl_u h a (.inl (cA, N, .inl (upd f i.toNatClampNeg (vp_nar .boolean x))))) n ce sl) : rl_G X E pc lo (.int x :: .int i :: .ref a :: st) h n ce sl := by
  intro H locs ls a1 b1 c1
  have hat : H[a]? = some (arrV cA N (fun j => .int (f j))) := (a1.2.2.2 a _ ha).2
  refine W.zast hC.1 hC.2.1 hat ((hC.2.2.2.2.2.1.2 t0 _ ht).1 N (fun j => .int (f j))) (fun q => by cases q) (by show ¬ (i < 0 ∨ (arrV _ _ _).slots.size ≤ _); rw [arrV_size]; exact hin) rfl rfl hd fun H' e z o => ?_
  refine kk H' _ ls (a1.put ha z o ?_) (rl_put1 a1 ha b1) c1
  show H'[a]? = some (vp_cell _ _)
  rw [e, vp_cell_i, arrV_store]
  congr 2
  funext q
  by_cases hq : q = i.toNatClampNeg
  · subst hq
    simp [updV, upd, vp_nar]
    try rfl
  · simp [updV, upd, hq]
theorem o_zastN (hC : rl_C X E cc own Ts Ns) {a t0 N k : Nat} {cA : ClassId} {f : Nat → Int32} {x : Int32} (ht : E.2.2.1[t0]? = some (cA, .boolean)) (hd : decode cc pc = .ok (.bastore, 1)) (ha : h a = some (.inl (cA, N, .inl f))) (hk : k < N) (hN : N < 2147483648) (kk : rl_G X E (pc + 1) lo st (rl_u h a (.inl (cA, N, .inl (upd f k (vp_nar .boolean x))))) n ce sl) : rl_G X E pc lo (.int x :: .int (nI k) :: .ref a :: st) h n ce sl := o_zast hC ht hd ha (rl_ix hk hN) (by rw [rl_cl hk hN]; exact kk)
end RLZ
/-- code, sources, rows, present, nodes, resultColumns, inMany -/
abbrev md_T : Type := Int32 × Int32 × Int32 × Int64 × Int32 × Int32 × Int32
abbrev md_ob (m : Nat) (T : md_T) (fu : Int32) (k : Nat) : va_E := .inr (8, [.int T.1, .int T.2.1, .ref (m + 1), .int T.2.2.1, .ref (m + 2), .ref (m + 3), .long T.2.2.2.1, .int T.2.2.2.2.1, .ref (m + 4), .ref (m + 5), .ref (m + 6), .ref (m + 7), .ref (m + 8), .ref (m + 9), .ref (m + 10), .ref (m + 11), .ref (m + 12), .ref (m + 13), .ref (m + 14), .int T.2.2.2.2.2.1, .ref (m + 15), .ref (m + 16), .ref (m + 17), .int fu, .ref (m + 18), .ref (m + 19), .int (nI k), .ref (m + 20), .ref (m + 21), .ref (m + 22), .int T.2.2.2.2.2.2])
def md_dp (ids : Nat → ClassId) (h : rl_H) (m : Nat) : Prop := (∃ f : Nat → Int32, h (m + 12) = some (.inl (ids 0, 8160, .inl f))) ∧ (∃ f : Nat → Int32, h (m + 13) = some (.inl (ids 0, 17, .inl f)) ∧ ∀ k : Nat, k < 17 → ∃ t : Nat, t ≤ 80 ∧ f k = nI t) ∧ (∃ f : Nat → Int32, h (m + 14) = some (.inl (ids 2, 16, .inl f))) ∧ (∃ f : Nat → Int32, h (m + 15) = some (.inl (ids 0, 1368, .inl f)) ∧ ∀ k : Nat, k < 1368 → ∃ t : Nat, t ≤ 12 ∧ f k = nI t) ∧ (∃ f : Nat → Int64, h (m + 16) = some (.inl (ids 1, 16416, .inr (.inl f)))) ∧ (∃ f : Nat → Int64, h (m + 17) = some (.inl (ids 1, 16416, .inr (.inl f)))) ∧ (∃ f : Nat → Int64, h (m + 18) = some (.inl (ids 1, 160, .inr (.inl f)))) ∧ (∃ f : Nat → Int64, h (m + 19) = some (.inl (ids 1, 160, .inr (.inl f)))) ∧ (∃ f : Nat → Int32, h (m + 20) = some (.inl (ids 0, 6, .inl f))) ∧ (∃ f : Nat → Int32, h (m + 21) = some (.inl (ids 0, 4, .inl f)) ∧ ∀ k : Nat, k < 4 → ∃ t : Nat, t < 80 ∧ f k = nI t) ∧ (∃ f : Nat → Int32, h (m + 22) = some (.inl (ids 0, 36, .inl f)))
/-- sourceColumns, rowSource, rowCells, nOp, nFirst, nSecond, nA, nB, nC, nV, nColumns -/
abbrev md_A : Type := (Nat → Int32) × (Nat → Int32) × (Nat → Int32) × (Nat → Int32) × (Nat → Int32) × (Nat → Int32) × (Nat → Int32) × (Nat → Int32) × (Nat → Int32) × (Nat → Int32) × (Nat → Int32)
def md_sa (ids : Nat → ClassId) (h : rl_H) (m : Nat) (S : md_A) : Prop := h (m + 1) = some (.inl (ids 0, 4, .inl S.1)) ∧ h (m + 2) = some (.inl (ids 0, 36, .inl S.2.1)) ∧ h (m + 3) = some (.inl (ids 0, 144, .inl S.2.2.1)) ∧ h (m + 4) = some (.inl (ids 0, 16, .inl S.2.2.2.1)) ∧ h (m + 5) = some (.inl (ids 0, 16, .inl S.2.2.2.2.1)) ∧ h (m + 6) = some (.inl (ids 0, 16, .inl S.2.2.2.2.2.1)) ∧ h (m + 7) = some (.inl (ids 0, 16, .inl S.2.2.2.2.2.2.1)) ∧ h (m + 8) = some (.inl (ids 0, 16, .inl S.2.2.2.2.2.2.2.1)) ∧ h (m + 9) = some (.inl (ids 0, 16, .inl S.2.2.2.2.2.2.2.2.1)) ∧ h (m + 10) = some (.inl (ids 0, 16, .inl S.2.2.2.2.2.2.2.2.2.1)) ∧ h (m + 11) = some (.inl (ids 0, 16, .inl S.2.2.2.2.2.2.2.2.2.2))
theorem md_sa.eqv {ids : Nat → ClassId} {h h' : rl_H} {m : Nat} {S : md_A} (H : md_sa ids h m S) (he : ∀ q : Nat, m + 1 ≤ q → q < m + 12 → h' q = h q) : md_sa ids h' m S := by
  obtain ⟨a1, a2, a3, a4, a5, a6, a7, a8, a9, a10, a11⟩ := H
  exact ⟨(he _ (by omega) (by omega)).trans a1, (he _ (by omega) (by omega)).trans a2, (he _ (by omega) (by omega)).trans a3, (he _ (by omega) (by omega)).trans a4, (he _ (by omega) (by omega)).trans a5, (he _ (by omega) (by omega)).trans a6, (he _ (by omega) (by omega)).trans a7, (he _ (by omega) (by omega)).trans a8, (he _ (by omega) (by omega)).trans a9, (he _ (by omega) (by omega)).trans a10, (he _ (by omega) (by omega)).trans a11⟩
/-- the model's state, and that nothing else has changed since h0 -/
def mq (ids : Nat → ClassId) (h0 h : rl_H) (m : Nat) (T : md_T) (fu : Int32) (k : Nat) : Prop := h m = some (md_ob m T fu k) ∧ k ≤ 160 ∧ md_dp ids h m ∧ ∀ q : Nat, q ≠ m → (q < m + 12 ∨ m + 23 ≤ q) → h q = h0 q
theorem mq.rf {ids : Nat → ClassId} {h0 h : rl_H} {m : Nat} {T : md_T} {fu : Int32} {k : Nat} (H : mq ids h0 h m T fu k) : mq ids h h m T fu k := ⟨H.1, H.2.1, H.2.2.1, fun _ _ _ => rfl⟩
theorem mq.tr {ids : Nat → ClassId} {h0 h1 h : rl_H} {m : Nat} {T T' : md_T} {fu fu' : Int32} {k k' : Nat} (H : mq ids h0 h1 m T fu k) (H2 : mq ids h1 h m T' fu' k') : mq ids h0 h m T' fu' k' := ⟨H2.1, H2.2.1, H2.2.2.1, fun q a b => (H2.2.2.2 q a b).trans (H.2.2.2 q a b)⟩
theorem mq.sa {ids : Nat → ClassId} {h0 h : rl_H} {m : Nat} {T : md_T} {fu : Int32} {k : Nat} {S : md_A} (H : mq ids h0 h m T fu k) (hs : md_sa ids h0 m S) : md_sa ids h m S := hs.eqv (fun q a b => H.2.2.2 q (by omega) (by omega))
theorem mq.ob {ids : Nat → ClassId} {h0 h : rl_H} {m : Nat} {T : md_T} {fu : Int32} {k : Nat} (H : mq ids h0 h m T fu k) (T' : md_T) (fu' : Int32) (k' : Nat) (hk : k' ≤ 160) : mq ids h0 (rl_u h m (md_ob m T' fu' k')) m T' fu' k' := by
  obtain ⟨g0, gk, ⟨d12, d13, d14, d15, d16, d17, d18, d19, d20, d21, d22⟩, fr⟩ := H
  exact ⟨rl_u_s, hk, ⟨d12.elim fun f e => ⟨f, (rl_u_n (by omega)).trans e⟩, d13.elim fun f e => ⟨f, (rl_u_n (by omega)).trans e.1, e.2⟩, d14.elim fun f e => ⟨f, (rl_u_n (by omega)).trans e⟩, d15.elim fun f e => ⟨f, (rl_u_n (by omega)).trans e.1, e.2⟩, d16.elim fun f e => ⟨f, (rl_u_n (by omega)).trans e⟩, d17.elim fun f e => ⟨f, (rl_u_n (by omega)).trans e⟩, d18.elim fun f e => ⟨f, (rl_u_n (by omega)).trans e⟩, d19.elim fun f e => ⟨f, (rl_u_n (by omega)).trans e⟩, d20.elim fun f e => ⟨f, (rl_u_n (by omega)).trans e⟩, d21.elim fun f e => ⟨f, (rl_u_n (by omega)).trans e.1, e.2⟩, d22.elim fun f e => ⟨f, (rl_u_n (by omega)).trans e⟩⟩, fun q a b => (rl_u_n a).trans (fr q a b)⟩

theorem mq.s12 {ids : Nat → ClassId} {h0 h : rl_H} {m : Nat} {T : md_T} {fu : Int32} {k : Nat} (H : mq ids h0 h m T fu k) (f : Nat → Int32) : mq ids h0 (rl_u h (m + 12) (.inl (ids 0, 8160, .inl f))) m T fu k := by
  obtain ⟨g0, gk, ⟨d12, d13, d14, d15, d16, d17, d18, d19, d20, d21, d22⟩, fr⟩ := H
  exact ⟨(rl_u_n (by omega)).trans g0, gk, ⟨⟨f, rl_u_s⟩, d13.elim fun f e => ⟨f, (rl_u_n (by omega)).trans e.1, e.2⟩, d14.elim fun f e => ⟨f, (rl_u_n (by omega)).trans e⟩, d15.elim fun f e => ⟨f, (rl_u_n (by omega)).trans e.1, e.2⟩, d16.elim fun f e => ⟨f, (rl_u_n (by omega)).trans e⟩, d17.elim fun f e => ⟨f, (rl_u_n (by omega)).trans e⟩, d18.elim fun f e => ⟨f, (rl_u_n (by omega)).trans e⟩, d19.elim fun f e => ⟨f, (rl_u_n (by omega)).trans e⟩, d20.elim fun f e => ⟨f, (rl_u_n (by omega)).trans e⟩, d21.elim fun f e => ⟨f, (rl_u_n (by omega)).trans e.1, e.2⟩, d22.elim fun f e => ⟨f, (rl_u_n (by omega)).trans e⟩⟩, fun q a b => (rl_u_n (by omega)).trans (fr q a b)⟩
theorem mq.s13 {ids : Nat → ClassId} {h0 h : rl_H} {m : Nat} {T : md_T} {fu : Int32} {k : Nat} (H : mq ids h0 h m T fu k) (f : Nat → Int32) (hb : ∀ k : Nat, k < 17 → ∃ t : Nat, t ≤ 80 ∧ f k = nI t) : mq ids h0 (rl_u h (m + 13) (.inl (ids 0, 17, .inl f))) m T fu k := by
  obtain ⟨g0, gk, ⟨d12, d13, d14, d15, d16, d17, d18, d19, d20, d21, d22⟩, fr⟩ := H
  exact ⟨(rl_u_n (by omega)).trans g0, gk, ⟨d12.elim fun f e => ⟨f, (rl_u_n (by omega)).trans e⟩, ⟨f, rl_u_s, hb⟩, d14.elim fun f e => ⟨f, (rl_u_n (by omega)).trans e⟩, d15.elim fun f e => ⟨f, (rl_u_n (by omega)).trans e.1, e.2⟩, d16.elim fun f e => ⟨f, (rl_u_n (by omega)).trans e⟩, d17.elim fun f e => ⟨f, (rl_u_n (by omega)).trans e⟩, d18.elim fun f e => ⟨f, (rl_u_n (by omega)).trans e⟩, d19.elim fun f e => ⟨f, (rl_u_n (by omega)).trans e⟩, d20.elim fun f e => ⟨f, (rl_u_n (by omega)).trans e⟩, d21.elim fun f e => ⟨f, (rl_u_n (by omega)).trans e.1, e.2⟩, d22.elim fun f e => ⟨f, (rl_u_n (by omega)).trans e⟩⟩, fun q a b => (rl_u_n (by omega)).trans (fr q a b)⟩
theorem mq.s14 {ids : Nat → ClassId} {h0 h : rl_H} {m : Nat} {T : md_T} {fu : Int32} {k : Nat} (H : mq ids h0 h m T fu k) (f : Nat → Int32) : mq ids h0 (rl_u h (m + 14) (.inl (ids 2, 16, .inl f))) m T fu k := by
  obtain ⟨g0, gk, ⟨d12, d13, d14, d15, d16, d17, d18, d19, d20, d21, d22⟩, fr⟩ := H
  exact ⟨(rl_u_n (by omega)).trans g0, gk, ⟨d12.elim fun f e => ⟨f, (rl_u_n (by omega)).trans e⟩, d13.elim fun f e => ⟨f, (rl_u_n (by omega)).trans e.1, e.2⟩, ⟨f, rl_u_s⟩, d15.elim fun f e => ⟨f, (rl_u_n (by omega)).trans e.1, e.2⟩, d16.elim fun f e => ⟨f, (rl_u_n (by omega)).trans e⟩, d17.elim fun f e => ⟨f, (rl_u_n (by omega)).trans e⟩, d18.elim fun f e => ⟨f, (rl_u_n (by omega)).trans e⟩, d19.elim fun f e => ⟨f, (rl_u_n (by omega)).trans e⟩, d20.elim fun f e => ⟨f, (rl_u_n (by omega)).trans e⟩, d21.elim fun f e => ⟨f, (rl_u_n (by omega)).trans e.1, e.2⟩, d22.elim fun f e => ⟨f, (rl_u_n (by omega)).trans e⟩⟩, fun q a b => (rl_u_n (by omega)).trans (fr q a b)⟩
theorem mq.s15 {ids : Nat → ClassId} {h0 h : rl_H} {m : Nat} {T : md_T} {fu : Int32} {k : Nat} (H : mq ids h0 h m T fu k) (f : Nat → Int32) (hb : ∀ k : Nat, k < 1368 → ∃ t : Nat, t ≤ 12 ∧ f k = nI t) : mq ids h0 (rl_u h (m + 15) (.inl (ids 0, 1368, .inl f))) m T fu k := by
  obtain ⟨g0, gk, ⟨d12, d13, d14, d15, d16, d17, d18, d19, d20, d21, d22⟩, fr⟩ := H
  exact ⟨(rl_u_n (by omega)).trans g0, gk, ⟨d12.elim fun f e => ⟨f, (rl_u_n (by omega)).trans e⟩, d13.elim fun f e => ⟨f, (rl_u_n (by omega)).trans e.1, e.2⟩, d14.elim fun f e => ⟨f, (rl_u_n (by omega)).trans e⟩, ⟨f, rl_u_s, hb⟩, d16.elim fun f e => ⟨f, (rl_u_n (by omega)).trans e⟩, d17.elim fun f e => ⟨f, (rl_u_n (by omega)).trans e⟩, d18.elim fun f e => ⟨f, (rl_u_n (by omega)).trans e⟩, d19.elim fun f e => ⟨f, (rl_u_n (by omega)).trans e⟩, d20.elim fun f e => ⟨f, (rl_u_n (by omega)).trans e⟩, d21.elim fun f e => ⟨f, (rl_u_n (by omega)).trans e.1, e.2⟩, d22.elim fun f e => ⟨f, (rl_u_n (by omega)).trans e⟩⟩, fun q a b => (rl_u_n (by omega)).trans (fr q a b)⟩
theorem mq.s16 {ids : Nat → ClassId} {h0 h : rl_H} {m : Nat} {T : md_T} {fu : Int32} {k : Nat} (H : mq ids h0 h m T fu k) (f : Nat → Int64) : mq ids h0 (rl_u h (m + 16) (.inl (ids 1, 16416, .inr (.inl f)))) m T fu k := by
  obtain ⟨g0, gk, ⟨d12, d13, d14, d15, d16, d17, d18, d19, d20, d21, d22⟩, fr⟩ := H
  exact ⟨(rl_u_n (by omega)).trans g0, gk, ⟨d12.elim fun f e => ⟨f, (rl_u_n (by omega)).trans e⟩, d13.elim fun f e => ⟨f, (rl_u_n (by omega)).trans e.1, e.2⟩, d14.elim fun f e => ⟨f, (rl_u_n (by omega)).trans e⟩, d15.elim fun f e => ⟨f, (rl_u_n (by omega)).trans e.1, e.2⟩, ⟨f, rl_u_s⟩, d17.elim fun f e => ⟨f, (rl_u_n (by omega)).trans e⟩, d18.elim fun f e => ⟨f, (rl_u_n (by omega)).trans e⟩, d19.elim fun f e => ⟨f, (rl_u_n (by omega)).trans e⟩, d20.elim fun f e => ⟨f, (rl_u_n (by omega)).trans e⟩, d21.elim fun f e => ⟨f, (rl_u_n (by omega)).trans e.1, e.2⟩, d22.elim fun f e => ⟨f, (rl_u_n (by omega)).trans e⟩⟩, fun q a b => (rl_u_n (by omega)).trans (fr q a b)⟩
theorem mq.s17 {ids : Nat → ClassId} {h0 h : rl_H} {m : Nat} {T : md_T} {fu : Int32} {k : Nat} (H : mq ids h0 h m T fu k) (f : Nat → Int64) : mq ids h0 (rl_u h (m + 17) (.inl (ids 1, 16416, .inr (.inl f)))) m T fu k := by
  obtain ⟨g0, gk, ⟨d12, d13, d14, d15, d16, d17, d18, d19, d20, d21, d22⟩, fr⟩ := H
  exact ⟨(rl_u_n (by omega)).trans g0, gk, ⟨d12.elim fun f e => ⟨f, (rl_u_n (by omega)).trans e⟩, d13.elim fun f e => ⟨f, (rl_u_n (by omega)).trans e.1, e.2⟩, d14.elim fun f e => ⟨f, (rl_u_n (by omega)).trans e⟩, d15.elim fun f e => ⟨f, (rl_u_n (by omega)).trans e.1, e.2⟩, d16.elim fun f e => ⟨f, (rl_u_n (by omega)).trans e⟩, ⟨f, rl_u_s⟩, d18.elim fun f e => ⟨f, (rl_u_n (by omega)).trans e⟩, d19.elim fun f e => ⟨f, (rl_u_n (by omega)).trans e⟩, d20.elim fun f e => ⟨f, (rl_u_n (by omega)).trans e⟩, d21.elim fun f e => ⟨f, (rl_u_n (by omega)).trans e.1, e.2⟩, d22.elim fun f e => ⟨f, (rl_u_n (by omega)).trans e⟩⟩, fun q a b => (rl_u_n (by omega)).trans (fr q a b)⟩
theorem mq.s18 {ids : Nat → ClassId} {h0 h : rl_H} {m : Nat} {T : md_T} {fu : Int32} {k : Nat} (H : mq ids h0 h m T fu k) (f : Nat → Int64) : mq ids h0 (rl_u h (m + 18) (.inl (ids 1, 160, .inr (.inl f)))) m T fu k := by
  obtain ⟨g0, gk, ⟨d12, d13, d14, d15, d16, d17, d18, d19, d20, d21, d22⟩, fr⟩ := H
  exact ⟨(rl_u_n (by omega)).trans g0, gk, ⟨d12.elim fun f e => ⟨f, (rl_u_n (by omega)).trans e⟩, d13.elim fun f e => ⟨f, (rl_u_n (by omega)).trans e.1, e.2⟩, d14.elim fun f e => ⟨f, (rl_u_n (by omega)).trans e⟩, d15.elim fun f e => ⟨f, (rl_u_n (by omega)).trans e.1, e.2⟩, d16.elim fun f e => ⟨f, (rl_u_n (by omega)).trans e⟩, d17.elim fun f e => ⟨f, (rl_u_n (by omega)).trans e⟩, ⟨f, rl_u_s⟩, d19.elim fun f e => ⟨f, (rl_u_n (by omega)).trans e⟩, d20.elim fun f e => ⟨f, (rl_u_n (by omega)).trans e⟩, d21.elim fun f e => ⟨f, (rl_u_n (by omega)).trans e.1, e.2⟩, d22.elim fun f e => ⟨f, (rl_u_n (by omega)).trans e⟩⟩, fun q a b => (rl_u_n (by omega)).trans (fr q a b)⟩
theorem mq.s19 {ids : Nat → ClassId} {h0 h : rl_H} {m : Nat} {T : md_T} {fu : Int32} {k : Nat} (H : mq ids h0 h m T fu k) (f : Nat → Int64) : mq ids h0 (rl_u h (m + 19) (.inl (ids 1, 160, .inr (.inl f)))) m T fu k := by
  obtain ⟨g0, gk, ⟨d12, d13, d14, d15, d16, d17, d18, d19, d20, d21, d22⟩, fr⟩ := H
  exact ⟨(rl_u_n (by omega)).trans g0, gk, ⟨d12.elim fun f e => ⟨f, (rl_u_n (by omega)).trans e⟩, d13.elim fun f e => ⟨f, (rl_u_n (by omega)).trans e.1, e.2⟩, d14.elim fun f e => ⟨f, (rl_u_n (by omega)).trans e⟩, d15.elim fun f e => ⟨f, (rl_u_n (by omega)).trans e.1, e.2⟩, d16.elim fun f e => ⟨f, (rl_u_n (by omega)).trans e⟩, d17.elim fun f e => ⟨f, (rl_u_n (by omega)).trans e⟩, d18.elim fun f e => ⟨f, (rl_u_n (by omega)).trans e⟩, ⟨f, rl_u_s⟩, d20.elim fun f e => ⟨f, (rl_u_n (by omega)).trans e⟩, d21.elim fun f e => ⟨f, (rl_u_n (by omega)).trans e.1, e.2⟩, d22.elim fun f e => ⟨f, (rl_u_n (by omega)).trans e⟩⟩, fun q a b => (rl_u_n (by omega)).trans (fr q a b)⟩
theorem mq.s20 {ids : Nat → ClassId} {h0 h : rl_H} {m : Nat} {T : md_T} {fu : Int32} {k : Nat} (H : mq ids h0 h m T fu k) (f : Nat → Int32) : mq ids h0 (rl_u h (m + 20) (.inl (ids 0, 6, .inl f))) m T fu k := by
  obtain ⟨g0, gk, ⟨d12, d13, d14, d15, d16, d17, d18, d19, d20, d21, d22⟩, fr⟩ := H
  exact ⟨(rl_u_n (by omega)).trans g0, gk, ⟨d12.elim fun f e => ⟨f, (rl_u_n (by omega)).trans e⟩, d13.elim fun f e => ⟨f, (rl_u_n (by omega)).trans e.1, e.2⟩, d14.elim fun f e => ⟨f, (rl_u_n (by omega)).trans e⟩, d15.elim fun f e => ⟨f, (rl_u_n (by omega)).trans e.1, e.2⟩, d16.elim fun f e => ⟨f, (rl_u_n (by omega)).trans e⟩, d17.elim fun f e => ⟨f, (rl_u_n (by omega)).trans e⟩, d18.elim fun f e => ⟨f, (rl_u_n (by omega)).trans e⟩, d19.elim fun f e => ⟨f, (rl_u_n (by omega)).trans e⟩, ⟨f, rl_u_s⟩, d21.elim fun f e => ⟨f, (rl_u_n (by omega)).trans e.1, e.2⟩, d22.elim fun f e => ⟨f, (rl_u_n (by omega)).trans e⟩⟩, fun q a b => (rl_u_n (by omega)).trans (fr q a b)⟩
theorem mq.s21 {ids : Nat → ClassId} {h0 h : rl_H} {m : Nat} {T : md_T} {fu : Int32} {k : Nat} (H : mq ids h0 h m T fu k) (f : Nat → Int32) (hb : ∀ k : Nat, k < 4 → ∃ t : Nat, t < 80 ∧ f k = nI t) : mq ids h0 (rl_u h (m + 21) (.inl (ids 0, 4, .inl f))) m T fu k := by
  obtain ⟨g0, gk, ⟨d12, d13, d14, d15, d16, d17, d18, d19, d20, d21, d22⟩, fr⟩ := H
  exact ⟨(rl_u_n (by omega)).trans g0, gk, ⟨d12.elim fun f e => ⟨f, (rl_u_n (by omega)).trans e⟩, d13.elim fun f e => ⟨f, (rl_u_n (by omega)).trans e.1, e.2⟩, d14.elim fun f e => ⟨f, (rl_u_n (by omega)).trans e⟩, d15.elim fun f e => ⟨f, (rl_u_n (by omega)).trans e.1, e.2⟩, d16.elim fun f e => ⟨f, (rl_u_n (by omega)).trans e⟩, d17.elim fun f e => ⟨f, (rl_u_n (by omega)).trans e⟩, d18.elim fun f e => ⟨f, (rl_u_n (by omega)).trans e⟩, d19.elim fun f e => ⟨f, (rl_u_n (by omega)).trans e⟩, d20.elim fun f e => ⟨f, (rl_u_n (by omega)).trans e⟩, ⟨f, rl_u_s, hb⟩, d22.elim fun f e => ⟨f, (rl_u_n (by omega)).trans e⟩⟩, fun q a b => (rl_u_n (by omega)).trans (fr q a b)⟩
theorem mq.s22 {ids : Nat → ClassId} {h0 h : rl_H} {m : Nat} {T : md_T} {fu : Int32} {k : Nat} (H : mq ids h0 h m T fu k) (f : Nat → Int32) : mq ids h0 (rl_u h (m + 22) (.inl (ids 0, 36, .inl f))) m T fu k := by
  obtain ⟨g0, gk, ⟨d12, d13, d14, d15, d16, d17, d18, d19, d20, d21, d22⟩, fr⟩ := H
  exact ⟨(rl_u_n (by omega)).trans g0, gk, ⟨d12.elim fun f e => ⟨f, (rl_u_n (by omega)).trans e⟩, d13.elim fun f e => ⟨f, (rl_u_n (by omega)).trans e.1, e.2⟩, d14.elim fun f e => ⟨f, (rl_u_n (by omega)).trans e⟩, d15.elim fun f e => ⟨f, (rl_u_n (by omega)).trans e.1, e.2⟩, d16.elim fun f e => ⟨f, (rl_u_n (by omega)).trans e⟩, d17.elim fun f e => ⟨f, (rl_u_n (by omega)).trans e⟩, d18.elim fun f e => ⟨f, (rl_u_n (by omega)).trans e⟩, d19.elim fun f e => ⟨f, (rl_u_n (by omega)).trans e⟩, d20.elim fun f e => ⟨f, (rl_u_n (by omega)).trans e⟩, d21.elim fun f e => ⟨f, (rl_u_n (by omega)).trans e.1, e.2⟩, ⟨f, rl_u_s⟩⟩, fun q a b => (rl_u_n (by omega)).trans (fr q a b)⟩
theorem md_bd {B N : Nat} {f : Nat → Int32} {i : Nat} {x : Int32} (H : ∀ k : Nat, k < N → ∃ t : Nat, t ≤ B ∧ f k = nI t) (hx : ∃ t : Nat, t ≤ B ∧ x = nI t) : ∀ k : Nat, k < N → ∃ t : Nat, t ≤ B ∧ upd f i x k = nI t := by
  intro k hk
  unfold upd
  by_cases q : k = i
  · rw [if_pos q]
    exact hx
  · rw [if_neg q]
    exact H k hk
theorem md_bl {B N : Nat} {f : Nat → Int32} {i : Nat} {x : Int32} (H : ∀ k : Nat, k < N → ∃ t : Nat, t < B ∧ f k = nI t) (hx : ∃ t : Nat, t < B ∧ x = nI t) : ∀ k : Nat, k < N → ∃ t : Nat, t < B ∧ upd f i x k = nI t := by
  intro k hk
  unfold upd
  by_cases q : k = i
  · rw [if_pos q]
    exact hx
  · rw [if_neg q]
    exact H k hk

set_option maxHeartbeats 4000000 in
set_option maxRecDepth 100000 in
theorem cm_X8_heapTerm (l : Launch) (D : va_G) (ids : Nat → ClassId) (H0 : Heap) (h : rl_H) (n : Nat) (m : Nat) (T : md_T) (fu : Int32) (k : Nat) (a b : Int64) (hq : mq ids h h m T fu k) (hk : k < 160) : rl_Met l (rl_e D ids H0) rl_BW rl_Ns yX8_heapTerm cX8_heapTerm 5 none ({ frames := 0, cells := 0, slots := 0, locals := 0 }) [.ref m, .long a, .long b] h n (fun v h' n' => v = none ∧ n' = n ∧ mq ids h h' m T fu (k + 1)) := by
  obtain ⟨g0, gk, ⟨⟨cl, g12⟩, ⟨tu, g13, b13⟩, ⟨im, g14⟩, ⟨te, g15, b15⟩, ⟨ne, g16⟩, ⟨la, g17⟩, ⟨hn, g18⟩, ⟨hl, g19⟩, ⟨tp, g20⟩, ⟨gr, g21, b21⟩, ⟨it, g22⟩⟩, gf⟩ := id hq
  refine rl_Met.of (by decide +kernel) (Nat.le_of_ble_eq_true rfl) ?_
  intro X hC hB
  show rl_G X (rl_e D ids H0) 0 [some (.ref m), some (.long a), none, some (.long b), none] [] h n 0 0
  refine o_aload_n hC dX8_heapTerm_0 (by rfl) ?_
  refine o_getf hC (fX8_63 hC rfl) dX8_heapTerm_1 (by repeat (first | with_reducible assumption | (rw [rl_u_s]; done) | (rw [rl_u_s]; rfl) | rw [rl_u_n (by first | with_reducible assumption | omega)])) (by first | rfl | with_reducible assumption) ?_
  refine o_aload_n hC dX8_heapTerm_4 (by rfl) ?_
  refine o_getf hC (fX8_82 hC rfl) dX8_heapTerm_5 (by repeat (first | with_reducible assumption | (rw [rl_u_s]; done) | (rw [rl_u_s]; rfl) | rw [rl_u_n (by first | with_reducible assumption | omega)])) (by first | rfl | with_reducible assumption) ?_
  refine o_lload_n hC dX8_heapTerm_8 (by rfl) ?_
  refine o_lastN (t0 := 1) hC rfl dX8_heapTerm_9 (by repeat (first | with_reducible assumption | (rw [rl_u_s]; done) | (rw [rl_u_s]; rfl) | rw [rl_u_n (by first | with_reducible assumption | omega)])) (by omega) (by decide) ?_
  refine o_aload_n hC dX8_heapTerm_10 (by rfl) ?_
  refine o_getf hC (fX8_66 hC rfl) dX8_heapTerm_11 (by repeat (first | with_reducible assumption | (rw [rl_u_s]; done) | (rw [rl_u_s]; rfl) | rw [rl_u_n (by first | with_reducible assumption | omega)])) (by first | rfl | with_reducible assumption) ?_
  refine o_aload_n hC dX8_heapTerm_14 (by rfl) ?_
  refine o_getf hC (fX8_82 hC rfl) dX8_heapTerm_15 (by repeat (first | with_reducible assumption | (rw [rl_u_s]; done) | (rw [rl_u_s]; rfl) | rw [rl_u_n (by first | with_reducible assumption | omega)])) (by first | rfl | with_reducible assumption) ?_
  refine o_lload_n hC dX8_heapTerm_18 (by rfl) ?_
  refine o_lastN (t0 := 1) hC rfl dX8_heapTerm_19 (by repeat (first | with_reducible assumption | (rw [rl_u_s]; done) | (rw [rl_u_s]; rfl) | rw [rl_u_n (by first | with_reducible assumption | omega)])) (by omega) (by decide) ?_
  refine o_aload_n hC dX8_heapTerm_20 (by rfl) ?_
  refine o_dup hC dX8_heapTerm_21 rfl ?_
  refine o_getf hC (fX8_82 hC rfl) dX8_heapTerm_22 (by repeat (first | with_reducible assumption | (rw [rl_u_s]; done) | (rw [rl_u_s]; rfl) | rw [rl_u_n (by first | with_reducible assumption | omega)])) (by first | rfl | with_reducible assumption) ?_
  refine o_iconst (v := nI 1) hC dX8_heapTerm_25 (by decide +kernel) ?_
  refine o_iadd hC dX8_heapTerm_26 ?_
  try rw [nI_add]
  refine o_putf hC (fX8_82 hC rfl) (fwX8 rfl rfl rfl (Or.inl rfl)) dX8_heapTerm_27 (by repeat (first | with_reducible assumption | (rw [rl_u_s]; done) | (rw [rl_u_s]; rfl) | rw [rl_u_n (by first | with_reducible assumption | omega)])) (Nat.le_of_ble_eq_true rfl) ?_
  try simp only [List.set_cons_zero, List.set_cons_succ]
  refine o_vret hC hB dX8_heapTerm_30 (Nat.le_of_ble_eq_true rfl) (Nat.le_of_ble_eq_true rfl) ?_
  exact ⟨rfl, rfl, ((hq.s18 _).s19 _).ob T fu (k + 1) (by omega)⟩

set_option maxHeartbeats 4000000 in
set_option maxRecDepth 100000 in
theorem cm_X8_truth (l : Launch) (D : va_G) (ids : Nat → ClassId) (H0 : Heap) (h : rl_H) (n : Nat) (m : Nat) (T : md_T) (fu : Int32) (k : Nat) (a : Nat) (hq : mq ids h h m T fu k) (ha : a < 1368) : rl_Met l (rl_e D ids H0) rl_BW rl_Ns yX8_truth cX8_truth 2 none ({ frames := 0, cells := 0, slots := 0, locals := 0 }) [.ref m, .int (nI a)] h n (fun v h' n' => v = none ∧ n' = n ∧ mq ids h h' m T fu k) := by
  obtain ⟨g0, gk, ⟨⟨cl, g12⟩, ⟨tu, g13, b13⟩, ⟨im, g14⟩, ⟨te, g15, b15⟩, ⟨ne, g16⟩, ⟨la, g17⟩, ⟨hn, g18⟩, ⟨hl, g19⟩, ⟨tp, g20⟩, ⟨gr, g21, b21⟩, ⟨it, g22⟩⟩, gf⟩ := id hq
  refine rl_Met.of (by decide +kernel) (Nat.le_of_ble_eq_true rfl) ?_
  intro X hC hB
  show rl_G X (rl_e D ids H0) 0 [some (.ref m), some (.int (nI a))] [] h n 0 0
  refine o_aload_n hC dX8_truth_0 (by rfl) ?_
  refine o_getf hC (fX8_53 hC rfl) dX8_truth_1 (by repeat (first | with_reducible assumption | (rw [rl_u_s]; done) | (rw [rl_u_s]; rfl) | rw [rl_u_n (by first | with_reducible assumption | omega)])) (by first | rfl | with_reducible assumption) ?_
  refine o_iload_n hC dX8_truth_4 (by rfl) ?_
  refine o_iconst (v := nI 1) hC dX8_truth_5 (by decide +kernel) ?_
  refine o_iastN (t0 := 0) hC rfl dX8_truth_6 (by repeat (first | with_reducible assumption | (rw [rl_u_s]; done) | (rw [rl_u_s]; rfl) | rw [rl_u_n (by first | with_reducible assumption | omega)])) (by omega) (by decide) ?_
  refine o_aload_n hC dX8_truth_7 (by rfl) ?_
  refine o_getf hC (fX8_56 hC rfl) dX8_truth_8 (by repeat (first | with_reducible assumption | (rw [rl_u_s]; done) | (rw [rl_u_s]; rfl) | rw [rl_u_n (by first | with_reducible assumption | omega)])) (by first | rfl | with_reducible assumption) ?_
  refine o_bipush (v := nI 12) hC dX8_truth_11 (by decide +kernel) ?_
  refine o_iload_n hC dX8_truth_13 (by rfl) ?_
  refine o_imul hC dX8_truth_14 ?_
  try rw [nI_mul]
  refine o_lconst (v := 0) hC dX8_truth_15 (by decide +kernel) ?_
  refine o_lastN (t0 := 1) hC rfl dX8_truth_16 (by repeat (first | with_reducible assumption | (rw [rl_u_s]; done) | (rw [rl_u_s]; rfl) | rw [rl_u_n (by first | with_reducible assumption | omega)])) (by omega) (by decide) ?_
  refine o_aload_n hC dX8_truth_17 (by rfl) ?_
  refine o_getf hC (fX8_60 hC rfl) dX8_truth_18 (by repeat (first | with_reducible assumption | (rw [rl_u_s]; done) | (rw [rl_u_s]; rfl) | rw [rl_u_n (by first | with_reducible assumption | omega)])) (by first | rfl | with_reducible assumption) ?_
  refine o_bipush (v := nI 12) hC dX8_truth_21 (by decide +kernel) ?_
  refine o_iload_n hC dX8_truth_23 (by rfl) ?_
  refine o_imul hC dX8_truth_24 ?_
  try rw [nI_mul]
  refine o_lconst (v := 0) hC dX8_truth_25 (by decide +kernel) ?_
  refine o_lastN (t0 := 1) hC rfl dX8_truth_26 (by repeat (first | with_reducible assumption | (rw [rl_u_s]; done) | (rw [rl_u_s]; rfl) | rw [rl_u_n (by first | with_reducible assumption | omega)])) (by omega) (by decide) ?_
  refine o_vret hC hB dX8_truth_27 (Nat.le_of_ble_eq_true rfl) (Nat.le_of_ble_eq_true rfl) ?_
  exact ⟨rfl, rfl, ((hq.s15 _ (md_bd b15 ⟨1, by decide, rfl⟩)).s16 _).s17 _⟩

set_option maxHeartbeats 4000000 in
set_option maxRecDepth 100000 in
theorem cm_X8_cellAt (l : Launch) (D : va_G) (ids : Nat → ClassId) (H0 : Heap) (h : rl_H) (n : Nat) (m : Nat) (T : md_T) (fu : Int32) (k : Nat) (a t c : Nat) (hq : mq ids h h m T fu k) (ha : (80 * a + t) * 6 + c < 8160) : rl_Met l (rl_e D ids H0) rl_BW rl_Ns yX8_cellAt cX8_cellAt 4 (some .int) ({ frames := 0, cells := 0, slots := 0, locals := 0 }) [.ref m, .int (nI a), .int (nI t), .int (nI c)] h n (fun v h' n' => ∃ r : Int32, v = some (.int r) ∧ h' = h ∧ n' = n) := by
  obtain ⟨g0, gk, ⟨⟨cl, g12⟩, ⟨tu, g13, b13⟩, ⟨im, g14⟩, ⟨te, g15, b15⟩, ⟨ne, g16⟩, ⟨la, g17⟩, ⟨hn, g18⟩, ⟨hl, g19⟩, ⟨tp, g20⟩, ⟨gr, g21, b21⟩, ⟨it, g22⟩⟩, gf⟩ := id hq
  refine rl_Met.of (by decide +kernel) (Nat.le_of_ble_eq_true rfl) ?_
  intro X hC hB
  show rl_G X (rl_e D ids H0) 0 [some (.ref m), some (.int (nI a)), some (.int (nI t)), some (.int (nI c))] [] h n 0 0
  refine o_aload_n hC dX8_cellAt_0 (by rfl) ?_
  refine o_getf hC (fX8_43 hC rfl) dX8_cellAt_1 (by repeat (first | with_reducible assumption | (rw [rl_u_s]; done) | (rw [rl_u_s]; rfl) | rw [rl_u_n (by first | with_reducible assumption | omega)])) (by first | rfl | with_reducible assumption) ?_
  refine o_bipush (v := nI 80) hC dX8_cellAt_4 (by decide +kernel) ?_
  refine o_iload_n hC dX8_cellAt_6 (by rfl) ?_
  refine o_imul hC dX8_cellAt_7 ?_
  try rw [nI_mul]
  refine o_iload_n hC dX8_cellAt_8 (by rfl) ?_
  refine o_iadd hC dX8_cellAt_9 ?_
  try rw [nI_add]
  refine o_bipush (v := nI 6) hC dX8_cellAt_10 (by decide +kernel) ?_
  refine o_imul hC dX8_cellAt_12 ?_
  try rw [nI_mul]
  refine o_iload_n hC dX8_cellAt_13 (by rfl) ?_
  refine o_iadd hC dX8_cellAt_14 ?_
  try rw [nI_add]
  refine o_ialdN (t0 := 0) hC rfl dX8_cellAt_15 (by repeat (first | with_reducible assumption | (rw [rl_u_s]; done) | (rw [rl_u_s]; rfl) | rw [rl_u_n (by first | with_reducible assumption | omega)])) (by omega) (by decide) ?_
  refine o_iret hC hB dX8_cellAt_16 (Nat.le_of_ble_eq_true rfl) (Nat.le_of_ble_eq_true rfl) ?_
  exact ⟨_, rfl, rfl, rfl⟩

set_option maxHeartbeats 4000000 in
set_option maxRecDepth 100000 in
theorem cm_X8_copy (l : Launch) (D : va_G) (ids : Nat → ClassId) (H0 : Heap) (h : rl_H) (n : Nat) (m : Nat) (T : md_T) (fu : Int32) (k : Nat) (a b : Nat) (hq : mq ids h h m T fu k) (ha : a < 1368) (hb : b < 1368) : rl_Met l (rl_e D ids H0) rl_BW rl_Ns yX8_copy cX8_copy 4 none ({ frames := 0, cells := 0, slots := 0, locals := 0 }) [.ref m, .int (nI a), .int (nI b)] h n (fun v h' n' => v = none ∧ n' = n ∧ mq ids h h' m T fu k ∧ ∀ q : Nat, q ≠ m + 15 → q ≠ m + 16 → q ≠ m + 17 → h' q = h q) := by
  obtain ⟨g0, gk, ⟨⟨cl, g12⟩, ⟨tu, g13, b13⟩, ⟨im, g14⟩, ⟨te, g15, b15⟩, ⟨ne, g16⟩, ⟨la, g17⟩, ⟨hn, g18⟩, ⟨hl, g19⟩, ⟨tp, g20⟩, ⟨gr, g21, b21⟩, ⟨it, g22⟩⟩, gf⟩ := id hq
  refine rl_Met.of (by decide +kernel) (Nat.le_of_ble_eq_true rfl) ?_
  intro X hC hB
  have loop : ∀ (mm j : Nat) (h1 : rl_H), j + mm = 12 → mq ids h h1 m T fu k → (∀ q : Nat, q ≠ m + 15 → q ≠ m + 16 → q ≠ m + 17 → h1 q = h q) → rl_G X (rl_e D ids H0) 14 [some (.ref m), some (.int (nI a)), some (.int (nI b)), some (.int (nI j))] [] h1 n 0 0 := by
    intro mm
    induction mm with
    | zero =>
      intro j h1 hm hq1 hf
      obtain ⟨g0, gk, ⟨⟨cl, g12⟩, ⟨tu, g13, b13⟩, ⟨im, g14⟩, ⟨te, g15, b15⟩, ⟨ne, g16⟩, ⟨la, g17⟩, ⟨hn, g18⟩, ⟨hl, g19⟩, ⟨tp, g20⟩, ⟨gr, g21, b21⟩, ⟨it, g22⟩⟩, gf⟩ := id hq1
      refine o_iload_n hC dX8_copy_14 (by rfl) ?_
      refine o_aload_n hC dX8_copy_15 (by rfl) ?_
      refine o_getf hC (fX8_53 hC rfl) dX8_copy_16 (by repeat (first | with_reducible assumption | (rw [rl_u_s]; done) | (rw [rl_u_s]; rfl) | rw [rl_u_n (by first | with_reducible assumption | omega)])) (by first | rfl | with_reducible assumption) ?_
      refine o_iload_n hC dX8_copy_19 (by rfl) ?_
      obtain ⟨t20, ht20, et20⟩ := b15 b (by omega)
      refine o_ialdN (t0 := 0) (k := b) hC rfl dX8_copy_20 (by repeat (first | with_reducible assumption | (rw [rl_u_s]; done) | (rw [rl_u_s]; rfl) | rw [rl_u_n (by first | with_reducible assumption | omega)])) (by omega) (by decide) ?_
      rw [et20]
      refine o_icmp_ge (tgt := 74) hC dX8_copy_21 (by decide) (fun c_21 => ?_) (fun c_21 => ?_)
      · refine o_vret hC hB dX8_copy_74 (Nat.le_of_ble_eq_true rfl) (Nat.le_of_ble_eq_true rfl) ?_
        exact ⟨rfl, rfl, hq1, hf⟩
      · exact absurd (nI_le (by omega) (by omega)) c_21
    | succ mm ih =>
      intro j h1 hm hq1 hf
      obtain ⟨g0, gk, ⟨⟨cl, g12⟩, ⟨tu, g13, b13⟩, ⟨im, g14⟩, ⟨te, g15, b15⟩, ⟨ne, g16⟩, ⟨la, g17⟩, ⟨hn, g18⟩, ⟨hl, g19⟩, ⟨tp, g20⟩, ⟨gr, g21, b21⟩, ⟨it, g22⟩⟩, gf⟩ := id hq1
      refine o_iload_n hC dX8_copy_14 (by rfl) ?_
      refine o_aload_n hC dX8_copy_15 (by rfl) ?_
      refine o_getf hC (fX8_53 hC rfl) dX8_copy_16 (by repeat (first | with_reducible assumption | (rw [rl_u_s]; done) | (rw [rl_u_s]; rfl) | rw [rl_u_n (by first | with_reducible assumption | omega)])) (by first | rfl | with_reducible assumption) ?_
      refine o_iload_n hC dX8_copy_19 (by rfl) ?_
      obtain ⟨t20, ht20, et20⟩ := b15 b (by omega)
      refine o_ialdN (t0 := 0) (k := b) hC rfl dX8_copy_20 (by repeat (first | with_reducible assumption | (rw [rl_u_s]; done) | (rw [rl_u_s]; rfl) | rw [rl_u_n (by first | with_reducible assumption | omega)])) (by omega) (by decide) ?_
      rw [et20]
      refine o_icmp_ge (tgt := 74) hC dX8_copy_21 (by decide) (fun c_21 => ?_) (fun c_21 => ?_)
      · refine o_vret hC hB dX8_copy_74 (Nat.le_of_ble_eq_true rfl) (Nat.le_of_ble_eq_true rfl) ?_
        exact ⟨rfl, rfl, hq1, hf⟩
      · refine o_aload_n hC dX8_copy_24 (by rfl) ?_
        refine o_getf hC (fX8_56 hC rfl) dX8_copy_25 (by repeat (first | with_reducible assumption | (rw [rl_u_s]; done) | (rw [rl_u_s]; rfl) | rw [rl_u_n (by first | with_reducible assumption | omega)])) (by first | rfl | with_reducible assumption) ?_
        refine o_bipush (v := nI 12) hC dX8_copy_28 (by decide +kernel) ?_
        refine o_iload_n hC dX8_copy_30 (by rfl) ?_
        refine o_imul hC dX8_copy_31 ?_
        try rw [nI_mul]
        refine o_iload_n hC dX8_copy_32 (by rfl) ?_
        refine o_iadd hC dX8_copy_33 ?_
        try rw [nI_add]
        refine o_aload_n hC dX8_copy_34 (by rfl) ?_
        refine o_getf hC (fX8_56 hC rfl) dX8_copy_35 (by repeat (first | with_reducible assumption | (rw [rl_u_s]; done) | (rw [rl_u_s]; rfl) | rw [rl_u_n (by first | with_reducible assumption | omega)])) (by first | rfl | with_reducible assumption) ?_
        refine o_bipush (v := nI 12) hC dX8_copy_38 (by decide +kernel) ?_
        refine o_iload_n hC dX8_copy_40 (by rfl) ?_
        refine o_imul hC dX8_copy_41 ?_
        try rw [nI_mul]
        refine o_iload_n hC dX8_copy_42 (by rfl) ?_
        refine o_iadd hC dX8_copy_43 ?_
        try rw [nI_add]
        refine o_laldN (t0 := 1) hC rfl dX8_copy_44 (by repeat (first | with_reducible assumption | (rw [rl_u_s]; done) | (rw [rl_u_s]; rfl) | rw [rl_u_n (by first | with_reducible assumption | omega)])) (by omega) (by decide) ?_
        refine o_lastN (t0 := 1) hC rfl dX8_copy_45 (by repeat (first | with_reducible assumption | (rw [rl_u_s]; done) | (rw [rl_u_s]; rfl) | rw [rl_u_n (by first | with_reducible assumption | omega)])) (by omega) (by decide) ?_
        refine o_aload_n hC dX8_copy_46 (by rfl) ?_
        refine o_getf hC (fX8_60 hC rfl) dX8_copy_47 (by repeat (first | with_reducible assumption | (rw [rl_u_s]; done) | (rw [rl_u_s]; rfl) | rw [rl_u_n (by first | with_reducible assumption | omega)])) (by first | rfl | with_reducible assumption) ?_
        refine o_bipush (v := nI 12) hC dX8_copy_50 (by decide +kernel) ?_
        refine o_iload_n hC dX8_copy_52 (by rfl) ?_
        refine o_imul hC dX8_copy_53 ?_
        try rw [nI_mul]
        refine o_iload_n hC dX8_copy_54 (by rfl) ?_
        refine o_iadd hC dX8_copy_55 ?_
        try rw [nI_add]
        refine o_aload_n hC dX8_copy_56 (by rfl) ?_
        refine o_getf hC (fX8_60 hC rfl) dX8_copy_57 (by repeat (first | with_reducible assumption | (rw [rl_u_s]; done) | (rw [rl_u_s]; rfl) | rw [rl_u_n (by first | with_reducible assumption | omega)])) (by first | rfl | with_reducible assumption) ?_
        refine o_bipush (v := nI 12) hC dX8_copy_60 (by decide +kernel) ?_
        refine o_iload_n hC dX8_copy_62 (by rfl) ?_
        refine o_imul hC dX8_copy_63 ?_
        try rw [nI_mul]
        refine o_iload_n hC dX8_copy_64 (by rfl) ?_
        refine o_iadd hC dX8_copy_65 ?_
        try rw [nI_add]
        refine o_laldN (t0 := 1) hC rfl dX8_copy_66 (by repeat (first | with_reducible assumption | (rw [rl_u_s]; done) | (rw [rl_u_s]; rfl) | rw [rl_u_n (by first | with_reducible assumption | omega)])) (by omega) (by decide) ?_
        refine o_lastN (t0 := 1) hC rfl dX8_copy_67 (by repeat (first | with_reducible assumption | (rw [rl_u_s]; done) | (rw [rl_u_s]; rfl) | rw [rl_u_n (by first | with_reducible assumption | omega)])) (by omega) (by decide) ?_
        refine o_iinc hC dX8_copy_68 (by rfl) (rl_inc _) (Nat.le_of_ble_eq_true rfl) ?_
        refine o_goto (tgt := 14) hC dX8_copy_71 (by decide) ?_
        exact ih (j + 1) _ (by omega) ((hq1.s16 _).s17 _) (fun q z1 z2 z3 => by rw [rl_u_n z3, rl_u_n z2]; exact hf q z1 z2 z3)
  show rl_G X (rl_e D ids H0) 0 [some (.ref m), some (.int (nI a)), some (.int (nI b)), none] [] h n 0 0
  refine o_aload_n hC dX8_copy_0 (by rfl) ?_
  refine o_getf hC (fX8_53 hC rfl) dX8_copy_1 (by repeat (first | with_reducible assumption | (rw [rl_u_s]; done) | (rw [rl_u_s]; rfl) | rw [rl_u_n (by first | with_reducible assumption | omega)])) (by first | rfl | with_reducible assumption) ?_
  refine o_iload_n hC dX8_copy_4 (by rfl) ?_
  refine o_aload_n hC dX8_copy_5 (by rfl) ?_
  refine o_getf hC (fX8_53 hC rfl) dX8_copy_6 (by repeat (first | with_reducible assumption | (rw [rl_u_s]; done) | (rw [rl_u_s]; rfl) | rw [rl_u_n (by first | with_reducible assumption | omega)])) (by first | rfl | with_reducible assumption) ?_
  refine o_iload_n hC dX8_copy_9 (by rfl) ?_
  refine o_ialdN (t0 := 0) hC rfl dX8_copy_10 (by repeat (first | with_reducible assumption | (rw [rl_u_s]; done) | (rw [rl_u_s]; rfl) | rw [rl_u_n (by first | with_reducible assumption | omega)])) (by omega) (by decide) ?_
  refine o_iastN (t0 := 0) hC rfl dX8_copy_11 (by repeat (first | with_reducible assumption | (rw [rl_u_s]; done) | (rw [rl_u_s]; rfl) | rw [rl_u_n (by first | with_reducible assumption | omega)])) (by omega) (by decide) ?_
  refine o_iconst (v := nI 0) hC dX8_copy_12 (by decide +kernel) ?_
  refine o_istore_n hC dX8_copy_13 (Nat.le_of_ble_eq_true rfl) ?_
  exact loop 12 0 _ (by omega) (hq.s15 _ (md_bd b15 (b15 b hb))) (fun q z1 z2 z3 => rl_u_n z1)
end
section
/-! THE MODEL by shapes: goes, settle, either, both, turn, not -/
abbrev gs_c (hn hl : Nat → Int64) (i j : Nat) : Prop := (lg_cmp (hn i &&& (hn j ^^^ (-1))) 0 = 0 ∧ lg_cmp (hl i &&& (hl j ^^^ (-1))) 0 = 0) ∧ (¬ (lg_cmp (hn i) (hn j) = 0 ∧ lg_cmp (hl i) (hl j) = 0) ∨ nI i < nI j)
def gs (hn hl : Nat → Int64) (j : Nat) : Nat → Nat → Int32
  | 0, _ => nI 0
  | f + 1, i => if gs_c hn hl i j then nI 1 else gs hn hl j f (i + 1)
def md_cnt (G : Nat → Int32) : Nat → Nat
  | 0 => 0
  | i + 1 => md_cnt G i + (if G i = 0 then 1 else 0)
theorem md_cnt_s {G : Nat → Int32} {i : Nat} (h : G i = 0) : md_cnt G (i + 1) = md_cnt G i + 1 := by
  rw [md_cnt, if_pos h]
theorem md_cnt_n {G : Nat → Int32} {i : Nat} (h : ¬ G i = 0) : md_cnt G (i + 1) = md_cnt G i := by
  rw [md_cnt, if_neg h, Nat.add_zero]
theorem md_cnt_le (G : Nat → Int32) (i : Nat) : ∀ d : Nat, md_cnt G i ≤ md_cnt G (i + d)
  | 0 => Nat.le_refl _
  | d + 1 => by
    refine Nat.le_trans (md_cnt_le G i d) ?_
    show md_cnt G (i + d) ≤ md_cnt G (i + d + 1)
    rw [md_cnt]
    exact Nat.le_add_right _ _
theorem md_cnt_ub (G : Nat → Int32) : ∀ i : Nat, md_cnt G i ≤ i
  | 0 => Nat.le_refl _
  | i + 1 => by
    rw [md_cnt]
    have := md_cnt_ub G i
    split <;> omega

set_option maxHeartbeats 4000000 in
set_option maxRecDepth 100000 in
theorem cm_X8_goes (l : Launch) (D : va_G) (ids : Nat → ClassId) (H0 : Heap) (h : rl_H) (n : Nat) (m : Nat) (T : md_T) (fu : Int32) (k : Nat) (j : Nat) (hn hl : Nat → Int64) (hq : mq ids h h m T fu k) (h18 : h (m + 18) = some (.inl (ids 1, 160, .inr (.inl hn)))) (h19 : h (m + 19) = some (.inl (ids 1, 160, .inr (.inl hl)))) (hj : j < k) : rl_Met l (rl_e D ids H0) rl_BW rl_Ns yX8_goes cX8_goes 5 (some .boolean) ({ frames := 0, cells := 0, slots := 0, locals := 0 }) [.ref m, .int (nI j)] h n (fun v h' n' => v = some (.int (gs hn hl j k 0)) ∧ h' = h ∧ n' = n) := by
  obtain ⟨g0, gk, -, gf⟩ := id hq
  refine rl_Met.of (by decide +kernel) (Nat.le_of_ble_eq_true rfl) ?_
  intro X hC hB
  have loop : ∀ (mm i : Nat) (o3 o4 : Option Value), i + mm = k → gs hn hl j k 0 = gs hn hl j mm i → rl_G X (rl_e D ids H0) 2 [some (.ref m), some (.int (nI j)), some (.int (nI i)), o3, o4] [] h n 0 0 := by
    intro mm
    induction mm with
    | zero =>
      intro i o3 o4 hm hs
      refine o_iload_n hC dX8_goes_2 (by rfl) ?_
      refine o_aload_n hC dX8_goes_3 (by rfl) ?_
      refine o_getf hC (fX8_82 hC rfl) dX8_goes_4 (by repeat (first | with_reducible assumption | (rw [rl_u_s]; done) | (rw [rl_u_s]; rfl) | rw [rl_u_n (by first | with_reducible assumption | omega)])) (by first | rfl | with_reducible assumption) ?_
      refine o_icmp_ge (tgt := 121) hC dX8_goes_7 (by decide) (fun c_7 => ?_) (fun c_7 => ?_)
      · refine o_iconst (v := nI 0) hC dX8_goes_121 (by decide +kernel) ?_
        refine o_zret hC hB dX8_goes_122 (by decide +kernel) (Nat.le_of_ble_eq_true rfl) (Nat.le_of_ble_eq_true rfl) ?_
        exact ⟨by rw [hs]; rfl, rfl, rfl⟩
      · exact absurd (nI_le (by omega) (by omega)) c_7
    | succ mm ih =>
      intro i o3 o4 hm hs
      refine o_iload_n hC dX8_goes_2 (by rfl) ?_
      refine o_aload_n hC dX8_goes_3 (by rfl) ?_
      refine o_getf hC (fX8_82 hC rfl) dX8_goes_4 (by repeat (first | with_reducible assumption | (rw [rl_u_s]; done) | (rw [rl_u_s]; rfl) | rw [rl_u_n (by first | with_reducible assumption | omega)])) (by first | rfl | with_reducible assumption) ?_
      refine o_icmp_ge (tgt := 121) hC dX8_goes_7 (by decide) (fun c_7 => ?_) (fun c_7 => ?_)
      · exact absurd c_7 (nI_ge (by omega) (by omega))
      · refine o_aload_n hC dX8_goes_10 (by rfl) ?_
        refine o_getf hC (fX8_63 hC rfl) dX8_goes_11 (by repeat (first | with_reducible assumption | (rw [rl_u_s]; done) | (rw [rl_u_s]; rfl) | rw [rl_u_n (by first | with_reducible assumption | omega)])) (by first | rfl | with_reducible assumption) ?_
        refine o_iload_n hC dX8_goes_14 (by rfl) ?_
        refine o_laldN (t0 := 1) hC rfl dX8_goes_15 (by repeat (first | with_reducible assumption | (rw [rl_u_s]; done) | (rw [rl_u_s]; rfl) | rw [rl_u_n (by first | with_reducible assumption | omega)])) (by omega) (by decide) ?_
        refine o_aload_n hC dX8_goes_16 (by rfl) ?_
        refine o_getf hC (fX8_63 hC rfl) dX8_goes_17 (by repeat (first | with_reducible assumption | (rw [rl_u_s]; done) | (rw [rl_u_s]; rfl) | rw [rl_u_n (by first | with_reducible assumption | omega)])) (by first | rfl | with_reducible assumption) ?_
        refine o_iload_n hC dX8_goes_20 (by rfl) ?_
        refine o_laldN (t0 := 1) hC rfl dX8_goes_21 (by repeat (first | with_reducible assumption | (rw [rl_u_s]; done) | (rw [rl_u_s]; rfl) | rw [rl_u_n (by first | with_reducible assumption | omega)])) (by omega) (by decide) ?_
        refine o_ldc2 hC nX8_85 dX8_goes_22 ?_
        refine o_lxor hC dX8_goes_25 ?_
        refine o_land hC dX8_goes_26 ?_
        refine o_lconst (v := 0) hC dX8_goes_27 (by decide +kernel) ?_
        refine o_lcmp hC dX8_goes_28 ?_
        refine o_if_ne (tgt := 58) hC dX8_goes_29 (by decide) (fun c_29 => ?_) (fun c_29 => ?_)
        · refine (show ¬ (gs_c hn hl i j) → rl_G _ _ _ _ _ _ _ _ _ from fun nwi => ?_) (by first | exact fun q => c_29 q.1.1 | exact fun q => c_51 q.1.2)
          refine o_iconst (v := nI 0) hC dX8_goes_58 (by decide +kernel) ?_
          refine o_istore_n hC dX8_goes_59 (Nat.le_of_ble_eq_true rfl) ?_
          refine o_aload_n hC dX8_goes_60 (by rfl) ?_
          refine o_getf hC (fX8_63 hC rfl) dX8_goes_61 (by repeat (first | with_reducible assumption | (rw [rl_u_s]; done) | (rw [rl_u_s]; rfl) | rw [rl_u_n (by first | with_reducible assumption | omega)])) (by first | rfl | with_reducible assumption) ?_
          refine o_iload_n hC dX8_goes_64 (by rfl) ?_
          refine o_laldN (t0 := 1) hC rfl dX8_goes_65 (by repeat (first | with_reducible assumption | (rw [rl_u_s]; done) | (rw [rl_u_s]; rfl) | rw [rl_u_n (by first | with_reducible assumption | omega)])) (by omega) (by decide) ?_
          refine o_aload_n hC dX8_goes_66 (by rfl) ?_
          refine o_getf hC (fX8_63 hC rfl) dX8_goes_67 (by repeat (first | with_reducible assumption | (rw [rl_u_s]; done) | (rw [rl_u_s]; rfl) | rw [rl_u_n (by first | with_reducible assumption | omega)])) (by first | rfl | with_reducible assumption) ?_
          refine o_iload_n hC dX8_goes_70 (by rfl) ?_
          refine o_laldN (t0 := 1) hC rfl dX8_goes_71 (by repeat (first | with_reducible assumption | (rw [rl_u_s]; done) | (rw [rl_u_s]; rfl) | rw [rl_u_n (by first | with_reducible assumption | omega)])) (by omega) (by decide) ?_
          refine o_lcmp hC dX8_goes_72 ?_
          refine o_if_ne (tgt := 96) hC dX8_goes_73 (by decide) (fun c_73 => ?_) (fun c_73 => ?_)
          · refine o_iconst (v := nI 0) hC dX8_goes_96 (by decide +kernel) ?_
            refine o_istore hC dX8_goes_97 (Nat.le_of_ble_eq_true rfl) ?_
            refine o_iload_n hC dX8_goes_99 (by rfl) ?_
            refine o_if_eq (tgt := 115) hC dX8_goes_100 (by decide) (fun _ => ?_) (fun q => absurd rfl q)
            refine o_iinc hC dX8_goes_115 (by rfl) (rl_inc _) (Nat.le_of_ble_eq_true rfl) ?_
            refine o_goto (tgt := 2) hC dX8_goes_118 (by decide) ?_
            exact ih (i + 1) _ _ (by omega) (hs.trans (by rw [gs, if_neg nwi]))
          · refine o_aload_n hC dX8_goes_76 (by rfl) ?_
            refine o_getf hC (fX8_66 hC rfl) dX8_goes_77 (by repeat (first | with_reducible assumption | (rw [rl_u_s]; done) | (rw [rl_u_s]; rfl) | rw [rl_u_n (by first | with_reducible assumption | omega)])) (by first | rfl | with_reducible assumption) ?_
            refine o_iload_n hC dX8_goes_80 (by rfl) ?_
            refine o_laldN (t0 := 1) hC rfl dX8_goes_81 (by repeat (first | with_reducible assumption | (rw [rl_u_s]; done) | (rw [rl_u_s]; rfl) | rw [rl_u_n (by first | with_reducible assumption | omega)])) (by omega) (by decide) ?_
            refine o_aload_n hC dX8_goes_82 (by rfl) ?_
            refine o_getf hC (fX8_66 hC rfl) dX8_goes_83 (by repeat (first | with_reducible assumption | (rw [rl_u_s]; done) | (rw [rl_u_s]; rfl) | rw [rl_u_n (by first | with_reducible assumption | omega)])) (by first | rfl | with_reducible assumption) ?_
            refine o_iload_n hC dX8_goes_86 (by rfl) ?_
            refine o_laldN (t0 := 1) hC rfl dX8_goes_87 (by repeat (first | with_reducible assumption | (rw [rl_u_s]; done) | (rw [rl_u_s]; rfl) | rw [rl_u_n (by first | with_reducible assumption | omega)])) (by omega) (by decide) ?_
            refine o_lcmp hC dX8_goes_88 ?_
            refine o_if_ne (tgt := 96) hC dX8_goes_89 (by decide) (fun c_89 => ?_) (fun c_89 => ?_)
            · refine o_iconst (v := nI 0) hC dX8_goes_96 (by decide +kernel) ?_
              refine o_istore hC dX8_goes_97 (Nat.le_of_ble_eq_true rfl) ?_
              refine o_iload_n hC dX8_goes_99 (by rfl) ?_
              refine o_if_eq (tgt := 115) hC dX8_goes_100 (by decide) (fun _ => ?_) (fun q => absurd rfl q)
              refine o_iinc hC dX8_goes_115 (by rfl) (rl_inc _) (Nat.le_of_ble_eq_true rfl) ?_
              refine o_goto (tgt := 2) hC dX8_goes_118 (by decide) ?_
              exact ih (i + 1) _ _ (by omega) (hs.trans (by rw [gs, if_neg nwi]))
            · refine o_iconst (v := nI 1) hC dX8_goes_92 (by decide +kernel) ?_
              refine o_goto (tgt := 97) hC dX8_goes_93 (by decide) ?_
              refine o_istore hC dX8_goes_97 (Nat.le_of_ble_eq_true rfl) ?_
              refine o_iload_n hC dX8_goes_99 (by rfl) ?_
              refine o_if_eq (tgt := 115) hC dX8_goes_100 (by decide) (fun _ => ?_) (fun q => absurd rfl q)
              refine o_iinc hC dX8_goes_115 (by rfl) (rl_inc _) (Nat.le_of_ble_eq_true rfl) ?_
              refine o_goto (tgt := 2) hC dX8_goes_118 (by decide) ?_
              exact ih (i + 1) _ _ (by omega) (hs.trans (by rw [gs, if_neg nwi]))
        · refine o_aload_n hC dX8_goes_32 (by rfl) ?_
          refine o_getf hC (fX8_66 hC rfl) dX8_goes_33 (by repeat (first | with_reducible assumption | (rw [rl_u_s]; done) | (rw [rl_u_s]; rfl) | rw [rl_u_n (by first | with_reducible assumption | omega)])) (by first | rfl | with_reducible assumption) ?_
          refine o_iload_n hC dX8_goes_36 (by rfl) ?_
          refine o_laldN (t0 := 1) hC rfl dX8_goes_37 (by repeat (first | with_reducible assumption | (rw [rl_u_s]; done) | (rw [rl_u_s]; rfl) | rw [rl_u_n (by first | with_reducible assumption | omega)])) (by omega) (by decide) ?_
          refine o_aload_n hC dX8_goes_38 (by rfl) ?_
          refine o_getf hC (fX8_66 hC rfl) dX8_goes_39 (by repeat (first | with_reducible assumption | (rw [rl_u_s]; done) | (rw [rl_u_s]; rfl) | rw [rl_u_n (by first | with_reducible assumption | omega)])) (by first | rfl | with_reducible assumption) ?_
          refine o_iload_n hC dX8_goes_42 (by rfl) ?_
          refine o_laldN (t0 := 1) hC rfl dX8_goes_43 (by repeat (first | with_reducible assumption | (rw [rl_u_s]; done) | (rw [rl_u_s]; rfl) | rw [rl_u_n (by first | with_reducible assumption | omega)])) (by omega) (by decide) ?_
          refine o_ldc2 hC nX8_85 dX8_goes_44 ?_
          refine o_lxor hC dX8_goes_47 ?_
          refine o_land hC dX8_goes_48 ?_
          refine o_lconst (v := 0) hC dX8_goes_49 (by decide +kernel) ?_
          refine o_lcmp hC dX8_goes_50 ?_
          refine o_if_ne (tgt := 58) hC dX8_goes_51 (by decide) (fun c_51 => ?_) (fun c_51 => ?_)
          · refine (show ¬ (gs_c hn hl i j) → rl_G _ _ _ _ _ _ _ _ _ from fun nwi => ?_) (by first | exact fun q => c_29 q.1.1 | exact fun q => c_51 q.1.2)
            refine o_iconst (v := nI 0) hC dX8_goes_58 (by decide +kernel) ?_
            refine o_istore_n hC dX8_goes_59 (Nat.le_of_ble_eq_true rfl) ?_
            refine o_aload_n hC dX8_goes_60 (by rfl) ?_
            refine o_getf hC (fX8_63 hC rfl) dX8_goes_61 (by repeat (first | with_reducible assumption | (rw [rl_u_s]; done) | (rw [rl_u_s]; rfl) | rw [rl_u_n (by first | with_reducible assumption | omega)])) (by first | rfl | with_reducible assumption) ?_
            refine o_iload_n hC dX8_goes_64 (by rfl) ?_
            refine o_laldN (t0 := 1) hC rfl dX8_goes_65 (by repeat (first | with_reducible assumption | (rw [rl_u_s]; done) | (rw [rl_u_s]; rfl) | rw [rl_u_n (by first | with_reducible assumption | omega)])) (by omega) (by decide) ?_
            refine o_aload_n hC dX8_goes_66 (by rfl) ?_
            refine o_getf hC (fX8_63 hC rfl) dX8_goes_67 (by repeat (first | with_reducible assumption | (rw [rl_u_s]; done) | (rw [rl_u_s]; rfl) | rw [rl_u_n (by first | with_reducible assumption | omega)])) (by first | rfl | with_reducible assumption) ?_
            refine o_iload_n hC dX8_goes_70 (by rfl) ?_
            refine o_laldN (t0 := 1) hC rfl dX8_goes_71 (by repeat (first | with_reducible assumption | (rw [rl_u_s]; done) | (rw [rl_u_s]; rfl) | rw [rl_u_n (by first | with_reducible assumption | omega)])) (by omega) (by decide) ?_
            refine o_lcmp hC dX8_goes_72 ?_
            refine o_if_ne (tgt := 96) hC dX8_goes_73 (by decide) (fun c_73 => ?_) (fun c_73 => ?_)
            · refine o_iconst (v := nI 0) hC dX8_goes_96 (by decide +kernel) ?_
              refine o_istore hC dX8_goes_97 (Nat.le_of_ble_eq_true rfl) ?_
              refine o_iload_n hC dX8_goes_99 (by rfl) ?_
              refine o_if_eq (tgt := 115) hC dX8_goes_100 (by decide) (fun _ => ?_) (fun q => absurd rfl q)
              refine o_iinc hC dX8_goes_115 (by rfl) (rl_inc _) (Nat.le_of_ble_eq_true rfl) ?_
              refine o_goto (tgt := 2) hC dX8_goes_118 (by decide) ?_
              exact ih (i + 1) _ _ (by omega) (hs.trans (by rw [gs, if_neg nwi]))
            · refine o_aload_n hC dX8_goes_76 (by rfl) ?_
              refine o_getf hC (fX8_66 hC rfl) dX8_goes_77 (by repeat (first | with_reducible assumption | (rw [rl_u_s]; done) | (rw [rl_u_s]; rfl) | rw [rl_u_n (by first | with_reducible assumption | omega)])) (by first | rfl | with_reducible assumption) ?_
              refine o_iload_n hC dX8_goes_80 (by rfl) ?_
              refine o_laldN (t0 := 1) hC rfl dX8_goes_81 (by repeat (first | with_reducible assumption | (rw [rl_u_s]; done) | (rw [rl_u_s]; rfl) | rw [rl_u_n (by first | with_reducible assumption | omega)])) (by omega) (by decide) ?_
              refine o_aload_n hC dX8_goes_82 (by rfl) ?_
              refine o_getf hC (fX8_66 hC rfl) dX8_goes_83 (by repeat (first | with_reducible assumption | (rw [rl_u_s]; done) | (rw [rl_u_s]; rfl) | rw [rl_u_n (by first | with_reducible assumption | omega)])) (by first | rfl | with_reducible assumption) ?_
              refine o_iload_n hC dX8_goes_86 (by rfl) ?_
              refine o_laldN (t0 := 1) hC rfl dX8_goes_87 (by repeat (first | with_reducible assumption | (rw [rl_u_s]; done) | (rw [rl_u_s]; rfl) | rw [rl_u_n (by first | with_reducible assumption | omega)])) (by omega) (by decide) ?_
              refine o_lcmp hC dX8_goes_88 ?_
              refine o_if_ne (tgt := 96) hC dX8_goes_89 (by decide) (fun c_89 => ?_) (fun c_89 => ?_)
              · refine o_iconst (v := nI 0) hC dX8_goes_96 (by decide +kernel) ?_
                refine o_istore hC dX8_goes_97 (Nat.le_of_ble_eq_true rfl) ?_
                refine o_iload_n hC dX8_goes_99 (by rfl) ?_
                refine o_if_eq (tgt := 115) hC dX8_goes_100 (by decide) (fun _ => ?_) (fun q => absurd rfl q)
                refine o_iinc hC dX8_goes_115 (by rfl) (rl_inc _) (Nat.le_of_ble_eq_true rfl) ?_
                refine o_goto (tgt := 2) hC dX8_goes_118 (by decide) ?_
                exact ih (i + 1) _ _ (by omega) (hs.trans (by rw [gs, if_neg nwi]))
              · refine o_iconst (v := nI 1) hC dX8_goes_92 (by decide +kernel) ?_
                refine o_goto (tgt := 97) hC dX8_goes_93 (by decide) ?_
                refine o_istore hC dX8_goes_97 (Nat.le_of_ble_eq_true rfl) ?_
                refine o_iload_n hC dX8_goes_99 (by rfl) ?_
                refine o_if_eq (tgt := 115) hC dX8_goes_100 (by decide) (fun _ => ?_) (fun q => absurd rfl q)
                refine o_iinc hC dX8_goes_115 (by rfl) (rl_inc _) (Nat.le_of_ble_eq_true rfl) ?_
                refine o_goto (tgt := 2) hC dX8_goes_118 (by decide) ?_
                exact ih (i + 1) _ _ (by omega) (hs.trans (by rw [gs, if_neg nwi]))
          · refine o_iconst (v := nI 1) hC dX8_goes_54 (by decide +kernel) ?_
            refine o_goto (tgt := 59) hC dX8_goes_55 (by decide) ?_
            refine o_istore_n hC dX8_goes_59 (Nat.le_of_ble_eq_true rfl) ?_
            refine o_aload_n hC dX8_goes_60 (by rfl) ?_
            refine o_getf hC (fX8_63 hC rfl) dX8_goes_61 (by repeat (first | with_reducible assumption | (rw [rl_u_s]; done) | (rw [rl_u_s]; rfl) | rw [rl_u_n (by first | with_reducible assumption | omega)])) (by first | rfl | with_reducible assumption) ?_
            refine o_iload_n hC dX8_goes_64 (by rfl) ?_
            refine o_laldN (t0 := 1) hC rfl dX8_goes_65 (by repeat (first | with_reducible assumption | (rw [rl_u_s]; done) | (rw [rl_u_s]; rfl) | rw [rl_u_n (by first | with_reducible assumption | omega)])) (by omega) (by decide) ?_
            refine o_aload_n hC dX8_goes_66 (by rfl) ?_
            refine o_getf hC (fX8_63 hC rfl) dX8_goes_67 (by repeat (first | with_reducible assumption | (rw [rl_u_s]; done) | (rw [rl_u_s]; rfl) | rw [rl_u_n (by first | with_reducible assumption | omega)])) (by first | rfl | with_reducible assumption) ?_
            refine o_iload_n hC dX8_goes_70 (by rfl) ?_
            refine o_laldN (t0 := 1) hC rfl dX8_goes_71 (by repeat (first | with_reducible assumption | (rw [rl_u_s]; done) | (rw [rl_u_s]; rfl) | rw [rl_u_n (by first | with_reducible assumption | omega)])) (by omega) (by decide) ?_
            refine o_lcmp hC dX8_goes_72 ?_
            refine o_if_ne (tgt := 96) hC dX8_goes_73 (by decide) (fun c_73 => ?_) (fun c_73 => ?_)
            · refine (show ¬ (lg_cmp (hn i) (hn j) = 0 ∧ lg_cmp (hl i) (hl j) = 0) → rl_G _ _ _ _ _ _ _ _ _ from fun nsm => ?_) (by first | exact fun q => c_73 q.1 | exact fun q => c_89 q.2)
              refine o_iconst (v := nI 0) hC dX8_goes_96 (by decide +kernel) ?_
              refine o_istore hC dX8_goes_97 (Nat.le_of_ble_eq_true rfl) ?_
              refine o_iload_n hC dX8_goes_99 (by rfl) ?_
              refine o_if_eq (tgt := 115) hC dX8_goes_100 (by decide) (fun q => absurd q (by decide +kernel)) (fun _ => ?_)
              refine o_iload hC dX8_goes_103 (by rfl) ?_
              refine o_if_eq (tgt := 113) hC dX8_goes_105 (by decide) (fun _ => ?_) (fun q => absurd rfl q)
              refine o_iconst (v := nI 1) hC dX8_goes_113 (by decide +kernel) ?_
              refine o_zret hC hB dX8_goes_114 (by decide +kernel) (Nat.le_of_ble_eq_true rfl) (Nat.le_of_ble_eq_true rfl) ?_
              exact ⟨by rw [hs, gs, if_pos ⟨⟨c_29, c_51⟩, Or.inl nsm⟩], rfl, rfl⟩
            · refine o_aload_n hC dX8_goes_76 (by rfl) ?_
              refine o_getf hC (fX8_66 hC rfl) dX8_goes_77 (by repeat (first | with_reducible assumption | (rw [rl_u_s]; done) | (rw [rl_u_s]; rfl) | rw [rl_u_n (by first | with_reducible assumption | omega)])) (by first | rfl | with_reducible assumption) ?_
              refine o_iload_n hC dX8_goes_80 (by rfl) ?_
              refine o_laldN (t0 := 1) hC rfl dX8_goes_81 (by repeat (first | with_reducible assumption | (rw [rl_u_s]; done) | (rw [rl_u_s]; rfl) | rw [rl_u_n (by first | with_reducible assumption | omega)])) (by omega) (by decide) ?_
              refine o_aload_n hC dX8_goes_82 (by rfl) ?_
              refine o_getf hC (fX8_66 hC rfl) dX8_goes_83 (by repeat (first | with_reducible assumption | (rw [rl_u_s]; done) | (rw [rl_u_s]; rfl) | rw [rl_u_n (by first | with_reducible assumption | omega)])) (by first | rfl | with_reducible assumption) ?_
              refine o_iload_n hC dX8_goes_86 (by rfl) ?_
              refine o_laldN (t0 := 1) hC rfl dX8_goes_87 (by repeat (first | with_reducible assumption | (rw [rl_u_s]; done) | (rw [rl_u_s]; rfl) | rw [rl_u_n (by first | with_reducible assumption | omega)])) (by omega) (by decide) ?_
              refine o_lcmp hC dX8_goes_88 ?_
              refine o_if_ne (tgt := 96) hC dX8_goes_89 (by decide) (fun c_89 => ?_) (fun c_89 => ?_)
              · refine (show ¬ (lg_cmp (hn i) (hn j) = 0 ∧ lg_cmp (hl i) (hl j) = 0) → rl_G _ _ _ _ _ _ _ _ _ from fun nsm => ?_) (by first | exact fun q => c_73 q.1 | exact fun q => c_89 q.2)
                refine o_iconst (v := nI 0) hC dX8_goes_96 (by decide +kernel) ?_
                refine o_istore hC dX8_goes_97 (Nat.le_of_ble_eq_true rfl) ?_
                refine o_iload_n hC dX8_goes_99 (by rfl) ?_
                refine o_if_eq (tgt := 115) hC dX8_goes_100 (by decide) (fun q => absurd q (by decide +kernel)) (fun _ => ?_)
                refine o_iload hC dX8_goes_103 (by rfl) ?_
                refine o_if_eq (tgt := 113) hC dX8_goes_105 (by decide) (fun _ => ?_) (fun q => absurd rfl q)
                refine o_iconst (v := nI 1) hC dX8_goes_113 (by decide +kernel) ?_
                refine o_zret hC hB dX8_goes_114 (by decide +kernel) (Nat.le_of_ble_eq_true rfl) (Nat.le_of_ble_eq_true rfl) ?_
                exact ⟨by rw [hs, gs, if_pos ⟨⟨c_29, c_51⟩, Or.inl nsm⟩], rfl, rfl⟩
              · refine o_iconst (v := nI 1) hC dX8_goes_92 (by decide +kernel) ?_
                refine o_goto (tgt := 97) hC dX8_goes_93 (by decide) ?_
                refine o_istore hC dX8_goes_97 (Nat.le_of_ble_eq_true rfl) ?_
                refine o_iload_n hC dX8_goes_99 (by rfl) ?_
                refine o_if_eq (tgt := 115) hC dX8_goes_100 (by decide) (fun q => absurd q (by decide +kernel)) (fun _ => ?_)
                refine o_iload hC dX8_goes_103 (by rfl) ?_
                refine o_if_eq (tgt := 113) hC dX8_goes_105 (by decide) (fun q => absurd q (by decide +kernel)) (fun _ => ?_)
                refine o_iload_n hC dX8_goes_108 (by rfl) ?_
                refine o_iload_n hC dX8_goes_109 (by rfl) ?_
                refine o_icmp_ge (tgt := 115) hC dX8_goes_110 (by decide) (fun c_110 => ?_) (fun c_110 => ?_)
                · refine o_iinc hC dX8_goes_115 (by rfl) (rl_inc _) (Nat.le_of_ble_eq_true rfl) ?_
                  refine o_goto (tgt := 2) hC dX8_goes_118 (by decide) ?_
                  exact ih (i + 1) _ _ (by omega) (hs.trans (by rw [gs, if_neg (fun q => q.2.elim (fun w => w ⟨c_73, c_89⟩) (fun w => absurd c_110 (Int32.not_le.mpr w)))]))
                · refine o_iconst (v := nI 1) hC dX8_goes_113 (by decide +kernel) ?_
                  refine o_zret hC hB dX8_goes_114 (by decide +kernel) (Nat.le_of_ble_eq_true rfl) (Nat.le_of_ble_eq_true rfl) ?_
                  exact ⟨by rw [hs, gs, if_pos ⟨⟨c_29, c_51⟩, Or.inr (Int32.not_le.mp c_110)⟩], rfl, rfl⟩
  show rl_G X (rl_e D ids H0) 0 [some (.ref m), some (.int (nI j)), none, none, none] [] h n 0 0
  refine o_iconst (v := nI 0) hC dX8_goes_0 (by decide +kernel) ?_
  refine o_istore_n hC dX8_goes_1 (Nat.le_of_ble_eq_true rfl) ?_
  exact loop k 0 _ _ (by omega) rfl

set_option maxHeartbeats 4000000 in
set_option maxRecDepth 100000 in
theorem cm_X8_settle (l : Launch) (D : va_G) (ids : Nat → ClassId) (H0 : Heap) (h : rl_H) (n : Nat) (m : Nat) (T : md_T) (fu : Int32) (k : Nat) (a : Nat) (hq : mq ids h h m T fu k) (ha : a < 1368) : rl_Met l (rl_e D ids H0) rl_BW rl_Ns yX8_settle cX8_settle 6 none ({ frames := 1, cells := 0, slots := 0, locals := 24 }) [.ref m, .int (nI a)] h n (fun v h' n' => v = none ∧ n' = n ∧ ∃ fu' : Int32, mq ids h h' m T fu' k) := by
  obtain ⟨g0, gk, ⟨⟨cl, g12⟩, ⟨tu, g13, b13⟩, ⟨im, g14⟩, ⟨te, g15, b15⟩, ⟨ne, g16⟩, ⟨la, g17⟩, ⟨hn, g18⟩, ⟨hl, g19⟩, ⟨tp, g20⟩, ⟨gr, g21, b21⟩, ⟨it, g22⟩⟩, gf⟩ := id hq
  refine rl_Met.of (by decide +kernel) (Nat.le_of_ble_eq_true rfl) ?_
  intro X hC hB
  have loop2 : md_cnt (fun w => gs hn hl w k 0) k ≤ 12 → ∀ (mm i : Nat) (h1 : rl_H) (o2 o5 : Option Value), i + mm = k → mq ids h h1 m T fu k → h1 (m + 18) = some (.inl (ids 1, 160, .inr (.inl hn))) → h1 (m + 19) = some (.inl (ids 1, 160, .inr (.inl hl))) → rl_G X (rl_e D ids H0) 53 [some (.ref m), some (.int (nI a)), o2, some (.int (nI (md_cnt (fun w => gs hn hl w k 0) i))), some (.int (nI i)), o5] [] h1 n 0 0 := by
    intro c12 mm
    induction mm with
    | zero =>
      intro i h1 o2 o5 hm hq1 e18 e19
      have ei : i = k := by omega
      subst ei
      obtain ⟨g0, gk, ⟨⟨cl, g12⟩, ⟨tu, g13, b13⟩, ⟨im, g14⟩, ⟨te, g15, b15⟩, ⟨ne, g16⟩, ⟨la, g17⟩, ⟨hn, g18⟩, ⟨hl, g19⟩, ⟨tp, g20⟩, ⟨gr, g21, b21⟩, ⟨it, g22⟩⟩, gf⟩ := id hq1
      refine o_iload hC dX8_settle_53 (by rfl) ?_
      refine o_aload_n hC dX8_settle_55 (by rfl) ?_
      refine o_getf hC (fX8_82 hC rfl) dX8_settle_56 (by repeat (first | with_reducible assumption | (rw [rl_u_s]; done) | (rw [rl_u_s]; rfl) | rw [rl_u_n (by first | with_reducible assumption | omega)])) (by first | rfl | with_reducible assumption) ?_
      refine o_icmp_ge (tgt := 259) hC dX8_settle_59 (by decide) (fun c_59 => ?_) (fun c_59 => ?_)
      · refine o_aload_n hC dX8_settle_259 (by rfl) ?_
        refine o_getf hC (fX8_53 hC rfl) dX8_settle_260 (by repeat (first | with_reducible assumption | (rw [rl_u_s]; done) | (rw [rl_u_s]; rfl) | rw [rl_u_n (by first | with_reducible assumption | omega)])) (by first | rfl | with_reducible assumption) ?_
        refine o_iload_n hC dX8_settle_263 (by rfl) ?_
        refine o_iload_n hC dX8_settle_264 (by rfl) ?_
        refine o_iastN (t0 := 0) hC rfl dX8_settle_265 (by repeat (first | with_reducible assumption | (rw [rl_u_s]; done) | (rw [rl_u_s]; rfl) | rw [rl_u_n (by first | with_reducible assumption | omega)])) (by omega) (by decide) ?_
        refine o_vret hC hB dX8_settle_266 (Nat.le_of_ble_eq_true rfl) (Nat.le_of_ble_eq_true rfl) ?_
        exact ⟨rfl, rfl, fu, hq1.s15 _ (md_bd b15 ⟨_, c12, rfl⟩)⟩
      · exact absurd (nI_le (by omega) (by omega)) c_59
    | succ mm ih =>
      intro i h1 o2 o5 hm hq1 e18 e19
      obtain ⟨g0, gk, -, gf⟩ := id hq1
      refine o_iload hC dX8_settle_53 (by rfl) ?_
      refine o_aload_n hC dX8_settle_55 (by rfl) ?_
      refine o_getf hC (fX8_82 hC rfl) dX8_settle_56 (by repeat (first | with_reducible assumption | (rw [rl_u_s]; done) | (rw [rl_u_s]; rfl) | rw [rl_u_n (by first | with_reducible assumption | omega)])) (by first | rfl | with_reducible assumption) ?_
      refine o_icmp_ge (tgt := 259) hC dX8_settle_59 (by decide) (fun c_59 => ?_) (fun c_59 => ?_)
      · exact absurd c_59 (nI_ge (by omega) (by omega))
      · refine o_aload_n hC dX8_settle_62 (by rfl) ?_
        refine o_iload hC dX8_settle_63 (by rfl) ?_
        refine o_callV1 hC rl_BW_good rl_Ns_nw (by exact hB.2.2.2.2.2) YX8_goes IX8_goes VX8_goes (mX8_87 hC) (by rw [hB.1]; exact cm_X8_goes l D ids H0 _ _ m T _ _ i hn hl hq1.rf e18 e19 (by omega)) (by exact hq1.rf.1) rfl rfl (Nat.le_of_ble_eq_true rfl) (by rw [hB.2.1]; first | exact Nat.le_of_ble_eq_true rfl | (dsimp only; omega)) (by rw [hB.2.1]; first | exact Nat.le_of_ble_eq_true rfl | (dsimp only; omega)) (by rw [hB.2.1]; first | exact Nat.le_of_ble_eq_true rfl | (dsimp only; omega)) (by rw [hB.2.1]; first | exact Nat.le_of_ble_eq_true rfl | (dsimp only; omega)) dX8_settle_65 (fun v h_65 n_65 p_65 => ?_)
        obtain ⟨rfl, rfl, rfl⟩ := p_65
        try dsimp only [Option.toList, List.cons_append, List.nil_append]
        refine o_if_ne (tgt := 253) hC dX8_settle_68 (by decide) (fun c_68 => ?_) (fun c_68 => ?_)
        · refine o_iinc hC dX8_settle_253 (by rfl) (rl_inc _) (Nat.le_of_ble_eq_true rfl) ?_
          refine o_goto (tgt := 53) hC dX8_settle_256 (by decide) ?_
          have lp := ih (i + 1) _ o2 o5 (by omega) hq1 e18 e19
          rw [md_cnt_n (G := (fun w => gs hn hl w k 0)) c_68] at lp
          exact lp
        · have ub := md_cnt_le (fun w => gs hn hl w k 0) (i + 1) mm
          rw [show i + 1 + mm = k by omega, md_cnt_s (G := (fun w => gs hn hl w k 0)) c_68] at ub
          have loop3 : ∀ (p : Nat) (h2 : rl_H), p ≤ md_cnt (fun w => gs hn hl w k 0) i → mq ids h h2 m T fu k → h2 (m + 18) = some (.inl (ids 1, 160, .inr (.inl hn))) → h2 (m + 19) = some (.inl (ids 1, 160, .inr (.inl hl))) → rl_G X (rl_e D ids H0) 74 [some (.ref m), some (.int (nI a)), o2, some (.int (nI (md_cnt (fun w => gs hn hl w k 0) i))), some (.int (nI i)), some (.int (nI p))] [] h2 n_65 0 0 := by
            intro p
            induction p with
            | zero =>
              intro h2 hp hq2 f18 f19
              obtain ⟨g0, gk, ⟨⟨cl, g12⟩, ⟨tu, g13, b13⟩, ⟨im, g14⟩, ⟨te, g15, b15⟩, ⟨ne, g16⟩, ⟨la, g17⟩, -, -, ⟨tp, g20⟩, ⟨gr, g21, b21⟩, ⟨it, g22⟩⟩, gf⟩ := id hq2
              refine o_iload hC dX8_settle_74 (by rfl) ?_
              refine o_if_le (tgt := 212) hC dX8_settle_76 (by decide) (fun c_76 => ?_) (fun c_76 => ?_)
              · refine o_aload_n hC dX8_settle_212 (by rfl) ?_
                refine o_getf hC (fX8_56 hC rfl) dX8_settle_213 (by repeat (first | with_reducible assumption | (rw [rl_u_s]; done) | (rw [rl_u_s]; rfl) | rw [rl_u_n (by first | with_reducible assumption | omega)])) (by first | rfl | with_reducible assumption) ?_
                refine o_bipush (v := nI 12) hC dX8_settle_216 (by decide +kernel) ?_
                refine o_iload_n hC dX8_settle_218 (by rfl) ?_
                refine o_imul hC dX8_settle_219 ?_
                try rw [nI_mul]
                refine o_iload hC dX8_settle_220 (by rfl) ?_
                refine o_iadd hC dX8_settle_222 ?_
                try rw [nI_add]
                refine o_aload_n hC dX8_settle_223 (by rfl) ?_
                refine o_getf hC (fX8_63 hC rfl) dX8_settle_224 (by repeat (first | with_reducible assumption | (rw [rl_u_s]; done) | (rw [rl_u_s]; rfl) | rw [rl_u_n (by first | with_reducible assumption | omega)])) (by first | rfl | with_reducible assumption) ?_
                refine o_iload hC dX8_settle_227 (by rfl) ?_
                refine o_laldN (t0 := 1) hC rfl dX8_settle_229 (by repeat (first | with_reducible assumption | (rw [rl_u_s]; done) | (rw [rl_u_s]; rfl) | rw [rl_u_n (by first | with_reducible assumption | omega)])) (by omega) (by decide) ?_
                refine o_lastN (t0 := 1) hC rfl dX8_settle_230 (by repeat (first | with_reducible assumption | (rw [rl_u_s]; done) | (rw [rl_u_s]; rfl) | rw [rl_u_n (by first | with_reducible assumption | omega)])) (by omega) (by decide) ?_
                refine o_aload_n hC dX8_settle_231 (by rfl) ?_
                refine o_getf hC (fX8_60 hC rfl) dX8_settle_232 (by repeat (first | with_reducible assumption | (rw [rl_u_s]; done) | (rw [rl_u_s]; rfl) | rw [rl_u_n (by first | with_reducible assumption | omega)])) (by first | rfl | with_reducible assumption) ?_
                refine o_bipush (v := nI 12) hC dX8_settle_235 (by decide +kernel) ?_
                refine o_iload_n hC dX8_settle_237 (by rfl) ?_
                refine o_imul hC dX8_settle_238 ?_
                try rw [nI_mul]
                refine o_iload hC dX8_settle_239 (by rfl) ?_
                refine o_iadd hC dX8_settle_241 ?_
                try rw [nI_add]
                refine o_aload_n hC dX8_settle_242 (by rfl) ?_
                refine o_getf hC (fX8_66 hC rfl) dX8_settle_243 (by repeat (first | with_reducible assumption | (rw [rl_u_s]; done) | (rw [rl_u_s]; rfl) | rw [rl_u_n (by first | with_reducible assumption | omega)])) (by first | rfl | with_reducible assumption) ?_
                refine o_iload hC dX8_settle_246 (by rfl) ?_
                refine o_laldN (t0 := 1) hC rfl dX8_settle_248 (by repeat (first | with_reducible assumption | (rw [rl_u_s]; done) | (rw [rl_u_s]; rfl) | rw [rl_u_n (by first | with_reducible assumption | omega)])) (by omega) (by decide) ?_
                refine o_lastN (t0 := 1) hC rfl dX8_settle_249 (by repeat (first | with_reducible assumption | (rw [rl_u_s]; done) | (rw [rl_u_s]; rfl) | rw [rl_u_n (by first | with_reducible assumption | omega)])) (by omega) (by decide) ?_
                refine o_iinc hC dX8_settle_250 (by rfl) (rl_inc _) (Nat.le_of_ble_eq_true rfl) ?_
                refine o_iinc hC dX8_settle_253 (by rfl) (rl_inc _) (Nat.le_of_ble_eq_true rfl) ?_
                refine o_goto (tgt := 53) hC dX8_settle_256 (by decide) ?_
                rw [← md_cnt_s (G := (fun w => gs hn hl w k 0)) c_68]
                exact ih (i + 1) _ _ _ (by omega) ((hq2.s16 _).s17 _) (by repeat (first | with_reducible assumption | (rw [rl_u_s]; done) | (rw [rl_u_s]; rfl) | rw [rl_u_n (by first | with_reducible assumption | omega)])) (by repeat (first | with_reducible assumption | (rw [rl_u_s]; done) | (rw [rl_u_s]; rfl) | rw [rl_u_n (by first | with_reducible assumption | omega)]))
              · exact absurd (by decide +kernel) c_76
            | succ p ihp =>
              intro h2 hp hq2 f18 f19
              obtain ⟨g0, gk, ⟨⟨cl, g12⟩, ⟨tu, g13, b13⟩, ⟨im, g14⟩, ⟨te, g15, b15⟩, ⟨ne, g16⟩, ⟨la, g17⟩, -, -, ⟨tp, g20⟩, ⟨gr, g21, b21⟩, ⟨it, g22⟩⟩, gf⟩ := id hq2
              refine o_iload hC dX8_settle_74 (by rfl) ?_
              refine o_if_le (tgt := 212) hC dX8_settle_76 (by decide) (fun c_76 => ?_) (fun c_76 => ?_)
              · first
                | exact absurd c_76 (nI_nle (Nat.succ_pos p) (by omega))
                | (have zz : True := trivial
                   refine o_aload_n hC dX8_settle_212 (by rfl) ?_
                   refine o_getf hC (fX8_56 hC rfl) dX8_settle_213 (by repeat (first | with_reducible assumption | (rw [rl_u_s]; done) | (rw [rl_u_s]; rfl) | rw [rl_u_n (by first | with_reducible assumption | omega)])) (by first | rfl | with_reducible assumption) ?_
                   refine o_bipush (v := nI 12) hC dX8_settle_216 (by decide +kernel) ?_
                   refine o_iload_n hC dX8_settle_218 (by rfl) ?_
                   refine o_imul hC dX8_settle_219 ?_
                   try rw [nI_mul]
                   refine o_iload hC dX8_settle_220 (by rfl) ?_
                   refine o_iadd hC dX8_settle_222 ?_
                   try rw [nI_add]
                   refine o_aload_n hC dX8_settle_223 (by rfl) ?_
                   refine o_getf hC (fX8_63 hC rfl) dX8_settle_224 (by repeat (first | with_reducible assumption | (rw [rl_u_s]; done) | (rw [rl_u_s]; rfl) | rw [rl_u_n (by first | with_reducible assumption | omega)])) (by first | rfl | with_reducible assumption) ?_
                   refine o_iload hC dX8_settle_227 (by rfl) ?_
                   refine o_laldN (t0 := 1) hC rfl dX8_settle_229 (by repeat (first | with_reducible assumption | (rw [rl_u_s]; done) | (rw [rl_u_s]; rfl) | rw [rl_u_n (by first | with_reducible assumption | omega)])) (by omega) (by decide) ?_
                   refine o_lastN (t0 := 1) hC rfl dX8_settle_230 (by repeat (first | with_reducible assumption | (rw [rl_u_s]; done) | (rw [rl_u_s]; rfl) | rw [rl_u_n (by first | with_reducible assumption | omega)])) (by omega) (by decide) ?_
                   refine o_aload_n hC dX8_settle_231 (by rfl) ?_
                   refine o_getf hC (fX8_60 hC rfl) dX8_settle_232 (by repeat (first | with_reducible assumption | (rw [rl_u_s]; done) | (rw [rl_u_s]; rfl) | rw [rl_u_n (by first | with_reducible assumption | omega)])) (by first | rfl | with_reducible assumption) ?_
                   refine o_bipush (v := nI 12) hC dX8_settle_235 (by decide +kernel) ?_
                   refine o_iload_n hC dX8_settle_237 (by rfl) ?_
                   refine o_imul hC dX8_settle_238 ?_
                   try rw [nI_mul]
                   refine o_iload hC dX8_settle_239 (by rfl) ?_
                   refine o_iadd hC dX8_settle_241 ?_
                   try rw [nI_add]
                   refine o_aload_n hC dX8_settle_242 (by rfl) ?_
                   refine o_getf hC (fX8_66 hC rfl) dX8_settle_243 (by repeat (first | with_reducible assumption | (rw [rl_u_s]; done) | (rw [rl_u_s]; rfl) | rw [rl_u_n (by first | with_reducible assumption | omega)])) (by first | rfl | with_reducible assumption) ?_
                   refine o_iload hC dX8_settle_246 (by rfl) ?_
                   refine o_laldN (t0 := 1) hC rfl dX8_settle_248 (by repeat (first | with_reducible assumption | (rw [rl_u_s]; done) | (rw [rl_u_s]; rfl) | rw [rl_u_n (by first | with_reducible assumption | omega)])) (by omega) (by decide) ?_
                   refine o_lastN (t0 := 1) hC rfl dX8_settle_249 (by repeat (first | with_reducible assumption | (rw [rl_u_s]; done) | (rw [rl_u_s]; rfl) | rw [rl_u_n (by first | with_reducible assumption | omega)])) (by omega) (by decide) ?_
                   refine o_iinc hC dX8_settle_250 (by rfl) (rl_inc _) (Nat.le_of_ble_eq_true rfl) ?_
                   refine o_iinc hC dX8_settle_253 (by rfl) (rl_inc _) (Nat.le_of_ble_eq_true rfl) ?_
                   refine o_goto (tgt := 53) hC dX8_settle_256 (by decide) ?_
                   rw [← md_cnt_s (G := (fun w => gs hn hl w k 0)) c_68]
                   exact ih (i + 1) _ _ _ (by omega) ((hq2.s16 _).s17 _) (by repeat (first | with_reducible assumption | (rw [rl_u_s]; done) | (rw [rl_u_s]; rfl) | rw [rl_u_n (by first | with_reducible assumption | omega)])) (by repeat (first | with_reducible assumption | (rw [rl_u_s]; done) | (rw [rl_u_s]; rfl) | rw [rl_u_n (by first | with_reducible assumption | omega)])))
              · refine o_aload_n hC dX8_settle_79 (by rfl) ?_
                refine o_getf hC (fX8_56 hC rfl) dX8_settle_80 (by repeat (first | with_reducible assumption | (rw [rl_u_s]; done) | (rw [rl_u_s]; rfl) | rw [rl_u_n (by first | with_reducible assumption | omega)])) (by first | rfl | with_reducible assumption) ?_
                refine o_bipush (v := nI 12) hC dX8_settle_83 (by decide +kernel) ?_
                refine o_iload_n hC dX8_settle_85 (by rfl) ?_
                refine o_imul hC dX8_settle_86 ?_
                try rw [nI_mul]
                refine o_iload hC dX8_settle_87 (by rfl) ?_
                refine o_iadd hC dX8_settle_89 ?_
                try rw [nI_add]
                refine o_iconst (v := nI 1) hC dX8_settle_90 (by decide +kernel) ?_
                refine o_isub hC dX8_settle_91 ?_
                rw [show nI (12 * a + (p + 1)) - nI 1 = nI (12 * a + p) from rl_pred _]
                refine o_laldN (t0 := 1) hC rfl dX8_settle_92 (by repeat (first | with_reducible assumption | (rw [rl_u_s]; done) | (rw [rl_u_s]; rfl) | rw [rl_u_n (by first | with_reducible assumption | omega)])) (by omega) (by decide) ?_
                refine o_aload_n hC dX8_settle_93 (by rfl) ?_
                refine o_getf hC (fX8_63 hC rfl) dX8_settle_94 (by repeat (first | with_reducible assumption | (rw [rl_u_s]; done) | (rw [rl_u_s]; rfl) | rw [rl_u_n (by first | with_reducible assumption | omega)])) (by first | rfl | with_reducible assumption) ?_
                refine o_iload hC dX8_settle_97 (by rfl) ?_
                refine o_laldN (t0 := 1) hC rfl dX8_settle_99 (by repeat (first | with_reducible assumption | (rw [rl_u_s]; done) | (rw [rl_u_s]; rfl) | rw [rl_u_n (by first | with_reducible assumption | omega)])) (by omega) (by decide) ?_
                refine o_lcmp hC dX8_settle_100 ?_
                refine o_if_gt (tgt := 154) hC dX8_settle_101 (by decide) (fun c_101 => ?_) (fun c_101 => ?_)
                · refine o_aload_n hC dX8_settle_154 (by rfl) ?_
                  refine o_getf hC (fX8_56 hC rfl) dX8_settle_155 (by repeat (first | with_reducible assumption | (rw [rl_u_s]; done) | (rw [rl_u_s]; rfl) | rw [rl_u_n (by first | with_reducible assumption | omega)])) (by first | rfl | with_reducible assumption) ?_
                  refine o_bipush (v := nI 12) hC dX8_settle_158 (by decide +kernel) ?_
                  refine o_iload_n hC dX8_settle_160 (by rfl) ?_
                  refine o_imul hC dX8_settle_161 ?_
                  try rw [nI_mul]
                  refine o_iload hC dX8_settle_162 (by rfl) ?_
                  refine o_iadd hC dX8_settle_164 ?_
                  try rw [nI_add]
                  refine o_aload_n hC dX8_settle_165 (by rfl) ?_
                  refine o_getf hC (fX8_56 hC rfl) dX8_settle_166 (by repeat (first | with_reducible assumption | (rw [rl_u_s]; done) | (rw [rl_u_s]; rfl) | rw [rl_u_n (by first | with_reducible assumption | omega)])) (by first | rfl | with_reducible assumption) ?_
                  refine o_bipush (v := nI 12) hC dX8_settle_169 (by decide +kernel) ?_
                  refine o_iload_n hC dX8_settle_171 (by rfl) ?_
                  refine o_imul hC dX8_settle_172 ?_
                  try rw [nI_mul]
                  refine o_iload hC dX8_settle_173 (by rfl) ?_
                  refine o_iadd hC dX8_settle_175 ?_
                  try rw [nI_add]
                  refine o_iconst (v := nI 1) hC dX8_settle_176 (by decide +kernel) ?_
                  refine o_isub hC dX8_settle_177 ?_
                  rw [show nI (12 * a + (p + 1)) - nI 1 = nI (12 * a + p) from rl_pred _]
                  refine o_laldN (t0 := 1) hC rfl dX8_settle_178 (by repeat (first | with_reducible assumption | (rw [rl_u_s]; done) | (rw [rl_u_s]; rfl) | rw [rl_u_n (by first | with_reducible assumption | omega)])) (by omega) (by decide) ?_
                  refine o_lastN (t0 := 1) hC rfl dX8_settle_179 (by repeat (first | with_reducible assumption | (rw [rl_u_s]; done) | (rw [rl_u_s]; rfl) | rw [rl_u_n (by first | with_reducible assumption | omega)])) (by omega) (by decide) ?_
                  refine o_aload_n hC dX8_settle_180 (by rfl) ?_
                  refine o_getf hC (fX8_60 hC rfl) dX8_settle_181 (by repeat (first | with_reducible assumption | (rw [rl_u_s]; done) | (rw [rl_u_s]; rfl) | rw [rl_u_n (by first | with_reducible assumption | omega)])) (by first | rfl | with_reducible assumption) ?_
                  refine o_bipush (v := nI 12) hC dX8_settle_184 (by decide +kernel) ?_
                  refine o_iload_n hC dX8_settle_186 (by rfl) ?_
                  refine o_imul hC dX8_settle_187 ?_
                  try rw [nI_mul]
                  refine o_iload hC dX8_settle_188 (by rfl) ?_
                  refine o_iadd hC dX8_settle_190 ?_
                  try rw [nI_add]
                  refine o_aload_n hC dX8_settle_191 (by rfl) ?_
                  refine o_getf hC (fX8_60 hC rfl) dX8_settle_192 (by repeat (first | with_reducible assumption | (rw [rl_u_s]; done) | (rw [rl_u_s]; rfl) | rw [rl_u_n (by first | with_reducible assumption | omega)])) (by first | rfl | with_reducible assumption) ?_
                  refine o_bipush (v := nI 12) hC dX8_settle_195 (by decide +kernel) ?_
                  refine o_iload_n hC dX8_settle_197 (by rfl) ?_
                  refine o_imul hC dX8_settle_198 ?_
                  try rw [nI_mul]
                  refine o_iload hC dX8_settle_199 (by rfl) ?_
                  refine o_iadd hC dX8_settle_201 ?_
                  try rw [nI_add]
                  refine o_iconst (v := nI 1) hC dX8_settle_202 (by decide +kernel) ?_
                  refine o_isub hC dX8_settle_203 ?_
                  rw [show nI (12 * a + (p + 1)) - nI 1 = nI (12 * a + p) from rl_pred _]
                  refine o_laldN (t0 := 1) hC rfl dX8_settle_204 (by repeat (first | with_reducible assumption | (rw [rl_u_s]; done) | (rw [rl_u_s]; rfl) | rw [rl_u_n (by first | with_reducible assumption | omega)])) (by omega) (by decide) ?_
                  refine o_lastN (t0 := 1) hC rfl dX8_settle_205 (by repeat (first | with_reducible assumption | (rw [rl_u_s]; done) | (rw [rl_u_s]; rfl) | rw [rl_u_n (by first | with_reducible assumption | omega)])) (by omega) (by decide) ?_
                  refine o_iinc hC dX8_settle_206 (by rfl) (rl_dec _) (Nat.le_of_ble_eq_true rfl) ?_
                  refine o_goto (tgt := 74) hC dX8_settle_209 (by decide) ?_
                  exact ihp _ (by omega) ((hq2.s16 _).s17 _) (by repeat (first | with_reducible assumption | (rw [rl_u_s]; done) | (rw [rl_u_s]; rfl) | rw [rl_u_n (by first | with_reducible assumption | omega)])) (by repeat (first | with_reducible assumption | (rw [rl_u_s]; done) | (rw [rl_u_s]; rfl) | rw [rl_u_n (by first | with_reducible assumption | omega)]))
                · refine o_aload_n hC dX8_settle_104 (by rfl) ?_
                  refine o_getf hC (fX8_56 hC rfl) dX8_settle_105 (by repeat (first | with_reducible assumption | (rw [rl_u_s]; done) | (rw [rl_u_s]; rfl) | rw [rl_u_n (by first | with_reducible assumption | omega)])) (by first | rfl | with_reducible assumption) ?_
                  refine o_bipush (v := nI 12) hC dX8_settle_108 (by decide +kernel) ?_
                  refine o_iload_n hC dX8_settle_110 (by rfl) ?_
                  refine o_imul hC dX8_settle_111 ?_
                  try rw [nI_mul]
                  refine o_iload hC dX8_settle_112 (by rfl) ?_
                  refine o_iadd hC dX8_settle_114 ?_
                  try rw [nI_add]
                  refine o_iconst (v := nI 1) hC dX8_settle_115 (by decide +kernel) ?_
                  refine o_isub hC dX8_settle_116 ?_
                  rw [show nI (12 * a + (p + 1)) - nI 1 = nI (12 * a + p) from rl_pred _]
                  refine o_laldN (t0 := 1) hC rfl dX8_settle_117 (by repeat (first | with_reducible assumption | (rw [rl_u_s]; done) | (rw [rl_u_s]; rfl) | rw [rl_u_n (by first | with_reducible assumption | omega)])) (by omega) (by decide) ?_
                  refine o_aload_n hC dX8_settle_118 (by rfl) ?_
                  refine o_getf hC (fX8_63 hC rfl) dX8_settle_119 (by repeat (first | with_reducible assumption | (rw [rl_u_s]; done) | (rw [rl_u_s]; rfl) | rw [rl_u_n (by first | with_reducible assumption | omega)])) (by first | rfl | with_reducible assumption) ?_
                  refine o_iload hC dX8_settle_122 (by rfl) ?_
                  refine o_laldN (t0 := 1) hC rfl dX8_settle_124 (by repeat (first | with_reducible assumption | (rw [rl_u_s]; done) | (rw [rl_u_s]; rfl) | rw [rl_u_n (by first | with_reducible assumption | omega)])) (by omega) (by decide) ?_
                  refine o_lcmp hC dX8_settle_125 ?_
                  refine o_if_ne (tgt := 212) hC dX8_settle_126 (by decide) (fun c_126 => ?_) (fun c_126 => ?_)
                  · first
                    | exact absurd c_76 (nI_nle (Nat.succ_pos p) (by omega))
                    | (have zz : True := trivial
                       refine o_aload_n hC dX8_settle_212 (by rfl) ?_
                       refine o_getf hC (fX8_56 hC rfl) dX8_settle_213 (by repeat (first | with_reducible assumption | (rw [rl_u_s]; done) | (rw [rl_u_s]; rfl) | rw [rl_u_n (by first | with_reducible assumption | omega)])) (by first | rfl | with_reducible assumption) ?_
                       refine o_bipush (v := nI 12) hC dX8_settle_216 (by decide +kernel) ?_
                       refine o_iload_n hC dX8_settle_218 (by rfl) ?_
                       refine o_imul hC dX8_settle_219 ?_
                       try rw [nI_mul]
                       refine o_iload hC dX8_settle_220 (by rfl) ?_
                       refine o_iadd hC dX8_settle_222 ?_
                       try rw [nI_add]
                       refine o_aload_n hC dX8_settle_223 (by rfl) ?_
                       refine o_getf hC (fX8_63 hC rfl) dX8_settle_224 (by repeat (first | with_reducible assumption | (rw [rl_u_s]; done) | (rw [rl_u_s]; rfl) | rw [rl_u_n (by first | with_reducible assumption | omega)])) (by first | rfl | with_reducible assumption) ?_
                       refine o_iload hC dX8_settle_227 (by rfl) ?_
                       refine o_laldN (t0 := 1) hC rfl dX8_settle_229 (by repeat (first | with_reducible assumption | (rw [rl_u_s]; done) | (rw [rl_u_s]; rfl) | rw [rl_u_n (by first | with_reducible assumption | omega)])) (by omega) (by decide) ?_
                       refine o_lastN (t0 := 1) hC rfl dX8_settle_230 (by repeat (first | with_reducible assumption | (rw [rl_u_s]; done) | (rw [rl_u_s]; rfl) | rw [rl_u_n (by first | with_reducible assumption | omega)])) (by omega) (by decide) ?_
                       refine o_aload_n hC dX8_settle_231 (by rfl) ?_
                       refine o_getf hC (fX8_60 hC rfl) dX8_settle_232 (by repeat (first | with_reducible assumption | (rw [rl_u_s]; done) | (rw [rl_u_s]; rfl) | rw [rl_u_n (by first | with_reducible assumption | omega)])) (by first | rfl | with_reducible assumption) ?_
                       refine o_bipush (v := nI 12) hC dX8_settle_235 (by decide +kernel) ?_
                       refine o_iload_n hC dX8_settle_237 (by rfl) ?_
                       refine o_imul hC dX8_settle_238 ?_
                       try rw [nI_mul]
                       refine o_iload hC dX8_settle_239 (by rfl) ?_
                       refine o_iadd hC dX8_settle_241 ?_
                       try rw [nI_add]
                       refine o_aload_n hC dX8_settle_242 (by rfl) ?_
                       refine o_getf hC (fX8_66 hC rfl) dX8_settle_243 (by repeat (first | with_reducible assumption | (rw [rl_u_s]; done) | (rw [rl_u_s]; rfl) | rw [rl_u_n (by first | with_reducible assumption | omega)])) (by first | rfl | with_reducible assumption) ?_
                       refine o_iload hC dX8_settle_246 (by rfl) ?_
                       refine o_laldN (t0 := 1) hC rfl dX8_settle_248 (by repeat (first | with_reducible assumption | (rw [rl_u_s]; done) | (rw [rl_u_s]; rfl) | rw [rl_u_n (by first | with_reducible assumption | omega)])) (by omega) (by decide) ?_
                       refine o_lastN (t0 := 1) hC rfl dX8_settle_249 (by repeat (first | with_reducible assumption | (rw [rl_u_s]; done) | (rw [rl_u_s]; rfl) | rw [rl_u_n (by first | with_reducible assumption | omega)])) (by omega) (by decide) ?_
                       refine o_iinc hC dX8_settle_250 (by rfl) (rl_inc _) (Nat.le_of_ble_eq_true rfl) ?_
                       refine o_iinc hC dX8_settle_253 (by rfl) (rl_inc _) (Nat.le_of_ble_eq_true rfl) ?_
                       refine o_goto (tgt := 53) hC dX8_settle_256 (by decide) ?_
                       rw [← md_cnt_s (G := (fun w => gs hn hl w k 0)) c_68]
                       exact ih (i + 1) _ _ _ (by omega) ((hq2.s16 _).s17 _) (by repeat (first | with_reducible assumption | (rw [rl_u_s]; done) | (rw [rl_u_s]; rfl) | rw [rl_u_n (by first | with_reducible assumption | omega)])) (by repeat (first | with_reducible assumption | (rw [rl_u_s]; done) | (rw [rl_u_s]; rfl) | rw [rl_u_n (by first | with_reducible assumption | omega)])))
                  · refine o_aload_n hC dX8_settle_129 (by rfl) ?_
                    refine o_getf hC (fX8_60 hC rfl) dX8_settle_130 (by repeat (first | with_reducible assumption | (rw [rl_u_s]; done) | (rw [rl_u_s]; rfl) | rw [rl_u_n (by first | with_reducible assumption | omega)])) (by first | rfl | with_reducible assumption) ?_
                    refine o_bipush (v := nI 12) hC dX8_settle_133 (by decide +kernel) ?_
                    refine o_iload_n hC dX8_settle_135 (by rfl) ?_
                    refine o_imul hC dX8_settle_136 ?_
                    try rw [nI_mul]
                    refine o_iload hC dX8_settle_137 (by rfl) ?_
                    refine o_iadd hC dX8_settle_139 ?_
                    try rw [nI_add]
                    refine o_iconst (v := nI 1) hC dX8_settle_140 (by decide +kernel) ?_
                    refine o_isub hC dX8_settle_141 ?_
                    rw [show nI (12 * a + (p + 1)) - nI 1 = nI (12 * a + p) from rl_pred _]
                    refine o_laldN (t0 := 1) hC rfl dX8_settle_142 (by repeat (first | with_reducible assumption | (rw [rl_u_s]; done) | (rw [rl_u_s]; rfl) | rw [rl_u_n (by first | with_reducible assumption | omega)])) (by omega) (by decide) ?_
                    refine o_aload_n hC dX8_settle_143 (by rfl) ?_
                    refine o_getf hC (fX8_66 hC rfl) dX8_settle_144 (by repeat (first | with_reducible assumption | (rw [rl_u_s]; done) | (rw [rl_u_s]; rfl) | rw [rl_u_n (by first | with_reducible assumption | omega)])) (by first | rfl | with_reducible assumption) ?_
                    refine o_iload hC dX8_settle_147 (by rfl) ?_
                    refine o_laldN (t0 := 1) hC rfl dX8_settle_149 (by repeat (first | with_reducible assumption | (rw [rl_u_s]; done) | (rw [rl_u_s]; rfl) | rw [rl_u_n (by first | with_reducible assumption | omega)])) (by omega) (by decide) ?_
                    refine o_lcmp hC dX8_settle_150 ?_
                    refine o_if_le (tgt := 212) hC dX8_settle_151 (by decide) (fun c_151 => ?_) (fun c_151 => ?_)
                    · first
                      | exact absurd c_76 (nI_nle (Nat.succ_pos p) (by omega))
                      | (have zz : True := trivial
                         refine o_aload_n hC dX8_settle_212 (by rfl) ?_
                         refine o_getf hC (fX8_56 hC rfl) dX8_settle_213 (by repeat (first | with_reducible assumption | (rw [rl_u_s]; done) | (rw [rl_u_s]; rfl) | rw [rl_u_n (by first | with_reducible assumption | omega)])) (by first | rfl | with_reducible assumption) ?_
                         refine o_bipush (v := nI 12) hC dX8_settle_216 (by decide +kernel) ?_
                         refine o_iload_n hC dX8_settle_218 (by rfl) ?_
                         refine o_imul hC dX8_settle_219 ?_
                         try rw [nI_mul]
                         refine o_iload hC dX8_settle_220 (by rfl) ?_
                         refine o_iadd hC dX8_settle_222 ?_
                         try rw [nI_add]
                         refine o_aload_n hC dX8_settle_223 (by rfl) ?_
                         refine o_getf hC (fX8_63 hC rfl) dX8_settle_224 (by repeat (first | with_reducible assumption | (rw [rl_u_s]; done) | (rw [rl_u_s]; rfl) | rw [rl_u_n (by first | with_reducible assumption | omega)])) (by first | rfl | with_reducible assumption) ?_
                         refine o_iload hC dX8_settle_227 (by rfl) ?_
                         refine o_laldN (t0 := 1) hC rfl dX8_settle_229 (by repeat (first | with_reducible assumption | (rw [rl_u_s]; done) | (rw [rl_u_s]; rfl) | rw [rl_u_n (by first | with_reducible assumption | omega)])) (by omega) (by decide) ?_
                         refine o_lastN (t0 := 1) hC rfl dX8_settle_230 (by repeat (first | with_reducible assumption | (rw [rl_u_s]; done) | (rw [rl_u_s]; rfl) | rw [rl_u_n (by first | with_reducible assumption | omega)])) (by omega) (by decide) ?_
                         refine o_aload_n hC dX8_settle_231 (by rfl) ?_
                         refine o_getf hC (fX8_60 hC rfl) dX8_settle_232 (by repeat (first | with_reducible assumption | (rw [rl_u_s]; done) | (rw [rl_u_s]; rfl) | rw [rl_u_n (by first | with_reducible assumption | omega)])) (by first | rfl | with_reducible assumption) ?_
                         refine o_bipush (v := nI 12) hC dX8_settle_235 (by decide +kernel) ?_
                         refine o_iload_n hC dX8_settle_237 (by rfl) ?_
                         refine o_imul hC dX8_settle_238 ?_
                         try rw [nI_mul]
                         refine o_iload hC dX8_settle_239 (by rfl) ?_
                         refine o_iadd hC dX8_settle_241 ?_
                         try rw [nI_add]
                         refine o_aload_n hC dX8_settle_242 (by rfl) ?_
                         refine o_getf hC (fX8_66 hC rfl) dX8_settle_243 (by repeat (first | with_reducible assumption | (rw [rl_u_s]; done) | (rw [rl_u_s]; rfl) | rw [rl_u_n (by first | with_reducible assumption | omega)])) (by first | rfl | with_reducible assumption) ?_
                         refine o_iload hC dX8_settle_246 (by rfl) ?_
                         refine o_laldN (t0 := 1) hC rfl dX8_settle_248 (by repeat (first | with_reducible assumption | (rw [rl_u_s]; done) | (rw [rl_u_s]; rfl) | rw [rl_u_n (by first | with_reducible assumption | omega)])) (by omega) (by decide) ?_
                         refine o_lastN (t0 := 1) hC rfl dX8_settle_249 (by repeat (first | with_reducible assumption | (rw [rl_u_s]; done) | (rw [rl_u_s]; rfl) | rw [rl_u_n (by first | with_reducible assumption | omega)])) (by omega) (by decide) ?_
                         refine o_iinc hC dX8_settle_250 (by rfl) (rl_inc _) (Nat.le_of_ble_eq_true rfl) ?_
                         refine o_iinc hC dX8_settle_253 (by rfl) (rl_inc _) (Nat.le_of_ble_eq_true rfl) ?_
                         refine o_goto (tgt := 53) hC dX8_settle_256 (by decide) ?_
                         rw [← md_cnt_s (G := (fun w => gs hn hl w k 0)) c_68]
                         exact ih (i + 1) _ _ _ (by omega) ((hq2.s16 _).s17 _) (by repeat (first | with_reducible assumption | (rw [rl_u_s]; done) | (rw [rl_u_s]; rfl) | rw [rl_u_n (by first | with_reducible assumption | omega)])) (by repeat (first | with_reducible assumption | (rw [rl_u_s]; done) | (rw [rl_u_s]; rfl) | rw [rl_u_n (by first | with_reducible assumption | omega)])))
                    · refine o_aload_n hC dX8_settle_154 (by rfl) ?_
                      refine o_getf hC (fX8_56 hC rfl) dX8_settle_155 (by repeat (first | with_reducible assumption | (rw [rl_u_s]; done) | (rw [rl_u_s]; rfl) | rw [rl_u_n (by first | with_reducible assumption | omega)])) (by first | rfl | with_reducible assumption) ?_
                      refine o_bipush (v := nI 12) hC dX8_settle_158 (by decide +kernel) ?_
                      refine o_iload_n hC dX8_settle_160 (by rfl) ?_
                      refine o_imul hC dX8_settle_161 ?_
                      try rw [nI_mul]
                      refine o_iload hC dX8_settle_162 (by rfl) ?_
                      refine o_iadd hC dX8_settle_164 ?_
                      try rw [nI_add]
                      refine o_aload_n hC dX8_settle_165 (by rfl) ?_
                      refine o_getf hC (fX8_56 hC rfl) dX8_settle_166 (by repeat (first | with_reducible assumption | (rw [rl_u_s]; done) | (rw [rl_u_s]; rfl) | rw [rl_u_n (by first | with_reducible assumption | omega)])) (by first | rfl | with_reducible assumption) ?_
                      refine o_bipush (v := nI 12) hC dX8_settle_169 (by decide +kernel) ?_
                      refine o_iload_n hC dX8_settle_171 (by rfl) ?_
                      refine o_imul hC dX8_settle_172 ?_
                      try rw [nI_mul]
                      refine o_iload hC dX8_settle_173 (by rfl) ?_
                      refine o_iadd hC dX8_settle_175 ?_
                      try rw [nI_add]
                      refine o_iconst (v := nI 1) hC dX8_settle_176 (by decide +kernel) ?_
                      refine o_isub hC dX8_settle_177 ?_
                      rw [show nI (12 * a + (p + 1)) - nI 1 = nI (12 * a + p) from rl_pred _]
                      refine o_laldN (t0 := 1) hC rfl dX8_settle_178 (by repeat (first | with_reducible assumption | (rw [rl_u_s]; done) | (rw [rl_u_s]; rfl) | rw [rl_u_n (by first | with_reducible assumption | omega)])) (by omega) (by decide) ?_
                      refine o_lastN (t0 := 1) hC rfl dX8_settle_179 (by repeat (first | with_reducible assumption | (rw [rl_u_s]; done) | (rw [rl_u_s]; rfl) | rw [rl_u_n (by first | with_reducible assumption | omega)])) (by omega) (by decide) ?_
                      refine o_aload_n hC dX8_settle_180 (by rfl) ?_
                      refine o_getf hC (fX8_60 hC rfl) dX8_settle_181 (by repeat (first | with_reducible assumption | (rw [rl_u_s]; done) | (rw [rl_u_s]; rfl) | rw [rl_u_n (by first | with_reducible assumption | omega)])) (by first | rfl | with_reducible assumption) ?_
                      refine o_bipush (v := nI 12) hC dX8_settle_184 (by decide +kernel) ?_
                      refine o_iload_n hC dX8_settle_186 (by rfl) ?_
                      refine o_imul hC dX8_settle_187 ?_
                      try rw [nI_mul]
                      refine o_iload hC dX8_settle_188 (by rfl) ?_
                      refine o_iadd hC dX8_settle_190 ?_
                      try rw [nI_add]
                      refine o_aload_n hC dX8_settle_191 (by rfl) ?_
                      refine o_getf hC (fX8_60 hC rfl) dX8_settle_192 (by repeat (first | with_reducible assumption | (rw [rl_u_s]; done) | (rw [rl_u_s]; rfl) | rw [rl_u_n (by first | with_reducible assumption | omega)])) (by first | rfl | with_reducible assumption) ?_
                      refine o_bipush (v := nI 12) hC dX8_settle_195 (by decide +kernel) ?_
                      refine o_iload_n hC dX8_settle_197 (by rfl) ?_
                      refine o_imul hC dX8_settle_198 ?_
                      try rw [nI_mul]
                      refine o_iload hC dX8_settle_199 (by rfl) ?_
                      refine o_iadd hC dX8_settle_201 ?_
                      try rw [nI_add]
                      refine o_iconst (v := nI 1) hC dX8_settle_202 (by decide +kernel) ?_
                      refine o_isub hC dX8_settle_203 ?_
                      rw [show nI (12 * a + (p + 1)) - nI 1 = nI (12 * a + p) from rl_pred _]
                      refine o_laldN (t0 := 1) hC rfl dX8_settle_204 (by repeat (first | with_reducible assumption | (rw [rl_u_s]; done) | (rw [rl_u_s]; rfl) | rw [rl_u_n (by first | with_reducible assumption | omega)])) (by omega) (by decide) ?_
                      refine o_lastN (t0 := 1) hC rfl dX8_settle_205 (by repeat (first | with_reducible assumption | (rw [rl_u_s]; done) | (rw [rl_u_s]; rfl) | rw [rl_u_n (by first | with_reducible assumption | omega)])) (by omega) (by decide) ?_
                      refine o_iinc hC dX8_settle_206 (by rfl) (rl_dec _) (Nat.le_of_ble_eq_true rfl) ?_
                      refine o_goto (tgt := 74) hC dX8_settle_209 (by decide) ?_
                      exact ihp _ (by omega) ((hq2.s16 _).s17 _) (by repeat (first | with_reducible assumption | (rw [rl_u_s]; done) | (rw [rl_u_s]; rfl) | rw [rl_u_n (by first | with_reducible assumption | omega)])) (by repeat (first | with_reducible assumption | (rw [rl_u_s]; done) | (rw [rl_u_s]; rfl) | rw [rl_u_n (by first | with_reducible assumption | omega)]))
          refine o_iload_n hC dX8_settle_71 (by rfl) ?_
          refine o_istore hC dX8_settle_72 (Nat.le_of_ble_eq_true rfl) ?_
          exact loop3 _ _ (Nat.le_refl _) hq1 e18 e19
  have loop1 : ∀ (mm i : Nat), i + mm = k → rl_G X (rl_e D ids H0) 4 [some (.ref m), some (.int (nI a)), some (.int (nI (md_cnt (fun w => gs hn hl w k 0) i))), some (.int (nI i)), none, none] [] h n 0 0 := by
    intro mm
    induction mm with
    | zero =>
      intro i hm
      have ei : i = k := by omega
      subst ei
      refine o_iload_n hC dX8_settle_4 (by rfl) ?_
      refine o_aload_n hC dX8_settle_5 (by rfl) ?_
      refine o_getf hC (fX8_82 hC rfl) dX8_settle_6 (by repeat (first | with_reducible assumption | (rw [rl_u_s]; done) | (rw [rl_u_s]; rfl) | rw [rl_u_n (by first | with_reducible assumption | omega)])) (by first | rfl | with_reducible assumption) ?_
      refine o_icmp_ge (tgt := 29) hC dX8_settle_9 (by decide) (fun c_9 => ?_) (fun c_9 => ?_)
      · refine o_iload_n hC dX8_settle_29 (by rfl) ?_
        refine o_bipush (v := nI 12) hC dX8_settle_30 (by decide +kernel) ?_
        refine o_icmp_le (tgt := 48) hC dX8_settle_32 (by decide) (fun c_32 => ?_) (fun c_32 => ?_)
        · refine o_iconst (v := nI 0) hC dX8_settle_48 (by decide +kernel) ?_
          refine o_istore_n hC dX8_settle_49 (Nat.le_of_ble_eq_true rfl) ?_
          refine o_iconst (v := nI 0) hC dX8_settle_50 (by decide +kernel) ?_
          refine o_istore hC dX8_settle_51 (Nat.le_of_ble_eq_true rfl) ?_
          exact loop2 ((nI_leI (by have := md_cnt_ub (fun w => gs hn hl w i 0) i; omega) (by decide)).mp c_32) i 0 h _ _ (by omega) hq g18 g19
        · refine o_aload_n hC dX8_settle_35 (by rfl) ?_
          refine o_iconst (v := nI 1) hC dX8_settle_36 (by decide +kernel) ?_
          refine o_putf hC (fX8_91 hC rfl) (fwX8 rfl rfl rfl (Or.inl rfl)) dX8_settle_37 (by repeat (first | with_reducible assumption | (rw [rl_u_s]; done) | (rw [rl_u_s]; rfl) | rw [rl_u_n (by first | with_reducible assumption | omega)])) (Nat.le_of_ble_eq_true rfl) ?_
          try simp only [List.set_cons_zero, List.set_cons_succ]
          refine o_aload_n hC dX8_settle_40 (by rfl) ?_
          refine o_getf hC (fX8_53 hC rfl) dX8_settle_41 (by repeat (first | with_reducible assumption | (rw [rl_u_s]; done) | (rw [rl_u_s]; rfl) | rw [rl_u_n (by first | with_reducible assumption | omega)])) (by first | rfl | with_reducible assumption) ?_
          refine o_iload_n hC dX8_settle_44 (by rfl) ?_
          refine o_iconst (v := nI 0) hC dX8_settle_45 (by decide +kernel) ?_
          refine o_iastN (t0 := 0) hC rfl dX8_settle_46 (by repeat (first | with_reducible assumption | (rw [rl_u_s]; done) | (rw [rl_u_s]; rfl) | rw [rl_u_n (by first | with_reducible assumption | omega)])) (by omega) (by decide) ?_
          refine o_vret hC hB dX8_settle_47 (Nat.le_of_ble_eq_true rfl) (Nat.le_of_ble_eq_true rfl) ?_
          exact ⟨rfl, rfl, nI 1, (hq.ob T (nI 1) i gk).s15 _ (md_bd b15 ⟨0, by decide, rfl⟩)⟩
      · exact absurd (nI_le (by omega) (by omega)) c_9
    | succ mm ih =>
      intro i hm
      refine o_iload_n hC dX8_settle_4 (by rfl) ?_
      refine o_aload_n hC dX8_settle_5 (by rfl) ?_
      refine o_getf hC (fX8_82 hC rfl) dX8_settle_6 (by repeat (first | with_reducible assumption | (rw [rl_u_s]; done) | (rw [rl_u_s]; rfl) | rw [rl_u_n (by first | with_reducible assumption | omega)])) (by first | rfl | with_reducible assumption) ?_
      refine o_icmp_ge (tgt := 29) hC dX8_settle_9 (by decide) (fun c_9 => ?_) (fun c_9 => ?_)
      · exact absurd c_9 (nI_ge (by omega) (by omega))
      · refine o_aload_n hC dX8_settle_12 (by rfl) ?_
        refine o_iload_n hC dX8_settle_13 (by rfl) ?_
        refine o_callV1 hC rl_BW_good rl_Ns_nw (by exact hB.2.2.2.2.2) YX8_goes IX8_goes VX8_goes (mX8_87 hC) (by rw [hB.1]; exact cm_X8_goes l D ids H0 _ _ m T _ _ i hn hl hq g18 g19 (by omega)) (by exact hq.1) rfl rfl (Nat.le_of_ble_eq_true rfl) (by rw [hB.2.1]; first | exact Nat.le_of_ble_eq_true rfl | (dsimp only; omega)) (by rw [hB.2.1]; first | exact Nat.le_of_ble_eq_true rfl | (dsimp only; omega)) (by rw [hB.2.1]; first | exact Nat.le_of_ble_eq_true rfl | (dsimp only; omega)) (by rw [hB.2.1]; first | exact Nat.le_of_ble_eq_true rfl | (dsimp only; omega)) dX8_settle_14 (fun v h_14 n_14 p_14 => ?_)
        obtain ⟨rfl, rfl, rfl⟩ := p_14
        try dsimp only [Option.toList, List.cons_append, List.nil_append]
        refine o_if_ne (tgt := 23) hC dX8_settle_17 (by decide) (fun c_17 => ?_) (fun c_17 => ?_)
        · refine o_iinc hC dX8_settle_23 (by rfl) (rl_inc _) (Nat.le_of_ble_eq_true rfl) ?_
          refine o_goto (tgt := 4) hC dX8_settle_26 (by decide) ?_
          have lp := ih (i + 1) (by omega)
          first
          | (rw [md_cnt_s (G := (fun w => gs hn hl w k 0)) c_17] at lp; exact lp)
          | (rw [md_cnt_n (G := (fun w => gs hn hl w k 0)) c_17] at lp; exact lp)
        · refine o_iinc hC dX8_settle_20 (by rfl) (rl_inc _) (Nat.le_of_ble_eq_true rfl) ?_
          refine o_iinc hC dX8_settle_23 (by rfl) (rl_inc _) (Nat.le_of_ble_eq_true rfl) ?_
          refine o_goto (tgt := 4) hC dX8_settle_26 (by decide) ?_
          have lp := ih (i + 1) (by omega)
          first
          | (rw [md_cnt_s (G := (fun w => gs hn hl w k 0)) c_17] at lp; exact lp)
          | (rw [md_cnt_n (G := (fun w => gs hn hl w k 0)) c_17] at lp; exact lp)
  show rl_G X (rl_e D ids H0) 0 [some (.ref m), some (.int (nI a)), none, none, none, none] [] h n 0 0
  refine o_iconst (v := nI 0) hC dX8_settle_0 (by decide +kernel) ?_
  refine o_istore_n hC dX8_settle_1 (Nat.le_of_ble_eq_true rfl) ?_
  refine o_iconst (v := nI 0) hC dX8_settle_2 (by decide +kernel) ?_
  refine o_istore_n hC dX8_settle_3 (Nat.le_of_ble_eq_true rfl) ?_
  exact loop1 k 0 (by omega)
end
section
/-! THE MODEL by shapes: either, both, turn, not -/

set_option maxHeartbeats 4000000 in
set_option maxRecDepth 100000 in
theorem cm_X8_either (l : Launch) (D : va_G) (ids : Nat → ClassId) (H0 : Heap) (h : rl_H) (n : Nat) (m : Nat) (T : md_T) (fu : Int32) (k : Nat) (c a b : Nat) (hq : mq ids h h m T fu k) (hc : c < 1368) (ha : a < 1368) (hb : b < 1368) : rl_Met l (rl_e D ids H0) rl_BW rl_Ns yX8_either cX8_either 5 none ({ frames := 2, cells := 0, slots := 0, locals := 49 }) [.ref m, .int (nI c), .int (nI a), .int (nI b)] h n (fun v h' n' => v = none ∧ n' = n ∧ ∃ (fu' : Int32) (k' : Nat), mq ids h h' m T fu' k') := by
  obtain ⟨g0, gk, ⟨⟨cl, g12⟩, ⟨tu, g13, b13⟩, ⟨im, g14⟩, ⟨te, g15, b15⟩, ⟨ne, g16⟩, ⟨la, g17⟩, ⟨hn, g18⟩, ⟨hl, g19⟩, ⟨tp, g20⟩, ⟨gr, g21, b21⟩, ⟨it, g22⟩⟩, gf⟩ := id hq
  refine rl_Met.of (by decide +kernel) (Nat.le_of_ble_eq_true rfl) ?_
  intro X hC hB
  have loop2 : ∀ (mm i j : Nat) (h1 : rl_H), i + mm = 12 → j ≤ 12 → mq ids h h1 m T fu (j + i) → rl_G X (rl_e D ids H0) 56 [some (.ref m), some (.int (nI c)), some (.int (nI a)), some (.int (nI b)), some (.int (nI i))] [] h1 n 0 0 := by
    intro mm
    induction mm with
    | zero =>
      intro i j h1 hm hj hq1
      obtain ⟨g0, gk, ⟨⟨cl, g12⟩, ⟨tu, g13, b13⟩, ⟨im, g14⟩, ⟨te, g15, b15⟩, ⟨ne, g16⟩, ⟨la, g17⟩, ⟨hn, g18⟩, ⟨hl, g19⟩, ⟨tp, g20⟩, ⟨gr, g21, b21⟩, ⟨it, g22⟩⟩, gf⟩ := id hq1
      refine o_iload hC dX8_either_56 (by rfl) ?_
      refine o_aload_n hC dX8_either_58 (by rfl) ?_
      refine o_getf hC (fX8_53 hC rfl) dX8_either_59 (by repeat (first | with_reducible assumption | (rw [rl_u_s]; done) | (rw [rl_u_s]; rfl) | rw [rl_u_n (by first | with_reducible assumption | omega)])) (by first | rfl | with_reducible assumption) ?_
      refine o_iload_n hC dX8_either_62 (by rfl) ?_
      obtain ⟨t63, ht63, et63⟩ := b15 b (by omega)
      refine o_ialdN (t0 := 0) (k := b) hC rfl dX8_either_63 (by repeat (first | with_reducible assumption | (rw [rl_u_s]; done) | (rw [rl_u_s]; rfl) | rw [rl_u_n (by first | with_reducible assumption | omega)])) (by omega) (by decide) ?_
      rw [et63]
      refine o_icmp_ge (tgt := 101) hC dX8_either_64 (by decide) (fun c_64 => ?_) (fun c_64 => ?_)
      · refine o_aload_n hC dX8_either_101 (by rfl) ?_
        refine o_iload_n hC dX8_either_102 (by rfl) ?_
        refine o_callV1 hC rl_BW_good rl_Ns_nw (by exact hB.2.2.2.2.2) YX8_settle IX8_settle VX8_settle (mX8_99 hC) (by rw [hB.1]; exact cm_X8_settle l D ids H0 _ _ m T _ _ c hq1.rf (by omega)) (by exact hq1.1) rfl rfl (Nat.le_of_ble_eq_true rfl) (by rw [hB.2.1]; first | exact Nat.le_of_ble_eq_true rfl | (dsimp only; omega)) (by rw [hB.2.1]; first | exact Nat.le_of_ble_eq_true rfl | (dsimp only; omega)) (by rw [hB.2.1]; first | exact Nat.le_of_ble_eq_true rfl | (dsimp only; omega)) (by rw [hB.2.1]; first | exact Nat.le_of_ble_eq_true rfl | (dsimp only; omega)) dX8_either_103 (fun v h_103 n_103 p_103 => ?_)
        obtain ⟨rfl, rfl, fs, q9⟩ := p_103
        try dsimp only [Option.toList, List.cons_append, List.nil_append]
        refine o_vret hC hB dX8_either_106 (Nat.le_of_ble_eq_true rfl) (Nat.le_of_ble_eq_true rfl) ?_
        exact ⟨rfl, rfl, _, _, hq1.tr q9⟩
      · exact absurd (nI_le (by omega) (by omega)) c_64
    | succ mm ih =>
      intro i j h1 hm hj hq1
      obtain ⟨g0, gk, ⟨⟨cl, g12⟩, ⟨tu, g13, b13⟩, ⟨im, g14⟩, ⟨te, g15, b15⟩, ⟨ne, g16⟩, ⟨la, g17⟩, ⟨hn, g18⟩, ⟨hl, g19⟩, ⟨tp, g20⟩, ⟨gr, g21, b21⟩, ⟨it, g22⟩⟩, gf⟩ := id hq1
      refine o_iload hC dX8_either_56 (by rfl) ?_
      refine o_aload_n hC dX8_either_58 (by rfl) ?_
      refine o_getf hC (fX8_53 hC rfl) dX8_either_59 (by repeat (first | with_reducible assumption | (rw [rl_u_s]; done) | (rw [rl_u_s]; rfl) | rw [rl_u_n (by first | with_reducible assumption | omega)])) (by first | rfl | with_reducible assumption) ?_
      refine o_iload_n hC dX8_either_62 (by rfl) ?_
      obtain ⟨t63, ht63, et63⟩ := b15 b (by omega)
      refine o_ialdN (t0 := 0) (k := b) hC rfl dX8_either_63 (by repeat (first | with_reducible assumption | (rw [rl_u_s]; done) | (rw [rl_u_s]; rfl) | rw [rl_u_n (by first | with_reducible assumption | omega)])) (by omega) (by decide) ?_
      rw [et63]
      refine o_icmp_ge (tgt := 101) hC dX8_either_64 (by decide) (fun c_64 => ?_) (fun c_64 => ?_)
      · refine o_aload_n hC dX8_either_101 (by rfl) ?_
        refine o_iload_n hC dX8_either_102 (by rfl) ?_
        refine o_callV1 hC rl_BW_good rl_Ns_nw (by exact hB.2.2.2.2.2) YX8_settle IX8_settle VX8_settle (mX8_99 hC) (by rw [hB.1]; exact cm_X8_settle l D ids H0 _ _ m T _ _ c hq1.rf (by omega)) (by exact hq1.1) rfl rfl (Nat.le_of_ble_eq_true rfl) (by rw [hB.2.1]; first | exact Nat.le_of_ble_eq_true rfl | (dsimp only; omega)) (by rw [hB.2.1]; first | exact Nat.le_of_ble_eq_true rfl | (dsimp only; omega)) (by rw [hB.2.1]; first | exact Nat.le_of_ble_eq_true rfl | (dsimp only; omega)) (by rw [hB.2.1]; first | exact Nat.le_of_ble_eq_true rfl | (dsimp only; omega)) dX8_either_103 (fun v h_103 n_103 p_103 => ?_)
        obtain ⟨rfl, rfl, fs, q9⟩ := p_103
        try dsimp only [Option.toList, List.cons_append, List.nil_append]
        refine o_vret hC hB dX8_either_106 (Nat.le_of_ble_eq_true rfl) (Nat.le_of_ble_eq_true rfl) ?_
        exact ⟨rfl, rfl, _, _, hq1.tr q9⟩
      · refine o_aload_n hC dX8_either_67 (by rfl) ?_
        refine o_aload_n hC dX8_either_68 (by rfl) ?_
        refine o_getf hC (fX8_56 hC rfl) dX8_either_69 (by repeat (first | with_reducible assumption | (rw [rl_u_s]; done) | (rw [rl_u_s]; rfl) | rw [rl_u_n (by first | with_reducible assumption | omega)])) (by first | rfl | with_reducible assumption) ?_
        refine o_bipush (v := nI 12) hC dX8_either_72 (by decide +kernel) ?_
        refine o_iload_n hC dX8_either_74 (by rfl) ?_
        refine o_imul hC dX8_either_75 ?_
        try rw [nI_mul]
        refine o_iload hC dX8_either_76 (by rfl) ?_
        refine o_iadd hC dX8_either_78 ?_
        try rw [nI_add]
        refine o_laldN (t0 := 1) hC rfl dX8_either_79 (by repeat (first | with_reducible assumption | (rw [rl_u_s]; done) | (rw [rl_u_s]; rfl) | rw [rl_u_n (by first | with_reducible assumption | omega)])) (by omega) (by decide) ?_
        refine o_aload_n hC dX8_either_80 (by rfl) ?_
        refine o_getf hC (fX8_60 hC rfl) dX8_either_81 (by repeat (first | with_reducible assumption | (rw [rl_u_s]; done) | (rw [rl_u_s]; rfl) | rw [rl_u_n (by first | with_reducible assumption | omega)])) (by first | rfl | with_reducible assumption) ?_
        refine o_bipush (v := nI 12) hC dX8_either_84 (by decide +kernel) ?_
        refine o_iload_n hC dX8_either_86 (by rfl) ?_
        refine o_imul hC dX8_either_87 ?_
        try rw [nI_mul]
        refine o_iload hC dX8_either_88 (by rfl) ?_
        refine o_iadd hC dX8_either_90 ?_
        try rw [nI_add]
        refine o_laldN (t0 := 1) hC rfl dX8_either_91 (by repeat (first | with_reducible assumption | (rw [rl_u_s]; done) | (rw [rl_u_s]; rfl) | rw [rl_u_n (by first | with_reducible assumption | omega)])) (by omega) (by decide) ?_
        refine o_callV2 hC rl_BW_good rl_Ns_nw (by exact hB.2.2.2.2.2) YX8_heapTerm IX8_heapTerm VX8_heapTerm (mX8_95 hC) (by rw [hB.1]; exact cm_X8_heapTerm l D ids H0 _ _ m T _ _ _ _ hq1.rf (by omega)) (by exact hq1.1) rfl rfl (Nat.le_of_ble_eq_true rfl) (by rw [hB.2.1]; first | exact Nat.le_of_ble_eq_true rfl | (dsimp only; omega)) (by rw [hB.2.1]; first | exact Nat.le_of_ble_eq_true rfl | (dsimp only; omega)) (by rw [hB.2.1]; first | exact Nat.le_of_ble_eq_true rfl | (dsimp only; omega)) (by rw [hB.2.1]; first | exact Nat.le_of_ble_eq_true rfl | (dsimp only; omega)) dX8_either_92 (fun v h_92 n_92 p_92 => ?_)
        obtain ⟨rfl, rfl, q1⟩ := p_92
        try dsimp only [Option.toList, List.cons_append, List.nil_append]
        refine o_iinc hC dX8_either_95 (by rfl) (rl_inc _) (Nat.le_of_ble_eq_true rfl) ?_
        refine o_goto (tgt := 56) hC dX8_either_98 (by decide) ?_
        exact ih (i + 1) j _ (by omega) hj (hq1.tr q1)
  have loop1 : ∀ (mm i : Nat) (h1 : rl_H), i + mm = 12 → mq ids h h1 m T fu i → rl_G X (rl_e D ids H0) 8 [some (.ref m), some (.int (nI c)), some (.int (nI a)), some (.int (nI b)), some (.int (nI i))] [] h1 n 0 0 := by
    intro mm
    induction mm with
    | zero =>
      intro i h1 hm hq1
      obtain ⟨g0, gk, ⟨⟨cl, g12⟩, ⟨tu, g13, b13⟩, ⟨im, g14⟩, ⟨te, g15, b15⟩, ⟨ne, g16⟩, ⟨la, g17⟩, ⟨hn, g18⟩, ⟨hl, g19⟩, ⟨tp, g20⟩, ⟨gr, g21, b21⟩, ⟨it, g22⟩⟩, gf⟩ := id hq1
      refine o_iload hC dX8_either_8 (by rfl) ?_
      refine o_aload_n hC dX8_either_10 (by rfl) ?_
      refine o_getf hC (fX8_53 hC rfl) dX8_either_11 (by repeat (first | with_reducible assumption | (rw [rl_u_s]; done) | (rw [rl_u_s]; rfl) | rw [rl_u_n (by first | with_reducible assumption | omega)])) (by first | rfl | with_reducible assumption) ?_
      refine o_iload_n hC dX8_either_14 (by rfl) ?_
      obtain ⟨t15, ht15, et15⟩ := b15 a (by omega)
      refine o_ialdN (t0 := 0) (k := a) hC rfl dX8_either_15 (by repeat (first | with_reducible assumption | (rw [rl_u_s]; done) | (rw [rl_u_s]; rfl) | rw [rl_u_n (by first | with_reducible assumption | omega)])) (by omega) (by decide) ?_
      rw [et15]
      refine o_icmp_ge (tgt := 53) hC dX8_either_16 (by decide) (fun c_16 => ?_) (fun c_16 => ?_)
      · refine o_iconst (v := nI 0) hC dX8_either_53 (by decide +kernel) ?_
        refine o_istore hC dX8_either_54 (Nat.le_of_ble_eq_true rfl) ?_
        exact loop2 12 0 i _ (by omega) (by omega) hq1
      · exact absurd (nI_le (by omega) (by omega)) c_16
    | succ mm ih =>
      intro i h1 hm hq1
      obtain ⟨g0, gk, ⟨⟨cl, g12⟩, ⟨tu, g13, b13⟩, ⟨im, g14⟩, ⟨te, g15, b15⟩, ⟨ne, g16⟩, ⟨la, g17⟩, ⟨hn, g18⟩, ⟨hl, g19⟩, ⟨tp, g20⟩, ⟨gr, g21, b21⟩, ⟨it, g22⟩⟩, gf⟩ := id hq1
      refine o_iload hC dX8_either_8 (by rfl) ?_
      refine o_aload_n hC dX8_either_10 (by rfl) ?_
      refine o_getf hC (fX8_53 hC rfl) dX8_either_11 (by repeat (first | with_reducible assumption | (rw [rl_u_s]; done) | (rw [rl_u_s]; rfl) | rw [rl_u_n (by first | with_reducible assumption | omega)])) (by first | rfl | with_reducible assumption) ?_
      refine o_iload_n hC dX8_either_14 (by rfl) ?_
      obtain ⟨t15, ht15, et15⟩ := b15 a (by omega)
      refine o_ialdN (t0 := 0) (k := a) hC rfl dX8_either_15 (by repeat (first | with_reducible assumption | (rw [rl_u_s]; done) | (rw [rl_u_s]; rfl) | rw [rl_u_n (by first | with_reducible assumption | omega)])) (by omega) (by decide) ?_
      rw [et15]
      refine o_icmp_ge (tgt := 53) hC dX8_either_16 (by decide) (fun c_16 => ?_) (fun c_16 => ?_)
      · refine o_iconst (v := nI 0) hC dX8_either_53 (by decide +kernel) ?_
        refine o_istore hC dX8_either_54 (Nat.le_of_ble_eq_true rfl) ?_
        exact loop2 12 0 i _ (by omega) (by omega) hq1
      · refine o_aload_n hC dX8_either_19 (by rfl) ?_
        refine o_aload_n hC dX8_either_20 (by rfl) ?_
        refine o_getf hC (fX8_56 hC rfl) dX8_either_21 (by repeat (first | with_reducible assumption | (rw [rl_u_s]; done) | (rw [rl_u_s]; rfl) | rw [rl_u_n (by first | with_reducible assumption | omega)])) (by first | rfl | with_reducible assumption) ?_
        refine o_bipush (v := nI 12) hC dX8_either_24 (by decide +kernel) ?_
        refine o_iload_n hC dX8_either_26 (by rfl) ?_
        refine o_imul hC dX8_either_27 ?_
        try rw [nI_mul]
        refine o_iload hC dX8_either_28 (by rfl) ?_
        refine o_iadd hC dX8_either_30 ?_
        try rw [nI_add]
        refine o_laldN (t0 := 1) hC rfl dX8_either_31 (by repeat (first | with_reducible assumption | (rw [rl_u_s]; done) | (rw [rl_u_s]; rfl) | rw [rl_u_n (by first | with_reducible assumption | omega)])) (by omega) (by decide) ?_
        refine o_aload_n hC dX8_either_32 (by rfl) ?_
        refine o_getf hC (fX8_60 hC rfl) dX8_either_33 (by repeat (first | with_reducible assumption | (rw [rl_u_s]; done) | (rw [rl_u_s]; rfl) | rw [rl_u_n (by first | with_reducible assumption | omega)])) (by first | rfl | with_reducible assumption) ?_
        refine o_bipush (v := nI 12) hC dX8_either_36 (by decide +kernel) ?_
        refine o_iload_n hC dX8_either_38 (by rfl) ?_
        refine o_imul hC dX8_either_39 ?_
        try rw [nI_mul]
        refine o_iload hC dX8_either_40 (by rfl) ?_
        refine o_iadd hC dX8_either_42 ?_
        try rw [nI_add]
        refine o_laldN (t0 := 1) hC rfl dX8_either_43 (by repeat (first | with_reducible assumption | (rw [rl_u_s]; done) | (rw [rl_u_s]; rfl) | rw [rl_u_n (by first | with_reducible assumption | omega)])) (by omega) (by decide) ?_
        refine o_callV2 hC rl_BW_good rl_Ns_nw (by exact hB.2.2.2.2.2) YX8_heapTerm IX8_heapTerm VX8_heapTerm (mX8_95 hC) (by rw [hB.1]; exact cm_X8_heapTerm l D ids H0 _ _ m T _ _ _ _ hq1.rf (by omega)) (by exact hq1.1) rfl rfl (Nat.le_of_ble_eq_true rfl) (by rw [hB.2.1]; first | exact Nat.le_of_ble_eq_true rfl | (dsimp only; omega)) (by rw [hB.2.1]; first | exact Nat.le_of_ble_eq_true rfl | (dsimp only; omega)) (by rw [hB.2.1]; first | exact Nat.le_of_ble_eq_true rfl | (dsimp only; omega)) (by rw [hB.2.1]; first | exact Nat.le_of_ble_eq_true rfl | (dsimp only; omega)) dX8_either_44 (fun v h_44 n_44 p_44 => ?_)
        obtain ⟨rfl, rfl, q1⟩ := p_44
        try dsimp only [Option.toList, List.cons_append, List.nil_append]
        refine o_iinc hC dX8_either_47 (by rfl) (rl_inc _) (Nat.le_of_ble_eq_true rfl) ?_
        refine o_goto (tgt := 8) hC dX8_either_50 (by decide) ?_
        exact ih (i + 1) _ (by omega) (hq1.tr q1)
  show rl_G X (rl_e D ids H0) 0 [some (.ref m), some (.int (nI c)), some (.int (nI a)), some (.int (nI b)), none] [] h n 0 0
  refine o_aload_n hC dX8_either_0 (by rfl) ?_
  refine o_iconst (v := nI 0) hC dX8_either_1 (by decide +kernel) ?_
  refine o_putf hC (fX8_82 hC rfl) (fwX8 rfl rfl rfl (Or.inl rfl)) dX8_either_2 (by repeat (first | with_reducible assumption | (rw [rl_u_s]; done) | (rw [rl_u_s]; rfl) | rw [rl_u_n (by first | with_reducible assumption | omega)])) (Nat.le_of_ble_eq_true rfl) ?_
  try simp only [List.set_cons_zero, List.set_cons_succ]
  refine o_iconst (v := nI 0) hC dX8_either_5 (by decide +kernel) ?_
  refine o_istore hC dX8_either_6 (Nat.le_of_ble_eq_true rfl) ?_
  exact loop1 12 0 _ (by omega) (hq.ob T fu 0 (by omega))

set_option maxHeartbeats 4000000 in
set_option maxRecDepth 100000 in
theorem cm_X8_both (l : Launch) (D : va_G) (ids : Nat → ClassId) (H0 : Heap) (h : rl_H) (n : Nat) (m : Nat) (T : md_T) (fu : Int32) (k : Nat) (c a b : Nat) (hq : mq ids h h m T fu k) (hc : c < 1368) (ha : a < 1368) (hb : b < 1368) : rl_Met l (rl_e D ids H0) rl_BW rl_Ns yX8_both cX8_both 10 none ({ frames := 2, cells := 0, slots := 0, locals := 49 }) [.ref m, .int (nI c), .int (nI a), .int (nI b)] h n (fun v h' n' => v = none ∧ n' = n ∧ ∃ (fu' : Int32) (k' : Nat), mq ids h h' m T fu' k') := by
  obtain ⟨g0, gk, ⟨⟨cl, g12⟩, ⟨tu, g13, b13⟩, ⟨im, g14⟩, ⟨te, g15, b15⟩, ⟨ne, g16⟩, ⟨la, g17⟩, ⟨hn, g18⟩, ⟨hl, g19⟩, ⟨tp, g20⟩, ⟨gr, g21, b21⟩, ⟨it, g22⟩⟩, gf⟩ := id hq
  refine rl_Met.of (by decide +kernel) (Nat.le_of_ble_eq_true rfl) ?_
  intro X hC hB
  have loop1 : ∀ (mm i k1 : Nat) (h1 : rl_H) (o5 o6 o8 : Option Value), i + mm = 12 → k1 ≤ 12 * i → mq ids h h1 m T fu k1 → rl_G X (rl_e D ids H0) 8 [some (.ref m), some (.int (nI c)), some (.int (nI a)), some (.int (nI b)), some (.int (nI i)), o5, o6, none, o8, none] [] h1 n 0 0 := by
    intro mm
    induction mm with
    | zero =>
      intro i k1 h1 o5 o6 o8 hm hk1 hq1
      obtain ⟨g0, gk, ⟨⟨cl, g12⟩, ⟨tu, g13, b13⟩, ⟨im, g14⟩, ⟨te, g15, b15⟩, ⟨ne, g16⟩, ⟨la, g17⟩, ⟨hn, g18⟩, ⟨hl, g19⟩, ⟨tp, g20⟩, ⟨gr, g21, b21⟩, ⟨it, g22⟩⟩, gf⟩ := id hq1
      refine o_iload hC dX8_both_8 (by rfl) ?_
      refine o_aload_n hC dX8_both_10 (by rfl) ?_
      refine o_getf hC (fX8_53 hC rfl) dX8_both_11 (by repeat (first | with_reducible assumption | (rw [rl_u_s]; done) | (rw [rl_u_s]; rfl) | rw [rl_u_n (by first | with_reducible assumption | omega)])) (by first | rfl | with_reducible assumption) ?_
      refine o_iload_n hC dX8_both_14 (by rfl) ?_
      obtain ⟨t15, ht15, et15⟩ := b15 a (by omega)
      refine o_ialdN (t0 := 0) (k := a) hC rfl dX8_both_15 (by repeat (first | with_reducible assumption | (rw [rl_u_s]; done) | (rw [rl_u_s]; rfl) | rw [rl_u_n (by first | with_reducible assumption | omega)])) (by omega) (by decide) ?_
      rw [et15]
      refine o_icmp_ge (tgt := 117) hC dX8_both_16 (by decide) (fun c_16 => ?_) (fun c_16 => ?_)
      · refine o_aload_n hC dX8_both_117 (by rfl) ?_
        refine o_iload_n hC dX8_both_118 (by rfl) ?_
        refine o_callV1 hC rl_BW_good rl_Ns_nw (by exact hB.2.2.2.2.2) YX8_settle IX8_settle VX8_settle (mX8_99 hC) (by rw [hB.1]; exact cm_X8_settle l D ids H0 _ _ m T _ _ c hq1.rf (by omega)) (by exact hq1.1) rfl rfl (Nat.le_of_ble_eq_true rfl) (by rw [hB.2.1]; first | exact Nat.le_of_ble_eq_true rfl | (dsimp only; omega)) (by rw [hB.2.1]; first | exact Nat.le_of_ble_eq_true rfl | (dsimp only; omega)) (by rw [hB.2.1]; first | exact Nat.le_of_ble_eq_true rfl | (dsimp only; omega)) (by rw [hB.2.1]; first | exact Nat.le_of_ble_eq_true rfl | (dsimp only; omega)) dX8_both_119 (fun v h_119 n_119 p_119 => ?_)
        obtain ⟨rfl, rfl, fs, q9⟩ := p_119
        try dsimp only [Option.toList, List.cons_append, List.nil_append]
        refine o_vret hC hB dX8_both_122 (Nat.le_of_ble_eq_true rfl) (Nat.le_of_ble_eq_true rfl) ?_
        exact ⟨rfl, rfl, _, _, hq1.tr q9⟩
      · exact absurd (nI_le (by omega) (by omega)) c_16
    | succ mm ih =>
      intro i k1 h1 o5 o6 o8 hm hk1 hq1
      have loop2 : ∀ (m2 j k2 : Nat) (h2 : rl_H) (o6 o8 : Option Value), j + m2 = 12 → k2 ≤ 12 * i + j → mq ids h h2 m T fu k2 → rl_G X (rl_e D ids H0) 22 [some (.ref m), some (.int (nI c)), some (.int (nI a)), some (.int (nI b)), some (.int (nI i)), some (.int (nI j)), o6, none, o8, none] [] h2 n 0 0 := by
        intro m2
        induction m2 with
        | zero =>
          intro j k2 h2 o6 o8 hm2 hk2 hq2
          obtain ⟨g0, gk, ⟨⟨cl, g12⟩, ⟨tu, g13, b13⟩, ⟨im, g14⟩, ⟨te, g15, b15⟩, ⟨ne, g16⟩, ⟨la, g17⟩, ⟨hn, g18⟩, ⟨hl, g19⟩, ⟨tp, g20⟩, ⟨gr, g21, b21⟩, ⟨it, g22⟩⟩, gf⟩ := id hq2
          refine o_iload hC dX8_both_22 (by rfl) ?_
          refine o_aload_n hC dX8_both_24 (by rfl) ?_
          refine o_getf hC (fX8_53 hC rfl) dX8_both_25 (by repeat (first | with_reducible assumption | (rw [rl_u_s]; done) | (rw [rl_u_s]; rfl) | rw [rl_u_n (by first | with_reducible assumption | omega)])) (by first | rfl | with_reducible assumption) ?_
          refine o_iload_n hC dX8_both_28 (by rfl) ?_
          obtain ⟨t29, ht29, et29⟩ := b15 b (by omega)
          refine o_ialdN (t0 := 0) (k := b) hC rfl dX8_both_29 (by repeat (first | with_reducible assumption | (rw [rl_u_s]; done) | (rw [rl_u_s]; rfl) | rw [rl_u_n (by first | with_reducible assumption | omega)])) (by omega) (by decide) ?_
          rw [et29]
          refine o_icmp_ge (tgt := 111) hC dX8_both_30 (by decide) (fun c_30 => ?_) (fun c_30 => ?_)
          · refine o_iinc hC dX8_both_111 (by rfl) (rl_inc _) (Nat.le_of_ble_eq_true rfl) ?_
            refine o_goto (tgt := 8) hC dX8_both_114 (by decide) ?_
            exact ih (i + 1) _ _ _ _ _ (by omega) (by omega) hq2
          · exact absurd (nI_le (by omega) (by omega)) c_30
        | succ m2 ih2 =>
          intro j k2 h2 o6 o8 hm2 hk2 hq2
          obtain ⟨g0, gk, ⟨⟨cl, g12⟩, ⟨tu, g13, b13⟩, ⟨im, g14⟩, ⟨te, g15, b15⟩, ⟨ne, g16⟩, ⟨la, g17⟩, ⟨hn, g18⟩, ⟨hl, g19⟩, ⟨tp, g20⟩, ⟨gr, g21, b21⟩, ⟨it, g22⟩⟩, gf⟩ := id hq2
          refine o_iload hC dX8_both_22 (by rfl) ?_
          refine o_aload_n hC dX8_both_24 (by rfl) ?_
          refine o_getf hC (fX8_53 hC rfl) dX8_both_25 (by repeat (first | with_reducible assumption | (rw [rl_u_s]; done) | (rw [rl_u_s]; rfl) | rw [rl_u_n (by first | with_reducible assumption | omega)])) (by first | rfl | with_reducible assumption) ?_
          refine o_iload_n hC dX8_both_28 (by rfl) ?_
          obtain ⟨t29, ht29, et29⟩ := b15 b (by omega)
          refine o_ialdN (t0 := 0) (k := b) hC rfl dX8_both_29 (by repeat (first | with_reducible assumption | (rw [rl_u_s]; done) | (rw [rl_u_s]; rfl) | rw [rl_u_n (by first | with_reducible assumption | omega)])) (by omega) (by decide) ?_
          rw [et29]
          refine o_icmp_ge (tgt := 111) hC dX8_both_30 (by decide) (fun c_30 => ?_) (fun c_30 => ?_)
          · refine o_iinc hC dX8_both_111 (by rfl) (rl_inc _) (Nat.le_of_ble_eq_true rfl) ?_
            refine o_goto (tgt := 8) hC dX8_both_114 (by decide) ?_
            exact ih (i + 1) _ _ _ _ _ (by omega) (by omega) hq2
          · refine o_aload_n hC dX8_both_33 (by rfl) ?_
            refine o_getf hC (fX8_56 hC rfl) dX8_both_34 (by repeat (first | with_reducible assumption | (rw [rl_u_s]; done) | (rw [rl_u_s]; rfl) | rw [rl_u_n (by first | with_reducible assumption | omega)])) (by first | rfl | with_reducible assumption) ?_
            refine o_bipush (v := nI 12) hC dX8_both_37 (by decide +kernel) ?_
            refine o_iload_n hC dX8_both_39 (by rfl) ?_
            refine o_imul hC dX8_both_40 ?_
            try rw [nI_mul]
            refine o_iload hC dX8_both_41 (by rfl) ?_
            refine o_iadd hC dX8_both_43 ?_
            try rw [nI_add]
            refine o_laldN (t0 := 1) hC rfl dX8_both_44 (by repeat (first | with_reducible assumption | (rw [rl_u_s]; done) | (rw [rl_u_s]; rfl) | rw [rl_u_n (by first | with_reducible assumption | omega)])) (by omega) (by decide) ?_
            refine o_aload_n hC dX8_both_45 (by rfl) ?_
            refine o_getf hC (fX8_56 hC rfl) dX8_both_46 (by repeat (first | with_reducible assumption | (rw [rl_u_s]; done) | (rw [rl_u_s]; rfl) | rw [rl_u_n (by first | with_reducible assumption | omega)])) (by first | rfl | with_reducible assumption) ?_
            refine o_bipush (v := nI 12) hC dX8_both_49 (by decide +kernel) ?_
            refine o_iload_n hC dX8_both_51 (by rfl) ?_
            refine o_imul hC dX8_both_52 ?_
            try rw [nI_mul]
            refine o_iload hC dX8_both_53 (by rfl) ?_
            refine o_iadd hC dX8_both_55 ?_
            try rw [nI_add]
            refine o_laldN (t0 := 1) hC rfl dX8_both_56 (by repeat (first | with_reducible assumption | (rw [rl_u_s]; done) | (rw [rl_u_s]; rfl) | rw [rl_u_n (by first | with_reducible assumption | omega)])) (by omega) (by decide) ?_
            refine o_lor hC dX8_both_57 ?_
            refine o_lstore hC dX8_both_58 (Nat.le_of_ble_eq_true rfl) ?_
            refine o_aload_n hC dX8_both_60 (by rfl) ?_
            refine o_getf hC (fX8_60 hC rfl) dX8_both_61 (by repeat (first | with_reducible assumption | (rw [rl_u_s]; done) | (rw [rl_u_s]; rfl) | rw [rl_u_n (by first | with_reducible assumption | omega)])) (by first | rfl | with_reducible assumption) ?_
            refine o_bipush (v := nI 12) hC dX8_both_64 (by decide +kernel) ?_
            refine o_iload_n hC dX8_both_66 (by rfl) ?_
            refine o_imul hC dX8_both_67 ?_
            try rw [nI_mul]
            refine o_iload hC dX8_both_68 (by rfl) ?_
            refine o_iadd hC dX8_both_70 ?_
            try rw [nI_add]
            refine o_laldN (t0 := 1) hC rfl dX8_both_71 (by repeat (first | with_reducible assumption | (rw [rl_u_s]; done) | (rw [rl_u_s]; rfl) | rw [rl_u_n (by first | with_reducible assumption | omega)])) (by omega) (by decide) ?_
            refine o_aload_n hC dX8_both_72 (by rfl) ?_
            refine o_getf hC (fX8_60 hC rfl) dX8_both_73 (by repeat (first | with_reducible assumption | (rw [rl_u_s]; done) | (rw [rl_u_s]; rfl) | rw [rl_u_n (by first | with_reducible assumption | omega)])) (by first | rfl | with_reducible assumption) ?_
            refine o_bipush (v := nI 12) hC dX8_both_76 (by decide +kernel) ?_
            refine o_iload_n hC dX8_both_78 (by rfl) ?_
            refine o_imul hC dX8_both_79 ?_
            try rw [nI_mul]
            refine o_iload hC dX8_both_80 (by rfl) ?_
            refine o_iadd hC dX8_both_82 ?_
            try rw [nI_add]
            refine o_laldN (t0 := 1) hC rfl dX8_both_83 (by repeat (first | with_reducible assumption | (rw [rl_u_s]; done) | (rw [rl_u_s]; rfl) | rw [rl_u_n (by first | with_reducible assumption | omega)])) (by omega) (by decide) ?_
            refine o_lor hC dX8_both_84 ?_
            refine o_lstore hC dX8_both_85 (Nat.le_of_ble_eq_true rfl) ?_
            refine o_lload hC dX8_both_87 (by rfl) ?_
            refine o_lload hC dX8_both_89 (by rfl) ?_
            refine o_land hC dX8_both_91 ?_
            refine o_lconst (v := 0) hC dX8_both_92 (by decide +kernel) ?_
            refine o_lcmp hC dX8_both_93 ?_
            refine o_if_ne (tgt := 105) hC dX8_both_94 (by decide) (fun c_94 => ?_) (fun c_94 => ?_)
            · refine o_iinc hC dX8_both_105 (by rfl) (rl_inc _) (Nat.le_of_ble_eq_true rfl) ?_
              refine o_goto (tgt := 22) hC dX8_both_108 (by decide) ?_
              first
              | exact ih2 (j + 1) _ _ _ _ (by omega) (by omega) hq2
              | exact ih2 (j + 1) _ _ _ _ (by omega) (by omega) (hq2.tr q1)
            · refine o_aload_n hC dX8_both_97 (by rfl) ?_
              refine o_lload hC dX8_both_98 (by rfl) ?_
              refine o_lload hC dX8_both_100 (by rfl) ?_
              refine o_callV2 hC rl_BW_good rl_Ns_nw (by exact hB.2.2.2.2.2) YX8_heapTerm IX8_heapTerm VX8_heapTerm (mX8_95 hC) (by rw [hB.1]; exact cm_X8_heapTerm l D ids H0 _ _ m T _ _ _ _ hq2.rf (by omega)) (by exact hq2.1) rfl rfl (Nat.le_of_ble_eq_true rfl) (by rw [hB.2.1]; first | exact Nat.le_of_ble_eq_true rfl | (dsimp only; omega)) (by rw [hB.2.1]; first | exact Nat.le_of_ble_eq_true rfl | (dsimp only; omega)) (by rw [hB.2.1]; first | exact Nat.le_of_ble_eq_true rfl | (dsimp only; omega)) (by rw [hB.2.1]; first | exact Nat.le_of_ble_eq_true rfl | (dsimp only; omega)) dX8_both_102 (fun v h_102 n_102 p_102 => ?_)
              obtain ⟨rfl, rfl, q1⟩ := p_102
              try dsimp only [Option.toList, List.cons_append, List.nil_append]
              refine o_iinc hC dX8_both_105 (by rfl) (rl_inc _) (Nat.le_of_ble_eq_true rfl) ?_
              refine o_goto (tgt := 22) hC dX8_both_108 (by decide) ?_
              first
              | exact ih2 (j + 1) _ _ _ _ (by omega) (by omega) hq2
              | exact ih2 (j + 1) _ _ _ _ (by omega) (by omega) (hq2.tr q1)
      obtain ⟨g0, gk, ⟨⟨cl, g12⟩, ⟨tu, g13, b13⟩, ⟨im, g14⟩, ⟨te, g15, b15⟩, ⟨ne, g16⟩, ⟨la, g17⟩, ⟨hn, g18⟩, ⟨hl, g19⟩, ⟨tp, g20⟩, ⟨gr, g21, b21⟩, ⟨it, g22⟩⟩, gf⟩ := id hq1
      refine o_iload hC dX8_both_8 (by rfl) ?_
      refine o_aload_n hC dX8_both_10 (by rfl) ?_
      refine o_getf hC (fX8_53 hC rfl) dX8_both_11 (by repeat (first | with_reducible assumption | (rw [rl_u_s]; done) | (rw [rl_u_s]; rfl) | rw [rl_u_n (by first | with_reducible assumption | omega)])) (by first | rfl | with_reducible assumption) ?_
      refine o_iload_n hC dX8_both_14 (by rfl) ?_
      obtain ⟨t15, ht15, et15⟩ := b15 a (by omega)
      refine o_ialdN (t0 := 0) (k := a) hC rfl dX8_both_15 (by repeat (first | with_reducible assumption | (rw [rl_u_s]; done) | (rw [rl_u_s]; rfl) | rw [rl_u_n (by first | with_reducible assumption | omega)])) (by omega) (by decide) ?_
      rw [et15]
      refine o_icmp_ge (tgt := 117) hC dX8_both_16 (by decide) (fun c_16 => ?_) (fun c_16 => ?_)
      · refine o_aload_n hC dX8_both_117 (by rfl) ?_
        refine o_iload_n hC dX8_both_118 (by rfl) ?_
        refine o_callV1 hC rl_BW_good rl_Ns_nw (by exact hB.2.2.2.2.2) YX8_settle IX8_settle VX8_settle (mX8_99 hC) (by rw [hB.1]; exact cm_X8_settle l D ids H0 _ _ m T _ _ c hq1.rf (by omega)) (by exact hq1.1) rfl rfl (Nat.le_of_ble_eq_true rfl) (by rw [hB.2.1]; first | exact Nat.le_of_ble_eq_true rfl | (dsimp only; omega)) (by rw [hB.2.1]; first | exact Nat.le_of_ble_eq_true rfl | (dsimp only; omega)) (by rw [hB.2.1]; first | exact Nat.le_of_ble_eq_true rfl | (dsimp only; omega)) (by rw [hB.2.1]; first | exact Nat.le_of_ble_eq_true rfl | (dsimp only; omega)) dX8_both_119 (fun v h_119 n_119 p_119 => ?_)
        obtain ⟨rfl, rfl, fs, q9⟩ := p_119
        try dsimp only [Option.toList, List.cons_append, List.nil_append]
        refine o_vret hC hB dX8_both_122 (Nat.le_of_ble_eq_true rfl) (Nat.le_of_ble_eq_true rfl) ?_
        exact ⟨rfl, rfl, _, _, hq1.tr q9⟩
      · refine o_iconst (v := nI 0) hC dX8_both_19 (by decide +kernel) ?_
        refine o_istore hC dX8_both_20 (Nat.le_of_ble_eq_true rfl) ?_
        exact loop2 12 0 _ _ _ _ (by omega) (by omega) hq1
  show rl_G X (rl_e D ids H0) 0 [some (.ref m), some (.int (nI c)), some (.int (nI a)), some (.int (nI b)), none, none, none, none, none, none] [] h n 0 0
  refine o_aload_n hC dX8_both_0 (by rfl) ?_
  refine o_iconst (v := nI 0) hC dX8_both_1 (by decide +kernel) ?_
  refine o_putf hC (fX8_82 hC rfl) (fwX8 rfl rfl rfl (Or.inl rfl)) dX8_both_2 (by repeat (first | with_reducible assumption | (rw [rl_u_s]; done) | (rw [rl_u_s]; rfl) | rw [rl_u_n (by first | with_reducible assumption | omega)])) (Nat.le_of_ble_eq_true rfl) ?_
  try simp only [List.set_cons_zero, List.set_cons_succ]
  refine o_iconst (v := nI 0) hC dX8_both_5 (by decide +kernel) ?_
  refine o_istore hC dX8_both_6 (Nat.le_of_ble_eq_true rfl) ?_
  exact loop1 12 0 0 _ _ _ _ (by omega) (by omega) (hq.ob T fu 0 (by omega))

set_option maxHeartbeats 4000000 in
set_option maxRecDepth 100000 in
theorem cm_X8_turn (l : Launch) (D : va_G) (ids : Nat → ClassId) (H0 : Heap) (h : rl_H) (n : Nat) (m : Nat) (T : md_T) (fu : Int32) (k : Nat) (a b : Int64) (hq : mq ids h h m T fu k)  : rl_Met l (rl_e D ids H0) rl_BW rl_Ns yX8_turn cX8_turn 7 none ({ frames := 1, cells := 0, slots := 0, locals := 24 }) [.ref m, .long a, .long b] h n (fun v h' n' => v = none ∧ n' = n ∧ ∃ (fu' : Int32) (k' : Nat), mq ids h h' m T fu' k') := by
  obtain ⟨g0, gk, ⟨⟨cl, g12⟩, ⟨tu, g13, b13⟩, ⟨im, g14⟩, ⟨te, g15, b15⟩, ⟨ne, g16⟩, ⟨la, g17⟩, ⟨hn, g18⟩, ⟨hl, g19⟩, ⟨tp, g20⟩, ⟨gr, g21, b21⟩, ⟨it, g22⟩⟩, gf⟩ := id hq
  refine rl_Met.of (by decide +kernel) (Nat.le_of_ble_eq_true rfl) ?_
  intro X hC hB
  have loop2 : ∀ (mm i lf : Nat) (h1 : rl_H), i + mm = k → lf ≤ i → mq ids h h1 m T fu k → rl_G X (rl_e D ids H0) 70 [some (.ref m), some (.long a), none, some (.long b), none, some (.int (nI lf)), some (.int (nI i))] [] h1 n 0 0 := by
    intro mm
    induction mm with
    | zero =>
      intro i lf h1 hm hl1 hq1
      obtain ⟨g0, gk, ⟨⟨cl, g12⟩, ⟨tu, g13, b13⟩, ⟨im, g14⟩, ⟨te, g15, b15⟩, ⟨ne, g16⟩, ⟨la, g17⟩, ⟨hn, g18⟩, ⟨hl, g19⟩, ⟨tp, g20⟩, ⟨gr, g21, b21⟩, ⟨it, g22⟩⟩, gf⟩ := id hq1
      refine o_iload hC dX8_turn_70 (by rfl) ?_
      refine o_aload_n hC dX8_turn_72 (by rfl) ?_
      refine o_getf hC (fX8_82 hC rfl) dX8_turn_73 (by repeat (first | with_reducible assumption | (rw [rl_u_s]; done) | (rw [rl_u_s]; rfl) | rw [rl_u_n (by first | with_reducible assumption | omega)])) (by first | rfl | with_reducible assumption) ?_
      refine o_icmp_ge (tgt := 152) hC dX8_turn_76 (by decide) (fun c_76 => ?_) (fun c_76 => ?_)
      · refine o_aload_n hC dX8_turn_152 (by rfl) ?_
        refine o_iload hC dX8_turn_153 (by rfl) ?_
        refine o_putf hC (fX8_82 hC rfl) (fwX8 rfl rfl rfl (Or.inl rfl)) dX8_turn_155 (by repeat (first | with_reducible assumption | (rw [rl_u_s]; done) | (rw [rl_u_s]; rfl) | rw [rl_u_n (by first | with_reducible assumption | omega)])) (Nat.le_of_ble_eq_true rfl) ?_
        try simp only [List.set_cons_zero, List.set_cons_succ]
        refine o_aload_n hC dX8_turn_158 (by rfl) ?_
        refine o_getf hC (fX8_82 hC rfl) dX8_turn_159 (by repeat (first | with_reducible assumption | (rw [rl_u_s]; done) | (rw [rl_u_s]; rfl) | rw [rl_u_n (by first | with_reducible assumption | omega)])) (by first | rfl | with_reducible assumption) ?_
        refine o_sipush (v := nI 160) hC dX8_turn_162 (by decide +kernel) ?_
        refine o_icmp_ne (tgt := 178) hC dX8_turn_165 (by decide) (fun c_165 => ?_) (fun c_165 => ?_)
        · have l160 : lf ≠ 160 := fun e => c_165 (by rw [e])
          have hq3 := hq1.ob T fu lf (by omega)
          refine o_aload_n hC dX8_turn_178 (by rfl) ?_
          refine o_lload_n hC dX8_turn_179 (by rfl) ?_
          refine o_lload_n hC dX8_turn_180 (by rfl) ?_
          refine o_callV2 hC rl_BW_good rl_Ns_nw (by exact hB.2.2.2.2.2) YX8_heapTerm IX8_heapTerm VX8_heapTerm (mX8_95 hC) (by rw [hB.1]; exact cm_X8_heapTerm l D ids H0 _ _ m T _ _ _ _ hq3.rf (by omega)) (by exact hq3.1) rfl rfl (Nat.le_of_ble_eq_true rfl) (by rw [hB.2.1]; first | exact Nat.le_of_ble_eq_true rfl | (dsimp only; omega)) (by rw [hB.2.1]; first | exact Nat.le_of_ble_eq_true rfl | (dsimp only; omega)) (by rw [hB.2.1]; first | exact Nat.le_of_ble_eq_true rfl | (dsimp only; omega)) (by rw [hB.2.1]; first | exact Nat.le_of_ble_eq_true rfl | (dsimp only; omega)) dX8_turn_181 (fun v h_181 n_181 p_181 => ?_)
          obtain ⟨rfl, rfl, q1⟩ := p_181
          try dsimp only [Option.toList, List.cons_append, List.nil_append]
          refine o_vret hC hB dX8_turn_184 (Nat.le_of_ble_eq_true rfl) (Nat.le_of_ble_eq_true rfl) ?_
          exact ⟨rfl, rfl, _, _, hq3.tr q1⟩
        · have hq2 := hq1.ob T fu lf (by omega)
          refine o_aload_n hC dX8_turn_168 (by rfl) ?_
          refine o_iconst (v := nI 1) hC dX8_turn_169 (by decide +kernel) ?_
          refine o_putf hC (fX8_91 hC rfl) (fwX8 rfl rfl rfl (Or.inl rfl)) dX8_turn_170 (by repeat (first | with_reducible assumption | (rw [rl_u_s]; done) | (rw [rl_u_s]; rfl) | rw [rl_u_n (by first | with_reducible assumption | omega)])) (Nat.le_of_ble_eq_true rfl) ?_
          try simp only [List.set_cons_zero, List.set_cons_succ]
          refine o_aload_n hC dX8_turn_173 (by rfl) ?_
          refine o_iconst (v := nI 0) hC dX8_turn_174 (by decide +kernel) ?_
          refine o_putf hC (fX8_82 hC rfl) (fwX8 rfl rfl rfl (Or.inl rfl)) dX8_turn_175 (by repeat (first | with_reducible assumption | (rw [rl_u_s]; done) | (rw [rl_u_s]; rfl) | rw [rl_u_n (by first | with_reducible assumption | omega)])) (Nat.le_of_ble_eq_true rfl) ?_
          try simp only [List.set_cons_zero, List.set_cons_succ]
          have hq3 := (hq2.ob T (nI 1) lf (by omega)).ob T (nI 1) 0 (by omega)
          refine o_aload_n hC dX8_turn_178 (by rfl) ?_
          refine o_lload_n hC dX8_turn_179 (by rfl) ?_
          refine o_lload_n hC dX8_turn_180 (by rfl) ?_
          refine o_callV2 hC rl_BW_good rl_Ns_nw (by exact hB.2.2.2.2.2) YX8_heapTerm IX8_heapTerm VX8_heapTerm (mX8_95 hC) (by rw [hB.1]; exact cm_X8_heapTerm l D ids H0 _ _ m T _ _ _ _ hq3.rf (by omega)) (by exact hq3.1) rfl rfl (Nat.le_of_ble_eq_true rfl) (by rw [hB.2.1]; first | exact Nat.le_of_ble_eq_true rfl | (dsimp only; omega)) (by rw [hB.2.1]; first | exact Nat.le_of_ble_eq_true rfl | (dsimp only; omega)) (by rw [hB.2.1]; first | exact Nat.le_of_ble_eq_true rfl | (dsimp only; omega)) (by rw [hB.2.1]; first | exact Nat.le_of_ble_eq_true rfl | (dsimp only; omega)) dX8_turn_181 (fun v h_181 n_181 p_181 => ?_)
          obtain ⟨rfl, rfl, q1⟩ := p_181
          try dsimp only [Option.toList, List.cons_append, List.nil_append]
          refine o_vret hC hB dX8_turn_184 (Nat.le_of_ble_eq_true rfl) (Nat.le_of_ble_eq_true rfl) ?_
          exact ⟨rfl, rfl, _, _, hq3.tr q1⟩
      · exact absurd (nI_le (by omega) (by omega)) c_76
    | succ mm ih =>
      intro i lf h1 hm hl1 hq1
      obtain ⟨g0, gk, ⟨⟨cl, g12⟩, ⟨tu, g13, b13⟩, ⟨im, g14⟩, ⟨te, g15, b15⟩, ⟨ne, g16⟩, ⟨la, g17⟩, ⟨hn, g18⟩, ⟨hl, g19⟩, ⟨tp, g20⟩, ⟨gr, g21, b21⟩, ⟨it, g22⟩⟩, gf⟩ := id hq1
      refine o_iload hC dX8_turn_70 (by rfl) ?_
      refine o_aload_n hC dX8_turn_72 (by rfl) ?_
      refine o_getf hC (fX8_82 hC rfl) dX8_turn_73 (by repeat (first | with_reducible assumption | (rw [rl_u_s]; done) | (rw [rl_u_s]; rfl) | rw [rl_u_n (by first | with_reducible assumption | omega)])) (by first | rfl | with_reducible assumption) ?_
      refine o_icmp_ge (tgt := 152) hC dX8_turn_76 (by decide) (fun c_76 => ?_) (fun c_76 => ?_)
      · exact absurd c_76 (nI_ge (by omega) (by omega))
      · refine o_lload_n hC dX8_turn_79 (by rfl) ?_
        refine o_aload_n hC dX8_turn_80 (by rfl) ?_
        refine o_getf hC (fX8_63 hC rfl) dX8_turn_81 (by repeat (first | with_reducible assumption | (rw [rl_u_s]; done) | (rw [rl_u_s]; rfl) | rw [rl_u_n (by first | with_reducible assumption | omega)])) (by first | rfl | with_reducible assumption) ?_
        refine o_iload hC dX8_turn_84 (by rfl) ?_
        refine o_laldN (t0 := 1) hC rfl dX8_turn_86 (by repeat (first | with_reducible assumption | (rw [rl_u_s]; done) | (rw [rl_u_s]; rfl) | rw [rl_u_n (by first | with_reducible assumption | omega)])) (by omega) (by decide) ?_
        refine o_ldc2 hC nX8_85 dX8_turn_87 ?_
        refine o_lxor hC dX8_turn_90 ?_
        refine o_land hC dX8_turn_91 ?_
        refine o_lconst (v := 0) hC dX8_turn_92 (by decide +kernel) ?_
        refine o_lcmp hC dX8_turn_93 ?_
        refine o_if_ne (tgt := 115) hC dX8_turn_94 (by decide) (fun c_94 => ?_) (fun c_94 => ?_)
        · refine o_aload_n hC dX8_turn_115 (by rfl) ?_
          refine o_getf hC (fX8_63 hC rfl) dX8_turn_116 (by repeat (first | with_reducible assumption | (rw [rl_u_s]; done) | (rw [rl_u_s]; rfl) | rw [rl_u_n (by first | with_reducible assumption | omega)])) (by first | rfl | with_reducible assumption) ?_
          refine o_iload hC dX8_turn_119 (by rfl) ?_
          refine o_aload_n hC dX8_turn_121 (by rfl) ?_
          refine o_getf hC (fX8_63 hC rfl) dX8_turn_122 (by repeat (first | with_reducible assumption | (rw [rl_u_s]; done) | (rw [rl_u_s]; rfl) | rw [rl_u_n (by first | with_reducible assumption | omega)])) (by first | rfl | with_reducible assumption) ?_
          refine o_iload hC dX8_turn_125 (by rfl) ?_
          refine o_laldN (t0 := 1) hC rfl dX8_turn_127 (by repeat (first | with_reducible assumption | (rw [rl_u_s]; done) | (rw [rl_u_s]; rfl) | rw [rl_u_n (by first | with_reducible assumption | omega)])) (by omega) (by decide) ?_
          refine o_lastN (t0 := 1) hC rfl dX8_turn_128 (by repeat (first | with_reducible assumption | (rw [rl_u_s]; done) | (rw [rl_u_s]; rfl) | rw [rl_u_n (by first | with_reducible assumption | omega)])) (by omega) (by decide) ?_
          refine o_aload_n hC dX8_turn_129 (by rfl) ?_
          refine o_getf hC (fX8_66 hC rfl) dX8_turn_130 (by repeat (first | with_reducible assumption | (rw [rl_u_s]; done) | (rw [rl_u_s]; rfl) | rw [rl_u_n (by first | with_reducible assumption | omega)])) (by first | rfl | with_reducible assumption) ?_
          refine o_iload hC dX8_turn_133 (by rfl) ?_
          refine o_aload_n hC dX8_turn_135 (by rfl) ?_
          refine o_getf hC (fX8_66 hC rfl) dX8_turn_136 (by repeat (first | with_reducible assumption | (rw [rl_u_s]; done) | (rw [rl_u_s]; rfl) | rw [rl_u_n (by first | with_reducible assumption | omega)])) (by first | rfl | with_reducible assumption) ?_
          refine o_iload hC dX8_turn_139 (by rfl) ?_
          refine o_laldN (t0 := 1) hC rfl dX8_turn_141 (by repeat (first | with_reducible assumption | (rw [rl_u_s]; done) | (rw [rl_u_s]; rfl) | rw [rl_u_n (by first | with_reducible assumption | omega)])) (by omega) (by decide) ?_
          refine o_lastN (t0 := 1) hC rfl dX8_turn_142 (by repeat (first | with_reducible assumption | (rw [rl_u_s]; done) | (rw [rl_u_s]; rfl) | rw [rl_u_n (by first | with_reducible assumption | omega)])) (by omega) (by decide) ?_
          refine o_iinc hC dX8_turn_143 (by rfl) (rl_inc _) (Nat.le_of_ble_eq_true rfl) ?_
          refine o_iinc hC dX8_turn_146 (by rfl) (rl_inc _) (Nat.le_of_ble_eq_true rfl) ?_
          refine o_goto (tgt := 70) hC dX8_turn_149 (by decide) ?_
          first
          | exact ih (i + 1) (lf + 1) _ (by omega) (by omega) ((hq1.s18 _).s19 _)
          | exact ih (i + 1) lf _ (by omega) (by omega) hq1
        · refine o_lload_n hC dX8_turn_97 (by rfl) ?_
          refine o_aload_n hC dX8_turn_98 (by rfl) ?_
          refine o_getf hC (fX8_66 hC rfl) dX8_turn_99 (by repeat (first | with_reducible assumption | (rw [rl_u_s]; done) | (rw [rl_u_s]; rfl) | rw [rl_u_n (by first | with_reducible assumption | omega)])) (by first | rfl | with_reducible assumption) ?_
          refine o_iload hC dX8_turn_102 (by rfl) ?_
          refine o_laldN (t0 := 1) hC rfl dX8_turn_104 (by repeat (first | with_reducible assumption | (rw [rl_u_s]; done) | (rw [rl_u_s]; rfl) | rw [rl_u_n (by first | with_reducible assumption | omega)])) (by omega) (by decide) ?_
          refine o_ldc2 hC nX8_85 dX8_turn_105 ?_
          refine o_lxor hC dX8_turn_108 ?_
          refine o_land hC dX8_turn_109 ?_
          refine o_lconst (v := 0) hC dX8_turn_110 (by decide +kernel) ?_
          refine o_lcmp hC dX8_turn_111 ?_
          refine o_if_eq (tgt := 146) hC dX8_turn_112 (by decide) (fun c_112 => ?_) (fun c_112 => ?_)
          · refine o_iinc hC dX8_turn_146 (by rfl) (rl_inc _) (Nat.le_of_ble_eq_true rfl) ?_
            refine o_goto (tgt := 70) hC dX8_turn_149 (by decide) ?_
            first
            | exact ih (i + 1) (lf + 1) _ (by omega) (by omega) ((hq1.s18 _).s19 _)
            | exact ih (i + 1) lf _ (by omega) (by omega) hq1
          · refine o_aload_n hC dX8_turn_115 (by rfl) ?_
            refine o_getf hC (fX8_63 hC rfl) dX8_turn_116 (by repeat (first | with_reducible assumption | (rw [rl_u_s]; done) | (rw [rl_u_s]; rfl) | rw [rl_u_n (by first | with_reducible assumption | omega)])) (by first | rfl | with_reducible assumption) ?_
            refine o_iload hC dX8_turn_119 (by rfl) ?_
            refine o_aload_n hC dX8_turn_121 (by rfl) ?_
            refine o_getf hC (fX8_63 hC rfl) dX8_turn_122 (by repeat (first | with_reducible assumption | (rw [rl_u_s]; done) | (rw [rl_u_s]; rfl) | rw [rl_u_n (by first | with_reducible assumption | omega)])) (by first | rfl | with_reducible assumption) ?_
            refine o_iload hC dX8_turn_125 (by rfl) ?_
            refine o_laldN (t0 := 1) hC rfl dX8_turn_127 (by repeat (first | with_reducible assumption | (rw [rl_u_s]; done) | (rw [rl_u_s]; rfl) | rw [rl_u_n (by first | with_reducible assumption | omega)])) (by omega) (by decide) ?_
            refine o_lastN (t0 := 1) hC rfl dX8_turn_128 (by repeat (first | with_reducible assumption | (rw [rl_u_s]; done) | (rw [rl_u_s]; rfl) | rw [rl_u_n (by first | with_reducible assumption | omega)])) (by omega) (by decide) ?_
            refine o_aload_n hC dX8_turn_129 (by rfl) ?_
            refine o_getf hC (fX8_66 hC rfl) dX8_turn_130 (by repeat (first | with_reducible assumption | (rw [rl_u_s]; done) | (rw [rl_u_s]; rfl) | rw [rl_u_n (by first | with_reducible assumption | omega)])) (by first | rfl | with_reducible assumption) ?_
            refine o_iload hC dX8_turn_133 (by rfl) ?_
            refine o_aload_n hC dX8_turn_135 (by rfl) ?_
            refine o_getf hC (fX8_66 hC rfl) dX8_turn_136 (by repeat (first | with_reducible assumption | (rw [rl_u_s]; done) | (rw [rl_u_s]; rfl) | rw [rl_u_n (by first | with_reducible assumption | omega)])) (by first | rfl | with_reducible assumption) ?_
            refine o_iload hC dX8_turn_139 (by rfl) ?_
            refine o_laldN (t0 := 1) hC rfl dX8_turn_141 (by repeat (first | with_reducible assumption | (rw [rl_u_s]; done) | (rw [rl_u_s]; rfl) | rw [rl_u_n (by first | with_reducible assumption | omega)])) (by omega) (by decide) ?_
            refine o_lastN (t0 := 1) hC rfl dX8_turn_142 (by repeat (first | with_reducible assumption | (rw [rl_u_s]; done) | (rw [rl_u_s]; rfl) | rw [rl_u_n (by first | with_reducible assumption | omega)])) (by omega) (by decide) ?_
            refine o_iinc hC dX8_turn_143 (by rfl) (rl_inc _) (Nat.le_of_ble_eq_true rfl) ?_
            refine o_iinc hC dX8_turn_146 (by rfl) (rl_inc _) (Nat.le_of_ble_eq_true rfl) ?_
            refine o_goto (tgt := 70) hC dX8_turn_149 (by decide) ?_
            first
            | exact ih (i + 1) (lf + 1) _ (by omega) (by omega) ((hq1.s18 _).s19 _)
            | exact ih (i + 1) lf _ (by omega) (by omega) hq1
  have loop1 : ∀ (mm i : Nat), i + mm = k → rl_G X (rl_e D ids H0) 12 [some (.ref m), some (.long a), none, some (.long b), none, some (.int (nI i)), none] [] h n 0 0 := by
    intro mm
    induction mm with
    | zero =>
      intro i hm
      refine o_iload hC dX8_turn_12 (by rfl) ?_
      refine o_aload_n hC dX8_turn_14 (by rfl) ?_
      refine o_getf hC (fX8_82 hC rfl) dX8_turn_15 (by repeat (first | with_reducible assumption | (rw [rl_u_s]; done) | (rw [rl_u_s]; rfl) | rw [rl_u_n (by first | with_reducible assumption | omega)])) (by first | rfl | with_reducible assumption) ?_
      refine o_icmp_ge (tgt := 64) hC dX8_turn_18 (by decide) (fun c_18 => ?_) (fun c_18 => ?_)
      · refine o_iconst (v := nI 0) hC dX8_turn_64 (by decide +kernel) ?_
        refine o_istore hC dX8_turn_65 (Nat.le_of_ble_eq_true rfl) ?_
        refine o_iconst (v := nI 0) hC dX8_turn_67 (by decide +kernel) ?_
        refine o_istore hC dX8_turn_68 (Nat.le_of_ble_eq_true rfl) ?_
        exact loop2 k 0 0 _ (by omega) (by omega) hq
      · exact absurd (nI_le (by omega) (by omega)) c_18
    | succ mm ih =>
      intro i hm
      refine o_iload hC dX8_turn_12 (by rfl) ?_
      refine o_aload_n hC dX8_turn_14 (by rfl) ?_
      refine o_getf hC (fX8_82 hC rfl) dX8_turn_15 (by repeat (first | with_reducible assumption | (rw [rl_u_s]; done) | (rw [rl_u_s]; rfl) | rw [rl_u_n (by first | with_reducible assumption | omega)])) (by first | rfl | with_reducible assumption) ?_
      refine o_icmp_ge (tgt := 64) hC dX8_turn_18 (by decide) (fun c_18 => ?_) (fun c_18 => ?_)
      · exact absurd c_18 (nI_ge (by omega) (by omega))
      · refine o_aload_n hC dX8_turn_21 (by rfl) ?_
        refine o_getf hC (fX8_63 hC rfl) dX8_turn_22 (by repeat (first | with_reducible assumption | (rw [rl_u_s]; done) | (rw [rl_u_s]; rfl) | rw [rl_u_n (by first | with_reducible assumption | omega)])) (by first | rfl | with_reducible assumption) ?_
        refine o_iload hC dX8_turn_25 (by rfl) ?_
        refine o_laldN (t0 := 1) hC rfl dX8_turn_27 (by repeat (first | with_reducible assumption | (rw [rl_u_s]; done) | (rw [rl_u_s]; rfl) | rw [rl_u_n (by first | with_reducible assumption | omega)])) (by omega) (by decide) ?_
        refine o_lload_n hC dX8_turn_28 (by rfl) ?_
        refine o_ldc2 hC nX8_85 dX8_turn_29 ?_
        refine o_lxor hC dX8_turn_32 ?_
        refine o_land hC dX8_turn_33 ?_
        refine o_lconst (v := 0) hC dX8_turn_34 (by decide +kernel) ?_
        refine o_lcmp hC dX8_turn_35 ?_
        refine o_if_ne (tgt := 58) hC dX8_turn_36 (by decide) (fun c_36 => ?_) (fun c_36 => ?_)
        · refine o_iinc hC dX8_turn_58 (by rfl) (rl_inc _) (Nat.le_of_ble_eq_true rfl) ?_
          refine o_goto (tgt := 12) hC dX8_turn_61 (by decide) ?_
          exact ih (i + 1) (by omega)
        · refine o_aload_n hC dX8_turn_39 (by rfl) ?_
          refine o_getf hC (fX8_66 hC rfl) dX8_turn_40 (by repeat (first | with_reducible assumption | (rw [rl_u_s]; done) | (rw [rl_u_s]; rfl) | rw [rl_u_n (by first | with_reducible assumption | omega)])) (by first | rfl | with_reducible assumption) ?_
          refine o_iload hC dX8_turn_43 (by rfl) ?_
          refine o_laldN (t0 := 1) hC rfl dX8_turn_45 (by repeat (first | with_reducible assumption | (rw [rl_u_s]; done) | (rw [rl_u_s]; rfl) | rw [rl_u_n (by first | with_reducible assumption | omega)])) (by omega) (by decide) ?_
          refine o_lload_n hC dX8_turn_46 (by rfl) ?_
          refine o_ldc2 hC nX8_85 dX8_turn_47 ?_
          refine o_lxor hC dX8_turn_50 ?_
          refine o_land hC dX8_turn_51 ?_
          refine o_lconst (v := 0) hC dX8_turn_52 (by decide +kernel) ?_
          refine o_lcmp hC dX8_turn_53 ?_
          refine o_if_ne (tgt := 58) hC dX8_turn_54 (by decide) (fun c_54 => ?_) (fun c_54 => ?_)
          · refine o_iinc hC dX8_turn_58 (by rfl) (rl_inc _) (Nat.le_of_ble_eq_true rfl) ?_
            refine o_goto (tgt := 12) hC dX8_turn_61 (by decide) ?_
            exact ih (i + 1) (by omega)
          · refine o_vret hC hB dX8_turn_57 (Nat.le_of_ble_eq_true rfl) (Nat.le_of_ble_eq_true rfl) ?_
            exact ⟨rfl, rfl, _, _, hq⟩
  show rl_G X (rl_e D ids H0) 0 [some (.ref m), some (.long a), none, some (.long b), none, none, none] [] h n 0 0
  refine o_lload_n hC dX8_turn_0 (by rfl) ?_
  refine o_lload_n hC dX8_turn_1 (by rfl) ?_
  refine o_land hC dX8_turn_2 ?_
  refine o_lconst (v := 0) hC dX8_turn_3 (by decide +kernel) ?_
  refine o_lcmp hC dX8_turn_4 ?_
  refine o_if_eq (tgt := 9) hC dX8_turn_5 (by decide) (fun c_5 => ?_) (fun c_5 => ?_)
  · refine o_iconst (v := nI 0) hC dX8_turn_9 (by decide +kernel) ?_
    refine o_istore hC dX8_turn_10 (Nat.le_of_ble_eq_true rfl) ?_
    exact loop1 k 0 (by omega)
  · refine o_vret hC hB dX8_turn_8 (Nat.le_of_ble_eq_true rfl) (Nat.le_of_ble_eq_true rfl) ?_
    exact ⟨rfl, rfl, _, _, hq⟩

set_option maxHeartbeats 4000000 in
set_option maxRecDepth 100000 in
theorem cm_X8_not (l : Launch) (D : va_G) (ids : Nat → ClassId) (H0 : Heap) (h : rl_H) (n : Nat) (m : Nat) (T : md_T) (fu : Int32) (k : Nat) (c a : Nat) (hq : mq ids h h m T fu k) (hc : c < 1368) (ha : a < 1368) : rl_Met l (rl_e D ids H0) rl_BW rl_Ns yX8_not cX8_not 12 none ({ frames := 2, cells := 0, slots := 0, locals := 50 }) [.ref m, .int (nI c), .int (nI a)] h n (fun v h' n' => v = none ∧ n' = n ∧ ∃ (fu' : Int32) (k' : Nat), mq ids h h' m T fu' k') := by
  obtain ⟨g0, gk, ⟨⟨cl, g12⟩, ⟨tu, g13, b13⟩, ⟨im, g14⟩, ⟨te, g15, b15⟩, ⟨ne, g16⟩, ⟨la, g17⟩, ⟨hn, g18⟩, ⟨hl, g19⟩, ⟨tp, g20⟩, ⟨gr, g21, b21⟩, ⟨it, g22⟩⟩, gf⟩ := id hq
  refine rl_Met.of (by decide +kernel) (Nat.le_of_ble_eq_true rfl) ?_
  intro X hC hB
  have loop1 : ∀ (mm i : Nat) (h1 : rl_H) (f1 : Int32) (k1 : Nat) (o4 o6 o8 o9 o10 : Option Value), i + mm = 12 → mq ids h h1 m T f1 k1 → rl_G X (rl_e D ids H0) 7 [some (.ref m), some (.int (nI c)), some (.int (nI a)), some (.int (nI i)), o4, none, o6, none, o8, o9, o10, none] [] h1 n 0 0 := by
    intro mm
    induction mm with
    | zero =>
      intro i h1 f1 k1 o4 o6 o8 o9 o10 hm hq1
      obtain ⟨g0, gk, ⟨⟨cl, g12⟩, ⟨tu, g13, b13⟩, ⟨im, g14⟩, ⟨te, g15, b15⟩, ⟨ne, g16⟩, ⟨la, g17⟩, ⟨hn, g18⟩, ⟨hl, g19⟩, ⟨tp, g20⟩, ⟨gr, g21, b21⟩, ⟨it, g22⟩⟩, gf⟩ := id hq1
      refine o_iload_n hC dX8_not_7 (by rfl) ?_
      refine o_aload_n hC dX8_not_8 (by rfl) ?_
      refine o_getf hC (fX8_53 hC rfl) dX8_not_9 (by repeat (first | with_reducible assumption | (rw [rl_u_s]; done) | (rw [rl_u_s]; rfl) | rw [rl_u_n (by first | with_reducible assumption | omega)])) (by first | rfl | with_reducible assumption) ?_
      refine o_iload_n hC dX8_not_12 (by rfl) ?_
      obtain ⟨t13, ht13, et13⟩ := b15 a (by omega)
      refine o_ialdN (t0 := 0) (k := a) hC rfl dX8_not_13 (by repeat (first | with_reducible assumption | (rw [rl_u_s]; done) | (rw [rl_u_s]; rfl) | rw [rl_u_n (by first | with_reducible assumption | omega)])) (by omega) (by decide) ?_
      rw [et13]
      refine o_icmp_ge (tgt := 193) hC dX8_not_14 (by decide) (fun c_14 => ?_) (fun c_14 => ?_)
      · refine o_vret hC hB dX8_not_193 (Nat.le_of_ble_eq_true rfl) (Nat.le_of_ble_eq_true rfl) ?_
        exact ⟨rfl, rfl, _, _, hq1⟩
      · exact absurd (nI_le (by omega) (by omega)) c_14
    | succ mm ih =>
      intro i h1 f1 k1 o4 o6 o8 o9 o10 hm hq1
      have loop2 : ∀ (m2 j : Nat) (h2 : rl_H) (f2 : Int32) (k2 : Nat) (x4 x6 : Int64) (o9 o10 : Option Value), j + m2 = 12 → mq ids h h2 m T f2 k2 → rl_G X (rl_e D ids H0) 58 [some (.ref m), some (.int (nI c)), some (.int (nI a)), some (.int (nI i)), some (.long x4), none, some (.long x6), none, some (.int (nI j)), o9, o10, none] [] h2 n 0 0 := by
        intro m2
        induction m2 with
        | zero =>
          intro j h2 f2 k2 x4 x6 o9 o10 hm2 hq2
          obtain ⟨g0, gk, ⟨⟨cl, g12⟩, ⟨tu, g13, b13⟩, ⟨im, g14⟩, ⟨te, g15, b15⟩, ⟨ne, g16⟩, ⟨la, g17⟩, ⟨hn, g18⟩, ⟨hl, g19⟩, ⟨tp, g20⟩, ⟨gr, g21, b21⟩, ⟨it, g22⟩⟩, gf⟩ := id hq2
          refine o_iload hC dX8_not_58 (by rfl) ?_
          refine o_aload_n hC dX8_not_60 (by rfl) ?_
          refine o_getf hC (fX8_53 hC rfl) dX8_not_61 (by repeat (first | with_reducible assumption | (rw [rl_u_s]; done) | (rw [rl_u_s]; rfl) | rw [rl_u_n (by first | with_reducible assumption | omega)])) (by first | rfl | with_reducible assumption) ?_
          refine o_iload_n hC dX8_not_64 (by rfl) ?_
          obtain ⟨t65, ht65, et65⟩ := b15 c (by omega)
          refine o_ialdN (t0 := 0) (k := c) hC rfl dX8_not_65 (by repeat (first | with_reducible assumption | (rw [rl_u_s]; done) | (rw [rl_u_s]; rfl) | rw [rl_u_n (by first | with_reducible assumption | omega)])) (by omega) (by decide) ?_
          rw [et65]
          refine o_icmp_ge (tgt := 182) hC dX8_not_66 (by decide) (fun c_66 => ?_) (fun c_66 => ?_)
          · refine o_aload_n hC dX8_not_182 (by rfl) ?_
            refine o_iload_n hC dX8_not_183 (by rfl) ?_
            refine o_callV1 hC rl_BW_good rl_Ns_nw (by exact hB.2.2.2.2.2) YX8_settle IX8_settle VX8_settle (mX8_99 hC) (by rw [hB.1]; exact cm_X8_settle l D ids H0 _ _ m T _ _ c hq2.rf (by omega)) (by exact hq2.1) rfl rfl (Nat.le_of_ble_eq_true rfl) (by rw [hB.2.1]; first | exact Nat.le_of_ble_eq_true rfl | (dsimp only; omega)) (by rw [hB.2.1]; first | exact Nat.le_of_ble_eq_true rfl | (dsimp only; omega)) (by rw [hB.2.1]; first | exact Nat.le_of_ble_eq_true rfl | (dsimp only; omega)) (by rw [hB.2.1]; first | exact Nat.le_of_ble_eq_true rfl | (dsimp only; omega)) dX8_not_184 (fun v h_184 n_184 p_184 => ?_)
            obtain ⟨rfl, rfl, fs, q9⟩ := p_184
            try dsimp only [Option.toList, List.cons_append, List.nil_append]
            refine o_iinc hC dX8_not_187 (by rfl) (rl_inc _) (Nat.le_of_ble_eq_true rfl) ?_
            refine o_goto (tgt := 7) hC dX8_not_190 (by decide) ?_
            exact ih (i + 1) _ _ _ _ _ _ _ _ (by omega) (hq2.tr q9)
          · exact absurd (nI_le (by omega) (by omega)) c_66
        | succ m2 ih2 =>
          intro j h2 f2 k2 x4 x6 o9 o10 hm2 hq2
          have loop3 : ∀ (m3 r : Nat) (h3 : rl_H) (f3 : Int32) (k3 : Nat) (o10 : Option Value), r + m3 = 36 → mq ids h h3 m T f3 k3 → rl_G X (rl_e D ids H0) 72 [some (.ref m), some (.int (nI c)), some (.int (nI a)), some (.int (nI i)), some (.long x4), none, some (.long x6), none, some (.int (nI j)), some (.int (nI r)), o10, none] [] h3 n 0 0 := by
            intro m3
            induction m3 with
            | zero =>
              intro r h3 f3 k3 o10 hm3 hq3
              refine o_iload hC dX8_not_72 (by rfl) ?_
              refine o_bipush (v := nI 36) hC dX8_not_74 (by decide +kernel) ?_
              refine o_icmp_ge (tgt := 176) hC dX8_not_76 (by decide) (fun c_76 => ?_) (fun c_76 => ?_)
              · refine o_iinc hC dX8_not_176 (by rfl) (rl_inc _) (Nat.le_of_ble_eq_true rfl) ?_
                refine o_goto (tgt := 58) hC dX8_not_179 (by decide) ?_
                exact ih2 (j + 1) _ _ _ _ _ _ _ (by omega) hq3
              · exact absurd (nI_le (by omega) (by omega)) c_76
            | succ m3 ih3 =>
              intro r h3 f3 k3 o10 hm3 hq3
              obtain ⟨g0, gk, ⟨⟨cl, g12⟩, ⟨tu, g13, b13⟩, ⟨im, g14⟩, ⟨te, g15, b15⟩, ⟨ne, g16⟩, ⟨la, g17⟩, ⟨hn, g18⟩, ⟨hl, g19⟩, ⟨tp, g20⟩, ⟨gr, g21, b21⟩, ⟨it, g22⟩⟩, gf⟩ := id hq3
              refine o_iload hC dX8_not_72 (by rfl) ?_
              refine o_bipush (v := nI 36) hC dX8_not_74 (by decide +kernel) ?_
              refine o_icmp_ge (tgt := 176) hC dX8_not_76 (by decide) (fun c_76 => ?_) (fun c_76 => ?_)
              · exact absurd c_76 (nI_ge (by omega) (by omega))
              · refine o_lconst (v := 1) hC dX8_not_79 (by decide +kernel) ?_
                refine o_iload hC dX8_not_80 (by rfl) ?_
                refine o_lshl hC dX8_not_82 ?_
                refine o_lstore hC dX8_not_83 (Nat.le_of_ble_eq_true rfl) ?_
                refine o_lload hC dX8_not_85 (by rfl) ?_
                refine o_lload hC dX8_not_87 (by rfl) ?_
                refine o_land hC dX8_not_89 ?_
                refine o_lconst (v := 0) hC dX8_not_90 (by decide +kernel) ?_
                refine o_lcmp hC dX8_not_91 ?_
                refine o_if_eq (tgt := 129) hC dX8_not_92 (by decide) (fun c_92 => ?_) (fun c_92 => ?_)
                · refine o_lload hC dX8_not_129 (by rfl) ?_
                  refine o_lload hC dX8_not_131 (by rfl) ?_
                  refine o_land hC dX8_not_133 ?_
                  refine o_lconst (v := 0) hC dX8_not_134 (by decide +kernel) ?_
                  refine o_lcmp hC dX8_not_135 ?_
                  refine o_if_eq (tgt := 170) hC dX8_not_136 (by decide) (fun c_136 => ?_) (fun c_136 => ?_)
                  · refine o_iinc hC dX8_not_170 (by rfl) (rl_inc _) (Nat.le_of_ble_eq_true rfl) ?_
                    refine o_goto (tgt := 72) hC dX8_not_173 (by decide) ?_
                    first
                    | exact ih3 (r + 1) _ _ _ _ (by omega) (hq3.tr q1)
                    | exact ih3 (r + 1) _ _ _ _ (by omega) hq3
                  · refine o_aload_n hC dX8_not_139 (by rfl) ?_
                    refine o_aload_n hC dX8_not_140 (by rfl) ?_
                    refine o_getf hC (fX8_56 hC rfl) dX8_not_141 (by repeat (first | with_reducible assumption | (rw [rl_u_s]; done) | (rw [rl_u_s]; rfl) | rw [rl_u_n (by first | with_reducible assumption | omega)])) (by first | rfl | with_reducible assumption) ?_
                    refine o_bipush (v := nI 12) hC dX8_not_144 (by decide +kernel) ?_
                    refine o_iload_n hC dX8_not_146 (by rfl) ?_
                    refine o_imul hC dX8_not_147 ?_
                    try rw [nI_mul]
                    refine o_iload hC dX8_not_148 (by rfl) ?_
                    refine o_iadd hC dX8_not_150 ?_
                    try rw [nI_add]
                    refine o_laldN (t0 := 1) hC rfl dX8_not_151 (by repeat (first | with_reducible assumption | (rw [rl_u_s]; done) | (rw [rl_u_s]; rfl) | rw [rl_u_n (by first | with_reducible assumption | omega)])) (by omega) (by decide) ?_
                    refine o_lload hC dX8_not_152 (by rfl) ?_
                    refine o_lor hC dX8_not_154 ?_
                    refine o_aload_n hC dX8_not_155 (by rfl) ?_
                    refine o_getf hC (fX8_60 hC rfl) dX8_not_156 (by repeat (first | with_reducible assumption | (rw [rl_u_s]; done) | (rw [rl_u_s]; rfl) | rw [rl_u_n (by first | with_reducible assumption | omega)])) (by first | rfl | with_reducible assumption) ?_
                    refine o_bipush (v := nI 12) hC dX8_not_159 (by decide +kernel) ?_
                    refine o_iload_n hC dX8_not_161 (by rfl) ?_
                    refine o_imul hC dX8_not_162 ?_
                    try rw [nI_mul]
                    refine o_iload hC dX8_not_163 (by rfl) ?_
                    refine o_iadd hC dX8_not_165 ?_
                    try rw [nI_add]
                    refine o_laldN (t0 := 1) hC rfl dX8_not_166 (by repeat (first | with_reducible assumption | (rw [rl_u_s]; done) | (rw [rl_u_s]; rfl) | rw [rl_u_n (by first | with_reducible assumption | omega)])) (by omega) (by decide) ?_
                    refine o_callV2 hC rl_BW_good rl_Ns_nw (by exact hB.2.2.2.2.2) YX8_turn IX8_turn VX8_turn (mX8_106 hC) (by rw [hB.1]; exact cm_X8_turn l D ids H0 _ _ m T _ _ _ _ hq3.rf) (by exact hq3.1) rfl rfl (Nat.le_of_ble_eq_true rfl) (by rw [hB.2.1]; first | exact Nat.le_of_ble_eq_true rfl | (dsimp only; omega)) (by rw [hB.2.1]; first | exact Nat.le_of_ble_eq_true rfl | (dsimp only; omega)) (by rw [hB.2.1]; first | exact Nat.le_of_ble_eq_true rfl | (dsimp only; omega)) (by rw [hB.2.1]; first | exact Nat.le_of_ble_eq_true rfl | (dsimp only; omega)) dX8_not_167 (fun v h_167 n_167 p_167 => ?_)
                    obtain ⟨rfl, rfl, f9, k9, q1⟩ := p_167
                    try dsimp only [Option.toList, List.cons_append, List.nil_append]
                    refine o_iinc hC dX8_not_170 (by rfl) (rl_inc _) (Nat.le_of_ble_eq_true rfl) ?_
                    refine o_goto (tgt := 72) hC dX8_not_173 (by decide) ?_
                    first
                    | exact ih3 (r + 1) _ _ _ _ (by omega) (hq3.tr q1)
                    | exact ih3 (r + 1) _ _ _ _ (by omega) hq3
                · refine o_aload_n hC dX8_not_95 (by rfl) ?_
                  refine o_aload_n hC dX8_not_96 (by rfl) ?_
                  refine o_getf hC (fX8_56 hC rfl) dX8_not_97 (by repeat (first | with_reducible assumption | (rw [rl_u_s]; done) | (rw [rl_u_s]; rfl) | rw [rl_u_n (by first | with_reducible assumption | omega)])) (by first | rfl | with_reducible assumption) ?_
                  refine o_bipush (v := nI 12) hC dX8_not_100 (by decide +kernel) ?_
                  refine o_iload_n hC dX8_not_102 (by rfl) ?_
                  refine o_imul hC dX8_not_103 ?_
                  try rw [nI_mul]
                  refine o_iload hC dX8_not_104 (by rfl) ?_
                  refine o_iadd hC dX8_not_106 ?_
                  try rw [nI_add]
                  refine o_laldN (t0 := 1) hC rfl dX8_not_107 (by repeat (first | with_reducible assumption | (rw [rl_u_s]; done) | (rw [rl_u_s]; rfl) | rw [rl_u_n (by first | with_reducible assumption | omega)])) (by omega) (by decide) ?_
                  refine o_aload_n hC dX8_not_108 (by rfl) ?_
                  refine o_getf hC (fX8_60 hC rfl) dX8_not_109 (by repeat (first | with_reducible assumption | (rw [rl_u_s]; done) | (rw [rl_u_s]; rfl) | rw [rl_u_n (by first | with_reducible assumption | omega)])) (by first | rfl | with_reducible assumption) ?_
                  refine o_bipush (v := nI 12) hC dX8_not_112 (by decide +kernel) ?_
                  refine o_iload_n hC dX8_not_114 (by rfl) ?_
                  refine o_imul hC dX8_not_115 ?_
                  try rw [nI_mul]
                  refine o_iload hC dX8_not_116 (by rfl) ?_
                  refine o_iadd hC dX8_not_118 ?_
                  try rw [nI_add]
                  refine o_laldN (t0 := 1) hC rfl dX8_not_119 (by repeat (first | with_reducible assumption | (rw [rl_u_s]; done) | (rw [rl_u_s]; rfl) | rw [rl_u_n (by first | with_reducible assumption | omega)])) (by omega) (by decide) ?_
                  refine o_lload hC dX8_not_120 (by rfl) ?_
                  refine o_lor hC dX8_not_122 ?_
                  refine o_callV2 hC rl_BW_good rl_Ns_nw (by exact hB.2.2.2.2.2) YX8_turn IX8_turn VX8_turn (mX8_106 hC) (by rw [hB.1]; exact cm_X8_turn l D ids H0 _ _ m T _ _ _ _ hq3.rf) (by exact hq3.1) rfl rfl (Nat.le_of_ble_eq_true rfl) (by rw [hB.2.1]; first | exact Nat.le_of_ble_eq_true rfl | (dsimp only; omega)) (by rw [hB.2.1]; first | exact Nat.le_of_ble_eq_true rfl | (dsimp only; omega)) (by rw [hB.2.1]; first | exact Nat.le_of_ble_eq_true rfl | (dsimp only; omega)) (by rw [hB.2.1]; first | exact Nat.le_of_ble_eq_true rfl | (dsimp only; omega)) dX8_not_123 (fun v h_123 n_123 p_123 => ?_)
                  obtain ⟨rfl, rfl, f9, k9, q1⟩ := p_123
                  try dsimp only [Option.toList, List.cons_append, List.nil_append]
                  refine o_goto (tgt := 170) hC dX8_not_126 (by decide) ?_
                  refine o_iinc hC dX8_not_170 (by rfl) (rl_inc _) (Nat.le_of_ble_eq_true rfl) ?_
                  refine o_goto (tgt := 72) hC dX8_not_173 (by decide) ?_
                  first
                  | exact ih3 (r + 1) _ _ _ _ (by omega) (hq3.tr q1)
                  | exact ih3 (r + 1) _ _ _ _ (by omega) hq3
          obtain ⟨g0, gk, ⟨⟨cl, g12⟩, ⟨tu, g13, b13⟩, ⟨im, g14⟩, ⟨te, g15, b15⟩, ⟨ne, g16⟩, ⟨la, g17⟩, ⟨hn, g18⟩, ⟨hl, g19⟩, ⟨tp, g20⟩, ⟨gr, g21, b21⟩, ⟨it, g22⟩⟩, gf⟩ := id hq2
          refine o_iload hC dX8_not_58 (by rfl) ?_
          refine o_aload_n hC dX8_not_60 (by rfl) ?_
          refine o_getf hC (fX8_53 hC rfl) dX8_not_61 (by repeat (first | with_reducible assumption | (rw [rl_u_s]; done) | (rw [rl_u_s]; rfl) | rw [rl_u_n (by first | with_reducible assumption | omega)])) (by first | rfl | with_reducible assumption) ?_
          refine o_iload_n hC dX8_not_64 (by rfl) ?_
          obtain ⟨t65, ht65, et65⟩ := b15 c (by omega)
          refine o_ialdN (t0 := 0) (k := c) hC rfl dX8_not_65 (by repeat (first | with_reducible assumption | (rw [rl_u_s]; done) | (rw [rl_u_s]; rfl) | rw [rl_u_n (by first | with_reducible assumption | omega)])) (by omega) (by decide) ?_
          rw [et65]
          refine o_icmp_ge (tgt := 182) hC dX8_not_66 (by decide) (fun c_66 => ?_) (fun c_66 => ?_)
          · refine o_aload_n hC dX8_not_182 (by rfl) ?_
            refine o_iload_n hC dX8_not_183 (by rfl) ?_
            refine o_callV1 hC rl_BW_good rl_Ns_nw (by exact hB.2.2.2.2.2) YX8_settle IX8_settle VX8_settle (mX8_99 hC) (by rw [hB.1]; exact cm_X8_settle l D ids H0 _ _ m T _ _ c hq2.rf (by omega)) (by exact hq2.1) rfl rfl (Nat.le_of_ble_eq_true rfl) (by rw [hB.2.1]; first | exact Nat.le_of_ble_eq_true rfl | (dsimp only; omega)) (by rw [hB.2.1]; first | exact Nat.le_of_ble_eq_true rfl | (dsimp only; omega)) (by rw [hB.2.1]; first | exact Nat.le_of_ble_eq_true rfl | (dsimp only; omega)) (by rw [hB.2.1]; first | exact Nat.le_of_ble_eq_true rfl | (dsimp only; omega)) dX8_not_184 (fun v h_184 n_184 p_184 => ?_)
            obtain ⟨rfl, rfl, fs, q9⟩ := p_184
            try dsimp only [Option.toList, List.cons_append, List.nil_append]
            refine o_iinc hC dX8_not_187 (by rfl) (rl_inc _) (Nat.le_of_ble_eq_true rfl) ?_
            refine o_goto (tgt := 7) hC dX8_not_190 (by decide) ?_
            exact ih (i + 1) _ _ _ _ _ _ _ _ (by omega) (hq2.tr q9)
          · refine o_iconst (v := nI 0) hC dX8_not_69 (by decide +kernel) ?_
            refine o_istore hC dX8_not_70 (Nat.le_of_ble_eq_true rfl) ?_
            exact loop3 36 0 _ _ _ _ (by omega) hq2
      obtain ⟨g0, gk, ⟨⟨cl, g12⟩, ⟨tu, g13, b13⟩, ⟨im, g14⟩, ⟨te, g15, b15⟩, ⟨ne, g16⟩, ⟨la, g17⟩, ⟨hn, g18⟩, ⟨hl, g19⟩, ⟨tp, g20⟩, ⟨gr, g21, b21⟩, ⟨it, g22⟩⟩, gf⟩ := id hq1
      refine o_iload_n hC dX8_not_7 (by rfl) ?_
      refine o_aload_n hC dX8_not_8 (by rfl) ?_
      refine o_getf hC (fX8_53 hC rfl) dX8_not_9 (by repeat (first | with_reducible assumption | (rw [rl_u_s]; done) | (rw [rl_u_s]; rfl) | rw [rl_u_n (by first | with_reducible assumption | omega)])) (by first | rfl | with_reducible assumption) ?_
      refine o_iload_n hC dX8_not_12 (by rfl) ?_
      obtain ⟨t13, ht13, et13⟩ := b15 a (by omega)
      refine o_ialdN (t0 := 0) (k := a) hC rfl dX8_not_13 (by repeat (first | with_reducible assumption | (rw [rl_u_s]; done) | (rw [rl_u_s]; rfl) | rw [rl_u_n (by first | with_reducible assumption | omega)])) (by omega) (by decide) ?_
      rw [et13]
      refine o_icmp_ge (tgt := 193) hC dX8_not_14 (by decide) (fun c_14 => ?_) (fun c_14 => ?_)
      · refine o_vret hC hB dX8_not_193 (Nat.le_of_ble_eq_true rfl) (Nat.le_of_ble_eq_true rfl) ?_
        exact ⟨rfl, rfl, _, _, hq1⟩
      · refine o_aload_n hC dX8_not_17 (by rfl) ?_
        refine o_getf hC (fX8_91 hC rfl) dX8_not_18 (by repeat (first | with_reducible assumption | (rw [rl_u_s]; done) | (rw [rl_u_s]; rfl) | rw [rl_u_n (by first | with_reducible assumption | omega)])) (by first | rfl | with_reducible assumption) ?_
        refine o_if_ne (tgt := 193) hC dX8_not_21 (by decide) (fun c_21 => ?_) (fun c_21 => ?_)
        · refine o_vret hC hB dX8_not_193 (Nat.le_of_ble_eq_true rfl) (Nat.le_of_ble_eq_true rfl) ?_
          exact ⟨rfl, rfl, _, _, hq1⟩
        · refine o_aload_n hC dX8_not_24 (by rfl) ?_
          refine o_getf hC (fX8_56 hC rfl) dX8_not_25 (by repeat (first | with_reducible assumption | (rw [rl_u_s]; done) | (rw [rl_u_s]; rfl) | rw [rl_u_n (by first | with_reducible assumption | omega)])) (by first | rfl | with_reducible assumption) ?_
          refine o_bipush (v := nI 12) hC dX8_not_28 (by decide +kernel) ?_
          refine o_iload_n hC dX8_not_30 (by rfl) ?_
          refine o_imul hC dX8_not_31 ?_
          try rw [nI_mul]
          refine o_iload_n hC dX8_not_32 (by rfl) ?_
          refine o_iadd hC dX8_not_33 ?_
          try rw [nI_add]
          refine o_laldN (t0 := 1) hC rfl dX8_not_34 (by repeat (first | with_reducible assumption | (rw [rl_u_s]; done) | (rw [rl_u_s]; rfl) | rw [rl_u_n (by first | with_reducible assumption | omega)])) (by omega) (by decide) ?_
          refine o_lstore hC dX8_not_35 (Nat.le_of_ble_eq_true rfl) ?_
          refine o_aload_n hC dX8_not_37 (by rfl) ?_
          refine o_getf hC (fX8_60 hC rfl) dX8_not_38 (by repeat (first | with_reducible assumption | (rw [rl_u_s]; done) | (rw [rl_u_s]; rfl) | rw [rl_u_n (by first | with_reducible assumption | omega)])) (by first | rfl | with_reducible assumption) ?_
          refine o_bipush (v := nI 12) hC dX8_not_41 (by decide +kernel) ?_
          refine o_iload_n hC dX8_not_43 (by rfl) ?_
          refine o_imul hC dX8_not_44 ?_
          try rw [nI_mul]
          refine o_iload_n hC dX8_not_45 (by rfl) ?_
          refine o_iadd hC dX8_not_46 ?_
          try rw [nI_add]
          refine o_laldN (t0 := 1) hC rfl dX8_not_47 (by repeat (first | with_reducible assumption | (rw [rl_u_s]; done) | (rw [rl_u_s]; rfl) | rw [rl_u_n (by first | with_reducible assumption | omega)])) (by omega) (by decide) ?_
          refine o_lstore hC dX8_not_48 (Nat.le_of_ble_eq_true rfl) ?_
          refine o_aload_n hC dX8_not_50 (by rfl) ?_
          refine o_iconst (v := nI 0) hC dX8_not_51 (by decide +kernel) ?_
          refine o_putf hC (fX8_82 hC rfl) (fwX8 rfl rfl rfl (Or.inl rfl)) dX8_not_52 (by repeat (first | with_reducible assumption | (rw [rl_u_s]; done) | (rw [rl_u_s]; rfl) | rw [rl_u_n (by first | with_reducible assumption | omega)])) (Nat.le_of_ble_eq_true rfl) ?_
          try simp only [List.set_cons_zero, List.set_cons_succ]
          refine o_iconst (v := nI 0) hC dX8_not_55 (by decide +kernel) ?_
          refine o_istore hC dX8_not_56 (Nat.le_of_ble_eq_true rfl) ?_
          exact loop2 12 0 _ _ _ _ _ _ _ (by omega) (hq1.ob T f1 0 (by omega))
  show rl_G X (rl_e D ids H0) 0 [some (.ref m), some (.int (nI c)), some (.int (nI a)), none, none, none, none, none, none, none, none, none] [] h n 0 0
  refine o_aload_n hC dX8_not_0 (by rfl) ?_
  refine o_iload_n hC dX8_not_1 (by rfl) ?_
  refine o_callV1 hC rl_BW_good rl_Ns_nw (by exact hB.2.2.2.2.2) YX8_truth IX8_truth VX8_truth (mX8_103 hC) (by rw [hB.1]; exact cm_X8_truth l D ids H0 _ _ m T _ _ c hq (by omega)) (by exact g0) rfl rfl (Nat.le_of_ble_eq_true rfl) (by rw [hB.2.1]; first | exact Nat.le_of_ble_eq_true rfl | (dsimp only; omega)) (by rw [hB.2.1]; first | exact Nat.le_of_ble_eq_true rfl | (dsimp only; omega)) (by rw [hB.2.1]; first | exact Nat.le_of_ble_eq_true rfl | (dsimp only; omega)) (by rw [hB.2.1]; first | exact Nat.le_of_ble_eq_true rfl | (dsimp only; omega)) dX8_not_2 (fun v h_2 n_2 p_2 => ?_)
  obtain ⟨rfl, rfl, q0⟩ := p_2
  try dsimp only [Option.toList, List.cons_append, List.nil_append]
  refine o_iconst (v := nI 0) hC dX8_not_5 (by decide +kernel) ?_
  refine o_istore_n hC dX8_not_6 (Nat.le_of_ble_eq_true rfl) ?_
  exact loop1 12 0 _ _ _ _ _ _ _ _ (by omega) q0
end
section
/-! THE MODEL by shapes: against, find, take, comes -/

set_option maxHeartbeats 4000000 in
set_option maxRecDepth 100000 in
theorem cm_X8_against (l : Launch) (D : va_G) (ids : Nat → ClassId) (H0 : Heap) (h : rl_H) (n : Nat) (m : Nat) (T : md_T) (fu : Int32) (k : Nat) (S : md_A) (a t w : Nat) (hq : mq ids h h m T fu k) (hs : md_sa ids h m S) (ha : a < 16) (ht : t < 80) (hw : S.2.2.2.2.2.2.2.2.2.2 a = nI w) (hw6 : w ≤ 6) : rl_Met l (rl_e D ids H0) rl_BW rl_Ns yX8_against cX8_against 5 (some .int) ({ frames := 1, cells := 0, slots := 0, locals := 23 }) [.ref m, .int (nI a), .int (nI t)] h n (fun v h' n' => ∃ r : Int32, v = some (.int r) ∧ h' = h ∧ n' = n) := by
  obtain ⟨g0, gk, ⟨⟨cl, g12⟩, ⟨tu, g13, b13⟩, ⟨im, g14⟩, ⟨te, g15, b15⟩, ⟨ne, g16⟩, ⟨la, g17⟩, ⟨hn, g18⟩, ⟨hl, g19⟩, ⟨tp, g20⟩, ⟨gr, g21, b21⟩, ⟨it, g22⟩⟩, gf⟩ := id hq
  obtain ⟨a1, a2, a3, a4, a5, a6, a7, a8, a9, a10, a11⟩ := id hs
  refine rl_Met.of (by decide +kernel) (Nat.le_of_ble_eq_true rfl) ?_
  intro X hC hB
  have loop : ∀ (mm c : Nat) (o4 : Option Value), c + mm = w → rl_G X (rl_e D ids H0) 2 [some (.ref m), some (.int (nI a)), some (.int (nI t)), some (.int (nI c)), o4] [] h n 0 0 := by
    intro mm
    induction mm with
    | zero =>
      intro c o4 hm
      refine o_iload_n hC dX8_against_2 (by rfl) ?_
      refine o_aload_n hC dX8_against_3 (by rfl) ?_
      refine o_getf hC (fX8_40 hC rfl) dX8_against_4 (by repeat (first | with_reducible assumption | (rw [rl_u_s]; done) | (rw [rl_u_s]; rfl) | rw [rl_u_n (by first | with_reducible assumption | omega)])) (by first | rfl | with_reducible assumption) ?_
      refine o_iload_n hC dX8_against_7 (by rfl) ?_
      refine o_ialdN (t0 := 0) (k := a) hC rfl dX8_against_8 (by repeat (first | with_reducible assumption | (rw [rl_u_s]; done) | (rw [rl_u_s]; rfl) | rw [rl_u_n (by first | with_reducible assumption | omega)])) (by omega) (by decide) ?_
      rw [hw]
      refine o_icmp_ge (tgt := 55) hC dX8_against_9 (by decide) (fun c_9 => ?_) (fun c_9 => ?_)
      · refine o_iconst (v := nI 0) hC dX8_against_55 (by decide +kernel) ?_
        refine o_iret hC hB dX8_against_56 (Nat.le_of_ble_eq_true rfl) (Nat.le_of_ble_eq_true rfl) ?_
        exact ⟨_, rfl, rfl, rfl⟩
      · exact absurd (nI_le (by omega) (by omega)) c_9
    | succ mm ih =>
      intro c o4 hm
      refine o_iload_n hC dX8_against_2 (by rfl) ?_
      refine o_aload_n hC dX8_against_3 (by rfl) ?_
      refine o_getf hC (fX8_40 hC rfl) dX8_against_4 (by repeat (first | with_reducible assumption | (rw [rl_u_s]; done) | (rw [rl_u_s]; rfl) | rw [rl_u_n (by first | with_reducible assumption | omega)])) (by first | rfl | with_reducible assumption) ?_
      refine o_iload_n hC dX8_against_7 (by rfl) ?_
      refine o_ialdN (t0 := 0) (k := a) hC rfl dX8_against_8 (by repeat (first | with_reducible assumption | (rw [rl_u_s]; done) | (rw [rl_u_s]; rfl) | rw [rl_u_n (by first | with_reducible assumption | omega)])) (by omega) (by decide) ?_
      rw [hw]
      refine o_icmp_ge (tgt := 55) hC dX8_against_9 (by decide) (fun c_9 => ?_) (fun c_9 => ?_)
      · refine o_iconst (v := nI 0) hC dX8_against_55 (by decide +kernel) ?_
        refine o_iret hC hB dX8_against_56 (Nat.le_of_ble_eq_true rfl) (Nat.le_of_ble_eq_true rfl) ?_
        exact ⟨_, rfl, rfl, rfl⟩
      · refine o_aload_n hC dX8_against_12 (by rfl) ?_
        refine o_iload_n hC dX8_against_13 (by rfl) ?_
        refine o_iload_n hC dX8_against_14 (by rfl) ?_
        refine o_iload_n hC dX8_against_15 (by rfl) ?_
        refine o_callV3 hC rl_BW_good rl_Ns_nw (by exact hB.2.2.2.2.2) YX8_cellAt IX8_cellAt VX8_cellAt (mX8_138 hC) (by rw [hB.1]; exact cm_X8_cellAt l D ids H0 _ _ m T _ _ a t c hq (by omega)) (by exact hq.1) rfl rfl (Nat.le_of_ble_eq_true rfl) (by rw [hB.2.1]; first | exact Nat.le_of_ble_eq_true rfl | (dsimp only; omega)) (by rw [hB.2.1]; first | exact Nat.le_of_ble_eq_true rfl | (dsimp only; omega)) (by rw [hB.2.1]; first | exact Nat.le_of_ble_eq_true rfl | (dsimp only; omega)) (by rw [hB.2.1]; first | exact Nat.le_of_ble_eq_true rfl | (dsimp only; omega)) dX8_against_16 (fun v h_16 n_16 p_16 => ?_)
        obtain ⟨r16, rfl, rfl, rfl⟩ := p_16
        try dsimp only [Option.toList, List.cons_append, List.nil_append]
        refine o_istore hC dX8_against_19 (Nat.le_of_ble_eq_true rfl) ?_
        refine o_aload_n hC dX8_against_21 (by rfl) ?_
        refine o_getf hC (fX8_69 hC rfl) dX8_against_22 (by repeat (first | with_reducible assumption | (rw [rl_u_s]; done) | (rw [rl_u_s]; rfl) | rw [rl_u_n (by first | with_reducible assumption | omega)])) (by first | rfl | with_reducible assumption) ?_
        refine o_iload_n hC dX8_against_25 (by rfl) ?_
        refine o_ialdN (t0 := 0) hC rfl dX8_against_26 (by repeat (first | with_reducible assumption | (rw [rl_u_s]; done) | (rw [rl_u_s]; rfl) | rw [rl_u_n (by first | with_reducible assumption | omega)])) (by omega) (by decide) ?_
        refine o_iload hC dX8_against_27 (by rfl) ?_
        refine o_icmp_eq (tgt := 49) hC dX8_against_29 (by decide) (fun c_29 => ?_) (fun c_29 => ?_)
        · refine o_iinc hC dX8_against_49 (by rfl) (rl_inc _) (Nat.le_of_ble_eq_true rfl) ?_
          refine o_goto (tgt := 2) hC dX8_against_52 (by decide) ?_
          exact ih (c + 1) _ (by omega)
        · refine o_aload_n hC dX8_against_32 (by rfl) ?_
          refine o_getf hC (fX8_69 hC rfl) dX8_against_33 (by repeat (first | with_reducible assumption | (rw [rl_u_s]; done) | (rw [rl_u_s]; rfl) | rw [rl_u_n (by first | with_reducible assumption | omega)])) (by first | rfl | with_reducible assumption) ?_
          refine o_iload_n hC dX8_against_36 (by rfl) ?_
          refine o_ialdN (t0 := 0) hC rfl dX8_against_37 (by repeat (first | with_reducible assumption | (rw [rl_u_s]; done) | (rw [rl_u_s]; rfl) | rw [rl_u_n (by first | with_reducible assumption | omega)])) (by omega) (by decide) ?_
          refine o_iload hC dX8_against_38 (by rfl) ?_
          refine o_icmp_ge (tgt := 47) hC dX8_against_40 (by decide) (fun c_40 => ?_) (fun c_40 => ?_)
          · refine o_iconst (v := nI 1) hC dX8_against_47 (by decide +kernel) ?_
            refine o_iret hC hB dX8_against_48 (Nat.le_of_ble_eq_true rfl) (Nat.le_of_ble_eq_true rfl) ?_
            exact ⟨_, rfl, rfl, rfl⟩
          · refine o_iconst (v := (-1 : Int32)) hC dX8_against_43 (by decide +kernel) ?_
            refine o_goto (tgt := 48) hC dX8_against_44 (by decide) ?_
            refine o_iret hC hB dX8_against_48 (Nat.le_of_ble_eq_true rfl) (Nat.le_of_ble_eq_true rfl) ?_
            exact ⟨_, rfl, rfl, rfl⟩
  show rl_G X (rl_e D ids H0) 0 [some (.ref m), some (.int (nI a)), some (.int (nI t)), none, none] [] h n 0 0
  refine o_iconst (v := nI 0) hC dX8_against_0 (by decide +kernel) ?_
  refine o_istore_n hC dX8_against_1 (Nat.le_of_ble_eq_true rfl) ?_
  exact loop w 0 _ (by omega)

set_option maxHeartbeats 4000000 in
set_option maxRecDepth 100000 in
theorem cm_X8_find (l : Launch) (D : va_G) (ids : Nat → ClassId) (H0 : Heap) (h : rl_H) (n : Nat) (m : Nat) (T : md_T) (fu : Int32) (k : Nat) (S : md_A) (a w : Nat) (hq : mq ids h h m T fu k) (hs : md_sa ids h m S) (ha : a < 16) (hw : S.2.2.2.2.2.2.2.2.2.2 a = nI w) (hw6 : w ≤ 6) : rl_Met l (rl_e D ids H0) rl_BW rl_Ns yX8_find cX8_find 3 (some .int) ({ frames := 2, cells := 0, slots := 0, locals := 47 }) [.ref m, .int (nI a)] h n (fun v h' n' => ∃ r : Int32, v = some (.int r) ∧ h' = h ∧ n' = n ∧ (r = -1 ∨ ∃ t : Nat, t < 80 ∧ r = nI t)) := by
  obtain ⟨g0, gk, ⟨⟨cl, g12⟩, ⟨tu, g13, b13⟩, ⟨im, g14⟩, ⟨te, g15, b15⟩, ⟨ne, g16⟩, ⟨la, g17⟩, ⟨hn, g18⟩, ⟨hl, g19⟩, ⟨tp, g20⟩, ⟨gr, g21, b21⟩, ⟨it, g22⟩⟩, gf⟩ := id hq
  obtain ⟨a1, a2, a3, a4, a5, a6, a7, a8, a9, a10, a11⟩ := id hs
  refine rl_Met.of (by decide +kernel) (Nat.le_of_ble_eq_true rfl) ?_
  intro X hC hB
  have loop : ∀ (mm t : Nat), t + mm = 80 → rl_G X (rl_e D ids H0) 2 [some (.ref m), some (.int (nI a)), some (.int (nI t))] [] h n 0 0 := by
    intro mm
    induction mm with
    | zero =>
      intro t hm
      refine o_iload_n hC dX8_find_2 (by rfl) ?_
      refine o_aload_n hC dX8_find_3 (by rfl) ?_
      refine o_getf hC (fX8_46 hC rfl) dX8_find_4 (by repeat (first | with_reducible assumption | (rw [rl_u_s]; done) | (rw [rl_u_s]; rfl) | rw [rl_u_n (by first | with_reducible assumption | omega)])) (by first | rfl | with_reducible assumption) ?_
      refine o_iload_n hC dX8_find_7 (by rfl) ?_
      obtain ⟨t8, ht8, et8⟩ := b13 a (by omega)
      refine o_ialdN (t0 := 0) (k := a) hC rfl dX8_find_8 (by repeat (first | with_reducible assumption | (rw [rl_u_s]; done) | (rw [rl_u_s]; rfl) | rw [rl_u_n (by first | with_reducible assumption | omega)])) (by omega) (by decide) ?_
      rw [et8]
      refine o_icmp_ge (tgt := 29) hC dX8_find_9 (by decide) (fun c_9 => ?_) (fun c_9 => ?_)
      · refine o_iconst (v := (-1 : Int32)) hC dX8_find_29 (by decide +kernel) ?_
        refine o_iret hC hB dX8_find_30 (Nat.le_of_ble_eq_true rfl) (Nat.le_of_ble_eq_true rfl) ?_
        exact ⟨_, rfl, rfl, rfl, Or.inl rfl⟩
      · exact absurd (nI_le (by omega) (by omega)) c_9
    | succ mm ih =>
      intro t hm
      refine o_iload_n hC dX8_find_2 (by rfl) ?_
      refine o_aload_n hC dX8_find_3 (by rfl) ?_
      refine o_getf hC (fX8_46 hC rfl) dX8_find_4 (by repeat (first | with_reducible assumption | (rw [rl_u_s]; done) | (rw [rl_u_s]; rfl) | rw [rl_u_n (by first | with_reducible assumption | omega)])) (by first | rfl | with_reducible assumption) ?_
      refine o_iload_n hC dX8_find_7 (by rfl) ?_
      obtain ⟨t8, ht8, et8⟩ := b13 a (by omega)
      refine o_ialdN (t0 := 0) (k := a) hC rfl dX8_find_8 (by repeat (first | with_reducible assumption | (rw [rl_u_s]; done) | (rw [rl_u_s]; rfl) | rw [rl_u_n (by first | with_reducible assumption | omega)])) (by omega) (by decide) ?_
      rw [et8]
      refine o_icmp_ge (tgt := 29) hC dX8_find_9 (by decide) (fun c_9 => ?_) (fun c_9 => ?_)
      · refine o_iconst (v := (-1 : Int32)) hC dX8_find_29 (by decide +kernel) ?_
        refine o_iret hC hB dX8_find_30 (Nat.le_of_ble_eq_true rfl) (Nat.le_of_ble_eq_true rfl) ?_
        exact ⟨_, rfl, rfl, rfl, Or.inl rfl⟩
      · refine o_aload_n hC dX8_find_12 (by rfl) ?_
        refine o_iload_n hC dX8_find_13 (by rfl) ?_
        refine o_iload_n hC dX8_find_14 (by rfl) ?_
        refine o_callV2 hC rl_BW_good rl_Ns_nw (by exact hB.2.2.2.2.2) YX8_against IX8_against VX8_against (mX8_141 hC) (by rw [hB.1]; exact cm_X8_against l D ids H0 _ _ m T _ _ S a t w hq hs (by omega) (by omega) hw hw6) (by exact hq.1) rfl rfl (Nat.le_of_ble_eq_true rfl) (by rw [hB.2.1]; first | exact Nat.le_of_ble_eq_true rfl | (dsimp only; omega)) (by rw [hB.2.1]; first | exact Nat.le_of_ble_eq_true rfl | (dsimp only; omega)) (by rw [hB.2.1]; first | exact Nat.le_of_ble_eq_true rfl | (dsimp only; omega)) (by rw [hB.2.1]; first | exact Nat.le_of_ble_eq_true rfl | (dsimp only; omega)) dX8_find_15 (fun v h_15 n_15 p_15 => ?_)
        obtain ⟨r15, rfl, rfl, rfl⟩ := p_15
        try dsimp only [Option.toList, List.cons_append, List.nil_append]
        refine o_if_ne (tgt := 23) hC dX8_find_18 (by decide) (fun c_18 => ?_) (fun c_18 => ?_)
        · refine o_iinc hC dX8_find_23 (by rfl) (rl_inc _) (Nat.le_of_ble_eq_true rfl) ?_
          refine o_goto (tgt := 2) hC dX8_find_26 (by decide) ?_
          exact ih (t + 1) (by omega)
        · refine o_iload_n hC dX8_find_21 (by rfl) ?_
          refine o_iret hC hB dX8_find_22 (Nat.le_of_ble_eq_true rfl) (Nat.le_of_ble_eq_true rfl) ?_
          exact ⟨_, rfl, rfl, rfl, Or.inr ⟨t, by omega, rfl⟩⟩
  show rl_G X (rl_e D ids H0) 0 [some (.ref m), some (.int (nI a)), none] [] h n 0 0
  refine o_iconst (v := nI 0) hC dX8_find_0 (by decide +kernel) ?_
  refine o_istore_n hC dX8_find_1 (Nat.le_of_ble_eq_true rfl) ?_
  exact loop 80 0 (by omega)

set_option maxHeartbeats 4000000 in
set_option maxRecDepth 100000 in
theorem cm_X8_take (l : Launch) (D : va_G) (ids : Nat → ClassId) (H0 : Heap) (h : rl_H) (n : Nat) (m : Nat) (T : md_T) (fu : Int32) (k : Nat) (a t w : Nat) (hq : mq ids h h m T fu k) (ha : a < 16) (ht : t < 80) (hw : w ≤ 6) : rl_Met l (rl_e D ids H0) rl_BW rl_Ns yX8_take cX8_take 5 none ({ frames := 1, cells := 0, slots := 0, locals := 23 }) [.ref m, .int (nI a), .int (nI t), .int (nI w)] h n (fun v h' n' => v = none ∧ n' = n ∧ mq ids h h' m T fu k) := by
  obtain ⟨g0, gk, ⟨⟨cl, g12⟩, ⟨tu, g13, b13⟩, ⟨im, g14⟩, ⟨te, g15, b15⟩, ⟨ne, g16⟩, ⟨la, g17⟩, ⟨hn, g18⟩, ⟨hl, g19⟩, ⟨tp, g20⟩, ⟨gr, g21, b21⟩, ⟨it, g22⟩⟩, gf⟩ := id hq
  refine rl_Met.of (by decide +kernel) (Nat.le_of_ble_eq_true rfl) ?_
  intro X hC hB
  have loop : ∀ (mm c : Nat) (h1 : rl_H), c + mm = w → mq ids h h1 m T fu k → rl_G X (rl_e D ids H0) 3 [some (.ref m), some (.int (nI a)), some (.int (nI t)), some (.int (nI w)), some (.int (nI c))] [] h1 n 0 0 := by
    intro mm
    induction mm with
    | zero =>
      intro c h1 hm hq1
      refine o_iload hC dX8_take_3 (by rfl) ?_
      refine o_iload_n hC dX8_take_5 (by rfl) ?_
      refine o_icmp_ge (tgt := 30) hC dX8_take_6 (by decide) (fun c_6 => ?_) (fun c_6 => ?_)
      · refine o_vret hC hB dX8_take_30 (Nat.le_of_ble_eq_true rfl) (Nat.le_of_ble_eq_true rfl) ?_
        exact ⟨rfl, rfl, hq1⟩
      · exact absurd (nI_le (by omega) (by omega)) c_6
    | succ mm ih =>
      intro c h1 hm hq1
      obtain ⟨g0, gk, ⟨⟨cl, g12⟩, ⟨tu, g13, b13⟩, ⟨im, g14⟩, ⟨te, g15, b15⟩, ⟨ne, g16⟩, ⟨la, g17⟩, ⟨hn, g18⟩, ⟨hl, g19⟩, ⟨tp, g20⟩, ⟨gr, g21, b21⟩, ⟨it, g22⟩⟩, gf⟩ := id hq1
      refine o_iload hC dX8_take_3 (by rfl) ?_
      refine o_iload_n hC dX8_take_5 (by rfl) ?_
      refine o_icmp_ge (tgt := 30) hC dX8_take_6 (by decide) (fun c_6 => ?_) (fun c_6 => ?_)
      · refine o_vret hC hB dX8_take_30 (Nat.le_of_ble_eq_true rfl) (Nat.le_of_ble_eq_true rfl) ?_
        exact ⟨rfl, rfl, hq1⟩
      · refine o_aload_n hC dX8_take_9 (by rfl) ?_
        refine o_getf hC (fX8_69 hC rfl) dX8_take_10 (by repeat (first | with_reducible assumption | (rw [rl_u_s]; done) | (rw [rl_u_s]; rfl) | rw [rl_u_n (by first | with_reducible assumption | omega)])) (by first | rfl | with_reducible assumption) ?_
        refine o_iload hC dX8_take_13 (by rfl) ?_
        refine o_aload_n hC dX8_take_15 (by rfl) ?_
        refine o_iload_n hC dX8_take_16 (by rfl) ?_
        refine o_iload_n hC dX8_take_17 (by rfl) ?_
        refine o_iload hC dX8_take_18 (by rfl) ?_
        refine o_callV3 hC rl_BW_good rl_Ns_nw (by exact hB.2.2.2.2.2) YX8_cellAt IX8_cellAt VX8_cellAt (mX8_138 hC) (by rw [hB.1]; exact cm_X8_cellAt l D ids H0 _ _ m T _ _ a t c hq1.rf (by omega)) (by exact hq1.rf.1) rfl rfl (Nat.le_of_ble_eq_true rfl) (by rw [hB.2.1]; first | exact Nat.le_of_ble_eq_true rfl | (dsimp only; omega)) (by rw [hB.2.1]; first | exact Nat.le_of_ble_eq_true rfl | (dsimp only; omega)) (by rw [hB.2.1]; first | exact Nat.le_of_ble_eq_true rfl | (dsimp only; omega)) (by rw [hB.2.1]; first | exact Nat.le_of_ble_eq_true rfl | (dsimp only; omega)) dX8_take_20 (fun v h_20 n_20 p_20 => ?_)
        obtain ⟨r20, rfl, rfl, rfl⟩ := p_20
        try dsimp only [Option.toList, List.cons_append, List.nil_append]
        refine o_iastN (t0 := 0) hC rfl dX8_take_23 (by repeat (first | with_reducible assumption | (rw [rl_u_s]; done) | (rw [rl_u_s]; rfl) | rw [rl_u_n (by first | with_reducible assumption | omega)])) (by omega) (by decide) ?_
        refine o_iinc hC dX8_take_24 (by rfl) (rl_inc _) (Nat.le_of_ble_eq_true rfl) ?_
        refine o_goto (tgt := 3) hC dX8_take_27 (by decide) ?_
        exact ih (c + 1) _ (by omega) (hq1.s20 _)
  show rl_G X (rl_e D ids H0) 0 [some (.ref m), some (.int (nI a)), some (.int (nI t)), some (.int (nI w)), none] [] h n 0 0
  refine o_iconst (v := nI 0) hC dX8_take_0 (by decide +kernel) ?_
  refine o_istore hC dX8_take_1 (Nat.le_of_ble_eq_true rfl) ?_
  exact loop w 0 _ (by omega) hq

set_option maxHeartbeats 4000000 in
set_option maxRecDepth 100000 in
theorem cm_X8_comes (l : Launch) (D : va_G) (ids : Nat → ClassId) (H0 : Heap) (h : rl_H) (n : Nat) (m : Nat) (T : md_T) (fu : Int32) (k : Nat) (S : md_A) (a b w : Nat) (hq : mq ids h h m T fu k) (hs : md_sa ids h m S) (ha : a < 16) (hb : b < 1368) (hw : S.2.2.2.2.2.2.2.2.2.2 a = nI w) (hw6 : w ≤ 6) : rl_Met l (rl_e D ids H0) rl_BW rl_Ns yX8_comes cX8_comes 6 none ({ frames := 3, cells := 0, slots := 0, locals := 73 }) [.ref m, .int (nI a), .int (nI b)] h n (fun v h' n' => v = none ∧ n' = n ∧ ∃ (fu' : Int32) (k' : Nat), mq ids h h' m T fu' k') := by
  obtain ⟨g0, gk, ⟨⟨cl, g12⟩, ⟨tu, g13, b13⟩, ⟨im, g14⟩, ⟨te, g15, b15⟩, ⟨ne, g16⟩, ⟨la, g17⟩, ⟨hn, g18⟩, ⟨hl, g19⟩, ⟨tp, g20⟩, ⟨gr, g21, b21⟩, ⟨it, g22⟩⟩, gf⟩ := id hq
  obtain ⟨a1, a2, a3, a4, a5, a6, a7, a8, a9, a10, a11⟩ := id hs
  refine rl_Met.of (by decide +kernel) (Nat.le_of_ble_eq_true rfl) ?_
  intro X hC hB
  show rl_G X (rl_e D ids H0) 0 [some (.ref m), some (.int (nI a)), some (.int (nI b)), none, none, none] [] h n 0 0
  refine o_aload_n hC dX8_comes_0 (by rfl) ?_
  refine o_getf hC (fX8_91 hC rfl) dX8_comes_1 (by repeat (first | with_reducible assumption | (rw [rl_u_s]; done) | (rw [rl_u_s]; rfl) | rw [rl_u_n (by first | with_reducible assumption | omega)])) (by first | rfl | with_reducible assumption) ?_
  refine o_if_ne (tgt := 16) hC dX8_comes_4 (by decide) (fun c_4 => ?_) (fun c_4 => ?_)
  · refine o_vret hC hB dX8_comes_16 (Nat.le_of_ble_eq_true rfl) (Nat.le_of_ble_eq_true rfl) ?_
    exact ⟨rfl, rfl, _, _, hq⟩
  · refine o_aload_n hC dX8_comes_7 (by rfl) ?_
    refine o_getf hC (fX8_53 hC rfl) dX8_comes_8 (by repeat (first | with_reducible assumption | (rw [rl_u_s]; done) | (rw [rl_u_s]; rfl) | rw [rl_u_n (by first | with_reducible assumption | omega)])) (by first | rfl | with_reducible assumption) ?_
    refine o_iload_n hC dX8_comes_11 (by rfl) ?_
    obtain ⟨t12, ht12, et12⟩ := b15 b (by omega)
    refine o_ialdN (t0 := 0) (k := b) hC rfl dX8_comes_12 (by repeat (first | with_reducible assumption | (rw [rl_u_s]; done) | (rw [rl_u_s]; rfl) | rw [rl_u_n (by first | with_reducible assumption | omega)])) (by omega) (by decide) ?_
    rw [et12]
    refine o_if_ne (tgt := 17) hC dX8_comes_13 (by decide) (fun c_13 => ?_) (fun c_13 => ?_)
    · refine o_aload_n hC dX8_comes_17 (by rfl) ?_
      refine o_iload_n hC dX8_comes_18 (by rfl) ?_
      refine o_callV1 hC rl_BW_good rl_Ns_nw (by exact hB.2.2.2.2.2) YX8_find IX8_find VX8_find (mX8_145 hC) (by rw [hB.1]; exact cm_X8_find l D ids H0 _ _ m T _ _ S a w hq hs (by omega) hw hw6) (by exact g0) rfl rfl (Nat.le_of_ble_eq_true rfl) (by rw [hB.2.1]; first | exact Nat.le_of_ble_eq_true rfl | (dsimp only; omega)) (by rw [hB.2.1]; first | exact Nat.le_of_ble_eq_true rfl | (dsimp only; omega)) (by rw [hB.2.1]; first | exact Nat.le_of_ble_eq_true rfl | (dsimp only; omega)) (by rw [hB.2.1]; first | exact Nat.le_of_ble_eq_true rfl | (dsimp only; omega)) dX8_comes_19 (fun v h_19 n_19 p_19 => ?_)
      obtain ⟨r19, rfl, rfl, rfl, hr19⟩ := p_19
      try dsimp only [Option.toList, List.cons_append, List.nil_append]
      rcases hr19 with rfl | ⟨t, ht, rfl⟩
      · try dsimp only [Option.toList, List.cons_append, List.nil_append]
        refine o_istore_n hC dX8_comes_22 (Nat.le_of_ble_eq_true rfl) ?_
        refine o_iload_n hC dX8_comes_23 (by rfl) ?_
        refine o_iconst (v := (-1 : Int32)) hC dX8_comes_24 (by decide +kernel) ?_
        refine o_icmp_eq (tgt := 46) hC dX8_comes_25 (by decide) (fun c_25 => ?_) (fun c_25 => ?_)
        · refine o_aload_n hC dX8_comes_46 (by rfl) ?_
          refine o_getf hC (fX8_46 hC rfl) dX8_comes_47 (by repeat (first | with_reducible assumption | (rw [rl_u_s]; done) | (rw [rl_u_s]; rfl) | rw [rl_u_n (by first | with_reducible assumption | omega)])) (by first | rfl | with_reducible assumption) ?_
          refine o_iload_n hC dX8_comes_50 (by rfl) ?_
          obtain ⟨t0, ht0, et0⟩ := b13 a (by omega)
          refine o_ialdN (t0 := 0) (k := a) hC rfl dX8_comes_51 (by repeat (first | with_reducible assumption | (rw [rl_u_s]; done) | (rw [rl_u_s]; rfl) | rw [rl_u_n (by first | with_reducible assumption | omega)])) (by omega) (by decide) ?_
          rw [et0]
          refine o_bipush (v := nI 80) hC dX8_comes_52 (by decide +kernel) ?_
          refine o_icmp_ne (tgt := 63) hC dX8_comes_54 (by decide) (fun c_54 => ?_) (fun c_54 => ?_)
          · have t80 : t0 ≠ 80 := fun e => c_54 (by rw [e])
            refine o_aload_n hC dX8_comes_63 (by rfl) ?_
            refine o_getf hC (fX8_46 hC rfl) dX8_comes_64 (by repeat (first | with_reducible assumption | (rw [rl_u_s]; done) | (rw [rl_u_s]; rfl) | rw [rl_u_n (by first | with_reducible assumption | omega)])) (by first | rfl | with_reducible assumption) ?_
            refine o_iload_n hC dX8_comes_67 (by rfl) ?_
            refine o_ialdN (t0 := 0) (k := a) hC rfl dX8_comes_68 (by repeat (first | with_reducible assumption | (rw [rl_u_s]; done) | (rw [rl_u_s]; rfl) | rw [rl_u_n (by first | with_reducible assumption | omega)])) (by omega) (by decide) ?_
            rw [et0]
            refine o_istore hC dX8_comes_69 (Nat.le_of_ble_eq_true rfl) ?_
            have loopD : ∀ (mm c p : Nat) (h1 : rl_H) (o3 : Option Value), c + mm = 6 → p < 80 → mq ids h_19 h1 m T fu k → h1 (m + 13) = some (.inl (ids 0, 17, .inl tu)) → rl_G X (rl_e D ids H0) 171 [some (.ref m), some (.int (nI a)), some (.int (nI b)), o3, some (.int (nI p)), some (.int (nI c))] [] h1 n_19 0 0 := by
              intro mm
              induction mm with
              | zero =>
                intro c p h1 o3 hm hp hq1 e13
                obtain ⟨g0, gk, ⟨⟨cl, g12⟩, -, ⟨im, g14⟩, ⟨te, g15, b15⟩, ⟨ne, g16⟩, ⟨la, g17⟩, ⟨hn, g18⟩, ⟨hl, g19⟩, ⟨tp, g20⟩, ⟨gr, g21, b21⟩, ⟨it, g22⟩⟩, gf⟩ := id hq1
                refine o_iload hC dX8_comes_171 (by rfl) ?_
                refine o_bipush (v := nI 6) hC dX8_comes_173 (by decide +kernel) ?_
                refine o_icmp_ge (tgt := 209) hC dX8_comes_175 (by decide) (fun c_175 => ?_) (fun c_175 => ?_)
                · refine o_aload_n hC dX8_comes_209 (by rfl) ?_
                  refine o_bipush (v := nI 80) hC dX8_comes_210 (by decide +kernel) ?_
                  refine o_iload_n hC dX8_comes_212 (by rfl) ?_
                  refine o_imul hC dX8_comes_213 ?_
                  try rw [nI_mul]
                  refine o_iload hC dX8_comes_214 (by rfl) ?_
                  refine o_iadd hC dX8_comes_216 ?_
                  try rw [nI_add]
                  refine o_iload_n hC dX8_comes_217 (by rfl) ?_
                  refine o_callV2 hC rl_BW_good rl_Ns_nw (by exact hB.2.2.2.2.2) YX8_copy IX8_copy VX8_copy (mX8_153 hC) (by rw [hB.1]; exact cm_X8_copy l D ids H0 _ _ m T _ _ (80 * a + p) b hq1.rf (by omega) (by omega)) (by exact hq1.1) rfl rfl (Nat.le_of_ble_eq_true rfl) (by rw [hB.2.1]; first | exact Nat.le_of_ble_eq_true rfl | (dsimp only; omega)) (by rw [hB.2.1]; first | exact Nat.le_of_ble_eq_true rfl | (dsimp only; omega)) (by rw [hB.2.1]; first | exact Nat.le_of_ble_eq_true rfl | (dsimp only; omega)) (by rw [hB.2.1]; first | exact Nat.le_of_ble_eq_true rfl | (dsimp only; omega)) dX8_comes_218 (fun v h_218 n_218 p_218 => ?_)
                  obtain ⟨rfl, rfl, q218, f218⟩ := p_218
                  have gb218 := q218.1
                  try dsimp only [Option.toList, List.cons_append, List.nil_append]
                  refine o_aload_n hC dX8_comes_221 (by rfl) ?_
                  refine o_getf hC (fX8_46 hC rfl) dX8_comes_222 (by repeat (first | with_reducible assumption | (rw [rl_u_s]; done) | (rw [rl_u_s]; rfl) | rw [rl_u_n (by first | with_reducible assumption | omega)])) (by first | rfl | with_reducible assumption) ?_
                  refine o_iload_n hC dX8_comes_225 (by rfl) ?_
                  refine o_dup2 hC dX8_comes_226 rfl rfl ?_
                  refine o_ialdN (t0 := 0) (k := a) hC rfl dX8_comes_227 ((f218 _ (by omega) (by omega) (by omega)).trans e13) (by omega) (by decide) ?_
                  rw [et0]
                  refine o_iconst (v := nI 1) hC dX8_comes_228 (by decide +kernel) ?_
                  refine o_iadd hC dX8_comes_229 ?_
                  try rw [nI_add]
                  refine o_iastN (t0 := 0) (k := a) hC rfl dX8_comes_230 ((f218 _ (by omega) (by omega) (by omega)).trans e13) (by omega) (by decide) ?_
                  refine o_vret hC hB dX8_comes_231 (Nat.le_of_ble_eq_true rfl) (Nat.le_of_ble_eq_true rfl) ?_
                  exact ⟨rfl, rfl, _, _, (hq1.tr q218).s13 _ (md_bd b13 ⟨t0 + 1, by omega, rfl⟩)⟩
                · exact absurd (nI_le (by omega) (by omega)) c_175
              | succ mm ih =>
                intro c p h1 o3 hm hp hq1 e13
                obtain ⟨g0, gk, ⟨⟨cl, g12⟩, -, ⟨im, g14⟩, ⟨te, g15, b15⟩, ⟨ne, g16⟩, ⟨la, g17⟩, ⟨hn, g18⟩, ⟨hl, g19⟩, ⟨tp, g20⟩, ⟨gr, g21, b21⟩, ⟨it, g22⟩⟩, gf⟩ := id hq1
                refine o_iload hC dX8_comes_171 (by rfl) ?_
                refine o_bipush (v := nI 6) hC dX8_comes_173 (by decide +kernel) ?_
                refine o_icmp_ge (tgt := 209) hC dX8_comes_175 (by decide) (fun c_175 => ?_) (fun c_175 => ?_)
                · exact absurd c_175 (nI_ge (by omega) (by omega))
                · refine o_aload_n hC dX8_comes_178 (by rfl) ?_
                  refine o_getf hC (fX8_43 hC rfl) dX8_comes_179 (by repeat (first | with_reducible assumption | (rw [rl_u_s]; done) | (rw [rl_u_s]; rfl) | rw [rl_u_n (by first | with_reducible assumption | omega)])) (by first | rfl | with_reducible assumption) ?_
                  refine o_bipush (v := nI 80) hC dX8_comes_182 (by decide +kernel) ?_
                  refine o_iload_n hC dX8_comes_184 (by rfl) ?_
                  refine o_imul hC dX8_comes_185 ?_
                  try rw [nI_mul]
                  refine o_iload hC dX8_comes_186 (by rfl) ?_
                  refine o_iadd hC dX8_comes_188 ?_
                  try rw [nI_add]
                  refine o_bipush (v := nI 6) hC dX8_comes_189 (by decide +kernel) ?_
                  refine o_imul hC dX8_comes_191 ?_
                  try rw [nI_mul]
                  refine o_iload hC dX8_comes_192 (by rfl) ?_
                  refine o_iadd hC dX8_comes_194 ?_
                  try rw [nI_add]
                  refine o_aload_n hC dX8_comes_195 (by rfl) ?_
                  refine o_getf hC (fX8_69 hC rfl) dX8_comes_196 (by repeat (first | with_reducible assumption | (rw [rl_u_s]; done) | (rw [rl_u_s]; rfl) | rw [rl_u_n (by first | with_reducible assumption | omega)])) (by first | rfl | with_reducible assumption) ?_
                  refine o_iload hC dX8_comes_199 (by rfl) ?_
                  refine o_ialdN (t0 := 0) hC rfl dX8_comes_201 (by repeat (first | with_reducible assumption | (rw [rl_u_s]; done) | (rw [rl_u_s]; rfl) | rw [rl_u_n (by first | with_reducible assumption | omega)])) (by omega) (by decide) ?_
                  refine o_iastN (t0 := 0) hC rfl dX8_comes_202 (by repeat (first | with_reducible assumption | (rw [rl_u_s]; done) | (rw [rl_u_s]; rfl) | rw [rl_u_n (by first | with_reducible assumption | omega)])) (by omega) (by decide) ?_
                  refine o_iinc hC dX8_comes_203 (by rfl) (rl_inc _) (Nat.le_of_ble_eq_true rfl) ?_
                  refine o_goto (tgt := 171) hC dX8_comes_206 (by decide) ?_
                  exact ih (c + 1) p _ _ (by omega) hp (hq1.s12 _) (by rw [rl_u_n (by omega)]; exact e13)
            have loopP : ∀ (p : Nat) (h1 : rl_H) (o3 o5 : Option Value), p < 80 → mq ids h_19 h1 m T fu k → h1 (m + 13) = some (.inl (ids 0, 17, .inl tu)) → rl_G X (rl_e D ids H0) 71 [some (.ref m), some (.int (nI a)), some (.int (nI b)), o3, some (.int (nI p)), o5] [] h1 n_19 0 0 := by
              intro p
              induction p with
              | zero =>
                intro h1 o3 o5 hp hq1 e13
                refine o_iload hC dX8_comes_71 (by rfl) ?_
                refine o_if_le (tgt := 168) hC dX8_comes_73 (by decide) (fun c_73 => ?_) (fun c_73 => ?_)
                · refine o_iconst (v := nI 0) hC dX8_comes_168 (by decide +kernel) ?_
                  refine o_istore hC dX8_comes_169 (Nat.le_of_ble_eq_true rfl) ?_
                  exact loopD 6 0 _ _ _ (by omega) (by omega) hq1 e13
                · exact absurd (by decide +kernel) c_73
              | succ p ihp =>
                intro h1 o3 o5 hp hq1 e13
                have loopC : ∀ (mm c : Nat) (h2 : rl_H), c + mm = 6 → mq ids h_19 h2 m T fu k → h2 (m + 13) = some (.inl (ids 0, 17, .inl tu)) → rl_G X (rl_e D ids H0) 91 [some (.ref m), some (.int (nI a)), some (.int (nI b)), o3, some (.int (nI (p + 1))), some (.int (nI c))] [] h2 n_19 0 0 := by
                  intro mm
                  induction mm with
                  | zero =>
                    intro c h2 hm hq2 e13
                    obtain ⟨g0, gk, ⟨⟨cl, g12⟩, -, ⟨im, g14⟩, ⟨te, g15, b15⟩, ⟨ne, g16⟩, ⟨la, g17⟩, ⟨hn, g18⟩, ⟨hl, g19⟩, ⟨tp, g20⟩, ⟨gr, g21, b21⟩, ⟨it, g22⟩⟩, gf⟩ := id hq2
                    refine o_iload hC dX8_comes_91 (by rfl) ?_
                    refine o_bipush (v := nI 6) hC dX8_comes_93 (by decide +kernel) ?_
                    refine o_icmp_ge (tgt := 142) hC dX8_comes_95 (by decide) (fun c_95 => ?_) (fun c_95 => ?_)
                    · refine o_aload_n hC dX8_comes_142 (by rfl) ?_
                      refine o_bipush (v := nI 80) hC dX8_comes_143 (by decide +kernel) ?_
                      refine o_iload_n hC dX8_comes_145 (by rfl) ?_
                      refine o_imul hC dX8_comes_146 ?_
                      try rw [nI_mul]
                      refine o_iload hC dX8_comes_147 (by rfl) ?_
                      refine o_iadd hC dX8_comes_149 ?_
                      try rw [nI_add]
                      refine o_bipush (v := nI 80) hC dX8_comes_150 (by decide +kernel) ?_
                      refine o_iload_n hC dX8_comes_152 (by rfl) ?_
                      refine o_imul hC dX8_comes_153 ?_
                      try rw [nI_mul]
                      refine o_iload hC dX8_comes_154 (by rfl) ?_
                      refine o_iadd hC dX8_comes_156 ?_
                      try rw [nI_add]
                      refine o_iconst (v := nI 1) hC dX8_comes_157 (by decide +kernel) ?_
                      refine o_isub hC dX8_comes_158 ?_
                      rw [show nI (80 * a + (p + 1)) - nI 1 = nI (80 * a + p) from rl_pred _]
                      refine o_callV2 hC rl_BW_good rl_Ns_nw (by exact hB.2.2.2.2.2) YX8_copy IX8_copy VX8_copy (mX8_153 hC) (by rw [hB.1]; exact cm_X8_copy l D ids H0 _ _ m T _ _ (80 * a + (p + 1)) (80 * a + p) hq2.rf (by omega) (by omega)) (by exact hq2.1) rfl rfl (Nat.le_of_ble_eq_true rfl) (by rw [hB.2.1]; first | exact Nat.le_of_ble_eq_true rfl | (dsimp only; omega)) (by rw [hB.2.1]; first | exact Nat.le_of_ble_eq_true rfl | (dsimp only; omega)) (by rw [hB.2.1]; first | exact Nat.le_of_ble_eq_true rfl | (dsimp only; omega)) (by rw [hB.2.1]; first | exact Nat.le_of_ble_eq_true rfl | (dsimp only; omega)) dX8_comes_159 (fun v h_159 n_159 p_159 => ?_)
                      obtain ⟨rfl, rfl, q159, f159⟩ := p_159
                      have gb159 := q159.1
                      try dsimp only [Option.toList, List.cons_append, List.nil_append]
                      refine o_iinc hC dX8_comes_162 (by rfl) (rl_dec _) (Nat.le_of_ble_eq_true rfl) ?_
                      refine o_goto (tgt := 71) hC dX8_comes_165 (by decide) ?_
                      exact ihp _ _ _ (by omega) (hq2.tr q159) ((f159 _ (by omega) (by omega) (by omega)).trans e13)
                    · exact absurd (nI_le (by omega) (by omega)) c_95
                  | succ mm ih =>
                    intro c h2 hm hq2 e13
                    obtain ⟨g0, gk, ⟨⟨cl, g12⟩, -, ⟨im, g14⟩, ⟨te, g15, b15⟩, ⟨ne, g16⟩, ⟨la, g17⟩, ⟨hn, g18⟩, ⟨hl, g19⟩, ⟨tp, g20⟩, ⟨gr, g21, b21⟩, ⟨it, g22⟩⟩, gf⟩ := id hq2
                    refine o_iload hC dX8_comes_91 (by rfl) ?_
                    refine o_bipush (v := nI 6) hC dX8_comes_93 (by decide +kernel) ?_
                    refine o_icmp_ge (tgt := 142) hC dX8_comes_95 (by decide) (fun c_95 => ?_) (fun c_95 => ?_)
                    · exact absurd c_95 (nI_ge (by omega) (by omega))
                    · refine o_aload_n hC dX8_comes_98 (by rfl) ?_
                      refine o_getf hC (fX8_43 hC rfl) dX8_comes_99 (by repeat (first | with_reducible assumption | (rw [rl_u_s]; done) | (rw [rl_u_s]; rfl) | rw [rl_u_n (by first | with_reducible assumption | omega)])) (by first | rfl | with_reducible assumption) ?_
                      refine o_bipush (v := nI 80) hC dX8_comes_102 (by decide +kernel) ?_
                      refine o_iload_n hC dX8_comes_104 (by rfl) ?_
                      refine o_imul hC dX8_comes_105 ?_
                      try rw [nI_mul]
                      refine o_iload hC dX8_comes_106 (by rfl) ?_
                      refine o_iadd hC dX8_comes_108 ?_
                      try rw [nI_add]
                      refine o_bipush (v := nI 6) hC dX8_comes_109 (by decide +kernel) ?_
                      refine o_imul hC dX8_comes_111 ?_
                      try rw [nI_mul]
                      refine o_iload hC dX8_comes_112 (by rfl) ?_
                      refine o_iadd hC dX8_comes_114 ?_
                      try rw [nI_add]
                      refine o_aload_n hC dX8_comes_115 (by rfl) ?_
                      refine o_getf hC (fX8_43 hC rfl) dX8_comes_116 (by repeat (first | with_reducible assumption | (rw [rl_u_s]; done) | (rw [rl_u_s]; rfl) | rw [rl_u_n (by first | with_reducible assumption | omega)])) (by first | rfl | with_reducible assumption) ?_
                      refine o_bipush (v := nI 80) hC dX8_comes_119 (by decide +kernel) ?_
                      refine o_iload_n hC dX8_comes_121 (by rfl) ?_
                      refine o_imul hC dX8_comes_122 ?_
                      try rw [nI_mul]
                      refine o_iload hC dX8_comes_123 (by rfl) ?_
                      refine o_iadd hC dX8_comes_125 ?_
                      try rw [nI_add]
                      refine o_iconst (v := nI 1) hC dX8_comes_126 (by decide +kernel) ?_
                      refine o_isub hC dX8_comes_127 ?_
                      rw [show nI (80 * a + (p + 1)) - nI 1 = nI (80 * a + p) from rl_pred _]
                      refine o_bipush (v := nI 6) hC dX8_comes_128 (by decide +kernel) ?_
                      refine o_imul hC dX8_comes_130 ?_
                      try rw [nI_mul]
                      refine o_iload hC dX8_comes_131 (by rfl) ?_
                      refine o_iadd hC dX8_comes_133 ?_
                      try rw [nI_add]
                      refine o_ialdN (t0 := 0) hC rfl dX8_comes_134 (by repeat (first | with_reducible assumption | (rw [rl_u_s]; done) | (rw [rl_u_s]; rfl) | rw [rl_u_n (by first | with_reducible assumption | omega)])) (by omega) (by decide) ?_
                      refine o_iastN (t0 := 0) hC rfl dX8_comes_135 (by repeat (first | with_reducible assumption | (rw [rl_u_s]; done) | (rw [rl_u_s]; rfl) | rw [rl_u_n (by first | with_reducible assumption | omega)])) (by omega) (by decide) ?_
                      refine o_iinc hC dX8_comes_136 (by rfl) (rl_inc _) (Nat.le_of_ble_eq_true rfl) ?_
                      refine o_goto (tgt := 91) hC dX8_comes_139 (by decide) ?_
                      exact ih (c + 1) _ (by omega) (hq2.s12 _) (by rw [rl_u_n (by omega)]; exact e13)
                have hs1 := hq1.sa hs
                obtain ⟨g0, gk, ⟨⟨cl, g12⟩, -, ⟨im, g14⟩, ⟨te, g15, b15⟩, ⟨ne, g16⟩, ⟨la, g17⟩, ⟨hn, g18⟩, ⟨hl, g19⟩, ⟨tp, g20⟩, ⟨gr, g21, b21⟩, ⟨it, g22⟩⟩, gf⟩ := id hq1
                refine o_iload hC dX8_comes_71 (by rfl) ?_
                refine o_if_le (tgt := 168) hC dX8_comes_73 (by decide) (fun c_73 => ?_) (fun c_73 => ?_)
                · refine o_iconst (v := nI 0) hC dX8_comes_168 (by decide +kernel) ?_
                  refine o_istore hC dX8_comes_169 (Nat.le_of_ble_eq_true rfl) ?_
                  exact loopD 6 0 _ _ _ (by omega) (by omega) hq1 e13
                · refine o_aload_n hC dX8_comes_76 (by rfl) ?_
                  refine o_iload_n hC dX8_comes_77 (by rfl) ?_
                  refine o_iload hC dX8_comes_78 (by rfl) ?_
                  refine o_iconst (v := nI 1) hC dX8_comes_80 (by decide +kernel) ?_
                  refine o_isub hC dX8_comes_81 ?_
                  rw [show nI ((p + 1)) - nI 1 = nI (p) from rl_pred _]
                  refine o_callV2 hC rl_BW_good rl_Ns_nw (by exact hB.2.2.2.2.2) YX8_against IX8_against VX8_against (mX8_141 hC) (by rw [hB.1]; exact cm_X8_against l D ids H0 _ _ m T _ _ S a p w hq1.rf hs1 (by omega) (by omega) hw hw6) (by exact hq1.rf.1) rfl rfl (Nat.le_of_ble_eq_true rfl) (by rw [hB.2.1]; first | exact Nat.le_of_ble_eq_true rfl | (dsimp only; omega)) (by rw [hB.2.1]; first | exact Nat.le_of_ble_eq_true rfl | (dsimp only; omega)) (by rw [hB.2.1]; first | exact Nat.le_of_ble_eq_true rfl | (dsimp only; omega)) (by rw [hB.2.1]; first | exact Nat.le_of_ble_eq_true rfl | (dsimp only; omega)) dX8_comes_82 (fun v h_82 n_82 p_82 => ?_)
                  obtain ⟨r82, rfl, rfl, rfl⟩ := p_82
                  try dsimp only [Option.toList, List.cons_append, List.nil_append]
                  refine o_if_ge (tgt := 168) hC dX8_comes_85 (by decide) (fun c_85 => ?_) (fun c_85 => ?_)
                  · refine o_iconst (v := nI 0) hC dX8_comes_168 (by decide +kernel) ?_
                    refine o_istore hC dX8_comes_169 (Nat.le_of_ble_eq_true rfl) ?_
                    exact loopD 6 0 _ _ _ (by omega) (by omega) hq1 e13
                  · refine o_iconst (v := nI 0) hC dX8_comes_88 (by decide +kernel) ?_
                    refine o_istore hC dX8_comes_89 (Nat.le_of_ble_eq_true rfl) ?_
                    exact loopC 6 0 _ (by omega) hq1 e13
            exact loopP t0 _ _ _ (by omega) hq g13
          · refine o_aload_n hC dX8_comes_57 (by rfl) ?_
            refine o_iconst (v := nI 1) hC dX8_comes_58 (by decide +kernel) ?_
            refine o_putf hC (fX8_91 hC rfl) (fwX8 rfl rfl rfl (Or.inl rfl)) dX8_comes_59 (by repeat (first | with_reducible assumption | (rw [rl_u_s]; done) | (rw [rl_u_s]; rfl) | rw [rl_u_n (by first | with_reducible assumption | omega)])) (Nat.le_of_ble_eq_true rfl) ?_
            try simp only [List.set_cons_zero, List.set_cons_succ]
            refine o_vret hC hB dX8_comes_62 (Nat.le_of_ble_eq_true rfl) (Nat.le_of_ble_eq_true rfl) ?_
            exact ⟨rfl, rfl, _, _, hq.ob T (nI 1) k gk⟩
        · exact absurd rfl c_25
      · try dsimp only [Option.toList, List.cons_append, List.nil_append]
        refine o_istore_n hC dX8_comes_22 (Nat.le_of_ble_eq_true rfl) ?_
        refine o_iload_n hC dX8_comes_23 (by rfl) ?_
        refine o_iconst (v := (-1 : Int32)) hC dX8_comes_24 (by decide +kernel) ?_
        refine o_icmp_eq (tgt := 46) hC dX8_comes_25 (by decide) (fun c_25 => ?_) (fun c_25 => ?_)
        · exact absurd c_25 (fun e => absurd (e ▸ (show (-1 : Int32) < 0 by decide +kernel)) (nI_pos (by omega)))
        · refine o_aload_n hC dX8_comes_28 (by rfl) ?_
          refine o_bipush (v := nI 80) hC dX8_comes_29 (by decide +kernel) ?_
          refine o_iload_n hC dX8_comes_31 (by rfl) ?_
          refine o_imul hC dX8_comes_32 ?_
          try rw [nI_mul]
          refine o_iload_n hC dX8_comes_33 (by rfl) ?_
          refine o_iadd hC dX8_comes_34 ?_
          try rw [nI_add]
          refine o_bipush (v := nI 80) hC dX8_comes_35 (by decide +kernel) ?_
          refine o_iload_n hC dX8_comes_37 (by rfl) ?_
          refine o_imul hC dX8_comes_38 ?_
          try rw [nI_mul]
          refine o_iload_n hC dX8_comes_39 (by rfl) ?_
          refine o_iadd hC dX8_comes_40 ?_
          try rw [nI_add]
          refine o_iload_n hC dX8_comes_41 (by rfl) ?_
          refine o_callV3 hC rl_BW_good rl_Ns_nw (by exact hB.2.2.2.2.2) YX8_either IX8_either VX8_either (mX8_149 hC) (by rw [hB.1]; exact cm_X8_either l D ids H0 _ _ m T _ _ (80 * a + t) (80 * a + t) b hq (by omega) (by omega) (by omega)) (by exact g0) rfl rfl (Nat.le_of_ble_eq_true rfl) (by rw [hB.2.1]; first | exact Nat.le_of_ble_eq_true rfl | (dsimp only; omega)) (by rw [hB.2.1]; first | exact Nat.le_of_ble_eq_true rfl | (dsimp only; omega)) (by rw [hB.2.1]; first | exact Nat.le_of_ble_eq_true rfl | (dsimp only; omega)) (by rw [hB.2.1]; first | exact Nat.le_of_ble_eq_true rfl | (dsimp only; omega)) dX8_comes_42 (fun v h_42 n_42 p_42 => ?_)
          obtain ⟨rfl, rfl, f9, k9, q9⟩ := p_42
          try dsimp only [Option.toList, List.cons_append, List.nil_append]
          refine o_vret hC hB dX8_comes_45 (Nat.le_of_ble_eq_true rfl) (Nat.le_of_ble_eq_true rfl) ?_
          exact ⟨rfl, rfl, _, _, q9⟩
    · refine o_vret hC hB dX8_comes_16 (Nat.le_of_ble_eq_true rfl) (Nat.le_of_ble_eq_true rfl) ?_
      exact ⟨rfl, rfl, _, _, hq⟩
end
section
/-! THE MODEL by shapes: what makes the tuples of a node -/

set_option maxHeartbeats 4000000 in
set_option maxRecDepth 100000 in
theorem cm_X8_makeUnite (l : Launch) (D : va_G) (ids : Nat → ClassId) (H0 : Heap) (h : rl_H) (n : Nat) (m : Nat) (T : md_T) (fu : Int32) (k : Nat) (S : md_A) (a b w wb : Nat) (hq : mq ids h h m T fu k) (hs : md_sa ids h m S) (ha : a < 16) (hb : b < 16) (hw : S.2.2.2.2.2.2.2.2.2.2 a = nI w) (hw6 : w ≤ 6) (hwb : S.2.2.2.2.2.2.2.2.2.2 b = nI wb) (hwb6 : wb ≤ 6)  : rl_Met l (rl_e D ids H0) rl_BW rl_Ns yX8_makeUnite cX8_makeUnite 4 none ({ frames := 4, cells := 0, slots := 0, locals := 98 }) [.ref m, .int (nI a), .int (nI b)] h n (fun v h' n' => v = none ∧ n' = n ∧ ∃ (fu' : Int32) (k' : Nat), mq ids h h' m T fu' k') := by
  refine rl_Met.of (by decide +kernel) (Nat.le_of_ble_eq_true rfl) ?_
  intro X hC hB
  have loop : ∀ (mm t : Nat) (h1 : rl_H) (f1 : Int32) (k1 : Nat), t + mm = 80 → mq ids h h1 m T f1 k1 → rl_G X (rl_e D ids H0) 2 [some (.ref m), some (.int (nI a)), some (.int (nI b)), some (.int (nI t))] [] h1 n 0 0 := by
    intro mm
    induction mm with
    | zero =>
      intro t h1 f1 k1 hm hq1
      have hs1 := hq1.sa hs
      obtain ⟨g0, gk, ⟨⟨cl, g12⟩, ⟨tu, g13, b13⟩, ⟨im, g14⟩, ⟨te, g15, b15⟩, ⟨ne, g16⟩, ⟨la, g17⟩, ⟨hn, g18⟩, ⟨hl, g19⟩, ⟨tp, g20⟩, ⟨gr, g21, b21⟩, ⟨it, g22⟩⟩, gf⟩ := id hq1
      obtain ⟨a1, a2, a3, a4, a5, a6, a7, a8, a9, a10, a11⟩ := id hs1
      refine o_iload_n hC dX8_makeUnite_2 (by rfl) ?_
      refine o_aload_n hC dX8_makeUnite_3 (by rfl) ?_
      refine o_getf hC (fX8_46 hC rfl) dX8_makeUnite_4 (by repeat (first | with_reducible assumption | (rw [rl_u_s]; done) | (rw [rl_u_s]; rfl) | rw [rl_u_n (by first | with_reducible assumption | omega)])) (by first | rfl | with_reducible assumption) ?_
      refine o_iload_n hC dX8_makeUnite_7 (by rfl) ?_
      obtain ⟨t8, ht8, et8⟩ := b13 b (by omega)
      refine o_ialdN (t0 := 0) (k := b) hC rfl dX8_makeUnite_8 (by repeat (first | with_reducible assumption | (rw [rl_u_s]; done) | (rw [rl_u_s]; rfl) | rw [rl_u_n (by first | with_reducible assumption | omega)])) (by omega) (by decide) ?_
      rw [et8]
      refine o_icmp_ge (tgt := 48) hC dX8_makeUnite_9 (by decide) (fun c_9 => ?_) (fun c_9 => ?_)
      · refine o_vret hC hB dX8_makeUnite_48 (Nat.le_of_ble_eq_true rfl) (Nat.le_of_ble_eq_true rfl) ?_
        exact ⟨rfl, rfl, _, _, hq1⟩
      · exact absurd (nI_le (by omega) (by omega)) c_9
    | succ mm ih =>
      intro t h1 f1 k1 hm hq1
      have hs1 := hq1.sa hs
      obtain ⟨g0, gk, ⟨⟨cl, g12⟩, ⟨tu, g13, b13⟩, ⟨im, g14⟩, ⟨te, g15, b15⟩, ⟨ne, g16⟩, ⟨la, g17⟩, ⟨hn, g18⟩, ⟨hl, g19⟩, ⟨tp, g20⟩, ⟨gr, g21, b21⟩, ⟨it, g22⟩⟩, gf⟩ := id hq1
      obtain ⟨a1, a2, a3, a4, a5, a6, a7, a8, a9, a10, a11⟩ := id hs1
      refine o_iload_n hC dX8_makeUnite_2 (by rfl) ?_
      refine o_aload_n hC dX8_makeUnite_3 (by rfl) ?_
      refine o_getf hC (fX8_46 hC rfl) dX8_makeUnite_4 (by repeat (first | with_reducible assumption | (rw [rl_u_s]; done) | (rw [rl_u_s]; rfl) | rw [rl_u_n (by first | with_reducible assumption | omega)])) (by first | rfl | with_reducible assumption) ?_
      refine o_iload_n hC dX8_makeUnite_7 (by rfl) ?_
      obtain ⟨t8, ht8, et8⟩ := b13 b (by omega)
      refine o_ialdN (t0 := 0) (k := b) hC rfl dX8_makeUnite_8 (by repeat (first | with_reducible assumption | (rw [rl_u_s]; done) | (rw [rl_u_s]; rfl) | rw [rl_u_n (by first | with_reducible assumption | omega)])) (by omega) (by decide) ?_
      rw [et8]
      refine o_icmp_ge (tgt := 48) hC dX8_makeUnite_9 (by decide) (fun c_9 => ?_) (fun c_9 => ?_)
      · refine o_vret hC hB dX8_makeUnite_48 (Nat.le_of_ble_eq_true rfl) (Nat.le_of_ble_eq_true rfl) ?_
        exact ⟨rfl, rfl, _, _, hq1⟩
      · refine o_aload_n hC dX8_makeUnite_12 (by rfl) ?_
        refine o_getf hC (fX8_91 hC rfl) dX8_makeUnite_13 (by repeat (first | with_reducible assumption | (rw [rl_u_s]; done) | (rw [rl_u_s]; rfl) | rw [rl_u_n (by first | with_reducible assumption | omega)])) (by first | rfl | with_reducible assumption) ?_
        refine o_if_ne (tgt := 48) hC dX8_makeUnite_16 (by decide) (fun c_16 => ?_) (fun c_16 => ?_)
        · refine o_vret hC hB dX8_makeUnite_48 (Nat.le_of_ble_eq_true rfl) (Nat.le_of_ble_eq_true rfl) ?_
          exact ⟨rfl, rfl, _, _, hq1⟩
        · refine o_aload_n hC dX8_makeUnite_19 (by rfl) ?_
          refine o_iload_n hC dX8_makeUnite_20 (by rfl) ?_
          refine o_iload_n hC dX8_makeUnite_21 (by rfl) ?_
          refine o_aload_n hC dX8_makeUnite_22 (by rfl) ?_
          refine o_getf hC (fX8_40 hC rfl) dX8_makeUnite_23 (by repeat (first | with_reducible assumption | (rw [rl_u_s]; done) | (rw [rl_u_s]; rfl) | rw [rl_u_n (by first | with_reducible assumption | omega)])) (by first | rfl | with_reducible assumption) ?_
          refine o_iload_n hC dX8_makeUnite_26 (by rfl) ?_
          refine o_ialdN (t0 := 0) (k := b) hC rfl dX8_makeUnite_27 (by repeat (first | with_reducible assumption | (rw [rl_u_s]; done) | (rw [rl_u_s]; rfl) | rw [rl_u_n (by first | with_reducible assumption | omega)])) (by omega) (by decide) ?_
          rw [hwb]
          refine o_callV3 hC rl_BW_good rl_Ns_nw (by exact hB.2.2.2.2.2) YX8_take IX8_take VX8_take (mX8_181 hC) (by rw [hB.1]; exact cm_X8_take l D ids H0 _ _ m T _ _ b t wb hq1.rf (by omega) (by omega) hwb6) (by exact hq1.1) rfl rfl (Nat.le_of_ble_eq_true rfl) (by rw [hB.2.1]; first | exact Nat.le_of_ble_eq_true rfl | (dsimp only; omega)) (by rw [hB.2.1]; first | exact Nat.le_of_ble_eq_true rfl | (dsimp only; omega)) (by rw [hB.2.1]; first | exact Nat.le_of_ble_eq_true rfl | (dsimp only; omega)) (by rw [hB.2.1]; first | exact Nat.le_of_ble_eq_true rfl | (dsimp only; omega)) dX8_makeUnite_28 (fun v h_28 n_28 p_28 => ?_)
          obtain ⟨rfl, rfl, q28⟩ := p_28
          have hq2 := hq1.tr q28
          have hs2 := hq2.sa hs
          try dsimp only [Option.toList, List.cons_append, List.nil_append]
          refine o_aload_n hC dX8_makeUnite_31 (by rfl) ?_
          refine o_iload_n hC dX8_makeUnite_32 (by rfl) ?_
          refine o_bipush (v := nI 80) hC dX8_makeUnite_33 (by decide +kernel) ?_
          refine o_iload_n hC dX8_makeUnite_35 (by rfl) ?_
          refine o_imul hC dX8_makeUnite_36 ?_
          try rw [nI_mul]
          refine o_iload_n hC dX8_makeUnite_37 (by rfl) ?_
          refine o_iadd hC dX8_makeUnite_38 ?_
          try rw [nI_add]
          refine o_callV2 hC rl_BW_good rl_Ns_nw (by exact hB.2.2.2.2.2) YX8_comes IX8_comes VX8_comes (mX8_178 hC) (by rw [hB.1]; exact cm_X8_comes l D ids H0 _ _ m T _ _ S a (80 * b + t) w hq2.rf hs2 (by omega) (by omega) hw hw6) (by exact hq2.1) rfl rfl (Nat.le_of_ble_eq_true rfl) (by rw [hB.2.1]; first | exact Nat.le_of_ble_eq_true rfl | (dsimp only; omega)) (by rw [hB.2.1]; first | exact Nat.le_of_ble_eq_true rfl | (dsimp only; omega)) (by rw [hB.2.1]; first | exact Nat.le_of_ble_eq_true rfl | (dsimp only; omega)) (by rw [hB.2.1]; first | exact Nat.le_of_ble_eq_true rfl | (dsimp only; omega)) dX8_makeUnite_39 (fun v h_39 n_39 p_39 => ?_)
          obtain ⟨rfl, rfl, f39, k39, q39⟩ := p_39
          try dsimp only [Option.toList, List.cons_append, List.nil_append]
          refine o_iinc hC dX8_makeUnite_42 (by rfl) (rl_inc _) (Nat.le_of_ble_eq_true rfl) ?_
          refine o_goto (tgt := 2) hC dX8_makeUnite_45 (by decide) ?_
          exact ih (t + 1) _ _ _ (by omega) (hq2.tr q39)
  show rl_G X (rl_e D ids H0) 0 [some (.ref m), some (.int (nI a)), some (.int (nI b)), none] [] h n 0 0
  refine o_iconst (v := nI 0) hC dX8_makeUnite_0 (by decide +kernel) ?_
  refine o_istore_n hC dX8_makeUnite_1 (Nat.le_of_ble_eq_true rfl) ?_
  exact loop 80 0 _ _ _ (by omega) hq

set_option maxHeartbeats 4000000 in
set_option maxRecDepth 100000 in
theorem cm_X8_makeScan (l : Launch) (D : va_G) (ids : Nat → ClassId) (H0 : Heap) (h : rl_H) (n : Nat) (m : Nat) (T : md_T) (fu : Int32) (k : Nat) (S : md_A) (a w rr : Nat) (q : Int32) (hq : mq ids h h m T fu k) (hs : md_sa ids h m S) (ha : a < 16) (hw : S.2.2.2.2.2.2.2.2.2.2 a = nI w) (hw6 : w ≤ 6) (hrr : T.2.2.1 = nI rr) (hr36 : rr ≤ 36) : rl_Met l (rl_e D ids H0) rl_BW rl_Ns yX8_makeScan cX8_makeScan 5 none ({ frames := 4, cells := 0, slots := 0, locals := 98 }) [.ref m, .int (nI a), .int q] h n (fun v h' n' => v = none ∧ n' = n ∧ ∃ (fu' : Int32) (k' : Nat), mq ids h h' m T fu' k') := by
  refine rl_Met.of (by decide +kernel) (Nat.le_of_ble_eq_true rfl) ?_
  intro X hC hB
  have loop : ∀ (mm t : Nat) (h1 : rl_H) (f1 : Int32) (k1 : Nat) (o4 : Option Value), t + mm = rr → mq ids h h1 m T f1 k1 → rl_G X (rl_e D ids H0) 2 [some (.ref m), some (.int (nI a)), some (.int q), some (.int (nI t)), o4] [] h1 n 0 0 := by
    intro mm
    induction mm with
    | zero =>
      intro t h1 f1 k1 o4 hm hq1
      have hs1 := hq1.sa hs
      obtain ⟨g0, gk, ⟨⟨cl, g12⟩, ⟨tu, g13, b13⟩, ⟨im, g14⟩, ⟨te, g15, b15⟩, ⟨ne, g16⟩, ⟨la, g17⟩, ⟨hn, g18⟩, ⟨hl, g19⟩, ⟨tp, g20⟩, ⟨gr, g21, b21⟩, ⟨it, g22⟩⟩, gf⟩ := id hq1
      obtain ⟨a1, a2, a3, a4, a5, a6, a7, a8, a9, a10, a11⟩ := id hs1
      refine o_iload_n hC dX8_makeScan_2 (by rfl) ?_
      refine o_aload_n hC dX8_makeScan_3 (by rfl) ?_
      refine o_getf hC (fX8_112 hC rfl) dX8_makeScan_4 (by repeat (first | with_reducible assumption | (rw [rl_u_s]; done) | (rw [rl_u_s]; rfl) | rw [rl_u_n (by first | with_reducible assumption | omega)])) (by first | rfl | with_reducible assumption) ?_
      rw [hrr]
      refine o_icmp_ge (tgt := 92) hC dX8_makeScan_7 (by decide) (fun c_7 => ?_) (fun c_7 => ?_)
      · refine o_vret hC hB dX8_makeScan_92 (Nat.le_of_ble_eq_true rfl) (Nat.le_of_ble_eq_true rfl) ?_
        exact ⟨rfl, rfl, _, _, hq1⟩
      · exact absurd (nI_le (by omega) (by omega)) c_7
    | succ mm ih =>
      intro t h1 f1 k1 o4 hm hq1
      have loopC : ∀ (m2 c : Nat) (h2 : rl_H), c + m2 = 4 → mq ids h h2 m T f1 k1 → rl_G X (rl_e D ids H0) 30 [some (.ref m), some (.int (nI a)), some (.int q), some (.int (nI t)), some (.int (nI c))] [] h2 n 0 0 := by
        intro m2
        induction m2 with
        | zero =>
          intro c h2 hm2 hq2
          refine o_iload hC dX8_makeScan_30 (by rfl) ?_
          refine o_iconst (v := nI 4) hC dX8_makeScan_32 (by decide +kernel) ?_
          refine o_icmp_ge (tgt := 60) hC dX8_makeScan_33 (by decide) (fun c_33 => ?_) (fun c_33 => ?_)
          · refine o_aload_n hC dX8_makeScan_60 (by rfl) ?_
            refine o_sipush (v := nI 1360) hC dX8_makeScan_61 (by decide +kernel) ?_
            refine o_callV1 hC rl_BW_good rl_Ns_nw (by exact hB.2.2.2.2.2) YX8_truth IX8_truth VX8_truth (mX8_103 hC) (by rw [hB.1]; exact cm_X8_truth l D ids H0 _ _ m T _ _ 1360 hq2.rf (by decide)) (by exact hq2.1) rfl rfl (Nat.le_of_ble_eq_true rfl) (by rw [hB.2.1]; first | exact Nat.le_of_ble_eq_true rfl | (dsimp only; omega)) (by rw [hB.2.1]; first | exact Nat.le_of_ble_eq_true rfl | (dsimp only; omega)) (by rw [hB.2.1]; first | exact Nat.le_of_ble_eq_true rfl | (dsimp only; omega)) (by rw [hB.2.1]; first | exact Nat.le_of_ble_eq_true rfl | (dsimp only; omega)) dX8_makeScan_64 (fun v h_64 n_64 p_64 => ?_)
            obtain ⟨rfl, rfl, q64⟩ := p_64
            have hq3 := hq2.tr q64
            obtain ⟨ne3, g163⟩ := hq3.2.2.1.2.2.2.2.1
            have g03 := hq3.1
            try dsimp only [Option.toList, List.cons_append, List.nil_append]
            refine o_aload_n hC dX8_makeScan_67 (by rfl) ?_
            refine o_getf hC (fX8_56 hC rfl) dX8_makeScan_68 (by repeat (first | with_reducible assumption | (rw [rl_u_s]; done) | (rw [rl_u_s]; rfl) | rw [rl_u_n (by first | with_reducible assumption | omega)])) (by first | rfl | with_reducible assumption) ?_
            refine o_sipush (v := nI 16320) hC dX8_makeScan_71 (by decide +kernel) ?_
            refine o_lconst (v := 1) hC dX8_makeScan_74 (by decide +kernel) ?_
            refine o_iload_n hC dX8_makeScan_75 (by rfl) ?_
            refine o_lshl hC dX8_makeScan_76 ?_
            refine o_lastN (t0 := 1) hC rfl dX8_makeScan_77 (by repeat (first | with_reducible assumption | (rw [rl_u_s]; done) | (rw [rl_u_s]; rfl) | rw [rl_u_n (by first | with_reducible assumption | omega)])) (by omega) (by decide) ?_
            have hq4 := hq3.s16 (vp_updL ne3 16320 ((1 : Int64) <<< ((nI t).toInt64 &&& 63)))
            have hs4 := hq4.sa hs
            refine o_aload_n hC dX8_makeScan_78 (by rfl) ?_
            refine o_iload_n hC dX8_makeScan_79 (by rfl) ?_
            refine o_sipush (v := nI 1360) hC dX8_makeScan_80 (by decide +kernel) ?_
            refine o_callV2 hC rl_BW_good rl_Ns_nw (by exact hB.2.2.2.2.2) YX8_comes IX8_comes VX8_comes (mX8_178 hC) (by rw [hB.1]; exact cm_X8_comes l D ids H0 _ _ m T _ _ S a 1360 w hq4.rf hs4 (by omega) (by omega) hw hw6) (by exact hq4.1) rfl rfl (Nat.le_of_ble_eq_true rfl) (by rw [hB.2.1]; first | exact Nat.le_of_ble_eq_true rfl | (dsimp only; omega)) (by rw [hB.2.1]; first | exact Nat.le_of_ble_eq_true rfl | (dsimp only; omega)) (by rw [hB.2.1]; first | exact Nat.le_of_ble_eq_true rfl | (dsimp only; omega)) (by rw [hB.2.1]; first | exact Nat.le_of_ble_eq_true rfl | (dsimp only; omega)) dX8_makeScan_83 (fun v h_83 n_83 p_83 => ?_)
            obtain ⟨rfl, rfl, f83, k83, q83⟩ := p_83
            try dsimp only [Option.toList, List.cons_append, List.nil_append]
            refine o_iinc hC dX8_makeScan_86 (by rfl) (rl_inc _) (Nat.le_of_ble_eq_true rfl) ?_
            refine o_goto (tgt := 2) hC dX8_makeScan_89 (by decide) ?_
            exact ih (t + 1) _ _ _ _ (by omega) (hq4.tr q83)
          · exact absurd (nI_le (by omega) (by omega)) c_33
        | succ m2 ih2 =>
          intro c h2 hm2 hq2
          have hs1 := hq2.sa hs
          obtain ⟨g0, gk, ⟨⟨cl, g12⟩, ⟨tu, g13, b13⟩, ⟨im, g14⟩, ⟨te, g15, b15⟩, ⟨ne, g16⟩, ⟨la, g17⟩, ⟨hn, g18⟩, ⟨hl, g19⟩, ⟨tp, g20⟩, ⟨gr, g21, b21⟩, ⟨it, g22⟩⟩, gf⟩ := id hq2
          obtain ⟨a1, a2, a3, a4, a5, a6, a7, a8, a9, a10, a11⟩ := id hs1
          refine o_iload hC dX8_makeScan_30 (by rfl) ?_
          refine o_iconst (v := nI 4) hC dX8_makeScan_32 (by decide +kernel) ?_
          refine o_icmp_ge (tgt := 60) hC dX8_makeScan_33 (by decide) (fun c_33 => ?_) (fun c_33 => ?_)
          · exact absurd c_33 (nI_ge (by omega) (by omega))
          · refine o_aload_n hC dX8_makeScan_36 (by rfl) ?_
            refine o_getf hC (fX8_69 hC rfl) dX8_makeScan_37 (by repeat (first | with_reducible assumption | (rw [rl_u_s]; done) | (rw [rl_u_s]; rfl) | rw [rl_u_n (by first | with_reducible assumption | omega)])) (by first | rfl | with_reducible assumption) ?_
            refine o_iload hC dX8_makeScan_40 (by rfl) ?_
            refine o_aload_n hC dX8_makeScan_42 (by rfl) ?_
            refine o_getf hC (fX8_16 hC rfl) dX8_makeScan_43 (by repeat (first | with_reducible assumption | (rw [rl_u_s]; done) | (rw [rl_u_s]; rfl) | rw [rl_u_n (by first | with_reducible assumption | omega)])) (by first | rfl | with_reducible assumption) ?_
            refine o_iconst (v := nI 4) hC dX8_makeScan_46 (by decide +kernel) ?_
            refine o_iload_n hC dX8_makeScan_47 (by rfl) ?_
            refine o_imul hC dX8_makeScan_48 ?_
            try rw [nI_mul]
            refine o_iload hC dX8_makeScan_49 (by rfl) ?_
            refine o_iadd hC dX8_makeScan_51 ?_
            try rw [nI_add]
            refine o_ialdN (t0 := 0) hC rfl dX8_makeScan_52 (by repeat (first | with_reducible assumption | (rw [rl_u_s]; done) | (rw [rl_u_s]; rfl) | rw [rl_u_n (by first | with_reducible assumption | omega)])) (by omega) (by decide) ?_
            refine o_iastN (t0 := 0) hC rfl dX8_makeScan_53 (by repeat (first | with_reducible assumption | (rw [rl_u_s]; done) | (rw [rl_u_s]; rfl) | rw [rl_u_n (by first | with_reducible assumption | omega)])) (by omega) (by decide) ?_
            refine o_iinc hC dX8_makeScan_54 (by rfl) (rl_inc _) (Nat.le_of_ble_eq_true rfl) ?_
            refine o_goto (tgt := 30) hC dX8_makeScan_57 (by decide) ?_
            exact ih2 (c + 1) _ (by omega) (hq2.s20 _)
      have hs1 := hq1.sa hs
      obtain ⟨g0, gk, ⟨⟨cl, g12⟩, ⟨tu, g13, b13⟩, ⟨im, g14⟩, ⟨te, g15, b15⟩, ⟨ne, g16⟩, ⟨la, g17⟩, ⟨hn, g18⟩, ⟨hl, g19⟩, ⟨tp, g20⟩, ⟨gr, g21, b21⟩, ⟨it, g22⟩⟩, gf⟩ := id hq1
      obtain ⟨a1, a2, a3, a4, a5, a6, a7, a8, a9, a10, a11⟩ := id hs1
      refine o_iload_n hC dX8_makeScan_2 (by rfl) ?_
      refine o_aload_n hC dX8_makeScan_3 (by rfl) ?_
      refine o_getf hC (fX8_112 hC rfl) dX8_makeScan_4 (by repeat (first | with_reducible assumption | (rw [rl_u_s]; done) | (rw [rl_u_s]; rfl) | rw [rl_u_n (by first | with_reducible assumption | omega)])) (by first | rfl | with_reducible assumption) ?_
      rw [hrr]
      refine o_icmp_ge (tgt := 92) hC dX8_makeScan_7 (by decide) (fun c_7 => ?_) (fun c_7 => ?_)
      · first | exact absurd c_7 (nI_ge (by omega) (by omega)) | (refine o_vret hC hB dX8_makeScan_92 (Nat.le_of_ble_eq_true rfl) (Nat.le_of_ble_eq_true rfl) ?_; exact ⟨rfl, rfl, _, _, hq1⟩)
      · refine o_aload_n hC dX8_makeScan_10 (by rfl) ?_
        refine o_getf hC (fX8_91 hC rfl) dX8_makeScan_11 (by repeat (first | with_reducible assumption | (rw [rl_u_s]; done) | (rw [rl_u_s]; rfl) | rw [rl_u_n (by first | with_reducible assumption | omega)])) (by first | rfl | with_reducible assumption) ?_
        refine o_if_ne (tgt := 92) hC dX8_makeScan_14 (by decide) (fun c_14 => ?_) (fun c_14 => ?_)
        · first | exact absurd c_7 (nI_ge (by omega) (by omega)) | (refine o_vret hC hB dX8_makeScan_92 (Nat.le_of_ble_eq_true rfl) (Nat.le_of_ble_eq_true rfl) ?_; exact ⟨rfl, rfl, _, _, hq1⟩)
        · refine o_aload_n hC dX8_makeScan_17 (by rfl) ?_
          refine o_getf hC (fX8_13 hC rfl) dX8_makeScan_18 (by repeat (first | with_reducible assumption | (rw [rl_u_s]; done) | (rw [rl_u_s]; rfl) | rw [rl_u_n (by first | with_reducible assumption | omega)])) (by first | rfl | with_reducible assumption) ?_
          refine o_iload_n hC dX8_makeScan_21 (by rfl) ?_
          refine o_ialdN (t0 := 0) hC rfl dX8_makeScan_22 (by repeat (first | with_reducible assumption | (rw [rl_u_s]; done) | (rw [rl_u_s]; rfl) | rw [rl_u_n (by first | with_reducible assumption | omega)])) (by omega) (by decide) ?_
          refine o_iload_n hC dX8_makeScan_23 (by rfl) ?_
          refine o_icmp_ne (tgt := 86) hC dX8_makeScan_24 (by decide) (fun c_24 => ?_) (fun c_24 => ?_)
          · refine o_iinc hC dX8_makeScan_86 (by rfl) (rl_inc _) (Nat.le_of_ble_eq_true rfl) ?_
            refine o_goto (tgt := 2) hC dX8_makeScan_89 (by decide) ?_
            exact ih (t + 1) _ _ _ _ (by omega) hq1
          · refine o_iconst (v := nI 0) hC dX8_makeScan_27 (by decide +kernel) ?_
            refine o_istore hC dX8_makeScan_28 (Nat.le_of_ble_eq_true rfl) ?_
            exact loopC 4 0 _ (by omega) hq1
  show rl_G X (rl_e D ids H0) 0 [some (.ref m), some (.int (nI a)), some (.int q), none, none] [] h n 0 0
  refine o_iconst (v := nI 0) hC dX8_makeScan_0 (by decide +kernel) ?_
  refine o_istore_n hC dX8_makeScan_1 (Nat.le_of_ble_eq_true rfl) ?_
  exact loop rr 0 _ _ _ _ (by omega) hq

set_option maxHeartbeats 4000000 in
set_option maxRecDepth 100000 in
theorem cm_X8_makePick (l : Launch) (D : va_G) (ids : Nat → ClassId) (H0 : Heap) (h : rl_H) (n : Nat) (m : Nat) (T : md_T) (fu : Int32) (k : Nat) (S : md_A) (a b w wb ca : Nat) (hq : mq ids h h m T fu k) (hs : md_sa ids h m S) (ha : a < 16) (hb : b < 16) (hw : S.2.2.2.2.2.2.2.2.2.2 a = nI w) (hw6 : w ≤ 6) (hwb : S.2.2.2.2.2.2.2.2.2.2 b = nI wb) (hwb6 : wb ≤ 6) (hnA : S.2.2.2.2.2.2.1 a = nI ca) (hca : ca < 6) (hnC : S.2.2.2.2.2.2.2.2.1 a = -1 ∨ ∃ cc : Nat, cc < 6 ∧ S.2.2.2.2.2.2.2.2.1 a = nI cc) : rl_Met l (rl_e D ids H0) rl_BW rl_Ns yX8_makePick cX8_makePick 7 none ({ frames := 4, cells := 0, slots := 0, locals := 98 }) [.ref m, .int (nI a), .int (nI b)] h n (fun v h' n' => v = none ∧ n' = n ∧ ∃ (fu' : Int32) (k' : Nat), mq ids h h' m T fu' k') := by
  refine rl_Met.of (by decide +kernel) (Nat.le_of_ble_eq_true rfl) ?_
  intro X hC hB
  have loop : ∀ (mm t : Nat) (h1 : rl_H) (f1 : Int32) (k1 : Nat) (o4 o5 o6 : Option Value), t + mm = 80 → mq ids h h1 m T f1 k1 → rl_G X (rl_e D ids H0) 2 [some (.ref m), some (.int (nI a)), some (.int (nI b)), some (.int (nI t)), o4, o5, o6] [] h1 n 0 0 := by
    intro mm
    induction mm with
    | zero =>
      intro t h1 f1 k1 o4 o5 o6 hm hq1
      have hs1 := hq1.sa hs
      obtain ⟨g0, gk, ⟨⟨cl, g12⟩, ⟨tu, g13, b13⟩, ⟨im, g14⟩, ⟨te, g15, b15⟩, ⟨ne, g16⟩, ⟨la, g17⟩, ⟨hn, g18⟩, ⟨hl, g19⟩, ⟨tp, g20⟩, ⟨gr, g21, b21⟩, ⟨it, g22⟩⟩, gf⟩ := id hq1
      obtain ⟨a1, a2, a3, a4, a5, a6, a7, a8, a9, a10, a11⟩ := id hs1
      refine o_iload_n hC dX8_makePick_2 (by rfl) ?_
      refine o_aload_n hC dX8_makePick_3 (by rfl) ?_
      refine o_getf hC (fX8_46 hC rfl) dX8_makePick_4 (by repeat (first | with_reducible assumption | (rw [rl_u_s]; done) | (rw [rl_u_s]; rfl) | rw [rl_u_n (by first | with_reducible assumption | omega)])) (by first | rfl | with_reducible assumption) ?_
      refine o_iload_n hC dX8_makePick_7 (by rfl) ?_
      obtain ⟨t8, ht8, et8⟩ := b13 b (by omega)
      refine o_ialdN (t0 := 0) (k := b) hC rfl dX8_makePick_8 (by repeat (first | with_reducible assumption | (rw [rl_u_s]; done) | (rw [rl_u_s]; rfl) | rw [rl_u_n (by first | with_reducible assumption | omega)])) (by omega) (by decide) ?_
      rw [et8]
      refine o_icmp_ge (tgt := 156) hC dX8_makePick_9 (by decide) (fun c_9 => ?_) (fun c_9 => ?_)
      · refine o_vret hC hB dX8_makePick_156 (Nat.le_of_ble_eq_true rfl) (Nat.le_of_ble_eq_true rfl) ?_
        exact ⟨rfl, rfl, _, _, hq1⟩
      · exact absurd (nI_le (by omega) (by omega)) c_9
    | succ mm ih =>
      intro t h1 f1 k1 o4 o5 o6 hm hq1
      have go : ∀ (z : Int32) (o4 o5 : Option Value), rl_G X (rl_e D ids H0) 122 [some (.ref m), some (.int (nI a)), some (.int (nI b)), some (.int (nI t)), o4, o5, some (.int z)] [] h1 n 0 0 := by
        intro z o4 o5
        have hs1 := hq1.sa hs
        obtain ⟨g0, gk, ⟨⟨cl, g12⟩, ⟨tu, g13, b13⟩, ⟨im, g14⟩, ⟨te, g15, b15⟩, ⟨ne, g16⟩, ⟨la, g17⟩, ⟨hn, g18⟩, ⟨hl, g19⟩, ⟨tp, g20⟩, ⟨gr, g21, b21⟩, ⟨it, g22⟩⟩, gf⟩ := id hq1
        obtain ⟨a1, a2, a3, a4, a5, a6, a7, a8, a9, a10, a11⟩ := id hs1
        refine o_iload hC dX8_makePick_122 (by rfl) ?_
        refine o_if_eq (tgt := 150) hC dX8_makePick_124 (by decide) (fun c_124 => ?_) (fun c_124 => ?_)
        · refine o_iinc hC dX8_makePick_150 (by rfl) (rl_inc _) (Nat.le_of_ble_eq_true rfl) ?_
          refine o_goto (tgt := 2) hC dX8_makePick_153 (by decide) ?_
          first
          | exact ih (t + 1) _ _ _ _ _ _ (by omega) (hq2.tr q147)
          | exact ih (t + 1) _ _ _ _ _ _ (by omega) hq1
        · refine o_aload_n hC dX8_makePick_127 (by rfl) ?_
          refine o_iload_n hC dX8_makePick_128 (by rfl) ?_
          refine o_iload_n hC dX8_makePick_129 (by rfl) ?_
          refine o_aload_n hC dX8_makePick_130 (by rfl) ?_
          refine o_getf hC (fX8_40 hC rfl) dX8_makePick_131 (by repeat (first | with_reducible assumption | (rw [rl_u_s]; done) | (rw [rl_u_s]; rfl) | rw [rl_u_n (by first | with_reducible assumption | omega)])) (by first | rfl | with_reducible assumption) ?_
          refine o_iload_n hC dX8_makePick_134 (by rfl) ?_
          refine o_ialdN (t0 := 0) (k := b) hC rfl dX8_makePick_135 (by repeat (first | with_reducible assumption | (rw [rl_u_s]; done) | (rw [rl_u_s]; rfl) | rw [rl_u_n (by first | with_reducible assumption | omega)])) (by omega) (by decide) ?_
          rw [hwb]
          refine o_callV3 hC rl_BW_good rl_Ns_nw (by exact hB.2.2.2.2.2) YX8_take IX8_take VX8_take (mX8_181 hC) (by rw [hB.1]; exact cm_X8_take l D ids H0 _ _ m T _ _ b t wb hq1.rf (by omega) (by omega) hwb6) (by exact hq1.1) rfl rfl (Nat.le_of_ble_eq_true rfl) (by rw [hB.2.1]; first | exact Nat.le_of_ble_eq_true rfl | (dsimp only; omega)) (by rw [hB.2.1]; first | exact Nat.le_of_ble_eq_true rfl | (dsimp only; omega)) (by rw [hB.2.1]; first | exact Nat.le_of_ble_eq_true rfl | (dsimp only; omega)) (by rw [hB.2.1]; first | exact Nat.le_of_ble_eq_true rfl | (dsimp only; omega)) dX8_makePick_136 (fun v h_136 n_136 p_136 => ?_)
          obtain ⟨rfl, rfl, q136⟩ := p_136
          have hq2 := hq1.tr q136
          have hs2 := hq2.sa hs
          try dsimp only [Option.toList, List.cons_append, List.nil_append]
          refine o_aload_n hC dX8_makePick_139 (by rfl) ?_
          refine o_iload_n hC dX8_makePick_140 (by rfl) ?_
          refine o_bipush (v := nI 80) hC dX8_makePick_141 (by decide +kernel) ?_
          refine o_iload_n hC dX8_makePick_143 (by rfl) ?_
          refine o_imul hC dX8_makePick_144 ?_
          try rw [nI_mul]
          refine o_iload_n hC dX8_makePick_145 (by rfl) ?_
          refine o_iadd hC dX8_makePick_146 ?_
          try rw [nI_add]
          refine o_callV2 hC rl_BW_good rl_Ns_nw (by exact hB.2.2.2.2.2) YX8_comes IX8_comes VX8_comes (mX8_178 hC) (by rw [hB.1]; exact cm_X8_comes l D ids H0 _ _ m T _ _ S a (80 * b + t) w hq2.rf hs2 (by omega) (by omega) hw hw6) (by exact hq2.1) rfl rfl (Nat.le_of_ble_eq_true rfl) (by rw [hB.2.1]; first | exact Nat.le_of_ble_eq_true rfl | (dsimp only; omega)) (by rw [hB.2.1]; first | exact Nat.le_of_ble_eq_true rfl | (dsimp only; omega)) (by rw [hB.2.1]; first | exact Nat.le_of_ble_eq_true rfl | (dsimp only; omega)) (by rw [hB.2.1]; first | exact Nat.le_of_ble_eq_true rfl | (dsimp only; omega)) dX8_makePick_147 (fun v h_147 n_147 p_147 => ?_)
          obtain ⟨rfl, rfl, f147, k147, q147⟩ := p_147
          try dsimp only [Option.toList, List.cons_append, List.nil_append]
          refine o_iinc hC dX8_makePick_150 (by rfl) (rl_inc _) (Nat.le_of_ble_eq_true rfl) ?_
          refine o_goto (tgt := 2) hC dX8_makePick_153 (by decide) ?_
          first
          | exact ih (t + 1) _ _ _ _ _ _ (by omega) (hq2.tr q147)
          | exact ih (t + 1) _ _ _ _ _ _ (by omega) hq1
      have hs1 := hq1.sa hs
      obtain ⟨g0, gk, ⟨⟨cl, g12⟩, ⟨tu, g13, b13⟩, ⟨im, g14⟩, ⟨te, g15, b15⟩, ⟨ne, g16⟩, ⟨la, g17⟩, ⟨hn, g18⟩, ⟨hl, g19⟩, ⟨tp, g20⟩, ⟨gr, g21, b21⟩, ⟨it, g22⟩⟩, gf⟩ := id hq1
      obtain ⟨a1, a2, a3, a4, a5, a6, a7, a8, a9, a10, a11⟩ := id hs1
      refine o_iload_n hC dX8_makePick_2 (by rfl) ?_
      refine o_aload_n hC dX8_makePick_3 (by rfl) ?_
      refine o_getf hC (fX8_46 hC rfl) dX8_makePick_4 (by repeat (first | with_reducible assumption | (rw [rl_u_s]; done) | (rw [rl_u_s]; rfl) | rw [rl_u_n (by first | with_reducible assumption | omega)])) (by first | rfl | with_reducible assumption) ?_
      refine o_iload_n hC dX8_makePick_7 (by rfl) ?_
      obtain ⟨t8, ht8, et8⟩ := b13 b (by omega)
      refine o_ialdN (t0 := 0) (k := b) hC rfl dX8_makePick_8 (by repeat (first | with_reducible assumption | (rw [rl_u_s]; done) | (rw [rl_u_s]; rfl) | rw [rl_u_n (by first | with_reducible assumption | omega)])) (by omega) (by decide) ?_
      rw [et8]
      refine o_icmp_ge (tgt := 156) hC dX8_makePick_9 (by decide) (fun c_9 => ?_) (fun c_9 => ?_)
      · refine o_vret hC hB dX8_makePick_156 (Nat.le_of_ble_eq_true rfl) (Nat.le_of_ble_eq_true rfl) ?_
        exact ⟨rfl, rfl, _, _, hq1⟩
      · refine o_aload_n hC dX8_makePick_12 (by rfl) ?_
        refine o_iload_n hC dX8_makePick_13 (by rfl) ?_
        refine o_iload_n hC dX8_makePick_14 (by rfl) ?_
        refine o_aload_n hC dX8_makePick_15 (by rfl) ?_
        refine o_getf hC (fX8_28 hC rfl) dX8_makePick_16 (by repeat (first | with_reducible assumption | (rw [rl_u_s]; done) | (rw [rl_u_s]; rfl) | rw [rl_u_n (by first | with_reducible assumption | omega)])) (by first | rfl | with_reducible assumption) ?_
        refine o_iload_n hC dX8_makePick_19 (by rfl) ?_
        refine o_ialdN (t0 := 0) (k := a) hC rfl dX8_makePick_20 (by repeat (first | with_reducible assumption | (rw [rl_u_s]; done) | (rw [rl_u_s]; rfl) | rw [rl_u_n (by first | with_reducible assumption | omega)])) (by omega) (by decide) ?_
        rw [hnA]
        refine o_callV3 hC rl_BW_good rl_Ns_nw (by exact hB.2.2.2.2.2) YX8_cellAt IX8_cellAt VX8_cellAt (mX8_138 hC) (by rw [hB.1]; exact cm_X8_cellAt l D ids H0 _ _ m T _ _ b t ca hq1.rf (by omega)) (by exact hq1.rf.1) rfl rfl (Nat.le_of_ble_eq_true rfl) (by rw [hB.2.1]; first | exact Nat.le_of_ble_eq_true rfl | (dsimp only; omega)) (by rw [hB.2.1]; first | exact Nat.le_of_ble_eq_true rfl | (dsimp only; omega)) (by rw [hB.2.1]; first | exact Nat.le_of_ble_eq_true rfl | (dsimp only; omega)) (by rw [hB.2.1]; first | exact Nat.le_of_ble_eq_true rfl | (dsimp only; omega)) dX8_makePick_21 (fun v h_21 n_21 p_21 => ?_)
        obtain ⟨r21, rfl, rfl, rfl⟩ := p_21
        try dsimp only [Option.toList, List.cons_append, List.nil_append]
        refine o_istore hC dX8_makePick_24 (Nat.le_of_ble_eq_true rfl) ?_
        refine o_aload_n hC dX8_makePick_26 (by rfl) ?_
        refine o_getf hC (fX8_34 hC rfl) dX8_makePick_27 (by repeat (first | with_reducible assumption | (rw [rl_u_s]; done) | (rw [rl_u_s]; rfl) | rw [rl_u_n (by first | with_reducible assumption | omega)])) (by first | rfl | with_reducible assumption) ?_
        refine o_iload_n hC dX8_makePick_30 (by rfl) ?_
        refine o_ialdN (t0 := 0) hC rfl dX8_makePick_31 (by repeat (first | with_reducible assumption | (rw [rl_u_s]; done) | (rw [rl_u_s]; rfl) | rw [rl_u_n (by first | with_reducible assumption | omega)])) (by omega) (by decide) ?_
        refine o_iconst (v := (-1 : Int32)) hC dX8_makePick_32 (by decide +kernel) ?_
        refine o_icmp_ne (tgt := 45) hC dX8_makePick_33 (by decide) (fun c_33 => ?_) (fun c_33 => ?_)
        · refine o_aload_n hC dX8_makePick_45 (by rfl) ?_
          refine o_iload_n hC dX8_makePick_46 (by rfl) ?_
          refine o_iload_n hC dX8_makePick_47 (by rfl) ?_
          refine o_aload_n hC dX8_makePick_48 (by rfl) ?_
          refine o_getf hC (fX8_34 hC rfl) dX8_makePick_49 (by repeat (first | with_reducible assumption | (rw [rl_u_s]; done) | (rw [rl_u_s]; rfl) | rw [rl_u_n (by first | with_reducible assumption | omega)])) (by first | rfl | with_reducible assumption) ?_
          refine o_iload_n hC dX8_makePick_52 (by rfl) ?_
          obtain ⟨cc, hcc, ec⟩ := hnC.resolve_left c_33
          refine o_ialdN (t0 := 0) (k := a) hC rfl dX8_makePick_53 (by repeat (first | with_reducible assumption | (rw [rl_u_s]; done) | (rw [rl_u_s]; rfl) | rw [rl_u_n (by first | with_reducible assumption | omega)])) (by omega) (by decide) ?_
          rw [ec]
          refine o_callV3 hC rl_BW_good rl_Ns_nw (by exact hB.2.2.2.2.2) YX8_cellAt IX8_cellAt VX8_cellAt (mX8_138 hC) (by rw [hB.1]; exact cm_X8_cellAt l D ids H0 _ _ m T _ _ b t cc hq1.rf (by omega)) (by exact hq1.rf.1) rfl rfl (Nat.le_of_ble_eq_true rfl) (by rw [hB.2.1]; first | exact Nat.le_of_ble_eq_true rfl | (dsimp only; omega)) (by rw [hB.2.1]; first | exact Nat.le_of_ble_eq_true rfl | (dsimp only; omega)) (by rw [hB.2.1]; first | exact Nat.le_of_ble_eq_true rfl | (dsimp only; omega)) (by rw [hB.2.1]; first | exact Nat.le_of_ble_eq_true rfl | (dsimp only; omega)) dX8_makePick_54 (fun v h_54 n_54 p_54 => ?_)
          obtain ⟨r54, rfl, rfl, rfl⟩ := p_54
          try dsimp only [Option.toList, List.cons_append, List.nil_append]
          refine o_istore hC dX8_makePick_57 (Nat.le_of_ble_eq_true rfl) ?_
          refine o_aload_n hC dX8_makePick_59 (by rfl) ?_
          refine o_getf hC (fX8_31 hC rfl) dX8_makePick_60 (by repeat (first | with_reducible assumption | (rw [rl_u_s]; done) | (rw [rl_u_s]; rfl) | rw [rl_u_n (by first | with_reducible assumption | omega)])) (by first | rfl | with_reducible assumption) ?_
          refine o_iload_n hC dX8_makePick_63 (by rfl) ?_
          refine o_ialdN (t0 := 0) hC rfl dX8_makePick_64 (by repeat (first | with_reducible assumption | (rw [rl_u_s]; done) | (rw [rl_u_s]; rfl) | rw [rl_u_n (by first | with_reducible assumption | omega)])) (by omega) (by decide) ?_
          refine o_if_ne (tgt := 83) hC dX8_makePick_65 (by decide) (fun c_65 => ?_) (fun c_65 => ?_)
          · refine o_aload_n hC dX8_makePick_83 (by rfl) ?_
            refine o_getf hC (fX8_31 hC rfl) dX8_makePick_84 (by repeat (first | with_reducible assumption | (rw [rl_u_s]; done) | (rw [rl_u_s]; rfl) | rw [rl_u_n (by first | with_reducible assumption | omega)])) (by first | rfl | with_reducible assumption) ?_
            refine o_iload_n hC dX8_makePick_87 (by rfl) ?_
            refine o_ialdN (t0 := 0) hC rfl dX8_makePick_88 (by repeat (first | with_reducible assumption | (rw [rl_u_s]; done) | (rw [rl_u_s]; rfl) | rw [rl_u_n (by first | with_reducible assumption | omega)])) (by omega) (by decide) ?_
            refine o_iconst (v := nI 1) hC dX8_makePick_89 (by decide +kernel) ?_
            refine o_icmp_ne (tgt := 108) hC dX8_makePick_90 (by decide) (fun c_90 => ?_) (fun c_90 => ?_)
            · refine o_iload hC dX8_makePick_108 (by rfl) ?_
              refine o_iload hC dX8_makePick_110 (by rfl) ?_
              refine o_icmp_le (tgt := 119) hC dX8_makePick_112 (by decide) (fun c_112 => ?_) (fun c_112 => ?_)
              · refine o_iconst (v := nI 0) hC dX8_makePick_119 (by decide +kernel) ?_
                refine o_istore hC dX8_makePick_120 (Nat.le_of_ble_eq_true rfl) ?_
                exact go _ _ _
              · refine o_iconst (v := nI 1) hC dX8_makePick_115 (by decide +kernel) ?_
                refine o_goto (tgt := 120) hC dX8_makePick_116 (by decide) ?_
                refine o_istore hC dX8_makePick_120 (Nat.le_of_ble_eq_true rfl) ?_
                exact go _ _ _
            · refine o_iload hC dX8_makePick_93 (by rfl) ?_
              refine o_iload hC dX8_makePick_95 (by rfl) ?_
              refine o_icmp_ne (tgt := 104) hC dX8_makePick_97 (by decide) (fun c_97 => ?_) (fun c_97 => ?_)
              · refine o_iconst (v := nI 0) hC dX8_makePick_104 (by decide +kernel) ?_
                refine o_goto (tgt := 120) hC dX8_makePick_105 (by decide) ?_
                refine o_istore hC dX8_makePick_120 (Nat.le_of_ble_eq_true rfl) ?_
                exact go _ _ _
              · refine o_iconst (v := nI 1) hC dX8_makePick_100 (by decide +kernel) ?_
                refine o_goto (tgt := 120) hC dX8_makePick_101 (by decide) ?_
                refine o_istore hC dX8_makePick_120 (Nat.le_of_ble_eq_true rfl) ?_
                exact go _ _ _
          · refine o_iload hC dX8_makePick_68 (by rfl) ?_
            refine o_iload hC dX8_makePick_70 (by rfl) ?_
            refine o_icmp_ge (tgt := 79) hC dX8_makePick_72 (by decide) (fun c_72 => ?_) (fun c_72 => ?_)
            · refine o_iconst (v := nI 0) hC dX8_makePick_79 (by decide +kernel) ?_
              refine o_goto (tgt := 120) hC dX8_makePick_80 (by decide) ?_
              refine o_istore hC dX8_makePick_120 (Nat.le_of_ble_eq_true rfl) ?_
              exact go _ _ _
            · refine o_iconst (v := nI 1) hC dX8_makePick_75 (by decide +kernel) ?_
              refine o_goto (tgt := 120) hC dX8_makePick_76 (by decide) ?_
              refine o_istore hC dX8_makePick_120 (Nat.le_of_ble_eq_true rfl) ?_
              exact go _ _ _
        · refine o_aload_n hC dX8_makePick_36 (by rfl) ?_
          refine o_getf hC (fX8_37 hC rfl) dX8_makePick_37 (by repeat (first | with_reducible assumption | (rw [rl_u_s]; done) | (rw [rl_u_s]; rfl) | rw [rl_u_n (by first | with_reducible assumption | omega)])) (by first | rfl | with_reducible assumption) ?_
          refine o_iload_n hC dX8_makePick_40 (by rfl) ?_
          refine o_ialdN (t0 := 0) hC rfl dX8_makePick_41 (by repeat (first | with_reducible assumption | (rw [rl_u_s]; done) | (rw [rl_u_s]; rfl) | rw [rl_u_n (by first | with_reducible assumption | omega)])) (by omega) (by decide) ?_
          refine o_goto (tgt := 57) hC dX8_makePick_42 (by decide) ?_
          refine o_istore hC dX8_makePick_57 (Nat.le_of_ble_eq_true rfl) ?_
          refine o_aload_n hC dX8_makePick_59 (by rfl) ?_
          refine o_getf hC (fX8_31 hC rfl) dX8_makePick_60 (by repeat (first | with_reducible assumption | (rw [rl_u_s]; done) | (rw [rl_u_s]; rfl) | rw [rl_u_n (by first | with_reducible assumption | omega)])) (by first | rfl | with_reducible assumption) ?_
          refine o_iload_n hC dX8_makePick_63 (by rfl) ?_
          refine o_ialdN (t0 := 0) hC rfl dX8_makePick_64 (by repeat (first | with_reducible assumption | (rw [rl_u_s]; done) | (rw [rl_u_s]; rfl) | rw [rl_u_n (by first | with_reducible assumption | omega)])) (by omega) (by decide) ?_
          refine o_if_ne (tgt := 83) hC dX8_makePick_65 (by decide) (fun c_65 => ?_) (fun c_65 => ?_)
          · refine o_aload_n hC dX8_makePick_83 (by rfl) ?_
            refine o_getf hC (fX8_31 hC rfl) dX8_makePick_84 (by repeat (first | with_reducible assumption | (rw [rl_u_s]; done) | (rw [rl_u_s]; rfl) | rw [rl_u_n (by first | with_reducible assumption | omega)])) (by first | rfl | with_reducible assumption) ?_
            refine o_iload_n hC dX8_makePick_87 (by rfl) ?_
            refine o_ialdN (t0 := 0) hC rfl dX8_makePick_88 (by repeat (first | with_reducible assumption | (rw [rl_u_s]; done) | (rw [rl_u_s]; rfl) | rw [rl_u_n (by first | with_reducible assumption | omega)])) (by omega) (by decide) ?_
            refine o_iconst (v := nI 1) hC dX8_makePick_89 (by decide +kernel) ?_
            refine o_icmp_ne (tgt := 108) hC dX8_makePick_90 (by decide) (fun c_90 => ?_) (fun c_90 => ?_)
            · refine o_iload hC dX8_makePick_108 (by rfl) ?_
              refine o_iload hC dX8_makePick_110 (by rfl) ?_
              refine o_icmp_le (tgt := 119) hC dX8_makePick_112 (by decide) (fun c_112 => ?_) (fun c_112 => ?_)
              · refine o_iconst (v := nI 0) hC dX8_makePick_119 (by decide +kernel) ?_
                refine o_istore hC dX8_makePick_120 (Nat.le_of_ble_eq_true rfl) ?_
                exact go _ _ _
              · refine o_iconst (v := nI 1) hC dX8_makePick_115 (by decide +kernel) ?_
                refine o_goto (tgt := 120) hC dX8_makePick_116 (by decide) ?_
                refine o_istore hC dX8_makePick_120 (Nat.le_of_ble_eq_true rfl) ?_
                exact go _ _ _
            · refine o_iload hC dX8_makePick_93 (by rfl) ?_
              refine o_iload hC dX8_makePick_95 (by rfl) ?_
              refine o_icmp_ne (tgt := 104) hC dX8_makePick_97 (by decide) (fun c_97 => ?_) (fun c_97 => ?_)
              · refine o_iconst (v := nI 0) hC dX8_makePick_104 (by decide +kernel) ?_
                refine o_goto (tgt := 120) hC dX8_makePick_105 (by decide) ?_
                refine o_istore hC dX8_makePick_120 (Nat.le_of_ble_eq_true rfl) ?_
                exact go _ _ _
              · refine o_iconst (v := nI 1) hC dX8_makePick_100 (by decide +kernel) ?_
                refine o_goto (tgt := 120) hC dX8_makePick_101 (by decide) ?_
                refine o_istore hC dX8_makePick_120 (Nat.le_of_ble_eq_true rfl) ?_
                exact go _ _ _
          · refine o_iload hC dX8_makePick_68 (by rfl) ?_
            refine o_iload hC dX8_makePick_70 (by rfl) ?_
            refine o_icmp_ge (tgt := 79) hC dX8_makePick_72 (by decide) (fun c_72 => ?_) (fun c_72 => ?_)
            · refine o_iconst (v := nI 0) hC dX8_makePick_79 (by decide +kernel) ?_
              refine o_goto (tgt := 120) hC dX8_makePick_80 (by decide) ?_
              refine o_istore hC dX8_makePick_120 (Nat.le_of_ble_eq_true rfl) ?_
              exact go _ _ _
            · refine o_iconst (v := nI 1) hC dX8_makePick_75 (by decide +kernel) ?_
              refine o_goto (tgt := 120) hC dX8_makePick_76 (by decide) ?_
              refine o_istore hC dX8_makePick_120 (Nat.le_of_ble_eq_true rfl) ?_
              exact go _ _ _
  show rl_G X (rl_e D ids H0) 0 [some (.ref m), some (.int (nI a)), some (.int (nI b)), none, none, none, none] [] h n 0 0
  refine o_iconst (v := nI 0) hC dX8_makePick_0 (by decide +kernel) ?_
  refine o_istore_n hC dX8_makePick_1 (Nat.le_of_ble_eq_true rfl) ?_
  exact loop 80 0 _ _ _ _ _ _ (by omega) hq

set_option maxHeartbeats 4000000 in
set_option maxRecDepth 100000 in
theorem cm_X8_makeCols (l : Launch) (D : va_G) (ids : Nat → ClassId) (H0 : Heap) (h : rl_H) (n : Nat) (m : Nat) (T : md_T) (fu : Int32) (k : Nat) (S : md_A) (a b w wb N : Nat) (hq : mq ids h h m T fu k) (hs : md_sa ids h m S) (ha : a < 16) (hb : b < 16) (hw : S.2.2.2.2.2.2.2.2.2.2 a = nI w) (hw6 : w ≤ 6) (hwb : S.2.2.2.2.2.2.2.2.2.2 b = nI wb) (hwb6 : wb ≤ 6) (hnA : S.2.2.2.2.2.2.1 a = nI N) (hN : N < 10 ^ 6) (hd : ∀ c : Nat, N / 10 ^ c ≠ 0 → 1 ≤ N / 10 ^ c % 10 ∧ N / 10 ^ c % 10 ≤ 6) : rl_Met l (rl_e D ids H0) rl_BW rl_Ns yX8_makeCols cX8_makeCols 6 none ({ frames := 4, cells := 0, slots := 0, locals := 98 }) [.ref m, .int (nI a), .int (nI b)] h n (fun v h' n' => v = none ∧ n' = n ∧ ∃ (fu' : Int32) (k' : Nat), mq ids h h' m T fu' k') := by
  refine rl_Met.of (by decide +kernel) (Nat.le_of_ble_eq_true rfl) ?_
  intro X hC hB
  have loop : ∀ (mm t : Nat) (h1 : rl_H) (f1 : Int32) (k1 : Nat) (o4 o5 : Option Value), t + mm = 80 → mq ids h h1 m T f1 k1 → rl_G X (rl_e D ids H0) 2 [some (.ref m), some (.int (nI a)), some (.int (nI b)), some (.int (nI t)), o4, o5] [] h1 n 0 0 := by
    intro mm
    induction mm with
    | zero =>
      intro t h1 f1 k1 o4 o5 hm hq1
      have hs1 := hq1.sa hs
      obtain ⟨g0, gk, ⟨⟨cl, g12⟩, ⟨tu, g13, b13⟩, ⟨im, g14⟩, ⟨te, g15, b15⟩, ⟨ne, g16⟩, ⟨la, g17⟩, ⟨hn, g18⟩, ⟨hl, g19⟩, ⟨tp, g20⟩, ⟨gr, g21, b21⟩, ⟨it, g22⟩⟩, gf⟩ := id hq1
      obtain ⟨a1, a2, a3, a4, a5, a6, a7, a8, a9, a10, a11⟩ := id hs1
      refine o_iload_n hC dX8_makeCols_2 (by rfl) ?_
      refine o_aload_n hC dX8_makeCols_3 (by rfl) ?_
      refine o_getf hC (fX8_46 hC rfl) dX8_makeCols_4 (by repeat (first | with_reducible assumption | (rw [rl_u_s]; done) | (rw [rl_u_s]; rfl) | rw [rl_u_n (by first | with_reducible assumption | omega)])) (by first | rfl | with_reducible assumption) ?_
      refine o_iload_n hC dX8_makeCols_7 (by rfl) ?_
      obtain ⟨t8, ht8, et8⟩ := b13 b (by omega)
      refine o_ialdN (t0 := 0) (k := b) hC rfl dX8_makeCols_8 (by repeat (first | with_reducible assumption | (rw [rl_u_s]; done) | (rw [rl_u_s]; rfl) | rw [rl_u_n (by first | with_reducible assumption | omega)])) (by omega) (by decide) ?_
      rw [et8]
      refine o_icmp_ge (tgt := 85) hC dX8_makeCols_9 (by decide) (fun c_9 => ?_) (fun c_9 => ?_)
      · refine o_vret hC hB dX8_makeCols_85 (Nat.le_of_ble_eq_true rfl) (Nat.le_of_ble_eq_true rfl) ?_
        exact ⟨rfl, rfl, _, _, hq1⟩
      · exact absurd (nI_le (by omega) (by omega)) c_9
    | succ mm ih =>
      intro t h1 f1 k1 o4 o5 hm hq1
      have loopC : ∀ (m2 c : Nat) (h2 : rl_H), c + m2 = 6 → mq ids h h2 m T f1 k1 → rl_G X (rl_e D ids H0) 30 [some (.ref m), some (.int (nI a)), some (.int (nI b)), some (.int (nI t)), some (.int (nI c)), some (.int (nI (N / 10 ^ c)))] [] h2 n 0 0 := by
        intro m2
        induction m2 with
        | zero =>
          intro c h2 hm2 hq2
          have c6 : c = 6 := by omega
          subst c6
          have z0 : N / 10 ^ 6 = 0 := Nat.div_eq_of_lt hN
          rw [z0]
          have hs2 := hq2.sa hs
          refine o_iload hC dX8_makeCols_30 (by rfl) ?_
          refine o_if_le (tgt := 68) hC dX8_makeCols_32 (by decide) (fun c_32 => ?_) (fun c_32 => ?_)
          · refine o_aload_n hC dX8_makeCols_68 (by rfl) ?_
            refine o_iload_n hC dX8_makeCols_69 (by rfl) ?_
            refine o_bipush (v := nI 80) hC dX8_makeCols_70 (by decide +kernel) ?_
            refine o_iload_n hC dX8_makeCols_72 (by rfl) ?_
            refine o_imul hC dX8_makeCols_73 ?_
            try rw [nI_mul]
            refine o_iload_n hC dX8_makeCols_74 (by rfl) ?_
            refine o_iadd hC dX8_makeCols_75 ?_
            try rw [nI_add]
            refine o_callV2 hC rl_BW_good rl_Ns_nw (by exact hB.2.2.2.2.2) YX8_comes IX8_comes VX8_comes (mX8_178 hC) (by rw [hB.1]; exact cm_X8_comes l D ids H0 _ _ m T _ _ S a (80 * b + t) w hq2.rf hs2 (by omega) (by omega) hw hw6) (by exact hq2.1) rfl rfl (Nat.le_of_ble_eq_true rfl) (by rw [hB.2.1]; first | exact Nat.le_of_ble_eq_true rfl | (dsimp only; omega)) (by rw [hB.2.1]; first | exact Nat.le_of_ble_eq_true rfl | (dsimp only; omega)) (by rw [hB.2.1]; first | exact Nat.le_of_ble_eq_true rfl | (dsimp only; omega)) (by rw [hB.2.1]; first | exact Nat.le_of_ble_eq_true rfl | (dsimp only; omega)) dX8_makeCols_76 (fun v h_76 n_76 p_76 => ?_)
            obtain ⟨rfl, rfl, f76, k76, q76⟩ := p_76
            try dsimp only [Option.toList, List.cons_append, List.nil_append]
            refine o_iinc hC dX8_makeCols_79 (by rfl) (rl_inc _) (Nat.le_of_ble_eq_true rfl) ?_
            refine o_goto (tgt := 2) hC dX8_makeCols_82 (by decide) ?_
            exact ih (t + 1) _ _ _ _ _ (by omega) (hq2.tr q76)
          · exact absurd (by decide +kernel) c_32
        | succ m2 ih2 =>
          intro c h2 hm2 hq2
          have hs2 := hq2.sa hs
          have NR : N / 10 ^ c ≤ N := Nat.div_le_self _ _
          have NL : N < 1000000 := hN
          obtain ⟨R, hR⟩ : ∃ R : Nat, R = N / 10 ^ c := ⟨_, rfl⟩
          have hR10 : N / 10 ^ (c + 1) = R / 10 := by rw [hR, Nat.div_div_eq_div_mul, Nat.pow_succ]
          have hdg := hd c
          rw [← hR] at hdg NR ⊢
          obtain ⟨g0, gk, ⟨⟨cl, g12⟩, ⟨tu, g13, b13⟩, ⟨im, g14⟩, ⟨te, g15, b15⟩, ⟨ne, g16⟩, ⟨la, g17⟩, ⟨hn, g18⟩, ⟨hl, g19⟩, ⟨tp, g20⟩, ⟨gr, g21, b21⟩, ⟨it, g22⟩⟩, gf⟩ := id hq2
          refine o_iload hC dX8_makeCols_30 (by rfl) ?_
          refine o_if_le (tgt := 68) hC dX8_makeCols_32 (by decide) (fun c_32 => ?_) (fun c_32 => ?_)
          · refine o_aload_n hC dX8_makeCols_68 (by rfl) ?_
            refine o_iload_n hC dX8_makeCols_69 (by rfl) ?_
            refine o_bipush (v := nI 80) hC dX8_makeCols_70 (by decide +kernel) ?_
            refine o_iload_n hC dX8_makeCols_72 (by rfl) ?_
            refine o_imul hC dX8_makeCols_73 ?_
            try rw [nI_mul]
            refine o_iload_n hC dX8_makeCols_74 (by rfl) ?_
            refine o_iadd hC dX8_makeCols_75 ?_
            try rw [nI_add]
            refine o_callV2 hC rl_BW_good rl_Ns_nw (by exact hB.2.2.2.2.2) YX8_comes IX8_comes VX8_comes (mX8_178 hC) (by rw [hB.1]; exact cm_X8_comes l D ids H0 _ _ m T _ _ S a (80 * b + t) w hq2.rf hs2 (by omega) (by omega) hw hw6) (by exact hq2.1) rfl rfl (Nat.le_of_ble_eq_true rfl) (by rw [hB.2.1]; first | exact Nat.le_of_ble_eq_true rfl | (dsimp only; omega)) (by rw [hB.2.1]; first | exact Nat.le_of_ble_eq_true rfl | (dsimp only; omega)) (by rw [hB.2.1]; first | exact Nat.le_of_ble_eq_true rfl | (dsimp only; omega)) (by rw [hB.2.1]; first | exact Nat.le_of_ble_eq_true rfl | (dsimp only; omega)) dX8_makeCols_76 (fun v h_76 n_76 p_76 => ?_)
            obtain ⟨rfl, rfl, f76, k76, q76⟩ := p_76
            try dsimp only [Option.toList, List.cons_append, List.nil_append]
            refine o_iinc hC dX8_makeCols_79 (by rfl) (rl_inc _) (Nat.le_of_ble_eq_true rfl) ?_
            refine o_goto (tgt := 2) hC dX8_makeCols_82 (by decide) ?_
            exact ih (t + 1) _ _ _ _ _ (by omega) (hq2.tr q76)
          · refine o_aload_n hC dX8_makeCols_35 (by rfl) ?_
            refine o_getf hC (fX8_69 hC rfl) dX8_makeCols_36 (by repeat (first | with_reducible assumption | (rw [rl_u_s]; done) | (rw [rl_u_s]; rfl) | rw [rl_u_n (by first | with_reducible assumption | omega)])) (by first | rfl | with_reducible assumption) ?_
            refine o_iload hC dX8_makeCols_39 (by rfl) ?_
            refine o_aload_n hC dX8_makeCols_41 (by rfl) ?_
            refine o_iload_n hC dX8_makeCols_42 (by rfl) ?_
            refine o_iload_n hC dX8_makeCols_43 (by rfl) ?_
            refine o_iload hC dX8_makeCols_44 (by rfl) ?_
            refine o_bipush (v := nI 10) hC dX8_makeCols_46 (by decide +kernel) ?_
            obtain ⟨e, he⟩ : ∃ e : Nat, R % 10 = e + 1 := by
              have := hdg (fun z => c_32 (by rw [z]; decide +kernel))
              exact ⟨R % 10 - 1, by omega⟩
            have he6 : e < 6 := by
              have := hdg (fun z => c_32 (by rw [z]; decide +kernel))
              omega
            refine o_irem hC dX8_makeCols_48 (by decide +kernel) ?_
            rw [pk_rem (by omega) (by decide) (by decide), he]
            refine o_iconst (v := nI 1) hC dX8_makeCols_49 (by decide +kernel) ?_
            refine o_isub hC dX8_makeCols_50 ?_
            rw [rl_pred e]
            refine o_callV3 hC rl_BW_good rl_Ns_nw (by exact hB.2.2.2.2.2) YX8_cellAt IX8_cellAt VX8_cellAt (mX8_138 hC) (by rw [hB.1]; exact cm_X8_cellAt l D ids H0 _ _ m T _ _ b t e hq2.rf (by omega)) (by exact hq2.rf.1) rfl rfl (Nat.le_of_ble_eq_true rfl) (by rw [hB.2.1]; first | exact Nat.le_of_ble_eq_true rfl | (dsimp only; omega)) (by rw [hB.2.1]; first | exact Nat.le_of_ble_eq_true rfl | (dsimp only; omega)) (by rw [hB.2.1]; first | exact Nat.le_of_ble_eq_true rfl | (dsimp only; omega)) (by rw [hB.2.1]; first | exact Nat.le_of_ble_eq_true rfl | (dsimp only; omega)) dX8_makeCols_51 (fun v h_51 n_51 p_51 => ?_)
            obtain ⟨r51, rfl, rfl, rfl⟩ := p_51
            try dsimp only [Option.toList, List.cons_append, List.nil_append]
            refine o_iastN (t0 := 0) hC rfl dX8_makeCols_54 (by repeat (first | with_reducible assumption | (rw [rl_u_s]; done) | (rw [rl_u_s]; rfl) | rw [rl_u_n (by first | with_reducible assumption | omega)])) (by omega) (by decide) ?_
            refine o_iinc hC dX8_makeCols_55 (by rfl) (rl_inc _) (Nat.le_of_ble_eq_true rfl) ?_
            refine o_iload hC dX8_makeCols_58 (by rfl) ?_
            refine o_bipush (v := nI 10) hC dX8_makeCols_60 (by decide +kernel) ?_
            refine o_idiv hC dX8_makeCols_62 (by decide +kernel) ?_
            rw [pk_div (by omega) (by decide) (by decide), ← hR10]
            refine o_istore hC dX8_makeCols_63 (Nat.le_of_ble_eq_true rfl) ?_
            refine o_goto (tgt := 30) hC dX8_makeCols_65 (by decide) ?_
            exact ih2 (c + 1) _ (by omega) (hq2.s20 _)
      have hs1 := hq1.sa hs
      obtain ⟨g0, gk, ⟨⟨cl, g12⟩, ⟨tu, g13, b13⟩, ⟨im, g14⟩, ⟨te, g15, b15⟩, ⟨ne, g16⟩, ⟨la, g17⟩, ⟨hn, g18⟩, ⟨hl, g19⟩, ⟨tp, g20⟩, ⟨gr, g21, b21⟩, ⟨it, g22⟩⟩, gf⟩ := id hq1
      obtain ⟨a1, a2, a3, a4, a5, a6, a7, a8, a9, a10, a11⟩ := id hs1
      refine o_iload_n hC dX8_makeCols_2 (by rfl) ?_
      refine o_aload_n hC dX8_makeCols_3 (by rfl) ?_
      refine o_getf hC (fX8_46 hC rfl) dX8_makeCols_4 (by repeat (first | with_reducible assumption | (rw [rl_u_s]; done) | (rw [rl_u_s]; rfl) | rw [rl_u_n (by first | with_reducible assumption | omega)])) (by first | rfl | with_reducible assumption) ?_
      refine o_iload_n hC dX8_makeCols_7 (by rfl) ?_
      obtain ⟨t8, ht8, et8⟩ := b13 b (by omega)
      refine o_ialdN (t0 := 0) (k := b) hC rfl dX8_makeCols_8 (by repeat (first | with_reducible assumption | (rw [rl_u_s]; done) | (rw [rl_u_s]; rfl) | rw [rl_u_n (by first | with_reducible assumption | omega)])) (by omega) (by decide) ?_
      rw [et8]
      refine o_icmp_ge (tgt := 85) hC dX8_makeCols_9 (by decide) (fun c_9 => ?_) (fun c_9 => ?_)
      · refine o_vret hC hB dX8_makeCols_85 (Nat.le_of_ble_eq_true rfl) (Nat.le_of_ble_eq_true rfl) ?_
        exact ⟨rfl, rfl, _, _, hq1⟩
      · refine o_aload_n hC dX8_makeCols_12 (by rfl) ?_
        refine o_getf hC (fX8_91 hC rfl) dX8_makeCols_13 (by repeat (first | with_reducible assumption | (rw [rl_u_s]; done) | (rw [rl_u_s]; rfl) | rw [rl_u_n (by first | with_reducible assumption | omega)])) (by first | rfl | with_reducible assumption) ?_
        refine o_if_ne (tgt := 85) hC dX8_makeCols_16 (by decide) (fun c_16 => ?_) (fun c_16 => ?_)
        · refine o_vret hC hB dX8_makeCols_85 (Nat.le_of_ble_eq_true rfl) (Nat.le_of_ble_eq_true rfl) ?_
          exact ⟨rfl, rfl, _, _, hq1⟩
        · refine o_iconst (v := nI 0) hC dX8_makeCols_19 (by decide +kernel) ?_
          refine o_istore hC dX8_makeCols_20 (Nat.le_of_ble_eq_true rfl) ?_
          refine o_aload_n hC dX8_makeCols_22 (by rfl) ?_
          refine o_getf hC (fX8_28 hC rfl) dX8_makeCols_23 (by repeat (first | with_reducible assumption | (rw [rl_u_s]; done) | (rw [rl_u_s]; rfl) | rw [rl_u_n (by first | with_reducible assumption | omega)])) (by first | rfl | with_reducible assumption) ?_
          refine o_iload_n hC dX8_makeCols_26 (by rfl) ?_
          refine o_ialdN (t0 := 0) (k := a) hC rfl dX8_makeCols_27 (by repeat (first | with_reducible assumption | (rw [rl_u_s]; done) | (rw [rl_u_s]; rfl) | rw [rl_u_n (by first | with_reducible assumption | omega)])) (by omega) (by decide) ?_
          rw [hnA]
          refine o_istore hC dX8_makeCols_28 (Nat.le_of_ble_eq_true rfl) ?_
          have lp := loopC 6 0 _ (by omega) hq1
          rw [Nat.pow_zero, Nat.div_one] at lp
          exact lp
  show rl_G X (rl_e D ids H0) 0 [some (.ref m), some (.int (nI a)), some (.int (nI b)), none, none, none] [] h n 0 0
  refine o_iconst (v := nI 0) hC dX8_makeCols_0 (by decide +kernel) ?_
  refine o_istore_n hC dX8_makeCols_1 (Nat.le_of_ble_eq_true rfl) ?_
  exact loop 80 0 _ _ _ _ _ (by omega) hq
end
section
/-! THE MODEL by shapes: join, minus, fold -/
theorem md_shl : ∀ q : Nat, q ≤ 4 → nI 1 <<< (nI q &&& 31) ≤ nI 16 := by decide +kernel

set_option maxHeartbeats 4000000 in
set_option maxRecDepth 100000 in
theorem cm_X8_makeJoin (l : Launch) (D : va_G) (ids : Nat → ClassId) (H0 : Heap) (h : rl_H) (n : Nat) (m : Nat) (T : md_T) (fu : Int32) (k : Nat) (S : md_A) (a b d w wb wd ca cb : Nat) (hq : mq ids h h m T fu k) (hs : md_sa ids h m S) (ha : a < 16) (hb : b < 16) (hw : S.2.2.2.2.2.2.2.2.2.2 a = nI w) (hw6 : w ≤ 6) (hwb : S.2.2.2.2.2.2.2.2.2.2 b = nI wb) (hwb6 : wb ≤ 6) (hd : d < 16) (hwd : S.2.2.2.2.2.2.2.2.2.2 d = nI wd) (hwd6 : wd ≤ 6) (hnA : S.2.2.2.2.2.2.1 a = nI ca) (hca : ca < 6) (hnB : S.2.2.2.2.2.2.2.1 a = nI cb) (hcb : cb < 6) (hsum : wb + wd ≤ 6) : rl_Met l (rl_e D ids H0) rl_BW rl_Ns yX8_makeJoin cX8_makeJoin 7 none ({ frames := 4, cells := 0, slots := 0, locals := 98 }) [.ref m, .int (nI a), .int (nI b), .int (nI d)] h n (fun v h' n' => v = none ∧ n' = n ∧ ∃ (fu' : Int32) (k' : Nat), mq ids h h' m T fu' k') := by
  refine rl_Met.of (by decide +kernel) (Nat.le_of_ble_eq_true rfl) ?_
  intro X hC hB
  have loop : ∀ (mm t : Nat) (h1 : rl_H) (f1 : Int32) (k1 : Nat) (o5 o6 : Option Value), t + mm = 80 → mq ids h h1 m T f1 k1 → rl_G X (rl_e D ids H0) 3 [some (.ref m), some (.int (nI a)), some (.int (nI b)), some (.int (nI d)), some (.int (nI t)), o5, o6] [] h1 n 0 0 := by
    intro mm
    induction mm with
    | zero =>
      intro t h1 f1 k1 o5 o6 hm hq1
      have hs1 := hq1.sa hs
      obtain ⟨g0, gk, ⟨⟨cl, g12⟩, ⟨tu, g13, b13⟩, ⟨im, g14⟩, ⟨te, g15, b15⟩, ⟨ne, g16⟩, ⟨la, g17⟩, ⟨hn, g18⟩, ⟨hl, g19⟩, ⟨tp, g20⟩, ⟨gr, g21, b21⟩, ⟨it, g22⟩⟩, gf⟩ := id hq1
      obtain ⟨a1, a2, a3, a4, a5, a6, a7, a8, a9, a10, a11⟩ := id hs1
      refine o_iload hC dX8_makeJoin_3 (by rfl) ?_
      refine o_aload_n hC dX8_makeJoin_5 (by rfl) ?_
      refine o_getf hC (fX8_46 hC rfl) dX8_makeJoin_6 (by repeat (first | with_reducible assumption | (rw [rl_u_s]; done) | (rw [rl_u_s]; rfl) | rw [rl_u_n (by first | with_reducible assumption | omega)])) (by first | rfl | with_reducible assumption) ?_
      refine o_iload_n hC dX8_makeJoin_9 (by rfl) ?_
      obtain ⟨t10, ht10, et10⟩ := b13 b (by omega)
      refine o_ialdN (t0 := 0) (k := b) hC rfl dX8_makeJoin_10 (by repeat (first | with_reducible assumption | (rw [rl_u_s]; done) | (rw [rl_u_s]; rfl) | rw [rl_u_n (by first | with_reducible assumption | omega)])) (by omega) (by decide) ?_
      rw [et10]
      refine o_icmp_ge (tgt := 161) hC dX8_makeJoin_11 (by decide) (fun c_11 => ?_) (fun c_11 => ?_)
      · refine o_vret hC hB dX8_makeJoin_161 (Nat.le_of_ble_eq_true rfl) (Nat.le_of_ble_eq_true rfl) ?_
        exact ⟨rfl, rfl, _, _, hq1⟩
      · exact absurd (nI_le (by omega) (by omega)) c_11
    | succ mm ih =>
      intro t h1 f1 k1 o5 o6 hm hq1
      have loopU : ∀ (m2 u : Nat) (h2 : rl_H) (f2 : Int32) (k2 : Nat) (o6 : Option Value), u + m2 = 80 → mq ids h h2 m T f2 k2 → rl_G X (rl_e D ids H0) 17 [some (.ref m), some (.int (nI a)), some (.int (nI b)), some (.int (nI d)), some (.int (nI t)), some (.int (nI u)), o6] [] h2 n 0 0 := by
        intro m2
        induction m2 with
        | zero =>
          intro u h2 f2 k2 o6 hm2 hq2
          have hs1 := hq2.sa hs
          obtain ⟨g0, gk, ⟨⟨cl, g12⟩, ⟨tu, g13, b13⟩, ⟨im, g14⟩, ⟨te, g15, b15⟩, ⟨ne, g16⟩, ⟨la, g17⟩, ⟨hn, g18⟩, ⟨hl, g19⟩, ⟨tp, g20⟩, ⟨gr, g21, b21⟩, ⟨it, g22⟩⟩, gf⟩ := id hq2
          obtain ⟨a1, a2, a3, a4, a5, a6, a7, a8, a9, a10, a11⟩ := id hs1
          refine o_iload hC dX8_makeJoin_17 (by rfl) ?_
          refine o_aload_n hC dX8_makeJoin_19 (by rfl) ?_
          refine o_getf hC (fX8_46 hC rfl) dX8_makeJoin_20 (by repeat (first | with_reducible assumption | (rw [rl_u_s]; done) | (rw [rl_u_s]; rfl) | rw [rl_u_n (by first | with_reducible assumption | omega)])) (by first | rfl | with_reducible assumption) ?_
          refine o_iload_n hC dX8_makeJoin_23 (by rfl) ?_
          obtain ⟨t24, ht24, et24⟩ := b13 d (by omega)
          refine o_ialdN (t0 := 0) (k := d) hC rfl dX8_makeJoin_24 (by repeat (first | with_reducible assumption | (rw [rl_u_s]; done) | (rw [rl_u_s]; rfl) | rw [rl_u_n (by first | with_reducible assumption | omega)])) (by omega) (by decide) ?_
          rw [et24]
          refine o_icmp_ge (tgt := 155) hC dX8_makeJoin_25 (by decide) (fun c_25 => ?_) (fun c_25 => ?_)
          · refine o_iinc hC dX8_makeJoin_155 (by rfl) (rl_inc _) (Nat.le_of_ble_eq_true rfl) ?_
            refine o_goto (tgt := 3) hC dX8_makeJoin_158 (by decide) ?_
            exact ih (t + 1) _ _ _ _ _ (by omega) hq2
          · exact absurd (nI_le (by omega) (by omega)) c_25
        | succ m2 ih2 =>
          intro u h2 f2 k2 o6 hm2 hq2
          have loopC : ∀ (m3 c : Nat) (h3 : rl_H) (f3 : Int32) (k3 : Nat), c + m3 = wd → mq ids h h3 m T f3 k3 → rl_G X (rl_e D ids H0) 101 [some (.ref m), some (.int (nI a)), some (.int (nI b)), some (.int (nI d)), some (.int (nI t)), some (.int (nI u)), some (.int (nI c))] [] h3 n 0 0 := by
            intro m3
            induction m3 with
            | zero =>
              intro c h3 f3 k3 hm3 hq3
              have hs1 := hq3.sa hs
              obtain ⟨g0, gk, ⟨⟨cl, g12⟩, ⟨tu, g13, b13⟩, ⟨im, g14⟩, ⟨te, g15, b15⟩, ⟨ne, g16⟩, ⟨la, g17⟩, ⟨hn, g18⟩, ⟨hl, g19⟩, ⟨tp, g20⟩, ⟨gr, g21, b21⟩, ⟨it, g22⟩⟩, gf⟩ := id hq3
              obtain ⟨a1, a2, a3, a4, a5, a6, a7, a8, a9, a10, a11⟩ := id hs1
              refine o_iload hC dX8_makeJoin_101 (by rfl) ?_
              refine o_aload_n hC dX8_makeJoin_103 (by rfl) ?_
              refine o_getf hC (fX8_40 hC rfl) dX8_makeJoin_104 (by repeat (first | with_reducible assumption | (rw [rl_u_s]; done) | (rw [rl_u_s]; rfl) | rw [rl_u_n (by first | with_reducible assumption | omega)])) (by first | rfl | with_reducible assumption) ?_
              refine o_iload_n hC dX8_makeJoin_107 (by rfl) ?_
              refine o_ialdN (t0 := 0) (k := d) hC rfl dX8_makeJoin_108 (by repeat (first | with_reducible assumption | (rw [rl_u_s]; done) | (rw [rl_u_s]; rfl) | rw [rl_u_n (by first | with_reducible assumption | omega)])) (by omega) (by decide) ?_
              rw [hwd]
              refine o_icmp_ge (tgt := 141) hC dX8_makeJoin_109 (by decide) (fun c_109 => ?_) (fun c_109 => ?_)
              · refine o_aload_n hC dX8_makeJoin_141 (by rfl) ?_
                refine o_iload_n hC dX8_makeJoin_142 (by rfl) ?_
                refine o_sipush (v := nI 1360) hC dX8_makeJoin_143 (by decide +kernel) ?_
                refine o_callV2 hC rl_BW_good rl_Ns_nw (by exact hB.2.2.2.2.2) YX8_comes IX8_comes VX8_comes (mX8_178 hC) (by rw [hB.1]; exact cm_X8_comes l D ids H0 _ _ m T _ _ S a 1360 w hq3.rf hs1 (by omega) (by omega) hw hw6) (by exact hq3.1) rfl rfl (Nat.le_of_ble_eq_true rfl) (by rw [hB.2.1]; first | exact Nat.le_of_ble_eq_true rfl | (dsimp only; omega)) (by rw [hB.2.1]; first | exact Nat.le_of_ble_eq_true rfl | (dsimp only; omega)) (by rw [hB.2.1]; first | exact Nat.le_of_ble_eq_true rfl | (dsimp only; omega)) (by rw [hB.2.1]; first | exact Nat.le_of_ble_eq_true rfl | (dsimp only; omega)) dX8_makeJoin_146 (fun v h_146 n_146 p_146 => ?_)
                obtain ⟨rfl, rfl, f146, k146, q146⟩ := p_146
                try dsimp only [Option.toList, List.cons_append, List.nil_append]
                refine o_iinc hC dX8_makeJoin_149 (by rfl) (rl_inc _) (Nat.le_of_ble_eq_true rfl) ?_
                refine o_goto (tgt := 17) hC dX8_makeJoin_152 (by decide) ?_
                exact ih2 (u + 1) _ _ _ _ (by omega) (hq3.tr q146)
              · exact absurd (nI_le (by omega) (by omega)) c_109
            | succ m3 ih3 =>
              intro c h3 f3 k3 hm3 hq3
              have hs1 := hq3.sa hs
              obtain ⟨g0, gk, ⟨⟨cl, g12⟩, ⟨tu, g13, b13⟩, ⟨im, g14⟩, ⟨te, g15, b15⟩, ⟨ne, g16⟩, ⟨la, g17⟩, ⟨hn, g18⟩, ⟨hl, g19⟩, ⟨tp, g20⟩, ⟨gr, g21, b21⟩, ⟨it, g22⟩⟩, gf⟩ := id hq3
              obtain ⟨a1, a2, a3, a4, a5, a6, a7, a8, a9, a10, a11⟩ := id hs1
              refine o_iload hC dX8_makeJoin_101 (by rfl) ?_
              refine o_aload_n hC dX8_makeJoin_103 (by rfl) ?_
              refine o_getf hC (fX8_40 hC rfl) dX8_makeJoin_104 (by repeat (first | with_reducible assumption | (rw [rl_u_s]; done) | (rw [rl_u_s]; rfl) | rw [rl_u_n (by first | with_reducible assumption | omega)])) (by first | rfl | with_reducible assumption) ?_
              refine o_iload_n hC dX8_makeJoin_107 (by rfl) ?_
              refine o_ialdN (t0 := 0) (k := d) hC rfl dX8_makeJoin_108 (by repeat (first | with_reducible assumption | (rw [rl_u_s]; done) | (rw [rl_u_s]; rfl) | rw [rl_u_n (by first | with_reducible assumption | omega)])) (by omega) (by decide) ?_
              rw [hwd]
              refine o_icmp_ge (tgt := 141) hC dX8_makeJoin_109 (by decide) (fun c_109 => ?_) (fun c_109 => ?_)
              · exact absurd c_109 (nI_ge (by omega) (by omega))
              · refine o_aload_n hC dX8_makeJoin_112 (by rfl) ?_
                refine o_getf hC (fX8_69 hC rfl) dX8_makeJoin_113 (by repeat (first | with_reducible assumption | (rw [rl_u_s]; done) | (rw [rl_u_s]; rfl) | rw [rl_u_n (by first | with_reducible assumption | omega)])) (by first | rfl | with_reducible assumption) ?_
                refine o_aload_n hC dX8_makeJoin_116 (by rfl) ?_
                refine o_getf hC (fX8_40 hC rfl) dX8_makeJoin_117 (by repeat (first | with_reducible assumption | (rw [rl_u_s]; done) | (rw [rl_u_s]; rfl) | rw [rl_u_n (by first | with_reducible assumption | omega)])) (by first | rfl | with_reducible assumption) ?_
                refine o_iload_n hC dX8_makeJoin_120 (by rfl) ?_
                refine o_ialdN (t0 := 0) (k := b) hC rfl dX8_makeJoin_121 (by repeat (first | with_reducible assumption | (rw [rl_u_s]; done) | (rw [rl_u_s]; rfl) | rw [rl_u_n (by first | with_reducible assumption | omega)])) (by omega) (by decide) ?_
                rw [hwb]
                refine o_iload hC dX8_makeJoin_122 (by rfl) ?_
                refine o_iadd hC dX8_makeJoin_124 ?_
                try rw [nI_add]
                refine o_aload_n hC dX8_makeJoin_125 (by rfl) ?_
                refine o_iload_n hC dX8_makeJoin_126 (by rfl) ?_
                refine o_iload hC dX8_makeJoin_127 (by rfl) ?_
                refine o_iload hC dX8_makeJoin_129 (by rfl) ?_
                refine o_callV3 hC rl_BW_good rl_Ns_nw (by exact hB.2.2.2.2.2) YX8_cellAt IX8_cellAt VX8_cellAt (mX8_138 hC) (by rw [hB.1]; exact cm_X8_cellAt l D ids H0 _ _ m T _ _ d u c hq3.rf (by omega)) (by exact hq3.rf.1) rfl rfl (Nat.le_of_ble_eq_true rfl) (by rw [hB.2.1]; first | exact Nat.le_of_ble_eq_true rfl | (dsimp only; omega)) (by rw [hB.2.1]; first | exact Nat.le_of_ble_eq_true rfl | (dsimp only; omega)) (by rw [hB.2.1]; first | exact Nat.le_of_ble_eq_true rfl | (dsimp only; omega)) (by rw [hB.2.1]; first | exact Nat.le_of_ble_eq_true rfl | (dsimp only; omega)) dX8_makeJoin_131 (fun v h_131 n_131 p_131 => ?_)
                obtain ⟨r131, rfl, rfl, rfl⟩ := p_131
                try dsimp only [Option.toList, List.cons_append, List.nil_append]
                refine o_iastN (t0 := 0) hC rfl dX8_makeJoin_134 (by repeat (first | with_reducible assumption | (rw [rl_u_s]; done) | (rw [rl_u_s]; rfl) | rw [rl_u_n (by first | with_reducible assumption | omega)])) (by omega) (by decide) ?_
                refine o_iinc hC dX8_makeJoin_135 (by rfl) (rl_inc _) (Nat.le_of_ble_eq_true rfl) ?_
                refine o_goto (tgt := 101) hC dX8_makeJoin_138 (by decide) ?_
                exact ih3 (c + 1) _ _ _ (by omega) (hq3.s20 _)
          have hs1 := hq2.sa hs
          obtain ⟨g0, gk, ⟨⟨cl, g12⟩, ⟨tu, g13, b13⟩, ⟨im, g14⟩, ⟨te, g15, b15⟩, ⟨ne, g16⟩, ⟨la, g17⟩, ⟨hn, g18⟩, ⟨hl, g19⟩, ⟨tp, g20⟩, ⟨gr, g21, b21⟩, ⟨it, g22⟩⟩, gf⟩ := id hq2
          obtain ⟨a1, a2, a3, a4, a5, a6, a7, a8, a9, a10, a11⟩ := id hs1
          refine o_iload hC dX8_makeJoin_17 (by rfl) ?_
          refine o_aload_n hC dX8_makeJoin_19 (by rfl) ?_
          refine o_getf hC (fX8_46 hC rfl) dX8_makeJoin_20 (by repeat (first | with_reducible assumption | (rw [rl_u_s]; done) | (rw [rl_u_s]; rfl) | rw [rl_u_n (by first | with_reducible assumption | omega)])) (by first | rfl | with_reducible assumption) ?_
          refine o_iload_n hC dX8_makeJoin_23 (by rfl) ?_
          obtain ⟨t24, ht24, et24⟩ := b13 d (by omega)
          refine o_ialdN (t0 := 0) (k := d) hC rfl dX8_makeJoin_24 (by repeat (first | with_reducible assumption | (rw [rl_u_s]; done) | (rw [rl_u_s]; rfl) | rw [rl_u_n (by first | with_reducible assumption | omega)])) (by omega) (by decide) ?_
          rw [et24]
          refine o_icmp_ge (tgt := 155) hC dX8_makeJoin_25 (by decide) (fun c_25 => ?_) (fun c_25 => ?_)
          · refine o_iinc hC dX8_makeJoin_155 (by rfl) (rl_inc _) (Nat.le_of_ble_eq_true rfl) ?_
            refine o_goto (tgt := 3) hC dX8_makeJoin_158 (by decide) ?_
            exact ih (t + 1) _ _ _ _ _ (by omega) hq2
          · refine o_aload_n hC dX8_makeJoin_28 (by rfl) ?_
            refine o_getf hC (fX8_91 hC rfl) dX8_makeJoin_29 (by repeat (first | with_reducible assumption | (rw [rl_u_s]; done) | (rw [rl_u_s]; rfl) | rw [rl_u_n (by first | with_reducible assumption | omega)])) (by first | rfl | with_reducible assumption) ?_
            refine o_if_ne (tgt := 155) hC dX8_makeJoin_32 (by decide) (fun c_32 => ?_) (fun c_32 => ?_)
            · refine o_iinc hC dX8_makeJoin_155 (by rfl) (rl_inc _) (Nat.le_of_ble_eq_true rfl) ?_
              refine o_goto (tgt := 3) hC dX8_makeJoin_158 (by decide) ?_
              exact ih (t + 1) _ _ _ _ _ (by omega) hq2
            · refine o_aload_n hC dX8_makeJoin_35 (by rfl) ?_
              refine o_iload_n hC dX8_makeJoin_36 (by rfl) ?_
              refine o_iload hC dX8_makeJoin_37 (by rfl) ?_
              refine o_aload_n hC dX8_makeJoin_39 (by rfl) ?_
              refine o_getf hC (fX8_28 hC rfl) dX8_makeJoin_40 (by repeat (first | with_reducible assumption | (rw [rl_u_s]; done) | (rw [rl_u_s]; rfl) | rw [rl_u_n (by first | with_reducible assumption | omega)])) (by first | rfl | with_reducible assumption) ?_
              refine o_iload_n hC dX8_makeJoin_43 (by rfl) ?_
              refine o_ialdN (t0 := 0) (k := a) hC rfl dX8_makeJoin_44 (by repeat (first | with_reducible assumption | (rw [rl_u_s]; done) | (rw [rl_u_s]; rfl) | rw [rl_u_n (by first | with_reducible assumption | omega)])) (by omega) (by decide) ?_
              rw [hnA]
              refine o_callV3 hC rl_BW_good rl_Ns_nw (by exact hB.2.2.2.2.2) YX8_cellAt IX8_cellAt VX8_cellAt (mX8_138 hC) (by rw [hB.1]; exact cm_X8_cellAt l D ids H0 _ _ m T _ _ b t ca hq2.rf (by omega)) (by exact hq2.rf.1) rfl rfl (Nat.le_of_ble_eq_true rfl) (by rw [hB.2.1]; first | exact Nat.le_of_ble_eq_true rfl | (dsimp only; omega)) (by rw [hB.2.1]; first | exact Nat.le_of_ble_eq_true rfl | (dsimp only; omega)) (by rw [hB.2.1]; first | exact Nat.le_of_ble_eq_true rfl | (dsimp only; omega)) (by rw [hB.2.1]; first | exact Nat.le_of_ble_eq_true rfl | (dsimp only; omega)) dX8_makeJoin_45 (fun v h_45 n_45 p_45 => ?_)
              obtain ⟨r45, rfl, rfl, rfl⟩ := p_45
              try dsimp only [Option.toList, List.cons_append, List.nil_append]
              refine o_aload_n hC dX8_makeJoin_48 (by rfl) ?_
              refine o_iload_n hC dX8_makeJoin_49 (by rfl) ?_
              refine o_iload hC dX8_makeJoin_50 (by rfl) ?_
              refine o_aload_n hC dX8_makeJoin_52 (by rfl) ?_
              refine o_getf hC (fX8_31 hC rfl) dX8_makeJoin_53 (by repeat (first | with_reducible assumption | (rw [rl_u_s]; done) | (rw [rl_u_s]; rfl) | rw [rl_u_n (by first | with_reducible assumption | omega)])) (by first | rfl | with_reducible assumption) ?_
              refine o_iload_n hC dX8_makeJoin_56 (by rfl) ?_
              refine o_ialdN (t0 := 0) (k := a) hC rfl dX8_makeJoin_57 (by repeat (first | with_reducible assumption | (rw [rl_u_s]; done) | (rw [rl_u_s]; rfl) | rw [rl_u_n (by first | with_reducible assumption | omega)])) (by omega) (by decide) ?_
              rw [hnB]
              refine o_callV3 hC rl_BW_good rl_Ns_nw (by exact hB.2.2.2.2.2) YX8_cellAt IX8_cellAt VX8_cellAt (mX8_138 hC) (by rw [hB.1]; exact cm_X8_cellAt l D ids H0 _ _ m T _ _ d u cb hq2.rf (by omega)) (by exact hq2.rf.1) rfl rfl (Nat.le_of_ble_eq_true rfl) (by rw [hB.2.1]; first | exact Nat.le_of_ble_eq_true rfl | (dsimp only; omega)) (by rw [hB.2.1]; first | exact Nat.le_of_ble_eq_true rfl | (dsimp only; omega)) (by rw [hB.2.1]; first | exact Nat.le_of_ble_eq_true rfl | (dsimp only; omega)) (by rw [hB.2.1]; first | exact Nat.le_of_ble_eq_true rfl | (dsimp only; omega)) dX8_makeJoin_58 (fun v h_58 n_58 p_58 => ?_)
              obtain ⟨r58, rfl, rfl, rfl⟩ := p_58
              try dsimp only [Option.toList, List.cons_append, List.nil_append]
              refine o_icmp_ne (tgt := 149) hC dX8_makeJoin_61 (by decide) (fun c_61 => ?_) (fun c_61 => ?_)
              · refine o_iinc hC dX8_makeJoin_149 (by rfl) (rl_inc _) (Nat.le_of_ble_eq_true rfl) ?_
                refine o_goto (tgt := 17) hC dX8_makeJoin_152 (by decide) ?_
                exact ih2 (u + 1) _ _ _ _ (by omega) hq2
              · refine o_aload_n hC dX8_makeJoin_64 (by rfl) ?_
                refine o_sipush (v := nI 1360) hC dX8_makeJoin_65 (by decide +kernel) ?_
                refine o_bipush (v := nI 80) hC dX8_makeJoin_68 (by decide +kernel) ?_
                refine o_iload_n hC dX8_makeJoin_70 (by rfl) ?_
                refine o_imul hC dX8_makeJoin_71 ?_
                try rw [nI_mul]
                refine o_iload hC dX8_makeJoin_72 (by rfl) ?_
                refine o_iadd hC dX8_makeJoin_74 ?_
                try rw [nI_add]
                refine o_bipush (v := nI 80) hC dX8_makeJoin_75 (by decide +kernel) ?_
                refine o_iload_n hC dX8_makeJoin_77 (by rfl) ?_
                refine o_imul hC dX8_makeJoin_78 ?_
                try rw [nI_mul]
                refine o_iload hC dX8_makeJoin_79 (by rfl) ?_
                refine o_iadd hC dX8_makeJoin_81 ?_
                try rw [nI_add]
                refine o_callV3 hC rl_BW_good rl_Ns_nw (by exact hB.2.2.2.2.2) YX8_both IX8_both VX8_both (mX8_184 hC) (by rw [hB.1]; exact cm_X8_both l D ids H0 _ _ m T _ _ 1360 (80 * b + t) (80 * d + u) hq2.rf (by omega) (by omega) (by omega)) (by exact hq2.1) rfl rfl (Nat.le_of_ble_eq_true rfl) (by rw [hB.2.1]; first | exact Nat.le_of_ble_eq_true rfl | (dsimp only; omega)) (by rw [hB.2.1]; first | exact Nat.le_of_ble_eq_true rfl | (dsimp only; omega)) (by rw [hB.2.1]; first | exact Nat.le_of_ble_eq_true rfl | (dsimp only; omega)) (by rw [hB.2.1]; first | exact Nat.le_of_ble_eq_true rfl | (dsimp only; omega)) dX8_makeJoin_82 (fun v h_82 n_82 p_82 => ?_)
                obtain ⟨rfl, rfl, f82, k82, q82⟩ := p_82
                have hq4 := hq2.tr q82
                have hs4 := hq4.sa hs
                have g04 := hq4.1
                obtain ⟨-, -, -, -, -, -, -, -, -, -, a11⟩ := id hs4
                try dsimp only [Option.toList, List.cons_append, List.nil_append]
                refine o_aload_n hC dX8_makeJoin_85 (by rfl) ?_
                refine o_iload_n hC dX8_makeJoin_86 (by rfl) ?_
                refine o_iload hC dX8_makeJoin_87 (by rfl) ?_
                refine o_aload_n hC dX8_makeJoin_89 (by rfl) ?_
                refine o_getf hC (fX8_40 hC rfl) dX8_makeJoin_90 (by repeat (first | with_reducible assumption | (rw [rl_u_s]; done) | (rw [rl_u_s]; rfl) | rw [rl_u_n (by first | with_reducible assumption | omega)])) (by first | rfl | with_reducible assumption) ?_
                refine o_iload_n hC dX8_makeJoin_93 (by rfl) ?_
                refine o_ialdN (t0 := 0) (k := b) hC rfl dX8_makeJoin_94 (by repeat (first | with_reducible assumption | (rw [rl_u_s]; done) | (rw [rl_u_s]; rfl) | rw [rl_u_n (by first | with_reducible assumption | omega)])) (by omega) (by decide) ?_
                rw [hwb]
                refine o_callV3 hC rl_BW_good rl_Ns_nw (by exact hB.2.2.2.2.2) YX8_take IX8_take VX8_take (mX8_181 hC) (by rw [hB.1]; exact cm_X8_take l D ids H0 _ _ m T _ _ b t wb hq4.rf (by omega) (by omega) hwb6) (by exact hq4.1) rfl rfl (Nat.le_of_ble_eq_true rfl) (by rw [hB.2.1]; first | exact Nat.le_of_ble_eq_true rfl | (dsimp only; omega)) (by rw [hB.2.1]; first | exact Nat.le_of_ble_eq_true rfl | (dsimp only; omega)) (by rw [hB.2.1]; first | exact Nat.le_of_ble_eq_true rfl | (dsimp only; omega)) (by rw [hB.2.1]; first | exact Nat.le_of_ble_eq_true rfl | (dsimp only; omega)) dX8_makeJoin_95 (fun v h_95 n_95 p_95 => ?_)
                obtain ⟨rfl, rfl, q95⟩ := p_95
                have hq5 := hq4.tr q95
                try dsimp only [Option.toList, List.cons_append, List.nil_append]
                refine o_iconst (v := nI 0) hC dX8_makeJoin_98 (by decide +kernel) ?_
                refine o_istore hC dX8_makeJoin_99 (Nat.le_of_ble_eq_true rfl) ?_
                exact loopC wd 0 _ _ _ (by omega) hq5
      have hs1 := hq1.sa hs
      obtain ⟨g0, gk, ⟨⟨cl, g12⟩, ⟨tu, g13, b13⟩, ⟨im, g14⟩, ⟨te, g15, b15⟩, ⟨ne, g16⟩, ⟨la, g17⟩, ⟨hn, g18⟩, ⟨hl, g19⟩, ⟨tp, g20⟩, ⟨gr, g21, b21⟩, ⟨it, g22⟩⟩, gf⟩ := id hq1
      obtain ⟨a1, a2, a3, a4, a5, a6, a7, a8, a9, a10, a11⟩ := id hs1
      refine o_iload hC dX8_makeJoin_3 (by rfl) ?_
      refine o_aload_n hC dX8_makeJoin_5 (by rfl) ?_
      refine o_getf hC (fX8_46 hC rfl) dX8_makeJoin_6 (by repeat (first | with_reducible assumption | (rw [rl_u_s]; done) | (rw [rl_u_s]; rfl) | rw [rl_u_n (by first | with_reducible assumption | omega)])) (by first | rfl | with_reducible assumption) ?_
      refine o_iload_n hC dX8_makeJoin_9 (by rfl) ?_
      obtain ⟨t10, ht10, et10⟩ := b13 b (by omega)
      refine o_ialdN (t0 := 0) (k := b) hC rfl dX8_makeJoin_10 (by repeat (first | with_reducible assumption | (rw [rl_u_s]; done) | (rw [rl_u_s]; rfl) | rw [rl_u_n (by first | with_reducible assumption | omega)])) (by omega) (by decide) ?_
      rw [et10]
      refine o_icmp_ge (tgt := 161) hC dX8_makeJoin_11 (by decide) (fun c_11 => ?_) (fun c_11 => ?_)
      · refine o_vret hC hB dX8_makeJoin_161 (Nat.le_of_ble_eq_true rfl) (Nat.le_of_ble_eq_true rfl) ?_
        exact ⟨rfl, rfl, _, _, hq1⟩
      · refine o_iconst (v := nI 0) hC dX8_makeJoin_14 (by decide +kernel) ?_
        refine o_istore hC dX8_makeJoin_15 (Nat.le_of_ble_eq_true rfl) ?_
        exact loopU 80 0 _ _ _ _ (by omega) hq1
  show rl_G X (rl_e D ids H0) 0 [some (.ref m), some (.int (nI a)), some (.int (nI b)), some (.int (nI d)), none, none, none] [] h n 0 0
  refine o_iconst (v := nI 0) hC dX8_makeJoin_0 (by decide +kernel) ?_
  refine o_istore hC dX8_makeJoin_1 (Nat.le_of_ble_eq_true rfl) ?_
  exact loop 80 0 _ _ _ _ _ (by omega) hq

set_option maxHeartbeats 4000000 in
set_option maxRecDepth 100000 in
theorem cm_X8_makeMinus (l : Launch) (D : va_G) (ids : Nat → ClassId) (H0 : Heap) (h : rl_H) (n : Nat) (m : Nat) (T : md_T) (fu : Int32) (k : Nat) (S : md_A) (a b d w wb wd : Nat) (hq : mq ids h h m T fu k) (hs : md_sa ids h m S) (ha : a < 16) (hb : b < 16) (hw : S.2.2.2.2.2.2.2.2.2.2 a = nI w) (hw6 : w ≤ 6) (hwb : S.2.2.2.2.2.2.2.2.2.2 b = nI wb) (hwb6 : wb ≤ 6) (hd : d < 16) (hwd : S.2.2.2.2.2.2.2.2.2.2 d = nI wd) (hwd6 : wd ≤ 6)  : rl_Met l (rl_e D ids H0) rl_BW rl_Ns yX8_makeMinus cX8_makeMinus 7 none ({ frames := 4, cells := 0, slots := 0, locals := 98 }) [.ref m, .int (nI a), .int (nI b), .int (nI d)] h n (fun v h' n' => v = none ∧ n' = n ∧ ∃ (fu' : Int32) (k' : Nat), mq ids h h' m T fu' k') := by
  refine rl_Met.of (by decide +kernel) (Nat.le_of_ble_eq_true rfl) ?_
  intro X hC hB
  have loop : ∀ (mm t : Nat) (h1 : rl_H) (f1 : Int32) (k1 : Nat) (o5 o6 : Option Value), t + mm = 80 → mq ids h h1 m T f1 k1 → rl_G X (rl_e D ids H0) 3 [some (.ref m), some (.int (nI a)), some (.int (nI b)), some (.int (nI d)), some (.int (nI t)), o5, o6] [] h1 n 0 0 := by
    intro mm
    induction mm with
    | zero =>
      intro t h1 f1 k1 o5 o6 hm hq1
      have hs1 := hq1.sa hs
      obtain ⟨g0, gk, ⟨⟨cl, g12⟩, ⟨tu, g13, b13⟩, ⟨im, g14⟩, ⟨te, g15, b15⟩, ⟨ne, g16⟩, ⟨la, g17⟩, ⟨hn, g18⟩, ⟨hl, g19⟩, ⟨tp, g20⟩, ⟨gr, g21, b21⟩, ⟨it, g22⟩⟩, gf⟩ := id hq1
      obtain ⟨a1, a2, a3, a4, a5, a6, a7, a8, a9, a10, a11⟩ := id hs1
      refine o_iload hC dX8_makeMinus_3 (by rfl) ?_
      refine o_aload_n hC dX8_makeMinus_5 (by rfl) ?_
      refine o_getf hC (fX8_46 hC rfl) dX8_makeMinus_6 (by repeat (first | with_reducible assumption | (rw [rl_u_s]; done) | (rw [rl_u_s]; rfl) | rw [rl_u_n (by first | with_reducible assumption | omega)])) (by first | rfl | with_reducible assumption) ?_
      refine o_iload_n hC dX8_makeMinus_9 (by rfl) ?_
      obtain ⟨t10, ht10, et10⟩ := b13 b (by omega)
      refine o_ialdN (t0 := 0) (k := b) hC rfl dX8_makeMinus_10 (by repeat (first | with_reducible assumption | (rw [rl_u_s]; done) | (rw [rl_u_s]; rfl) | rw [rl_u_n (by first | with_reducible assumption | omega)])) (by omega) (by decide) ?_
      rw [et10]
      refine o_icmp_ge (tgt := 149) hC dX8_makeMinus_11 (by decide) (fun c_11 => ?_) (fun c_11 => ?_)
      · refine o_vret hC hB dX8_makeMinus_149 (Nat.le_of_ble_eq_true rfl) (Nat.le_of_ble_eq_true rfl) ?_
        exact ⟨rfl, rfl, _, _, hq1⟩
      · exact absurd (nI_le (by omega) (by omega)) c_11
    | succ mm ih =>
      intro t h1 f1 k1 o5 o6 hm hq1
      have loopK : ∀ (m2 i : Nat) (h2 : rl_H) (f2 : Int32) (k2 : Nat) (u : Int32), i + m2 = 80 → mq ids h h2 m T f2 k2 → (u = -1 ∨ ∃ j : Nat, j < 80 ∧ u = nI j) → rl_G X (rl_e D ids H0) 40 [some (.ref m), some (.int (nI a)), some (.int (nI b)), some (.int (nI d)), some (.int (nI t)), some (.int u), some (.int (nI i))] [] h2 n 0 0 := by
        intro m2
        have fin : ∀ (h2 : rl_H) (f2 : Int32) (k2 : Nat) (u : Int32) (o6 : Option Value), mq ids h h2 m T f2 k2 → (u = -1 ∨ ∃ j : Nat, j < 80 ∧ u = nI j) → rl_G X (rl_e D ids H0) 76 [some (.ref m), some (.int (nI a)), some (.int (nI b)), some (.int (nI d)), some (.int (nI t)), some (.int u), o6] [] h2 n 0 0 := by
          intro h2 f2 k2 u o6 hq2 hu
          have hs1 := hq2.sa hs
          obtain ⟨g0, gk, ⟨⟨cl, g12⟩, ⟨tu, g13, b13⟩, ⟨im, g14⟩, ⟨te, g15, b15⟩, ⟨ne, g16⟩, ⟨la, g17⟩, ⟨hn, g18⟩, ⟨hl, g19⟩, ⟨tp, g20⟩, ⟨gr, g21, b21⟩, ⟨it, g22⟩⟩, gf⟩ := id hq2
          obtain ⟨a1, a2, a3, a4, a5, a6, a7, a8, a9, a10, a11⟩ := id hs1
          refine o_iload hC dX8_makeMinus_76 (by rfl) ?_
          refine o_iconst (v := (-1 : Int32)) hC dX8_makeMinus_78 (by decide +kernel) ?_
          refine o_icmp_ne (tgt := 97) hC dX8_makeMinus_79 (by decide) (fun c_79 => ?_) (fun c_79 => ?_)
          · obtain ⟨j, hj, rfl⟩ := hu.resolve_left c_79
            refine o_aload_n hC dX8_makeMinus_97 (by rfl) ?_
            refine o_sipush (v := nI 1361) hC dX8_makeMinus_98 (by decide +kernel) ?_
            refine o_bipush (v := nI 80) hC dX8_makeMinus_101 (by decide +kernel) ?_
            refine o_iload_n hC dX8_makeMinus_103 (by rfl) ?_
            refine o_imul hC dX8_makeMinus_104 ?_
            try rw [nI_mul]
            refine o_iload hC dX8_makeMinus_105 (by rfl) ?_
            refine o_iadd hC dX8_makeMinus_107 ?_
            try rw [nI_add]
            refine o_callV2 hC rl_BW_good rl_Ns_nw (by exact hB.2.2.2.2.2) YX8_not IX8_not VX8_not (mX8_187 hC) (by rw [hB.1]; exact cm_X8_not l D ids H0 _ _ m T _ _ 1361 (80 * d + j) hq2.rf (by omega) (by omega)) (by exact hq2.1) rfl rfl (Nat.le_of_ble_eq_true rfl) (by rw [hB.2.1]; first | exact Nat.le_of_ble_eq_true rfl | (dsimp only; omega)) (by rw [hB.2.1]; first | exact Nat.le_of_ble_eq_true rfl | (dsimp only; omega)) (by rw [hB.2.1]; first | exact Nat.le_of_ble_eq_true rfl | (dsimp only; omega)) (by rw [hB.2.1]; first | exact Nat.le_of_ble_eq_true rfl | (dsimp only; omega)) dX8_makeMinus_108 (fun v h_108 n_108 p_108 => ?_)
            obtain ⟨rfl, rfl, f108, k108, q108⟩ := p_108
            have hq4 := hq2.tr q108
            have hs4 := hq4.sa hs
            have g04 := hq4.1
            try dsimp only [Option.toList, List.cons_append, List.nil_append]
            refine o_aload_n hC dX8_makeMinus_111 (by rfl) ?_
            refine o_getf hC (fX8_91 hC rfl) dX8_makeMinus_112 (by repeat (first | with_reducible assumption | (rw [rl_u_s]; done) | (rw [rl_u_s]; rfl) | rw [rl_u_n (by first | with_reducible assumption | omega)])) (by first | rfl | with_reducible assumption) ?_
            refine o_if_ne (tgt := 135) hC dX8_makeMinus_115 (by decide) (fun c_115 => ?_) (fun c_115 => ?_)
            · refine o_aload_n hC dX8_makeMinus_135 (by rfl) ?_
              refine o_iload_n hC dX8_makeMinus_136 (by rfl) ?_
              refine o_sipush (v := nI 1360) hC dX8_makeMinus_137 (by decide +kernel) ?_
              refine o_callV2 hC rl_BW_good rl_Ns_nw (by exact hB.2.2.2.2.2) YX8_comes IX8_comes VX8_comes (mX8_178 hC) (by rw [hB.1]; exact (by first | exact cm_X8_comes l D ids H0 _ _ m T _ _ S a 1360 w hq5.rf hs5 (by omega) (by omega) hw hw6 | exact cm_X8_comes l D ids H0 _ _ m T _ _ S a 1360 w hq4.rf hs4 (by omega) (by omega) hw hw6)) (by first | exact hq5.1 | exact hq4.1) rfl rfl (Nat.le_of_ble_eq_true rfl) (by rw [hB.2.1]; first | exact Nat.le_of_ble_eq_true rfl | (dsimp only; omega)) (by rw [hB.2.1]; first | exact Nat.le_of_ble_eq_true rfl | (dsimp only; omega)) (by rw [hB.2.1]; first | exact Nat.le_of_ble_eq_true rfl | (dsimp only; omega)) (by rw [hB.2.1]; first | exact Nat.le_of_ble_eq_true rfl | (dsimp only; omega)) dX8_makeMinus_140 (fun v h_140 n_140 p_140 => ?_)
              obtain ⟨rfl, rfl, f140, k140, q140⟩ := p_140
              try dsimp only [Option.toList, List.cons_append, List.nil_append]
              refine o_iinc hC dX8_makeMinus_143 (by rfl) (rl_inc _) (Nat.le_of_ble_eq_true rfl) ?_
              refine o_goto (tgt := 3) hC dX8_makeMinus_146 (by decide) ?_
              first
              | exact ih (t + 1) _ _ _ _ _ (by omega) (hq2.tr q91)
              | exact ih (t + 1) _ _ _ _ _ (by omega) (hq5.tr q140)
              | exact ih (t + 1) _ _ _ _ _ (by omega) (hq4.tr q140)
            · refine o_aload_n hC dX8_makeMinus_118 (by rfl) ?_
              refine o_sipush (v := nI 1360) hC dX8_makeMinus_119 (by decide +kernel) ?_
              refine o_bipush (v := nI 80) hC dX8_makeMinus_122 (by decide +kernel) ?_
              refine o_iload_n hC dX8_makeMinus_124 (by rfl) ?_
              refine o_imul hC dX8_makeMinus_125 ?_
              try rw [nI_mul]
              refine o_iload hC dX8_makeMinus_126 (by rfl) ?_
              refine o_iadd hC dX8_makeMinus_128 ?_
              try rw [nI_add]
              refine o_sipush (v := nI 1361) hC dX8_makeMinus_129 (by decide +kernel) ?_
              refine o_callV3 hC rl_BW_good rl_Ns_nw (by exact hB.2.2.2.2.2) YX8_both IX8_both VX8_both (mX8_184 hC) (by rw [hB.1]; exact cm_X8_both l D ids H0 _ _ m T _ _ 1360 (80 * b + t) 1361 hq4.rf (by omega) (by omega) (by omega)) (by exact hq4.1) rfl rfl (Nat.le_of_ble_eq_true rfl) (by rw [hB.2.1]; first | exact Nat.le_of_ble_eq_true rfl | (dsimp only; omega)) (by rw [hB.2.1]; first | exact Nat.le_of_ble_eq_true rfl | (dsimp only; omega)) (by rw [hB.2.1]; first | exact Nat.le_of_ble_eq_true rfl | (dsimp only; omega)) (by rw [hB.2.1]; first | exact Nat.le_of_ble_eq_true rfl | (dsimp only; omega)) dX8_makeMinus_132 (fun v h_132 n_132 p_132 => ?_)
              obtain ⟨rfl, rfl, f132, k132, q132⟩ := p_132
              have hq5 := hq4.tr q132
              have hs5 := hq5.sa hs
              try dsimp only [Option.toList, List.cons_append, List.nil_append]
              refine o_aload_n hC dX8_makeMinus_135 (by rfl) ?_
              refine o_iload_n hC dX8_makeMinus_136 (by rfl) ?_
              refine o_sipush (v := nI 1360) hC dX8_makeMinus_137 (by decide +kernel) ?_
              refine o_callV2 hC rl_BW_good rl_Ns_nw (by exact hB.2.2.2.2.2) YX8_comes IX8_comes VX8_comes (mX8_178 hC) (by rw [hB.1]; exact (by first | exact cm_X8_comes l D ids H0 _ _ m T _ _ S a 1360 w hq5.rf hs5 (by omega) (by omega) hw hw6 | exact cm_X8_comes l D ids H0 _ _ m T _ _ S a 1360 w hq4.rf hs4 (by omega) (by omega) hw hw6)) (by first | exact hq5.1 | exact hq4.1) rfl rfl (Nat.le_of_ble_eq_true rfl) (by rw [hB.2.1]; first | exact Nat.le_of_ble_eq_true rfl | (dsimp only; omega)) (by rw [hB.2.1]; first | exact Nat.le_of_ble_eq_true rfl | (dsimp only; omega)) (by rw [hB.2.1]; first | exact Nat.le_of_ble_eq_true rfl | (dsimp only; omega)) (by rw [hB.2.1]; first | exact Nat.le_of_ble_eq_true rfl | (dsimp only; omega)) dX8_makeMinus_140 (fun v h_140 n_140 p_140 => ?_)
              obtain ⟨rfl, rfl, f140, k140, q140⟩ := p_140
              try dsimp only [Option.toList, List.cons_append, List.nil_append]
              refine o_iinc hC dX8_makeMinus_143 (by rfl) (rl_inc _) (Nat.le_of_ble_eq_true rfl) ?_
              refine o_goto (tgt := 3) hC dX8_makeMinus_146 (by decide) ?_
              first
              | exact ih (t + 1) _ _ _ _ _ (by omega) (hq2.tr q91)
              | exact ih (t + 1) _ _ _ _ _ (by omega) (hq5.tr q140)
              | exact ih (t + 1) _ _ _ _ _ (by omega) (hq4.tr q140)
          · refine o_aload_n hC dX8_makeMinus_82 (by rfl) ?_
            refine o_iload_n hC dX8_makeMinus_83 (by rfl) ?_
            refine o_bipush (v := nI 80) hC dX8_makeMinus_84 (by decide +kernel) ?_
            refine o_iload_n hC dX8_makeMinus_86 (by rfl) ?_
            refine o_imul hC dX8_makeMinus_87 ?_
            try rw [nI_mul]
            refine o_iload hC dX8_makeMinus_88 (by rfl) ?_
            refine o_iadd hC dX8_makeMinus_90 ?_
            try rw [nI_add]
            refine o_callV2 hC rl_BW_good rl_Ns_nw (by exact hB.2.2.2.2.2) YX8_comes IX8_comes VX8_comes (mX8_178 hC) (by rw [hB.1]; exact cm_X8_comes l D ids H0 _ _ m T _ _ S a (80 * b + t) w hq2.rf hs1 (by omega) (by omega) hw hw6) (by exact hq2.1) rfl rfl (Nat.le_of_ble_eq_true rfl) (by rw [hB.2.1]; first | exact Nat.le_of_ble_eq_true rfl | (dsimp only; omega)) (by rw [hB.2.1]; first | exact Nat.le_of_ble_eq_true rfl | (dsimp only; omega)) (by rw [hB.2.1]; first | exact Nat.le_of_ble_eq_true rfl | (dsimp only; omega)) (by rw [hB.2.1]; first | exact Nat.le_of_ble_eq_true rfl | (dsimp only; omega)) dX8_makeMinus_91 (fun v h_91 n_91 p_91 => ?_)
            obtain ⟨rfl, rfl, f91, k91, q91⟩ := p_91
            try dsimp only [Option.toList, List.cons_append, List.nil_append]
            refine o_goto (tgt := 143) hC dX8_makeMinus_94 (by decide) ?_
            refine o_iinc hC dX8_makeMinus_143 (by rfl) (rl_inc _) (Nat.le_of_ble_eq_true rfl) ?_
            refine o_goto (tgt := 3) hC dX8_makeMinus_146 (by decide) ?_
            first
            | exact ih (t + 1) _ _ _ _ _ (by omega) (hq2.tr q91)
            | exact ih (t + 1) _ _ _ _ _ (by omega) (hq5.tr q140)
            | exact ih (t + 1) _ _ _ _ _ (by omega) (hq4.tr q140)
        induction m2 with
        | zero =>
          intro i h2 f2 k2 u hm2 hq2 hu
          have hs1 := hq2.sa hs
          obtain ⟨g0, gk, ⟨⟨cl, g12⟩, ⟨tu, g13, b13⟩, ⟨im, g14⟩, ⟨te, g15, b15⟩, ⟨ne, g16⟩, ⟨la, g17⟩, ⟨hn, g18⟩, ⟨hl, g19⟩, ⟨tp, g20⟩, ⟨gr, g21, b21⟩, ⟨it, g22⟩⟩, gf⟩ := id hq2
          obtain ⟨a1, a2, a3, a4, a5, a6, a7, a8, a9, a10, a11⟩ := id hs1
          refine o_iload hC dX8_makeMinus_40 (by rfl) ?_
          refine o_aload_n hC dX8_makeMinus_42 (by rfl) ?_
          refine o_getf hC (fX8_46 hC rfl) dX8_makeMinus_43 (by repeat (first | with_reducible assumption | (rw [rl_u_s]; done) | (rw [rl_u_s]; rfl) | rw [rl_u_n (by first | with_reducible assumption | omega)])) (by first | rfl | with_reducible assumption) ?_
          refine o_iload_n hC dX8_makeMinus_46 (by rfl) ?_
          obtain ⟨t47, ht47, et47⟩ := b13 d (by omega)
          refine o_ialdN (t0 := 0) (k := d) hC rfl dX8_makeMinus_47 (by repeat (first | with_reducible assumption | (rw [rl_u_s]; done) | (rw [rl_u_s]; rfl) | rw [rl_u_n (by first | with_reducible assumption | omega)])) (by omega) (by decide) ?_
          rw [et47]
          refine o_icmp_ge (tgt := 76) hC dX8_makeMinus_48 (by decide) (fun c_48 => ?_) (fun c_48 => ?_)
          · exact fin _ _ _ _ _ hq2 hu
          · exact absurd (nI_le (by omega) (by omega)) c_48
        | succ m2 ih2 =>
          intro i h2 f2 k2 u hm2 hq2 hu
          have hs1 := hq2.sa hs
          obtain ⟨g0, gk, ⟨⟨cl, g12⟩, ⟨tu, g13, b13⟩, ⟨im, g14⟩, ⟨te, g15, b15⟩, ⟨ne, g16⟩, ⟨la, g17⟩, ⟨hn, g18⟩, ⟨hl, g19⟩, ⟨tp, g20⟩, ⟨gr, g21, b21⟩, ⟨it, g22⟩⟩, gf⟩ := id hq2
          obtain ⟨a1, a2, a3, a4, a5, a6, a7, a8, a9, a10, a11⟩ := id hs1
          refine o_iload hC dX8_makeMinus_40 (by rfl) ?_
          refine o_aload_n hC dX8_makeMinus_42 (by rfl) ?_
          refine o_getf hC (fX8_46 hC rfl) dX8_makeMinus_43 (by repeat (first | with_reducible assumption | (rw [rl_u_s]; done) | (rw [rl_u_s]; rfl) | rw [rl_u_n (by first | with_reducible assumption | omega)])) (by first | rfl | with_reducible assumption) ?_
          refine o_iload_n hC dX8_makeMinus_46 (by rfl) ?_
          obtain ⟨t47, ht47, et47⟩ := b13 d (by omega)
          refine o_ialdN (t0 := 0) (k := d) hC rfl dX8_makeMinus_47 (by repeat (first | with_reducible assumption | (rw [rl_u_s]; done) | (rw [rl_u_s]; rfl) | rw [rl_u_n (by first | with_reducible assumption | omega)])) (by omega) (by decide) ?_
          rw [et47]
          refine o_icmp_ge (tgt := 76) hC dX8_makeMinus_48 (by decide) (fun c_48 => ?_) (fun c_48 => ?_)
          · exact fin _ _ _ _ _ hq2 hu
          · refine o_aload_n hC dX8_makeMinus_51 (by rfl) ?_
            refine o_iload_n hC dX8_makeMinus_52 (by rfl) ?_
            refine o_iload hC dX8_makeMinus_53 (by rfl) ?_
            refine o_callV2 hC rl_BW_good rl_Ns_nw (by exact hB.2.2.2.2.2) YX8_against IX8_against VX8_against (mX8_141 hC) (by rw [hB.1]; exact cm_X8_against l D ids H0 _ _ m T _ _ S d i wd hq2.rf hs1 (by omega) (by omega) hwd hwd6) (by exact hq2.rf.1) rfl rfl (Nat.le_of_ble_eq_true rfl) (by rw [hB.2.1]; first | exact Nat.le_of_ble_eq_true rfl | (dsimp only; omega)) (by rw [hB.2.1]; first | exact Nat.le_of_ble_eq_true rfl | (dsimp only; omega)) (by rw [hB.2.1]; first | exact Nat.le_of_ble_eq_true rfl | (dsimp only; omega)) (by rw [hB.2.1]; first | exact Nat.le_of_ble_eq_true rfl | (dsimp only; omega)) dX8_makeMinus_55 (fun v h_55 n_55 p_55 => ?_)
            obtain ⟨r55, rfl, rfl, rfl⟩ := p_55
            try dsimp only [Option.toList, List.cons_append, List.nil_append]
            refine o_if_ne (tgt := 66) hC dX8_makeMinus_58 (by decide) (fun c_58 => ?_) (fun c_58 => ?_)
            · refine o_iload hC dX8_makeMinus_66 (by rfl) ?_
              refine o_istore hC dX8_makeMinus_68 (Nat.le_of_ble_eq_true rfl) ?_
              refine o_iinc hC dX8_makeMinus_70 (by rfl) (rl_inc _) (Nat.le_of_ble_eq_true rfl) ?_
              refine o_goto (tgt := 40) hC dX8_makeMinus_73 (by decide) ?_
              first
              | exact ih2 (i + 1) _ _ _ _ (by omega) hq2 (Or.inr ⟨i, by omega, rfl⟩)
              | exact ih2 (i + 1) _ _ _ _ (by omega) hq2 hu
            · refine o_iload hC dX8_makeMinus_61 (by rfl) ?_
              refine o_goto (tgt := 68) hC dX8_makeMinus_63 (by decide) ?_
              refine o_istore hC dX8_makeMinus_68 (Nat.le_of_ble_eq_true rfl) ?_
              refine o_iinc hC dX8_makeMinus_70 (by rfl) (rl_inc _) (Nat.le_of_ble_eq_true rfl) ?_
              refine o_goto (tgt := 40) hC dX8_makeMinus_73 (by decide) ?_
              first
              | exact ih2 (i + 1) _ _ _ _ (by omega) hq2 (Or.inr ⟨i, by omega, rfl⟩)
              | exact ih2 (i + 1) _ _ _ _ (by omega) hq2 hu
      have hs1 := hq1.sa hs
      obtain ⟨g0, gk, ⟨⟨cl, g12⟩, ⟨tu, g13, b13⟩, ⟨im, g14⟩, ⟨te, g15, b15⟩, ⟨ne, g16⟩, ⟨la, g17⟩, ⟨hn, g18⟩, ⟨hl, g19⟩, ⟨tp, g20⟩, ⟨gr, g21, b21⟩, ⟨it, g22⟩⟩, gf⟩ := id hq1
      obtain ⟨a1, a2, a3, a4, a5, a6, a7, a8, a9, a10, a11⟩ := id hs1
      refine o_iload hC dX8_makeMinus_3 (by rfl) ?_
      refine o_aload_n hC dX8_makeMinus_5 (by rfl) ?_
      refine o_getf hC (fX8_46 hC rfl) dX8_makeMinus_6 (by repeat (first | with_reducible assumption | (rw [rl_u_s]; done) | (rw [rl_u_s]; rfl) | rw [rl_u_n (by first | with_reducible assumption | omega)])) (by first | rfl | with_reducible assumption) ?_
      refine o_iload_n hC dX8_makeMinus_9 (by rfl) ?_
      obtain ⟨t10, ht10, et10⟩ := b13 b (by omega)
      refine o_ialdN (t0 := 0) (k := b) hC rfl dX8_makeMinus_10 (by repeat (first | with_reducible assumption | (rw [rl_u_s]; done) | (rw [rl_u_s]; rfl) | rw [rl_u_n (by first | with_reducible assumption | omega)])) (by omega) (by decide) ?_
      rw [et10]
      refine o_icmp_ge (tgt := 149) hC dX8_makeMinus_11 (by decide) (fun c_11 => ?_) (fun c_11 => ?_)
      · refine o_vret hC hB dX8_makeMinus_149 (Nat.le_of_ble_eq_true rfl) (Nat.le_of_ble_eq_true rfl) ?_
        exact ⟨rfl, rfl, _, _, hq1⟩
      · refine o_aload_n hC dX8_makeMinus_14 (by rfl) ?_
        refine o_getf hC (fX8_91 hC rfl) dX8_makeMinus_15 (by repeat (first | with_reducible assumption | (rw [rl_u_s]; done) | (rw [rl_u_s]; rfl) | rw [rl_u_n (by first | with_reducible assumption | omega)])) (by first | rfl | with_reducible assumption) ?_
        refine o_if_ne (tgt := 149) hC dX8_makeMinus_18 (by decide) (fun c_18 => ?_) (fun c_18 => ?_)
        · refine o_vret hC hB dX8_makeMinus_149 (Nat.le_of_ble_eq_true rfl) (Nat.le_of_ble_eq_true rfl) ?_
          exact ⟨rfl, rfl, _, _, hq1⟩
        · refine o_aload_n hC dX8_makeMinus_21 (by rfl) ?_
          refine o_iload_n hC dX8_makeMinus_22 (by rfl) ?_
          refine o_iload hC dX8_makeMinus_23 (by rfl) ?_
          refine o_aload_n hC dX8_makeMinus_25 (by rfl) ?_
          refine o_getf hC (fX8_40 hC rfl) dX8_makeMinus_26 (by repeat (first | with_reducible assumption | (rw [rl_u_s]; done) | (rw [rl_u_s]; rfl) | rw [rl_u_n (by first | with_reducible assumption | omega)])) (by first | rfl | with_reducible assumption) ?_
          refine o_iload_n hC dX8_makeMinus_29 (by rfl) ?_
          refine o_ialdN (t0 := 0) (k := b) hC rfl dX8_makeMinus_30 (by repeat (first | with_reducible assumption | (rw [rl_u_s]; done) | (rw [rl_u_s]; rfl) | rw [rl_u_n (by first | with_reducible assumption | omega)])) (by omega) (by decide) ?_
          rw [hwb]
          refine o_callV3 hC rl_BW_good rl_Ns_nw (by exact hB.2.2.2.2.2) YX8_take IX8_take VX8_take (mX8_181 hC) (by rw [hB.1]; exact cm_X8_take l D ids H0 _ _ m T _ _ b t wb hq1.rf (by omega) (by omega) hwb6) (by exact hq1.1) rfl rfl (Nat.le_of_ble_eq_true rfl) (by rw [hB.2.1]; first | exact Nat.le_of_ble_eq_true rfl | (dsimp only; omega)) (by rw [hB.2.1]; first | exact Nat.le_of_ble_eq_true rfl | (dsimp only; omega)) (by rw [hB.2.1]; first | exact Nat.le_of_ble_eq_true rfl | (dsimp only; omega)) (by rw [hB.2.1]; first | exact Nat.le_of_ble_eq_true rfl | (dsimp only; omega)) dX8_makeMinus_31 (fun v h_31 n_31 p_31 => ?_)
          obtain ⟨rfl, rfl, q31⟩ := p_31
          have hq3 := hq1.tr q31
          try dsimp only [Option.toList, List.cons_append, List.nil_append]
          refine o_iconst (v := (-1 : Int32)) hC dX8_makeMinus_34 (by decide +kernel) ?_
          refine o_istore hC dX8_makeMinus_35 (Nat.le_of_ble_eq_true rfl) ?_
          refine o_iconst (v := nI 0) hC dX8_makeMinus_37 (by decide +kernel) ?_
          refine o_istore hC dX8_makeMinus_38 (Nat.le_of_ble_eq_true rfl) ?_
          exact loopK 80 0 _ _ _ _ (by omega) hq3 (Or.inl rfl)
  show rl_G X (rl_e D ids H0) 0 [some (.ref m), some (.int (nI a)), some (.int (nI b)), some (.int (nI d)), none, none, none] [] h n 0 0
  refine o_iconst (v := nI 0) hC dX8_makeMinus_0 (by decide +kernel) ?_
  refine o_istore hC dX8_makeMinus_1 (Nat.le_of_ble_eq_true rfl) ?_
  exact loop 80 0 _ _ _ _ _ (by omega) hq

set_option maxHeartbeats 4000000 in
set_option maxRecDepth 100000 in
theorem cm_X8_makeGroup (l : Launch) (D : va_G) (ids : Nat → ClassId) (H0 : Heap) (h : rl_H) (n : Nat) (m : Nat) (T : md_T) (fu : Int32) (k : Nat) (S : md_A) (a b w wb ca cb q : Nat) (hq : mq ids h h m T fu k) (hs : md_sa ids h m S) (ha : a < 16) (hb : b < 16) (hw : S.2.2.2.2.2.2.2.2.2.2 a = nI w) (hw6 : w ≤ 6) (hwb : S.2.2.2.2.2.2.2.2.2.2 b = nI wb) (hwb6 : wb ≤ 6) (hnA : S.2.2.2.2.2.2.1 a = nI ca) (hca : ca < 6) (hnB : S.2.2.2.2.2.2.2.1 a = nI cb) (hcb : cb < 6) (hq4 : q ≤ 4) : rl_Met l (rl_e D ids H0) rl_BW rl_Ns yX8_makeGroup cX8_makeGroup 12 none ({ frames := 4, cells := 0, slots := 0, locals := 98 }) [.ref m, .int (nI a), .int (nI b), .int (nI q)] h n (fun v h' n' => v = none ∧ n' = n ∧ ∃ (fu' : Int32) (k' : Nat), mq ids h h' m T fu' k') := by
  refine rl_Met.of (by decide +kernel) (Nat.le_of_ble_eq_true rfl) ?_
  intro X hC hB
  have loop3 : ∀ (sn : Nat), (∀ (h1 : rl_H) (f1 : Int32) (k1 : Nat) (o5 o6 o7 o8 o9 o10 o11 : Option Value), mq ids h h1 m T f1 k1 → rl_G X (rl_e D ids H0) 52 [some (.ref m), some (.int (nI a)), some (.int (nI b)), some (.int (nI q)), some (.int (nI (sn + 1))), o5, o6, o7, o8, o9, o10, o11] [] h1 n 0 0) → ∀ (m3 i : Nat) (h1 : rl_H) (f1 : Int32) (k1 : Nat) (c5 c6 c7 c8 : Int32) (o10 o11 : Option Value), i + m3 = q → mq ids h h1 m T f1 k1 → rl_G X (rl_e D ids H0) 89 [some (.ref m), some (.int (nI a)), some (.int (nI b)), some (.int (nI q)), some (.int (nI sn)), some (.int c5), some (.int c6), some (.int c7), some (.int c8), some (.int (nI i)), o10, o11] [] h1 n 0 0 := by
    intro sn nx m3
    have fin : ∀ (h1 : rl_H) (f1 : Int32) (k1 : Nat) (c5 c6 c7 c8 : Int32) (o9 o10 o11 : Option Value), mq ids h h1 m T f1 k1 → rl_G X (rl_e D ids H0) 239 [some (.ref m), some (.int (nI a)), some (.int (nI b)), some (.int (nI q)), some (.int (nI sn)), some (.int c5), some (.int c6), some (.int c7), some (.int c8), o9, o10, o11] [] h1 n 0 0 := by
      intro h1 f1 k1 c5 c6 c7 c8 o9 o10 o11 hq1
      have hs1 := hq1.sa hs
      obtain ⟨g0, gk, ⟨⟨cl, g12⟩, ⟨tu, g13, b13⟩, ⟨im, g14⟩, ⟨te, g15, b15⟩, ⟨ne, g16⟩, ⟨la, g17⟩, ⟨hn, g18⟩, ⟨hl, g19⟩, ⟨tp, g20⟩, ⟨gr, g21, b21⟩, ⟨it, g22⟩⟩, gf⟩ := id hq1
      obtain ⟨a1, a2, a3, a4, a5, a6, a7, a8, a9, a10, a11⟩ := id hs1
      refine o_aload_n hC dX8_makeGroup_239 (by rfl) ?_
      refine o_getf hC (fX8_69 hC rfl) dX8_makeGroup_240 (by repeat (first | with_reducible assumption | (rw [rl_u_s]; done) | (rw [rl_u_s]; rfl) | rw [rl_u_n (by first | with_reducible assumption | omega)])) (by first | rfl | with_reducible assumption) ?_
      refine o_iconst (v := nI 0) hC dX8_makeGroup_243 (by decide +kernel) ?_
      refine o_aload_n hC dX8_makeGroup_244 (by rfl) ?_
      refine o_iload_n hC dX8_makeGroup_245 (by rfl) ?_
      refine o_aload_n hC dX8_makeGroup_246 (by rfl) ?_
      refine o_getf hC (fX8_72 hC rfl) dX8_makeGroup_247 (by repeat (first | with_reducible assumption | (rw [rl_u_s]; done) | (rw [rl_u_s]; rfl) | rw [rl_u_n (by first | with_reducible assumption | omega)])) (by first | rfl | with_reducible assumption) ?_
      refine o_iconst (v := nI 0) hC dX8_makeGroup_250 (by decide +kernel) ?_
      obtain ⟨t251, ht251, et251⟩ := b21 0 (by omega)
      refine o_ialdN (t0 := 0) (k := 0) hC rfl dX8_makeGroup_251 (by repeat (first | with_reducible assumption | (rw [rl_u_s]; done) | (rw [rl_u_s]; rfl) | rw [rl_u_n (by first | with_reducible assumption | omega)])) (by omega) (by decide) ?_
      rw [et251]
      refine o_aload_n hC dX8_makeGroup_252 (by rfl) ?_
      refine o_getf hC (fX8_28 hC rfl) dX8_makeGroup_253 (by repeat (first | with_reducible assumption | (rw [rl_u_s]; done) | (rw [rl_u_s]; rfl) | rw [rl_u_n (by first | with_reducible assumption | omega)])) (by first | rfl | with_reducible assumption) ?_
      refine o_iload_n hC dX8_makeGroup_256 (by rfl) ?_
      refine o_ialdN (t0 := 0) (k := a) hC rfl dX8_makeGroup_257 (by repeat (first | with_reducible assumption | (rw [rl_u_s]; done) | (rw [rl_u_s]; rfl) | rw [rl_u_n (by first | with_reducible assumption | omega)])) (by omega) (by decide) ?_
      rw [hnA]
      refine o_callV3 hC rl_BW_good rl_Ns_nw (by exact hB.2.2.2.2.2) YX8_cellAt IX8_cellAt VX8_cellAt (mX8_138 hC) (by rw [hB.1]; exact cm_X8_cellAt l D ids H0 _ _ m T _ _ b t251 ca hq1.rf (by omega)) (by exact hq1.rf.1) rfl rfl (Nat.le_of_ble_eq_true rfl) (by rw [hB.2.1]; first | exact Nat.le_of_ble_eq_true rfl | (dsimp only; omega)) (by rw [hB.2.1]; first | exact Nat.le_of_ble_eq_true rfl | (dsimp only; omega)) (by rw [hB.2.1]; first | exact Nat.le_of_ble_eq_true rfl | (dsimp only; omega)) (by rw [hB.2.1]; first | exact Nat.le_of_ble_eq_true rfl | (dsimp only; omega)) dX8_makeGroup_258 (fun v h_258 n_258 p_258 => ?_)
      obtain ⟨r258, rfl, rfl, rfl⟩ := p_258
      try dsimp only [Option.toList, List.cons_append, List.nil_append]
      refine o_iastN (t0 := 0) hC rfl dX8_makeGroup_261 (by repeat (first | with_reducible assumption | (rw [rl_u_s]; done) | (rw [rl_u_s]; rfl) | rw [rl_u_n (by first | with_reducible assumption | omega)])) (by omega) (by decide) ?_
      refine o_aload_n hC dX8_makeGroup_262 (by rfl) ?_
      refine o_getf hC (fX8_69 hC rfl) dX8_makeGroup_263 (by repeat (first | with_reducible assumption | (rw [rl_u_s]; done) | (rw [rl_u_s]; rfl) | rw [rl_u_n (by first | with_reducible assumption | omega)])) (by first | rfl | with_reducible assumption) ?_
      refine o_iconst (v := nI 1) hC dX8_makeGroup_266 (by decide +kernel) ?_
      refine o_aload_n hC dX8_makeGroup_267 (by rfl) ?_
      refine o_getf hC (fX8_34 hC rfl) dX8_makeGroup_268 (by repeat (first | with_reducible assumption | (rw [rl_u_s]; done) | (rw [rl_u_s]; rfl) | rw [rl_u_n (by first | with_reducible assumption | omega)])) (by first | rfl | with_reducible assumption) ?_
      refine o_iload_n hC dX8_makeGroup_271 (by rfl) ?_
      refine o_ialdN (t0 := 0) hC rfl dX8_makeGroup_272 (by repeat (first | with_reducible assumption | (rw [rl_u_s]; done) | (rw [rl_u_s]; rfl) | rw [rl_u_n (by first | with_reducible assumption | omega)])) (by omega) (by decide) ?_
      refine o_if_ne (tgt := 281) hC dX8_makeGroup_273 (by decide) (fun c_273 => ?_) (fun c_273 => ?_)
      · refine o_aload_n hC dX8_makeGroup_281 (by rfl) ?_
        refine o_getf hC (fX8_34 hC rfl) dX8_makeGroup_282 (by repeat (first | with_reducible assumption | (rw [rl_u_s]; done) | (rw [rl_u_s]; rfl) | rw [rl_u_n (by first | with_reducible assumption | omega)])) (by first | rfl | with_reducible assumption) ?_
        refine o_iload_n hC dX8_makeGroup_285 (by rfl) ?_
        refine o_ialdN (t0 := 0) hC rfl dX8_makeGroup_286 (by repeat (first | with_reducible assumption | (rw [rl_u_s]; done) | (rw [rl_u_s]; rfl) | rw [rl_u_n (by first | with_reducible assumption | omega)])) (by omega) (by decide) ?_
        refine o_iconst (v := nI 1) hC dX8_makeGroup_287 (by decide +kernel) ?_
        refine o_icmp_ne (tgt := 296) hC dX8_makeGroup_288 (by decide) (fun c_288 => ?_) (fun c_288 => ?_)
        · refine o_aload_n hC dX8_makeGroup_296 (by rfl) ?_
          refine o_getf hC (fX8_34 hC rfl) dX8_makeGroup_297 (by repeat (first | with_reducible assumption | (rw [rl_u_s]; done) | (rw [rl_u_s]; rfl) | rw [rl_u_n (by first | with_reducible assumption | omega)])) (by first | rfl | with_reducible assumption) ?_
          refine o_iload_n hC dX8_makeGroup_300 (by rfl) ?_
          refine o_ialdN (t0 := 0) hC rfl dX8_makeGroup_301 (by repeat (first | with_reducible assumption | (rw [rl_u_s]; done) | (rw [rl_u_s]; rfl) | rw [rl_u_n (by first | with_reducible assumption | omega)])) (by omega) (by decide) ?_
          refine o_iconst (v := nI 2) hC dX8_makeGroup_302 (by decide +kernel) ?_
          refine o_icmp_ne (tgt := 311) hC dX8_makeGroup_303 (by decide) (fun c_303 => ?_) (fun c_303 => ?_)
          · refine o_iload hC dX8_makeGroup_311 (by rfl) ?_
            refine o_iastN (t0 := 0) hC rfl dX8_makeGroup_313 (by repeat (first | with_reducible assumption | (rw [rl_u_s]; done) | (rw [rl_u_s]; rfl) | rw [rl_u_n (by first | with_reducible assumption | omega)])) (by omega) (by decide) ?_
            refine o_aload_n hC dX8_makeGroup_314 (by rfl) ?_
            refine o_iload_n hC dX8_makeGroup_315 (by rfl) ?_
            refine o_sipush (v := nI 1360) hC dX8_makeGroup_316 (by decide +kernel) ?_
            refine o_callV2 hC rl_BW_good rl_Ns_nw (by exact hB.2.2.2.2.2) YX8_comes IX8_comes VX8_comes (mX8_178 hC) (by rw [hB.1]; exact cm_X8_comes l D ids H0 _ _ m T _ _ S a 1360 w ((hq1.s20 _).s20 _).rf (((hq1.s20 _).s20 _).sa hs) (by omega) (by omega) hw hw6) (by repeat (first | with_reducible assumption | (rw [rl_u_s]; done) | (rw [rl_u_s]; rfl) | rw [rl_u_n (by first | with_reducible assumption | omega)])) rfl rfl (Nat.le_of_ble_eq_true rfl) (by rw [hB.2.1]; first | exact Nat.le_of_ble_eq_true rfl | (dsimp only; omega)) (by rw [hB.2.1]; first | exact Nat.le_of_ble_eq_true rfl | (dsimp only; omega)) (by rw [hB.2.1]; first | exact Nat.le_of_ble_eq_true rfl | (dsimp only; omega)) (by rw [hB.2.1]; first | exact Nat.le_of_ble_eq_true rfl | (dsimp only; omega)) dX8_makeGroup_319 (fun v h_319 n_319 p_319 => ?_)
            obtain ⟨rfl, rfl, f319, k319, q319⟩ := p_319
            try dsimp only [Option.toList, List.cons_append, List.nil_append]
            refine o_iinc hC dX8_makeGroup_322 (by rfl) (rl_inc _) (Nat.le_of_ble_eq_true rfl) ?_
            refine o_goto (tgt := 52) hC dX8_makeGroup_325 (by decide) ?_
            exact nx _ _ _ _ _ _ _ _ _ _ (((hq1.s20 _).s20 _).tr q319)
          · refine o_iload hC dX8_makeGroup_306 (by rfl) ?_
            refine o_goto (tgt := 313) hC dX8_makeGroup_308 (by decide) ?_
            refine o_iastN (t0 := 0) hC rfl dX8_makeGroup_313 (by repeat (first | with_reducible assumption | (rw [rl_u_s]; done) | (rw [rl_u_s]; rfl) | rw [rl_u_n (by first | with_reducible assumption | omega)])) (by omega) (by decide) ?_
            refine o_aload_n hC dX8_makeGroup_314 (by rfl) ?_
            refine o_iload_n hC dX8_makeGroup_315 (by rfl) ?_
            refine o_sipush (v := nI 1360) hC dX8_makeGroup_316 (by decide +kernel) ?_
            refine o_callV2 hC rl_BW_good rl_Ns_nw (by exact hB.2.2.2.2.2) YX8_comes IX8_comes VX8_comes (mX8_178 hC) (by rw [hB.1]; exact cm_X8_comes l D ids H0 _ _ m T _ _ S a 1360 w ((hq1.s20 _).s20 _).rf (((hq1.s20 _).s20 _).sa hs) (by omega) (by omega) hw hw6) (by repeat (first | with_reducible assumption | (rw [rl_u_s]; done) | (rw [rl_u_s]; rfl) | rw [rl_u_n (by first | with_reducible assumption | omega)])) rfl rfl (Nat.le_of_ble_eq_true rfl) (by rw [hB.2.1]; first | exact Nat.le_of_ble_eq_true rfl | (dsimp only; omega)) (by rw [hB.2.1]; first | exact Nat.le_of_ble_eq_true rfl | (dsimp only; omega)) (by rw [hB.2.1]; first | exact Nat.le_of_ble_eq_true rfl | (dsimp only; omega)) (by rw [hB.2.1]; first | exact Nat.le_of_ble_eq_true rfl | (dsimp only; omega)) dX8_makeGroup_319 (fun v h_319 n_319 p_319 => ?_)
            obtain ⟨rfl, rfl, f319, k319, q319⟩ := p_319
            try dsimp only [Option.toList, List.cons_append, List.nil_append]
            refine o_iinc hC dX8_makeGroup_322 (by rfl) (rl_inc _) (Nat.le_of_ble_eq_true rfl) ?_
            refine o_goto (tgt := 52) hC dX8_makeGroup_325 (by decide) ?_
            exact nx _ _ _ _ _ _ _ _ _ _ (((hq1.s20 _).s20 _).tr q319)
        · refine o_iload hC dX8_makeGroup_291 (by rfl) ?_
          refine o_goto (tgt := 313) hC dX8_makeGroup_293 (by decide) ?_
          refine o_iastN (t0 := 0) hC rfl dX8_makeGroup_313 (by repeat (first | with_reducible assumption | (rw [rl_u_s]; done) | (rw [rl_u_s]; rfl) | rw [rl_u_n (by first | with_reducible assumption | omega)])) (by omega) (by decide) ?_
          refine o_aload_n hC dX8_makeGroup_314 (by rfl) ?_
          refine o_iload_n hC dX8_makeGroup_315 (by rfl) ?_
          refine o_sipush (v := nI 1360) hC dX8_makeGroup_316 (by decide +kernel) ?_
          refine o_callV2 hC rl_BW_good rl_Ns_nw (by exact hB.2.2.2.2.2) YX8_comes IX8_comes VX8_comes (mX8_178 hC) (by rw [hB.1]; exact cm_X8_comes l D ids H0 _ _ m T _ _ S a 1360 w ((hq1.s20 _).s20 _).rf (((hq1.s20 _).s20 _).sa hs) (by omega) (by omega) hw hw6) (by repeat (first | with_reducible assumption | (rw [rl_u_s]; done) | (rw [rl_u_s]; rfl) | rw [rl_u_n (by first | with_reducible assumption | omega)])) rfl rfl (Nat.le_of_ble_eq_true rfl) (by rw [hB.2.1]; first | exact Nat.le_of_ble_eq_true rfl | (dsimp only; omega)) (by rw [hB.2.1]; first | exact Nat.le_of_ble_eq_true rfl | (dsimp only; omega)) (by rw [hB.2.1]; first | exact Nat.le_of_ble_eq_true rfl | (dsimp only; omega)) (by rw [hB.2.1]; first | exact Nat.le_of_ble_eq_true rfl | (dsimp only; omega)) dX8_makeGroup_319 (fun v h_319 n_319 p_319 => ?_)
          obtain ⟨rfl, rfl, f319, k319, q319⟩ := p_319
          try dsimp only [Option.toList, List.cons_append, List.nil_append]
          refine o_iinc hC dX8_makeGroup_322 (by rfl) (rl_inc _) (Nat.le_of_ble_eq_true rfl) ?_
          refine o_goto (tgt := 52) hC dX8_makeGroup_325 (by decide) ?_
          exact nx _ _ _ _ _ _ _ _ _ _ (((hq1.s20 _).s20 _).tr q319)
      · refine o_iload hC dX8_makeGroup_276 (by rfl) ?_
        refine o_goto (tgt := 313) hC dX8_makeGroup_278 (by decide) ?_
        refine o_iastN (t0 := 0) hC rfl dX8_makeGroup_313 (by repeat (first | with_reducible assumption | (rw [rl_u_s]; done) | (rw [rl_u_s]; rfl) | rw [rl_u_n (by first | with_reducible assumption | omega)])) (by omega) (by decide) ?_
        refine o_aload_n hC dX8_makeGroup_314 (by rfl) ?_
        refine o_iload_n hC dX8_makeGroup_315 (by rfl) ?_
        refine o_sipush (v := nI 1360) hC dX8_makeGroup_316 (by decide +kernel) ?_
        refine o_callV2 hC rl_BW_good rl_Ns_nw (by exact hB.2.2.2.2.2) YX8_comes IX8_comes VX8_comes (mX8_178 hC) (by rw [hB.1]; exact cm_X8_comes l D ids H0 _ _ m T _ _ S a 1360 w ((hq1.s20 _).s20 _).rf (((hq1.s20 _).s20 _).sa hs) (by omega) (by omega) hw hw6) (by repeat (first | with_reducible assumption | (rw [rl_u_s]; done) | (rw [rl_u_s]; rfl) | rw [rl_u_n (by first | with_reducible assumption | omega)])) rfl rfl (Nat.le_of_ble_eq_true rfl) (by rw [hB.2.1]; first | exact Nat.le_of_ble_eq_true rfl | (dsimp only; omega)) (by rw [hB.2.1]; first | exact Nat.le_of_ble_eq_true rfl | (dsimp only; omega)) (by rw [hB.2.1]; first | exact Nat.le_of_ble_eq_true rfl | (dsimp only; omega)) (by rw [hB.2.1]; first | exact Nat.le_of_ble_eq_true rfl | (dsimp only; omega)) dX8_makeGroup_319 (fun v h_319 n_319 p_319 => ?_)
        obtain ⟨rfl, rfl, f319, k319, q319⟩ := p_319
        try dsimp only [Option.toList, List.cons_append, List.nil_append]
        refine o_iinc hC dX8_makeGroup_322 (by rfl) (rl_inc _) (Nat.le_of_ble_eq_true rfl) ?_
        refine o_goto (tgt := 52) hC dX8_makeGroup_325 (by decide) ?_
        exact nx _ _ _ _ _ _ _ _ _ _ (((hq1.s20 _).s20 _).tr q319)
    induction m3 with
    | zero =>
      intro i h1 f1 k1 c5 c6 c7 c8 o10 o11 hm hq1
      refine o_iload hC dX8_makeGroup_89 (by rfl) ?_
      refine o_iload_n hC dX8_makeGroup_91 (by rfl) ?_
      refine o_icmp_ge (tgt := 239) hC dX8_makeGroup_92 (by decide) (fun c_92 => ?_) (fun c_92 => ?_)
      · exact fin _ _ _ _ _ _ _ _ _ _ hq1
      · exact absurd (nI_le (by omega) (by omega)) c_92
    | succ m3 ih =>
      intro i h1 f1 k1 c5 c6 c7 c8 o10 o11 hm hq1
      have aft : ∀ (h1 : rl_H) (f1 : Int32) (k1 : Nat) (z : Int32) (o11 : Option Value), mq ids h h1 m T f1 k1 → rl_G X (rl_e D ids H0) 156 [some (.ref m), some (.int (nI a)), some (.int (nI b)), some (.int (nI q)), some (.int (nI sn)), some (.int c5), some (.int c6), some (.int c7), some (.int c8), some (.int (nI i)), some (.int z), o11] [] h1 n 0 0 := by
        intro h1 f1 k1 z o11 hq1
        have hs1 := hq1.sa hs
        obtain ⟨g0, gk, ⟨⟨cl, g12⟩, ⟨tu, g13, b13⟩, ⟨im, g14⟩, ⟨te, g15, b15⟩, ⟨ne, g16⟩, ⟨la, g17⟩, ⟨hn, g18⟩, ⟨hl, g19⟩, ⟨tp, g20⟩, ⟨gr, g21, b21⟩, ⟨it, g22⟩⟩, gf⟩ := id hq1
        obtain ⟨a1, a2, a3, a4, a5, a6, a7, a8, a9, a10, a11⟩ := id hs1
        refine o_aload_n hC dX8_makeGroup_156 (by rfl) ?_
        refine o_iload_n hC dX8_makeGroup_157 (by rfl) ?_
        refine o_aload_n hC dX8_makeGroup_158 (by rfl) ?_
        refine o_getf hC (fX8_72 hC rfl) dX8_makeGroup_159 (by repeat (first | with_reducible assumption | (rw [rl_u_s]; done) | (rw [rl_u_s]; rfl) | rw [rl_u_n (by first | with_reducible assumption | omega)])) (by first | rfl | with_reducible assumption) ?_
        refine o_iload hC dX8_makeGroup_162 (by rfl) ?_
        obtain ⟨t164, ht164, et164⟩ := b21 i (by omega)
        refine o_ialdN (t0 := 0) (k := i) hC rfl dX8_makeGroup_164 (by repeat (first | with_reducible assumption | (rw [rl_u_s]; done) | (rw [rl_u_s]; rfl) | rw [rl_u_n (by first | with_reducible assumption | omega)])) (by omega) (by decide) ?_
        rw [et164]
        refine o_aload_n hC dX8_makeGroup_165 (by rfl) ?_
        refine o_getf hC (fX8_31 hC rfl) dX8_makeGroup_166 (by repeat (first | with_reducible assumption | (rw [rl_u_s]; done) | (rw [rl_u_s]; rfl) | rw [rl_u_n (by first | with_reducible assumption | omega)])) (by first | rfl | with_reducible assumption) ?_
        refine o_iload_n hC dX8_makeGroup_169 (by rfl) ?_
        refine o_ialdN (t0 := 0) (k := a) hC rfl dX8_makeGroup_170 (by repeat (first | with_reducible assumption | (rw [rl_u_s]; done) | (rw [rl_u_s]; rfl) | rw [rl_u_n (by first | with_reducible assumption | omega)])) (by omega) (by decide) ?_
        rw [hnB]
        refine o_callV3 hC rl_BW_good rl_Ns_nw (by exact hB.2.2.2.2.2) YX8_cellAt IX8_cellAt VX8_cellAt (mX8_138 hC) (by rw [hB.1]; exact cm_X8_cellAt l D ids H0 _ _ m T _ _ b t164 cb hq1.rf (by omega)) (by exact hq1.rf.1) rfl rfl (Nat.le_of_ble_eq_true rfl) (by rw [hB.2.1]; first | exact Nat.le_of_ble_eq_true rfl | (dsimp only; omega)) (by rw [hB.2.1]; first | exact Nat.le_of_ble_eq_true rfl | (dsimp only; omega)) (by rw [hB.2.1]; first | exact Nat.le_of_ble_eq_true rfl | (dsimp only; omega)) (by rw [hB.2.1]; first | exact Nat.le_of_ble_eq_true rfl | (dsimp only; omega)) dX8_makeGroup_171 (fun v h_171 n_171 p_171 => ?_)
        obtain ⟨r171, rfl, rfl, rfl⟩ := p_171
        try dsimp only [Option.toList, List.cons_append, List.nil_append]
        refine o_istore hC dX8_makeGroup_174 (Nat.le_of_ble_eq_true rfl) ?_
        refine o_iload hC dX8_makeGroup_176 (by rfl) ?_
        refine o_if_eq (tgt := 233) hC dX8_makeGroup_178 (by decide) (fun c_178 => ?_) (fun c_178 => ?_)
        · refine o_iinc hC dX8_makeGroup_233 (by rfl) (rl_inc _) (Nat.le_of_ble_eq_true rfl) ?_
          refine o_goto (tgt := 89) hC dX8_makeGroup_236 (by decide) ?_
          exact ih (i + 1) _ _ _ _ _ _ _ _ _ (by omega) hq1
        · refine o_iload hC dX8_makeGroup_181 (by rfl) ?_
          refine o_if_eq (tgt := 193) hC dX8_makeGroup_183 (by decide) (fun c_183 => ?_) (fun c_183 => ?_)
          · refine o_iload hC dX8_makeGroup_193 (by rfl) ?_
            refine o_goto (tgt := 200) hC dX8_makeGroup_195 (by decide) ?_
            refine o_istore hC dX8_makeGroup_200 (Nat.le_of_ble_eq_true rfl) ?_
            refine o_iload hC dX8_makeGroup_202 (by rfl) ?_
            refine o_if_eq (tgt := 214) hC dX8_makeGroup_204 (by decide) (fun c_204 => ?_) (fun c_204 => ?_)
            · refine o_iload hC dX8_makeGroup_214 (by rfl) ?_
              refine o_goto (tgt := 221) hC dX8_makeGroup_216 (by decide) ?_
              refine o_istore hC dX8_makeGroup_221 (Nat.le_of_ble_eq_true rfl) ?_
              refine o_iload hC dX8_makeGroup_223 (by rfl) ?_
              refine o_iload hC dX8_makeGroup_225 (by rfl) ?_
              refine o_iadd hC dX8_makeGroup_227 ?_
              try rw [nI_add]
              refine o_istore hC dX8_makeGroup_228 (Nat.le_of_ble_eq_true rfl) ?_
              refine o_iinc hC dX8_makeGroup_230 (by rfl) rfl (Nat.le_of_ble_eq_true rfl) ?_
              refine o_iinc hC dX8_makeGroup_233 (by rfl) (rl_inc _) (Nat.le_of_ble_eq_true rfl) ?_
              refine o_goto (tgt := 89) hC dX8_makeGroup_236 (by decide) ?_
              exact ih (i + 1) _ _ _ _ _ _ _ _ _ (by omega) hq1
            · refine o_iload hC dX8_makeGroup_207 (by rfl) ?_
              refine o_iload hC dX8_makeGroup_209 (by rfl) ?_
              refine o_icmp_le (tgt := 219) hC dX8_makeGroup_211 (by decide) (fun c_211 => ?_) (fun c_211 => ?_)
              · refine o_iload hC dX8_makeGroup_219 (by rfl) ?_
                refine o_istore hC dX8_makeGroup_221 (Nat.le_of_ble_eq_true rfl) ?_
                refine o_iload hC dX8_makeGroup_223 (by rfl) ?_
                refine o_iload hC dX8_makeGroup_225 (by rfl) ?_
                refine o_iadd hC dX8_makeGroup_227 ?_
                try rw [nI_add]
                refine o_istore hC dX8_makeGroup_228 (Nat.le_of_ble_eq_true rfl) ?_
                refine o_iinc hC dX8_makeGroup_230 (by rfl) rfl (Nat.le_of_ble_eq_true rfl) ?_
                refine o_iinc hC dX8_makeGroup_233 (by rfl) (rl_inc _) (Nat.le_of_ble_eq_true rfl) ?_
                refine o_goto (tgt := 89) hC dX8_makeGroup_236 (by decide) ?_
                exact ih (i + 1) _ _ _ _ _ _ _ _ _ (by omega) hq1
              · refine o_iload hC dX8_makeGroup_214 (by rfl) ?_
                refine o_goto (tgt := 221) hC dX8_makeGroup_216 (by decide) ?_
                refine o_istore hC dX8_makeGroup_221 (Nat.le_of_ble_eq_true rfl) ?_
                refine o_iload hC dX8_makeGroup_223 (by rfl) ?_
                refine o_iload hC dX8_makeGroup_225 (by rfl) ?_
                refine o_iadd hC dX8_makeGroup_227 ?_
                try rw [nI_add]
                refine o_istore hC dX8_makeGroup_228 (Nat.le_of_ble_eq_true rfl) ?_
                refine o_iinc hC dX8_makeGroup_230 (by rfl) rfl (Nat.le_of_ble_eq_true rfl) ?_
                refine o_iinc hC dX8_makeGroup_233 (by rfl) (rl_inc _) (Nat.le_of_ble_eq_true rfl) ?_
                refine o_goto (tgt := 89) hC dX8_makeGroup_236 (by decide) ?_
                exact ih (i + 1) _ _ _ _ _ _ _ _ _ (by omega) hq1
          · refine o_iload hC dX8_makeGroup_186 (by rfl) ?_
            refine o_iload hC dX8_makeGroup_188 (by rfl) ?_
            refine o_icmp_ge (tgt := 198) hC dX8_makeGroup_190 (by decide) (fun c_190 => ?_) (fun c_190 => ?_)
            · refine o_iload hC dX8_makeGroup_198 (by rfl) ?_
              refine o_istore hC dX8_makeGroup_200 (Nat.le_of_ble_eq_true rfl) ?_
              refine o_iload hC dX8_makeGroup_202 (by rfl) ?_
              refine o_if_eq (tgt := 214) hC dX8_makeGroup_204 (by decide) (fun c_204 => ?_) (fun c_204 => ?_)
              · refine o_iload hC dX8_makeGroup_214 (by rfl) ?_
                refine o_goto (tgt := 221) hC dX8_makeGroup_216 (by decide) ?_
                refine o_istore hC dX8_makeGroup_221 (Nat.le_of_ble_eq_true rfl) ?_
                refine o_iload hC dX8_makeGroup_223 (by rfl) ?_
                refine o_iload hC dX8_makeGroup_225 (by rfl) ?_
                refine o_iadd hC dX8_makeGroup_227 ?_
                try rw [nI_add]
                refine o_istore hC dX8_makeGroup_228 (Nat.le_of_ble_eq_true rfl) ?_
                refine o_iinc hC dX8_makeGroup_230 (by rfl) rfl (Nat.le_of_ble_eq_true rfl) ?_
                refine o_iinc hC dX8_makeGroup_233 (by rfl) (rl_inc _) (Nat.le_of_ble_eq_true rfl) ?_
                refine o_goto (tgt := 89) hC dX8_makeGroup_236 (by decide) ?_
                exact ih (i + 1) _ _ _ _ _ _ _ _ _ (by omega) hq1
              · refine o_iload hC dX8_makeGroup_207 (by rfl) ?_
                refine o_iload hC dX8_makeGroup_209 (by rfl) ?_
                refine o_icmp_le (tgt := 219) hC dX8_makeGroup_211 (by decide) (fun c_211 => ?_) (fun c_211 => ?_)
                · refine o_iload hC dX8_makeGroup_219 (by rfl) ?_
                  refine o_istore hC dX8_makeGroup_221 (Nat.le_of_ble_eq_true rfl) ?_
                  refine o_iload hC dX8_makeGroup_223 (by rfl) ?_
                  refine o_iload hC dX8_makeGroup_225 (by rfl) ?_
                  refine o_iadd hC dX8_makeGroup_227 ?_
                  try rw [nI_add]
                  refine o_istore hC dX8_makeGroup_228 (Nat.le_of_ble_eq_true rfl) ?_
                  refine o_iinc hC dX8_makeGroup_230 (by rfl) rfl (Nat.le_of_ble_eq_true rfl) ?_
                  refine o_iinc hC dX8_makeGroup_233 (by rfl) (rl_inc _) (Nat.le_of_ble_eq_true rfl) ?_
                  refine o_goto (tgt := 89) hC dX8_makeGroup_236 (by decide) ?_
                  exact ih (i + 1) _ _ _ _ _ _ _ _ _ (by omega) hq1
                · refine o_iload hC dX8_makeGroup_214 (by rfl) ?_
                  refine o_goto (tgt := 221) hC dX8_makeGroup_216 (by decide) ?_
                  refine o_istore hC dX8_makeGroup_221 (Nat.le_of_ble_eq_true rfl) ?_
                  refine o_iload hC dX8_makeGroup_223 (by rfl) ?_
                  refine o_iload hC dX8_makeGroup_225 (by rfl) ?_
                  refine o_iadd hC dX8_makeGroup_227 ?_
                  try rw [nI_add]
                  refine o_istore hC dX8_makeGroup_228 (Nat.le_of_ble_eq_true rfl) ?_
                  refine o_iinc hC dX8_makeGroup_230 (by rfl) rfl (Nat.le_of_ble_eq_true rfl) ?_
                  refine o_iinc hC dX8_makeGroup_233 (by rfl) (rl_inc _) (Nat.le_of_ble_eq_true rfl) ?_
                  refine o_goto (tgt := 89) hC dX8_makeGroup_236 (by decide) ?_
                  exact ih (i + 1) _ _ _ _ _ _ _ _ _ (by omega) hq1
            · refine o_iload hC dX8_makeGroup_193 (by rfl) ?_
              refine o_goto (tgt := 200) hC dX8_makeGroup_195 (by decide) ?_
              refine o_istore hC dX8_makeGroup_200 (Nat.le_of_ble_eq_true rfl) ?_
              refine o_iload hC dX8_makeGroup_202 (by rfl) ?_
              refine o_if_eq (tgt := 214) hC dX8_makeGroup_204 (by decide) (fun c_204 => ?_) (fun c_204 => ?_)
              · refine o_iload hC dX8_makeGroup_214 (by rfl) ?_
                refine o_goto (tgt := 221) hC dX8_makeGroup_216 (by decide) ?_
                refine o_istore hC dX8_makeGroup_221 (Nat.le_of_ble_eq_true rfl) ?_
                refine o_iload hC dX8_makeGroup_223 (by rfl) ?_
                refine o_iload hC dX8_makeGroup_225 (by rfl) ?_
                refine o_iadd hC dX8_makeGroup_227 ?_
                try rw [nI_add]
                refine o_istore hC dX8_makeGroup_228 (Nat.le_of_ble_eq_true rfl) ?_
                refine o_iinc hC dX8_makeGroup_230 (by rfl) rfl (Nat.le_of_ble_eq_true rfl) ?_
                refine o_iinc hC dX8_makeGroup_233 (by rfl) (rl_inc _) (Nat.le_of_ble_eq_true rfl) ?_
                refine o_goto (tgt := 89) hC dX8_makeGroup_236 (by decide) ?_
                exact ih (i + 1) _ _ _ _ _ _ _ _ _ (by omega) hq1
              · refine o_iload hC dX8_makeGroup_207 (by rfl) ?_
                refine o_iload hC dX8_makeGroup_209 (by rfl) ?_
                refine o_icmp_le (tgt := 219) hC dX8_makeGroup_211 (by decide) (fun c_211 => ?_) (fun c_211 => ?_)
                · refine o_iload hC dX8_makeGroup_219 (by rfl) ?_
                  refine o_istore hC dX8_makeGroup_221 (Nat.le_of_ble_eq_true rfl) ?_
                  refine o_iload hC dX8_makeGroup_223 (by rfl) ?_
                  refine o_iload hC dX8_makeGroup_225 (by rfl) ?_
                  refine o_iadd hC dX8_makeGroup_227 ?_
                  try rw [nI_add]
                  refine o_istore hC dX8_makeGroup_228 (Nat.le_of_ble_eq_true rfl) ?_
                  refine o_iinc hC dX8_makeGroup_230 (by rfl) rfl (Nat.le_of_ble_eq_true rfl) ?_
                  refine o_iinc hC dX8_makeGroup_233 (by rfl) (rl_inc _) (Nat.le_of_ble_eq_true rfl) ?_
                  refine o_goto (tgt := 89) hC dX8_makeGroup_236 (by decide) ?_
                  exact ih (i + 1) _ _ _ _ _ _ _ _ _ (by omega) hq1
                · refine o_iload hC dX8_makeGroup_214 (by rfl) ?_
                  refine o_goto (tgt := 221) hC dX8_makeGroup_216 (by decide) ?_
                  refine o_istore hC dX8_makeGroup_221 (Nat.le_of_ble_eq_true rfl) ?_
                  refine o_iload hC dX8_makeGroup_223 (by rfl) ?_
                  refine o_iload hC dX8_makeGroup_225 (by rfl) ?_
                  refine o_iadd hC dX8_makeGroup_227 ?_
                  try rw [nI_add]
                  refine o_istore hC dX8_makeGroup_228 (Nat.le_of_ble_eq_true rfl) ?_
                  refine o_iinc hC dX8_makeGroup_230 (by rfl) rfl (Nat.le_of_ble_eq_true rfl) ?_
                  refine o_iinc hC dX8_makeGroup_233 (by rfl) (rl_inc _) (Nat.le_of_ble_eq_true rfl) ?_
                  refine o_goto (tgt := 89) hC dX8_makeGroup_236 (by decide) ?_
                  exact ih (i + 1) _ _ _ _ _ _ _ _ _ (by omega) hq1
      have hs1 := hq1.sa hs
      obtain ⟨g0, gk, ⟨⟨cl, g12⟩, ⟨tu, g13, b13⟩, ⟨im, g14⟩, ⟨te, g15, b15⟩, ⟨ne, g16⟩, ⟨la, g17⟩, ⟨hn, g18⟩, ⟨hl, g19⟩, ⟨tp, g20⟩, ⟨gr, g21, b21⟩, ⟨it, g22⟩⟩, gf⟩ := id hq1
      obtain ⟨a1, a2, a3, a4, a5, a6, a7, a8, a9, a10, a11⟩ := id hs1
      refine o_iload hC dX8_makeGroup_89 (by rfl) ?_
      refine o_iload_n hC dX8_makeGroup_91 (by rfl) ?_
      refine o_icmp_ge (tgt := 239) hC dX8_makeGroup_92 (by decide) (fun c_92 => ?_) (fun c_92 => ?_)
      · exact fin _ _ _ _ _ _ _ _ _ _ hq1
      · refine o_aload_n hC dX8_makeGroup_95 (by rfl) ?_
        refine o_getf hC (fX8_91 hC rfl) dX8_makeGroup_96 (by repeat (first | with_reducible assumption | (rw [rl_u_s]; done) | (rw [rl_u_s]; rfl) | rw [rl_u_n (by first | with_reducible assumption | omega)])) (by first | rfl | with_reducible assumption) ?_
        refine o_if_ne (tgt := 239) hC dX8_makeGroup_99 (by decide) (fun c_99 => ?_) (fun c_99 => ?_)
        · exact fin _ _ _ _ _ _ _ _ _ _ hq1
        · refine o_iload hC dX8_makeGroup_102 (by rfl) ?_
          refine o_iload hC dX8_makeGroup_104 (by rfl) ?_
          refine o_ishr hC dX8_makeGroup_106 ?_
          refine o_iconst (v := nI 1) hC dX8_makeGroup_107 (by decide +kernel) ?_
          refine o_iand hC dX8_makeGroup_108 ?_
          refine o_iconst (v := nI 1) hC dX8_makeGroup_109 (by decide +kernel) ?_
          refine o_icmp_ne (tgt := 117) hC dX8_makeGroup_110 (by decide) (fun c_110 => ?_) (fun c_110 => ?_)
          · refine o_iconst (v := nI 0) hC dX8_makeGroup_117 (by decide +kernel) ?_
            refine o_istore hC dX8_makeGroup_118 (Nat.le_of_ble_eq_true rfl) ?_
            refine o_aload_n hC dX8_makeGroup_120 (by rfl) ?_
            refine o_sipush (v := nI 1360) hC dX8_makeGroup_121 (by decide +kernel) ?_
            refine o_sipush (v := nI 1360) hC dX8_makeGroup_124 (by decide +kernel) ?_
            refine o_iload hC dX8_makeGroup_127 (by rfl) ?_
            refine o_if_eq (tgt := 147) hC dX8_makeGroup_129 (by decide) (fun c_129 => ?_) (fun c_129 => ?_)
            · refine o_sipush (v := nI 1362) hC dX8_makeGroup_147 (by decide +kernel) ?_
              refine o_iload hC dX8_makeGroup_150 (by rfl) ?_
              refine o_iadd hC dX8_makeGroup_152 ?_
              try rw [nI_add]
              refine o_callV3 hC rl_BW_good rl_Ns_nw (by exact hB.2.2.2.2.2) YX8_both IX8_both VX8_both (mX8_184 hC) (by rw [hB.1]; exact (by first | exact cm_X8_both l D ids H0 _ _ m T _ _ 1360 1360 (80 * b + t142) hq1.rf (by omega) (by omega) (by omega) | exact cm_X8_both l D ids H0 _ _ m T _ _ 1360 1360 (1362 + i) hq1.rf (by omega) (by omega) (by omega))) (by exact hq1.1) rfl rfl (Nat.le_of_ble_eq_true rfl) (by rw [hB.2.1]; first | exact Nat.le_of_ble_eq_true rfl | (dsimp only; omega)) (by rw [hB.2.1]; first | exact Nat.le_of_ble_eq_true rfl | (dsimp only; omega)) (by rw [hB.2.1]; first | exact Nat.le_of_ble_eq_true rfl | (dsimp only; omega)) (by rw [hB.2.1]; first | exact Nat.le_of_ble_eq_true rfl | (dsimp only; omega)) dX8_makeGroup_153 (fun v h_153 n_153 p_153 => ?_)
              obtain ⟨rfl, rfl, f153, k153, q153⟩ := p_153
              try dsimp only [Option.toList, List.cons_append, List.nil_append]
              exact aft _ _ _ _ _ (hq1.tr q153)
            · refine o_bipush (v := nI 80) hC dX8_makeGroup_132 (by decide +kernel) ?_
              refine o_iload_n hC dX8_makeGroup_134 (by rfl) ?_
              refine o_imul hC dX8_makeGroup_135 ?_
              try rw [nI_mul]
              refine o_aload_n hC dX8_makeGroup_136 (by rfl) ?_
              refine o_getf hC (fX8_72 hC rfl) dX8_makeGroup_137 (by repeat (first | with_reducible assumption | (rw [rl_u_s]; done) | (rw [rl_u_s]; rfl) | rw [rl_u_n (by first | with_reducible assumption | omega)])) (by first | rfl | with_reducible assumption) ?_
              refine o_iload hC dX8_makeGroup_140 (by rfl) ?_
              obtain ⟨t142, ht142, et142⟩ := b21 i (by omega)
              refine o_ialdN (t0 := 0) (k := i) hC rfl dX8_makeGroup_142 (by repeat (first | with_reducible assumption | (rw [rl_u_s]; done) | (rw [rl_u_s]; rfl) | rw [rl_u_n (by first | with_reducible assumption | omega)])) (by omega) (by decide) ?_
              rw [et142]
              refine o_iadd hC dX8_makeGroup_143 ?_
              try rw [nI_add]
              refine o_goto (tgt := 153) hC dX8_makeGroup_144 (by decide) ?_
              refine o_callV3 hC rl_BW_good rl_Ns_nw (by exact hB.2.2.2.2.2) YX8_both IX8_both VX8_both (mX8_184 hC) (by rw [hB.1]; exact (by first | exact cm_X8_both l D ids H0 _ _ m T _ _ 1360 1360 (80 * b + t142) hq1.rf (by omega) (by omega) (by omega) | exact cm_X8_both l D ids H0 _ _ m T _ _ 1360 1360 (1362 + i) hq1.rf (by omega) (by omega) (by omega))) (by exact hq1.1) rfl rfl (Nat.le_of_ble_eq_true rfl) (by rw [hB.2.1]; first | exact Nat.le_of_ble_eq_true rfl | (dsimp only; omega)) (by rw [hB.2.1]; first | exact Nat.le_of_ble_eq_true rfl | (dsimp only; omega)) (by rw [hB.2.1]; first | exact Nat.le_of_ble_eq_true rfl | (dsimp only; omega)) (by rw [hB.2.1]; first | exact Nat.le_of_ble_eq_true rfl | (dsimp only; omega)) dX8_makeGroup_153 (fun v h_153 n_153 p_153 => ?_)
              obtain ⟨rfl, rfl, f153, k153, q153⟩ := p_153
              try dsimp only [Option.toList, List.cons_append, List.nil_append]
              exact aft _ _ _ _ _ (hq1.tr q153)
          · refine o_iconst (v := nI 1) hC dX8_makeGroup_113 (by decide +kernel) ?_
            refine o_goto (tgt := 118) hC dX8_makeGroup_114 (by decide) ?_
            refine o_istore hC dX8_makeGroup_118 (Nat.le_of_ble_eq_true rfl) ?_
            refine o_aload_n hC dX8_makeGroup_120 (by rfl) ?_
            refine o_sipush (v := nI 1360) hC dX8_makeGroup_121 (by decide +kernel) ?_
            refine o_sipush (v := nI 1360) hC dX8_makeGroup_124 (by decide +kernel) ?_
            refine o_iload hC dX8_makeGroup_127 (by rfl) ?_
            refine o_if_eq (tgt := 147) hC dX8_makeGroup_129 (by decide) (fun c_129 => ?_) (fun c_129 => ?_)
            · refine o_sipush (v := nI 1362) hC dX8_makeGroup_147 (by decide +kernel) ?_
              refine o_iload hC dX8_makeGroup_150 (by rfl) ?_
              refine o_iadd hC dX8_makeGroup_152 ?_
              try rw [nI_add]
              refine o_callV3 hC rl_BW_good rl_Ns_nw (by exact hB.2.2.2.2.2) YX8_both IX8_both VX8_both (mX8_184 hC) (by rw [hB.1]; exact (by first | exact cm_X8_both l D ids H0 _ _ m T _ _ 1360 1360 (80 * b + t142) hq1.rf (by omega) (by omega) (by omega) | exact cm_X8_both l D ids H0 _ _ m T _ _ 1360 1360 (1362 + i) hq1.rf (by omega) (by omega) (by omega))) (by exact hq1.1) rfl rfl (Nat.le_of_ble_eq_true rfl) (by rw [hB.2.1]; first | exact Nat.le_of_ble_eq_true rfl | (dsimp only; omega)) (by rw [hB.2.1]; first | exact Nat.le_of_ble_eq_true rfl | (dsimp only; omega)) (by rw [hB.2.1]; first | exact Nat.le_of_ble_eq_true rfl | (dsimp only; omega)) (by rw [hB.2.1]; first | exact Nat.le_of_ble_eq_true rfl | (dsimp only; omega)) dX8_makeGroup_153 (fun v h_153 n_153 p_153 => ?_)
              obtain ⟨rfl, rfl, f153, k153, q153⟩ := p_153
              try dsimp only [Option.toList, List.cons_append, List.nil_append]
              exact aft _ _ _ _ _ (hq1.tr q153)
            · refine o_bipush (v := nI 80) hC dX8_makeGroup_132 (by decide +kernel) ?_
              refine o_iload_n hC dX8_makeGroup_134 (by rfl) ?_
              refine o_imul hC dX8_makeGroup_135 ?_
              try rw [nI_mul]
              refine o_aload_n hC dX8_makeGroup_136 (by rfl) ?_
              refine o_getf hC (fX8_72 hC rfl) dX8_makeGroup_137 (by repeat (first | with_reducible assumption | (rw [rl_u_s]; done) | (rw [rl_u_s]; rfl) | rw [rl_u_n (by first | with_reducible assumption | omega)])) (by first | rfl | with_reducible assumption) ?_
              refine o_iload hC dX8_makeGroup_140 (by rfl) ?_
              obtain ⟨t142, ht142, et142⟩ := b21 i (by omega)
              refine o_ialdN (t0 := 0) (k := i) hC rfl dX8_makeGroup_142 (by repeat (first | with_reducible assumption | (rw [rl_u_s]; done) | (rw [rl_u_s]; rfl) | rw [rl_u_n (by first | with_reducible assumption | omega)])) (by omega) (by decide) ?_
              rw [et142]
              refine o_iadd hC dX8_makeGroup_143 ?_
              try rw [nI_add]
              refine o_goto (tgt := 153) hC dX8_makeGroup_144 (by decide) ?_
              refine o_callV3 hC rl_BW_good rl_Ns_nw (by exact hB.2.2.2.2.2) YX8_both IX8_both VX8_both (mX8_184 hC) (by rw [hB.1]; exact (by first | exact cm_X8_both l D ids H0 _ _ m T _ _ 1360 1360 (80 * b + t142) hq1.rf (by omega) (by omega) (by omega) | exact cm_X8_both l D ids H0 _ _ m T _ _ 1360 1360 (1362 + i) hq1.rf (by omega) (by omega) (by omega))) (by exact hq1.1) rfl rfl (Nat.le_of_ble_eq_true rfl) (by rw [hB.2.1]; first | exact Nat.le_of_ble_eq_true rfl | (dsimp only; omega)) (by rw [hB.2.1]; first | exact Nat.le_of_ble_eq_true rfl | (dsimp only; omega)) (by rw [hB.2.1]; first | exact Nat.le_of_ble_eq_true rfl | (dsimp only; omega)) (by rw [hB.2.1]; first | exact Nat.le_of_ble_eq_true rfl | (dsimp only; omega)) dX8_makeGroup_153 (fun v h_153 n_153 p_153 => ?_)
              obtain ⟨rfl, rfl, f153, k153, q153⟩ := p_153
              try dsimp only [Option.toList, List.cons_append, List.nil_append]
              exact aft _ _ _ _ _ (hq1.tr q153)
  have loop2 : ∀ (mm sn : Nat) (h1 : rl_H) (f1 : Int32) (k1 : Nat) (o5 o6 o7 o8 o9 o10 o11 : Option Value), sn + mm = 16 → mq ids h h1 m T f1 k1 → rl_G X (rl_e D ids H0) 52 [some (.ref m), some (.int (nI a)), some (.int (nI b)), some (.int (nI q)), some (.int (nI sn)), o5, o6, o7, o8, o9, o10, o11] [] h1 n 0 0 := by
    intro mm
    induction mm with
    | zero =>
      intro sn h1 f1 k1 o5 o6 o7 o8 o9 o10 o11 hm hq1
      have e16 : sn = 16 := by omega
      subst e16
      refine o_iload hC dX8_makeGroup_52 (by rfl) ?_
      refine o_iconst (v := nI 1) hC dX8_makeGroup_54 (by decide +kernel) ?_
      refine o_iload_n hC dX8_makeGroup_55 (by rfl) ?_
      refine o_ishl hC dX8_makeGroup_56 ?_
      refine o_icmp_ge (tgt := 328) hC dX8_makeGroup_57 (by decide) (fun c_57 => ?_) (fun c_57 => ?_)
      · refine o_vret hC hB dX8_makeGroup_328 (Nat.le_of_ble_eq_true rfl) (Nat.le_of_ble_eq_true rfl) ?_
        exact ⟨rfl, rfl, _, _, hq1⟩
      · exact absurd (md_shl q hq4) c_57
    | succ mm ih =>
      intro sn h1 f1 k1 o5 o6 o7 o8 o9 o10 o11 hm hq1
      obtain ⟨g0, gk, -, gf⟩ := id hq1
      refine o_iload hC dX8_makeGroup_52 (by rfl) ?_
      refine o_iconst (v := nI 1) hC dX8_makeGroup_54 (by decide +kernel) ?_
      refine o_iload_n hC dX8_makeGroup_55 (by rfl) ?_
      refine o_ishl hC dX8_makeGroup_56 ?_
      refine o_icmp_ge (tgt := 328) hC dX8_makeGroup_57 (by decide) (fun c_57 => ?_) (fun c_57 => ?_)
      · refine o_vret hC hB dX8_makeGroup_328 (Nat.le_of_ble_eq_true rfl) (Nat.le_of_ble_eq_true rfl) ?_
        exact ⟨rfl, rfl, _, _, hq1⟩
      · refine o_aload_n hC dX8_makeGroup_60 (by rfl) ?_
        refine o_getf hC (fX8_91 hC rfl) dX8_makeGroup_61 (by repeat (first | with_reducible assumption | (rw [rl_u_s]; done) | (rw [rl_u_s]; rfl) | rw [rl_u_n (by first | with_reducible assumption | omega)])) (by first | rfl | with_reducible assumption) ?_
        refine o_if_ne (tgt := 328) hC dX8_makeGroup_64 (by decide) (fun c_64 => ?_) (fun c_64 => ?_)
        · refine o_vret hC hB dX8_makeGroup_328 (Nat.le_of_ble_eq_true rfl) (Nat.le_of_ble_eq_true rfl) ?_
          exact ⟨rfl, rfl, _, _, hq1⟩
        · refine o_aload_n hC dX8_makeGroup_67 (by rfl) ?_
          refine o_sipush (v := nI 1360) hC dX8_makeGroup_68 (by decide +kernel) ?_
          refine o_callV1 hC rl_BW_good rl_Ns_nw (by exact hB.2.2.2.2.2) YX8_truth IX8_truth VX8_truth (mX8_103 hC) (by rw [hB.1]; exact cm_X8_truth l D ids H0 _ _ m T _ _ 1360 hq1.rf (by decide)) (by exact hq1.1) rfl rfl (Nat.le_of_ble_eq_true rfl) (by rw [hB.2.1]; first | exact Nat.le_of_ble_eq_true rfl | (dsimp only; omega)) (by rw [hB.2.1]; first | exact Nat.le_of_ble_eq_true rfl | (dsimp only; omega)) (by rw [hB.2.1]; first | exact Nat.le_of_ble_eq_true rfl | (dsimp only; omega)) (by rw [hB.2.1]; first | exact Nat.le_of_ble_eq_true rfl | (dsimp only; omega)) dX8_makeGroup_71 (fun v h_71 n_71 p_71 => ?_)
          obtain ⟨rfl, rfl, q71⟩ := p_71
          try dsimp only [Option.toList, List.cons_append, List.nil_append]
          refine o_iconst (v := nI 0) hC dX8_makeGroup_74 (by decide +kernel) ?_
          refine o_istore hC dX8_makeGroup_75 (Nat.le_of_ble_eq_true rfl) ?_
          refine o_iconst (v := nI 0) hC dX8_makeGroup_77 (by decide +kernel) ?_
          refine o_istore hC dX8_makeGroup_78 (Nat.le_of_ble_eq_true rfl) ?_
          refine o_iconst (v := nI 0) hC dX8_makeGroup_80 (by decide +kernel) ?_
          refine o_istore hC dX8_makeGroup_81 (Nat.le_of_ble_eq_true rfl) ?_
          refine o_iconst (v := nI 0) hC dX8_makeGroup_83 (by decide +kernel) ?_
          refine o_istore hC dX8_makeGroup_84 (Nat.le_of_ble_eq_true rfl) ?_
          refine o_iconst (v := nI 0) hC dX8_makeGroup_86 (by decide +kernel) ?_
          refine o_istore hC dX8_makeGroup_87 (Nat.le_of_ble_eq_true rfl) ?_
          exact loop3 sn (fun h2 f2 k2 o5 o6 o7 o8 o9 o10 o11 hq2 => ih (sn + 1) _ _ _ _ _ _ _ _ _ _ (by omega) hq2) q 0 _ _ _ _ _ _ _ _ _ (by omega) (hq1.tr q71)
  have loop1 : ∀ (mm i : Nat) (h1 : rl_H) (f1 : Int32) (k1 : Nat), i + mm = q → mq ids h h1 m T f1 k1 → rl_G X (rl_e D ids H0) 3 [some (.ref m), some (.int (nI a)), some (.int (nI b)), some (.int (nI q)), some (.int (nI i)), none, none, none, none, none, none, none] [] h1 n 0 0 := by
    intro mm
    induction mm with
    | zero =>
      intro i h1 f1 k1 hm hq1
      refine o_iload hC dX8_makeGroup_3 (by rfl) ?_
      refine o_iload_n hC dX8_makeGroup_5 (by rfl) ?_
      refine o_icmp_ge (tgt := 49) hC dX8_makeGroup_6 (by decide) (fun c_6 => ?_) (fun c_6 => ?_)
      · refine o_iconst (v := nI 1) hC dX8_makeGroup_49 (by decide +kernel) ?_
        refine o_istore hC dX8_makeGroup_50 (Nat.le_of_ble_eq_true rfl) ?_
        exact loop2 15 1 _ _ _ _ _ _ _ _ _ _ (by omega) hq1
      · exact absurd (nI_le (by omega) (by omega)) c_6
    | succ mm ih =>
      intro i h1 f1 k1 hm hq1
      obtain ⟨g0, gk, ⟨⟨cl, g12⟩, ⟨tu, g13, b13⟩, ⟨im, g14⟩, ⟨te, g15, b15⟩, ⟨ne, g16⟩, ⟨la, g17⟩, ⟨hn, g18⟩, ⟨hl, g19⟩, ⟨tp, g20⟩, ⟨gr, g21, b21⟩, ⟨it, g22⟩⟩, gf⟩ := id hq1
      refine o_iload hC dX8_makeGroup_3 (by rfl) ?_
      refine o_iload_n hC dX8_makeGroup_5 (by rfl) ?_
      refine o_icmp_ge (tgt := 49) hC dX8_makeGroup_6 (by decide) (fun c_6 => ?_) (fun c_6 => ?_)
      · refine o_iconst (v := nI 1) hC dX8_makeGroup_49 (by decide +kernel) ?_
        refine o_istore hC dX8_makeGroup_50 (Nat.le_of_ble_eq_true rfl) ?_
        exact loop2 15 1 _ _ _ _ _ _ _ _ _ _ (by omega) hq1
      · refine o_aload_n hC dX8_makeGroup_9 (by rfl) ?_
        refine o_getf hC (fX8_91 hC rfl) dX8_makeGroup_10 (by repeat (first | with_reducible assumption | (rw [rl_u_s]; done) | (rw [rl_u_s]; rfl) | rw [rl_u_n (by first | with_reducible assumption | omega)])) (by first | rfl | with_reducible assumption) ?_
        refine o_if_ne (tgt := 49) hC dX8_makeGroup_13 (by decide) (fun c_13 => ?_) (fun c_13 => ?_)
        · refine o_iconst (v := nI 1) hC dX8_makeGroup_49 (by decide +kernel) ?_
          refine o_istore hC dX8_makeGroup_50 (Nat.le_of_ble_eq_true rfl) ?_
          exact loop2 15 1 _ _ _ _ _ _ _ _ _ _ (by omega) hq1
        · refine o_iload_n hC dX8_makeGroup_16 (by rfl) ?_
          refine o_iconst (v := nI 1) hC dX8_makeGroup_17 (by decide +kernel) ?_
          refine o_icmp_le (tgt := 43) hC dX8_makeGroup_18 (by decide) (fun c_18 => ?_) (fun c_18 => ?_)
          · refine o_iinc hC dX8_makeGroup_43 (by rfl) (rl_inc _) (Nat.le_of_ble_eq_true rfl) ?_
            refine o_goto (tgt := 3) hC dX8_makeGroup_46 (by decide) ?_
            first
            | exact ih (i + 1) _ _ _ (by omega) (hq1.tr q40)
            | exact ih (i + 1) _ _ _ (by omega) hq1
          · refine o_aload_n hC dX8_makeGroup_21 (by rfl) ?_
            refine o_sipush (v := nI 1362) hC dX8_makeGroup_22 (by decide +kernel) ?_
            refine o_iload hC dX8_makeGroup_25 (by rfl) ?_
            refine o_iadd hC dX8_makeGroup_27 ?_
            try rw [nI_add]
            refine o_bipush (v := nI 80) hC dX8_makeGroup_28 (by decide +kernel) ?_
            refine o_iload_n hC dX8_makeGroup_30 (by rfl) ?_
            refine o_imul hC dX8_makeGroup_31 ?_
            try rw [nI_mul]
            refine o_aload_n hC dX8_makeGroup_32 (by rfl) ?_
            refine o_getf hC (fX8_72 hC rfl) dX8_makeGroup_33 (by repeat (first | with_reducible assumption | (rw [rl_u_s]; done) | (rw [rl_u_s]; rfl) | rw [rl_u_n (by first | with_reducible assumption | omega)])) (by first | rfl | with_reducible assumption) ?_
            refine o_iload hC dX8_makeGroup_36 (by rfl) ?_
            obtain ⟨t38, ht38, et38⟩ := b21 i (by omega)
            refine o_ialdN (t0 := 0) (k := i) hC rfl dX8_makeGroup_38 (by repeat (first | with_reducible assumption | (rw [rl_u_s]; done) | (rw [rl_u_s]; rfl) | rw [rl_u_n (by first | with_reducible assumption | omega)])) (by omega) (by decide) ?_
            rw [et38]
            refine o_iadd hC dX8_makeGroup_39 ?_
            try rw [nI_add]
            refine o_callV2 hC rl_BW_good rl_Ns_nw (by exact hB.2.2.2.2.2) YX8_not IX8_not VX8_not (mX8_187 hC) (by rw [hB.1]; exact cm_X8_not l D ids H0 _ _ m T _ _ (1362 + i) (80 * b + t38) hq1.rf (by omega) (by omega)) (by exact hq1.1) rfl rfl (Nat.le_of_ble_eq_true rfl) (by rw [hB.2.1]; first | exact Nat.le_of_ble_eq_true rfl | (dsimp only; omega)) (by rw [hB.2.1]; first | exact Nat.le_of_ble_eq_true rfl | (dsimp only; omega)) (by rw [hB.2.1]; first | exact Nat.le_of_ble_eq_true rfl | (dsimp only; omega)) (by rw [hB.2.1]; first | exact Nat.le_of_ble_eq_true rfl | (dsimp only; omega)) dX8_makeGroup_40 (fun v h_40 n_40 p_40 => ?_)
            obtain ⟨rfl, rfl, f40, k40, q40⟩ := p_40
            try dsimp only [Option.toList, List.cons_append, List.nil_append]
            refine o_iinc hC dX8_makeGroup_43 (by rfl) (rl_inc _) (Nat.le_of_ble_eq_true rfl) ?_
            refine o_goto (tgt := 3) hC dX8_makeGroup_46 (by decide) ?_
            first
            | exact ih (i + 1) _ _ _ (by omega) (hq1.tr q40)
            | exact ih (i + 1) _ _ _ (by omega) hq1
  show rl_G X (rl_e D ids H0) 0 [some (.ref m), some (.int (nI a)), some (.int (nI b)), some (.int (nI q)), none, none, none, none, none, none, none, none] [] h n 0 0
  refine o_iconst (v := nI 0) hC dX8_makeGroup_0 (by decide +kernel) ?_
  refine o_istore hC dX8_makeGroup_1 (Nat.le_of_ble_eq_true rfl) ?_
  exact loop1 q 0 _ _ _ (by omega) hq

set_option maxHeartbeats 4000000 in
set_option maxRecDepth 100000 in
theorem cm_X8_makeFold (l : Launch) (D : va_G) (ids : Nat → ClassId) (H0 : Heap) (h : rl_H) (n : Nat) (m : Nat) (T : md_T) (fu : Int32) (k : Nat) (S : md_A) (a b w wb ca cb : Nat) (hq : mq ids h h m T fu k) (hs : md_sa ids h m S) (ha : a < 16) (hb : b < 16) (hw : S.2.2.2.2.2.2.2.2.2.2 a = nI w) (hw6 : w ≤ 6) (hwb : S.2.2.2.2.2.2.2.2.2.2 b = nI wb) (hwb6 : wb ≤ 6) (hnA : S.2.2.2.2.2.2.1 a = nI ca) (hca : ca < 6) (hnB : S.2.2.2.2.2.2.2.1 a = nI cb) (hcb : cb < 6) : rl_Met l (rl_e D ids H0) rl_BW rl_Ns yX8_makeFold cX8_makeFold 7 none ({ frames := 5, cells := 0, slots := 0, locals := 129 }) [.ref m, .int (nI a), .int (nI b)] h n (fun v h' n' => v = none ∧ n' = n ∧ ∃ (fu' : Int32) (k' : Nat), mq ids h h' m T fu' k') := by
  refine rl_Met.of (by decide +kernel) (Nat.le_of_ble_eq_true rfl) ?_
  intro X hC hB
  have loop : ∀ (mm t : Nat) (h1 : rl_H) (f1 : Int32) (k1 : Nat) (o4 o5 o6 : Option Value), t + mm = 80 → mq ids h h1 m T f1 k1 → rl_G X (rl_e D ids H0) 2 [some (.ref m), some (.int (nI a)), some (.int (nI b)), some (.int (nI t)), o4, o5, o6] [] h1 n 0 0 := by
    intro mm
    induction mm with
    | zero =>
      intro t h1 f1 k1 o4 o5 o6 hm hq1
      have hs1 := hq1.sa hs
      obtain ⟨g0, gk, ⟨⟨cl, g12⟩, ⟨tu, g13, b13⟩, ⟨im, g14⟩, ⟨te, g15, b15⟩, ⟨ne, g16⟩, ⟨la, g17⟩, ⟨hn, g18⟩, ⟨hl, g19⟩, ⟨tp, g20⟩, ⟨gr, g21, b21⟩, ⟨it, g22⟩⟩, gf⟩ := id hq1
      obtain ⟨a1, a2, a3, a4, a5, a6, a7, a8, a9, a10, a11⟩ := id hs1
      refine o_iload_n hC dX8_makeFold_2 (by rfl) ?_
      refine o_aload_n hC dX8_makeFold_3 (by rfl) ?_
      refine o_getf hC (fX8_46 hC rfl) dX8_makeFold_4 (by repeat (first | with_reducible assumption | (rw [rl_u_s]; done) | (rw [rl_u_s]; rfl) | rw [rl_u_n (by first | with_reducible assumption | omega)])) (by first | rfl | with_reducible assumption) ?_
      refine o_iload_n hC dX8_makeFold_7 (by rfl) ?_
      obtain ⟨t8, ht8, et8⟩ := b13 b (by omega)
      refine o_ialdN (t0 := 0) (k := b) hC rfl dX8_makeFold_8 (by repeat (first | with_reducible assumption | (rw [rl_u_s]; done) | (rw [rl_u_s]; rfl) | rw [rl_u_n (by first | with_reducible assumption | omega)])) (by omega) (by decide) ?_
      rw [et8]
      refine o_icmp_ge (tgt := 147) hC dX8_makeFold_9 (by decide) (fun c_9 => ?_) (fun c_9 => ?_)
      · refine o_vret hC hB dX8_makeFold_147 (Nat.le_of_ble_eq_true rfl) (Nat.le_of_ble_eq_true rfl) ?_
        exact ⟨rfl, rfl, _, _, hq1⟩
      · exact absurd (nI_le (by omega) (by omega)) c_9
    | succ mm ih =>
      intro t h1 f1 k1 o4 o5 o6 hm hq1
      have loopU : ∀ (m2 u q : Nat) (h2 : rl_H) (f2 : Int32) (k2 : Nat) (z : Int32), u + m2 = 80 → q ≤ u → mq ids h h2 m T f2 k2 → rl_G X (rl_e D ids H0) 28 [some (.ref m), some (.int (nI a)), some (.int (nI b)), some (.int (nI t)), some (.int (nI q)), some (.int z), some (.int (nI u))] [] h2 n 0 0 := by
        intro m2
        have fin : ∀ (q : Nat) (h2 : rl_H) (f2 : Int32) (k2 : Nat) (z : Int32) (o6 : Option Value), q ≤ 80 → mq ids h h2 m T f2 k2 → rl_G X (rl_e D ids H0) 109 [some (.ref m), some (.int (nI a)), some (.int (nI b)), some (.int (nI t)), some (.int (nI q)), some (.int z), o6] [] h2 n 0 0 := by
          intro q h2 f2 k2 z o6 hq80 hq2
          have hs1 := hq2.sa hs
          obtain ⟨g0, gk, ⟨⟨cl, g12⟩, ⟨tu, g13, b13⟩, ⟨im, g14⟩, ⟨te, g15, b15⟩, ⟨ne, g16⟩, ⟨la, g17⟩, ⟨hn, g18⟩, ⟨hl, g19⟩, ⟨tp, g20⟩, ⟨gr, g21, b21⟩, ⟨it, g22⟩⟩, gf⟩ := id hq2
          obtain ⟨a1, a2, a3, a4, a5, a6, a7, a8, a9, a10, a11⟩ := id hs1
          refine o_iload hC dX8_makeFold_109 (by rfl) ?_
          refine o_if_eq (tgt := 128) hC dX8_makeFold_111 (by decide) (fun c_111 => ?_) (fun c_111 => ?_)
          · refine o_iload hC dX8_makeFold_128 (by rfl) ?_
            refine o_if_eq (tgt := 141) hC dX8_makeFold_130 (by decide) (fun c_130 => ?_) (fun c_130 => ?_)
            · refine o_iinc hC dX8_makeFold_141 (by rfl) (rl_inc _) (Nat.le_of_ble_eq_true rfl) ?_
              refine o_goto (tgt := 2) hC dX8_makeFold_144 (by decide) ?_
              first
              | exact ih (t + 1) _ _ _ _ _ _ (by omega) (hq2.tr q138)
              | exact ih (t + 1) _ _ _ _ _ _ (by omega) (hq2.ob T (nI 1) k2 gk)
              | exact ih (t + 1) _ _ _ _ _ _ (by omega) hq2
            · have q4 : q ≤ 4 := by
                first | exact (nI_leI (by omega) (by decide)).mp c_117 | exact absurd c_111 c_130
              refine o_aload_n hC dX8_makeFold_133 (by rfl) ?_
              refine o_iload_n hC dX8_makeFold_134 (by rfl) ?_
              refine o_iload_n hC dX8_makeFold_135 (by rfl) ?_
              refine o_iload hC dX8_makeFold_136 (by rfl) ?_
              refine o_callV3 hC rl_BW_good rl_Ns_nw (by exact hB.2.2.2.2.2) YX8_makeGroup IX8_makeGroup VX8_makeGroup (mX8_190 hC) (by rw [hB.1]; exact cm_X8_makeGroup l D ids H0 _ _ m T _ _ S a b w wb ca cb q hq2.rf hs1 ha hb hw hw6 hwb hwb6 hnA hca hnB hcb q4) (by exact hq2.1) rfl rfl (Nat.le_of_ble_eq_true rfl) (by rw [hB.2.1]; first | exact Nat.le_of_ble_eq_true rfl | (dsimp only; omega)) (by rw [hB.2.1]; first | exact Nat.le_of_ble_eq_true rfl | (dsimp only; omega)) (by rw [hB.2.1]; first | exact Nat.le_of_ble_eq_true rfl | (dsimp only; omega)) (by rw [hB.2.1]; first | exact Nat.le_of_ble_eq_true rfl | (dsimp only; omega)) dX8_makeFold_138 (fun v h_138 n_138 p_138 => ?_)
              obtain ⟨rfl, rfl, f138, k138, q138⟩ := p_138
              try dsimp only [Option.toList, List.cons_append, List.nil_append]
              refine o_iinc hC dX8_makeFold_141 (by rfl) (rl_inc _) (Nat.le_of_ble_eq_true rfl) ?_
              refine o_goto (tgt := 2) hC dX8_makeFold_144 (by decide) ?_
              first
              | exact ih (t + 1) _ _ _ _ _ _ (by omega) (hq2.tr q138)
              | exact ih (t + 1) _ _ _ _ _ _ (by omega) (hq2.ob T (nI 1) k2 gk)
              | exact ih (t + 1) _ _ _ _ _ _ (by omega) hq2
          · refine o_iload hC dX8_makeFold_114 (by rfl) ?_
            refine o_iconst (v := nI 4) hC dX8_makeFold_116 (by decide +kernel) ?_
            refine o_icmp_le (tgt := 128) hC dX8_makeFold_117 (by decide) (fun c_117 => ?_) (fun c_117 => ?_)
            · refine o_iload hC dX8_makeFold_128 (by rfl) ?_
              refine o_if_eq (tgt := 141) hC dX8_makeFold_130 (by decide) (fun c_130 => ?_) (fun c_130 => ?_)
              · refine o_iinc hC dX8_makeFold_141 (by rfl) (rl_inc _) (Nat.le_of_ble_eq_true rfl) ?_
                refine o_goto (tgt := 2) hC dX8_makeFold_144 (by decide) ?_
                first
                | exact ih (t + 1) _ _ _ _ _ _ (by omega) (hq2.tr q138)
                | exact ih (t + 1) _ _ _ _ _ _ (by omega) (hq2.ob T (nI 1) k2 gk)
                | exact ih (t + 1) _ _ _ _ _ _ (by omega) hq2
              · have q4 : q ≤ 4 := by
                  first | exact (nI_leI (by omega) (by decide)).mp c_117 | exact absurd c_111 c_130
                refine o_aload_n hC dX8_makeFold_133 (by rfl) ?_
                refine o_iload_n hC dX8_makeFold_134 (by rfl) ?_
                refine o_iload_n hC dX8_makeFold_135 (by rfl) ?_
                refine o_iload hC dX8_makeFold_136 (by rfl) ?_
                refine o_callV3 hC rl_BW_good rl_Ns_nw (by exact hB.2.2.2.2.2) YX8_makeGroup IX8_makeGroup VX8_makeGroup (mX8_190 hC) (by rw [hB.1]; exact cm_X8_makeGroup l D ids H0 _ _ m T _ _ S a b w wb ca cb q hq2.rf hs1 ha hb hw hw6 hwb hwb6 hnA hca hnB hcb q4) (by exact hq2.1) rfl rfl (Nat.le_of_ble_eq_true rfl) (by rw [hB.2.1]; first | exact Nat.le_of_ble_eq_true rfl | (dsimp only; omega)) (by rw [hB.2.1]; first | exact Nat.le_of_ble_eq_true rfl | (dsimp only; omega)) (by rw [hB.2.1]; first | exact Nat.le_of_ble_eq_true rfl | (dsimp only; omega)) (by rw [hB.2.1]; first | exact Nat.le_of_ble_eq_true rfl | (dsimp only; omega)) dX8_makeFold_138 (fun v h_138 n_138 p_138 => ?_)
                obtain ⟨rfl, rfl, f138, k138, q138⟩ := p_138
                try dsimp only [Option.toList, List.cons_append, List.nil_append]
                refine o_iinc hC dX8_makeFold_141 (by rfl) (rl_inc _) (Nat.le_of_ble_eq_true rfl) ?_
                refine o_goto (tgt := 2) hC dX8_makeFold_144 (by decide) ?_
                first
                | exact ih (t + 1) _ _ _ _ _ _ (by omega) (hq2.tr q138)
                | exact ih (t + 1) _ _ _ _ _ _ (by omega) (hq2.ob T (nI 1) k2 gk)
                | exact ih (t + 1) _ _ _ _ _ _ (by omega) hq2
            · refine o_aload_n hC dX8_makeFold_120 (by rfl) ?_
              refine o_iconst (v := nI 1) hC dX8_makeFold_121 (by decide +kernel) ?_
              refine o_putf hC (fX8_91 hC rfl) (fwX8 rfl rfl rfl (Or.inl rfl)) dX8_makeFold_122 (by repeat (first | with_reducible assumption | (rw [rl_u_s]; done) | (rw [rl_u_s]; rfl) | rw [rl_u_n (by first | with_reducible assumption | omega)])) (Nat.le_of_ble_eq_true rfl) ?_
              try simp only [List.set_cons_zero, List.set_cons_succ]
              refine o_goto (tgt := 141) hC dX8_makeFold_125 (by decide) ?_
              refine o_iinc hC dX8_makeFold_141 (by rfl) (rl_inc _) (Nat.le_of_ble_eq_true rfl) ?_
              refine o_goto (tgt := 2) hC dX8_makeFold_144 (by decide) ?_
              first
              | exact ih (t + 1) _ _ _ _ _ _ (by omega) (hq2.tr q138)
              | exact ih (t + 1) _ _ _ _ _ _ (by omega) (hq2.ob T (nI 1) k2 gk)
              | exact ih (t + 1) _ _ _ _ _ _ (by omega) hq2
        induction m2 with
        | zero =>
          intro u q h2 f2 k2 z hm2 hqu hq2
          have hs1 := hq2.sa hs
          obtain ⟨g0, gk, ⟨⟨cl, g12⟩, ⟨tu, g13, b13⟩, ⟨im, g14⟩, ⟨te, g15, b15⟩, ⟨ne, g16⟩, ⟨la, g17⟩, ⟨hn, g18⟩, ⟨hl, g19⟩, ⟨tp, g20⟩, ⟨gr, g21, b21⟩, ⟨it, g22⟩⟩, gf⟩ := id hq2
          obtain ⟨a1, a2, a3, a4, a5, a6, a7, a8, a9, a10, a11⟩ := id hs1
          refine o_iload hC dX8_makeFold_28 (by rfl) ?_
          refine o_aload_n hC dX8_makeFold_30 (by rfl) ?_
          refine o_getf hC (fX8_46 hC rfl) dX8_makeFold_31 (by repeat (first | with_reducible assumption | (rw [rl_u_s]; done) | (rw [rl_u_s]; rfl) | rw [rl_u_n (by first | with_reducible assumption | omega)])) (by first | rfl | with_reducible assumption) ?_
          refine o_iload_n hC dX8_makeFold_34 (by rfl) ?_
          obtain ⟨t35, ht35, et35⟩ := b13 b (by omega)
          refine o_ialdN (t0 := 0) (k := b) hC rfl dX8_makeFold_35 (by repeat (first | with_reducible assumption | (rw [rl_u_s]; done) | (rw [rl_u_s]; rfl) | rw [rl_u_n (by first | with_reducible assumption | omega)])) (by omega) (by decide) ?_
          rw [et35]
          refine o_icmp_ge (tgt := 109) hC dX8_makeFold_36 (by decide) (fun c_36 => ?_) (fun c_36 => ?_)
          · exact fin _ _ _ _ _ _ (by omega) hq2
          · exact absurd (nI_le (by omega) (by omega)) c_36
        | succ m2 ih2 =>
          intro u q h2 f2 k2 z hm2 hqu hq2
          have hs1 := hq2.sa hs
          obtain ⟨g0, gk, ⟨⟨cl, g12⟩, ⟨tu, g13, b13⟩, ⟨im, g14⟩, ⟨te, g15, b15⟩, ⟨ne, g16⟩, ⟨la, g17⟩, ⟨hn, g18⟩, ⟨hl, g19⟩, ⟨tp, g20⟩, ⟨gr, g21, b21⟩, ⟨it, g22⟩⟩, gf⟩ := id hq2
          obtain ⟨a1, a2, a3, a4, a5, a6, a7, a8, a9, a10, a11⟩ := id hs1
          refine o_iload hC dX8_makeFold_28 (by rfl) ?_
          refine o_aload_n hC dX8_makeFold_30 (by rfl) ?_
          refine o_getf hC (fX8_46 hC rfl) dX8_makeFold_31 (by repeat (first | with_reducible assumption | (rw [rl_u_s]; done) | (rw [rl_u_s]; rfl) | rw [rl_u_n (by first | with_reducible assumption | omega)])) (by first | rfl | with_reducible assumption) ?_
          refine o_iload_n hC dX8_makeFold_34 (by rfl) ?_
          obtain ⟨t35, ht35, et35⟩ := b13 b (by omega)
          refine o_ialdN (t0 := 0) (k := b) hC rfl dX8_makeFold_35 (by repeat (first | with_reducible assumption | (rw [rl_u_s]; done) | (rw [rl_u_s]; rfl) | rw [rl_u_n (by first | with_reducible assumption | omega)])) (by omega) (by decide) ?_
          rw [et35]
          refine o_icmp_ge (tgt := 109) hC dX8_makeFold_36 (by decide) (fun c_36 => ?_) (fun c_36 => ?_)
          · exact fin _ _ _ _ _ _ (by omega) hq2
          · refine o_aload_n hC dX8_makeFold_39 (by rfl) ?_
            refine o_iload_n hC dX8_makeFold_40 (by rfl) ?_
            refine o_iload hC dX8_makeFold_41 (by rfl) ?_
            refine o_aload_n hC dX8_makeFold_43 (by rfl) ?_
            refine o_getf hC (fX8_28 hC rfl) dX8_makeFold_44 (by repeat (first | with_reducible assumption | (rw [rl_u_s]; done) | (rw [rl_u_s]; rfl) | rw [rl_u_n (by first | with_reducible assumption | omega)])) (by first | rfl | with_reducible assumption) ?_
            refine o_iload_n hC dX8_makeFold_47 (by rfl) ?_
            refine o_ialdN (t0 := 0) (k := a) hC rfl dX8_makeFold_48 (by repeat (first | with_reducible assumption | (rw [rl_u_s]; done) | (rw [rl_u_s]; rfl) | rw [rl_u_n (by first | with_reducible assumption | omega)])) (by omega) (by decide) ?_
            rw [hnA]
            refine o_callV3 hC rl_BW_good rl_Ns_nw (by exact hB.2.2.2.2.2) YX8_cellAt IX8_cellAt VX8_cellAt (mX8_138 hC) (by rw [hB.1]; exact cm_X8_cellAt l D ids H0 _ _ m T _ _ b u ca hq2.rf (by omega)) (by exact hq2.rf.1) rfl rfl (Nat.le_of_ble_eq_true rfl) (by rw [hB.2.1]; first | exact Nat.le_of_ble_eq_true rfl | (dsimp only; omega)) (by rw [hB.2.1]; first | exact Nat.le_of_ble_eq_true rfl | (dsimp only; omega)) (by rw [hB.2.1]; first | exact Nat.le_of_ble_eq_true rfl | (dsimp only; omega)) (by rw [hB.2.1]; first | exact Nat.le_of_ble_eq_true rfl | (dsimp only; omega)) dX8_makeFold_49 (fun v h_49 n_49 p_49 => ?_)
            obtain ⟨r49, rfl, rfl, rfl⟩ := p_49
            try dsimp only [Option.toList, List.cons_append, List.nil_append]
            refine o_aload_n hC dX8_makeFold_52 (by rfl) ?_
            refine o_iload_n hC dX8_makeFold_53 (by rfl) ?_
            refine o_iload_n hC dX8_makeFold_54 (by rfl) ?_
            refine o_aload_n hC dX8_makeFold_55 (by rfl) ?_
            refine o_getf hC (fX8_28 hC rfl) dX8_makeFold_56 (by repeat (first | with_reducible assumption | (rw [rl_u_s]; done) | (rw [rl_u_s]; rfl) | rw [rl_u_n (by first | with_reducible assumption | omega)])) (by first | rfl | with_reducible assumption) ?_
            refine o_iload_n hC dX8_makeFold_59 (by rfl) ?_
            refine o_ialdN (t0 := 0) (k := a) hC rfl dX8_makeFold_60 (by repeat (first | with_reducible assumption | (rw [rl_u_s]; done) | (rw [rl_u_s]; rfl) | rw [rl_u_n (by first | with_reducible assumption | omega)])) (by omega) (by decide) ?_
            rw [hnA]
            refine o_callV3 hC rl_BW_good rl_Ns_nw (by exact hB.2.2.2.2.2) YX8_cellAt IX8_cellAt VX8_cellAt (mX8_138 hC) (by rw [hB.1]; exact cm_X8_cellAt l D ids H0 _ _ m T _ _ b t ca hq2.rf (by omega)) (by exact hq2.rf.1) rfl rfl (Nat.le_of_ble_eq_true rfl) (by rw [hB.2.1]; first | exact Nat.le_of_ble_eq_true rfl | (dsimp only; omega)) (by rw [hB.2.1]; first | exact Nat.le_of_ble_eq_true rfl | (dsimp only; omega)) (by rw [hB.2.1]; first | exact Nat.le_of_ble_eq_true rfl | (dsimp only; omega)) (by rw [hB.2.1]; first | exact Nat.le_of_ble_eq_true rfl | (dsimp only; omega)) dX8_makeFold_61 (fun v h_61 n_61 p_61 => ?_)
            obtain ⟨r61, rfl, rfl, rfl⟩ := p_61
            try dsimp only [Option.toList, List.cons_append, List.nil_append]
            refine o_icmp_ne (tgt := 103) hC dX8_makeFold_64 (by decide) (fun c_64 => ?_) (fun c_64 => ?_)
            · refine o_iinc hC dX8_makeFold_103 (by rfl) (rl_inc _) (Nat.le_of_ble_eq_true rfl) ?_
              refine o_goto (tgt := 28) hC dX8_makeFold_106 (by decide) ?_
              first
              | exact ih2 (u + 1) (q + 1) _ _ _ _ (by omega) (by omega) (hq2.s21 _ (md_bl b21 ⟨u, by omega, rfl⟩))
              | exact ih2 (u + 1) (q + 1) _ _ _ _ (by omega) (by omega) hq2
              | exact ih2 (u + 1) q _ _ _ _ (by omega) (by omega) hq2
            · refine o_iload hC dX8_makeFold_67 (by rfl) ?_
              refine o_if_eq (tgt := 82) hC dX8_makeFold_69 (by decide) (fun c_69 => ?_) (fun c_69 => ?_)
              · refine o_iconst (v := nI 0) hC dX8_makeFold_82 (by decide +kernel) ?_
                refine o_istore hC dX8_makeFold_83 (Nat.le_of_ble_eq_true rfl) ?_
                refine o_iload hC dX8_makeFold_85 (by rfl) ?_
                refine o_iconst (v := nI 4) hC dX8_makeFold_87 (by decide +kernel) ?_
                refine o_icmp_ge (tgt := 100) hC dX8_makeFold_88 (by decide) (fun c_88 => ?_) (fun c_88 => ?_)
                · refine o_iinc hC dX8_makeFold_100 (by rfl) (rl_inc _) (Nat.le_of_ble_eq_true rfl) ?_
                  refine o_iinc hC dX8_makeFold_103 (by rfl) (rl_inc _) (Nat.le_of_ble_eq_true rfl) ?_
                  refine o_goto (tgt := 28) hC dX8_makeFold_106 (by decide) ?_
                  first
                  | exact ih2 (u + 1) (q + 1) _ _ _ _ (by omega) (by omega) (hq2.s21 _ (md_bl b21 ⟨u, by omega, rfl⟩))
                  | exact ih2 (u + 1) (q + 1) _ _ _ _ (by omega) (by omega) hq2
                  | exact ih2 (u + 1) q _ _ _ _ (by omega) (by omega) hq2
                · have q4 : q < 4 := by
                    rcases Nat.lt_or_ge q 4 with w9 | w9
                    · exact w9
                    · exact absurd (nI_le w9 (by omega)) c_88
                  refine o_aload_n hC dX8_makeFold_91 (by rfl) ?_
                  refine o_getf hC (fX8_72 hC rfl) dX8_makeFold_92 (by repeat (first | with_reducible assumption | (rw [rl_u_s]; done) | (rw [rl_u_s]; rfl) | rw [rl_u_n (by first | with_reducible assumption | omega)])) (by first | rfl | with_reducible assumption) ?_
                  refine o_iload hC dX8_makeFold_95 (by rfl) ?_
                  refine o_iload hC dX8_makeFold_97 (by rfl) ?_
                  refine o_iastN (t0 := 0) hC rfl dX8_makeFold_99 (by repeat (first | with_reducible assumption | (rw [rl_u_s]; done) | (rw [rl_u_s]; rfl) | rw [rl_u_n (by first | with_reducible assumption | omega)])) (by omega) (by decide) ?_
                  refine o_iinc hC dX8_makeFold_100 (by rfl) (rl_inc _) (Nat.le_of_ble_eq_true rfl) ?_
                  refine o_iinc hC dX8_makeFold_103 (by rfl) (rl_inc _) (Nat.le_of_ble_eq_true rfl) ?_
                  refine o_goto (tgt := 28) hC dX8_makeFold_106 (by decide) ?_
                  first
                  | exact ih2 (u + 1) (q + 1) _ _ _ _ (by omega) (by omega) (hq2.s21 _ (md_bl b21 ⟨u, by omega, rfl⟩))
                  | exact ih2 (u + 1) (q + 1) _ _ _ _ (by omega) (by omega) hq2
                  | exact ih2 (u + 1) q _ _ _ _ (by omega) (by omega) hq2
              · refine o_iload hC dX8_makeFold_72 (by rfl) ?_
                refine o_iload_n hC dX8_makeFold_74 (by rfl) ?_
                refine o_icmp_lt (tgt := 82) hC dX8_makeFold_75 (by decide) (fun c_75 => ?_) (fun c_75 => ?_)
                · refine o_iconst (v := nI 0) hC dX8_makeFold_82 (by decide +kernel) ?_
                  refine o_istore hC dX8_makeFold_83 (Nat.le_of_ble_eq_true rfl) ?_
                  refine o_iload hC dX8_makeFold_85 (by rfl) ?_
                  refine o_iconst (v := nI 4) hC dX8_makeFold_87 (by decide +kernel) ?_
                  refine o_icmp_ge (tgt := 100) hC dX8_makeFold_88 (by decide) (fun c_88 => ?_) (fun c_88 => ?_)
                  · refine o_iinc hC dX8_makeFold_100 (by rfl) (rl_inc _) (Nat.le_of_ble_eq_true rfl) ?_
                    refine o_iinc hC dX8_makeFold_103 (by rfl) (rl_inc _) (Nat.le_of_ble_eq_true rfl) ?_
                    refine o_goto (tgt := 28) hC dX8_makeFold_106 (by decide) ?_
                    first
                    | exact ih2 (u + 1) (q + 1) _ _ _ _ (by omega) (by omega) (hq2.s21 _ (md_bl b21 ⟨u, by omega, rfl⟩))
                    | exact ih2 (u + 1) (q + 1) _ _ _ _ (by omega) (by omega) hq2
                    | exact ih2 (u + 1) q _ _ _ _ (by omega) (by omega) hq2
                  · have q4 : q < 4 := by
                      rcases Nat.lt_or_ge q 4 with w9 | w9
                      · exact w9
                      · exact absurd (nI_le w9 (by omega)) c_88
                    refine o_aload_n hC dX8_makeFold_91 (by rfl) ?_
                    refine o_getf hC (fX8_72 hC rfl) dX8_makeFold_92 (by repeat (first | with_reducible assumption | (rw [rl_u_s]; done) | (rw [rl_u_s]; rfl) | rw [rl_u_n (by first | with_reducible assumption | omega)])) (by first | rfl | with_reducible assumption) ?_
                    refine o_iload hC dX8_makeFold_95 (by rfl) ?_
                    refine o_iload hC dX8_makeFold_97 (by rfl) ?_
                    refine o_iastN (t0 := 0) hC rfl dX8_makeFold_99 (by repeat (first | with_reducible assumption | (rw [rl_u_s]; done) | (rw [rl_u_s]; rfl) | rw [rl_u_n (by first | with_reducible assumption | omega)])) (by omega) (by decide) ?_
                    refine o_iinc hC dX8_makeFold_100 (by rfl) (rl_inc _) (Nat.le_of_ble_eq_true rfl) ?_
                    refine o_iinc hC dX8_makeFold_103 (by rfl) (rl_inc _) (Nat.le_of_ble_eq_true rfl) ?_
                    refine o_goto (tgt := 28) hC dX8_makeFold_106 (by decide) ?_
                    first
                    | exact ih2 (u + 1) (q + 1) _ _ _ _ (by omega) (by omega) (hq2.s21 _ (md_bl b21 ⟨u, by omega, rfl⟩))
                    | exact ih2 (u + 1) (q + 1) _ _ _ _ (by omega) (by omega) hq2
                    | exact ih2 (u + 1) q _ _ _ _ (by omega) (by omega) hq2
                · refine o_iconst (v := nI 1) hC dX8_makeFold_78 (by decide +kernel) ?_
                  refine o_goto (tgt := 83) hC dX8_makeFold_79 (by decide) ?_
                  refine o_istore hC dX8_makeFold_83 (Nat.le_of_ble_eq_true rfl) ?_
                  refine o_iload hC dX8_makeFold_85 (by rfl) ?_
                  refine o_iconst (v := nI 4) hC dX8_makeFold_87 (by decide +kernel) ?_
                  refine o_icmp_ge (tgt := 100) hC dX8_makeFold_88 (by decide) (fun c_88 => ?_) (fun c_88 => ?_)
                  · refine o_iinc hC dX8_makeFold_100 (by rfl) (rl_inc _) (Nat.le_of_ble_eq_true rfl) ?_
                    refine o_iinc hC dX8_makeFold_103 (by rfl) (rl_inc _) (Nat.le_of_ble_eq_true rfl) ?_
                    refine o_goto (tgt := 28) hC dX8_makeFold_106 (by decide) ?_
                    first
                    | exact ih2 (u + 1) (q + 1) _ _ _ _ (by omega) (by omega) (hq2.s21 _ (md_bl b21 ⟨u, by omega, rfl⟩))
                    | exact ih2 (u + 1) (q + 1) _ _ _ _ (by omega) (by omega) hq2
                    | exact ih2 (u + 1) q _ _ _ _ (by omega) (by omega) hq2
                  · have q4 : q < 4 := by
                      rcases Nat.lt_or_ge q 4 with w9 | w9
                      · exact w9
                      · exact absurd (nI_le w9 (by omega)) c_88
                    refine o_aload_n hC dX8_makeFold_91 (by rfl) ?_
                    refine o_getf hC (fX8_72 hC rfl) dX8_makeFold_92 (by repeat (first | with_reducible assumption | (rw [rl_u_s]; done) | (rw [rl_u_s]; rfl) | rw [rl_u_n (by first | with_reducible assumption | omega)])) (by first | rfl | with_reducible assumption) ?_
                    refine o_iload hC dX8_makeFold_95 (by rfl) ?_
                    refine o_iload hC dX8_makeFold_97 (by rfl) ?_
                    refine o_iastN (t0 := 0) hC rfl dX8_makeFold_99 (by repeat (first | with_reducible assumption | (rw [rl_u_s]; done) | (rw [rl_u_s]; rfl) | rw [rl_u_n (by first | with_reducible assumption | omega)])) (by omega) (by decide) ?_
                    refine o_iinc hC dX8_makeFold_100 (by rfl) (rl_inc _) (Nat.le_of_ble_eq_true rfl) ?_
                    refine o_iinc hC dX8_makeFold_103 (by rfl) (rl_inc _) (Nat.le_of_ble_eq_true rfl) ?_
                    refine o_goto (tgt := 28) hC dX8_makeFold_106 (by decide) ?_
                    first
                    | exact ih2 (u + 1) (q + 1) _ _ _ _ (by omega) (by omega) (hq2.s21 _ (md_bl b21 ⟨u, by omega, rfl⟩))
                    | exact ih2 (u + 1) (q + 1) _ _ _ _ (by omega) (by omega) hq2
                    | exact ih2 (u + 1) q _ _ _ _ (by omega) (by omega) hq2
      have hs1 := hq1.sa hs
      obtain ⟨g0, gk, ⟨⟨cl, g12⟩, ⟨tu, g13, b13⟩, ⟨im, g14⟩, ⟨te, g15, b15⟩, ⟨ne, g16⟩, ⟨la, g17⟩, ⟨hn, g18⟩, ⟨hl, g19⟩, ⟨tp, g20⟩, ⟨gr, g21, b21⟩, ⟨it, g22⟩⟩, gf⟩ := id hq1
      obtain ⟨a1, a2, a3, a4, a5, a6, a7, a8, a9, a10, a11⟩ := id hs1
      refine o_iload_n hC dX8_makeFold_2 (by rfl) ?_
      refine o_aload_n hC dX8_makeFold_3 (by rfl) ?_
      refine o_getf hC (fX8_46 hC rfl) dX8_makeFold_4 (by repeat (first | with_reducible assumption | (rw [rl_u_s]; done) | (rw [rl_u_s]; rfl) | rw [rl_u_n (by first | with_reducible assumption | omega)])) (by first | rfl | with_reducible assumption) ?_
      refine o_iload_n hC dX8_makeFold_7 (by rfl) ?_
      obtain ⟨t8, ht8, et8⟩ := b13 b (by omega)
      refine o_ialdN (t0 := 0) (k := b) hC rfl dX8_makeFold_8 (by repeat (first | with_reducible assumption | (rw [rl_u_s]; done) | (rw [rl_u_s]; rfl) | rw [rl_u_n (by first | with_reducible assumption | omega)])) (by omega) (by decide) ?_
      rw [et8]
      refine o_icmp_ge (tgt := 147) hC dX8_makeFold_9 (by decide) (fun c_9 => ?_) (fun c_9 => ?_)
      · refine o_vret hC hB dX8_makeFold_147 (Nat.le_of_ble_eq_true rfl) (Nat.le_of_ble_eq_true rfl) ?_
        exact ⟨rfl, rfl, _, _, hq1⟩
      · refine o_aload_n hC dX8_makeFold_12 (by rfl) ?_
        refine o_getf hC (fX8_91 hC rfl) dX8_makeFold_13 (by repeat (first | with_reducible assumption | (rw [rl_u_s]; done) | (rw [rl_u_s]; rfl) | rw [rl_u_n (by first | with_reducible assumption | omega)])) (by first | rfl | with_reducible assumption) ?_
        refine o_if_ne (tgt := 147) hC dX8_makeFold_16 (by decide) (fun c_16 => ?_) (fun c_16 => ?_)
        · refine o_vret hC hB dX8_makeFold_147 (Nat.le_of_ble_eq_true rfl) (Nat.le_of_ble_eq_true rfl) ?_
          exact ⟨rfl, rfl, _, _, hq1⟩
        · refine o_iconst (v := nI 0) hC dX8_makeFold_19 (by decide +kernel) ?_
          refine o_istore hC dX8_makeFold_20 (Nat.le_of_ble_eq_true rfl) ?_
          refine o_iconst (v := nI 1) hC dX8_makeFold_22 (by decide +kernel) ?_
          refine o_istore hC dX8_makeFold_23 (Nat.le_of_ble_eq_true rfl) ?_
          refine o_iconst (v := nI 0) hC dX8_makeFold_25 (by decide +kernel) ?_
          refine o_istore hC dX8_makeFold_26 (Nat.le_of_ble_eq_true rfl) ?_
          exact loopU 80 0 0 _ _ _ _ (by omega) (by omega) hq1
  show rl_G X (rl_e D ids H0) 0 [some (.ref m), some (.int (nI a)), some (.int (nI b)), none, none, none, none] [] h n 0 0
  refine o_iconst (v := nI 0) hC dX8_makeFold_0 (by decide +kernel) ?_
  refine o_istore_n hC dX8_makeFold_1 (Nat.le_of_ble_eq_true rfl) ?_
  exact loop 80 0 _ _ _ _ _ _ (by omega) hq
end
section
/-! THE MODEL: its whole state; make, run -/
/-- node a is made of earlier ones, and its numbers are such that its tuples can be made -/
def md_nv (S : md_A) (a : Nat) : Prop := ∃ op w : Nat, op ≤ 6 ∧ 1 ≤ w ∧ w ≤ 6 ∧ S.2.2.2.1 a = nI op ∧ S.2.2.2.2.2.2.2.2.2.2 a = nI w ∧ (1 ≤ op → ∃ b wb : Nat, b < a ∧ wb ≤ 6 ∧ S.2.2.2.2.1 a = nI b ∧ S.2.2.2.2.2.2.2.2.2.2 b = nI wb ∧ (op = 3 ∨ op = 4 ∨ op = 5 → ∃ d wd : Nat, d < a ∧ wd ≤ 6 ∧ S.2.2.2.2.2.1 a = nI d ∧ S.2.2.2.2.2.2.2.2.2.2 d = nI wd ∧ (op = 3 → wb + wd ≤ 6))) ∧ (op = 1 ∨ op = 3 ∨ op = 6 → ∃ ca : Nat, ca < 6 ∧ S.2.2.2.2.2.2.1 a = nI ca) ∧ (op = 1 → S.2.2.2.2.2.2.2.2.1 a = -1 ∨ ∃ cc : Nat, cc < 6 ∧ S.2.2.2.2.2.2.2.2.1 a = nI cc) ∧ (op = 2 → ∃ N : Nat, N < 10 ^ 6 ∧ S.2.2.2.2.2.2.1 a = nI N ∧ ∀ c : Nat, N / 10 ^ c ≠ 0 → 1 ≤ N / 10 ^ c % 10 ∧ N / 10 ^ c % 10 ≤ 6) ∧ (op = 3 ∨ op = 6 → ∃ cb : Nat, cb < 6 ∧ S.2.2.2.2.2.2.2.1 a = nI cb)
theorem upd_lt {f : Nat → Int32} {k i : Nat} {x : Int32} (h : i < k) : upd f k x i = f i := if_neg (by omega)
theorem upd_at {f : Nat → Int32} {k : Nat} {x : Int32} : upd f k x k = x := if_pos rfl
theorem md_nv.up {S : md_A} {a k : Nat} (ha : a < k) {op fi se x y u v w : Int32} (H : md_nv S a) : md_nv (S.1, S.2.1, S.2.2.1, upd S.2.2.2.1 k op, upd S.2.2.2.2.1 k fi, upd S.2.2.2.2.2.1 k se, upd S.2.2.2.2.2.2.1 k x, upd S.2.2.2.2.2.2.2.1 k y, upd S.2.2.2.2.2.2.2.2.1 k u, upd S.2.2.2.2.2.2.2.2.2.1 k v, upd S.2.2.2.2.2.2.2.2.2.2 k w) a := by
  obtain ⟨op', w', h1, h2, h3, h4, h5, h6, h7, h8, h9, h10⟩ := H
  refine ⟨op', w', h1, h2, h3, (upd_lt ha).trans h4, (upd_lt ha).trans h5, fun q => ?_, fun q => ?_, fun q => ?_, fun q => ?_, fun q => ?_⟩
  · obtain ⟨b, wb, i1, i2, i3, i4, i5⟩ := h6 q
    refine ⟨b, wb, i1, i2, (upd_lt ha).trans i3, (upd_lt (by omega)).trans i4, fun q2 => ?_⟩
    obtain ⟨d, wd, j1, j2, j3, j4, j5⟩ := i5 q2
    exact ⟨d, wd, j1, j2, (upd_lt ha).trans j3, (upd_lt (by omega)).trans j4, j5⟩
  · obtain ⟨c, i1, i2⟩ := h7 q
    exact ⟨c, i1, (upd_lt ha).trans i2⟩
  · rcases h8 q with i | ⟨c, i1, i2⟩
    · exact Or.inl ((upd_lt ha).trans i)
    · exact Or.inr ⟨c, i1, (upd_lt ha).trans i2⟩
  · obtain ⟨N, i1, i2, i3⟩ := h9 q
    exact ⟨N, i1, (upd_lt ha).trans i2, i3⟩
  · obtain ⟨c, i1, i2⟩ := h10 q
    exact ⟨c, i1, (upd_lt ha).trans i2⟩
def md_un (ids : Nat → ClassId) (h : rl_H) (m : Nat) (T : md_T) (fu : Int32) (k : Nat) (S : md_A) (z : sh_S) : Prop :=
  mq ids h h m T fu k ∧ md_sa ids h m S ∧ (T.2.1 = nI z.1 ∧ z.1 ≤ 4) ∧ S.1 = z.2.1 ∧ (T.2.2.1 = nI z.2.2.1 ∧ z.2.2.1 ≤ 36) ∧ (T.2.2.2.2.1 = nI z.2.2.2.1 ∧ z.2.2.2.1 ≤ 16) ∧ S.2.2.2.2.2.2.2.2.2.2 = z.2.2.2.2.1 ∧ T.2.2.2.1 = z.2.2.2.2.2 ∧ (∀ a : Nat, a < z.2.2.2.1 → md_nv S a) ∧ (∀ i : Nat, i < z.1 → ∃ w : Nat, 1 ≤ w ∧ w ≤ 4 ∧ S.1 i = nI w) ∧ ∃ w : Nat, w ≤ 6 ∧ T.2.2.2.2.2.1 = nI w
def md_ok (ids : Nat → ClassId) (h : rl_H) (m : Nat) (z : sh_S) : Prop := ∃ (T : md_T) (fu : Int32) (k : Nat) (S : md_A), md_un ids h m T fu k S z
/-- what a call leaves that makes nothing of tuples -/
def mdx (ids : Nat → ClassId) (h' : rl_H) (m : Nat) (T : md_T) (z : sh_S) (R : md_A → Prop) (D : Prop) : Prop := ∃ (T' : md_T) (fu' : Int32) (k' : Nat) (S' : md_A), md_un ids h' m T' fu' k' S' z ∧ T'.2.2.2.2.2.1 = T.2.2.2.2.2.1 ∧ R S' ∧ D
theorem mdx.ok {ids : Nat → ClassId} {h' : rl_H} {m : Nat} {T : md_T} {z : sh_S} {R : md_A → Prop} {D : Prop} (H : mdx ids h' m T z R D) : md_ok ids h' m z := by
  obtain ⟨T', fu', k', S', H, -⟩ := H
  exact ⟨T', fu', k', S', H⟩
theorem mdx.im {ids : Nat → ClassId} {h' : rl_H} {m : Nat} {T T1 : md_T} {z : sh_S} {R R' : md_A → Prop} {D D' : Prop} (H : mdx ids h' m T1 z R D) (e : T1.2.2.2.2.2.1 = T.2.2.2.2.2.1) (r : ∀ S' : md_A, R S' → R' S') (d : D → D') : mdx ids h' m T z R' D' := by
  obtain ⟨T', fu', k', S', H, a, b, c⟩ := H
  exact ⟨T', fu', k', S', H, a.trans e, r S' b, d c⟩
theorem md_ok.eqv {ids : Nat → ClassId} {h h' : rl_H} {m : Nat} {z : sh_S} (H : md_ok ids h m z) (he : ∀ q : Nat, m ≤ q → q < m + 23 → h' q = h q) : md_ok ids h' m z := by
  obtain ⟨T, fu, k, S, ⟨g0, gk, ⟨d12, d13, d14, d15, d16, d17, d18, d19, d20, d21, d22⟩, -⟩, u2, u3⟩ := H
  exact ⟨T, fu, k, S, ⟨(he m (by omega) (by omega)).trans g0, gk, ⟨d12.elim fun f e => ⟨f, (he _ (by omega) (by omega)).trans e⟩, d13.elim fun f e => ⟨f, (he _ (by omega) (by omega)).trans e.1, e.2⟩, d14.elim fun f e => ⟨f, (he _ (by omega) (by omega)).trans e⟩, d15.elim fun f e => ⟨f, (he _ (by omega) (by omega)).trans e.1, e.2⟩, d16.elim fun f e => ⟨f, (he _ (by omega) (by omega)).trans e⟩, d17.elim fun f e => ⟨f, (he _ (by omega) (by omega)).trans e⟩, d18.elim fun f e => ⟨f, (he _ (by omega) (by omega)).trans e⟩, d19.elim fun f e => ⟨f, (he _ (by omega) (by omega)).trans e⟩, d20.elim fun f e => ⟨f, (he _ (by omega) (by omega)).trans e⟩, d21.elim fun f e => ⟨f, (he _ (by omega) (by omega)).trans e.1, e.2⟩, d22.elim fun f e => ⟨f, (he _ (by omega) (by omega)).trans e⟩⟩, fun _ _ _ => rfl⟩, u2.eqv (fun q a b => he q (by omega) (by omega)), u3⟩
/-- what a deep call has left -/
theorem md_un.dp {ids : Nat → ClassId} {h h' : rl_H} {m : Nat} {T : md_T} {fu fu' : Int32} {k k' : Nat} {S : md_A} {z : sh_S} (H : md_un ids h m T fu k S z) {T' : md_T} (q : mq ids h h' m T' fu' k') (e1 : T'.2.1 = T.2.1) (e2 : T'.2.2.1 = T.2.2.1) (e3 : T'.2.2.2.1 = T.2.2.2.1) (e4 : T'.2.2.2.2.1 = T.2.2.2.2.1) (e5 : ∃ w : Nat, w ≤ 6 ∧ T'.2.2.2.2.2.1 = nI w) : md_un ids h' m T' fu' k' S z := by
  obtain ⟨u1, u2, u3, u4, u5, u6, u7, u8, u9, u10, u11⟩ := H
  exact ⟨q.rf, q.sa u2, by rw [e1]; exact u3, u4, by rw [e2]; exact u5, by rw [e4]; exact u6, u7, by rw [e3]; exact u8, u9, u10, e5⟩
theorem mq.fr {ids : Nat → ClassId} {h h' : rl_H} {m : Nat} {T : md_T} {fu : Int32} {k : Nat} (H : mq ids h h' m T fu k) : rl_fr h h' m (m + 23) := fun q hq => H.2.2.2 q (by omega) (by omega)
section RLV8
variable {X : rl_X} {E : rl_E} {cc : ByteArray} {own : String} {BW Ns : List Cond} {pc : Nat} {lo : List (Option Value)} {h : rl_H} {n ce sl : Nat}
theorem o_callV8 {bytes : ByteArray} {maxL idx b ci N : Nat} {C : String} {T : u_T} {fs rest : List Value} {a1 a2 a3 a4 a5 a6 a7 a8 : Value} {ret' : Option FieldType} {rm' : Room} {y' : MethodName} {Post' : Option Value → rl_H → Nat → Prop} (hC : rl_C X E cc own BW Ns) (hG : ∀ w ∈ BW, goodWord w = true) (hN : ∀ w ∈ Ns, rl_nw w = true) (hml : X.2.1.2.2.2.2.maxLocals = lo.length) (hY : rl_Y BW y' bytes maxL ret' 8) (h1 : Cond.instanceMethod y' ∈ BW) (h2 : Cond.selects y'.cls y' y' ∈ BW) (hl : rl_M X own idx y') (hM : rl_Met X.1.2.1 E BW Ns y' bytes maxL ret' rm' (.ref b :: [a1, a2, a3, a4, a5, a6, a7, a8]) h n Post') (hb : h b = some (.inr (ci, fs))) (hc : E.2.1[ci]? = some (C, T, N)) (hCy : C = y'.cls) (hst : (rest.map fun v => v.category).sum ≤ 8) (hr1 : rm'.frames + 1 ≤ X.1.2.2.2.1.frames) (hr2 : 8 + (maxL + 11) + rm'.locals ≤ X.1.2.2.2.1.locals) (hr3 : ce + rm'.cells ≤ X.1.2.2.2.1.cells) (hr4 : sl + rm'.slots ≤ X.1.2.2.2.1.slots) (hd : decode cc pc = .ok (.invokevirtual idx, 3)) (kk : ∀ (v : Option Value) (h' : rl_H) (n' : Nat), Post' v h' n' → rl_G X E (pc + 3) lo (v.toList ++ rest) h' n' (ce + rm'.cells) (sl + rm'.slots)) : rl_G X E pc lo (a8 :: a7 :: a6 :: a5 :: a4 :: a3 :: a2 :: a1 :: .ref b :: rest) h n ce sl := o_callV (As := [a1, a2, a3, a4, a5, a6, a7, a8]) (nL' := 0) hC hG hN hml hY h1 h2 hl hM hb hc hCy hst hr1 hr2 hr3 hr4 hd kk
end RLV8

set_option maxHeartbeats 4000000 in
set_option maxRecDepth 100000 in
theorem cm_X8_make (l : Launch) (D : va_G) (ids : Nat → ClassId) (H0 : Heap) (h : rl_H) (n : Nat) (m : Nat) (T : md_T) (fu : Int32) (k : Nat) (S : md_A) (a rr : Nat) (hq : mq ids h h m T fu k) (hs : md_sa ids h m S) (ha : a < 16) (hv : md_nv S a) (hrr : T.2.2.1 = nI rr) (hr36 : rr ≤ 36) : rl_Met l (rl_e D ids H0) rl_BW rl_Ns yX8_make cX8_make 4 none ({ frames := 6, cells := 0, slots := 0, locals := 155 }) [.ref m, .int (nI a)] h n (fun v h' n' => v = none ∧ n' = n ∧ ∃ (fu' : Int32) (k' : Nat), mq ids h h' m T fu' k') := by
  obtain ⟨g0, gk, ⟨⟨cl, g12⟩, ⟨tu, g13, b13⟩, ⟨im, g14⟩, ⟨te, g15, b15⟩, ⟨ne, g16⟩, ⟨la, g17⟩, ⟨hn, g18⟩, ⟨hl, g19⟩, ⟨tp, g20⟩, ⟨gr, g21, b21⟩, ⟨it, g22⟩⟩, gf⟩ := id hq
  obtain ⟨a1, a2, a3, a4, a5, a6, a7, a8, a9, a10, a11⟩ := id hs
  obtain ⟨op, w, h1, h2, h3, h4, h5, h6, h7, h8, h9, h10⟩ := hv
  refine rl_Met.of (by decide +kernel) (Nat.le_of_ble_eq_true rfl) ?_
  intro X hC hB
  show rl_G X (rl_e D ids H0) 0 [some (.ref m), some (.int (nI a)), none, none] [] h n 0 0
  refine o_aload_n hC dX8_make_0 (by rfl) ?_
  refine o_getf hC (fX8_46 hC rfl) dX8_make_1 (by repeat (first | with_reducible assumption | (rw [rl_u_s]; done) | (rw [rl_u_s]; rfl) | rw [rl_u_n (by first | with_reducible assumption | omega)])) (by first | rfl | with_reducible assumption) ?_
  refine o_iload_n hC dX8_make_4 (by rfl) ?_
  refine o_iconst (v := nI 0) hC dX8_make_5 (by decide +kernel) ?_
  refine o_iastN (t0 := 0) hC rfl dX8_make_6 (by repeat (first | with_reducible assumption | (rw [rl_u_s]; done) | (rw [rl_u_s]; rfl) | rw [rl_u_n (by first | with_reducible assumption | omega)])) (by omega) (by decide) ?_
  refine o_aload_n hC dX8_make_7 (by rfl) ?_
  refine o_getf hC (fX8_22 hC rfl) dX8_make_8 (by repeat (first | with_reducible assumption | (rw [rl_u_s]; done) | (rw [rl_u_s]; rfl) | rw [rl_u_n (by first | with_reducible assumption | omega)])) (by first | rfl | with_reducible assumption) ?_
  refine o_iload_n hC dX8_make_11 (by rfl) ?_
  refine o_ialdN (t0 := 0) hC rfl dX8_make_12 (by repeat (first | with_reducible assumption | (rw [rl_u_s]; done) | (rw [rl_u_s]; rfl) | rw [rl_u_n (by first | with_reducible assumption | omega)])) (by omega) (by decide) ?_
  refine o_istore_n hC dX8_make_13 (Nat.le_of_ble_eq_true rfl) ?_
  refine o_aload_n hC dX8_make_14 (by rfl) ?_
  refine o_getf hC (fX8_25 hC rfl) dX8_make_15 (by repeat (first | with_reducible assumption | (rw [rl_u_s]; done) | (rw [rl_u_s]; rfl) | rw [rl_u_n (by first | with_reducible assumption | omega)])) (by first | rfl | with_reducible assumption) ?_
  refine o_iload_n hC dX8_make_18 (by rfl) ?_
  refine o_ialdN (t0 := 0) hC rfl dX8_make_19 (by repeat (first | with_reducible assumption | (rw [rl_u_s]; done) | (rw [rl_u_s]; rfl) | rw [rl_u_n (by first | with_reducible assumption | omega)])) (by omega) (by decide) ?_
  refine o_istore_n hC dX8_make_20 (Nat.le_of_ble_eq_true rfl) ?_
  refine o_aload_n hC dX8_make_21 (by rfl) ?_
  refine o_getf hC (fX8_19 hC rfl) dX8_make_22 (by repeat (first | with_reducible assumption | (rw [rl_u_s]; done) | (rw [rl_u_s]; rfl) | rw [rl_u_n (by first | with_reducible assumption | omega)])) (by first | rfl | with_reducible assumption) ?_
  refine o_iload_n hC dX8_make_25 (by rfl) ?_
  refine o_ialdN (t0 := 0) hC rfl dX8_make_26 (by repeat (first | with_reducible assumption | (rw [rl_u_s]; done) | (rw [rl_u_s]; rfl) | rw [rl_u_n (by first | with_reducible assumption | omega)])) (by omega) (by decide) ?_
  have hq1 := hq.s13 (upd tu a (nI 0)) (md_bd b13 ⟨0, by decide, rfl⟩)
  have hs1 := hq1.sa hs
  rw [h4]
  rcases (show op = 0 ∨ op = 1 ∨ op = 2 ∨ op = 3 ∨ op = 4 ∨ op = 5 ∨ op = 6 by omega) with rfl | rfl | rfl | rfl | rfl | rfl | rfl
  · refine o_tableIn (off := 37) (tgt := 64) hC dX8_make_27 (by decide +kernel) (by decide +kernel) (by decide +kernel) (by decide) ?_
    refine o_aload_n hC dX8_make_64 (by rfl) ?_
    refine o_iload_n hC dX8_make_65 (by rfl) ?_
    refine o_iload_n hC dX8_make_66 (by rfl) ?_
    refine o_callV2 hC rl_BW_good rl_Ns_nw (by exact hB.2.2.2.2.2) YX8_makeScan IX8_makeScan VX8_makeScan (mX8_157 hC) (by rw [hB.1]; exact cm_X8_makeScan l D ids H0 _ _ m T _ _ S a w rr _ hq1.rf hs1 ha h5 h3 hrr hr36) (by exact hq1.1) rfl rfl (Nat.le_of_ble_eq_true rfl) (by rw [hB.2.1]; first | exact Nat.le_of_ble_eq_true rfl | (dsimp only; omega)) (by rw [hB.2.1]; first | exact Nat.le_of_ble_eq_true rfl | (dsimp only; omega)) (by rw [hB.2.1]; first | exact Nat.le_of_ble_eq_true rfl | (dsimp only; omega)) (by rw [hB.2.1]; first | exact Nat.le_of_ble_eq_true rfl | (dsimp only; omega)) dX8_make_67 (fun v h_67 n_67 p_67 => ?_)
    obtain ⟨rfl, rfl, f67, k67, q67⟩ := p_67
    try dsimp only [Option.toList, List.cons_append, List.nil_append]
    refine o_goto (tgt := 132) hC dX8_make_70 (by decide) ?_
    refine o_vret hC hB dX8_make_132 (Nat.le_of_ble_eq_true rfl) (Nat.le_of_ble_eq_true rfl) ?_
    exact ⟨rfl, rfl, _, _, hq1.tr q67⟩
  · obtain ⟨b, wb, i1, i2, i3, i4, i5⟩ := h6 (by decide)
    rw [i3]
    have b16 : b < 16 := by omega
    obtain ⟨ca, c1, c2⟩ := h7 (by decide)
    refine o_tableIn (off := 46) (tgt := 73) hC dX8_make_27 (by decide +kernel) (by decide +kernel) (by decide +kernel) (by decide) ?_
    refine o_aload_n hC dX8_make_73 (by rfl) ?_
    refine o_iload_n hC dX8_make_74 (by rfl) ?_
    refine o_iload_n hC dX8_make_75 (by rfl) ?_
    refine o_callV2 hC rl_BW_good rl_Ns_nw (by exact hB.2.2.2.2.2) YX8_makePick IX8_makePick VX8_makePick (mX8_160 hC) (by rw [hB.1]; exact cm_X8_makePick l D ids H0 _ _ m T _ _ S a b w wb ca hq1.rf hs1 ha b16 h5 h3 i4 i2 c2 c1 (h8 (by decide))) (by exact hq1.1) rfl rfl (Nat.le_of_ble_eq_true rfl) (by rw [hB.2.1]; first | exact Nat.le_of_ble_eq_true rfl | (dsimp only; omega)) (by rw [hB.2.1]; first | exact Nat.le_of_ble_eq_true rfl | (dsimp only; omega)) (by rw [hB.2.1]; first | exact Nat.le_of_ble_eq_true rfl | (dsimp only; omega)) (by rw [hB.2.1]; first | exact Nat.le_of_ble_eq_true rfl | (dsimp only; omega)) dX8_make_76 (fun v h_76 n_76 p_76 => ?_)
    obtain ⟨rfl, rfl, f76, k76, q76⟩ := p_76
    try dsimp only [Option.toList, List.cons_append, List.nil_append]
    refine o_goto (tgt := 132) hC dX8_make_79 (by decide) ?_
    refine o_vret hC hB dX8_make_132 (Nat.le_of_ble_eq_true rfl) (Nat.le_of_ble_eq_true rfl) ?_
    exact ⟨rfl, rfl, _, _, hq1.tr q76⟩
  · obtain ⟨b, wb, i1, i2, i3, i4, i5⟩ := h6 (by decide)
    rw [i3]
    have b16 : b < 16 := by omega
    obtain ⟨N, n1, n2, n3⟩ := h9 (by decide)
    refine o_tableIn (off := 55) (tgt := 82) hC dX8_make_27 (by decide +kernel) (by decide +kernel) (by decide +kernel) (by decide) ?_
    refine o_aload_n hC dX8_make_82 (by rfl) ?_
    refine o_iload_n hC dX8_make_83 (by rfl) ?_
    refine o_iload_n hC dX8_make_84 (by rfl) ?_
    refine o_callV2 hC rl_BW_good rl_Ns_nw (by exact hB.2.2.2.2.2) YX8_makeCols IX8_makeCols VX8_makeCols (mX8_163 hC) (by rw [hB.1]; exact cm_X8_makeCols l D ids H0 _ _ m T _ _ S a b w wb N hq1.rf hs1 ha b16 h5 h3 i4 i2 n2 n1 n3) (by exact hq1.1) rfl rfl (Nat.le_of_ble_eq_true rfl) (by rw [hB.2.1]; first | exact Nat.le_of_ble_eq_true rfl | (dsimp only; omega)) (by rw [hB.2.1]; first | exact Nat.le_of_ble_eq_true rfl | (dsimp only; omega)) (by rw [hB.2.1]; first | exact Nat.le_of_ble_eq_true rfl | (dsimp only; omega)) (by rw [hB.2.1]; first | exact Nat.le_of_ble_eq_true rfl | (dsimp only; omega)) dX8_make_85 (fun v h_85 n_85 p_85 => ?_)
    obtain ⟨rfl, rfl, f85, k85, q85⟩ := p_85
    try dsimp only [Option.toList, List.cons_append, List.nil_append]
    refine o_goto (tgt := 132) hC dX8_make_88 (by decide) ?_
    refine o_vret hC hB dX8_make_132 (Nat.le_of_ble_eq_true rfl) (Nat.le_of_ble_eq_true rfl) ?_
    exact ⟨rfl, rfl, _, _, hq1.tr q85⟩
  · obtain ⟨b, wb, i1, i2, i3, i4, i5⟩ := h6 (by decide)
    rw [i3]
    have b16 : b < 16 := by omega
    obtain ⟨d, wd, j1, j2, j3, j4, j5⟩ := i5 (by decide)
    rw [j3]
    have d16 : d < 16 := by omega
    obtain ⟨ca, c1, c2⟩ := h7 (by decide)
    obtain ⟨cb, e1, e2⟩ := h10 (by decide)
    refine o_tableIn (off := 64) (tgt := 91) hC dX8_make_27 (by decide +kernel) (by decide +kernel) (by decide +kernel) (by decide) ?_
    refine o_aload_n hC dX8_make_91 (by rfl) ?_
    refine o_iload_n hC dX8_make_92 (by rfl) ?_
    refine o_iload_n hC dX8_make_93 (by rfl) ?_
    refine o_iload_n hC dX8_make_94 (by rfl) ?_
    refine o_callV3 hC rl_BW_good rl_Ns_nw (by exact hB.2.2.2.2.2) YX8_makeJoin IX8_makeJoin VX8_makeJoin (mX8_166 hC) (by rw [hB.1]; exact cm_X8_makeJoin l D ids H0 _ _ m T _ _ S a b d w wb wd ca cb hq1.rf hs1 ha b16 h5 h3 i4 i2 d16 j4 j2 c2 c1 e2 e1 (j5 (by decide))) (by exact hq1.1) rfl rfl (Nat.le_of_ble_eq_true rfl) (by rw [hB.2.1]; first | exact Nat.le_of_ble_eq_true rfl | (dsimp only; omega)) (by rw [hB.2.1]; first | exact Nat.le_of_ble_eq_true rfl | (dsimp only; omega)) (by rw [hB.2.1]; first | exact Nat.le_of_ble_eq_true rfl | (dsimp only; omega)) (by rw [hB.2.1]; first | exact Nat.le_of_ble_eq_true rfl | (dsimp only; omega)) dX8_make_95 (fun v h_95 n_95 p_95 => ?_)
    obtain ⟨rfl, rfl, f95, k95, q95⟩ := p_95
    try dsimp only [Option.toList, List.cons_append, List.nil_append]
    refine o_goto (tgt := 132) hC dX8_make_98 (by decide) ?_
    refine o_vret hC hB dX8_make_132 (Nat.le_of_ble_eq_true rfl) (Nat.le_of_ble_eq_true rfl) ?_
    exact ⟨rfl, rfl, _, _, hq1.tr q95⟩
  · obtain ⟨b, wb, i1, i2, i3, i4, i5⟩ := h6 (by decide)
    rw [i3]
    have b16 : b < 16 := by omega
    obtain ⟨d, wd, j1, j2, j3, j4, j5⟩ := i5 (by decide)
    rw [j3]
    have d16 : d < 16 := by omega
    refine o_tableIn (off := 74) (tgt := 101) hC dX8_make_27 (by decide +kernel) (by decide +kernel) (by decide +kernel) (by decide) ?_
    refine o_aload_n hC dX8_make_101 (by rfl) ?_
    refine o_iload_n hC dX8_make_102 (by rfl) ?_
    refine o_iload_n hC dX8_make_103 (by rfl) ?_
    refine o_callV2 hC rl_BW_good rl_Ns_nw (by exact hB.2.2.2.2.2) YX8_makeUnite IX8_makeUnite VX8_makeUnite (mX8_169 hC) (by rw [hB.1]; exact cm_X8_makeUnite l D ids H0 _ _ m T _ _ S a b w wb hq1.rf hs1 ha b16 h5 h3 i4 i2) (by exact hq1.1) rfl rfl (Nat.le_of_ble_eq_true rfl) (by rw [hB.2.1]; first | exact Nat.le_of_ble_eq_true rfl | (dsimp only; omega)) (by rw [hB.2.1]; first | exact Nat.le_of_ble_eq_true rfl | (dsimp only; omega)) (by rw [hB.2.1]; first | exact Nat.le_of_ble_eq_true rfl | (dsimp only; omega)) (by rw [hB.2.1]; first | exact Nat.le_of_ble_eq_true rfl | (dsimp only; omega)) dX8_make_104 (fun v h_104 n_104 p_104 => ?_)
    obtain ⟨rfl, rfl, f104, k104, q104⟩ := p_104
    have hq2 := hq1.tr q104
    have hs2 := hq2.sa hs
    try dsimp only [Option.toList, List.cons_append, List.nil_append]
    refine o_aload_n hC dX8_make_107 (by rfl) ?_
    refine o_iload_n hC dX8_make_108 (by rfl) ?_
    refine o_iload_n hC dX8_make_109 (by rfl) ?_
    refine o_callV2 hC rl_BW_good rl_Ns_nw (by exact hB.2.2.2.2.2) YX8_makeUnite IX8_makeUnite VX8_makeUnite (mX8_169 hC) (by rw [hB.1]; exact cm_X8_makeUnite l D ids H0 _ _ m T _ _ S a d w wd hq2.rf hs2 ha d16 h5 h3 j4 j2) (by exact hq2.1) rfl rfl (Nat.le_of_ble_eq_true rfl) (by rw [hB.2.1]; first | exact Nat.le_of_ble_eq_true rfl | (dsimp only; omega)) (by rw [hB.2.1]; first | exact Nat.le_of_ble_eq_true rfl | (dsimp only; omega)) (by rw [hB.2.1]; first | exact Nat.le_of_ble_eq_true rfl | (dsimp only; omega)) (by rw [hB.2.1]; first | exact Nat.le_of_ble_eq_true rfl | (dsimp only; omega)) dX8_make_110 (fun v h_110 n_110 p_110 => ?_)
    obtain ⟨rfl, rfl, f110, k110, q110⟩ := p_110
    try dsimp only [Option.toList, List.cons_append, List.nil_append]
    refine o_goto (tgt := 132) hC dX8_make_113 (by decide) ?_
    refine o_vret hC hB dX8_make_132 (Nat.le_of_ble_eq_true rfl) (Nat.le_of_ble_eq_true rfl) ?_
    exact ⟨rfl, rfl, _, _, hq2.tr q110⟩
  · obtain ⟨b, wb, i1, i2, i3, i4, i5⟩ := h6 (by decide)
    rw [i3]
    have b16 : b < 16 := by omega
    obtain ⟨d, wd, j1, j2, j3, j4, j5⟩ := i5 (by decide)
    rw [j3]
    have d16 : d < 16 := by omega
    refine o_tableIn (off := 89) (tgt := 116) hC dX8_make_27 (by decide +kernel) (by decide +kernel) (by decide +kernel) (by decide) ?_
    refine o_aload_n hC dX8_make_116 (by rfl) ?_
    refine o_iload_n hC dX8_make_117 (by rfl) ?_
    refine o_iload_n hC dX8_make_118 (by rfl) ?_
    refine o_iload_n hC dX8_make_119 (by rfl) ?_
    refine o_callV3 hC rl_BW_good rl_Ns_nw (by exact hB.2.2.2.2.2) YX8_makeMinus IX8_makeMinus VX8_makeMinus (mX8_172 hC) (by rw [hB.1]; exact cm_X8_makeMinus l D ids H0 _ _ m T _ _ S a b d w wb wd hq1.rf hs1 ha b16 h5 h3 i4 i2 d16 j4 j2) (by exact hq1.1) rfl rfl (Nat.le_of_ble_eq_true rfl) (by rw [hB.2.1]; first | exact Nat.le_of_ble_eq_true rfl | (dsimp only; omega)) (by rw [hB.2.1]; first | exact Nat.le_of_ble_eq_true rfl | (dsimp only; omega)) (by rw [hB.2.1]; first | exact Nat.le_of_ble_eq_true rfl | (dsimp only; omega)) (by rw [hB.2.1]; first | exact Nat.le_of_ble_eq_true rfl | (dsimp only; omega)) dX8_make_120 (fun v h_120 n_120 p_120 => ?_)
    obtain ⟨rfl, rfl, f120, k120, q120⟩ := p_120
    try dsimp only [Option.toList, List.cons_append, List.nil_append]
    refine o_goto (tgt := 132) hC dX8_make_123 (by decide) ?_
    refine o_vret hC hB dX8_make_132 (Nat.le_of_ble_eq_true rfl) (Nat.le_of_ble_eq_true rfl) ?_
    exact ⟨rfl, rfl, _, _, hq1.tr q120⟩
  · obtain ⟨b, wb, i1, i2, i3, i4, i5⟩ := h6 (by decide)
    rw [i3]
    have b16 : b < 16 := by omega
    obtain ⟨ca, c1, c2⟩ := h7 (by decide)
    obtain ⟨cb, e1, e2⟩ := h10 (by decide)
    refine o_tableOut (tgt := 126) hC dX8_make_27 (by decide +kernel) (by decide) ?_
    refine o_aload_n hC dX8_make_126 (by rfl) ?_
    refine o_iload_n hC dX8_make_127 (by rfl) ?_
    refine o_iload_n hC dX8_make_128 (by rfl) ?_
    refine o_callV2 hC rl_BW_good rl_Ns_nw (by exact hB.2.2.2.2.2) YX8_makeFold IX8_makeFold VX8_makeFold (mX8_175 hC) (by rw [hB.1]; exact cm_X8_makeFold l D ids H0 _ _ m T _ _ S a b w wb ca cb hq1.rf hs1 ha b16 h5 h3 i4 i2 c2 c1 e2 e1) (by exact hq1.1) rfl rfl (Nat.le_of_ble_eq_true rfl) (by rw [hB.2.1]; first | exact Nat.le_of_ble_eq_true rfl | (dsimp only; omega)) (by rw [hB.2.1]; first | exact Nat.le_of_ble_eq_true rfl | (dsimp only; omega)) (by rw [hB.2.1]; first | exact Nat.le_of_ble_eq_true rfl | (dsimp only; omega)) (by rw [hB.2.1]; first | exact Nat.le_of_ble_eq_true rfl | (dsimp only; omega)) dX8_make_129 (fun v h_129 n_129 p_129 => ?_)
    obtain ⟨rfl, rfl, f129, k129, q129⟩ := p_129
    try dsimp only [Option.toList, List.cons_append, List.nil_append]
    refine o_vret hC hB dX8_make_132 (Nat.le_of_ble_eq_true rfl) (Nat.le_of_ble_eq_true rfl) ?_
    exact ⟨rfl, rfl, _, _, hq1.tr q129⟩
end
section
/-! THE MODEL: run -/

set_option maxHeartbeats 4000000 in
set_option maxRecDepth 100000 in
theorem cm_X8_run (l : Launch) (D : va_G) (ids : Nat → ClassId) (H0 : Heap) (h : rl_H) (n : Nat) (m : Nat) (T : md_T) (fu : Int32) (k : Nat) (S : md_A) (z : sh_S) (q : Int32) (hu : md_un ids h m T fu k S z) : rl_Met l (rl_e D ids H0) rl_BW rl_Ns yX8_run cX8_run 4 (some .int) ({ frames := 7, cells := 0, slots := 0, locals := 178 }) [.ref m, .int q] h n (fun v h' n' => ∃ r : Int32, v = some (.int r) ∧ n' = n ∧ md_ok ids h' m z ∧ rl_fr h h' m (m + 23)) := by
  obtain ⟨hq, hs, ⟨hsc, hsc4⟩, hwf, ⟨hrr, hr36⟩, ⟨hnc, hn16⟩, hnw, hpr, hnv, hwv, wrc, hrc6, hrc⟩ := id hu
  have hq0 := hq.ob (nI 0, T.2) fu k hq.2.1
  have g0 := hq.1
  refine rl_Met.of (by decide +kernel) (Nat.le_of_ble_eq_true rfl) ?_
  intro X hC hB
  show rl_G X (rl_e D ids H0) 0 [some (.ref m), some (.int q), none, none] [] h n 0 0
  refine o_aload_n hC dX8_run_0 (by rfl) ?_
  refine o_iconst (v := nI 0) hC dX8_run_1 (by decide +kernel) ?_
  refine o_putf hC (fX8_78 hC rfl) (fwX8 rfl rfl rfl (Or.inl rfl)) dX8_run_2 (by repeat (first | with_reducible assumption | (rw [rl_u_s]; done) | (rw [rl_u_s]; rfl) | rw [rl_u_n (by first | with_reducible assumption | omega)])) (Nat.le_of_ble_eq_true rfl) ?_
  try simp only [List.set_cons_zero, List.set_cons_succ]
  refine o_aload_n hC dX8_run_5 (by rfl) ?_
  refine o_iload_n hC dX8_run_6 (by rfl) ?_
  refine o_callV1 hC rl_BW_good rl_Ns_nw (by exact hB.2.2.2.2.2) YX8_isNode IX8_isNode VX8_isNode (mX8_126 hC) (by rw [hB.1]; exact ct_X8_isNode l D ids H0 _ _ m _ _ _ (by repeat (first | with_reducible assumption | (rw [rl_u_s]; done) | (rw [rl_u_s]; rfl) | rw [rl_u_n (by first | with_reducible assumption | omega)])) rfl) (by repeat (first | with_reducible assumption | (rw [rl_u_s]; done) | (rw [rl_u_s]; rfl) | rw [rl_u_n (by first | with_reducible assumption | omega)])) rfl rfl (Nat.le_of_ble_eq_true rfl) (by rw [hB.2.1]; first | exact Nat.le_of_ble_eq_true rfl | (dsimp only; omega)) (by rw [hB.2.1]; first | exact Nat.le_of_ble_eq_true rfl | (dsimp only; omega)) (by rw [hB.2.1]; first | exact Nat.le_of_ble_eq_true rfl | (dsimp only; omega)) (by rw [hB.2.1]; first | exact Nat.le_of_ble_eq_true rfl | (dsimp only; omega)) dX8_run_7 (fun v h_7 n_7 p_7 => ?_)
  obtain ⟨rfl, rfl, rfl⟩ := p_7
  try dsimp only [Option.toList, List.cons_append, List.nil_append]
  by_cases hr : q < 0 ∨ T.2.2.2.2.1 ≤ q
  · rw [if_pos hr]
    refine o_if_ne (tgt := 15) hC dX8_run_10 (by decide) (fun c_10 => ?_) (fun c_10 => ?_)
    · exact absurd rfl c_10
    · refine o_iconst (v := (-1 : Int32)) hC dX8_run_13 (by decide +kernel) ?_
      refine o_iret hC hB dX8_run_14 (Nat.le_of_ble_eq_true rfl) (Nat.le_of_ble_eq_true rfl) ?_
      exact ⟨_, rfl, rfl, ⟨_, _, _, S, hu.dp (hq0) rfl rfl rfl rfl ⟨wrc, hrc6, hrc⟩⟩, (hq0).fr⟩
  · rw [if_neg hr]
    obtain ⟨j, hj, rfl⟩ := nI_of_lt (k := z.2.2.2.1) (by omega) (fun e => hr (Or.inl e)) (fun e => hr (Or.inr (by rw [hnc]; exact e)))
    obtain ⟨op, w, -, hw1, hw6, -, hwj, -⟩ := hnv j hj
    refine o_if_ne (tgt := 15) hC dX8_run_10 (by decide) (fun c_10 => ?_) (fun c_10 => ?_)
    · refine o_aload_n hC dX8_run_15 (by rfl) ?_
      refine o_iconst (v := nI 0) hC dX8_run_16 (by decide +kernel) ?_
      refine o_putf hC (fX8_91 hC rfl) (fwX8 rfl rfl rfl (Or.inl rfl)) dX8_run_17 (by repeat (first | with_reducible assumption | (rw [rl_u_s]; done) | (rw [rl_u_s]; rfl) | rw [rl_u_n (by first | with_reducible assumption | omega)])) (Nat.le_of_ble_eq_true rfl) ?_
      try simp only [List.set_cons_zero, List.set_cons_succ]
      refine o_iconst (v := nI 0) hC dX8_run_20 (by decide +kernel) ?_
      refine o_istore_n hC dX8_run_21 (Nat.le_of_ble_eq_true rfl) ?_
      have loop4 : ∀ (mm t : Nat) (h1 : rl_H) (f1 : Int32) (k1 w : Nat) (o3 : Option Value), w ≤ 6 → t + mm = 80 → mq ids h h1 m (nI 0, T.2.1, T.2.2.1, T.2.2.2.1, T.2.2.2.2.1, nI w, T.2.2.2.2.2.2) f1 k1 → rl_G X (rl_e D ids H0) 201 [some (.ref m), some (.int (nI j)), some (.int (nI t)), o3] [] h1 n_7 0 0 := by
        intro mm
        induction mm with
        | zero =>
          intro t h1 f1 k1 w o3 hw6 hm hq1
          have hs1 := hq1.sa hs
          obtain ⟨g0, gk, ⟨⟨cl, g12⟩, ⟨tu, g13, b13⟩, ⟨im, g14⟩, ⟨te, g15, b15⟩, ⟨ne, g16⟩, ⟨la, g17⟩, ⟨hn, g18⟩, ⟨hl, g19⟩, ⟨tp, g20⟩, ⟨gr, g21, b21⟩, ⟨it, g22⟩⟩, gf⟩ := id hq1
          obtain ⟨a1, a2, a3, a4, a5, a6, a7, a8, a9, a10, a11⟩ := id hs1
          refine o_iload_n hC dX8_run_201 (by rfl) ?_
          refine o_aload_n hC dX8_run_202 (by rfl) ?_
          refine o_getf hC (fX8_46 hC rfl) dX8_run_203 (by repeat (first | with_reducible assumption | (rw [rl_u_s]; done) | (rw [rl_u_s]; rfl) | rw [rl_u_n (by first | with_reducible assumption | omega)])) (by first | rfl | with_reducible assumption) ?_
          refine o_iload_n hC dX8_run_206 (by rfl) ?_
          obtain ⟨t207, ht207, et207⟩ := b13 j (by omega)
          refine o_ialdN (t0 := 0) (k := j) hC rfl dX8_run_207 (by repeat (first | with_reducible assumption | (rw [rl_u_s]; done) | (rw [rl_u_s]; rfl) | rw [rl_u_n (by first | with_reducible assumption | omega)])) (by omega) (by decide) ?_
          rw [et207]
          refine o_icmp_ge (tgt := 268) hC dX8_run_208 (by decide) (fun c_208 => ?_) (fun c_208 => ?_)
          · refine o_aload_n hC dX8_run_268 (by rfl) ?_
            refine o_getf hC (fX8_46 hC rfl) dX8_run_269 (by repeat (first | with_reducible assumption | (rw [rl_u_s]; done) | (rw [rl_u_s]; rfl) | rw [rl_u_n (by first | with_reducible assumption | omega)])) (by first | rfl | with_reducible assumption) ?_
            refine o_iload_n hC dX8_run_272 (by rfl) ?_
            refine o_ialdN (t0 := 0) (k := j) hC rfl dX8_run_273 (by repeat (first | with_reducible assumption | (rw [rl_u_s]; done) | (rw [rl_u_s]; rfl) | rw [rl_u_n (by first | with_reducible assumption | omega)])) (by omega) (by decide) ?_
            rw [et207]
            refine o_iret hC hB dX8_run_274 (Nat.le_of_ble_eq_true rfl) (Nat.le_of_ble_eq_true rfl) ?_
            exact ⟨_, rfl, rfl, ⟨_, _, _, S, hu.dp (hq1) rfl rfl rfl rfl ⟨w, hw6, rfl⟩⟩, (hq1).fr⟩
          · exact absurd (nI_le (by omega) (by omega)) c_208
        | succ mm ih =>
          intro t h1 f1 k1 w o3 hw6 hm hq1
          have loop5 : ∀ (m2 c : Nat) (h2 : rl_H), c + m2 = 6 → mq ids h h2 m (nI 0, T.2.1, T.2.2.1, T.2.2.2.1, T.2.2.2.2.1, nI w, T.2.2.2.2.2.2) f1 k1 → rl_G X (rl_e D ids H0) 213 [some (.ref m), some (.int (nI j)), some (.int (nI t)), some (.int (nI c))] [] h2 n_7 0 0 := by
            intro m2
            induction m2 with
            | zero =>
              intro c h2 hm2 hq2
              obtain ⟨g0, gk, -, gf⟩ := id hq2
              refine o_iload_n hC dX8_run_213 (by rfl) ?_
              refine o_bipush (v := nI 6) hC dX8_run_214 (by decide +kernel) ?_
              refine o_icmp_ge (tgt := 247) hC dX8_run_216 (by decide) (fun c_216 => ?_) (fun c_216 => ?_)
              · refine o_aload_n hC dX8_run_247 (by rfl) ?_
                refine o_sipush (v := nI 1280) hC dX8_run_248 (by decide +kernel) ?_
                refine o_iload_n hC dX8_run_251 (by rfl) ?_
                refine o_iadd hC dX8_run_252 ?_
                try rw [nI_add]
                refine o_bipush (v := nI 80) hC dX8_run_253 (by decide +kernel) ?_
                refine o_iload_n hC dX8_run_255 (by rfl) ?_
                refine o_imul hC dX8_run_256 ?_
                try rw [nI_mul]
                refine o_iload_n hC dX8_run_257 (by rfl) ?_
                refine o_iadd hC dX8_run_258 ?_
                try rw [nI_add]
                refine o_callV2 hC rl_BW_good rl_Ns_nw (by exact hB.2.2.2.2.2) YX8_copy IX8_copy VX8_copy (mX8_153 hC) (by rw [hB.1]; exact cm_X8_copy l D ids H0 _ _ m _ _ _ (1280 + t) (80 * j + t) hq2.rf (by omega) (by omega)) (by exact hq2.1) rfl rfl (Nat.le_of_ble_eq_true rfl) (by rw [hB.2.1]; first | exact Nat.le_of_ble_eq_true rfl | (dsimp only; omega)) (by rw [hB.2.1]; first | exact Nat.le_of_ble_eq_true rfl | (dsimp only; omega)) (by rw [hB.2.1]; first | exact Nat.le_of_ble_eq_true rfl | (dsimp only; omega)) (by rw [hB.2.1]; first | exact Nat.le_of_ble_eq_true rfl | (dsimp only; omega)) dX8_run_259 (fun v h_259 n_259 p_259 => ?_)
                obtain ⟨rfl, rfl, q259, f259⟩ := p_259
                have gb259 := q259.1
                try dsimp only [Option.toList, List.cons_append, List.nil_append]
                refine o_iinc hC dX8_run_262 (by rfl) (rl_inc _) (Nat.le_of_ble_eq_true rfl) ?_
                refine o_goto (tgt := 201) hC dX8_run_265 (by decide) ?_
                exact ih (t + 1) _ _ _ w _ hw6 (by omega) (hq2.tr q259)
              · exact absurd (nI_le (by omega) (by omega)) c_216
            | succ m2 ih2 =>
              intro c h2 hm2 hq2
              obtain ⟨g0, gk, ⟨⟨cl, g12⟩, ⟨tu, g13, b13⟩, ⟨im, g14⟩, ⟨te, g15, b15⟩, ⟨ne, g16⟩, ⟨la, g17⟩, ⟨hn, g18⟩, ⟨hl, g19⟩, ⟨tp, g20⟩, ⟨gr, g21, b21⟩, ⟨it, g22⟩⟩, gf⟩ := id hq2
              refine o_iload_n hC dX8_run_213 (by rfl) ?_
              refine o_bipush (v := nI 6) hC dX8_run_214 (by decide +kernel) ?_
              refine o_icmp_ge (tgt := 247) hC dX8_run_216 (by decide) (fun c_216 => ?_) (fun c_216 => ?_)
              · exact absurd c_216 (nI_ge (by omega) (by omega))
              · refine o_aload_n hC dX8_run_219 (by rfl) ?_
                refine o_getf hC (fX8_43 hC rfl) dX8_run_220 (by repeat (first | with_reducible assumption | (rw [rl_u_s]; done) | (rw [rl_u_s]; rfl) | rw [rl_u_n (by first | with_reducible assumption | omega)])) (by first | rfl | with_reducible assumption) ?_
                refine o_sipush (v := nI 1280) hC dX8_run_223 (by decide +kernel) ?_
                refine o_iload_n hC dX8_run_226 (by rfl) ?_
                refine o_iadd hC dX8_run_227 ?_
                try rw [nI_add]
                refine o_bipush (v := nI 6) hC dX8_run_228 (by decide +kernel) ?_
                refine o_imul hC dX8_run_230 ?_
                try rw [nI_mul]
                refine o_iload_n hC dX8_run_231 (by rfl) ?_
                refine o_iadd hC dX8_run_232 ?_
                try rw [nI_add]
                refine o_aload_n hC dX8_run_233 (by rfl) ?_
                refine o_iload_n hC dX8_run_234 (by rfl) ?_
                refine o_iload_n hC dX8_run_235 (by rfl) ?_
                refine o_iload_n hC dX8_run_236 (by rfl) ?_
                refine o_callV3 hC rl_BW_good rl_Ns_nw (by exact hB.2.2.2.2.2) YX8_cellAt IX8_cellAt VX8_cellAt (mX8_138 hC) (by rw [hB.1]; exact cm_X8_cellAt l D ids H0 _ _ m _ _ _ j t c hq2.rf (by omega)) (by exact hq2.rf.1) rfl rfl (Nat.le_of_ble_eq_true rfl) (by rw [hB.2.1]; first | exact Nat.le_of_ble_eq_true rfl | (dsimp only; omega)) (by rw [hB.2.1]; first | exact Nat.le_of_ble_eq_true rfl | (dsimp only; omega)) (by rw [hB.2.1]; first | exact Nat.le_of_ble_eq_true rfl | (dsimp only; omega)) (by rw [hB.2.1]; first | exact Nat.le_of_ble_eq_true rfl | (dsimp only; omega)) dX8_run_237 (fun v h_237 n_237 p_237 => ?_)
                obtain ⟨r237, rfl, rfl, rfl⟩ := p_237
                try dsimp only [Option.toList, List.cons_append, List.nil_append]
                refine o_iastN (t0 := 0) hC rfl dX8_run_240 (by repeat (first | with_reducible assumption | (rw [rl_u_s]; done) | (rw [rl_u_s]; rfl) | rw [rl_u_n (by first | with_reducible assumption | omega)])) (by omega) (by decide) ?_
                refine o_iinc hC dX8_run_241 (by rfl) (rl_inc _) (Nat.le_of_ble_eq_true rfl) ?_
                refine o_goto (tgt := 213) hC dX8_run_244 (by decide) ?_
                exact ih2 (c + 1) _ (by omega) (hq2.s12 _)
          have hs1 := hq1.sa hs
          obtain ⟨g0, gk, ⟨⟨cl, g12⟩, ⟨tu, g13, b13⟩, ⟨im, g14⟩, ⟨te, g15, b15⟩, ⟨ne, g16⟩, ⟨la, g17⟩, ⟨hn, g18⟩, ⟨hl, g19⟩, ⟨tp, g20⟩, ⟨gr, g21, b21⟩, ⟨it, g22⟩⟩, gf⟩ := id hq1
          obtain ⟨a1, a2, a3, a4, a5, a6, a7, a8, a9, a10, a11⟩ := id hs1
          refine o_iload_n hC dX8_run_201 (by rfl) ?_
          refine o_aload_n hC dX8_run_202 (by rfl) ?_
          refine o_getf hC (fX8_46 hC rfl) dX8_run_203 (by repeat (first | with_reducible assumption | (rw [rl_u_s]; done) | (rw [rl_u_s]; rfl) | rw [rl_u_n (by first | with_reducible assumption | omega)])) (by first | rfl | with_reducible assumption) ?_
          refine o_iload_n hC dX8_run_206 (by rfl) ?_
          obtain ⟨t207, ht207, et207⟩ := b13 j (by omega)
          refine o_ialdN (t0 := 0) (k := j) hC rfl dX8_run_207 (by repeat (first | with_reducible assumption | (rw [rl_u_s]; done) | (rw [rl_u_s]; rfl) | rw [rl_u_n (by first | with_reducible assumption | omega)])) (by omega) (by decide) ?_
          rw [et207]
          refine o_icmp_ge (tgt := 268) hC dX8_run_208 (by decide) (fun c_208 => ?_) (fun c_208 => ?_)
          · refine o_aload_n hC dX8_run_268 (by rfl) ?_
            refine o_getf hC (fX8_46 hC rfl) dX8_run_269 (by repeat (first | with_reducible assumption | (rw [rl_u_s]; done) | (rw [rl_u_s]; rfl) | rw [rl_u_n (by first | with_reducible assumption | omega)])) (by first | rfl | with_reducible assumption) ?_
            refine o_iload_n hC dX8_run_272 (by rfl) ?_
            refine o_ialdN (t0 := 0) (k := j) hC rfl dX8_run_273 (by repeat (first | with_reducible assumption | (rw [rl_u_s]; done) | (rw [rl_u_s]; rfl) | rw [rl_u_n (by first | with_reducible assumption | omega)])) (by omega) (by decide) ?_
            rw [et207]
            refine o_iret hC hB dX8_run_274 (Nat.le_of_ble_eq_true rfl) (Nat.le_of_ble_eq_true rfl) ?_
            exact ⟨_, rfl, rfl, ⟨_, _, _, S, hu.dp (hq1) rfl rfl rfl rfl ⟨w, hw6, rfl⟩⟩, (hq1).fr⟩
          · refine o_iconst (v := nI 0) hC dX8_run_211 (by decide +kernel) ?_
            refine o_istore_n hC dX8_run_212 (Nat.le_of_ble_eq_true rfl) ?_
            exact loop5 6 0 _ (by omega) hq1
      have loop3 : ∀ (mm t : Nat) (h1 : rl_H) (f1 : Int32) (k1 : Nat) (o3 : Option Value), t + mm = j + 1 → mq ids h h1 m (nI 0, T.2) f1 k1 → rl_G X (rl_e D ids H0) 134 [some (.ref m), some (.int (nI j)), some (.int (nI t)), o3] [] h1 n_7 0 0 := by
        intro mm
        have fin : ∀ (h1 : rl_H) (f1 : Int32) (k1 : Nat) (o2 o3 : Option Value), mq ids h h1 m (nI 0, T.2) f1 k1 → rl_G X (rl_e D ids H0) 166 [some (.ref m), some (.int (nI j)), o2, o3] [] h1 n_7 0 0 := by
          intro h1 f1 k1 o2 o3 hq1
          have hs1 := hq1.sa hs
          obtain ⟨g0, gk, ⟨⟨cl, g12⟩, ⟨tu, g13, b13⟩, ⟨im, g14⟩, ⟨te, g15, b15⟩, ⟨ne, g16⟩, ⟨la, g17⟩, ⟨hn, g18⟩, ⟨hl, g19⟩, ⟨tp, g20⟩, ⟨gr, g21, b21⟩, ⟨it, g22⟩⟩, gf⟩ := id hq1
          obtain ⟨a1, a2, a3, a4, a5, a6, a7, a8, a9, a10, a11⟩ := id hs1
          refine o_aload_n hC dX8_run_166 (by rfl) ?_
          refine o_getf hC (fX8_91 hC rfl) dX8_run_167 (by repeat (first | with_reducible assumption | (rw [rl_u_s]; done) | (rw [rl_u_s]; rfl) | rw [rl_u_n (by first | with_reducible assumption | omega)])) (by first | rfl | with_reducible assumption) ?_
          refine o_if_eq (tgt := 176) hC dX8_run_170 (by decide) (fun c_170 => ?_) (fun c_170 => ?_)
          · refine o_aload_n hC dX8_run_176 (by rfl) ?_
            refine o_getf hC (fX8_46 hC rfl) dX8_run_177 (by repeat (first | with_reducible assumption | (rw [rl_u_s]; done) | (rw [rl_u_s]; rfl) | rw [rl_u_n (by first | with_reducible assumption | omega)])) (by first | rfl | with_reducible assumption) ?_
            refine o_bipush (v := nI 16) hC dX8_run_180 (by decide +kernel) ?_
            refine o_aload_n hC dX8_run_182 (by rfl) ?_
            refine o_getf hC (fX8_46 hC rfl) dX8_run_183 (by repeat (first | with_reducible assumption | (rw [rl_u_s]; done) | (rw [rl_u_s]; rfl) | rw [rl_u_n (by first | with_reducible assumption | omega)])) (by first | rfl | with_reducible assumption) ?_
            refine o_iload_n hC dX8_run_186 (by rfl) ?_
            obtain ⟨t187, ht187, et187⟩ := b13 j (by omega)
            refine o_ialdN (t0 := 0) (k := j) hC rfl dX8_run_187 (by repeat (first | with_reducible assumption | (rw [rl_u_s]; done) | (rw [rl_u_s]; rfl) | rw [rl_u_n (by first | with_reducible assumption | omega)])) (by omega) (by decide) ?_
            rw [et187]
            refine o_iastN (t0 := 0) hC rfl dX8_run_188 (by repeat (first | with_reducible assumption | (rw [rl_u_s]; done) | (rw [rl_u_s]; rfl) | rw [rl_u_n (by first | with_reducible assumption | omega)])) (by omega) (by decide) ?_
            refine o_aload_n hC dX8_run_189 (by rfl) ?_
            refine o_aload_n hC dX8_run_190 (by rfl) ?_
            refine o_getf hC (fX8_40 hC rfl) dX8_run_191 (by repeat (first | with_reducible assumption | (rw [rl_u_s]; done) | (rw [rl_u_s]; rfl) | rw [rl_u_n (by first | with_reducible assumption | omega)])) (by first | rfl | with_reducible assumption) ?_
            refine o_iload_n hC dX8_run_194 (by rfl) ?_
            refine o_ialdN (t0 := 0) (k := j) hC rfl dX8_run_195 (by repeat (first | with_reducible assumption | (rw [rl_u_s]; done) | (rw [rl_u_s]; rfl) | rw [rl_u_n (by first | with_reducible assumption | omega)])) (by omega) (by decide) ?_
            rw [hwj]
            refine o_putf hC (fX8_196 hC rfl) (fwX8 rfl rfl rfl (Or.inl rfl)) dX8_run_196 (by repeat (first | with_reducible assumption | (rw [rl_u_s]; done) | (rw [rl_u_s]; rfl) | rw [rl_u_n (by first | with_reducible assumption | omega)])) (Nat.le_of_ble_eq_true rfl) ?_
            try simp only [List.set_cons_zero, List.set_cons_succ]
            refine o_iconst (v := nI 0) hC dX8_run_199 (by decide +kernel) ?_
            refine o_istore_n hC dX8_run_200 (Nat.le_of_ble_eq_true rfl) ?_
            exact loop4 80 0 _ _ _ w _ hw6 (by omega) ((hq1.s13 _ (md_bd b13 ⟨t187, ht187, rfl⟩)).ob (nI 0, T.2.1, T.2.2.1, T.2.2.2.1, T.2.2.2.2.1, nI w, T.2.2.2.2.2.2) f1 k1 gk)
          · refine o_bipush (v := (-4 : Int32)) hC dX8_run_173 (by decide +kernel) ?_
            refine o_iret hC hB dX8_run_175 (Nat.le_of_ble_eq_true rfl) (Nat.le_of_ble_eq_true rfl) ?_
            exact ⟨_, rfl, rfl, ⟨_, _, _, S, hu.dp (hq1) rfl rfl rfl rfl ⟨wrc, hrc6, hrc⟩⟩, (hq1).fr⟩
        induction mm with
        | zero =>
          intro t h1 f1 k1 o3 hm hq1
          refine o_iload_n hC dX8_run_134 (by rfl) ?_
          refine o_iload_n hC dX8_run_135 (by rfl) ?_
          refine o_icmp_gt (tgt := 166) hC dX8_run_136 (by decide) (fun c_136 => ?_) (fun c_136 => ?_)
          · exact fin _ _ _ _ _ hq1
          · exact absurd (nI_lt (by omega) (by omega)) c_136
        | succ mm ih =>
          intro t h1 f1 k1 o3 hm hq1
          have hs1 := hq1.sa hs
          obtain ⟨g0, gk, ⟨⟨cl, g12⟩, ⟨tu, g13, b13⟩, ⟨im, g14⟩, ⟨te, g15, b15⟩, ⟨ne, g16⟩, ⟨la, g17⟩, ⟨hn, g18⟩, ⟨hl, g19⟩, ⟨tp, g20⟩, ⟨gr, g21, b21⟩, ⟨it, g22⟩⟩, gf⟩ := id hq1
          obtain ⟨a1, a2, a3, a4, a5, a6, a7, a8, a9, a10, a11⟩ := id hs1
          refine o_iload_n hC dX8_run_134 (by rfl) ?_
          refine o_iload_n hC dX8_run_135 (by rfl) ?_
          refine o_icmp_gt (tgt := 166) hC dX8_run_136 (by decide) (fun c_136 => ?_) (fun c_136 => ?_)
          · exact fin _ _ _ _ _ hq1
          · refine o_aload_n hC dX8_run_139 (by rfl) ?_
            refine o_getf hC (fX8_91 hC rfl) dX8_run_140 (by repeat (first | with_reducible assumption | (rw [rl_u_s]; done) | (rw [rl_u_s]; rfl) | rw [rl_u_n (by first | with_reducible assumption | omega)])) (by first | rfl | with_reducible assumption) ?_
            refine o_if_ne (tgt := 166) hC dX8_run_143 (by decide) (fun c_143 => ?_) (fun c_143 => ?_)
            · exact fin _ _ _ _ _ hq1
            · refine o_aload_n hC dX8_run_146 (by rfl) ?_
              refine o_getf hC (fX8_49 hC rfl) dX8_run_147 (by repeat (first | with_reducible assumption | (rw [rl_u_s]; done) | (rw [rl_u_s]; rfl) | rw [rl_u_n (by first | with_reducible assumption | omega)])) (by first | rfl | with_reducible assumption) ?_
              refine o_iload_n hC dX8_run_150 (by rfl) ?_
              refine o_zaldN (t0 := 2) hC rfl dX8_run_151 (by repeat (first | with_reducible assumption | (rw [rl_u_s]; done) | (rw [rl_u_s]; rfl) | rw [rl_u_n (by first | with_reducible assumption | omega)])) (by omega) (by decide) ?_
              refine o_if_eq (tgt := 160) hC dX8_run_152 (by decide) (fun c_152 => ?_) (fun c_152 => ?_)
              · refine o_iinc hC dX8_run_160 (by rfl) (rl_inc _) (Nat.le_of_ble_eq_true rfl) ?_
                refine o_goto (tgt := 134) hC dX8_run_163 (by decide) ?_
                first
                | exact ih (t + 1) _ _ _ _ (by omega) (hq1.tr q157)
                | exact ih (t + 1) _ _ _ _ (by omega) hq1
              · refine o_aload_n hC dX8_run_155 (by rfl) ?_
                refine o_iload_n hC dX8_run_156 (by rfl) ?_
                refine o_callV1 hC rl_BW_good rl_Ns_nw (by exact hB.2.2.2.2.2) YX8_make IX8_make VX8_make (mX8_193 hC) (by rw [hB.1]; exact cm_X8_make l D ids H0 _ _ m _ _ _ S t z.2.2.1 hq1.rf hs1 (by omega) (hnv t (by omega)) hrr hr36) (by exact hq1.1) rfl rfl (Nat.le_of_ble_eq_true rfl) (by rw [hB.2.1]; first | exact Nat.le_of_ble_eq_true rfl | (dsimp only; omega)) (by rw [hB.2.1]; first | exact Nat.le_of_ble_eq_true rfl | (dsimp only; omega)) (by rw [hB.2.1]; first | exact Nat.le_of_ble_eq_true rfl | (dsimp only; omega)) (by rw [hB.2.1]; first | exact Nat.le_of_ble_eq_true rfl | (dsimp only; omega)) dX8_run_157 (fun v h_157 n_157 p_157 => ?_)
                obtain ⟨rfl, rfl, f157, k157, q157⟩ := p_157
                try dsimp only [Option.toList, List.cons_append, List.nil_append]
                refine o_iinc hC dX8_run_160 (by rfl) (rl_inc _) (Nat.le_of_ble_eq_true rfl) ?_
                refine o_goto (tgt := 134) hC dX8_run_163 (by decide) ?_
                first
                | exact ih (t + 1) _ _ _ _ (by omega) (hq1.tr q157)
                | exact ih (t + 1) _ _ _ _ (by omega) hq1
      have loop2 : ∀ (t : Nat) (h1 : rl_H) (f1 : Int32) (k1 : Nat) (o3 : Option Value), t ≤ j + 1 → mq ids h h1 m (nI 0, T.2) f1 k1 → rl_G X (rl_e D ids H0) 50 [some (.ref m), some (.int (nI j)), some (.int (nI t + Int32.ofInt (-1))), o3] [] h1 n_7 0 0 := by
        intro t
        induction t with
        | zero =>
          intro h1 f1 k1 o3 ht hq1
          refine o_iload_n hC dX8_run_50 (by rfl) ?_
          refine o_if_lt (tgt := 132) hC dX8_run_51 (by decide) (fun c_51 => ?_) (fun c_51 => ?_)
          · refine o_iconst (v := nI 0) hC dX8_run_132 (by decide +kernel) ?_
            refine o_istore_n hC dX8_run_133 (Nat.le_of_ble_eq_true rfl) ?_
            exact loop3 (j + 1) 0 _ _ _ _ (by omega) hq1
          · exact absurd (by decide +kernel) c_51
        | succ t ih =>
          intro h1 f1 k1 o3 ht hq1
          rw [rl_dec t]
          have hs1 := hq1.sa hs
          obtain ⟨g0, gk, ⟨⟨cl, g12⟩, ⟨tu, g13, b13⟩, ⟨im, g14⟩, ⟨te, g15, b15⟩, ⟨ne, g16⟩, ⟨la, g17⟩, ⟨hn, g18⟩, ⟨hl, g19⟩, ⟨tp, g20⟩, ⟨gr, g21, b21⟩, ⟨it, g22⟩⟩, gf⟩ := id hq1
          obtain ⟨a1, a2, a3, a4, a5, a6, a7, a8, a9, a10, a11⟩ := id hs1
          obtain ⟨op, w0, h1_, h2_, h3_, h4_, h5_, h6_, -⟩ := hnv t (by omega)
          refine o_iload_n hC dX8_run_50 (by rfl) ?_
          refine o_if_lt (tgt := 132) hC dX8_run_51 (by decide) (fun c_51 => ?_) (fun c_51 => ?_)
          · exact absurd c_51 (nI_pos (by omega))
          · refine o_aload_n hC dX8_run_54 (by rfl) ?_
            refine o_getf hC (fX8_49 hC rfl) dX8_run_55 (by repeat (first | with_reducible assumption | (rw [rl_u_s]; done) | (rw [rl_u_s]; rfl) | rw [rl_u_n (by first | with_reducible assumption | omega)])) (by first | rfl | with_reducible assumption) ?_
            refine o_iload_n hC dX8_run_58 (by rfl) ?_
            refine o_zaldN (t0 := 2) hC rfl dX8_run_59 (by repeat (first | with_reducible assumption | (rw [rl_u_s]; done) | (rw [rl_u_s]; rfl) | rw [rl_u_n (by first | with_reducible assumption | omega)])) (by omega) (by decide) ?_
            refine o_if_eq (tgt := 126) hC dX8_run_60 (by decide) (fun c_60 => ?_) (fun c_60 => ?_)
            · refine o_iinc hC dX8_run_126 (by rfl) rfl (Nat.le_of_ble_eq_true rfl) ?_
              refine o_goto (tgt := 50) hC dX8_run_129 (by decide) ?_
              first
              | exact ih _ _ _ _ (by omega) ((hq1.s14 _).s14 _)
              | exact ih _ _ _ _ (by omega) (hq1.s14 _)
              | exact ih _ _ _ _ (by omega) hq1
            · refine o_aload_n hC dX8_run_63 (by rfl) ?_
              refine o_getf hC (fX8_19 hC rfl) dX8_run_64 (by repeat (first | with_reducible assumption | (rw [rl_u_s]; done) | (rw [rl_u_s]; rfl) | rw [rl_u_n (by first | with_reducible assumption | omega)])) (by first | rfl | with_reducible assumption) ?_
              refine o_iload_n hC dX8_run_67 (by rfl) ?_
              refine o_ialdN (t0 := 0) (k := t) hC rfl dX8_run_68 (by repeat (first | with_reducible assumption | (rw [rl_u_s]; done) | (rw [rl_u_s]; rfl) | rw [rl_u_n (by first | with_reducible assumption | omega)])) (by omega) (by decide) ?_
              rw [h4_]
              refine o_if_eq (tgt := 126) hC dX8_run_69 (by decide) (fun c_69 => ?_) (fun c_69 => ?_)
              · refine o_iinc hC dX8_run_126 (by rfl) rfl (Nat.le_of_ble_eq_true rfl) ?_
                refine o_goto (tgt := 50) hC dX8_run_129 (by decide) ?_
                first
                | exact ih _ _ _ _ (by omega) ((hq1.s14 _).s14 _)
                | exact ih _ _ _ _ (by omega) (hq1.s14 _)
                | exact ih _ _ _ _ (by omega) hq1
              · have op1 : 1 ≤ op := Nat.pos_of_ne_zero (fun e => c_69 (by rw [e]; rfl))
                obtain ⟨b, wb, i1, i2, i3, i4, i5⟩ := h6_ op1
                refine o_aload_n hC dX8_run_72 (by rfl) ?_
                refine o_getf hC (fX8_49 hC rfl) dX8_run_73 (by repeat (first | with_reducible assumption | (rw [rl_u_s]; done) | (rw [rl_u_s]; rfl) | rw [rl_u_n (by first | with_reducible assumption | omega)])) (by first | rfl | with_reducible assumption) ?_
                refine o_aload_n hC dX8_run_76 (by rfl) ?_
                refine o_getf hC (fX8_22 hC rfl) dX8_run_77 (by repeat (first | with_reducible assumption | (rw [rl_u_s]; done) | (rw [rl_u_s]; rfl) | rw [rl_u_n (by first | with_reducible assumption | omega)])) (by first | rfl | with_reducible assumption) ?_
                refine o_iload_n hC dX8_run_80 (by rfl) ?_
                refine o_ialdN (t0 := 0) (k := t) hC rfl dX8_run_81 (by repeat (first | with_reducible assumption | (rw [rl_u_s]; done) | (rw [rl_u_s]; rfl) | rw [rl_u_n (by first | with_reducible assumption | omega)])) (by omega) (by decide) ?_
                rw [i3]
                refine o_iconst (v := nI 1) hC dX8_run_82 (by decide +kernel) ?_
                refine o_zastN (t0 := 2) hC rfl dX8_run_83 (by repeat (first | with_reducible assumption | (rw [rl_u_s]; done) | (rw [rl_u_s]; rfl) | rw [rl_u_n (by first | with_reducible assumption | omega)])) (by omega) (by decide) ?_
                refine o_aload_n hC dX8_run_84 (by rfl) ?_
                refine o_getf hC (fX8_19 hC rfl) dX8_run_85 (by repeat (first | with_reducible assumption | (rw [rl_u_s]; done) | (rw [rl_u_s]; rfl) | rw [rl_u_n (by first | with_reducible assumption | omega)])) (by first | rfl | with_reducible assumption) ?_
                refine o_iload_n hC dX8_run_88 (by rfl) ?_
                refine o_ialdN (t0 := 0) (k := t) hC rfl dX8_run_89 (by repeat (first | with_reducible assumption | (rw [rl_u_s]; done) | (rw [rl_u_s]; rfl) | rw [rl_u_n (by first | with_reducible assumption | omega)])) (by omega) (by decide) ?_
                rw [h4_]
                refine o_iconst (v := nI 3) hC dX8_run_90 (by decide +kernel) ?_
                refine o_icmp_eq (tgt := 114) hC dX8_run_91 (by decide) (fun c_91 => ?_) (fun c_91 => ?_)
                · have o345 : op = 3 ∨ op = 4 ∨ op = 5 := by
                    first
                    | exact Or.inl (nI_inj2 (by omega) (by decide) c_91)
                    | exact Or.inr (Or.inl (nI_inj2 (by omega) (by decide) c_101))
                    | exact Or.inr (Or.inr (nI_inj2 (by omega) (by decide) c_111))
                  obtain ⟨d, wd, j1, j2, j3, j4, j5⟩ := i5 o345
                  refine o_aload_n hC dX8_run_114 (by rfl) ?_
                  refine o_getf hC (fX8_49 hC rfl) dX8_run_115 (by repeat (first | with_reducible assumption | (rw [rl_u_s]; done) | (rw [rl_u_s]; rfl) | rw [rl_u_n (by first | with_reducible assumption | omega)])) (by first | rfl | with_reducible assumption) ?_
                  refine o_aload_n hC dX8_run_118 (by rfl) ?_
                  refine o_getf hC (fX8_25 hC rfl) dX8_run_119 (by repeat (first | with_reducible assumption | (rw [rl_u_s]; done) | (rw [rl_u_s]; rfl) | rw [rl_u_n (by first | with_reducible assumption | omega)])) (by first | rfl | with_reducible assumption) ?_
                  refine o_iload_n hC dX8_run_122 (by rfl) ?_
                  refine o_ialdN (t0 := 0) (k := t) hC rfl dX8_run_123 (by repeat (first | with_reducible assumption | (rw [rl_u_s]; done) | (rw [rl_u_s]; rfl) | rw [rl_u_n (by first | with_reducible assumption | omega)])) (by omega) (by decide) ?_
                  rw [j3]
                  refine o_iconst (v := nI 1) hC dX8_run_124 (by decide +kernel) ?_
                  refine o_zastN (t0 := 2) hC rfl dX8_run_125 (by repeat (first | with_reducible assumption | (rw [rl_u_s]; done) | (rw [rl_u_s]; rfl) | rw [rl_u_n (by first | with_reducible assumption | omega)])) (by omega) (by decide) ?_
                  refine o_iinc hC dX8_run_126 (by rfl) rfl (Nat.le_of_ble_eq_true rfl) ?_
                  refine o_goto (tgt := 50) hC dX8_run_129 (by decide) ?_
                  first
                  | exact ih _ _ _ _ (by omega) ((hq1.s14 _).s14 _)
                  | exact ih _ _ _ _ (by omega) (hq1.s14 _)
                  | exact ih _ _ _ _ (by omega) hq1
                · refine o_aload_n hC dX8_run_94 (by rfl) ?_
                  refine o_getf hC (fX8_19 hC rfl) dX8_run_95 (by repeat (first | with_reducible assumption | (rw [rl_u_s]; done) | (rw [rl_u_s]; rfl) | rw [rl_u_n (by first | with_reducible assumption | omega)])) (by first | rfl | with_reducible assumption) ?_
                  refine o_iload_n hC dX8_run_98 (by rfl) ?_
                  refine o_ialdN (t0 := 0) (k := t) hC rfl dX8_run_99 (by repeat (first | with_reducible assumption | (rw [rl_u_s]; done) | (rw [rl_u_s]; rfl) | rw [rl_u_n (by first | with_reducible assumption | omega)])) (by omega) (by decide) ?_
                  rw [h4_]
                  refine o_iconst (v := nI 4) hC dX8_run_100 (by decide +kernel) ?_
                  refine o_icmp_eq (tgt := 114) hC dX8_run_101 (by decide) (fun c_101 => ?_) (fun c_101 => ?_)
                  · have o345 : op = 3 ∨ op = 4 ∨ op = 5 := by
                      first
                      | exact Or.inl (nI_inj2 (by omega) (by decide) c_91)
                      | exact Or.inr (Or.inl (nI_inj2 (by omega) (by decide) c_101))
                      | exact Or.inr (Or.inr (nI_inj2 (by omega) (by decide) c_111))
                    obtain ⟨d, wd, j1, j2, j3, j4, j5⟩ := i5 o345
                    refine o_aload_n hC dX8_run_114 (by rfl) ?_
                    refine o_getf hC (fX8_49 hC rfl) dX8_run_115 (by repeat (first | with_reducible assumption | (rw [rl_u_s]; done) | (rw [rl_u_s]; rfl) | rw [rl_u_n (by first | with_reducible assumption | omega)])) (by first | rfl | with_reducible assumption) ?_
                    refine o_aload_n hC dX8_run_118 (by rfl) ?_
                    refine o_getf hC (fX8_25 hC rfl) dX8_run_119 (by repeat (first | with_reducible assumption | (rw [rl_u_s]; done) | (rw [rl_u_s]; rfl) | rw [rl_u_n (by first | with_reducible assumption | omega)])) (by first | rfl | with_reducible assumption) ?_
                    refine o_iload_n hC dX8_run_122 (by rfl) ?_
                    refine o_ialdN (t0 := 0) (k := t) hC rfl dX8_run_123 (by repeat (first | with_reducible assumption | (rw [rl_u_s]; done) | (rw [rl_u_s]; rfl) | rw [rl_u_n (by first | with_reducible assumption | omega)])) (by omega) (by decide) ?_
                    rw [j3]
                    refine o_iconst (v := nI 1) hC dX8_run_124 (by decide +kernel) ?_
                    refine o_zastN (t0 := 2) hC rfl dX8_run_125 (by repeat (first | with_reducible assumption | (rw [rl_u_s]; done) | (rw [rl_u_s]; rfl) | rw [rl_u_n (by first | with_reducible assumption | omega)])) (by omega) (by decide) ?_
                    refine o_iinc hC dX8_run_126 (by rfl) rfl (Nat.le_of_ble_eq_true rfl) ?_
                    refine o_goto (tgt := 50) hC dX8_run_129 (by decide) ?_
                    first
                    | exact ih _ _ _ _ (by omega) ((hq1.s14 _).s14 _)
                    | exact ih _ _ _ _ (by omega) (hq1.s14 _)
                    | exact ih _ _ _ _ (by omega) hq1
                  · refine o_aload_n hC dX8_run_104 (by rfl) ?_
                    refine o_getf hC (fX8_19 hC rfl) dX8_run_105 (by repeat (first | with_reducible assumption | (rw [rl_u_s]; done) | (rw [rl_u_s]; rfl) | rw [rl_u_n (by first | with_reducible assumption | omega)])) (by first | rfl | with_reducible assumption) ?_
                    refine o_iload_n hC dX8_run_108 (by rfl) ?_
                    refine o_ialdN (t0 := 0) (k := t) hC rfl dX8_run_109 (by repeat (first | with_reducible assumption | (rw [rl_u_s]; done) | (rw [rl_u_s]; rfl) | rw [rl_u_n (by first | with_reducible assumption | omega)])) (by omega) (by decide) ?_
                    rw [h4_]
                    refine o_iconst (v := nI 5) hC dX8_run_110 (by decide +kernel) ?_
                    refine o_icmp_ne (tgt := 126) hC dX8_run_111 (by decide) (fun c_111 => ?_) (fun c_111 => ?_)
                    · refine o_iinc hC dX8_run_126 (by rfl) rfl (Nat.le_of_ble_eq_true rfl) ?_
                      refine o_goto (tgt := 50) hC dX8_run_129 (by decide) ?_
                      first
                      | exact ih _ _ _ _ (by omega) ((hq1.s14 _).s14 _)
                      | exact ih _ _ _ _ (by omega) (hq1.s14 _)
                      | exact ih _ _ _ _ (by omega) hq1
                    · have o345 : op = 3 ∨ op = 4 ∨ op = 5 := by
                        first
                        | exact Or.inl (nI_inj2 (by omega) (by decide) c_91)
                        | exact Or.inr (Or.inl (nI_inj2 (by omega) (by decide) c_101))
                        | exact Or.inr (Or.inr (nI_inj2 (by omega) (by decide) c_111))
                      obtain ⟨d, wd, j1, j2, j3, j4, j5⟩ := i5 o345
                      refine o_aload_n hC dX8_run_114 (by rfl) ?_
                      refine o_getf hC (fX8_49 hC rfl) dX8_run_115 (by repeat (first | with_reducible assumption | (rw [rl_u_s]; done) | (rw [rl_u_s]; rfl) | rw [rl_u_n (by first | with_reducible assumption | omega)])) (by first | rfl | with_reducible assumption) ?_
                      refine o_aload_n hC dX8_run_118 (by rfl) ?_
                      refine o_getf hC (fX8_25 hC rfl) dX8_run_119 (by repeat (first | with_reducible assumption | (rw [rl_u_s]; done) | (rw [rl_u_s]; rfl) | rw [rl_u_n (by first | with_reducible assumption | omega)])) (by first | rfl | with_reducible assumption) ?_
                      refine o_iload_n hC dX8_run_122 (by rfl) ?_
                      refine o_ialdN (t0 := 0) (k := t) hC rfl dX8_run_123 (by repeat (first | with_reducible assumption | (rw [rl_u_s]; done) | (rw [rl_u_s]; rfl) | rw [rl_u_n (by first | with_reducible assumption | omega)])) (by omega) (by decide) ?_
                      rw [j3]
                      refine o_iconst (v := nI 1) hC dX8_run_124 (by decide +kernel) ?_
                      refine o_zastN (t0 := 2) hC rfl dX8_run_125 (by repeat (first | with_reducible assumption | (rw [rl_u_s]; done) | (rw [rl_u_s]; rfl) | rw [rl_u_n (by first | with_reducible assumption | omega)])) (by omega) (by decide) ?_
                      refine o_iinc hC dX8_run_126 (by rfl) rfl (Nat.le_of_ble_eq_true rfl) ?_
                      refine o_goto (tgt := 50) hC dX8_run_129 (by decide) ?_
                      first
                      | exact ih _ _ _ _ (by omega) ((hq1.s14 _).s14 _)
                      | exact ih _ _ _ _ (by omega) (hq1.s14 _)
                      | exact ih _ _ _ _ (by omega) hq1
      have loop1 : ∀ (mm i : Nat) (h1 : rl_H) (f1 : Int32) (k1 : Nat) (o3 : Option Value), i + mm = 16 → mq ids h h1 m (nI 0, T.2) f1 k1 → rl_G X (rl_e D ids H0) 22 [some (.ref m), some (.int (nI j)), some (.int (nI i)), o3] [] h1 n_7 0 0 := by
        intro mm
        induction mm with
        | zero =>
          intro i h1 f1 k1 o3 hm hq1
          obtain ⟨g0, gk, ⟨⟨cl, g12⟩, ⟨tu, g13, b13⟩, ⟨im, g14⟩, ⟨te, g15, b15⟩, ⟨ne, g16⟩, ⟨la, g17⟩, ⟨hn, g18⟩, ⟨hl, g19⟩, ⟨tp, g20⟩, ⟨gr, g21, b21⟩, ⟨it, g22⟩⟩, gf⟩ := id hq1
          refine o_iload_n hC dX8_run_22 (by rfl) ?_
          refine o_bipush (v := nI 16) hC dX8_run_23 (by decide +kernel) ?_
          refine o_icmp_ge (tgt := 41) hC dX8_run_25 (by decide) (fun c_25 => ?_) (fun c_25 => ?_)
          · refine o_aload_n hC dX8_run_41 (by rfl) ?_
            refine o_getf hC (fX8_49 hC rfl) dX8_run_42 (by repeat (first | with_reducible assumption | (rw [rl_u_s]; done) | (rw [rl_u_s]; rfl) | rw [rl_u_n (by first | with_reducible assumption | omega)])) (by first | rfl | with_reducible assumption) ?_
            refine o_iload_n hC dX8_run_45 (by rfl) ?_
            refine o_iconst (v := nI 1) hC dX8_run_46 (by decide +kernel) ?_
            refine o_zastN (t0 := 2) hC rfl dX8_run_47 (by repeat (first | with_reducible assumption | (rw [rl_u_s]; done) | (rw [rl_u_s]; rfl) | rw [rl_u_n (by first | with_reducible assumption | omega)])) (by omega) (by decide) ?_
            refine o_iload_n hC dX8_run_48 (by rfl) ?_
            refine o_istore_n hC dX8_run_49 (Nat.le_of_ble_eq_true rfl) ?_
            have lp := loop2 (j + 1) _ _ _ o3 (Nat.le_refl _) (hq1.s14 (upd im j (vp_nar .boolean (nI 1))))
            rw [rl_dec j] at lp
            exact lp
          · exact absurd (nI_le (by omega) (by omega)) c_25
        | succ mm ih =>
          intro i h1 f1 k1 o3 hm hq1
          obtain ⟨g0, gk, ⟨⟨cl, g12⟩, ⟨tu, g13, b13⟩, ⟨im, g14⟩, ⟨te, g15, b15⟩, ⟨ne, g16⟩, ⟨la, g17⟩, ⟨hn, g18⟩, ⟨hl, g19⟩, ⟨tp, g20⟩, ⟨gr, g21, b21⟩, ⟨it, g22⟩⟩, gf⟩ := id hq1
          refine o_iload_n hC dX8_run_22 (by rfl) ?_
          refine o_bipush (v := nI 16) hC dX8_run_23 (by decide +kernel) ?_
          refine o_icmp_ge (tgt := 41) hC dX8_run_25 (by decide) (fun c_25 => ?_) (fun c_25 => ?_)
          · exact absurd c_25 (nI_ge (by omega) (by omega))
          · refine o_aload_n hC dX8_run_28 (by rfl) ?_
            refine o_getf hC (fX8_49 hC rfl) dX8_run_29 (by repeat (first | with_reducible assumption | (rw [rl_u_s]; done) | (rw [rl_u_s]; rfl) | rw [rl_u_n (by first | with_reducible assumption | omega)])) (by first | rfl | with_reducible assumption) ?_
            refine o_iload_n hC dX8_run_32 (by rfl) ?_
            refine o_iconst (v := nI 0) hC dX8_run_33 (by decide +kernel) ?_
            refine o_zastN (t0 := 2) hC rfl dX8_run_34 (by repeat (first | with_reducible assumption | (rw [rl_u_s]; done) | (rw [rl_u_s]; rfl) | rw [rl_u_n (by first | with_reducible assumption | omega)])) (by omega) (by decide) ?_
            refine o_iinc hC dX8_run_35 (by rfl) (rl_inc _) (Nat.le_of_ble_eq_true rfl) ?_
            refine o_goto (tgt := 22) hC dX8_run_38 (by decide) ?_
            exact ih (i + 1) _ _ _ _ (by omega) (hq1.s14 _)
      exact loop1 16 0 _ _ _ _ (by omega) (hq0.ob (nI 0, T.2) (nI 0) k hq.2.1)
    · exact absurd c_10 (by decide +kernel)
end
