/-! THE MODEL by shapes: its object, its arrays (m + 12 to m + 22 by shape and bounds, m + 1 to m + 11 as they are) -/
theorem nI_mul (a b : Nat) : nI a * nI b = nI (a * b) := (Int32.ofNat_mul a b).symm
section RLZ
variable {X : rl_X} {E : rl_E} {cc : ByteArray} {own : String} {Ts Ns : List Cond} {pc : Nat} {lo : List (Option Value)} {st : List Value} {h : rl_H} {n ce sl : Nat}
theorem o_zast (hC : rl_C X E cc own Ts Ns) {a t0 N : Nat} {cA : ClassId} {f : Nat → Int32} {i x : Int32} (ht : E.2.2.1[t0]? = some (cA, .boolean)) (hd : decode cc pc = .ok (.bastore, 1)) (ha : h a = some (.inl (cA, N, .inl f))) (hin : vp_in i N) (kk : rl_G X E (pc + 1) lo st (rl_u h a (.inl (cA, N, .inl (upd f i.toNatClampNeg (vp_nar .boolean x))))) n ce sl) : rl_G X E pc lo (.int x :: .int i :: .ref a :: st) h n ce sl := by
  intro H locs ls a1 b1 c1
  have hat : H[a]? = some (arrV cA N (fun j => .int (f j))) := (a1.2.2.2 a _ ha).2
  refine W.zast hC.1 hC.2.1 hat ((hC.2.2.2.2.2.1.2 t0 _ ht).1 N (fun j => .int (f j))) (fun q => by cases q) (by show ¬ (i < 0 ∨ (arrV _ _ _).slots.size ≤ _); rw [arrV_size]; exact hin) rfl rfl hd fun H' e z o => ?_
  refine kk H' _ ls (a1.put ha z o ?_) (rl_put1 a1 ha b1) c1
  show H'[a]? = some (vp_cell _ _)
  rw [e, vp_cell_i, arrV_store]
  congr 2
  funext q
  by_cases hq : q = i.toNatClampNeg
  · subst hq
    simp [updV, upd, vp_nar]
    try rfl
  · simp [updV, upd, hq]
theorem o_zastN (hC : rl_C X E cc own Ts Ns) {a t0 N k : Nat} {cA : ClassId} {f : Nat → Int32} {x : Int32} (ht : E.2.2.1[t0]? = some (cA, .boolean)) (hd : decode cc pc = .ok (.bastore, 1)) (ha : h a = some (.inl (cA, N, .inl f))) (hk : k < N) (hN : N < 2147483648) (kk : rl_G X E (pc + 1) lo st (rl_u h a (.inl (cA, N, .inl (upd f k (vp_nar .boolean x))))) n ce sl) : rl_G X E pc lo (.int x :: .int (nI k) :: .ref a :: st) h n ce sl := o_zast hC ht hd ha (rl_ix hk hN) (by rw [rl_cl hk hN]; exact kk)
end RLZ
/-- code, sources, rows, present, nodes, resultColumns, inMany -/
abbrev md_T : Type := Int32 × Int32 × Int32 × Int64 × Int32 × Int32 × Int32
abbrev md_ob (m : Nat) (T : md_T) (fu : Int32) (k : Nat) : va_E := .inr (8, [.int T.1, .int T.2.1, .ref (m + 1), .int T.2.2.1, .ref (m + 2), .ref (m + 3), .long T.2.2.2.1, .int T.2.2.2.2.1, .ref (m + 4), .ref (m + 5), .ref (m + 6), .ref (m + 7), .ref (m + 8), .ref (m + 9), .ref (m + 10), .ref (m + 11), .ref (m + 12), .ref (m + 13), .ref (m + 14), .int T.2.2.2.2.2.1, .ref (m + 15), .ref (m + 16), .ref (m + 17), .int fu, .ref (m + 18), .ref (m + 19), .int (nI k), .ref (m + 20), .ref (m + 21), .ref (m + 22), .int T.2.2.2.2.2.2])
def md_dp (ids : Nat → ClassId) (h : rl_H) (m : Nat) : Prop := (∃ f : Nat → Int32, h (m + 12) = some (.inl (ids 0, 8160, .inl f))) ∧ (∃ f : Nat → Int32, h (m + 13) = some (.inl (ids 0, 17, .inl f)) ∧ ∀ k : Nat, k < 17 → ∃ t : Nat, t ≤ 80 ∧ f k = nI t) ∧ (∃ f : Nat → Int32, h (m + 14) = some (.inl (ids 2, 16, .inl f))) ∧ (∃ f : Nat → Int32, h (m + 15) = some (.inl (ids 0, 1368, .inl f)) ∧ ∀ k : Nat, k < 1368 → ∃ t : Nat, t ≤ 12 ∧ f k = nI t) ∧ (∃ f : Nat → Int64, h (m + 16) = some (.inl (ids 1, 16416, .inr (.inl f)))) ∧ (∃ f : Nat → Int64, h (m + 17) = some (.inl (ids 1, 16416, .inr (.inl f)))) ∧ (∃ f : Nat → Int64, h (m + 18) = some (.inl (ids 1, 160, .inr (.inl f)))) ∧ (∃ f : Nat → Int64, h (m + 19) = some (.inl (ids 1, 160, .inr (.inl f)))) ∧ (∃ f : Nat → Int32, h (m + 20) = some (.inl (ids 0, 6, .inl f))) ∧ (∃ f : Nat → Int32, h (m + 21) = some (.inl (ids 0, 4, .inl f)) ∧ ∀ k : Nat, k < 4 → ∃ t : Nat, t < 80 ∧ f k = nI t) ∧ (∃ f : Nat → Int32, h (m + 22) = some (.inl (ids 0, 36, .inl f)))
/-- sourceColumns, rowSource, rowCells, nOp, nFirst, nSecond, nA, nB, nC, nV, nColumns -/
abbrev md_A : Type := (Nat → Int32) × (Nat → Int32) × (Nat → Int32) × (Nat → Int32) × (Nat → Int32) × (Nat → Int32) × (Nat → Int32) × (Nat → Int32) × (Nat → Int32) × (Nat → Int32) × (Nat → Int32)
def md_sa (ids : Nat → ClassId) (h : rl_H) (m : Nat) (S : md_A) : Prop := h (m + 1) = some (.inl (ids 0, 4, .inl S.1)) ∧ h (m + 2) = some (.inl (ids 0, 36, .inl S.2.1)) ∧ h (m + 3) = some (.inl (ids 0, 144, .inl S.2.2.1)) ∧ h (m + 4) = some (.inl (ids 0, 16, .inl S.2.2.2.1)) ∧ h (m + 5) = some (.inl (ids 0, 16, .inl S.2.2.2.2.1)) ∧ h (m + 6) = some (.inl (ids 0, 16, .inl S.2.2.2.2.2.1)) ∧ h (m + 7) = some (.inl (ids 0, 16, .inl S.2.2.2.2.2.2.1)) ∧ h (m + 8) = some (.inl (ids 0, 16, .inl S.2.2.2.2.2.2.2.1)) ∧ h (m + 9) = some (.inl (ids 0, 16, .inl S.2.2.2.2.2.2.2.2.1)) ∧ h (m + 10) = some (.inl (ids 0, 16, .inl S.2.2.2.2.2.2.2.2.2.1)) ∧ h (m + 11) = some (.inl (ids 0, 16, .inl S.2.2.2.2.2.2.2.2.2.2))
theorem md_sa.eqv {ids : Nat → ClassId} {h h' : rl_H} {m : Nat} {S : md_A} (H : md_sa ids h m S) (he : ∀ q : Nat, m + 1 ≤ q → q < m + 12 → h' q = h q) : md_sa ids h' m S := by
  obtain ⟨a1, a2, a3, a4, a5, a6, a7, a8, a9, a10, a11⟩ := H
  exact ⟨(he _ (by omega) (by omega)).trans a1, (he _ (by omega) (by omega)).trans a2, (he _ (by omega) (by omega)).trans a3, (he _ (by omega) (by omega)).trans a4, (he _ (by omega) (by omega)).trans a5, (he _ (by omega) (by omega)).trans a6, (he _ (by omega) (by omega)).trans a7, (he _ (by omega) (by omega)).trans a8, (he _ (by omega) (by omega)).trans a9, (he _ (by omega) (by omega)).trans a10, (he _ (by omega) (by omega)).trans a11⟩
/-- the model's state, and that nothing else has changed since h0 -/
def mq (ids : Nat → ClassId) (h0 h : rl_H) (m : Nat) (T : md_T) (fu : Int32) (k : Nat) : Prop := h m = some (md_ob m T fu k) ∧ k ≤ 160 ∧ md_dp ids h m ∧ ∀ q : Nat, q ≠ m → (q < m + 12 ∨ m + 23 ≤ q) → h q = h0 q
theorem mq.rf {ids : Nat → ClassId} {h0 h : rl_H} {m : Nat} {T : md_T} {fu : Int32} {k : Nat} (H : mq ids h0 h m T fu k) : mq ids h h m T fu k := ⟨H.1, H.2.1, H.2.2.1, fun _ _ _ => rfl⟩
theorem mq.tr {ids : Nat → ClassId} {h0 h1 h : rl_H} {m : Nat} {T T' : md_T} {fu fu' : Int32} {k k' : Nat} (H : mq ids h0 h1 m T fu k) (H2 : mq ids h1 h m T' fu' k') : mq ids h0 h m T' fu' k' := ⟨H2.1, H2.2.1, H2.2.2.1, fun q a b => (H2.2.2.2 q a b).trans (H.2.2.2 q a b)⟩
theorem mq.sa {ids : Nat → ClassId} {h0 h : rl_H} {m : Nat} {T : md_T} {fu : Int32} {k : Nat} {S : md_A} (H : mq ids h0 h m T fu k) (hs : md_sa ids h0 m S) : md_sa ids h m S := hs.eqv (fun q a b => H.2.2.2 q (by omega) (by omega))
theorem mq.ob {ids : Nat → ClassId} {h0 h : rl_H} {m : Nat} {T : md_T} {fu : Int32} {k : Nat} (H : mq ids h0 h m T fu k) (T' : md_T) (fu' : Int32) (k' : Nat) (hk : k' ≤ 160) : mq ids h0 (rl_u h m (md_ob m T' fu' k')) m T' fu' k' := by
  obtain ⟨g0, gk, ⟨d12, d13, d14, d15, d16, d17, d18, d19, d20, d21, d22⟩, fr⟩ := H
  exact ⟨rl_u_s, hk, ⟨d12.elim fun f e => ⟨f, (rl_u_n (by omega)).trans e⟩, d13.elim fun f e => ⟨f, (rl_u_n (by omega)).trans e.1, e.2⟩, d14.elim fun f e => ⟨f, (rl_u_n (by omega)).trans e⟩, d15.elim fun f e => ⟨f, (rl_u_n (by omega)).trans e.1, e.2⟩, d16.elim fun f e => ⟨f, (rl_u_n (by omega)).trans e⟩, d17.elim fun f e => ⟨f, (rl_u_n (by omega)).trans e⟩, d18.elim fun f e => ⟨f, (rl_u_n (by omega)).trans e⟩, d19.elim fun f e => ⟨f, (rl_u_n (by omega)).trans e⟩, d20.elim fun f e => ⟨f, (rl_u_n (by omega)).trans e⟩, d21.elim fun f e => ⟨f, (rl_u_n (by omega)).trans e.1, e.2⟩, d22.elim fun f e => ⟨f, (rl_u_n (by omega)).trans e⟩⟩, fun q a b => (rl_u_n a).trans (fr q a b)⟩

theorem mq.s12 {ids : Nat → ClassId} {h0 h : rl_H} {m : Nat} {T : md_T} {fu : Int32} {k : Nat} (H : mq ids h0 h m T fu k) (f : Nat → Int32) : mq ids h0 (rl_u h (m + 12) (.inl (ids 0, 8160, .inl f))) m T fu k := by
  obtain ⟨g0, gk, ⟨d12, d13, d14, d15, d16, d17, d18, d19, d20, d21, d22⟩, fr⟩ := H
  exact ⟨(rl_u_n (by omega)).trans g0, gk, ⟨⟨f, rl_u_s⟩, d13.elim fun f e => ⟨f, (rl_u_n (by omega)).trans e.1, e.2⟩, d14.elim fun f e => ⟨f, (rl_u_n (by omega)).trans e⟩, d15.elim fun f e => ⟨f, (rl_u_n (by omega)).trans e.1, e.2⟩, d16.elim fun f e => ⟨f, (rl_u_n (by omega)).trans e⟩, d17.elim fun f e => ⟨f, (rl_u_n (by omega)).trans e⟩, d18.elim fun f e => ⟨f, (rl_u_n (by omega)).trans e⟩, d19.elim fun f e => ⟨f, (rl_u_n (by omega)).trans e⟩, d20.elim fun f e => ⟨f, (rl_u_n (by omega)).trans e⟩, d21.elim fun f e => ⟨f, (rl_u_n (by omega)).trans e.1, e.2⟩, d22.elim fun f e => ⟨f, (rl_u_n (by omega)).trans e⟩⟩, fun q a b => (rl_u_n (by omega)).trans (fr q a b)⟩
theorem mq.s13 {ids : Nat → ClassId} {h0 h : rl_H} {m : Nat} {T : md_T} {fu : Int32} {k : Nat} (H : mq ids h0 h m T fu k) (f : Nat → Int32) (hb : ∀ k : Nat, k < 17 → ∃ t : Nat, t ≤ 80 ∧ f k = nI t) : mq ids h0 (rl_u h (m + 13) (.inl (ids 0, 17, .inl f))) m T fu k := by
  obtain ⟨g0, gk, ⟨d12, d13, d14, d15, d16, d17, d18, d19, d20, d21, d22⟩, fr⟩ := H
  exact ⟨(rl_u_n (by omega)).trans g0, gk, ⟨d12.elim fun f e => ⟨f, (rl_u_n (by omega)).trans e⟩, ⟨f, rl_u_s, hb⟩, d14.elim fun f e => ⟨f, (rl_u_n (by omega)).trans e⟩, d15.elim fun f e => ⟨f, (rl_u_n (by omega)).trans e.1, e.2⟩, d16.elim fun f e => ⟨f, (rl_u_n (by omega)).trans e⟩, d17.elim fun f e => ⟨f, (rl_u_n (by omega)).trans e⟩, d18.elim fun f e => ⟨f, (rl_u_n (by omega)).trans e⟩, d19.elim fun f e => ⟨f, (rl_u_n (by omega)).trans e⟩, d20.elim fun f e => ⟨f, (rl_u_n (by omega)).trans e⟩, d21.elim fun f e => ⟨f, (rl_u_n (by omega)).trans e.1, e.2⟩, d22.elim fun f e => ⟨f, (rl_u_n (by omega)).trans e⟩⟩, fun q a b => (rl_u_n (by omega)).trans (fr q a b)⟩
theorem mq.s14 {ids : Nat → ClassId} {h0 h : rl_H} {m : Nat} {T : md_T} {fu : Int32} {k : Nat} (H : mq ids h0 h m T fu k) (f : Nat → Int32) : mq ids h0 (rl_u h (m + 14) (.inl (ids 2, 16, .inl f))) m T fu k := by
  obtain ⟨g0, gk, ⟨d12, d13, d14, d15, d16, d17, d18, d19, d20, d21, d22⟩, fr⟩ := H
  exact ⟨(rl_u_n (by omega)).trans g0, gk, ⟨d12.elim fun f e => ⟨f, (rl_u_n (by omega)).trans e⟩, d13.elim fun f e => ⟨f, (rl_u_n (by omega)).trans e.1, e.2⟩, ⟨f, rl_u_s⟩, d15.elim fun f e => ⟨f, (rl_u_n (by omega)).trans e.1, e.2⟩, d16.elim fun f e => ⟨f, (rl_u_n (by omega)).trans e⟩, d17.elim fun f e => ⟨f, (rl_u_n (by omega)).trans e⟩, d18.elim fun f e => ⟨f, (rl_u_n (by omega)).trans e⟩, d19.elim fun f e => ⟨f, (rl_u_n (by omega)).trans e⟩, d20.elim fun f e => ⟨f, (rl_u_n (by omega)).trans e⟩, d21.elim fun f e => ⟨f, (rl_u_n (by omega)).trans e.1, e.2⟩, d22.elim fun f e => ⟨f, (rl_u_n (by omega)).trans e⟩⟩, fun q a b => (rl_u_n (by omega)).trans (fr q a b)⟩
theorem mq.s15 {ids : Nat → ClassId} {h0 h : rl_H} {m : Nat} {T : md_T} {fu : Int32} {k : Nat} (H : mq ids h0 h m T fu k) (f : Nat → Int32) (hb : ∀ k : Nat, k < 1368 → ∃ t : Nat, t ≤ 12 ∧ f k = nI t) : mq ids h0 (rl_u h (m + 15) (.inl (ids 0, 1368, .inl f))) m T fu k := by
  obtain ⟨g0, gk, ⟨d12, d13, d14, d15, d16, d17, d18, d19, d20, d21, d22⟩, fr⟩ := H
  exact ⟨(rl_u_n (by omega)).trans g0, gk, ⟨d12.elim fun f e => ⟨f, (rl_u_n (by omega)).trans e⟩, d13.elim fun f e => ⟨f, (rl_u_n (by omega)).trans e.1, e.2⟩, d14.elim fun f e => ⟨f, (rl_u_n (by omega)).trans e⟩, ⟨f, rl_u_s, hb⟩, d16.elim fun f e => ⟨f, (rl_u_n (by omega)).trans e⟩, d17.elim fun f e => ⟨f, (rl_u_n (by omega)).trans e⟩, d18.elim fun f e => ⟨f, (rl_u_n (by omega)).trans e⟩, d19.elim fun f e => ⟨f, (rl_u_n (by omega)).trans e⟩, d20.elim fun f e => ⟨f, (rl_u_n (by omega)).trans e⟩, d21.elim fun f e => ⟨f, (rl_u_n (by omega)).trans e.1, e.2⟩, d22.elim fun f e => ⟨f, (rl_u_n (by omega)).trans e⟩⟩, fun q a b => (rl_u_n (by omega)).trans (fr q a b)⟩
theorem mq.s16 {ids : Nat → ClassId} {h0 h : rl_H} {m : Nat} {T : md_T} {fu : Int32} {k : Nat} (H : mq ids h0 h m T fu k) (f : Nat → Int64) : mq ids h0 (rl_u h (m + 16) (.inl (ids 1, 16416, .inr (.inl f)))) m T fu k := by
  obtain ⟨g0, gk, ⟨d12, d13, d14, d15, d16, d17, d18, d19, d20, d21, d22⟩, fr⟩ := H
  exact ⟨(rl_u_n (by omega)).trans g0, gk, ⟨d12.elim fun f e => ⟨f, (rl_u_n (by omega)).trans e⟩, d13.elim fun f e => ⟨f, (rl_u_n (by omega)).trans e.1, e.2⟩, d14.elim fun f e => ⟨f, (rl_u_n (by omega)).trans e⟩, d15.elim fun f e => ⟨f, (rl_u_n (by omega)).trans e.1, e.2⟩, ⟨f, rl_u_s⟩, d17.elim fun f e => ⟨f, (rl_u_n (by omega)).trans e⟩, d18.elim fun f e => ⟨f, (rl_u_n (by omega)).trans e⟩, d19.elim fun f e => ⟨f, (rl_u_n (by omega)).trans e⟩, d20.elim fun f e => ⟨f, (rl_u_n (by omega)).trans e⟩, d21.elim fun f e => ⟨f, (rl_u_n (by omega)).trans e.1, e.2⟩, d22.elim fun f e => ⟨f, (rl_u_n (by omega)).trans e⟩⟩, fun q a b => (rl_u_n (by omega)).trans (fr q a b)⟩
theorem mq.s17 {ids : Nat → ClassId} {h0 h : rl_H} {m : Nat} {T : md_T} {fu : Int32} {k : Nat} (H : mq ids h0 h m T fu k) (f : Nat → Int64) : mq ids h0 (rl_u h (m + 17) (.inl (ids 1, 16416, .inr (.inl f)))) m T fu k := by
  obtain ⟨g0, gk, ⟨d12, d13, d14, d15, d16, d17, d18, d19, d20, d21, d22⟩, fr⟩ := H
  exact ⟨(rl_u_n (by omega)).trans g0, gk, ⟨d12.elim fun f e => ⟨f, (rl_u_n (by omega)).trans e⟩, d13.elim fun f e => ⟨f, (rl_u_n (by omega)).trans e.1, e.2⟩, d14.elim fun f e => ⟨f, (rl_u_n (by omega)).trans e⟩, d15.elim fun f e => ⟨f, (rl_u_n (by omega)).trans e.1, e.2⟩, d16.elim fun f e => ⟨f, (rl_u_n (by omega)).trans e⟩, ⟨f, rl_u_s⟩, d18.elim fun f e => ⟨f, (rl_u_n (by omega)).trans e⟩, d19.elim fun f e => ⟨f, (rl_u_n (by omega)).trans e⟩, d20.elim fun f e => ⟨f, (rl_u_n (by omega)).trans e⟩, d21.elim fun f e => ⟨f, (rl_u_n (by omega)).trans e.1, e.2⟩, d22.elim fun f e => ⟨f, (rl_u_n (by omega)).trans e⟩⟩, fun q a b => (rl_u_n (by omega)).trans (fr q a b)⟩
theorem mq.s18 {ids : Nat → ClassId} {h0 h : rl_H} {m : Nat} {T : md_T} {fu : Int32} {k : Nat} (H : mq ids h0 h m T fu k) (f : Nat → Int64) : mq ids h0 (rl_u h (m + 18) (.inl (ids 1, 160, .inr (.inl f)))) m T fu k := by
  obtain ⟨g0, gk, ⟨d12, d13, d14, d15, d16, d17, d18, d19, d20, d21, d22⟩, fr⟩ := H
  exact ⟨(rl_u_n (by omega)).trans g0, gk, ⟨d12.elim fun f e => ⟨f, (rl_u_n (by omega)).trans e⟩, d13.elim fun f e => ⟨f, (rl_u_n (by omega)).trans e.1, e.2⟩, d14.elim fun f e => ⟨f, (rl_u_n (by omega)).trans e⟩, d15.elim fun f e => ⟨f, (rl_u_n (by omega)).trans e.1, e.2⟩, d16.elim fun f e => ⟨f, (rl_u_n (by omega)).trans e⟩, d17.elim fun f e => ⟨f, (rl_u_n (by omega)).trans e⟩, ⟨f, rl_u_s⟩, d19.elim fun f e => ⟨f, (rl_u_n (by omega)).trans e⟩, d20.elim fun f e => ⟨f, (rl_u_n (by omega)).trans e⟩, d21.elim fun f e => ⟨f, (rl_u_n (by omega)).trans e.1, e.2⟩, d22.elim fun f e => ⟨f, (rl_u_n (by omega)).trans e⟩⟩, fun q a b => (rl_u_n (by omega)).trans (fr q a b)⟩
theorem mq.s19 {ids : Nat → ClassId} {h0 h : rl_H} {m : Nat} {T : md_T} {fu : Int32} {k : Nat} (H : mq ids h0 h m T fu k) (f : Nat → Int64) : mq ids h0 (rl_u h (m + 19) (.inl (ids 1, 160, .inr (.inl f)))) m T fu k := by
  obtain ⟨g0, gk, ⟨d12, d13, d14, d15, d16, d17, d18, d19, d20, d21, d22⟩, fr⟩ := H
  exact ⟨(rl_u_n (by omega)).trans g0, gk, ⟨d12.elim fun f e => ⟨f, (rl_u_n (by omega)).trans e⟩, d13.elim fun f e => ⟨f, (rl_u_n (by omega)).trans e.1, e.2⟩, d14.elim fun f e => ⟨f, (rl_u_n (by omega)).trans e⟩, d15.elim fun f e => ⟨f, (rl_u_n (by omega)).trans e.1, e.2⟩, d16.elim fun f e => ⟨f, (rl_u_n (by omega)).trans e⟩, d17.elim fun f e => ⟨f, (rl_u_n (by omega)).trans e⟩, d18.elim fun f e => ⟨f, (rl_u_n (by omega)).trans e⟩, ⟨f, rl_u_s⟩, d20.elim fun f e => ⟨f, (rl_u_n (by omega)).trans e⟩, d21.elim fun f e => ⟨f, (rl_u_n (by omega)).trans e.1, e.2⟩, d22.elim fun f e => ⟨f, (rl_u_n (by omega)).trans e⟩⟩, fun q a b => (rl_u_n (by omega)).trans (fr q a b)⟩
theorem mq.s20 {ids : Nat → ClassId} {h0 h : rl_H} {m : Nat} {T : md_T} {fu : Int32} {k : Nat} (H : mq ids h0 h m T fu k) (f : Nat → Int32) : mq ids h0 (rl_u h (m + 20) (.inl (ids 0, 6, .inl f))) m T fu k := by
  obtain ⟨g0, gk, ⟨d12, d13, d14, d15, d16, d17, d18, d19, d20, d21, d22⟩, fr⟩ := H
  exact ⟨(rl_u_n (by omega)).trans g0, gk, ⟨d12.elim fun f e => ⟨f, (rl_u_n (by omega)).trans e⟩, d13.elim fun f e => ⟨f, (rl_u_n (by omega)).trans e.1, e.2⟩, d14.elim fun f e => ⟨f, (rl_u_n (by omega)).trans e⟩, d15.elim fun f e => ⟨f, (rl_u_n (by omega)).trans e.1, e.2⟩, d16.elim fun f e => ⟨f, (rl_u_n (by omega)).trans e⟩, d17.elim fun f e => ⟨f, (rl_u_n (by omega)).trans e⟩, d18.elim fun f e => ⟨f, (rl_u_n (by omega)).trans e⟩, d19.elim fun f e => ⟨f, (rl_u_n (by omega)).trans e⟩, ⟨f, rl_u_s⟩, d21.elim fun f e => ⟨f, (rl_u_n (by omega)).trans e.1, e.2⟩, d22.elim fun f e => ⟨f, (rl_u_n (by omega)).trans e⟩⟩, fun q a b => (rl_u_n (by omega)).trans (fr q a b)⟩
theorem mq.s21 {ids : Nat → ClassId} {h0 h : rl_H} {m : Nat} {T : md_T} {fu : Int32} {k : Nat} (H : mq ids h0 h m T fu k) (f : Nat → Int32) (hb : ∀ k : Nat, k < 4 → ∃ t : Nat, t < 80 ∧ f k = nI t) : mq ids h0 (rl_u h (m + 21) (.inl (ids 0, 4, .inl f))) m T fu k := by
  obtain ⟨g0, gk, ⟨d12, d13, d14, d15, d16, d17, d18, d19, d20, d21, d22⟩, fr⟩ := H
  exact ⟨(rl_u_n (by omega)).trans g0, gk, ⟨d12.elim fun f e => ⟨f, (rl_u_n (by omega)).trans e⟩, d13.elim fun f e => ⟨f, (rl_u_n (by omega)).trans e.1, e.2⟩, d14.elim fun f e => ⟨f, (rl_u_n (by omega)).trans e⟩, d15.elim fun f e => ⟨f, (rl_u_n (by omega)).trans e.1, e.2⟩, d16.elim fun f e => ⟨f, (rl_u_n (by omega)).trans e⟩, d17.elim fun f e => ⟨f, (rl_u_n (by omega)).trans e⟩, d18.elim fun f e => ⟨f, (rl_u_n (by omega)).trans e⟩, d19.elim fun f e => ⟨f, (rl_u_n (by omega)).trans e⟩, d20.elim fun f e => ⟨f, (rl_u_n (by omega)).trans e⟩, ⟨f, rl_u_s, hb⟩, d22.elim fun f e => ⟨f, (rl_u_n (by omega)).trans e⟩⟩, fun q a b => (rl_u_n (by omega)).trans (fr q a b)⟩
theorem mq.s22 {ids : Nat → ClassId} {h0 h : rl_H} {m : Nat} {T : md_T} {fu : Int32} {k : Nat} (H : mq ids h0 h m T fu k) (f : Nat → Int32) : mq ids h0 (rl_u h (m + 22) (.inl (ids 0, 36, .inl f))) m T fu k := by
  obtain ⟨g0, gk, ⟨d12, d13, d14, d15, d16, d17, d18, d19, d20, d21, d22⟩, fr⟩ := H
  exact ⟨(rl_u_n (by omega)).trans g0, gk, ⟨d12.elim fun f e => ⟨f, (rl_u_n (by omega)).trans e⟩, d13.elim fun f e => ⟨f, (rl_u_n (by omega)).trans e.1, e.2⟩, d14.elim fun f e => ⟨f, (rl_u_n (by omega)).trans e⟩, d15.elim fun f e => ⟨f, (rl_u_n (by omega)).trans e.1, e.2⟩, d16.elim fun f e => ⟨f, (rl_u_n (by omega)).trans e⟩, d17.elim fun f e => ⟨f, (rl_u_n (by omega)).trans e⟩, d18.elim fun f e => ⟨f, (rl_u_n (by omega)).trans e⟩, d19.elim fun f e => ⟨f, (rl_u_n (by omega)).trans e⟩, d20.elim fun f e => ⟨f, (rl_u_n (by omega)).trans e⟩, d21.elim fun f e => ⟨f, (rl_u_n (by omega)).trans e.1, e.2⟩, ⟨f, rl_u_s⟩⟩, fun q a b => (rl_u_n (by omega)).trans (fr q a b)⟩
theorem md_bd {B N : Nat} {f : Nat → Int32} {i : Nat} {x : Int32} (H : ∀ k : Nat, k < N → ∃ t : Nat, t ≤ B ∧ f k = nI t) (hx : ∃ t : Nat, t ≤ B ∧ x = nI t) : ∀ k : Nat, k < N → ∃ t : Nat, t ≤ B ∧ upd f i x k = nI t := by
  intro k hk
  unfold upd
  by_cases q : k = i
  · rw [if_pos q]
    exact hx
  · rw [if_neg q]
    exact H k hk
theorem md_bl {B N : Nat} {f : Nat → Int32} {i : Nat} {x : Int32} (H : ∀ k : Nat, k < N → ∃ t : Nat, t < B ∧ f k = nI t) (hx : ∃ t : Nat, t < B ∧ x = nI t) : ∀ k : Nat, k < N → ∃ t : Nat, t < B ∧ upd f i x k = nI t := by
  intro k hk
  unfold upd
  by_cases q : k = i
  · rw [if_pos q]
    exact hx
  · rw [if_neg q]
    exact H k hk

set_option maxHeartbeats 4000000 in
set_option maxRecDepth 100000 in
theorem cm_X8_heapTerm (l : Launch) (D : va_G) (ids : Nat → ClassId) (H0 : Heap) (h : rl_H) (n : Nat) (m : Nat) (T : md_T) (fu : Int32) (k : Nat) (a b : Int64) (hq : mq ids h h m T fu k) (hk : k < 160) : rl_Met l (rl_e D ids H0) rl_BW rl_Ns yX8_heapTerm cX8_heapTerm 5 none ({ frames := 0, cells := 0, slots := 0, locals := 0 }) [.ref m, .long a, .long b] h n (fun v h' n' => v = none ∧ n' = n ∧ mq ids h h' m T fu (k + 1)) := by
  obtain ⟨g0, gk, ⟨⟨cl, g12⟩, ⟨tu, g13, b13⟩, ⟨im, g14⟩, ⟨te, g15, b15⟩, ⟨ne, g16⟩, ⟨la, g17⟩, ⟨hn, g18⟩, ⟨hl, g19⟩, ⟨tp, g20⟩, ⟨gr, g21, b21⟩, ⟨it, g22⟩⟩, gf⟩ := id hq
  refine rl_Met.of (by decide +kernel) (Nat.le_of_ble_eq_true rfl) ?_
  intro X hC hB
  show rl_G X (rl_e D ids H0) 0 [some (.ref m), some (.long a), none, some (.long b), none] [] h n 0 0
  refine o_aload_n hC dX8_heapTerm_0 (by rfl) ?_
  refine o_getf hC (fX8_63 hC rfl) dX8_heapTerm_1 (by repeat (first | with_reducible assumption | (rw [rl_u_s]; done) | (rw [rl_u_s]; rfl) | rw [rl_u_n (by first | with_reducible assumption | omega)])) (by first | rfl | with_reducible assumption) ?_
  refine o_aload_n hC dX8_heapTerm_4 (by rfl) ?_
  refine o_getf hC (fX8_82 hC rfl) dX8_heapTerm_5 (by repeat (first | with_reducible assumption | (rw [rl_u_s]; done) | (rw [rl_u_s]; rfl) | rw [rl_u_n (by first | with_reducible assumption | omega)])) (by first | rfl | with_reducible assumption) ?_
  refine o_lload_n hC dX8_heapTerm_8 (by rfl) ?_
  refine o_lastN (t0 := 1) hC rfl dX8_heapTerm_9 (by repeat (first | with_reducible assumption | (rw [rl_u_s]; done) | (rw [rl_u_s]; rfl) | rw [rl_u_n (by first | with_reducible assumption | omega)])) (by omega) (by decide) ?_
  refine o_aload_n hC dX8_heapTerm_10 (by rfl) ?_
  refine o_getf hC (fX8_66 hC rfl) dX8_heapTerm_11 (by repeat (first | with_reducible assumption | (rw [rl_u_s]; done) | (rw [rl_u_s]; rfl) | rw [rl_u_n (by first | with_reducible assumption | omega)])) (by first | rfl | with_reducible assumption) ?_
  refine o_aload_n hC dX8_heapTerm_14 (by rfl) ?_
  refine o_getf hC (fX8_82 hC rfl) dX8_heapTerm_15 (by repeat (first | with_reducible assumption | (rw [rl_u_s]; done) | (rw [rl_u_s]; rfl) | rw [rl_u_n (by first | with_reducible assumption | omega)])) (by first | rfl | with_reducible assumption) ?_
  refine o_lload_n hC dX8_heapTerm_18 (by rfl) ?_
  refine o_lastN (t0 := 1) hC rfl dX8_heapTerm_19 (by repeat (first | with_reducible assumption | (rw [rl_u_s]; done) | (rw [rl_u_s]; rfl) | rw [rl_u_n (by first | with_reducible assumption | omega)])) (by omega) (by decide) ?_
  refine o_aload_n hC dX8_heapTerm_20 (by rfl) ?_
  refine o_dup hC dX8_heapTerm_21 rfl ?_
  refine o_getf hC (fX8_82 hC rfl) dX8_heapTerm_22 (by repeat (first | with_reducible assumption | (rw [rl_u_s]; done) | (rw [rl_u_s]; rfl) | rw [rl_u_n (by first | with_reducible assumption | omega)])) (by first | rfl | with_reducible assumption) ?_
  refine o_iconst (v := nI 1) hC dX8_heapTerm_25 (by decide +kernel) ?_
  refine o_iadd hC dX8_heapTerm_26 ?_
  try rw [nI_add]
  refine o_putf hC (fX8_82 hC rfl) (fwX8 rfl rfl rfl (Or.inl rfl)) dX8_heapTerm_27 (by repeat (first | with_reducible assumption | (rw [rl_u_s]; done) | (rw [rl_u_s]; rfl) | rw [rl_u_n (by first | with_reducible assumption | omega)])) (Nat.le_of_ble_eq_true rfl) ?_
  try simp only [List.set_cons_zero, List.set_cons_succ]
  refine o_vret hC hB dX8_heapTerm_30 (Nat.le_of_ble_eq_true rfl) (Nat.le_of_ble_eq_true rfl) ?_
  exact ⟨rfl, rfl, ((hq.s18 _).s19 _).ob T fu (k + 1) (by omega)⟩

set_option maxHeartbeats 4000000 in
set_option maxRecDepth 100000 in
theorem cm_X8_truth (l : Launch) (D : va_G) (ids : Nat → ClassId) (H0 : Heap) (h : rl_H) (n : Nat) (m : Nat) (T : md_T) (fu : Int32) (k : Nat) (a : Nat) (hq : mq ids h h m T fu k) (ha : a < 1368) : rl_Met l (rl_e D ids H0) rl_BW rl_Ns yX8_truth cX8_truth 2 none ({ frames := 0, cells := 0, slots := 0, locals := 0 }) [.ref m, .int (nI a)] h n (fun v h' n' => v = none ∧ n' = n ∧ mq ids h h' m T fu k) := by
  obtain ⟨g0, gk, ⟨⟨cl, g12⟩, ⟨tu, g13, b13⟩, ⟨im, g14⟩, ⟨te, g15, b15⟩, ⟨ne, g16⟩, ⟨la, g17⟩, ⟨hn, g18⟩, ⟨hl, g19⟩, ⟨tp, g20⟩, ⟨gr, g21, b21⟩, ⟨it, g22⟩⟩, gf⟩ := id hq
  refine rl_Met.of (by decide +kernel) (Nat.le_of_ble_eq_true rfl) ?_
  intro X hC hB
  show rl_G X (rl_e D ids H0) 0 [some (.ref m), some (.int (nI a))] [] h n 0 0
  refine o_aload_n hC dX8_truth_0 (by rfl) ?_
  refine o_getf hC (fX8_53 hC rfl) dX8_truth_1 (by repeat (first | with_reducible assumption | (rw [rl_u_s]; done) | (rw [rl_u_s]; rfl) | rw [rl_u_n (by first | with_reducible assumption | omega)])) (by first | rfl | with_reducible assumption) ?_
  refine o_iload_n hC dX8_truth_4 (by rfl) ?_
  refine o_iconst (v := nI 1) hC dX8_truth_5 (by decide +kernel) ?_
  refine o_iastN (t0 := 0) hC rfl dX8_truth_6 (by repeat (first | with_reducible assumption | (rw [rl_u_s]; done) | (rw [rl_u_s]; rfl) | rw [rl_u_n (by first | with_reducible assumption | omega)])) (by omega) (by decide) ?_
  refine o_aload_n hC dX8_truth_7 (by rfl) ?_
  refine o_getf hC (fX8_56 hC rfl) dX8_truth_8 (by repeat (first | with_reducible assumption | (rw [rl_u_s]; done) | (rw [rl_u_s]; rfl) | rw [rl_u_n (by first | with_reducible assumption | omega)])) (by first | rfl | with_reducible assumption) ?_
  refine o_bipush (v := nI 12) hC dX8_truth_11 (by decide +kernel) ?_
  refine o_iload_n hC dX8_truth_13 (by rfl) ?_
  refine o_imul hC dX8_truth_14 ?_
  try rw [nI_mul]
  refine o_lconst (v := 0) hC dX8_truth_15 (by decide +kernel) ?_
  refine o_lastN (t0 := 1) hC rfl dX8_truth_16 (by repeat (first | with_reducible assumption | (rw [rl_u_s]; done) | (rw [rl_u_s]; rfl) | rw [rl_u_n (by first | with_reducible assumption | omega)])) (by omega) (by decide) ?_
  refine o_aload_n hC dX8_truth_17 (by rfl) ?_
  refine o_getf hC (fX8_60 hC rfl) dX8_truth_18 (by repeat (first | with_reducible assumption | (rw [rl_u_s]; done) | (rw [rl_u_s]; rfl) | rw [rl_u_n (by first | with_reducible assumption | omega)])) (by first | rfl | with_reducible assumption) ?_
  refine o_bipush (v := nI 12) hC dX8_truth_21 (by decide +kernel) ?_
  refine o_iload_n hC dX8_truth_23 (by rfl) ?_
  refine o_imul hC dX8_truth_24 ?_
  try rw [nI_mul]
  refine o_lconst (v := 0) hC dX8_truth_25 (by decide +kernel) ?_
  refine o_lastN (t0 := 1) hC rfl dX8_truth_26 (by repeat (first | with_reducible assumption | (rw [rl_u_s]; done) | (rw [rl_u_s]; rfl) | rw [rl_u_n (by first | with_reducible assumption | omega)])) (by omega) (by decide) ?_
  refine o_vret hC hB dX8_truth_27 (Nat.le_of_ble_eq_true rfl) (Nat.le_of_ble_eq_true rfl) ?_
  exact ⟨rfl, rfl, ((hq.s15 _ (md_bd b15 ⟨1, by decide, rfl⟩)).s16 _).s17 _⟩

set_option maxHeartbeats 4000000 in
set_option maxRecDepth 100000 in
theorem cm_X8_cellAt (l : Launch) (D : va_G) (ids : Nat → ClassId) (H0 : Heap) (h : rl_H) (n : Nat) (m : Nat) (T : md_T) (fu : Int32) (k : Nat) (a t c : Nat) (hq : mq ids h h m T fu k) (ha : (80 * a + t) * 6 + c < 8160) : rl_Met l (rl_e D ids H0) rl_BW rl_Ns yX8_cellAt cX8_cellAt 4 (some .int) ({ frames := 0, cells := 0, slots := 0, locals := 0 }) [.ref m, .int (nI a), .int (nI t), .int (nI c)] h n (fun v h' n' => ∃ r : Int32, v = some (.int r) ∧ h' = h ∧ n' = n) := by
  obtain ⟨g0, gk, ⟨⟨cl, g12⟩, ⟨tu, g13, b13⟩, ⟨im, g14⟩, ⟨te, g15, b15⟩, ⟨ne, g16⟩, ⟨la, g17⟩, ⟨hn, g18⟩, ⟨hl, g19⟩, ⟨tp, g20⟩, ⟨gr, g21, b21⟩, ⟨it, g22⟩⟩, gf⟩ := id hq
  refine rl_Met.of (by decide +kernel) (Nat.le_of_ble_eq_true rfl) ?_
  intro X hC hB
  show rl_G X (rl_e D ids H0) 0 [some (.ref m), some (.int (nI a)), some (.int (nI t)), some (.int (nI c))] [] h n 0 0
  refine o_aload_n hC dX8_cellAt_0 (by rfl) ?_
  refine o_getf hC (fX8_43 hC rfl) dX8_cellAt_1 (by repeat (first | with_reducible assumption | (rw [rl_u_s]; done) | (rw [rl_u_s]; rfl) | rw [rl_u_n (by first | with_reducible assumption | omega)])) (by first | rfl | with_reducible assumption) ?_
  refine o_bipush (v := nI 80) hC dX8_cellAt_4 (by decide +kernel) ?_
  refine o_iload_n hC dX8_cellAt_6 (by rfl) ?_
  refine o_imul hC dX8_cellAt_7 ?_
  try rw [nI_mul]
  refine o_iload_n hC dX8_cellAt_8 (by rfl) ?_
  refine o_iadd hC dX8_cellAt_9 ?_
  try rw [nI_add]
  refine o_bipush (v := nI 6) hC dX8_cellAt_10 (by decide +kernel) ?_
  refine o_imul hC dX8_cellAt_12 ?_
  try rw [nI_mul]
  refine o_iload_n hC dX8_cellAt_13 (by rfl) ?_
  refine o_iadd hC dX8_cellAt_14 ?_
  try rw [nI_add]
  refine o_ialdN (t0 := 0) hC rfl dX8_cellAt_15 (by repeat (first | with_reducible assumption | (rw [rl_u_s]; done) | (rw [rl_u_s]; rfl) | rw [rl_u_n (by first | with_reducible assumption | omega)])) (by omega) (by decide) ?_
  refine o_iret hC hB dX8_cellAt_16 (Nat.le_of_ble_eq_true rfl) (Nat.le_of_ble_eq_true rfl) ?_
  exact ⟨_, rfl, rfl, rfl⟩

set_option maxHeartbeats 4000000 in
set_option maxRecDepth 100000 in
theorem cm_X8_copy (l : Launch) (D : va_G) (ids : Nat → ClassId) (H0 : Heap) (h : rl_H) (n : Nat) (m : Nat) (T : md_T) (fu : Int32) (k : Nat) (a b : Nat) (hq : mq ids h h m T fu k) (ha : a < 1368) (hb : b < 1368) : rl_Met l (rl_e D ids H0) rl_BW rl_Ns yX8_copy cX8_copy 4 none ({ frames := 0, cells := 0, slots := 0, locals := 0 }) [.ref m, .int (nI a), .int (nI b)] h n (fun v h' n' => v = none ∧ n' = n ∧ mq ids h h' m T fu k ∧ ∀ q : Nat, q ≠ m + 15 → q ≠ m + 16 → q ≠ m + 17 → h' q = h q) := by
  obtain ⟨g0, gk, ⟨⟨cl, g12⟩, ⟨tu, g13, b13⟩, ⟨im, g14⟩, ⟨te, g15, b15⟩, ⟨ne, g16⟩, ⟨la, g17⟩, ⟨hn, g18⟩, ⟨hl, g19⟩, ⟨tp, g20⟩, ⟨gr, g21, b21⟩, ⟨it, g22⟩⟩, gf⟩ := id hq
  refine rl_Met.of (by decide +kernel) (Nat.le_of_ble_eq_true rfl) ?_
  intro X hC hB
  have loop : ∀ (mm j : Nat) (h1 : rl_H), j + mm = 12 → mq ids h h1 m T fu k → (∀ q : Nat, q ≠ m + 15 → q ≠ m + 16 → q ≠ m + 17 → h1 q = h q) → rl_G X (rl_e D ids H0) 14 [some (.ref m), some (.int (nI a)), some (.int (nI b)), some (.int (nI j))] [] h1 n 0 0 := by
    intro mm
    induction mm with
    | zero =>
      intro j h1 hm hq1 hf
      obtain ⟨g0, gk, ⟨⟨cl, g12⟩, ⟨tu, g13, b13⟩, ⟨im, g14⟩, ⟨te, g15, b15⟩, ⟨ne, g16⟩, ⟨la, g17⟩, ⟨hn, g18⟩, ⟨hl, g19⟩, ⟨tp, g20⟩, ⟨gr, g21, b21⟩, ⟨it, g22⟩⟩, gf⟩ := id hq1
      refine o_iload_n hC dX8_copy_14 (by rfl) ?_
      refine o_aload_n hC dX8_copy_15 (by rfl) ?_
      refine o_getf hC (fX8_53 hC rfl) dX8_copy_16 (by repeat (first | with_reducible assumption | (rw [rl_u_s]; done) | (rw [rl_u_s]; rfl) | rw [rl_u_n (by first | with_reducible assumption | omega)])) (by first | rfl | with_reducible assumption) ?_
      refine o_iload_n hC dX8_copy_19 (by rfl) ?_
      obtain ⟨t20, ht20, et20⟩ := b15 b (by omega)
      refine o_ialdN (t0 := 0) (k := b) hC rfl dX8_copy_20 (by repeat (first | with_reducible assumption | (rw [rl_u_s]; done) | (rw [rl_u_s]; rfl) | rw [rl_u_n (by first | with_reducible assumption | omega)])) (by omega) (by decide) ?_
      rw [et20]
      refine o_icmp_ge (tgt := 74) hC dX8_copy_21 (by decide) (fun c_21 => ?_) (fun c_21 => ?_)
      · refine o_vret hC hB dX8_copy_74 (Nat.le_of_ble_eq_true rfl) (Nat.le_of_ble_eq_true rfl) ?_
        exact ⟨rfl, rfl, hq1, hf⟩
      · exact absurd (nI_le (by omega) (by omega)) c_21
    | succ mm ih =>
      intro j h1 hm hq1 hf
      obtain ⟨g0, gk, ⟨⟨cl, g12⟩, ⟨tu, g13, b13⟩, ⟨im, g14⟩, ⟨te, g15, b15⟩, ⟨ne, g16⟩, ⟨la, g17⟩, ⟨hn, g18⟩, ⟨hl, g19⟩, ⟨tp, g20⟩, ⟨gr, g21, b21⟩, ⟨it, g22⟩⟩, gf⟩ := id hq1
      refine o_iload_n hC dX8_copy_14 (by rfl) ?_
      refine o_aload_n hC dX8_copy_15 (by rfl) ?_
      refine o_getf hC (fX8_53 hC rfl) dX8_copy_16 (by repeat (first | with_reducible assumption | (rw [rl_u_s]; done) | (rw [rl_u_s]; rfl) | rw [rl_u_n (by first | with_reducible assumption | omega)])) (by first | rfl | with_reducible assumption) ?_
      refine o_iload_n hC dX8_copy_19 (by rfl) ?_
      obtain ⟨t20, ht20, et20⟩ := b15 b (by omega)
      refine o_ialdN (t0 := 0) (k := b) hC rfl dX8_copy_20 (by repeat (first | with_reducible assumption | (rw [rl_u_s]; done) | (rw [rl_u_s]; rfl) | rw [rl_u_n (by first | with_reducible assumption | omega)])) (by omega) (by decide) ?_
      rw [et20]
      refine o_icmp_ge (tgt := 74) hC dX8_copy_21 (by decide) (fun c_21 => ?_) (fun c_21 => ?_)
      · refine o_vret hC hB dX8_copy_74 (Nat.le_of_ble_eq_true rfl) (Nat.le_of_ble_eq_true rfl) ?_
        exact ⟨rfl, rfl, hq1, hf⟩
      · refine o_aload_n hC dX8_copy_24 (by rfl) ?_
        refine o_getf hC (fX8_56 hC rfl) dX8_copy_25 (by repeat (first | with_reducible assumption | (rw [rl_u_s]; done) | (rw [rl_u_s]; rfl) | rw [rl_u_n (by first | with_reducible assumption | omega)])) (by first | rfl | with_reducible assumption) ?_
        refine o_bipush (v := nI 12) hC dX8_copy_28 (by decide +kernel) ?_
        refine o_iload_n hC dX8_copy_30 (by rfl) ?_
        refine o_imul hC dX8_copy_31 ?_
        try rw [nI_mul]
        refine o_iload_n hC dX8_copy_32 (by rfl) ?_
        refine o_iadd hC dX8_copy_33 ?_
        try rw [nI_add]
        refine o_aload_n hC dX8_copy_34 (by rfl) ?_
        refine o_getf hC (fX8_56 hC rfl) dX8_copy_35 (by repeat (first | with_reducible assumption | (rw [rl_u_s]; done) | (rw [rl_u_s]; rfl) | rw [rl_u_n (by first | with_reducible assumption | omega)])) (by first | rfl | with_reducible assumption) ?_
        refine o_bipush (v := nI 12) hC dX8_copy_38 (by decide +kernel) ?_
        refine o_iload_n hC dX8_copy_40 (by rfl) ?_
        refine o_imul hC dX8_copy_41 ?_
        try rw [nI_mul]
        refine o_iload_n hC dX8_copy_42 (by rfl) ?_
        refine o_iadd hC dX8_copy_43 ?_
        try rw [nI_add]
        refine o_laldN (t0 := 1) hC rfl dX8_copy_44 (by repeat (first | with_reducible assumption | (rw [rl_u_s]; done) | (rw [rl_u_s]; rfl) | rw [rl_u_n (by first | with_reducible assumption | omega)])) (by omega) (by decide) ?_
        refine o_lastN (t0 := 1) hC rfl dX8_copy_45 (by repeat (first | with_reducible assumption | (rw [rl_u_s]; done) | (rw [rl_u_s]; rfl) | rw [rl_u_n (by first | with_reducible assumption | omega)])) (by omega) (by decide) ?_
        refine o_aload_n hC dX8_copy_46 (by rfl) ?_
        refine o_getf hC (fX8_60 hC rfl) dX8_copy_47 (by repeat (first | with_reducible assumption | (rw [rl_u_s]; done) | (rw [rl_u_s]; rfl) | rw [rl_u_n (by first | with_reducible assumption | omega)])) (by first | rfl | with_reducible assumption) ?_
        refine o_bipush (v := nI 12) hC dX8_copy_50 (by decide +kernel) ?_
        refine o_iload_n hC dX8_copy_52 (by rfl) ?_
        refine o_imul hC dX8_copy_53 ?_
        try rw [nI_mul]
        refine o_iload_n hC dX8_copy_54 (by rfl) ?_
        refine o_iadd hC dX8_copy_55 ?_
        try rw [nI_add]
        refine o_aload_n hC dX8_copy_56 (by rfl) ?_
        refine o_getf hC (fX8_60 hC rfl) dX8_copy_57 (by repeat (first | with_reducible assumption | (rw [rl_u_s]; done) | (rw [rl_u_s]; rfl) | rw [rl_u_n (by first | with_reducible assumption | omega)])) (by first | rfl | with_reducible assumption) ?_
        refine o_bipush (v := nI 12) hC dX8_copy_60 (by decide +kernel) ?_
        refine o_iload_n hC dX8_copy_62 (by rfl) ?_
        refine o_imul hC dX8_copy_63 ?_
        try rw [nI_mul]
        refine o_iload_n hC dX8_copy_64 (by rfl) ?_
        refine o_iadd hC dX8_copy_65 ?_
        try rw [nI_add]
        refine o_laldN (t0 := 1) hC rfl dX8_copy_66 (by repeat (first | with_reducible assumption | (rw [rl_u_s]; done) | (rw [rl_u_s]; rfl) | rw [rl_u_n (by first | with_reducible assumption | omega)])) (by omega) (by decide) ?_
        refine o_lastN (t0 := 1) hC rfl dX8_copy_67 (by repeat (first | with_reducible assumption | (rw [rl_u_s]; done) | (rw [rl_u_s]; rfl) | rw [rl_u_n (by first | with_reducible assumption | omega)])) (by omega) (by decide) ?_
        refine o_iinc hC dX8_copy_68 (by rfl) (rl_inc _) (Nat.le_of_ble_eq_true rfl) ?_
        refine o_goto (tgt := 14) hC dX8_copy_71 (by decide) ?_
        exact ih (j + 1) _ (by omega) ((hq1.s16 _).s17 _) (fun q z1 z2 z3 => by rw [rl_u_n z3, rl_u_n z2]; exact hf q z1 z2 z3)
  show rl_G X (rl_e D ids H0) 0 [some (.ref m), some (.int (nI a)), some (.int (nI b)), none] [] h n 0 0
  refine o_aload_n hC dX8_copy_0 (by rfl) ?_
  refine o_getf hC (fX8_53 hC rfl) dX8_copy_1 (by repeat (first | with_reducible assumption | (rw [rl_u_s]; done) | (rw [rl_u_s]; rfl) | rw [rl_u_n (by first | with_reducible assumption | omega)])) (by first | rfl | with_reducible assumption) ?_
  refine o_iload_n hC dX8_copy_4 (by rfl) ?_
  refine o_aload_n hC dX8_copy_5 (by rfl) ?_
  refine o_getf hC (fX8_53 hC rfl) dX8_copy_6 (by repeat (first | with_reducible assumption | (rw [rl_u_s]; done) | (rw [rl_u_s]; rfl) | rw [rl_u_n (by first | with_reducible assumption | omega)])) (by first | rfl | with_reducible assumption) ?_
  refine o_iload_n hC dX8_copy_9 (by rfl) ?_
  refine o_ialdN (t0 := 0) hC rfl dX8_copy_10 (by repeat (first | with_reducible assumption | (rw [rl_u_s]; done) | (rw [rl_u_s]; rfl) | rw [rl_u_n (by first | with_reducible assumption | omega)])) (by omega) (by decide) ?_
  refine o_iastN (t0 := 0) hC rfl dX8_copy_11 (by repeat (first | with_reducible assumption | (rw [rl_u_s]; done) | (rw [rl_u_s]; rfl) | rw [rl_u_n (by first | with_reducible assumption | omega)])) (by omega) (by decide) ?_
  refine o_iconst (v := nI 0) hC dX8_copy_12 (by decide +kernel) ?_
  refine o_istore_n hC dX8_copy_13 (Nat.le_of_ble_eq_true rfl) ?_
  exact loop 12 0 _ (by omega) (hq.s15 _ (md_bd b15 (b15 b hb))) (fun q z1 z2 z3 => rl_u_n z1)
