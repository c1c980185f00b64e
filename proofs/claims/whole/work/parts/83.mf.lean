/-! THE MODEL, its arrays as they are -/
abbrev md_D : Type := (Nat → Int32) × (Nat → Int32) × (Nat → Int32) × (Nat → Int32) × (Nat → Int64) × (Nat → Int64) × (Nat → Int64) × (Nat → Int64) × (Nat → Int32) × (Nat → Int32) × (Nat → Int32)
def mf (ids : Nat → ClassId) (h0 h : rl_H) (m : Nat) (T : md_T) (fu : Int32) (k : Nat) (A : md_D) : Prop := mq ids h0 h m T fu k ∧ h (m + 12) = some (.inl (ids 0, 8160, .inl A.1)) ∧ h (m + 13) = some (.inl (ids 0, 17, .inl A.2.1)) ∧ h (m + 14) = some (.inl (ids 2, 16, .inl A.2.2.1)) ∧ h (m + 15) = some (.inl (ids 0, 1368, .inl A.2.2.2.1)) ∧ h (m + 16) = some (.inl (ids 1, 16416, .inr (.inl A.2.2.2.2.1))) ∧ h (m + 17) = some (.inl (ids 1, 16416, .inr (.inl A.2.2.2.2.2.1))) ∧ h (m + 18) = some (.inl (ids 1, 160, .inr (.inl A.2.2.2.2.2.2.1))) ∧ h (m + 19) = some (.inl (ids 1, 160, .inr (.inl A.2.2.2.2.2.2.2.1))) ∧ h (m + 20) = some (.inl (ids 0, 6, .inl A.2.2.2.2.2.2.2.2.1)) ∧ h (m + 21) = some (.inl (ids 0, 4, .inl A.2.2.2.2.2.2.2.2.2.1)) ∧ h (m + 22) = some (.inl (ids 0, 36, .inl A.2.2.2.2.2.2.2.2.2.2))

theorem mf.rf {ids : Nat → ClassId} {h0 h : rl_H} {m : Nat} {T : md_T} {fu : Int32} {k : Nat} {A : md_D} (H : mf ids h0 h m T fu k A) : mf ids h h m T fu k A := ⟨H.1.rf, H.2⟩
theorem mf.tr {ids : Nat → ClassId} {h0 h1 h : rl_H} {m : Nat} {T T' : md_T} {fu fu' : Int32} {k k' : Nat} {A A' : md_D} (H : mf ids h0 h1 m T fu k A) (H2 : mf ids h1 h m T' fu' k' A') : mf ids h0 h m T' fu' k' A' := ⟨H.1.tr H2.1, H2.2⟩
theorem mf.ob {ids : Nat → ClassId} {h0 h : rl_H} {m : Nat} {T : md_T} {fu : Int32} {k : Nat} {A : md_D} (H : mf ids h0 h m T fu k A) (T' : md_T) (fu' : Int32) (k' : Nat) (hk : k' ≤ 160) : mf ids h0 (rl_u h m (md_ob m T' fu' k')) m T' fu' k' A := by
  obtain ⟨q, g12, g13, g14, g15, g16, g17, g18, g19, g20, g21, g22⟩ := H
  exact ⟨q.ob T' fu' k' hk, (rl_u_n (by omega)).trans g12, (rl_u_n (by omega)).trans g13, (rl_u_n (by omega)).trans g14, (rl_u_n (by omega)).trans g15, (rl_u_n (by omega)).trans g16, (rl_u_n (by omega)).trans g17, (rl_u_n (by omega)).trans g18, (rl_u_n (by omega)).trans g19, (rl_u_n (by omega)).trans g20, (rl_u_n (by omega)).trans g21, (rl_u_n (by omega)).trans g22⟩
theorem mf_inj32 {c c' : ClassId} {N N' : Nat} {f g : Nat → Int32} (h : (some (.inl (c, N, .inl f)) : Option va_E) = some (.inl (c', N', .inl g))) : f = g := by
  injection h with h
  injection h with h
  injection h with _ h
  injection h with _ h
  injection h
theorem mf.b13 {ids : Nat → ClassId} {h0 h : rl_H} {m : Nat} {T : md_T} {fu : Int32} {k : Nat} {A : md_D} (H : mf ids h0 h m T fu k A) : ∀ k : Nat, k < 17 → ∃ t : Nat, t ≤ 80 ∧ (A.2.1) k = nI t := by
  obtain ⟨⟨-, -, ⟨d12, d13, d14, d15, d16, d17, d18, d19, d20, d21, d22⟩, -⟩, g12, g13, g14, g15, g16, g17, g18, g19, g20, g21, g22⟩ := H
  obtain ⟨f, e1, e2⟩ := d13
  rw [mf_inj32 (g13.symm.trans e1)]
  exact e2
theorem mf.b15 {ids : Nat → ClassId} {h0 h : rl_H} {m : Nat} {T : md_T} {fu : Int32} {k : Nat} {A : md_D} (H : mf ids h0 h m T fu k A) : ∀ k : Nat, k < 1368 → ∃ t : Nat, t ≤ 12 ∧ (A.2.2.2.1) k = nI t := by
  obtain ⟨⟨-, -, ⟨d12, d13, d14, d15, d16, d17, d18, d19, d20, d21, d22⟩, -⟩, g12, g13, g14, g15, g16, g17, g18, g19, g20, g21, g22⟩ := H
  obtain ⟨f, e1, e2⟩ := d15
  rw [mf_inj32 (g15.symm.trans e1)]
  exact e2
theorem mf.b21 {ids : Nat → ClassId} {h0 h : rl_H} {m : Nat} {T : md_T} {fu : Int32} {k : Nat} {A : md_D} (H : mf ids h0 h m T fu k A) : ∀ k : Nat, k < 4 → ∃ t : Nat, t < 80 ∧ (A.2.2.2.2.2.2.2.2.2.1) k = nI t := by
  obtain ⟨⟨-, -, ⟨d12, d13, d14, d15, d16, d17, d18, d19, d20, d21, d22⟩, -⟩, g12, g13, g14, g15, g16, g17, g18, g19, g20, g21, g22⟩ := H
  obtain ⟨f, e1, e2⟩ := d21
  rw [mf_inj32 (g21.symm.trans e1)]
  exact e2
theorem mf.s12 {ids : Nat → ClassId} {h0 h : rl_H} {m : Nat} {T : md_T} {fu : Int32} {k : Nat} {A : md_D} (H : mf ids h0 h m T fu k A) (f : Nat → Int32) : mf ids h0 (rl_u h (m + 12) (.inl (ids 0, 8160, .inl f))) m T fu k (f, A.2.1, A.2.2.1, A.2.2.2.1, A.2.2.2.2.1, A.2.2.2.2.2.1, A.2.2.2.2.2.2.1, A.2.2.2.2.2.2.2.1, A.2.2.2.2.2.2.2.2.1, A.2.2.2.2.2.2.2.2.2.1, A.2.2.2.2.2.2.2.2.2.2) := by
  obtain ⟨q, g12, g13, g14, g15, g16, g17, g18, g19, g20, g21, g22⟩ := H
  exact ⟨q.s12 f, rl_u_s, (rl_u_n (by omega)).trans g13, (rl_u_n (by omega)).trans g14, (rl_u_n (by omega)).trans g15, (rl_u_n (by omega)).trans g16, (rl_u_n (by omega)).trans g17, (rl_u_n (by omega)).trans g18, (rl_u_n (by omega)).trans g19, (rl_u_n (by omega)).trans g20, (rl_u_n (by omega)).trans g21, (rl_u_n (by omega)).trans g22⟩
theorem mf.s13 {ids : Nat → ClassId} {h0 h : rl_H} {m : Nat} {T : md_T} {fu : Int32} {k : Nat} {A : md_D} (H : mf ids h0 h m T fu k A) (f : Nat → Int32) (hb : ∀ k : Nat, k < 17 → ∃ t : Nat, t ≤ 80 ∧ f k = nI t) : mf ids h0 (rl_u h (m + 13) (.inl (ids 0, 17, .inl f))) m T fu k (A.1, f, A.2.2.1, A.2.2.2.1, A.2.2.2.2.1, A.2.2.2.2.2.1, A.2.2.2.2.2.2.1, A.2.2.2.2.2.2.2.1, A.2.2.2.2.2.2.2.2.1, A.2.2.2.2.2.2.2.2.2.1, A.2.2.2.2.2.2.2.2.2.2) := by
  obtain ⟨q, g12, g13, g14, g15, g16, g17, g18, g19, g20, g21, g22⟩ := H
  exact ⟨q.s13 f hb, (rl_u_n (by omega)).trans g12, rl_u_s, (rl_u_n (by omega)).trans g14, (rl_u_n (by omega)).trans g15, (rl_u_n (by omega)).trans g16, (rl_u_n (by omega)).trans g17, (rl_u_n (by omega)).trans g18, (rl_u_n (by omega)).trans g19, (rl_u_n (by omega)).trans g20, (rl_u_n (by omega)).trans g21, (rl_u_n (by omega)).trans g22⟩
theorem mf.s14 {ids : Nat → ClassId} {h0 h : rl_H} {m : Nat} {T : md_T} {fu : Int32} {k : Nat} {A : md_D} (H : mf ids h0 h m T fu k A) (f : Nat → Int32) : mf ids h0 (rl_u h (m + 14) (.inl (ids 2, 16, .inl f))) m T fu k (A.1, A.2.1, f, A.2.2.2.1, A.2.2.2.2.1, A.2.2.2.2.2.1, A.2.2.2.2.2.2.1, A.2.2.2.2.2.2.2.1, A.2.2.2.2.2.2.2.2.1, A.2.2.2.2.2.2.2.2.2.1, A.2.2.2.2.2.2.2.2.2.2) := by
  obtain ⟨q, g12, g13, g14, g15, g16, g17, g18, g19, g20, g21, g22⟩ := H
  exact ⟨q.s14 f, (rl_u_n (by omega)).trans g12, (rl_u_n (by omega)).trans g13, rl_u_s, (rl_u_n (by omega)).trans g15, (rl_u_n (by omega)).trans g16, (rl_u_n (by omega)).trans g17, (rl_u_n (by omega)).trans g18, (rl_u_n (by omega)).trans g19, (rl_u_n (by omega)).trans g20, (rl_u_n (by omega)).trans g21, (rl_u_n (by omega)).trans g22⟩
theorem mf.s15 {ids : Nat → ClassId} {h0 h : rl_H} {m : Nat} {T : md_T} {fu : Int32} {k : Nat} {A : md_D} (H : mf ids h0 h m T fu k A) (f : Nat → Int32) (hb : ∀ k : Nat, k < 1368 → ∃ t : Nat, t ≤ 12 ∧ f k = nI t) : mf ids h0 (rl_u h (m + 15) (.inl (ids 0, 1368, .inl f))) m T fu k (A.1, A.2.1, A.2.2.1, f, A.2.2.2.2.1, A.2.2.2.2.2.1, A.2.2.2.2.2.2.1, A.2.2.2.2.2.2.2.1, A.2.2.2.2.2.2.2.2.1, A.2.2.2.2.2.2.2.2.2.1, A.2.2.2.2.2.2.2.2.2.2) := by
  obtain ⟨q, g12, g13, g14, g15, g16, g17, g18, g19, g20, g21, g22⟩ := H
  exact ⟨q.s15 f hb, (rl_u_n (by omega)).trans g12, (rl_u_n (by omega)).trans g13, (rl_u_n (by omega)).trans g14, rl_u_s, (rl_u_n (by omega)).trans g16, (rl_u_n (by omega)).trans g17, (rl_u_n (by omega)).trans g18, (rl_u_n (by omega)).trans g19, (rl_u_n (by omega)).trans g20, (rl_u_n (by omega)).trans g21, (rl_u_n (by omega)).trans g22⟩
theorem mf.s16 {ids : Nat → ClassId} {h0 h : rl_H} {m : Nat} {T : md_T} {fu : Int32} {k : Nat} {A : md_D} (H : mf ids h0 h m T fu k A) (f : Nat → Int64) : mf ids h0 (rl_u h (m + 16) (.inl (ids 1, 16416, .inr (.inl f)))) m T fu k (A.1, A.2.1, A.2.2.1, A.2.2.2.1, f, A.2.2.2.2.2.1, A.2.2.2.2.2.2.1, A.2.2.2.2.2.2.2.1, A.2.2.2.2.2.2.2.2.1, A.2.2.2.2.2.2.2.2.2.1, A.2.2.2.2.2.2.2.2.2.2) := by
  obtain ⟨q, g12, g13, g14, g15, g16, g17, g18, g19, g20, g21, g22⟩ := H
  exact ⟨q.s16 f, (rl_u_n (by omega)).trans g12, (rl_u_n (by omega)).trans g13, (rl_u_n (by omega)).trans g14, (rl_u_n (by omega)).trans g15, rl_u_s, (rl_u_n (by omega)).trans g17, (rl_u_n (by omega)).trans g18, (rl_u_n (by omega)).trans g19, (rl_u_n (by omega)).trans g20, (rl_u_n (by omega)).trans g21, (rl_u_n (by omega)).trans g22⟩
theorem mf.s17 {ids : Nat → ClassId} {h0 h : rl_H} {m : Nat} {T : md_T} {fu : Int32} {k : Nat} {A : md_D} (H : mf ids h0 h m T fu k A) (f : Nat → Int64) : mf ids h0 (rl_u h (m + 17) (.inl (ids 1, 16416, .inr (.inl f)))) m T fu k (A.1, A.2.1, A.2.2.1, A.2.2.2.1, A.2.2.2.2.1, f, A.2.2.2.2.2.2.1, A.2.2.2.2.2.2.2.1, A.2.2.2.2.2.2.2.2.1, A.2.2.2.2.2.2.2.2.2.1, A.2.2.2.2.2.2.2.2.2.2) := by
  obtain ⟨q, g12, g13, g14, g15, g16, g17, g18, g19, g20, g21, g22⟩ := H
  exact ⟨q.s17 f, (rl_u_n (by omega)).trans g12, (rl_u_n (by omega)).trans g13, (rl_u_n (by omega)).trans g14, (rl_u_n (by omega)).trans g15, (rl_u_n (by omega)).trans g16, rl_u_s, (rl_u_n (by omega)).trans g18, (rl_u_n (by omega)).trans g19, (rl_u_n (by omega)).trans g20, (rl_u_n (by omega)).trans g21, (rl_u_n (by omega)).trans g22⟩
theorem mf.s18 {ids : Nat → ClassId} {h0 h : rl_H} {m : Nat} {T : md_T} {fu : Int32} {k : Nat} {A : md_D} (H : mf ids h0 h m T fu k A) (f : Nat → Int64) : mf ids h0 (rl_u h (m + 18) (.inl (ids 1, 160, .inr (.inl f)))) m T fu k (A.1, A.2.1, A.2.2.1, A.2.2.2.1, A.2.2.2.2.1, A.2.2.2.2.2.1, f, A.2.2.2.2.2.2.2.1, A.2.2.2.2.2.2.2.2.1, A.2.2.2.2.2.2.2.2.2.1, A.2.2.2.2.2.2.2.2.2.2) := by
  obtain ⟨q, g12, g13, g14, g15, g16, g17, g18, g19, g20, g21, g22⟩ := H
  exact ⟨q.s18 f, (rl_u_n (by omega)).trans g12, (rl_u_n (by omega)).trans g13, (rl_u_n (by omega)).trans g14, (rl_u_n (by omega)).trans g15, (rl_u_n (by omega)).trans g16, (rl_u_n (by omega)).trans g17, rl_u_s, (rl_u_n (by omega)).trans g19, (rl_u_n (by omega)).trans g20, (rl_u_n (by omega)).trans g21, (rl_u_n (by omega)).trans g22⟩
theorem mf.s19 {ids : Nat → ClassId} {h0 h : rl_H} {m : Nat} {T : md_T} {fu : Int32} {k : Nat} {A : md_D} (H : mf ids h0 h m T fu k A) (f : Nat → Int64) : mf ids h0 (rl_u h (m + 19) (.inl (ids 1, 160, .inr (.inl f)))) m T fu k (A.1, A.2.1, A.2.2.1, A.2.2.2.1, A.2.2.2.2.1, A.2.2.2.2.2.1, A.2.2.2.2.2.2.1, f, A.2.2.2.2.2.2.2.2.1, A.2.2.2.2.2.2.2.2.2.1, A.2.2.2.2.2.2.2.2.2.2) := by
  obtain ⟨q, g12, g13, g14, g15, g16, g17, g18, g19, g20, g21, g22⟩ := H
  exact ⟨q.s19 f, (rl_u_n (by omega)).trans g12, (rl_u_n (by omega)).trans g13, (rl_u_n (by omega)).trans g14, (rl_u_n (by omega)).trans g15, (rl_u_n (by omega)).trans g16, (rl_u_n (by omega)).trans g17, (rl_u_n (by omega)).trans g18, rl_u_s, (rl_u_n (by omega)).trans g20, (rl_u_n (by omega)).trans g21, (rl_u_n (by omega)).trans g22⟩
theorem mf.s20 {ids : Nat → ClassId} {h0 h : rl_H} {m : Nat} {T : md_T} {fu : Int32} {k : Nat} {A : md_D} (H : mf ids h0 h m T fu k A) (f : Nat → Int32) : mf ids h0 (rl_u h (m + 20) (.inl (ids 0, 6, .inl f))) m T fu k (A.1, A.2.1, A.2.2.1, A.2.2.2.1, A.2.2.2.2.1, A.2.2.2.2.2.1, A.2.2.2.2.2.2.1, A.2.2.2.2.2.2.2.1, f, A.2.2.2.2.2.2.2.2.2.1, A.2.2.2.2.2.2.2.2.2.2) := by
  obtain ⟨q, g12, g13, g14, g15, g16, g17, g18, g19, g20, g21, g22⟩ := H
  exact ⟨q.s20 f, (rl_u_n (by omega)).trans g12, (rl_u_n (by omega)).trans g13, (rl_u_n (by omega)).trans g14, (rl_u_n (by omega)).trans g15, (rl_u_n (by omega)).trans g16, (rl_u_n (by omega)).trans g17, (rl_u_n (by omega)).trans g18, (rl_u_n (by omega)).trans g19, rl_u_s, (rl_u_n (by omega)).trans g21, (rl_u_n (by omega)).trans g22⟩
theorem mf.s21 {ids : Nat → ClassId} {h0 h : rl_H} {m : Nat} {T : md_T} {fu : Int32} {k : Nat} {A : md_D} (H : mf ids h0 h m T fu k A) (f : Nat → Int32) (hb : ∀ k : Nat, k < 4 → ∃ t : Nat, t < 80 ∧ f k = nI t) : mf ids h0 (rl_u h (m + 21) (.inl (ids 0, 4, .inl f))) m T fu k (A.1, A.2.1, A.2.2.1, A.2.2.2.1, A.2.2.2.2.1, A.2.2.2.2.2.1, A.2.2.2.2.2.2.1, A.2.2.2.2.2.2.2.1, A.2.2.2.2.2.2.2.2.1, f, A.2.2.2.2.2.2.2.2.2.2) := by
  obtain ⟨q, g12, g13, g14, g15, g16, g17, g18, g19, g20, g21, g22⟩ := H
  exact ⟨q.s21 f hb, (rl_u_n (by omega)).trans g12, (rl_u_n (by omega)).trans g13, (rl_u_n (by omega)).trans g14, (rl_u_n (by omega)).trans g15, (rl_u_n (by omega)).trans g16, (rl_u_n (by omega)).trans g17, (rl_u_n (by omega)).trans g18, (rl_u_n (by omega)).trans g19, (rl_u_n (by omega)).trans g20, rl_u_s, (rl_u_n (by omega)).trans g22⟩
theorem mf.s22 {ids : Nat → ClassId} {h0 h : rl_H} {m : Nat} {T : md_T} {fu : Int32} {k : Nat} {A : md_D} (H : mf ids h0 h m T fu k A) (f : Nat → Int32) : mf ids h0 (rl_u h (m + 22) (.inl (ids 0, 36, .inl f))) m T fu k (A.1, A.2.1, A.2.2.1, A.2.2.2.1, A.2.2.2.2.1, A.2.2.2.2.2.1, A.2.2.2.2.2.2.1, A.2.2.2.2.2.2.2.1, A.2.2.2.2.2.2.2.2.1, A.2.2.2.2.2.2.2.2.2.1, f) := by
  obtain ⟨q, g12, g13, g14, g15, g16, g17, g18, g19, g20, g21, g22⟩ := H
  exact ⟨q.s22 f, (rl_u_n (by omega)).trans g12, (rl_u_n (by omega)).trans g13, (rl_u_n (by omega)).trans g14, (rl_u_n (by omega)).trans g15, (rl_u_n (by omega)).trans g16, (rl_u_n (by omega)).trans g17, (rl_u_n (by omega)).trans g18, (rl_u_n (by omega)).trans g19, (rl_u_n (by omega)).trans g20, (rl_u_n (by omega)).trans g21, rl_u_s⟩
set_option maxHeartbeats 4000000 in
set_option maxRecDepth 100000 in
theorem cf_X8_heapTerm (l : Launch) (D : va_G) (ids : Nat → ClassId) (H0 : Heap) (h : rl_H) (n : Nat) (m : Nat) (T : md_T) (fu : Int32) (k : Nat) (A : md_D) (a b : Int64) (hq : mf ids h h m T fu k A) (hk : k < 160) : rl_Met l (rl_e D ids H0) rl_BW rl_Ns yX8_heapTerm cX8_heapTerm 5 none ({ frames := 0, cells := 0, slots := 0, locals := 0 }) [.ref m, .long a, .long b] h n (fun v h' n' => v = none ∧ n' = n ∧ mf ids h h' m T fu (k + 1) (A.1, A.2.1, A.2.2.1, A.2.2.2.1, A.2.2.2.2.1, A.2.2.2.2.2.1, vp_updL A.2.2.2.2.2.2.1 k a, vp_updL A.2.2.2.2.2.2.2.1 k b, A.2.2.2.2.2.2.2.2.1, A.2.2.2.2.2.2.2.2.2.1, A.2.2.2.2.2.2.2.2.2.2)) := by
  obtain ⟨hm0, g12, g13, g14, g15, g16, g17, g18, g19, g20, g21, g22⟩ := id hq
  have g0 := hm0.1
  have gk := hm0.2.1
  have b13 := hq.b13
  have b15 := hq.b15
  have b21 := hq.b21
  refine rl_Met.of (by decide +kernel) (Nat.le_of_ble_eq_true rfl) ?_
  intro X hC hB
  show rl_G X (rl_e D ids H0) 0 [some (.ref m), some (.long a), none, some (.long b), none] [] h n 0 0
  refine o_aload_n hC dX8_heapTerm_0 (by rfl) ?_
  refine o_getf hC (fX8_63 hC rfl) dX8_heapTerm_1 (by repeat (first | with_reducible assumption | (rw [rl_u_s]; done) | (rw [rl_u_s]; rfl) | rw [rl_u_n (by first | with_reducible assumption | omega)])) (by first | rfl | with_reducible assumption) ?_
  refine o_aload_n hC dX8_heapTerm_4 (by rfl) ?_
  refine o_getf hC (fX8_82 hC rfl) dX8_heapTerm_5 (by repeat (first | with_reducible assumption | (rw [rl_u_s]; done) | (rw [rl_u_s]; rfl) | rw [rl_u_n (by first | with_reducible assumption | omega)])) (by first | rfl | with_reducible assumption) ?_
  refine o_lload_n hC dX8_heapTerm_8 (by rfl) ?_
  refine o_lastN (t0 := 1) hC rfl dX8_heapTerm_9 (by repeat (first | with_reducible assumption | (rw [rl_u_s]; done) | (rw [rl_u_s]; rfl) | rw [rl_u_n (by first | with_reducible assumption | omega)])) (by omega) (by decide) ?_
  refine o_aload_n hC dX8_heapTerm_10 (by rfl) ?_
  refine o_getf hC (fX8_66 hC rfl) dX8_heapTerm_11 (by repeat (first | with_reducible assumption | (rw [rl_u_s]; done) | (rw [rl_u_s]; rfl) | rw [rl_u_n (by first | with_reducible assumption | omega)])) (by first | rfl | with_reducible assumption) ?_
  refine o_aload_n hC dX8_heapTerm_14 (by rfl) ?_
  refine o_getf hC (fX8_82 hC rfl) dX8_heapTerm_15 (by repeat (first | with_reducible assumption | (rw [rl_u_s]; done) | (rw [rl_u_s]; rfl) | rw [rl_u_n (by first | with_reducible assumption | omega)])) (by first | rfl | with_reducible assumption) ?_
  refine o_lload_n hC dX8_heapTerm_18 (by rfl) ?_
  refine o_lastN (t0 := 1) hC rfl dX8_heapTerm_19 (by repeat (first | with_reducible assumption | (rw [rl_u_s]; done) | (rw [rl_u_s]; rfl) | rw [rl_u_n (by first | with_reducible assumption | omega)])) (by omega) (by decide) ?_
  refine o_aload_n hC dX8_heapTerm_20 (by rfl) ?_
  refine o_dup hC dX8_heapTerm_21 rfl ?_
  refine o_getf hC (fX8_82 hC rfl) dX8_heapTerm_22 (by repeat (first | with_reducible assumption | (rw [rl_u_s]; done) | (rw [rl_u_s]; rfl) | rw [rl_u_n (by first | with_reducible assumption | omega)])) (by first | rfl | with_reducible assumption) ?_
  refine o_iconst (v := nI 1) hC dX8_heapTerm_25 (by decide +kernel) ?_
  refine o_iadd hC dX8_heapTerm_26 ?_
  try rw [nI_add]
  refine o_putf hC (fX8_82 hC rfl) (fwX8 rfl rfl rfl (Or.inl rfl)) dX8_heapTerm_27 (by repeat (first | with_reducible assumption | (rw [rl_u_s]; done) | (rw [rl_u_s]; rfl) | rw [rl_u_n (by first | with_reducible assumption | omega)])) (Nat.le_of_ble_eq_true rfl) ?_
  try simp only [List.set_cons_zero, List.set_cons_succ]
  refine o_vret hC hB dX8_heapTerm_30 (Nat.le_of_ble_eq_true rfl) (Nat.le_of_ble_eq_true rfl) ?_
  exact ⟨rfl, rfl, ((hq.s18 _).s19 _).ob T fu (k + 1) (by omega)⟩

set_option maxHeartbeats 4000000 in
set_option maxRecDepth 100000 in
theorem cf_X8_truth (l : Launch) (D : va_G) (ids : Nat → ClassId) (H0 : Heap) (h : rl_H) (n : Nat) (m : Nat) (T : md_T) (fu : Int32) (k : Nat) (A : md_D) (a : Nat) (hq : mf ids h h m T fu k A) (ha : a < 1368) : rl_Met l (rl_e D ids H0) rl_BW rl_Ns yX8_truth cX8_truth 2 none ({ frames := 0, cells := 0, slots := 0, locals := 0 }) [.ref m, .int (nI a)] h n (fun v h' n' => v = none ∧ n' = n ∧ mf ids h h' m T fu k (A.1, A.2.1, A.2.2.1, upd A.2.2.2.1 a (nI 1), vp_updL A.2.2.2.2.1 (12 * a) 0, vp_updL A.2.2.2.2.2.1 (12 * a) 0, A.2.2.2.2.2.2.1, A.2.2.2.2.2.2.2.1, A.2.2.2.2.2.2.2.2.1, A.2.2.2.2.2.2.2.2.2.1, A.2.2.2.2.2.2.2.2.2.2)) := by
  obtain ⟨hm0, g12, g13, g14, g15, g16, g17, g18, g19, g20, g21, g22⟩ := id hq
  have g0 := hm0.1
  have gk := hm0.2.1
  have b13 := hq.b13
  have b15 := hq.b15
  have b21 := hq.b21
  refine rl_Met.of (by decide +kernel) (Nat.le_of_ble_eq_true rfl) ?_
  intro X hC hB
  show rl_G X (rl_e D ids H0) 0 [some (.ref m), some (.int (nI a))] [] h n 0 0
  refine o_aload_n hC dX8_truth_0 (by rfl) ?_
  refine o_getf hC (fX8_53 hC rfl) dX8_truth_1 (by repeat (first | with_reducible assumption | (rw [rl_u_s]; done) | (rw [rl_u_s]; rfl) | rw [rl_u_n (by first | with_reducible assumption | omega)])) (by first | rfl | with_reducible assumption) ?_
  refine o_iload_n hC dX8_truth_4 (by rfl) ?_
  refine o_iconst (v := nI 1) hC dX8_truth_5 (by decide +kernel) ?_
  refine o_iastN (t0 := 0) hC rfl dX8_truth_6 (by repeat (first | with_reducible assumption | (rw [rl_u_s]; done) | (rw [rl_u_s]; rfl) | rw [rl_u_n (by first | with_reducible assumption | omega)])) (by omega) (by decide) ?_
  refine o_aload_n hC dX8_truth_7 (by rfl) ?_
  refine o_getf hC (fX8_56 hC rfl) dX8_truth_8 (by repeat (first | with_reducible assumption | (rw [rl_u_s]; done) | (rw [rl_u_s]; rfl) | rw [rl_u_n (by first | with_reducible assumption | omega)])) (by first | rfl | with_reducible assumption) ?_
  refine o_bipush (v := nI 12) hC dX8_truth_11 (by decide +kernel) ?_
  refine o_iload_n hC dX8_truth_13 (by rfl) ?_
  refine o_imul hC dX8_truth_14 ?_
  try rw [nI_mul]
  refine o_lconst (v := 0) hC dX8_truth_15 (by decide +kernel) ?_
  refine o_lastN (t0 := 1) hC rfl dX8_truth_16 (by repeat (first | with_reducible assumption | (rw [rl_u_s]; done) | (rw [rl_u_s]; rfl) | rw [rl_u_n (by first | with_reducible assumption | omega)])) (by omega) (by decide) ?_
  refine o_aload_n hC dX8_truth_17 (by rfl) ?_
  refine o_getf hC (fX8_60 hC rfl) dX8_truth_18 (by repeat (first | with_reducible assumption | (rw [rl_u_s]; done) | (rw [rl_u_s]; rfl) | rw [rl_u_n (by first | with_reducible assumption | omega)])) (by first | rfl | with_reducible assumption) ?_
  refine o_bipush (v := nI 12) hC dX8_truth_21 (by decide +kernel) ?_
  refine o_iload_n hC dX8_truth_23 (by rfl) ?_
  refine o_imul hC dX8_truth_24 ?_
  try rw [nI_mul]
  refine o_lconst (v := 0) hC dX8_truth_25 (by decide +kernel) ?_
  refine o_lastN (t0 := 1) hC rfl dX8_truth_26 (by repeat (first | with_reducible assumption | (rw [rl_u_s]; done) | (rw [rl_u_s]; rfl) | rw [rl_u_n (by first | with_reducible assumption | omega)])) (by omega) (by decide) ?_
  refine o_vret hC hB dX8_truth_27 (Nat.le_of_ble_eq_true rfl) (Nat.le_of_ble_eq_true rfl) ?_
  exact ⟨rfl, rfl, ((hq.s15 _ (md_bd b15 ⟨1, by decide, rfl⟩)).s16 _).s17 _⟩

/-- row a of the model's WAYS -/
abbrev rwf (f : Nat → Int64) (a : Nat) : Nat → Int64 := fun i => f (12 * a + i)
abbrev mwl (A : md_D) (a t : Nat) : List tT := tls (rwf A.2.2.2.2.1 a) (rwf A.2.2.2.2.2.1 a) t
/-- a WAYS of the model -/
def mws (A : md_D) (a : Nat) (L : List tT) : Prop := A.2.2.2.1 a = nI L.length ∧ L.length ≤ 12 ∧ mwl A a L.length = L
/-- nothing but row a of the WAYS (and the heap) has changed -/
def mro (A A' : md_D) (a : Nat) : Prop := A'.1 = A.1 ∧ A'.2.1 = A.2.1 ∧ A'.2.2.1 = A.2.2.1 ∧ (∀ i : Nat, i ≠ a → A'.2.2.2.1 i = A.2.2.2.1 i) ∧ (∀ q : Nat, (q < 12 * a ∨ 12 * a + 12 ≤ q) → A'.2.2.2.2.1 q = A.2.2.2.2.1 q ∧ A'.2.2.2.2.2.1 q = A.2.2.2.2.2.1 q) ∧ A'.2.2.2.2.2.2.2.2 = A.2.2.2.2.2.2.2.2

theorem mro.rf {A : md_D} {a : Nat} : mro A A a := ⟨rfl, rfl, rfl, fun _ _ => rfl, fun _ _ => ⟨rfl, rfl⟩, rfl⟩
theorem mro.tr {A B C : md_D} {a : Nat} (h : mro A B a) (g : mro B C a) : mro A C a := by
  obtain ⟨h1, h2, h3, h4, h5, h6⟩ := h
  obtain ⟨g1, g2, g3, g4, g5, g6⟩ := g
  exact ⟨g1.trans h1, g2.trans h2, g3.trans h3, fun i hi => (g4 i hi).trans (h4 i hi), fun q hq => ⟨(g5 q hq).1.trans (h5 q hq).1, (g5 q hq).2.trans (h5 q hq).2⟩, g6.trans h6⟩
/-- another row is what it was -/
theorem mro.ws {A B : md_D} {a b : Nat} {L : List tT} (h : mro A B a) (hb : b ≠ a) (H : mws A b L) : mws B b L := by
  obtain ⟨h1, h2, h3, h4, h5, h6⟩ := h
  obtain ⟨g1, g2, g3⟩ := H
  refine ⟨(h4 b hb).trans g1, g2, (tls_eq (fun i hi => ?_)).trans g3⟩
  have : 12 * b + i < 12 * a ∨ 12 * a + 12 ≤ 12 * b + i := by omega
  exact ⟨(h5 _ this).1, (h5 _ this).2⟩
theorem gs_c_iff {hn hl : Nat → Int64} {i j : Nat} (hi : i < 200) (hj : j < 200) : gs_c hn hl i j ↔ tle (hn i, hl i) (hn j, hl j) ∧ ((hn i, hl i) ≠ (hn j, hl j) ∨ i < j) := by
  unfold gs_c tle
  rw [lg_cmp_eq, lg_cmp_eq, lg_cmp_eq, lg_cmp_eq, nI_ltI (by omega) (by omega)]
  refine and_congr_right (fun _ => or_congr_left (not_congr ⟨fun h => Prod.ext h.1 h.2, fun h => ⟨congrArg Prod.fst h, congrArg Prod.snd h⟩⟩))
theorem gs_tgo {hn hl : Nat → Int64} {j : Nat} (hj : j < 200) : ∀ (f i : Nat), i + f ≤ 200 → (gs hn hl j f i = 0 ↔ ¬ ∃ q : Nat, i ≤ q ∧ q < i + f ∧ tle (hn q, hl q) (hn j, hl j) ∧ ((hn q, hl q) ≠ (hn j, hl j) ∨ q < j))
  | 0, i, _ => ⟨fun _ ⟨q, h1, h2, _⟩ => by omega, fun _ => rfl⟩
  | f + 1, i, hf => by
    unfold gs
    by_cases q : gs_c hn hl i j
    · rw [if_pos q]
      have q2 := (gs_c_iff (by omega) hj).mp q
      exact ⟨fun h => absurd h (by decide +kernel), fun h => absurd ⟨i, Nat.le_refl _, by omega, q2.1, q2.2⟩ h⟩
    · rw [if_neg q, gs_tgo hj f (i + 1) (by omega)]
      refine not_congr ⟨fun ⟨r, h1, h2, h3⟩ => ⟨r, by omega, by omega, h3⟩, fun ⟨r, h1, h2, h3⟩ => ?_⟩
      by_cases e : r = i
      · subst e
        exact absurd ((gs_c_iff (by omega) hj).mpr h3) q
      · exact ⟨r, by omega, by omega, h3⟩
theorem gs_keep {hn hl : Nat → Int64} {j k : Nat} (hj : j < 200) (hk : k ≤ 200) : gs hn hl j k 0 = 0 ↔ ¬ tgo (fun i => (hn i, hl i)) k j := by
  rw [gs_tgo hj k 0 (by omega)]
  refine not_congr ⟨fun ⟨q, _, h2, h3⟩ => ⟨q, List.mem_range.mpr (by omega), h3⟩, fun ⟨q, h2, h3⟩ => ⟨q, Nat.zero_le _, by have := List.mem_range.mp h2; omega, h3⟩⟩
theorem cnt_keep {hn hl : Nat → Int64} {k : Nat} (hk : k ≤ 200) : ∀ i : Nat, i ≤ 200 → md_cnt (fun w => gs hn hl w k 0) i = (tkeep (fun i => (hn i, hl i)) k i).length
  | 0, _ => rfl
  | i + 1, hi => by
    unfold tkeep
    by_cases q : gs hn hl i k 0 = 0
    · rw [md_cnt_s (G := fun w => gs hn hl w k 0) q, if_neg ((gs_keep (by omega) hk).mp q), List.length_append, cnt_keep hk i (by omega)]
      rfl
    · rw [md_cnt_n (G := fun w => gs hn hl w k 0) q, if_pos (Decidable.not_not.mp (fun w => q ((gs_keep (by omega) hk).mpr w))), cnt_keep hk i (by omega)]
theorem keep_s {hn hl : Nat → Int64} {k i : Nat} (hk : k ≤ 200) (hi : i < 200) (q : gs hn hl i k 0 = 0) : tkeep (fun i => (hn i, hl i)) k (i + 1) = tkeep (fun i => (hn i, hl i)) k i ++ [(hn i, hl i)] := by
  show (if tgo (fun i => (hn i, hl i)) k i then _ else _) = _
  rw [if_neg ((gs_keep hi hk).mp q)]
theorem keep_n {hn hl : Nat → Int64} {k i : Nat} (hk : k ≤ 200) (hi : i < 200) (q : ¬ gs hn hl i k 0 = 0) : tkeep (fun i => (hn i, hl i)) k (i + 1) = tkeep (fun i => (hn i, hl i)) k i := by
  show (if tgo (fun i => (hn i, hl i)) k i then _ else _) = _
  rw [if_pos (Decidable.not_not.mp (fun w => q ((gs_keep hi hk).mpr w)))]
theorem tfold_tfl (F G : Nat → Int64) : ∀ k : Nat, tfold (fun i => (F i, G i)) k = tfl (tls F G k)
  | 0 => rfl
  | k + 1 => by
    rw [tls, tfl_snoc, ← tfold_tfl F G k]
    rfl
theorem rwf_up (f : Nat → Int64) (a p : Nat) (x : Int64) : rwf (vp_updL f (12 * a + p) x) a = vp_updL (rwf f a) p x := by
  funext i
  unfold rwf vp_updL
  by_cases q : i = p
  · rw [if_pos q, if_pos (by omega)]
  · rw [if_neg q, if_neg (by omega)]

set_option maxHeartbeats 4000000 in
set_option maxRecDepth 100000 in
theorem cf_X8_settle (l : Launch) (D : va_G) (ids : Nat → ClassId) (H0 : Heap) (h : rl_H) (n : Nat) (m : Nat) (T : md_T) (fu : Int32) (k : Nat) (A : md_D) (a : Nat) (hq : mf ids h h m T fu k A) (ha : a < 1368) : rl_Met l (rl_e D ids H0) rl_BW rl_Ns yX8_settle cX8_settle 6 none ({ frames := 1, cells := 0, slots := 0, locals := 24 }) [.ref m, .int (nI a)] h n (fun v h' n' => ∃ (fu' : Int32) (A' : md_D), v = none ∧ n' = n ∧ mf ids h h' m T fu' k A' ∧ mro A A' a ∧ (((tkeep (fun i => (A.2.2.2.2.2.2.1 i, A.2.2.2.2.2.2.2.1 i)) k k).length ≤ 12 ∧ fu' = fu ∧ mws A' a (tso (tkeep (fun i => (A.2.2.2.2.2.2.1 i, A.2.2.2.2.2.2.2.1 i)) k k))) ∨ (12 < (tkeep (fun i => (A.2.2.2.2.2.2.1 i, A.2.2.2.2.2.2.2.1 i)) k k).length ∧ fu' = nI 1 ∧ A'.2.2.2.1 a = nI 0))) := by
  obtain ⟨hm0, g12, g13, g14, g15, g16, g17, g18, g19, g20, g21, g22⟩ := id hq
  have g0 := hm0.1
  have gk := hm0.2.1
  have b13 := hq.b13
  have b15 := hq.b15
  have b21 := hq.b21
  refine rl_Met.of (by decide +kernel) (Nat.le_of_ble_eq_true rfl) ?_
  intro X hC hB
  have loop2 : md_cnt (fun w => gs A.2.2.2.2.2.2.1 A.2.2.2.2.2.2.2.1 w k 0) k ≤ 12 → ∀ (mm i : Nat) (h1 : rl_H) (A1 : md_D) (o2 o5 : Option Value), i + mm = k → mf ids h h1 m T fu k A1 → mro A A1 a → h1 (m + 18) = some (.inl (ids 1, 160, .inr (.inl A.2.2.2.2.2.2.1))) → h1 (m + 19) = some (.inl (ids 1, 160, .inr (.inl A.2.2.2.2.2.2.2.1))) → mwl A1 a (md_cnt (fun w => gs A.2.2.2.2.2.2.1 A.2.2.2.2.2.2.2.1 w k 0) i) = tso (tkeep (fun i => (A.2.2.2.2.2.2.1 i, A.2.2.2.2.2.2.2.1 i)) k i) → rl_G X (rl_e D ids H0) 53 [some (.ref m), some (.int (nI a)), o2, some (.int (nI (md_cnt (fun w => gs A.2.2.2.2.2.2.1 A.2.2.2.2.2.2.2.1 w k 0) i))), some (.int (nI i)), o5] [] h1 n 0 0 := by
    intro c12 mm
    induction mm with
    | zero =>
      intro i h1 A1 o2 o5 hm hq1 hro e18 e19 hrow
      have ei : i = k := by omega
      subst ei
      obtain ⟨hm0, g12, g13, g14, g15, g16, g17, g18, g19, g20, g21, g22⟩ := id hq1
      have g0 := hm0.1
      have gk := hm0.2.1
      have b13 := hq1.b13
      have b15 := hq1.b15
      have b21 := hq1.b21
      refine o_iload hC dX8_settle_53 (by rfl) ?_
      refine o_aload_n hC dX8_settle_55 (by rfl) ?_
      refine o_getf hC (fX8_82 hC rfl) dX8_settle_56 (by repeat (first | with_reducible assumption | (rw [rl_u_s]; done) | (rw [rl_u_s]; rfl) | rw [rl_u_n (by first | with_reducible assumption | omega)])) (by first | rfl | with_reducible assumption) ?_
      refine o_icmp_ge (tgt := 259) hC dX8_settle_59 (by decide) (fun c_59 => ?_) (fun c_59 => ?_)
      · refine o_aload_n hC dX8_settle_259 (by rfl) ?_
        refine o_getf hC (fX8_53 hC rfl) dX8_settle_260 (by repeat (first | with_reducible assumption | (rw [rl_u_s]; done) | (rw [rl_u_s]; rfl) | rw [rl_u_n (by first | with_reducible assumption | omega)])) (by first | rfl | with_reducible assumption) ?_
        refine o_iload_n hC dX8_settle_263 (by rfl) ?_
        refine o_iload_n hC dX8_settle_264 (by rfl) ?_
        refine o_iastN (t0 := 0) hC rfl dX8_settle_265 (by repeat (first | with_reducible assumption | (rw [rl_u_s]; done) | (rw [rl_u_s]; rfl) | rw [rl_u_n (by first | with_reducible assumption | omega)])) (by omega) (by decide) ?_
        refine o_vret hC hB dX8_settle_266 (Nat.le_of_ble_eq_true rfl) (Nat.le_of_ble_eq_true rfl) ?_
        refine ⟨fu, (A1.1, A1.2.1, A1.2.2.1, upd A1.2.2.2.1 a (nI (md_cnt (fun w => gs A.2.2.2.2.2.2.1 A.2.2.2.2.2.2.2.1 w i 0) i)), A1.2.2.2.2.1, A1.2.2.2.2.2.1, A1.2.2.2.2.2.2.1, A1.2.2.2.2.2.2.2.1, A1.2.2.2.2.2.2.2.2.1, A1.2.2.2.2.2.2.2.2.2.1, A1.2.2.2.2.2.2.2.2.2.2), rfl, rfl, hq1.s15 _ (md_bd b15 ⟨_, c12, rfl⟩), hro.tr ⟨rfl, rfl, rfl, fun j hj => if_neg hj, fun _ _ => ⟨rfl, rfl⟩, rfl⟩, Or.inl ⟨?_, rfl, ?_⟩⟩
        · rw [← cnt_keep (by omega) _ (by omega)]
          exact c12
        · have el : (tso (tkeep (fun i => (A.2.2.2.2.2.2.1 i, A.2.2.2.2.2.2.2.1 i)) i i)).length = md_cnt (fun w => gs A.2.2.2.2.2.2.1 A.2.2.2.2.2.2.2.1 w i 0) i := by rw [(tso_perm _).length_eq, cnt_keep (by omega) _ (by omega)]
          refine ⟨?_, by rw [el]; exact c12, ?_⟩
          · rw [el]
            exact if_pos rfl
          · rw [el]
            exact hrow
      · exact absurd (nI_le (by omega) (by omega)) c_59
    | succ mm ih =>
      intro i h1 A1 o2 o5 hm hq1 hro e18 e19 hrow
      have g0 := hq1.1.1
      have gk := hq1.1.2.1
      refine o_iload hC dX8_settle_53 (by rfl) ?_
      refine o_aload_n hC dX8_settle_55 (by rfl) ?_
      refine o_getf hC (fX8_82 hC rfl) dX8_settle_56 (by repeat (first | with_reducible assumption | (rw [rl_u_s]; done) | (rw [rl_u_s]; rfl) | rw [rl_u_n (by first | with_reducible assumption | omega)])) (by first | rfl | with_reducible assumption) ?_
      refine o_icmp_ge (tgt := 259) hC dX8_settle_59 (by decide) (fun c_59 => ?_) (fun c_59 => ?_)
      · exact absurd c_59 (nI_ge (by omega) (by omega))
      · refine o_aload_n hC dX8_settle_62 (by rfl) ?_
        refine o_iload hC dX8_settle_63 (by rfl) ?_
        refine o_callV1 hC rl_BW_good rl_Ns_nw (by exact hB.2.2.2.2.2) YX8_goes IX8_goes VX8_goes (mX8_87 hC) (by rw [hB.1]; exact cm_X8_goes l D ids H0 _ _ m T _ _ i A.2.2.2.2.2.2.1 A.2.2.2.2.2.2.2.1 hq1.1.rf e18 e19 (by omega)) (by exact hq1.1.1) rfl rfl (Nat.le_of_ble_eq_true rfl) (by rw [hB.2.1]; first | exact Nat.le_of_ble_eq_true rfl | (dsimp only; omega)) (by rw [hB.2.1]; first | exact Nat.le_of_ble_eq_true rfl | (dsimp only; omega)) (by rw [hB.2.1]; first | exact Nat.le_of_ble_eq_true rfl | (dsimp only; omega)) (by rw [hB.2.1]; first | exact Nat.le_of_ble_eq_true rfl | (dsimp only; omega)) dX8_settle_65 (fun v h_65 n_65 p_65 => ?_)
        obtain ⟨rfl, rfl, rfl⟩ := p_65
        try dsimp only [Option.toList, List.cons_append, List.nil_append]
        refine o_if_ne (tgt := 253) hC dX8_settle_68 (by decide) (fun c_68 => ?_) (fun c_68 => ?_)
        · refine o_iinc hC dX8_settle_253 (by rfl) (rl_inc _) (Nat.le_of_ble_eq_true rfl) ?_
          refine o_goto (tgt := 53) hC dX8_settle_256 (by decide) ?_
          have lp := ih (i + 1) _ A1 o2 o5 (by omega) hq1 hro e18 e19 (by rw [md_cnt_n (G := (fun w => gs A.2.2.2.2.2.2.1 A.2.2.2.2.2.2.2.1 w k 0)) c_68, keep_n (by omega) (by omega) c_68]; exact hrow)
          rw [md_cnt_n (G := (fun w => gs A.2.2.2.2.2.2.1 A.2.2.2.2.2.2.2.1 w k 0)) c_68] at lp
          exact lp
        · have ub := md_cnt_le (fun w => gs A.2.2.2.2.2.2.1 A.2.2.2.2.2.2.2.1 w k 0) (i + 1) mm
          rw [show i + 1 + mm = k by omega, md_cnt_s (G := (fun w => gs A.2.2.2.2.2.2.1 A.2.2.2.2.2.2.2.1 w k 0)) c_68] at ub
          have loop3 : ∀ (p : Nat) (h2 : rl_H) (A2 : md_D), p ≤ (md_cnt (fun w => gs A.2.2.2.2.2.2.1 A.2.2.2.2.2.2.2.1 w k 0) i) → mf ids h h2 m T fu k A2 → mro A A2 a → h2 (m + 18) = some (.inl (ids 1, 160, .inr (.inl A.2.2.2.2.2.2.1))) → h2 (m + 19) = some (.inl (ids 1, 160, .inr (.inl A.2.2.2.2.2.2.2.1))) → tm_ins (A.2.2.2.2.2.2.1 i) (A.2.2.2.2.2.2.2.1 i) (md_cnt (fun w => gs A.2.2.2.2.2.2.1 A.2.2.2.2.2.2.2.1 w k 0) i) (rwf A1.2.2.2.2.1 a) (rwf A1.2.2.2.2.2.1 a) = tm_ins (A.2.2.2.2.2.2.1 i) (A.2.2.2.2.2.2.2.1 i) p (rwf A2.2.2.2.2.1 a) (rwf A2.2.2.2.2.2.1 a) → rl_G X (rl_e D ids H0) 74 [some (.ref m), some (.int (nI a)), o2, some (.int (nI (md_cnt (fun w => gs A.2.2.2.2.2.2.1 A.2.2.2.2.2.2.2.1 w k 0) i))), some (.int (nI i)), some (.int (nI p))] [] h2 n_65 0 0 := by
            intro p
            induction p with
            | zero =>
              intro h2 A2 hp hq2 hro2 f18 f19 hti
              obtain ⟨hm2, g12, g13, g14, g15, g16, g17, -, -, g20, g21, g22⟩ := id hq2
              have g0 := hm2.1
              have gk := hm2.2.1
              refine o_iload hC dX8_settle_74 (by rfl) ?_
              refine o_if_le (tgt := 212) hC dX8_settle_76 (by decide) (fun c_76 => ?_) (fun c_76 => ?_)
              · refine o_aload_n hC dX8_settle_212 (by rfl) ?_
                refine o_getf hC (fX8_56 hC rfl) dX8_settle_213 (by repeat (first | with_reducible assumption | (rw [rl_u_s]; done) | (rw [rl_u_s]; rfl) | rw [rl_u_n (by first | with_reducible assumption | omega)])) (by first | rfl | with_reducible assumption) ?_
                refine o_bipush (v := nI 12) hC dX8_settle_216 (by decide +kernel) ?_
                refine o_iload_n hC dX8_settle_218 (by rfl) ?_
                refine o_imul hC dX8_settle_219 ?_
                try rw [nI_mul]
                refine o_iload hC dX8_settle_220 (by rfl) ?_
                refine o_iadd hC dX8_settle_222 ?_
                try rw [nI_add]
                refine o_aload_n hC dX8_settle_223 (by rfl) ?_
                refine o_getf hC (fX8_63 hC rfl) dX8_settle_224 (by repeat (first | with_reducible assumption | (rw [rl_u_s]; done) | (rw [rl_u_s]; rfl) | rw [rl_u_n (by first | with_reducible assumption | omega)])) (by first | rfl | with_reducible assumption) ?_
                refine o_iload hC dX8_settle_227 (by rfl) ?_
                refine o_laldN (t0 := 1) hC rfl dX8_settle_229 (by repeat (first | with_reducible assumption | (rw [rl_u_s]; done) | (rw [rl_u_s]; rfl) | rw [rl_u_n (by first | with_reducible assumption | omega)])) (by omega) (by decide) ?_
                refine o_lastN (t0 := 1) hC rfl dX8_settle_230 (by repeat (first | with_reducible assumption | (rw [rl_u_s]; done) | (rw [rl_u_s]; rfl) | rw [rl_u_n (by first | with_reducible assumption | omega)])) (by omega) (by decide) ?_
                refine o_aload_n hC dX8_settle_231 (by rfl) ?_
                refine o_getf hC (fX8_60 hC rfl) dX8_settle_232 (by repeat (first | with_reducible assumption | (rw [rl_u_s]; done) | (rw [rl_u_s]; rfl) | rw [rl_u_n (by first | with_reducible assumption | omega)])) (by first | rfl | with_reducible assumption) ?_
                refine o_bipush (v := nI 12) hC dX8_settle_235 (by decide +kernel) ?_
                refine o_iload_n hC dX8_settle_237 (by rfl) ?_
                refine o_imul hC dX8_settle_238 ?_
                try rw [nI_mul]
                refine o_iload hC dX8_settle_239 (by rfl) ?_
                refine o_iadd hC dX8_settle_241 ?_
                try rw [nI_add]
                refine o_aload_n hC dX8_settle_242 (by rfl) ?_
                refine o_getf hC (fX8_66 hC rfl) dX8_settle_243 (by repeat (first | with_reducible assumption | (rw [rl_u_s]; done) | (rw [rl_u_s]; rfl) | rw [rl_u_n (by first | with_reducible assumption | omega)])) (by first | rfl | with_reducible assumption) ?_
                refine o_iload hC dX8_settle_246 (by rfl) ?_
                refine o_laldN (t0 := 1) hC rfl dX8_settle_248 (by repeat (first | with_reducible assumption | (rw [rl_u_s]; done) | (rw [rl_u_s]; rfl) | rw [rl_u_n (by first | with_reducible assumption | omega)])) (by omega) (by decide) ?_
                refine o_lastN (t0 := 1) hC rfl dX8_settle_249 (by repeat (first | with_reducible assumption | (rw [rl_u_s]; done) | (rw [rl_u_s]; rfl) | rw [rl_u_n (by first | with_reducible assumption | omega)])) (by omega) (by decide) ?_
                refine o_iinc hC dX8_settle_250 (by rfl) (rl_inc _) (Nat.le_of_ble_eq_true rfl) ?_
                refine o_iinc hC dX8_settle_253 (by rfl) (rl_inc _) (Nat.le_of_ble_eq_true rfl) ?_
                refine o_goto (tgt := 53) hC dX8_settle_256 (by decide) ?_
                have er : rwf (vp_updL A2.2.2.2.2.1 (12 * a + 0) (A.2.2.2.2.2.2.1 i)) a = (tm_ins (A.2.2.2.2.2.2.1 i) (A.2.2.2.2.2.2.2.1 i) (md_cnt (fun w => gs A.2.2.2.2.2.2.1 A.2.2.2.2.2.2.2.1 w k 0) i) (rwf A1.2.2.2.2.1 a) (rwf A1.2.2.2.2.2.1 a)).1 ∧ rwf (vp_updL A2.2.2.2.2.2.1 (12 * a + 0) (A.2.2.2.2.2.2.2.1 i)) a = (tm_ins (A.2.2.2.2.2.2.1 i) (A.2.2.2.2.2.2.2.1 i) (md_cnt (fun w => gs A.2.2.2.2.2.2.1 A.2.2.2.2.2.2.2.1 w k 0) i) (rwf A1.2.2.2.2.1 a) (rwf A1.2.2.2.2.2.1 a)).2 := ⟨by rw [rwf_up, hti, tm_ins], by rw [rwf_up, hti, tm_ins]⟩
                rw [← md_cnt_s (G := (fun w => gs A.2.2.2.2.2.2.1 A.2.2.2.2.2.2.2.1 w k 0)) c_68]
                refine ih (i + 1) _ (A2.1, A2.2.1, A2.2.2.1, A2.2.2.2.1, vp_updL A2.2.2.2.2.1 (12 * a + 0) (A.2.2.2.2.2.2.1 i), vp_updL A2.2.2.2.2.2.1 (12 * a + 0) (A.2.2.2.2.2.2.2.1 i), A2.2.2.2.2.2.2.1, A2.2.2.2.2.2.2.2.1, A2.2.2.2.2.2.2.2.2.1, A2.2.2.2.2.2.2.2.2.2.1, A2.2.2.2.2.2.2.2.2.2.2) _ _ (by omega) ((hq2.s16 _).s17 _) (hro2.tr ⟨rfl, rfl, rfl, fun _ _ => rfl, fun q hq => ⟨up_ne (by omega), up_ne (by omega)⟩, rfl⟩) (by repeat (first | with_reducible assumption | (rw [rl_u_s]; done) | (rw [rl_u_s]; rfl) | rw [rl_u_n (by first | with_reducible assumption | omega)])) (by repeat (first | with_reducible assumption | (rw [rl_u_s]; done) | (rw [rl_u_s]; rfl) | rw [rl_u_n (by first | with_reducible assumption | omega)])) ?_
                rw [md_cnt_s (G := (fun w => gs A.2.2.2.2.2.2.1 A.2.2.2.2.2.2.2.1 w k 0)) c_68, keep_s (by omega) (by omega) c_68, tso_snoc, ← hrow, ← tm_ins_list, ← er.1, ← er.2]
              · exact absurd (by decide +kernel) c_76
            | succ p ihp =>
              intro h2 A2 hp hq2 hro2 f18 f19 hti
              obtain ⟨hm2, g12, g13, g14, g15, g16, g17, -, -, g20, g21, g22⟩ := id hq2
              have g0 := hm2.1
              have gk := hm2.2.1
              refine o_iload hC dX8_settle_74 (by rfl) ?_
              refine o_if_le (tgt := 212) hC dX8_settle_76 (by decide) (fun c_76 => ?_) (fun c_76 => ?_)
              · exact absurd c_76 (nI_nle (Nat.succ_pos p) (by omega))
              · refine o_aload_n hC dX8_settle_79 (by rfl) ?_
                refine o_getf hC (fX8_56 hC rfl) dX8_settle_80 (by repeat (first | with_reducible assumption | (rw [rl_u_s]; done) | (rw [rl_u_s]; rfl) | rw [rl_u_n (by first | with_reducible assumption | omega)])) (by first | rfl | with_reducible assumption) ?_
                refine o_bipush (v := nI 12) hC dX8_settle_83 (by decide +kernel) ?_
                refine o_iload_n hC dX8_settle_85 (by rfl) ?_
                refine o_imul hC dX8_settle_86 ?_
                try rw [nI_mul]
                refine o_iload hC dX8_settle_87 (by rfl) ?_
                refine o_iadd hC dX8_settle_89 ?_
                try rw [nI_add]
                refine o_iconst (v := nI 1) hC dX8_settle_90 (by decide +kernel) ?_
                refine o_isub hC dX8_settle_91 ?_
                rw [show nI (12 * a + (p + 1)) - nI 1 = nI (12 * a + p) from rl_pred _]
                refine o_laldN (t0 := 1) hC rfl dX8_settle_92 (by repeat (first | with_reducible assumption | (rw [rl_u_s]; done) | (rw [rl_u_s]; rfl) | rw [rl_u_n (by first | with_reducible assumption | omega)])) (by omega) (by decide) ?_
                refine o_aload_n hC dX8_settle_93 (by rfl) ?_
                refine o_getf hC (fX8_63 hC rfl) dX8_settle_94 (by repeat (first | with_reducible assumption | (rw [rl_u_s]; done) | (rw [rl_u_s]; rfl) | rw [rl_u_n (by first | with_reducible assumption | omega)])) (by first | rfl | with_reducible assumption) ?_
                refine o_iload hC dX8_settle_97 (by rfl) ?_
                refine o_laldN (t0 := 1) hC rfl dX8_settle_99 (by repeat (first | with_reducible assumption | (rw [rl_u_s]; done) | (rw [rl_u_s]; rfl) | rw [rl_u_n (by first | with_reducible assumption | omega)])) (by omega) (by decide) ?_
                refine o_lcmp hC dX8_settle_100 ?_
                refine o_if_gt (tgt := 154) hC dX8_settle_101 (by decide) (fun c_101 => ?_) (fun c_101 => ?_)
                · have yc : (A.2.2.2.2.2.2.1 i < A2.2.2.2.2.1 (12 * a + p) ∨ (A2.2.2.2.2.1 (12 * a + p) = A.2.2.2.2.2.2.1 i ∧ A.2.2.2.2.2.2.2.1 i < A2.2.2.2.2.2.1 (12 * a + p))) := by
                    first
                    | exact Or.inl ((lg_cmp_gt _ _).mp c_101)
                    | exact Or.inr ⟨(lg_cmp_eq _ _).mp c_126, Int64.not_le.mp (fun w => c_151 ((lg_cmp_le _ _).mpr w))⟩
                  refine o_aload_n hC dX8_settle_154 (by rfl) ?_
                  refine o_getf hC (fX8_56 hC rfl) dX8_settle_155 (by repeat (first | with_reducible assumption | (rw [rl_u_s]; done) | (rw [rl_u_s]; rfl) | rw [rl_u_n (by first | with_reducible assumption | omega)])) (by first | rfl | with_reducible assumption) ?_
                  refine o_bipush (v := nI 12) hC dX8_settle_158 (by decide +kernel) ?_
                  refine o_iload_n hC dX8_settle_160 (by rfl) ?_
                  refine o_imul hC dX8_settle_161 ?_
                  try rw [nI_mul]
                  refine o_iload hC dX8_settle_162 (by rfl) ?_
                  refine o_iadd hC dX8_settle_164 ?_
                  try rw [nI_add]
                  refine o_aload_n hC dX8_settle_165 (by rfl) ?_
                  refine o_getf hC (fX8_56 hC rfl) dX8_settle_166 (by repeat (first | with_reducible assumption | (rw [rl_u_s]; done) | (rw [rl_u_s]; rfl) | rw [rl_u_n (by first | with_reducible assumption | omega)])) (by first | rfl | with_reducible assumption) ?_
                  refine o_bipush (v := nI 12) hC dX8_settle_169 (by decide +kernel) ?_
                  refine o_iload_n hC dX8_settle_171 (by rfl) ?_
                  refine o_imul hC dX8_settle_172 ?_
                  try rw [nI_mul]
                  refine o_iload hC dX8_settle_173 (by rfl) ?_
                  refine o_iadd hC dX8_settle_175 ?_
                  try rw [nI_add]
                  refine o_iconst (v := nI 1) hC dX8_settle_176 (by decide +kernel) ?_
                  refine o_isub hC dX8_settle_177 ?_
                  rw [show nI (12 * a + (p + 1)) - nI 1 = nI (12 * a + p) from rl_pred _]
                  refine o_laldN (t0 := 1) hC rfl dX8_settle_178 (by repeat (first | with_reducible assumption | (rw [rl_u_s]; done) | (rw [rl_u_s]; rfl) | rw [rl_u_n (by first | with_reducible assumption | omega)])) (by omega) (by decide) ?_
                  refine o_lastN (t0 := 1) hC rfl dX8_settle_179 (by repeat (first | with_reducible assumption | (rw [rl_u_s]; done) | (rw [rl_u_s]; rfl) | rw [rl_u_n (by first | with_reducible assumption | omega)])) (by omega) (by decide) ?_
                  refine o_aload_n hC dX8_settle_180 (by rfl) ?_
                  refine o_getf hC (fX8_60 hC rfl) dX8_settle_181 (by repeat (first | with_reducible assumption | (rw [rl_u_s]; done) | (rw [rl_u_s]; rfl) | rw [rl_u_n (by first | with_reducible assumption | omega)])) (by first | rfl | with_reducible assumption) ?_
                  refine o_bipush (v := nI 12) hC dX8_settle_184 (by decide +kernel) ?_
                  refine o_iload_n hC dX8_settle_186 (by rfl) ?_
                  refine o_imul hC dX8_settle_187 ?_
                  try rw [nI_mul]
                  refine o_iload hC dX8_settle_188 (by rfl) ?_
                  refine o_iadd hC dX8_settle_190 ?_
                  try rw [nI_add]
                  refine o_aload_n hC dX8_settle_191 (by rfl) ?_
                  refine o_getf hC (fX8_60 hC rfl) dX8_settle_192 (by repeat (first | with_reducible assumption | (rw [rl_u_s]; done) | (rw [rl_u_s]; rfl) | rw [rl_u_n (by first | with_reducible assumption | omega)])) (by first | rfl | with_reducible assumption) ?_
                  refine o_bipush (v := nI 12) hC dX8_settle_195 (by decide +kernel) ?_
                  refine o_iload_n hC dX8_settle_197 (by rfl) ?_
                  refine o_imul hC dX8_settle_198 ?_
                  try rw [nI_mul]
                  refine o_iload hC dX8_settle_199 (by rfl) ?_
                  refine o_iadd hC dX8_settle_201 ?_
                  try rw [nI_add]
                  refine o_iconst (v := nI 1) hC dX8_settle_202 (by decide +kernel) ?_
                  refine o_isub hC dX8_settle_203 ?_
                  rw [show nI (12 * a + (p + 1)) - nI 1 = nI (12 * a + p) from rl_pred _]
                  refine o_laldN (t0 := 1) hC rfl dX8_settle_204 (by repeat (first | with_reducible assumption | (rw [rl_u_s]; done) | (rw [rl_u_s]; rfl) | rw [rl_u_n (by first | with_reducible assumption | omega)])) (by omega) (by decide) ?_
                  refine o_lastN (t0 := 1) hC rfl dX8_settle_205 (by repeat (first | with_reducible assumption | (rw [rl_u_s]; done) | (rw [rl_u_s]; rfl) | rw [rl_u_n (by first | with_reducible assumption | omega)])) (by omega) (by decide) ?_
                  refine o_iinc hC dX8_settle_206 (by rfl) (rl_dec _) (Nat.le_of_ble_eq_true rfl) ?_
                  refine o_goto (tgt := 74) hC dX8_settle_209 (by decide) ?_
                  refine ihp _ (A2.1, A2.2.1, A2.2.2.1, A2.2.2.2.1, vp_updL A2.2.2.2.2.1 (12 * a + (p + 1)) (A2.2.2.2.2.1 (12 * a + p)), vp_updL A2.2.2.2.2.2.1 (12 * a + (p + 1)) (A2.2.2.2.2.2.1 (12 * a + p)), A2.2.2.2.2.2.2.1, A2.2.2.2.2.2.2.2.1, A2.2.2.2.2.2.2.2.2.1, A2.2.2.2.2.2.2.2.2.2.1, A2.2.2.2.2.2.2.2.2.2.2) (by omega) ((hq2.s16 _).s17 _) (hro2.tr ⟨rfl, rfl, rfl, fun _ _ => rfl, fun q hq => ⟨up_ne (by omega), up_ne (by omega)⟩, rfl⟩) (by repeat (first | with_reducible assumption | (rw [rl_u_s]; done) | (rw [rl_u_s]; rfl) | rw [rl_u_n (by first | with_reducible assumption | omega)])) (by repeat (first | with_reducible assumption | (rw [rl_u_s]; done) | (rw [rl_u_s]; rfl) | rw [rl_u_n (by first | with_reducible assumption | omega)])) ?_
                  rw [hti, tm_ins, if_pos yc, rwf_up, rwf_up]
                · refine o_aload_n hC dX8_settle_104 (by rfl) ?_
                  refine o_getf hC (fX8_56 hC rfl) dX8_settle_105 (by repeat (first | with_reducible assumption | (rw [rl_u_s]; done) | (rw [rl_u_s]; rfl) | rw [rl_u_n (by first | with_reducible assumption | omega)])) (by first | rfl | with_reducible assumption) ?_
                  refine o_bipush (v := nI 12) hC dX8_settle_108 (by decide +kernel) ?_
                  refine o_iload_n hC dX8_settle_110 (by rfl) ?_
                  refine o_imul hC dX8_settle_111 ?_
                  try rw [nI_mul]
                  refine o_iload hC dX8_settle_112 (by rfl) ?_
                  refine o_iadd hC dX8_settle_114 ?_
                  try rw [nI_add]
                  refine o_iconst (v := nI 1) hC dX8_settle_115 (by decide +kernel) ?_
                  refine o_isub hC dX8_settle_116 ?_
                  rw [show nI (12 * a + (p + 1)) - nI 1 = nI (12 * a + p) from rl_pred _]
                  refine o_laldN (t0 := 1) hC rfl dX8_settle_117 (by repeat (first | with_reducible assumption | (rw [rl_u_s]; done) | (rw [rl_u_s]; rfl) | rw [rl_u_n (by first | with_reducible assumption | omega)])) (by omega) (by decide) ?_
                  refine o_aload_n hC dX8_settle_118 (by rfl) ?_
                  refine o_getf hC (fX8_63 hC rfl) dX8_settle_119 (by repeat (first | with_reducible assumption | (rw [rl_u_s]; done) | (rw [rl_u_s]; rfl) | rw [rl_u_n (by first | with_reducible assumption | omega)])) (by first | rfl | with_reducible assumption) ?_
                  refine o_iload hC dX8_settle_122 (by rfl) ?_
                  refine o_laldN (t0 := 1) hC rfl dX8_settle_124 (by repeat (first | with_reducible assumption | (rw [rl_u_s]; done) | (rw [rl_u_s]; rfl) | rw [rl_u_n (by first | with_reducible assumption | omega)])) (by omega) (by decide) ?_
                  refine o_lcmp hC dX8_settle_125 ?_
                  refine o_if_ne (tgt := 212) hC dX8_settle_126 (by decide) (fun c_126 => ?_) (fun c_126 => ?_)
                  · have nc : ¬ (A.2.2.2.2.2.2.1 i < A2.2.2.2.2.1 (12 * a + p) ∨ (A2.2.2.2.2.1 (12 * a + p) = A.2.2.2.2.2.2.1 i ∧ A.2.2.2.2.2.2.2.1 i < A2.2.2.2.2.2.1 (12 * a + p))) := by
                      first
                      | exact fun w => w.elim (fun w => c_101 ((lg_cmp_gt _ _).mpr w)) (fun w => c_126 ((lg_cmp_eq _ _).mpr w.1))
                      | exact fun w => w.elim (fun w => c_101 ((lg_cmp_gt _ _).mpr w)) (fun w => Int64.not_lt.mpr ((lg_cmp_le _ _).mp c_151) w.2)
                    refine o_aload_n hC dX8_settle_212 (by rfl) ?_
                    refine o_getf hC (fX8_56 hC rfl) dX8_settle_213 (by repeat (first | with_reducible assumption | (rw [rl_u_s]; done) | (rw [rl_u_s]; rfl) | rw [rl_u_n (by first | with_reducible assumption | omega)])) (by first | rfl | with_reducible assumption) ?_
                    refine o_bipush (v := nI 12) hC dX8_settle_216 (by decide +kernel) ?_
                    refine o_iload_n hC dX8_settle_218 (by rfl) ?_
                    refine o_imul hC dX8_settle_219 ?_
                    try rw [nI_mul]
                    refine o_iload hC dX8_settle_220 (by rfl) ?_
                    refine o_iadd hC dX8_settle_222 ?_
                    try rw [nI_add]
                    refine o_aload_n hC dX8_settle_223 (by rfl) ?_
                    refine o_getf hC (fX8_63 hC rfl) dX8_settle_224 (by repeat (first | with_reducible assumption | (rw [rl_u_s]; done) | (rw [rl_u_s]; rfl) | rw [rl_u_n (by first | with_reducible assumption | omega)])) (by first | rfl | with_reducible assumption) ?_
                    refine o_iload hC dX8_settle_227 (by rfl) ?_
                    refine o_laldN (t0 := 1) hC rfl dX8_settle_229 (by repeat (first | with_reducible assumption | (rw [rl_u_s]; done) | (rw [rl_u_s]; rfl) | rw [rl_u_n (by first | with_reducible assumption | omega)])) (by omega) (by decide) ?_
                    refine o_lastN (t0 := 1) hC rfl dX8_settle_230 (by repeat (first | with_reducible assumption | (rw [rl_u_s]; done) | (rw [rl_u_s]; rfl) | rw [rl_u_n (by first | with_reducible assumption | omega)])) (by omega) (by decide) ?_
                    refine o_aload_n hC dX8_settle_231 (by rfl) ?_
                    refine o_getf hC (fX8_60 hC rfl) dX8_settle_232 (by repeat (first | with_reducible assumption | (rw [rl_u_s]; done) | (rw [rl_u_s]; rfl) | rw [rl_u_n (by first | with_reducible assumption | omega)])) (by first | rfl | with_reducible assumption) ?_
                    refine o_bipush (v := nI 12) hC dX8_settle_235 (by decide +kernel) ?_
                    refine o_iload_n hC dX8_settle_237 (by rfl) ?_
                    refine o_imul hC dX8_settle_238 ?_
                    try rw [nI_mul]
                    refine o_iload hC dX8_settle_239 (by rfl) ?_
                    refine o_iadd hC dX8_settle_241 ?_
                    try rw [nI_add]
                    refine o_aload_n hC dX8_settle_242 (by rfl) ?_
                    refine o_getf hC (fX8_66 hC rfl) dX8_settle_243 (by repeat (first | with_reducible assumption | (rw [rl_u_s]; done) | (rw [rl_u_s]; rfl) | rw [rl_u_n (by first | with_reducible assumption | omega)])) (by first | rfl | with_reducible assumption) ?_
                    refine o_iload hC dX8_settle_246 (by rfl) ?_
                    refine o_laldN (t0 := 1) hC rfl dX8_settle_248 (by repeat (first | with_reducible assumption | (rw [rl_u_s]; done) | (rw [rl_u_s]; rfl) | rw [rl_u_n (by first | with_reducible assumption | omega)])) (by omega) (by decide) ?_
                    refine o_lastN (t0 := 1) hC rfl dX8_settle_249 (by repeat (first | with_reducible assumption | (rw [rl_u_s]; done) | (rw [rl_u_s]; rfl) | rw [rl_u_n (by first | with_reducible assumption | omega)])) (by omega) (by decide) ?_
                    refine o_iinc hC dX8_settle_250 (by rfl) (rl_inc _) (Nat.le_of_ble_eq_true rfl) ?_
                    refine o_iinc hC dX8_settle_253 (by rfl) (rl_inc _) (Nat.le_of_ble_eq_true rfl) ?_
                    refine o_goto (tgt := 53) hC dX8_settle_256 (by decide) ?_
                    have er : rwf (vp_updL A2.2.2.2.2.1 (12 * a + (p + 1)) (A.2.2.2.2.2.2.1 i)) a = (tm_ins (A.2.2.2.2.2.2.1 i) (A.2.2.2.2.2.2.2.1 i) (md_cnt (fun w => gs A.2.2.2.2.2.2.1 A.2.2.2.2.2.2.2.1 w k 0) i) (rwf A1.2.2.2.2.1 a) (rwf A1.2.2.2.2.2.1 a)).1 ∧ rwf (vp_updL A2.2.2.2.2.2.1 (12 * a + (p + 1)) (A.2.2.2.2.2.2.2.1 i)) a = (tm_ins (A.2.2.2.2.2.2.1 i) (A.2.2.2.2.2.2.2.1 i) (md_cnt (fun w => gs A.2.2.2.2.2.2.1 A.2.2.2.2.2.2.2.1 w k 0) i) (rwf A1.2.2.2.2.1 a) (rwf A1.2.2.2.2.2.1 a)).2 := ⟨by rw [rwf_up, hti, tm_ins, if_neg nc], by rw [rwf_up, hti, tm_ins, if_neg nc]⟩
                    rw [← md_cnt_s (G := (fun w => gs A.2.2.2.2.2.2.1 A.2.2.2.2.2.2.2.1 w k 0)) c_68]
                    refine ih (i + 1) _ (A2.1, A2.2.1, A2.2.2.1, A2.2.2.2.1, vp_updL A2.2.2.2.2.1 (12 * a + (p + 1)) (A.2.2.2.2.2.2.1 i), vp_updL A2.2.2.2.2.2.1 (12 * a + (p + 1)) (A.2.2.2.2.2.2.2.1 i), A2.2.2.2.2.2.2.1, A2.2.2.2.2.2.2.2.1, A2.2.2.2.2.2.2.2.2.1, A2.2.2.2.2.2.2.2.2.2.1, A2.2.2.2.2.2.2.2.2.2.2) _ _ (by omega) ((hq2.s16 _).s17 _) (hro2.tr ⟨rfl, rfl, rfl, fun _ _ => rfl, fun q hq => ⟨up_ne (by omega), up_ne (by omega)⟩, rfl⟩) (by repeat (first | with_reducible assumption | (rw [rl_u_s]; done) | (rw [rl_u_s]; rfl) | rw [rl_u_n (by first | with_reducible assumption | omega)])) (by repeat (first | with_reducible assumption | (rw [rl_u_s]; done) | (rw [rl_u_s]; rfl) | rw [rl_u_n (by first | with_reducible assumption | omega)])) ?_
                    rw [md_cnt_s (G := (fun w => gs A.2.2.2.2.2.2.1 A.2.2.2.2.2.2.2.1 w k 0)) c_68, keep_s (by omega) (by omega) c_68, tso_snoc, ← hrow, ← tm_ins_list, ← er.1, ← er.2]
                  · refine o_aload_n hC dX8_settle_129 (by rfl) ?_
                    refine o_getf hC (fX8_60 hC rfl) dX8_settle_130 (by repeat (first | with_reducible assumption | (rw [rl_u_s]; done) | (rw [rl_u_s]; rfl) | rw [rl_u_n (by first | with_reducible assumption | omega)])) (by first | rfl | with_reducible assumption) ?_
                    refine o_bipush (v := nI 12) hC dX8_settle_133 (by decide +kernel) ?_
                    refine o_iload_n hC dX8_settle_135 (by rfl) ?_
                    refine o_imul hC dX8_settle_136 ?_
                    try rw [nI_mul]
                    refine o_iload hC dX8_settle_137 (by rfl) ?_
                    refine o_iadd hC dX8_settle_139 ?_
                    try rw [nI_add]
                    refine o_iconst (v := nI 1) hC dX8_settle_140 (by decide +kernel) ?_
                    refine o_isub hC dX8_settle_141 ?_
                    rw [show nI (12 * a + (p + 1)) - nI 1 = nI (12 * a + p) from rl_pred _]
                    refine o_laldN (t0 := 1) hC rfl dX8_settle_142 (by repeat (first | with_reducible assumption | (rw [rl_u_s]; done) | (rw [rl_u_s]; rfl) | rw [rl_u_n (by first | with_reducible assumption | omega)])) (by omega) (by decide) ?_
                    refine o_aload_n hC dX8_settle_143 (by rfl) ?_
                    refine o_getf hC (fX8_66 hC rfl) dX8_settle_144 (by repeat (first | with_reducible assumption | (rw [rl_u_s]; done) | (rw [rl_u_s]; rfl) | rw [rl_u_n (by first | with_reducible assumption | omega)])) (by first | rfl | with_reducible assumption) ?_
                    refine o_iload hC dX8_settle_147 (by rfl) ?_
                    refine o_laldN (t0 := 1) hC rfl dX8_settle_149 (by repeat (first | with_reducible assumption | (rw [rl_u_s]; done) | (rw [rl_u_s]; rfl) | rw [rl_u_n (by first | with_reducible assumption | omega)])) (by omega) (by decide) ?_
                    refine o_lcmp hC dX8_settle_150 ?_
                    refine o_if_le (tgt := 212) hC dX8_settle_151 (by decide) (fun c_151 => ?_) (fun c_151 => ?_)
                    · have nc : ¬ (A.2.2.2.2.2.2.1 i < A2.2.2.2.2.1 (12 * a + p) ∨ (A2.2.2.2.2.1 (12 * a + p) = A.2.2.2.2.2.2.1 i ∧ A.2.2.2.2.2.2.2.1 i < A2.2.2.2.2.2.1 (12 * a + p))) := by
                        first
                        | exact fun w => w.elim (fun w => c_101 ((lg_cmp_gt _ _).mpr w)) (fun w => c_126 ((lg_cmp_eq _ _).mpr w.1))
                        | exact fun w => w.elim (fun w => c_101 ((lg_cmp_gt _ _).mpr w)) (fun w => Int64.not_lt.mpr ((lg_cmp_le _ _).mp c_151) w.2)
                      refine o_aload_n hC dX8_settle_212 (by rfl) ?_
                      refine o_getf hC (fX8_56 hC rfl) dX8_settle_213 (by repeat (first | with_reducible assumption | (rw [rl_u_s]; done) | (rw [rl_u_s]; rfl) | rw [rl_u_n (by first | with_reducible assumption | omega)])) (by first | rfl | with_reducible assumption) ?_
                      refine o_bipush (v := nI 12) hC dX8_settle_216 (by decide +kernel) ?_
                      refine o_iload_n hC dX8_settle_218 (by rfl) ?_
                      refine o_imul hC dX8_settle_219 ?_
                      try rw [nI_mul]
                      refine o_iload hC dX8_settle_220 (by rfl) ?_
                      refine o_iadd hC dX8_settle_222 ?_
                      try rw [nI_add]
                      refine o_aload_n hC dX8_settle_223 (by rfl) ?_
                      refine o_getf hC (fX8_63 hC rfl) dX8_settle_224 (by repeat (first | with_reducible assumption | (rw [rl_u_s]; done) | (rw [rl_u_s]; rfl) | rw [rl_u_n (by first | with_reducible assumption | omega)])) (by first | rfl | with_reducible assumption) ?_
                      refine o_iload hC dX8_settle_227 (by rfl) ?_
                      refine o_laldN (t0 := 1) hC rfl dX8_settle_229 (by repeat (first | with_reducible assumption | (rw [rl_u_s]; done) | (rw [rl_u_s]; rfl) | rw [rl_u_n (by first | with_reducible assumption | omega)])) (by omega) (by decide) ?_
                      refine o_lastN (t0 := 1) hC rfl dX8_settle_230 (by repeat (first | with_reducible assumption | (rw [rl_u_s]; done) | (rw [rl_u_s]; rfl) | rw [rl_u_n (by first | with_reducible assumption | omega)])) (by omega) (by decide) ?_
                      refine o_aload_n hC dX8_settle_231 (by rfl) ?_
                      refine o_getf hC (fX8_60 hC rfl) dX8_settle_232 (by repeat (first | with_reducible assumption | (rw [rl_u_s]; done) | (rw [rl_u_s]; rfl) | rw [rl_u_n (by first | with_reducible assumption | omega)])) (by first | rfl | with_reducible assumption) ?_
                      refine o_bipush (v := nI 12) hC dX8_settle_235 (by decide +kernel) ?_
                      refine o_iload_n hC dX8_settle_237 (by rfl) ?_
                      refine o_imul hC dX8_settle_238 ?_
                      try rw [nI_mul]
                      refine o_iload hC dX8_settle_239 (by rfl) ?_
                      refine o_iadd hC dX8_settle_241 ?_
                      try rw [nI_add]
                      refine o_aload_n hC dX8_settle_242 (by rfl) ?_
                      refine o_getf hC (fX8_66 hC rfl) dX8_settle_243 (by repeat (first | with_reducible assumption | (rw [rl_u_s]; done) | (rw [rl_u_s]; rfl) | rw [rl_u_n (by first | with_reducible assumption | omega)])) (by first | rfl | with_reducible assumption) ?_
                      refine o_iload hC dX8_settle_246 (by rfl) ?_
                      refine o_laldN (t0 := 1) hC rfl dX8_settle_248 (by repeat (first | with_reducible assumption | (rw [rl_u_s]; done) | (rw [rl_u_s]; rfl) | rw [rl_u_n (by first | with_reducible assumption | omega)])) (by omega) (by decide) ?_
                      refine o_lastN (t0 := 1) hC rfl dX8_settle_249 (by repeat (first | with_reducible assumption | (rw [rl_u_s]; done) | (rw [rl_u_s]; rfl) | rw [rl_u_n (by first | with_reducible assumption | omega)])) (by omega) (by decide) ?_
                      refine o_iinc hC dX8_settle_250 (by rfl) (rl_inc _) (Nat.le_of_ble_eq_true rfl) ?_
                      refine o_iinc hC dX8_settle_253 (by rfl) (rl_inc _) (Nat.le_of_ble_eq_true rfl) ?_
                      refine o_goto (tgt := 53) hC dX8_settle_256 (by decide) ?_
                      have er : rwf (vp_updL A2.2.2.2.2.1 (12 * a + (p + 1)) (A.2.2.2.2.2.2.1 i)) a = (tm_ins (A.2.2.2.2.2.2.1 i) (A.2.2.2.2.2.2.2.1 i) (md_cnt (fun w => gs A.2.2.2.2.2.2.1 A.2.2.2.2.2.2.2.1 w k 0) i) (rwf A1.2.2.2.2.1 a) (rwf A1.2.2.2.2.2.1 a)).1 ∧ rwf (vp_updL A2.2.2.2.2.2.1 (12 * a + (p + 1)) (A.2.2.2.2.2.2.2.1 i)) a = (tm_ins (A.2.2.2.2.2.2.1 i) (A.2.2.2.2.2.2.2.1 i) (md_cnt (fun w => gs A.2.2.2.2.2.2.1 A.2.2.2.2.2.2.2.1 w k 0) i) (rwf A1.2.2.2.2.1 a) (rwf A1.2.2.2.2.2.1 a)).2 := ⟨by rw [rwf_up, hti, tm_ins, if_neg nc], by rw [rwf_up, hti, tm_ins, if_neg nc]⟩
                      rw [← md_cnt_s (G := (fun w => gs A.2.2.2.2.2.2.1 A.2.2.2.2.2.2.2.1 w k 0)) c_68]
                      refine ih (i + 1) _ (A2.1, A2.2.1, A2.2.2.1, A2.2.2.2.1, vp_updL A2.2.2.2.2.1 (12 * a + (p + 1)) (A.2.2.2.2.2.2.1 i), vp_updL A2.2.2.2.2.2.1 (12 * a + (p + 1)) (A.2.2.2.2.2.2.2.1 i), A2.2.2.2.2.2.2.1, A2.2.2.2.2.2.2.2.1, A2.2.2.2.2.2.2.2.2.1, A2.2.2.2.2.2.2.2.2.2.1, A2.2.2.2.2.2.2.2.2.2.2) _ _ (by omega) ((hq2.s16 _).s17 _) (hro2.tr ⟨rfl, rfl, rfl, fun _ _ => rfl, fun q hq => ⟨up_ne (by omega), up_ne (by omega)⟩, rfl⟩) (by repeat (first | with_reducible assumption | (rw [rl_u_s]; done) | (rw [rl_u_s]; rfl) | rw [rl_u_n (by first | with_reducible assumption | omega)])) (by repeat (first | with_reducible assumption | (rw [rl_u_s]; done) | (rw [rl_u_s]; rfl) | rw [rl_u_n (by first | with_reducible assumption | omega)])) ?_
                      rw [md_cnt_s (G := (fun w => gs A.2.2.2.2.2.2.1 A.2.2.2.2.2.2.2.1 w k 0)) c_68, keep_s (by omega) (by omega) c_68, tso_snoc, ← hrow, ← tm_ins_list, ← er.1, ← er.2]
                    · have yc : (A.2.2.2.2.2.2.1 i < A2.2.2.2.2.1 (12 * a + p) ∨ (A2.2.2.2.2.1 (12 * a + p) = A.2.2.2.2.2.2.1 i ∧ A.2.2.2.2.2.2.2.1 i < A2.2.2.2.2.2.1 (12 * a + p))) := by
                        first
                        | exact Or.inl ((lg_cmp_gt _ _).mp c_101)
                        | exact Or.inr ⟨(lg_cmp_eq _ _).mp c_126, Int64.not_le.mp (fun w => c_151 ((lg_cmp_le _ _).mpr w))⟩
                      refine o_aload_n hC dX8_settle_154 (by rfl) ?_
                      refine o_getf hC (fX8_56 hC rfl) dX8_settle_155 (by repeat (first | with_reducible assumption | (rw [rl_u_s]; done) | (rw [rl_u_s]; rfl) | rw [rl_u_n (by first | with_reducible assumption | omega)])) (by first | rfl | with_reducible assumption) ?_
                      refine o_bipush (v := nI 12) hC dX8_settle_158 (by decide +kernel) ?_
                      refine o_iload_n hC dX8_settle_160 (by rfl) ?_
                      refine o_imul hC dX8_settle_161 ?_
                      try rw [nI_mul]
                      refine o_iload hC dX8_settle_162 (by rfl) ?_
                      refine o_iadd hC dX8_settle_164 ?_
                      try rw [nI_add]
                      refine o_aload_n hC dX8_settle_165 (by rfl) ?_
                      refine o_getf hC (fX8_56 hC rfl) dX8_settle_166 (by repeat (first | with_reducible assumption | (rw [rl_u_s]; done) | (rw [rl_u_s]; rfl) | rw [rl_u_n (by first | with_reducible assumption | omega)])) (by first | rfl | with_reducible assumption) ?_
                      refine o_bipush (v := nI 12) hC dX8_settle_169 (by decide +kernel) ?_
                      refine o_iload_n hC dX8_settle_171 (by rfl) ?_
                      refine o_imul hC dX8_settle_172 ?_
                      try rw [nI_mul]
                      refine o_iload hC dX8_settle_173 (by rfl) ?_
                      refine o_iadd hC dX8_settle_175 ?_
                      try rw [nI_add]
                      refine o_iconst (v := nI 1) hC dX8_settle_176 (by decide +kernel) ?_
                      refine o_isub hC dX8_settle_177 ?_
                      rw [show nI (12 * a + (p + 1)) - nI 1 = nI (12 * a + p) from rl_pred _]
                      refine o_laldN (t0 := 1) hC rfl dX8_settle_178 (by repeat (first | with_reducible assumption | (rw [rl_u_s]; done) | (rw [rl_u_s]; rfl) | rw [rl_u_n (by first | with_reducible assumption | omega)])) (by omega) (by decide) ?_
                      refine o_lastN (t0 := 1) hC rfl dX8_settle_179 (by repeat (first | with_reducible assumption | (rw [rl_u_s]; done) | (rw [rl_u_s]; rfl) | rw [rl_u_n (by first | with_reducible assumption | omega)])) (by omega) (by decide) ?_
                      refine o_aload_n hC dX8_settle_180 (by rfl) ?_
                      refine o_getf hC (fX8_60 hC rfl) dX8_settle_181 (by repeat (first | with_reducible assumption | (rw [rl_u_s]; done) | (rw [rl_u_s]; rfl) | rw [rl_u_n (by first | with_reducible assumption | omega)])) (by first | rfl | with_reducible assumption) ?_
                      refine o_bipush (v := nI 12) hC dX8_settle_184 (by decide +kernel) ?_
                      refine o_iload_n hC dX8_settle_186 (by rfl) ?_
                      refine o_imul hC dX8_settle_187 ?_
                      try rw [nI_mul]
                      refine o_iload hC dX8_settle_188 (by rfl) ?_
                      refine o_iadd hC dX8_settle_190 ?_
                      try rw [nI_add]
                      refine o_aload_n hC dX8_settle_191 (by rfl) ?_
                      refine o_getf hC (fX8_60 hC rfl) dX8_settle_192 (by repeat (first | with_reducible assumption | (rw [rl_u_s]; done) | (rw [rl_u_s]; rfl) | rw [rl_u_n (by first | with_reducible assumption | omega)])) (by first | rfl | with_reducible assumption) ?_
                      refine o_bipush (v := nI 12) hC dX8_settle_195 (by decide +kernel) ?_
                      refine o_iload_n hC dX8_settle_197 (by rfl) ?_
                      refine o_imul hC dX8_settle_198 ?_
                      try rw [nI_mul]
                      refine o_iload hC dX8_settle_199 (by rfl) ?_
                      refine o_iadd hC dX8_settle_201 ?_
                      try rw [nI_add]
                      refine o_iconst (v := nI 1) hC dX8_settle_202 (by decide +kernel) ?_
                      refine o_isub hC dX8_settle_203 ?_
                      rw [show nI (12 * a + (p + 1)) - nI 1 = nI (12 * a + p) from rl_pred _]
                      refine o_laldN (t0 := 1) hC rfl dX8_settle_204 (by repeat (first | with_reducible assumption | (rw [rl_u_s]; done) | (rw [rl_u_s]; rfl) | rw [rl_u_n (by first | with_reducible assumption | omega)])) (by omega) (by decide) ?_
                      refine o_lastN (t0 := 1) hC rfl dX8_settle_205 (by repeat (first | with_reducible assumption | (rw [rl_u_s]; done) | (rw [rl_u_s]; rfl) | rw [rl_u_n (by first | with_reducible assumption | omega)])) (by omega) (by decide) ?_
                      refine o_iinc hC dX8_settle_206 (by rfl) (rl_dec _) (Nat.le_of_ble_eq_true rfl) ?_
                      refine o_goto (tgt := 74) hC dX8_settle_209 (by decide) ?_
                      refine ihp _ (A2.1, A2.2.1, A2.2.2.1, A2.2.2.2.1, vp_updL A2.2.2.2.2.1 (12 * a + (p + 1)) (A2.2.2.2.2.1 (12 * a + p)), vp_updL A2.2.2.2.2.2.1 (12 * a + (p + 1)) (A2.2.2.2.2.2.1 (12 * a + p)), A2.2.2.2.2.2.2.1, A2.2.2.2.2.2.2.2.1, A2.2.2.2.2.2.2.2.2.1, A2.2.2.2.2.2.2.2.2.2.1, A2.2.2.2.2.2.2.2.2.2.2) (by omega) ((hq2.s16 _).s17 _) (hro2.tr ⟨rfl, rfl, rfl, fun _ _ => rfl, fun q hq => ⟨up_ne (by omega), up_ne (by omega)⟩, rfl⟩) (by repeat (first | with_reducible assumption | (rw [rl_u_s]; done) | (rw [rl_u_s]; rfl) | rw [rl_u_n (by first | with_reducible assumption | omega)])) (by repeat (first | with_reducible assumption | (rw [rl_u_s]; done) | (rw [rl_u_s]; rfl) | rw [rl_u_n (by first | with_reducible assumption | omega)])) ?_
                      rw [hti, tm_ins, if_pos yc, rwf_up, rwf_up]
          refine o_iload_n hC dX8_settle_71 (by rfl) ?_
          refine o_istore hC dX8_settle_72 (Nat.le_of_ble_eq_true rfl) ?_
          exact loop3 _ _ A1 (Nat.le_refl _) hq1 hro e18 e19 rfl
  have loop1 : ∀ (mm i : Nat), i + mm = k → rl_G X (rl_e D ids H0) 4 [some (.ref m), some (.int (nI a)), some (.int (nI (md_cnt (fun w => gs A.2.2.2.2.2.2.1 A.2.2.2.2.2.2.2.1 w k 0) i))), some (.int (nI i)), none, none] [] h n 0 0 := by
    intro mm
    induction mm with
    | zero =>
      intro i hm
      have ei : i = k := by omega
      subst ei
      refine o_iload_n hC dX8_settle_4 (by rfl) ?_
      refine o_aload_n hC dX8_settle_5 (by rfl) ?_
      refine o_getf hC (fX8_82 hC rfl) dX8_settle_6 (by repeat (first | with_reducible assumption | (rw [rl_u_s]; done) | (rw [rl_u_s]; rfl) | rw [rl_u_n (by first | with_reducible assumption | omega)])) (by first | rfl | with_reducible assumption) ?_
      refine o_icmp_ge (tgt := 29) hC dX8_settle_9 (by decide) (fun c_9 => ?_) (fun c_9 => ?_)
      · refine o_iload_n hC dX8_settle_29 (by rfl) ?_
        refine o_bipush (v := nI 12) hC dX8_settle_30 (by decide +kernel) ?_
        refine o_icmp_le (tgt := 48) hC dX8_settle_32 (by decide) (fun c_32 => ?_) (fun c_32 => ?_)
        · refine o_iconst (v := nI 0) hC dX8_settle_48 (by decide +kernel) ?_
          refine o_istore_n hC dX8_settle_49 (Nat.le_of_ble_eq_true rfl) ?_
          refine o_iconst (v := nI 0) hC dX8_settle_50 (by decide +kernel) ?_
          refine o_istore hC dX8_settle_51 (Nat.le_of_ble_eq_true rfl) ?_
          exact loop2 ((nI_leI (by have := md_cnt_ub (fun w => gs A.2.2.2.2.2.2.1 A.2.2.2.2.2.2.2.1 w i 0) i; omega) (by decide)).mp c_32) i 0 h A _ _ (by omega) hq mro.rf g18 g19 rfl
        · refine o_aload_n hC dX8_settle_35 (by rfl) ?_
          refine o_iconst (v := nI 1) hC dX8_settle_36 (by decide +kernel) ?_
          refine o_putf hC (fX8_91 hC rfl) (fwX8 rfl rfl rfl (Or.inl rfl)) dX8_settle_37 (by repeat (first | with_reducible assumption | (rw [rl_u_s]; done) | (rw [rl_u_s]; rfl) | rw [rl_u_n (by first | with_reducible assumption | omega)])) (Nat.le_of_ble_eq_true rfl) ?_
          try simp only [List.set_cons_zero, List.set_cons_succ]
          refine o_aload_n hC dX8_settle_40 (by rfl) ?_
          refine o_getf hC (fX8_53 hC rfl) dX8_settle_41 (by repeat (first | with_reducible assumption | (rw [rl_u_s]; done) | (rw [rl_u_s]; rfl) | rw [rl_u_n (by first | with_reducible assumption | omega)])) (by first | rfl | with_reducible assumption) ?_
          refine o_iload_n hC dX8_settle_44 (by rfl) ?_
          refine o_iconst (v := nI 0) hC dX8_settle_45 (by decide +kernel) ?_
          refine o_iastN (t0 := 0) hC rfl dX8_settle_46 (by repeat (first | with_reducible assumption | (rw [rl_u_s]; done) | (rw [rl_u_s]; rfl) | rw [rl_u_n (by first | with_reducible assumption | omega)])) (by omega) (by decide) ?_
          refine o_vret hC hB dX8_settle_47 (Nat.le_of_ble_eq_true rfl) (Nat.le_of_ble_eq_true rfl) ?_
          refine ⟨nI 1, (A.1, A.2.1, A.2.2.1, upd A.2.2.2.1 a (nI 0), A.2.2.2.2.1, A.2.2.2.2.2.1, A.2.2.2.2.2.2.1, A.2.2.2.2.2.2.2.1, A.2.2.2.2.2.2.2.2.1, A.2.2.2.2.2.2.2.2.2.1, A.2.2.2.2.2.2.2.2.2.2), rfl, rfl, (hq.ob T (nI 1) i gk).s15 _ (md_bd b15 ⟨0, by decide, rfl⟩), ⟨rfl, rfl, rfl, fun j hj => if_neg hj, fun _ _ => ⟨rfl, rfl⟩, rfl⟩, Or.inr ⟨?_, rfl, if_pos rfl⟩⟩
          rw [← cnt_keep (by omega) _ (by omega)]
          exact Nat.not_le.mp (fun w => c_32 (nI_le w (by decide)))
      · exact absurd (nI_le (by omega) (by omega)) c_9
    | succ mm ih =>
      intro i hm
      refine o_iload_n hC dX8_settle_4 (by rfl) ?_
      refine o_aload_n hC dX8_settle_5 (by rfl) ?_
      refine o_getf hC (fX8_82 hC rfl) dX8_settle_6 (by repeat (first | with_reducible assumption | (rw [rl_u_s]; done) | (rw [rl_u_s]; rfl) | rw [rl_u_n (by first | with_reducible assumption | omega)])) (by first | rfl | with_reducible assumption) ?_
      refine o_icmp_ge (tgt := 29) hC dX8_settle_9 (by decide) (fun c_9 => ?_) (fun c_9 => ?_)
      · exact absurd c_9 (nI_ge (by omega) (by omega))
      · refine o_aload_n hC dX8_settle_12 (by rfl) ?_
        refine o_iload_n hC dX8_settle_13 (by rfl) ?_
        refine o_callV1 hC rl_BW_good rl_Ns_nw (by exact hB.2.2.2.2.2) YX8_goes IX8_goes VX8_goes (mX8_87 hC) (by rw [hB.1]; exact cm_X8_goes l D ids H0 _ _ m T _ _ i A.2.2.2.2.2.2.1 A.2.2.2.2.2.2.2.1 hq.1.rf g18 g19 (by omega)) (by exact hq.1.1) rfl rfl (Nat.le_of_ble_eq_true rfl) (by rw [hB.2.1]; first | exact Nat.le_of_ble_eq_true rfl | (dsimp only; omega)) (by rw [hB.2.1]; first | exact Nat.le_of_ble_eq_true rfl | (dsimp only; omega)) (by rw [hB.2.1]; first | exact Nat.le_of_ble_eq_true rfl | (dsimp only; omega)) (by rw [hB.2.1]; first | exact Nat.le_of_ble_eq_true rfl | (dsimp only; omega)) dX8_settle_14 (fun v h_14 n_14 p_14 => ?_)
        obtain ⟨rfl, rfl, rfl⟩ := p_14
        try dsimp only [Option.toList, List.cons_append, List.nil_append]
        refine o_if_ne (tgt := 23) hC dX8_settle_17 (by decide) (fun c_17 => ?_) (fun c_17 => ?_)
        · refine o_iinc hC dX8_settle_23 (by rfl) (rl_inc _) (Nat.le_of_ble_eq_true rfl) ?_
          refine o_goto (tgt := 4) hC dX8_settle_26 (by decide) ?_
          have lp := ih (i + 1) (by omega)
          first
          | (rw [md_cnt_s (G := (fun w => gs A.2.2.2.2.2.2.1 A.2.2.2.2.2.2.2.1 w k 0)) c_17] at lp; exact lp)
          | (rw [md_cnt_n (G := (fun w => gs A.2.2.2.2.2.2.1 A.2.2.2.2.2.2.2.1 w k 0)) c_17] at lp; exact lp)
        · refine o_iinc hC dX8_settle_20 (by rfl) (rl_inc _) (Nat.le_of_ble_eq_true rfl) ?_
          refine o_iinc hC dX8_settle_23 (by rfl) (rl_inc _) (Nat.le_of_ble_eq_true rfl) ?_
          refine o_goto (tgt := 4) hC dX8_settle_26 (by decide) ?_
          have lp := ih (i + 1) (by omega)
          first
          | (rw [md_cnt_s (G := (fun w => gs A.2.2.2.2.2.2.1 A.2.2.2.2.2.2.2.1 w k 0)) c_17] at lp; exact lp)
          | (rw [md_cnt_n (G := (fun w => gs A.2.2.2.2.2.2.1 A.2.2.2.2.2.2.2.1 w k 0)) c_17] at lp; exact lp)
  show rl_G X (rl_e D ids H0) 0 [some (.ref m), some (.int (nI a)), none, none, none, none] [] h n 0 0
  refine o_iconst (v := nI 0) hC dX8_settle_0 (by decide +kernel) ?_
  refine o_istore_n hC dX8_settle_1 (Nat.le_of_ble_eq_true rfl) ?_
  refine o_iconst (v := nI 0) hC dX8_settle_2 (by decide +kernel) ?_
  refine o_istore_n hC dX8_settle_3 (Nat.le_of_ble_eq_true rfl) ?_
  exact loop1 k 0 (by omega)
