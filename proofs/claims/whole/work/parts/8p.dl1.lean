/-! the deep lift -/
theorem mrl.of {S : md_A} {sf : Nat → Int32} {cf : Nat → Nat → Int32} {N N' : Nat → Nat → Int32} {z : sh_S} (H : mrl S sf cf N z) (e : ∀ i : Nat, i < z.2.2.2.1 → ∀ f : Nat, f < 8 → N' i f = N i f) : mrl S sf cf N' z := by
  refine ⟨H.1, fun a ha => ?_⟩
  obtain ⟨h1, h2, h3, h4⟩ := H.2 a ha
  refine ⟨h1.of (fun i hi => e i (by omega)), h2.trans (e a ha 0 (by decide)).symm, h3.trans (e a ha 1 (by decide)).symm, ?_⟩
  rw [e a ha 0 (by decide), e a ha 2 (by decide), e a ha 3 (by decide), e a ha 4 (by decide), e a ha 5 (by decide), e a ha 6 (by decide), e a ha 7 (by decide)]
  exact h4
theorem mrl.zz {S : md_A} {sf : Nat → Int32} {cf N : Nat → Nat → Int32} {z z' : sh_S} (H : mrl S sf cf N z) (e1 : z'.2.2.1 = z.2.2.1) (e2 : z'.2.2.2.1 = z.2.2.2.1) : mrl S sf cf N z' := by
  unfold mrl
  rw [e1, e2]
  exact H
theorem mrs.T {A : md_D} {T T' : md_T} {res : List arow} {rw : Nat} (H : mrs A T res rw) (e : T'.2.2.2.2.2.1 = T.2.2.2.2.2.1) : mrs A T' res rw := ⟨H.1, H.2.1, H.2.2.1, fun q => e.trans (H.2.2.2 q)⟩
theorem aok.nil {w : Nat} : aok w [] := ⟨List.Pairwise.nil, fun r hr => absurd hr (by simp), Nat.zero_le _⟩
theorem mrs.nil {A : md_D} {T : md_T} {rw : Nat} (h : A.2.1 16 = nI 0) (hw : rw ≤ 6) : mrs A T [] rw := ⟨⟨h, fun j hj => absurd hj (Nat.not_lt_zero j)⟩, aok.nil, hw, fun q => absurd rfl q⟩
theorem mq.eqv {ids : Nat → ClassId} {h h' : rl_H} {m : Nat} {T : md_T} {fu : Int32} {k : Nat} (H : mq ids h h m T fu k) (he : ∀ q : Nat, m ≤ q → q < m + 23 → h' q = h q) : mq ids h' h' m T fu k := by
  obtain ⟨g0, gk, ⟨d12, d13, d14, d15, d16, d17, d18, d19, d20, d21, d22⟩, -⟩ := H
  exact ⟨(he m (by omega) (by omega)).trans g0, gk, ⟨d12.elim fun f e => ⟨f, (he _ (by omega) (by omega)).trans e⟩, d13.elim fun f e => ⟨f, (he _ (by omega) (by omega)).trans e.1, e.2⟩, d14.elim fun f e => ⟨f, (he _ (by omega) (by omega)).trans e⟩, d15.elim fun f e => ⟨f, (he _ (by omega) (by omega)).trans e.1, e.2⟩, d16.elim fun f e => ⟨f, (he _ (by omega) (by omega)).trans e⟩, d17.elim fun f e => ⟨f, (he _ (by omega) (by omega)).trans e⟩, d18.elim fun f e => ⟨f, (he _ (by omega) (by omega)).trans e⟩, d19.elim fun f e => ⟨f, (he _ (by omega) (by omega)).trans e⟩, d20.elim fun f e => ⟨f, (he _ (by omega) (by omega)).trans e⟩, d21.elim fun f e => ⟨f, (he _ (by omega) (by omega)).trans e.1, e.2⟩, d22.elim fun f e => ⟨f, (he _ (by omega) (by omega)).trans e⟩⟩, fun _ _ _ => rfl⟩
/-- the tuples' arrays are the same -/
theorem mf.mv {ids : Nat → ClassId} {h h' : rl_H} {m : Nat} {T T' : md_T} {fu fu' : Int32} {k k' : Nat} {A : md_D} (hq : mf ids h h m T fu k A) (H : mq ids h' h' m T' fu' k') (D : (∀ q : Nat, m + 12 ≤ q → q < m + 23 → h' q = h q)) : mf ids h' h' m T' fu' k' A := by
  obtain ⟨-, a12, a13, a14, a15, a16, a17, a18, a19, a20, a21, a22⟩ := hq
  exact ⟨H, (D _ (by omega) (by omega)).trans a12, (D _ (by omega) (by omega)).trans a13, (D _ (by omega) (by omega)).trans a14, (D _ (by omega) (by omega)).trans a15, (D _ (by omega) (by omega)).trans a16, (D _ (by omega) (by omega)).trans a17, (D _ (by omega) (by omega)).trans a18, (D _ (by omega) (by omega)).trans a19, (D _ (by omega) (by omega)).trans a20, (D _ (by omega) (by omega)).trans a21, (D _ (by omega) (by omega)).trans a22⟩
theorem mf.mv22 {ids : Nat → ClassId} {h h' : rl_H} {m : Nat} {T T' : md_T} {fu fu' : Int32} {k k' : Nat} {A : md_D} (hq : mf ids h h m T fu k A) (H : mq ids h' h' m T' fu' k') (D : (∀ q : Nat, m + 12 ≤ q → q < m + 22 → h' q = h q)) : ∃ it : Nat → Int32, mf ids h' h' m T' fu' k' (A.1, A.2.1, A.2.2.1, A.2.2.2.1, A.2.2.2.2.1, A.2.2.2.2.2.1, A.2.2.2.2.2.2.1, A.2.2.2.2.2.2.2.1, A.2.2.2.2.2.2.2.2.1, A.2.2.2.2.2.2.2.2.2.1, it) := by
  obtain ⟨-, a12, a13, a14, a15, a16, a17, a18, a19, a20, a21, a22⟩ := hq
  obtain ⟨it, e⟩ := H.2.2.1.2.2.2.2.2.2.2.2.2.2
  exact ⟨it, H, (D _ (by omega) (by omega)).trans a12, (D _ (by omega) (by omega)).trans a13, (D _ (by omega) (by omega)).trans a14, (D _ (by omega) (by omega)).trans a15, (D _ (by omega) (by omega)).trans a16, (D _ (by omega) (by omega)).trans a17, (D _ (by omega) (by omega)).trans a18, (D _ (by omega) (by omega)).trans a19, (D _ (by omega) (by omega)).trans a20, (D _ (by omega) (by omega)).trans a21, e⟩
theorem mf.mv13 {ids : Nat → ClassId} {h h' : rl_H} {m : Nat} {T T' : md_T} {fu fu' : Int32} {k k' : Nat} {A : md_D} (hq : mf ids h h m T fu k A) (H : mq ids h' h' m T' fu' k') (D : (∀ q : Nat, m + 12 ≤ q → q < m + 23 → q ≠ m + 13 → h' q = h q)) (e13 : ∀ tu : Nat → Int32, h (m + 13) = some (.inl (ids 0, 17, .inl tu)) → h' (m + 13) = some (.inl (ids 0, 17, .inl (upd tu 16 (nI 0))))) : mf ids h' h' m T' fu' k' (A.1, upd A.2.1 16 (nI 0), A.2.2.1, A.2.2.2.1, A.2.2.2.2.1, A.2.2.2.2.2.1, A.2.2.2.2.2.2.1, A.2.2.2.2.2.2.2.1, A.2.2.2.2.2.2.2.2.1, A.2.2.2.2.2.2.2.2.2.1, A.2.2.2.2.2.2.2.2.2.2) := by
  obtain ⟨-, a12, a13, a14, a15, a16, a17, a18, a19, a20, a21, a22⟩ := hq
  exact ⟨H, (D _ (by omega) (by omega) (by omega)).trans a12, e13 _ a13, (D _ (by omega) (by omega) (by omega)).trans a14, (D _ (by omega) (by omega) (by omega)).trans a15, (D _ (by omega) (by omega) (by omega)).trans a16, (D _ (by omega) (by omega) (by omega)).trans a17, (D _ (by omega) (by omega) (by omega)).trans a18, (D _ (by omega) (by omega) (by omega)).trans a19, (D _ (by omega) (by omega) (by omega)).trans a20, (D _ (by omega) (by omega) (by omega)).trans a21, (D _ (by omega) (by omega) (by omega)).trans a22⟩
/-- the model: its nodes beside the class's, its RESULT -/
def mdd (ids : Nat → ClassId) (h : rl_H) (m : Nat) (z : sh_S) (sf : Nat → Int32) (cf N : Nat → Nat → Int32) (res : List arow) (rw : Nat) : Prop := ∃ (T : md_T) (fu : Int32) (k : Nat) (S : md_A) (A : md_D), md_un ids h m T fu k S z ∧ mf ids h h m T fu k A ∧ mrl S sf cf N z ∧ mrs A T res rw
theorem mdd.eqv {ids : Nat → ClassId} {h h' : rl_H} {m : Nat} {z : sh_S} {sf : Nat → Int32} {cf N : Nat → Nat → Int32} {res : List arow} {rw : Nat} (H : mdd ids h m z sf cf N res rw) (he : ∀ q : Nat, m ≤ q → q < m + 23 → h' q = h q) : mdd ids h' m z sf cf N res rw := by
  obtain ⟨T, fu, k, S, A, ⟨u1, u2, u3⟩, hq, hl, hr⟩ := H
  exact ⟨T, fu, k, S, A, ⟨u1.eqv he, u2.eqv (fun q a b => he q (by omega) (by omega)), u3⟩, hq.mv (u1.eqv he) (fun q a b => he q (by omega) b), hl, hr⟩
theorem mdd.cl {ids : Nat → ClassId} {h h1 : rl_H} {x : Nat} {z : sh_S} {sf : Nat → Int32} {cf N : Nat → Nat → Int32} {res : List arow} {rw : Nat} (hm : mdd ids h (x + 70) z sf cf N res rw) (f1 : cl_fr h h1 x (x + 94)) : mdd ids h1 (x + 70) z sf cf N res rw := hm.eqv (fun q a b => f1 q (by omega) (by omega))
/-- a look -/
theorem mdd.lk {ids : Nat → ClassId} {h h' : rl_H} {m : Nat} {T : md_T} {fu : Int32} {k : Nat} {S : md_A} {A : md_D} {z : sh_S} {sf : Nat → Int32} {cf : Nat → Nat → Int32} {N : Nat → Nat → Int32} {res : List arow} {rw : Nat} (hu : md_un ids h m T fu k S z) (hq : mf ids h h m T fu k A) (hl : mrl S sf cf N z) (hr : mrs A T res rw) (H : mdx ids h' m T z (fun S' => S' = S) (∀ q : Nat, m + 12 ≤ q → q < m + 22 → h' q = h q)) : mdd ids h' m z sf cf N res rw := by
  obtain ⟨T', fu', k', S', hu', eT, eS, D⟩ := H
  subst eS
  obtain ⟨it, hq'⟩ := hq.mv22 hu'.1 D
  exact ⟨T', fu', k', S', _, hu', hq', hl, hr.T eT⟩
/-- a look, functionally -/
theorem mdd.fl {ids : Nat → ClassId} {h h' : rl_H} {m : Nat} {T : md_T} {fu : Int32} {k : Nat} {S : md_A} {A : md_D} {z : sh_S} {sf : Nat → Int32} {cf : Nat → Nat → Int32} {N : Nat → Nat → Int32} {res : List arow} {rw : Nat} (hu : md_un ids h m T fu k S z) (hq : mf ids h h m T fu k A) (hl : mrl S sf cf N z) (hr : mrs A T res rw) {T' : md_T} {fu' : Int32} {k' : Nat} (H : mf ids h h' m T' fu' k' A) (e : T'.2 = T.2) : mdd ids h' m z sf cf N res rw :=
  ⟨T', fu', k', S, A, hu.dp H.1 (by rw [e]) (by rw [e]) (by rw [e]) (by rw [e]) (by rw [e]; exact hu.2.2.2.2.2.2.2.2.2.2), H.rf, hl, hr.T (by rw [e])⟩
/-- nothing of the tuples, nothing of the nodes -/
theorem mdd.sh {ids : Nat → ClassId} {h h' : rl_H} {m : Nat} {T : md_T} {fu : Int32} {k : Nat} {S : md_A} {A : md_D} {z : sh_S} {sf : Nat → Int32} {cf : Nat → Nat → Int32} {N : Nat → Nat → Int32} {res : List arow} {rw : Nat} {z' : sh_S} (hu : md_un ids h m T fu k S z) (hq : mf ids h h m T fu k A) (hl : mrl S sf cf N z) (hr : mrs A T res rw) (H : mdx ids h' m T z' (fun S' => S'.2 = S.2) (∀ q : Nat, m + 12 ≤ q → q < m + 23 → h' q = h q)) (e1 : z'.2.2.1 = z.2.2.1) (e2 : z'.2.2.2.1 = z.2.2.2.1) : mdd ids h' m z' sf cf N res rw := by
  obtain ⟨T', fu', k', S', hu', eT, eS, D⟩ := H
  obtain ⟨S1, S2⟩ := S'
  have eS : S2 = S.2 := eS
  subst eS
  exact ⟨T', fu', k', _, A, hu', hq.mv hu'.1 D, (show mrl (S1, S.2) sf cf N z from hl).zz e1 e2, hr.T eT⟩
theorem sh_source_r {z : sh_S} {q : Int32} : (sh_source z q).2.2.2 = z.2.2 := by
  unfold sh_source
  split
  · rfl
  · split <;> rfl
theorem sh_drop_r {z : sh_S} {q on : Int32} : (sh_drop z q on).2.2.2.1 = z.2.2.1 ∧ (sh_drop z q on).2.2.2.2.1 = z.2.2.2.1 := by
  unfold sh_drop
  split <;> exact ⟨rfl, rfl⟩
theorem sh_node_r {z : sh_S} {w : Int32} : (sh_node z w).2.2.2.1 = z.2.2.1 := by
  unfold sh_node
  split <;> rfl
theorem sh_scan_r {z : sh_S} {q : Int32} : (sh_scan z q).2.2.2.1 = z.2.2.1 := by
  unfold sh_scan
  split
  · rfl
  · exact sh_node_r
theorem sh_pick_r {z : sh_S} {q k sg ot : Int32} : (sh_pick z q k sg ot).2.2.2.1 = z.2.2.1 := by
  unfold sh_pick
  split
  · rfl
  · split
    · rfl
    · exact sh_node_r
theorem sh_join_r {z : sh_S} {a b i j : Int32} : (sh_join z a b i j).2.2.2.1 = z.2.2.1 := by
  unfold sh_join
  split
  · rfl
  · split
    · rfl
    · exact sh_node_r
theorem sh_pair_r {z : sh_S} {a b : Int32} : (sh_pair z a b).2.2.2.1 = z.2.2.1 := by
  unfold sh_pair
  split
  · rfl
  · split
    · rfl
    · exact sh_node_r
theorem sh_fold_r {z : sh_S} {q k j kd : Int32} : (sh_fold z q k j kd).2.2.2.1 = z.2.2.1 := by
  unfold sh_fold
  split
  · rfl
  · split
    · rfl
    · exact sh_node_r
theorem sh_cols_r {z : sh_S} {q d : Int32} : (sh_cols z q d).2.2.2.1 = z.2.2.1 := by
  unfold sh_cols
  split
  · rfl
  · split
    · rfl
    · split
      · rfl
      · exact sh_node_r
theorem sh_row_n {z : sh_S} {q : Int32} : (sh_row z q).2.2.2.2.1 = z.2.2.2.1 := by
  unfold sh_row
  split
  · rfl
  · split <;> rfl
theorem mdd.row {ids : Nat → ClassId} {h h' : rl_H} {m : Nat} {T : md_T} {fu : Int32} {k : Nat} {S : md_A} {A : md_D} {z : sh_S} {sf : Nat → Int32} {cf : Nat → Nat → Int32} {N : Nat → Nat → Int32} {res : List arow} {rw : Nat} {q a b e d : Int32} (hu : md_un ids h m T fu k S z) (hq : mf ids h h m T fu k A) (hl : mrl S sf cf N z) (hr : mrs A T res rw) (H : mdx ids h' m T (sh_row z q).2 (fun S' => (S' = S ∧ (sh_row z q).2 = z ∧ h' (m + 13) = h (m + 13)) ∨ (S' = (S.1, upd S.2.1 z.2.2.1 q, upd (upd (upd (upd S.2.2.1 (4 * z.2.2.1) a) (4 * z.2.2.1 + 1) b) (4 * z.2.2.1 + 2) e) (4 * z.2.2.1 + 3) d, S.2.2.2) ∧ (sh_row z q).2.2.2.1 = z.2.2.1 + 1 ∧ ∀ tu : Nat → Int32, h (m + 13) = some (.inl (ids 0, 17, .inl tu)) → h' (m + 13) = some (.inl (ids 0, 17, .inl (upd tu 16 (nI 0)))))) (∀ q : Nat, m + 12 ≤ q → q < m + 23 → q ≠ m + 13 → h' q = h q)) {sf' : Nat → Int32} {cf' N' : Nat → Nat → Int32} {res' : List arow} (dj : (sf' = sf ∧ cf' = cf ∧ N' = N ∧ (sh_row z q).2 = z ∧ res' = res) ∨ (sf' = upd sf z.2.2.1 q ∧ cf' = (fun r => if r = z.2.2.1 then upd (upd (upd (upd (cf z.2.2.1) 0 a) 1 b) 2 e) 3 d else cf r) ∧ (∀ i : Nat, i < z.2.2.2.1 → ∀ f : Nat, f < 8 → N' i f = N i f) ∧ (sh_row z q).2.2.2.1 = z.2.2.1 + 1 ∧ res' = [])) : mdd ids h' m (sh_row z q).2 sf' cf' N' res' rw := by
  obtain ⟨T', fu', k', S', hu', eT, R, D⟩ := H
  rcases dj with ⟨rfl, rfl, rfl, dz, rfl⟩ | ⟨rfl, rfl, hN, dz, rfl⟩
  · rcases R with ⟨eS, ez, e13⟩ | ⟨-, ez, -⟩
    · subst eS
      refine ⟨T', fu', k', S', A, hu', hq.mv hu'.1 (fun q z1 z2 => ?_), hl.zz (by rw [ez]) (by rw [ez]), hr.T eT⟩
      by_cases e9 : q = m + 13
      · rw [e9]
        exact e13
      · exact D q z1 z2 e9
    · rw [dz] at ez
      omega
  · rcases R with ⟨eS, ez, e13⟩ | ⟨eS, ez, e13⟩
    · rw [ez] at dz
      omega
    · subst eS
      refine ⟨T', fu', k', _, (A.1, upd A.2.1 16 (nI 0), A.2.2.1, A.2.2.2.1, A.2.2.2.2.1, A.2.2.2.2.2.1, A.2.2.2.2.2.2.1, A.2.2.2.2.2.2.2.1, A.2.2.2.2.2.2.2.2.1, A.2.2.2.2.2.2.2.2.2.1, A.2.2.2.2.2.2.2.2.2.2), hu', hq.mv13 hu'.1 D e13, ⟨fun r hr9 => ?_, fun a9 ha9 => ?_⟩, mrs.nil (show upd A.2.1 16 (nI 0) 16 = nI 0 from upd_at) hr.2.2.1⟩
      · rw [dz] at hr9
        by_cases er : r = z.2.2.1
        · subst er
          refine ⟨(upd_at).trans (upd_at).symm, fun c hc => ?_⟩
          show upd (upd (upd (upd S.2.2.1 (4 * z.2.2.1) a) (4 * z.2.2.1 + 1) b) (4 * z.2.2.1 + 2) e) (4 * z.2.2.1 + 3) d (4 * z.2.2.1 + c) = (if z.2.2.1 = z.2.2.1 then upd (upd (upd (upd (cf z.2.2.1) 0 a) 1 b) 2 e) 3 d else cf z.2.2.1) c
          rw [if_pos rfl]
          unfold upd
          rcases (by omega : c = 0 ∨ c = 1 ∨ c = 2 ∨ c = 3) with rfl | rfl | rfl | rfl
          · rw [if_neg (by omega), if_neg (by omega), if_neg (by omega), if_pos (by omega), if_neg (by omega), if_neg (by omega), if_neg (by omega), if_pos rfl]
          · rw [if_neg (by omega), if_neg (by omega), if_pos rfl, if_neg (by omega), if_neg (by omega), if_pos rfl]
          · rw [if_neg (by omega), if_pos rfl, if_neg (by omega), if_pos rfl]
          · rw [if_pos rfl, if_pos rfl]
        · obtain ⟨g1, g2⟩ := hl.1 r (by omega)
          refine ⟨(upd_lt (by omega)).trans (g1.trans (upd_lt (by omega)).symm), fun c hc => ?_⟩
          show upd (upd (upd (upd S.2.2.1 (4 * z.2.2.1) a) (4 * z.2.2.1 + 1) b) (4 * z.2.2.1 + 2) e) (4 * z.2.2.1 + 3) d (4 * r + c) = (if r = z.2.2.1 then upd (upd (upd (upd (cf z.2.2.1) 0 a) 1 b) 2 e) 3 d else cf r) c
          rw [if_neg er, upd_lt (by omega), upd_lt (by omega), upd_lt (by omega), upd_lt (by omega)]
          exact g2 c hc
      · rw [sh_row_n] at ha9
        exact (hl.of hN).2 a9 ha9
theorem mdd.clr {ids : Nat → ClassId} {h h' : rl_H} {m : Nat} {T : md_T} {fu : Int32} {k : Nat} {S : md_A} {A : md_D} {z : sh_S} {sf : Nat → Int32} {cf : Nat → Nat → Int32} {N : Nat → Nat → Int32} {res : List arow} {rw : Nat} {sf' : Nat → Int32} {cf' N' : Nat → Nat → Int32} (hu : md_un ids h m T fu k S z) (hq : mf ids h h m T fu k A) (hl : mrl S sf cf N z) (hr : mrs A T res rw) (H : mdx ids h' m T (sh_clear z) (fun S' => S' = S ∧ ∀ tu : Nat → Int32, h (m + 13) = some (.inl (ids 0, 17, .inl tu)) → h' (m + 13) = some (.inl (ids 0, 17, .inl (upd tu 16 (nI 0))))) (∀ q : Nat, m + 12 ≤ q → q < m + 23 → q ≠ m + 13 → h' q = h q)) : mdd ids h' m (sh_clear z) sf' cf' N' [] rw := by
  obtain ⟨T', fu', k', S', hu', eT, ⟨-, e13⟩, D⟩ := H
  exact ⟨T', fu', k', S', (A.1, upd A.2.1 16 (nI 0), A.2.2.1, A.2.2.2.1, A.2.2.2.2.1, A.2.2.2.2.2.1, A.2.2.2.2.2.2.1, A.2.2.2.2.2.2.2.1, A.2.2.2.2.2.2.2.2.1, A.2.2.2.2.2.2.2.2.2.1, A.2.2.2.2.2.2.2.2.2.2), hu', hq.mv13 hu'.1 D e13, ⟨fun r hr => absurd hr (Nat.not_lt_zero r), fun a ha => absurd ha (Nat.not_lt_zero a)⟩, mrs.nil (show upd A.2.1 16 (nI 0) 16 = nI 0 from upd_at) hr.2.2.1⟩
theorem cl_ad.nf {ids : Nat → ClassId} {h h' : rl_H} {c c' : cl_N} {f0 f2 f3 f4 f5 f6 f7 : Int32} (had : cl_ad ids h h' c c' f0 f2 f3 f4 f5 f6 f7) (hc : c'.2.2.1 = c.2.2.1 + 1) : (∀ i : Nat, i < c.2.2.1 → c'.2.2.2.1 i = c.2.2.2.1 i) ∧ c'.2.2.2.1 c.2.2.1 0 = f0 ∧ c'.2.2.2.1 c.2.2.1 2 = f2 ∧ c'.2.2.2.1 c.2.2.1 3 = f3 ∧ c'.2.2.2.1 c.2.2.1 4 = f4 ∧ c'.2.2.2.1 c.2.2.1 5 = f5 ∧ c'.2.2.2.1 c.2.2.1 6 = f6 ∧ c'.2.2.2.1 c.2.2.1 7 = f7 := by
  rcases had with ⟨e, -⟩ | ⟨a1, a2, a3, a4, a5, a6, a7, a8⟩
  · rw [e] at hc
    omega
  · exact ⟨a4, a5.1, a5.2.1, a5.2.2.1, a5.2.2.2.1, a5.2.2.2.2.1, a5.2.2.2.2.2.1, a5.2.2.2.2.2.2.1⟩
theorem cl_dp.ad {ids : Nat → ClassId} {h h' : rl_H} {s : cl_S} {c c' : cl_N} {f0 f2 f3 f4 f5 f6 f7 : Int32} (hd : cl_dp ids h s c) (hcc : c.2.2.1 ≤ c.2.1) (had : cl_ad ids h h' c c' f0 f2 f3 f4 f5 f6 f7) (hf : c'.2.2.1 = c.2.2.1 + 1 → cl_f c'.2.2.2.1 c.2.2.1) : cl_dp ids h' s c' := by
  rcases had with ⟨e1, e2⟩ | ⟨a1, a2, a3, a4, a5, a6, a7, a8⟩
  · rw [e1, e2]
    exact hd
  · refine ⟨fun k hk => ?_, fun k hk => ?_, fun k hk => ?_⟩
    · by_cases e : k < c.2.1
      · obtain ⟨wd, hw⟩ := hd.1 k e
        refine ⟨wd, ?_⟩
        rw [a3 k e]
        exact hw.eqv (fun q q1 q2 => a7 k e q q1 (by omega))
      · exact a8 k hk (by omega)
    · by_cases e : k < c.2.2.1
      · exact (hd.2.1 k e).of (fun i hi f hf => by rw [a4 i (by omega)])
      · have e9 : k = c.2.2.1 := by omega
        rw [e9]
        exact hf a1
    · by_cases e : k < c.2.2.1
      · have es : semc s c' k = semc s c k := sem_eq _ _ _ _ (fun i hi f hf => by rw [a4 i (by omega)])
        rcases hd.2.2 k e with H | ⟨H, tab, w, b1, b2, b3, b4⟩ | ⟨H, b1⟩
        · exact Or.inl (by rw [a4 k e]; exact H)
        · refine Or.inr (Or.inl ⟨by rw [a4 k e]; exact H, tab, w, by rw [a4 k e]; exact b1, es.trans b2, ?_, b4⟩)
          rw [a3 k (by omega)]
          exact b3.eqv (fun q q1 q2 => a7 k (by omega) q q1 (by omega))
        · exact Or.inr (Or.inr ⟨by rw [a4 k e]; exact H, es.trans b1⟩)
      · have e9 : k = c.2.2.1 := by omega
        rw [e9]
        exact Or.inl a5.2.2.2.2.2.2.2
theorem cl_rs.ad {ids : Nat → ClassId} {h h' : rl_H} {s : cl_S} {c c' : cl_N} {f0 f2 f3 f4 f5 f6 f7 : Int32} {res : List arow} {rw : Nat} (hrs : cl_rs s c res rw) (had : cl_ad ids h h' c c' f0 f2 f3 f4 f5 f6 f7) : cl_rs s c' res rw := by
  rcases had with ⟨e1, -⟩ | ⟨a1, a2, a3, a4, a5, a6, a7, a8⟩
  · rw [e1]
    exact hrs
  · rcases hrs with ⟨h1, h2⟩ | ⟨j, h1, h2, h3, h4, h5, h6⟩
    · exact Or.inl ⟨by rw [a6]; exact h1, h2⟩
    · exact Or.inr ⟨j, by omega, by rw [a6]; exact h2, by rw [a4 j h1]; exact h3, (sem_eq _ _ _ _ (fun i hi f hf => by rw [a4 i (by omega)])).trans h4, by rw [a4 j h1]; exact h5, h6⟩
/-- a node is made on both sides -/
theorem mdd.mk {ids : Nat → ClassId} {h h' h0 h1 : rl_H} {m : Nat} {T : md_T} {fu : Int32} {k : Nat} {S : md_A} {A : md_D} {z z' : sh_S} {s : cl_S} {c c' : cl_N} {res : List arow} {rw op : Nat} {fi se x y u v f2 f3 f4 f5 f6 f7 : Int32} (hu : md_un ids h m T fu k S z) (hq : mf ids h h m T fu k A) (hl : mrl S s.2.1 s.2.2.1 c.2.2.2.1 z) (hr : mrs A T res rw) (H : mdx ids h' m T z' (fun S' => (S' = S ∧ z' = z) ∨ ∃ w9 : Int32, S' = (S.1, S.2.1, S.2.2.1, upd S.2.2.2.1 z.2.2.2.1 (nI op), upd S.2.2.2.2.1 z.2.2.2.1 fi, upd S.2.2.2.2.2.1 z.2.2.2.1 se, upd S.2.2.2.2.2.2.1 z.2.2.2.1 x, upd S.2.2.2.2.2.2.2.1 z.2.2.2.1 y, upd S.2.2.2.2.2.2.2.2.1 z.2.2.2.1 u, upd S.2.2.2.2.2.2.2.2.2.1 z.2.2.2.1 v, upd S.2.2.2.2.2.2.2.2.2.2 z.2.2.2.1 w9) ∧ z'.2.2.2.1 = z.2.2.2.1 + 1) (∀ q : Nat, m + 12 ≤ q → q < m + 23 → h' q = h q)) (er : z'.2.2.1 = z.2.2.1) (op6 : op ≤ 6) (hR : sh_R s c z) (hR' : sh_R s c' z') (had : cl_ad ids h0 h1 c c' (nI op) f2 f3 f4 f5 f6 f7) (hf : c'.2.2.1 = c.2.2.1 + 1 → cl_f c'.2.2.2.1 c.2.2.1) (hM : (op = 0 → fi = f7) ∧ (1 ≤ op → fi = f2) ∧ (op = 3 ∨ op = 4 ∨ op = 5 → se = f3) ∧ (op = 1 → x = f4 ∧ y = f6 ∧ u = f5 ∧ v = f7) ∧ (op = 2 → x = f7) ∧ (op = 3 → x = f4 ∧ y = f5) ∧ (op = 6 → x = f4 ∧ y = f5 ∧ u = f6)) : mdd ids h' m z' s.2.1 s.2.2.1 c'.2.2.2.1 res rw := by
  obtain ⟨T', fu', k', S', hu', eT, R, D⟩ := H
  have r4 := hR.2.2.2.1
  have r4' := hR'.2.2.2.1
  rcases R with ⟨eS, ez⟩ | ⟨w9, eS, ez⟩
  · subst eS
    rcases had with ⟨e1, -⟩ | ⟨a1, -⟩
    · rw [e1]
      exact ⟨T', fu', k', S', A, hu', hq.mv hu'.1 D, hl.zz (by rw [ez]) (by rw [ez]), hr.T eT⟩
    · rw [ez] at r4'
      omega
  · have hc : c'.2.2.1 = c.2.2.1 + 1 := by omega
    obtain ⟨a4, a0, a2, a3, b4, b5, b6, b7⟩ := had.nf hc
    have hfn := hf hc
    rw [r4] at a0 a2 a3 b4 b5 b6 b7 hfn
    have a4 : ∀ i : Nat, i < z.2.2.2.1 → c'.2.2.2.1 i = c.2.2.2.1 i := fun i hi => a4 i (by omega)
    have hwn : S'.2.2.2.2.2.2.2.2.2.2 z.2.2.2.1 = c'.2.2.2.1 z.2.2.2.1 1 := by
      rw [hu'.2.2.2.2.2.2.1]
      exact (hR'.2.2.2.2.1 z.2.2.2.1 (by omega)).symm
    refine ⟨T', fu', k', S', A, hu', hq.mv hu'.1 D, ⟨?_, fun a ha => ?_⟩, hr.T eT⟩
    · rw [er, eS]
      exact hl.1
    · by_cases e : a = z.2.2.2.1
      · subst e
        refine ⟨hfn, ?_, hwn, ?_⟩
        · rw [eS, a0]
          exact upd_at
        · rw [a0, iN_nI (by omega), a2, a3, b4, b5, b6, b7, eS]
          obtain ⟨m0, m1, m2, m3, m4, m5, m6⟩ := hM
          exact ⟨fun q => (upd_at).trans (m0 q), fun q => (upd_at).trans (m1 q), fun q => (upd_at).trans (m2 q), fun q => ⟨(upd_at).trans (m3 q).1, (upd_at).trans (m3 q).2.1, (upd_at).trans (m3 q).2.2.1, (upd_at).trans (m3 q).2.2.2⟩, fun q => (upd_at).trans (m4 q), fun q => ⟨(upd_at).trans (m5 q).1, (upd_at).trans (m5 q).2⟩, fun q => ⟨(upd_at).trans (m6 q).1, (upd_at).trans (m6 q).2.1, (upd_at).trans (m6 q).2.2⟩⟩
      · have ha : a < z.2.2.2.1 := by omega
        obtain ⟨g1, g2, g3, g4⟩ := hl.2 a ha
        rw [eS]
        refine ⟨g1.of (fun i hi f hf => by rw [a4 i (by omega)]), ?_, ?_, ?_⟩
        · rw [a4 a ha]
          exact (upd_lt ha).trans g2
        · rw [a4 a ha]
          exact (upd_lt ha).trans g3
        · rw [a4 a ha]
          obtain ⟨m0, m1, m2, m3, m4, m5, m6⟩ := g4
          exact ⟨fun q => (upd_lt ha).trans (m0 q), fun q => (upd_lt ha).trans (m1 q), fun q => (upd_lt ha).trans (m2 q), fun q => ⟨(upd_lt ha).trans (m3 q).1, (upd_lt ha).trans (m3 q).2.1, (upd_lt ha).trans (m3 q).2.2.1, (upd_lt ha).trans (m3 q).2.2.2⟩, fun q => (upd_lt ha).trans (m4 q), fun q => ⟨(upd_lt ha).trans (m5 q).1, (upd_lt ha).trans (m5 q).2⟩, fun q => ⟨(upd_lt ha).trans (m6 q).1, (upd_lt ha).trans (m6 q).2.1, (upd_lt ha).trans (m6 q).2.2⟩⟩
theorem sh_nd_w {z : sh_S} {w : Int32} (hn : (sh_node z w).2.2.2.2.1 = z.2.2.2.1 + 1) : (sh_node z w).2.2.2.2.2.1 z.2.2.2.1 = w := by
  unfold sh_node at hn ⊢
  by_cases e : 16 ≤ z.2.2.2.1
  · rw [if_pos e] at hn
    exact absurd hn (by show ¬ z.2.2.2.1 = z.2.2.2.1 + 1; omega)
  · rw [if_neg e]
    exact upd_at
theorem dg_count_end : ∀ (f r k : Nat), r < 10 ^ f → r / 10 ^ (dg_count f r k - k) = 0
  | 0, r, k, h => by
    rw [Nat.pow_zero] at h
    rw [show r = 0 by omega, Nat.zero_div]
  | f + 1, r, k, h => by
    unfold dg_count
    split
    · rename_i e
      rw [e, Nat.zero_div]
    · have ih := dg_count_end f (r / 10) (k + 1) (by rw [Nat.pow_succ] at h; omega)
      have lb := dg_count_lb f (r / 10) (k + 1)
      rw [show dg_count f (r / 10) (k + 1) - k = (dg_count f (r / 10) (k + 1) - (k + 1)) + 1 by omega, Nat.pow_succ, Nat.mul_comm, ← Nat.div_div_eq_div_mul]
      exact ih
theorem sh_cw {z : sh_S} {j w : Nat} {q : Int32} (hw : sh_w z (nI j) = nI w) (w6 : w ≤ 6) (hz : ¬ sh_nk z (nI j) q) : ∃ k' : Nat, k' < w ∧ q = nI k' := nI_of_lt (by omega) (fun e => hz (Or.inr (Or.inl e))) (fun e => hz (Or.inr (Or.inr (by rw [hw]; exact e))))

theorem mkf_scan {ids : Nat → ClassId} {h h' : rl_H} {n n' x L : Nat} {s : cl_S} {c c' : cl_N} {z : sh_S} {q : Int32} (hk : cl_ok ids h n x L s c) (hR : sh_R s c z) (hR' : sh_R s c' (sh_scan z q).2) (had : cl_ad ids h h' c c' (nI 0) (-1) (-1) (-1) (-1) (nI 0) q) (hc : c'.2.2.1 = c.2.2.1 + 1) : cl_f c'.2.2.2.1 c.2.2.1 := by
  obtain ⟨a4, a0, a2, a3, b4, b5, b6, b7⟩ := had.nf hc
  have hn : (sh_scan z q).2.2.2.2.1 = z.2.2.2.1 + 1 := by rw [← hR'.2.2.2.1, ← hR.2.2.2.1]; exact hc
  have hw : c'.2.2.2.1 c.2.2.1 1 = (sh_scan z q).2.2.2.2.2.1 z.2.2.2.1 := by rw [← hR.2.2.2.1]; exact hR'.2.2.2.2.1 c.2.2.1 (by omega)
  have nc16 := cl_nc hk
  have h1 : ¬ (q < 0 ∨ nI z.1 ≤ q) := fun e => by
    rw [show sh_scan z q = _ from if_pos e] at hn
    exact absurd hn (by show ¬ z.2.2.2.1 = z.2.2.2.1 + 1; omega)
  rw [show sh_scan z q = _ from if_neg h1] at hn hw
  rw [sh_nd_w hn] at hw
  obtain ⟨k1, k2, k3, k4, k5, -⟩ := hk
  obtain ⟨r1, r2, -⟩ := hR
  have z4 : s.2.2.2.1 ≤ 4 := k1.2.1.2.2.2.2.2.1
  obtain ⟨j, hj, rfl⟩ := nI_of_lt (k := z.1) (by omega) (fun e => h1 (Or.inl e)) (fun e => h1 (Or.inr e))
  obtain ⟨w, w1, w4, ew⟩ := k5 j (by omega)
  have ew : z.2.1 (nI j).toNatClampNeg = nI w := by rw [show (nI j).toNatClampNeg = j from iN_nI (by omega), ← r2]; exact ew
  refine ⟨0, w, 0, 0, a0, hw.trans ew, ⟨by decide, w1, by omega, by decide, by decide, fun _ => w4, fun q => absurd q (by decide), fun q => absurd q (by decide), fun q => absurd q (by decide), fun q => absurd q (by decide), fun q => absurd q (by decide)⟩, fun q => absurd q (by decide), fun q => absurd q (by decide), fun _ => a2, fun _ => a3⟩

theorem mkf_pick {ids : Nat → ClassId} {h h' : rl_H} {n n' x L : Nat} {s : cl_S} {c c' : cl_N} {z : sh_S} {q kk sg ot vv : Int32} (hk : cl_ok ids h n x L s c) (hR : sh_R s c z) (hR' : sh_R s c' (sh_pick z q kk sg ot).2) (had : cl_ad ids h h' c c' (nI 1) q (-1) kk ot sg vv) (hc : c'.2.2.1 = c.2.2.1 + 1) : cl_f c'.2.2.2.1 c.2.2.1 := by
  obtain ⟨a4, a0, a2, a3, b4, b5, b6, b7⟩ := had.nf hc
  have hn : (sh_pick z q kk sg ot).2.2.2.2.1 = z.2.2.2.1 + 1 := by rw [← hR'.2.2.2.1, ← hR.2.2.2.1]; exact hc
  have hw : c'.2.2.2.1 c.2.2.1 1 = (sh_pick z q kk sg ot).2.2.2.2.2.1 z.2.2.2.1 := by rw [← hR.2.2.2.1]; exact hR'.2.2.2.2.1 c.2.2.1 (by omega)
  have nc16 := cl_nc hk
  have h1 : ¬ (sh_nk z q kk ∨ (ot ≠ -1 ∧ sh_nk z q ot)) := fun e => by
    rw [show sh_pick z q kk sg ot = _ from if_pos e] at hn
    exact absurd hn (by show ¬ z.2.2.2.1 = z.2.2.2.1 + 1; omega)
  rw [show sh_pick z q kk sg ot = _ from if_neg h1] at hn hw
  have h2 : ¬ (sg < 0 ∨ ¬ sg ≤ nI 2) := fun e => by
    rw [if_pos e] at hn
    exact absurd hn (by show ¬ z.2.2.2.1 = z.2.2.2.1 + 1; omega)
  rw [if_neg h2] at hn hw
  rw [sh_nd_w hn] at hw
  obtain ⟨j, w, hj, rfl, w1, w6, ew, esw, -⟩ := hR.nd hk (q := q) (fun e => h1 (Or.inl (Or.inl e)))
  obtain ⟨c4, hc4, e4⟩ := sh_cw esw w6 (fun e => h1 (Or.inl e))
  obtain ⟨kd, hkd, e6⟩ := nI_of2 (M := nI 2) (nI_toInt (by decide)) (fun e => h2 (Or.inl e)) (Decidable.not_not.mp (fun e => h2 (Or.inr e)))
  have h5 : ot = -1 ∨ ∃ c5 : Nat, c5 < w ∧ ot = nI c5 := by
    by_cases e : ot = -1
    · exact Or.inl e
    · exact Or.inr (sh_cw esw w6 (fun e2 => h1 (Or.inr ⟨e, e2⟩)))
  refine ⟨1, w, w, 0, a0, hw.trans esw, ⟨by decide, w1, w6, w6, by decide, fun q => absurd q (by decide), fun _ => ⟨rfl, ⟨c4, hc4, b4.trans e4⟩, by rw [b5]; exact h5, kd, hkd, b6.trans e6⟩, fun q => absurd q (by decide), fun q => absurd q (by decide), fun q => absurd q (by decide), fun q => absurd q (by decide)⟩, fun _ => ⟨j, hj, a2, (by rw [a4 j hj]; exact ew)⟩, fun q => absurd q (by decide), fun q => absurd q (by decide), fun _ => a3⟩

theorem mkf_join {ids : Nat → ClassId} {h h' : rl_H} {n n' x L : Nat} {s : cl_S} {c c' : cl_N} {z : sh_S} {a b i jj : Int32} (hk : cl_ok ids h n x L s c) (hR : sh_R s c z) (hR' : sh_R s c' (sh_join z a b i jj).2) (had : cl_ad ids h h' c c' (nI 3) a b i jj (nI 0) (nI 0)) (hc : c'.2.2.1 = c.2.2.1 + 1) : cl_f c'.2.2.2.1 c.2.2.1 := by
  obtain ⟨a4, a0, a2, a3, b4, b5, b6, b7⟩ := had.nf hc
  have hn : (sh_join z a b i jj).2.2.2.2.1 = z.2.2.2.1 + 1 := by rw [← hR'.2.2.2.1, ← hR.2.2.2.1]; exact hc
  have hw : c'.2.2.2.1 c.2.2.1 1 = (sh_join z a b i jj).2.2.2.2.2.1 z.2.2.2.1 := by rw [← hR.2.2.2.1]; exact hR'.2.2.2.2.1 c.2.2.1 (by omega)
  have nc16 := cl_nc hk
  have h1 : ¬ (sh_nk z a i ∨ sh_nk z b jj) := fun e => by
    rw [show sh_join z a b i jj = _ from if_pos e] at hn
    exact absurd hn (by show ¬ z.2.2.2.1 = z.2.2.2.1 + 1; omega)
  rw [show sh_join z a b i jj = _ from if_neg h1] at hn hw
  have h2 : ¬ (¬ sh_w z a + sh_w z b ≤ nI 6) := fun e => by
    rw [if_pos e] at hn
    exact absurd hn (by show ¬ z.2.2.2.1 = z.2.2.2.1 + 1; omega)
  rw [if_neg h2] at hn hw
  rw [sh_nd_w hn] at hw
  obtain ⟨j, w, hj, rfl, w1, w6, ew, esw, -⟩ := hR.nd hk (q := a) (fun e => h1 (Or.inl (Or.inl e)))
  obtain ⟨t, v, ht, rfl, v1, v6, ev, esv, -⟩ := hR.nd hk (q := b) (fun e => h1 (Or.inr (Or.inl e)))
  obtain ⟨c4, hc4, e4⟩ := sh_cw esw w6 (fun e => h1 (Or.inl e))
  obtain ⟨c5, hc5, e5⟩ := sh_cw esv v6 (fun e => h1 (Or.inr e))
  rw [esw, esv, nI_add] at h2 hw
  have wv : w + v ≤ 6 := by
    rcases Nat.lt_or_ge 6 (w + v) with u | u
    · exact absurd (nI_ge u (by omega)) h2
    · exact u
  refine ⟨3, w + v, w, v, a0, hw, ⟨by decide, by omega, wv, w6, v6, fun q => absurd q (by decide), fun q => absurd q (by decide), fun q => absurd q (by decide), fun _ => ⟨⟨c4, hc4, b4.trans e4⟩, ⟨c5, hc5, b5.trans e5⟩, rfl⟩, fun q => absurd q (by decide), fun q => absurd q (by decide)⟩, fun _ => ⟨j, hj, a2, (by rw [a4 j hj]; exact ew)⟩, fun _ => ⟨t, ht, a3, (by rw [a4 t ht]; exact ev)⟩, fun q => absurd q (by decide), fun q => absurd q (by decide)⟩

theorem mkf_unite {ids : Nat → ClassId} {h h' : rl_H} {n n' x L : Nat} {s : cl_S} {c c' : cl_N} {z : sh_S} {a b : Int32} (hk : cl_ok ids h n x L s c) (hR : sh_R s c z) (hR' : sh_R s c' (sh_pair z a b).2) (had : cl_ad ids h h' c c' (nI 4) a b (-1) (-1) (nI 0) (nI 0)) (hc : c'.2.2.1 = c.2.2.1 + 1) : cl_f c'.2.2.2.1 c.2.2.1 := by
  obtain ⟨a4, a0, a2, a3, b4, b5, b6, b7⟩ := had.nf hc
  have hn : (sh_pair z a b).2.2.2.2.1 = z.2.2.2.1 + 1 := by rw [← hR'.2.2.2.1, ← hR.2.2.2.1]; exact hc
  have hw : c'.2.2.2.1 c.2.2.1 1 = (sh_pair z a b).2.2.2.2.2.1 z.2.2.2.1 := by rw [← hR.2.2.2.1]; exact hR'.2.2.2.2.1 c.2.2.1 (by omega)
  have nc16 := cl_nc hk
  have h1 : ¬ (sh_nn z a ∨ sh_nn z b) := fun e => by
    rw [show sh_pair z a b = _ from if_pos e] at hn
    exact absurd hn (by show ¬ z.2.2.2.1 = z.2.2.2.1 + 1; omega)
  rw [show sh_pair z a b = _ from if_neg h1] at hn hw
  have h2 : ¬ (sh_w z a ≠ sh_w z b) := fun e => by
    rw [if_pos e] at hn
    exact absurd hn (by show ¬ z.2.2.2.1 = z.2.2.2.1 + 1; omega)
  rw [if_neg h2] at hn hw
  rw [sh_nd_w hn] at hw
  obtain ⟨j, w, hj, rfl, w1, w6, ew, esw, -⟩ := hR.nd hk (q := a) (fun e => h1 (Or.inl e))
  obtain ⟨t, v, ht, rfl, v1, v6, ev, esv, -⟩ := hR.nd hk (q := b) (fun e => h1 (Or.inr e))
  rw [esw, esv] at h2
  have wv : w = v := nI_inj2 (by omega) (by omega) (Decidable.not_not.mp h2)
  refine ⟨4, w, w, v, a0, hw.trans esw, ⟨by decide, w1, w6, w6, v6, fun q => absurd q (by decide), fun q => absurd q (by decide), fun q => absurd q (by decide), fun q => absurd q (by decide), fun _ => ⟨rfl, wv⟩, fun q => absurd q (by decide)⟩, fun _ => ⟨j, hj, a2, (by rw [a4 j hj]; exact ew)⟩, fun _ => ⟨t, ht, a3, (by rw [a4 t ht]; exact ev)⟩, fun q => absurd q (by decide), fun q => absurd q (by decide)⟩

theorem mkf_minus {ids : Nat → ClassId} {h h' : rl_H} {n n' x L : Nat} {s : cl_S} {c c' : cl_N} {z : sh_S} {a b : Int32} (hk : cl_ok ids h n x L s c) (hR : sh_R s c z) (hR' : sh_R s c' (sh_pair z a b).2) (had : cl_ad ids h h' c c' (nI 5) a b (-1) (-1) (nI 0) (nI 0)) (hc : c'.2.2.1 = c.2.2.1 + 1) : cl_f c'.2.2.2.1 c.2.2.1 := by
  obtain ⟨a4, a0, a2, a3, b4, b5, b6, b7⟩ := had.nf hc
  have hn : (sh_pair z a b).2.2.2.2.1 = z.2.2.2.1 + 1 := by rw [← hR'.2.2.2.1, ← hR.2.2.2.1]; exact hc
  have hw : c'.2.2.2.1 c.2.2.1 1 = (sh_pair z a b).2.2.2.2.2.1 z.2.2.2.1 := by rw [← hR.2.2.2.1]; exact hR'.2.2.2.2.1 c.2.2.1 (by omega)
  have nc16 := cl_nc hk
  have h1 : ¬ (sh_nn z a ∨ sh_nn z b) := fun e => by
    rw [show sh_pair z a b = _ from if_pos e] at hn
    exact absurd hn (by show ¬ z.2.2.2.1 = z.2.2.2.1 + 1; omega)
  rw [show sh_pair z a b = _ from if_neg h1] at hn hw
  have h2 : ¬ (sh_w z a ≠ sh_w z b) := fun e => by
    rw [if_pos e] at hn
    exact absurd hn (by show ¬ z.2.2.2.1 = z.2.2.2.1 + 1; omega)
  rw [if_neg h2] at hn hw
  rw [sh_nd_w hn] at hw
  obtain ⟨j, w, hj, rfl, w1, w6, ew, esw, -⟩ := hR.nd hk (q := a) (fun e => h1 (Or.inl e))
  obtain ⟨t, v, ht, rfl, v1, v6, ev, esv, -⟩ := hR.nd hk (q := b) (fun e => h1 (Or.inr e))
  rw [esw, esv] at h2
  have wv : w = v := nI_inj2 (by omega) (by omega) (Decidable.not_not.mp h2)
  refine ⟨5, w, w, v, a0, hw.trans esw, ⟨by decide, w1, w6, w6, v6, fun q => absurd q (by decide), fun q => absurd q (by decide), fun q => absurd q (by decide), fun q => absurd q (by decide), fun _ => ⟨rfl, wv⟩, fun q => absurd q (by decide)⟩, fun _ => ⟨j, hj, a2, (by rw [a4 j hj]; exact ew)⟩, fun _ => ⟨t, ht, a3, (by rw [a4 t ht]; exact ev)⟩, fun q => absurd q (by decide), fun q => absurd q (by decide)⟩

theorem mkf_fold {ids : Nat → ClassId} {h h' : rl_H} {n n' x L : Nat} {s : cl_S} {c c' : cl_N} {z : sh_S} {q kk jj kd : Int32} (hk : cl_ok ids h n x L s c) (hR : sh_R s c z) (hR' : sh_R s c' (sh_fold z q kk jj kd).2) (had : cl_ad ids h h' c c' (nI 6) q (-1) kk jj kd (nI 0)) (hc : c'.2.2.1 = c.2.2.1 + 1) : cl_f c'.2.2.2.1 c.2.2.1 := by
  obtain ⟨a4, a0, a2, a3, b4, b5, b6, b7⟩ := had.nf hc
  have hn : (sh_fold z q kk jj kd).2.2.2.2.1 = z.2.2.2.1 + 1 := by rw [← hR'.2.2.2.1, ← hR.2.2.2.1]; exact hc
  have hw : c'.2.2.2.1 c.2.2.1 1 = (sh_fold z q kk jj kd).2.2.2.2.2.1 z.2.2.2.1 := by rw [← hR.2.2.2.1]; exact hR'.2.2.2.2.1 c.2.2.1 (by omega)
  have nc16 := cl_nc hk
  have h1 : ¬ (sh_nk z q kk ∨ sh_nk z q jj) := fun e => by
    rw [show sh_fold z q kk jj kd = _ from if_pos e] at hn
    exact absurd hn (by show ¬ z.2.2.2.1 = z.2.2.2.1 + 1; omega)
  rw [show sh_fold z q kk jj kd = _ from if_neg h1] at hn hw
  have h2 : ¬ (kd < 0 ∨ ¬ kd ≤ nI 3) := fun e => by
    rw [if_pos e] at hn
    exact absurd hn (by show ¬ z.2.2.2.1 = z.2.2.2.1 + 1; omega)
  rw [if_neg h2] at hn hw
  rw [sh_nd_w hn] at hw
  obtain ⟨j, w, hj, rfl, w1, w6, ew, esw, -⟩ := hR.nd hk (q := q) (fun e => h1 (Or.inl (Or.inl e)))
  obtain ⟨c4, hc4, e4⟩ := sh_cw esw w6 (fun e => h1 (Or.inl e))
  obtain ⟨c5, hc5, e5⟩ := sh_cw esw w6 (fun e => h1 (Or.inr e))
  obtain ⟨k3, hk3, e6⟩ := nI_of2 (M := nI 3) (nI_toInt (by decide)) (fun e => h2 (Or.inl e)) (Decidable.not_not.mp (fun e => h2 (Or.inr e)))
  refine ⟨6, 2, w, 0, a0, hw, ⟨by decide, by decide, by decide, w6, by decide, fun q => absurd q (by decide), fun q => absurd q (by decide), fun q => absurd q (by decide), fun q => absurd q (by decide), fun q => absurd q (by decide), fun _ => ⟨rfl, ⟨c4, hc4, b4.trans e4⟩, ⟨c5, hc5, b5.trans e5⟩, k3, hk3, b6.trans e6⟩⟩, fun _ => ⟨j, hj, a2, (by rw [a4 j hj]; exact ew)⟩, fun q => absurd q (by decide), fun q => absurd q (by decide), fun _ => a3⟩

theorem mkf_cols {ids : Nat → ClassId} {h h' : rl_H} {n n' x L : Nat} {s : cl_S} {c c' : cl_N} {z : sh_S} {q d : Int32} (hk : cl_ok ids h n x L s c) (hR : sh_R s c z) (hR' : sh_R s c' (sh_cols z q d).2) (had : cl_ad ids h h' c c' (nI 2) q (-1) (-1) (-1) (nI 0) d) (hc : c'.2.2.1 = c.2.2.1 + 1) : cl_f c'.2.2.2.1 c.2.2.1 := by
  obtain ⟨a4, a0, a2, a3, b4, b5, b6, b7⟩ := had.nf hc
  have hn : (sh_cols z q d).2.2.2.2.1 = z.2.2.2.1 + 1 := by rw [← hR'.2.2.2.1, ← hR.2.2.2.1]; exact hc
  have hw : c'.2.2.2.1 c.2.2.1 1 = (sh_cols z q d).2.2.2.2.2.1 z.2.2.2.1 := by rw [← hR.2.2.2.1]; exact hR'.2.2.2.2.1 c.2.2.1 (by omega)
  have nc16 := cl_nc hk
  have h1 : ¬ (sh_nn z q) := fun e => by
    rw [show sh_cols z q d = _ from if_pos e] at hn
    exact absurd hn (by show ¬ z.2.2.2.1 = z.2.2.2.1 + 1; omega)
  rw [show sh_cols z q d = _ from if_neg h1] at hn hw
  have h2 : ¬ (d < nI 1 ∨ (999999 : Int32) < d ∨ dg_least 7 d.toNatClampNeg 9 = 0) := fun e => by
    rw [if_pos e] at hn
    exact absurd hn (by show ¬ z.2.2.2.1 = z.2.2.2.1 + 1; omega)
  rw [if_neg h2] at hn hw
  have h3 : ¬ (sh_w z q < nI (dg_great 7 d.toNatClampNeg 0)) := fun e => by
    rw [if_pos e] at hn
    exact absurd hn (by show ¬ z.2.2.2.1 = z.2.2.2.1 + 1; omega)
  rw [if_neg h3] at hn hw
  rw [sh_nd_w hn] at hw
  obtain ⟨j, w, hj, rfl, w1, w6, ew, esw, -⟩ := hR.nd hk (q := q) h1
  obtain ⟨N, hN, rfl⟩ := nI_of2 (M := (999999 : Int32)) (show (999999 : Int32).toInt = ((999999 : Nat) : Int) by decide +kernel) (fun e => h2 (Or.inl (Int32.lt_trans e (by decide +kernel)))) (Int32.not_lt.mp (fun e => h2 (Or.inr (Or.inl e))))
  rw [show (nI N).toNatClampNeg = N from iN_nI (by omega)] at h2 h3 hw
  have N1 : 1 ≤ N := Nat.pos_of_ne_zero (fun e => h2 (Or.inl (by rw [e]; decide +kernel)))
  have ub := dg_count_ub 6 7 N 0 (by omega)
  have lb : 1 ≤ dg_count 7 N 0 := by
    unfold dg_count
    rw [if_neg (by omega)]
    exact dg_count_lb _ _ _
  have en := dg_count_end 7 N 0 (by omega)
  have gw : dg_great 7 N 0 ≤ w := by
    rcases Nat.lt_or_ge w (dg_great 7 N 0) with u | u
    · have g10 := dg_n7 7 N 0 (by decide)
      exact absurd (by rw [esw]; exact nI_lt u (by omega)) h3
    · exact u
  have hin : ∀ c : Nat, c < dg_count 7 N 0 → N / 10 ^ c ≠ 0 ∧ c < 7 := fun c hc9 => dg_count_in 7 N 0 c hc9 (Nat.zero_le _)
  refine ⟨2, dg_count 7 N 0, w, 0, a0, hw, ⟨by decide, lb, by omega, w6, by decide, fun q => absurd q (by decide), fun q => absurd q (by decide), fun _ => ⟨N, by omega, b7, en, fun c hc9 => (hin c hc9).1, fun c hc9 => ⟨dg_least_ge 7 N 9 (fun e => h2 (Or.inr (Or.inr e))) c (hin c hc9).2 (hin c hc9).1, Nat.le_trans (dg_great_le 7 N 0 c (hin c hc9).2) gw⟩⟩, fun q => absurd q (by decide), fun q => absurd q (by decide), fun q => absurd q (by decide)⟩, fun _ => ⟨j, hj, a2, (by rw [a4 j hj]; exact ew)⟩, fun q => absurd q (by decide), fun q => absurd q (by decide), fun _ => a3⟩

theorem cd_src {ids : Nat → ClassId} {h h' : rl_H} {n x L : Nat} {s : cl_S} {c : cl_N} {z : sh_S} {res : List arow} {rw : Nat} (hk : cl_ok ids h n x L s c) (hR : sh_R s c z) (hd : cl_dp ids h s c) (hrs : cl_rs s c res rw) {q r : Int32} (H : (((q < nI 1 ∨ ¬ q ≤ nI 4) ∧ r = -2 ∧ h' = h) ∨ (¬ (q < nI 1 ∨ ¬ q ≤ nI 4) ∧ 4 ≤ s.2.2.2.1 ∧ r = -4 ∧ h' = h) ∨ (¬ (q < nI 1 ∨ ¬ q ≤ nI 4) ∧ s.2.2.2.1 < 4 ∧ r = nI s.2.2.2.1 ∧ cl_at ids h' x (upd s.1 s.2.2.2.1 q, s.2.1, s.2.2.1, s.2.2.2.1 + 1, s.2.2.2.2) c ∧ rl_fr h h' (x + 1) (x + 41)))) : ∃ s' : cl_S, cl_ok ids h' n x L s' c ∧ sh_R s' c (sh_source z q).2 ∧ r = (sh_source z q).1 ∧ cl_fr h h' x L ∧ cl_dp ids h' s' c ∧ cl_rs s' c res rw ∧ s'.2.1 = s.2.1 ∧ s'.2.2.1 = s.2.2.1 := by
  have F := cl_src hk hR H
  rcases H with ⟨a1, a2, rfl⟩ | ⟨a1, a2, a3, rfl⟩ | ⟨a1, a2, a3, a4, a5⟩
  · have e : sh_source z q = (-2, z) := if_pos a1
    exact ⟨s, hk, by rw [e]; exact hR, by rw [e]; exact a2, cl_fr.rf, hd, hrs, rfl, rfl⟩
  · have e : sh_source z q = (-4, z) := (if_neg a1).trans (if_pos (by have := hR.1; omega))
    exact ⟨s, hk, by rw [e]; exact hR, by rw [e]; exact a3, cl_fr.rf, hd, hrs, rfl, rfl⟩
  · obtain ⟨r1, r2, r3, r4, r5, r6⟩ := id hR
    have e : sh_source z q = (nI z.1, (z.1 + 1, upd z.2.1 z.1 q, z.2.2)) := (if_neg a1).trans (if_neg (by omega))
    have nc16 := cl_nc hk
    obtain ⟨k1, k2, k3, k4, k5, k6, k7⟩ := hk
    refine ⟨_, ⟨a4, k2, k3, k4, fun i hi => ?_, k6, fun k hk a w b e => ?_⟩, ?_, by rw [e, a3, r1], fun q z1 z2 => a5 q (by omega), cl_dp.eqv (s := (upd s.1 s.2.2.2.1 q, s.2.1, s.2.2.1, s.2.2.2.1 + 1, s.2.2.2.2)) hd nc16.1 (fun k hk q z1 z2 => ?_), hrs, rfl, rfl⟩
    · have hi : i < s.2.2.2.1 + 1 := hi
      show ∃ w : Nat, 1 ≤ w ∧ w ≤ 4 ∧ upd s.1 s.2.2.2.1 q i = nI w
      by_cases ei : i = s.2.2.2.1
      · rw [ei, upd_at]
        obtain ⟨w, hw, rfl⟩ := nI_of2 (M := nI 4) (nI_toInt (by decide)) (fun e => a1 (Or.inl (Int32.lt_trans e (by decide +kernel)))) (Decidable.not_not.mp (fun e => a1 (Or.inr e)))
        exact ⟨w, Nat.pos_of_ne_zero (fun e => a1 (Or.inl (by rw [e]; decide +kernel))), hw, rfl⟩
      · rw [upd_lt (show i < s.2.2.2.1 by omega)]
        exact k5 i (by omega)
    · have := k4 k (by omega)
      exact (k7 k hk a w b e).eqv (fun q z1 z2 => a5 q (by omega))
    · rw [e]
      exact ⟨by rw [← r1], by rw [← r1, ← r2], r3, r4, r5, r6⟩
    · have := k4 k hk
      exact a5 q (by omega)
/-- the Nodes' states alone are others -/
theorem cl_dp.un {ids : Nat → ClassId} {h h' : rl_H} {n x L : Nat} {s s' : cl_S} {c : cl_N} {pr : Int64} (hk : cl_ok ids h n x L s c) (hd : cl_dp ids h s c) (a5 : ∀ k, (k < x ∨ x + 41 ≤ k) → (∀ i, i < c.2.2.1 → k ≠ c.1 i) → h' k = h k) (nc : Nat) (hnc : nc ≤ c.2.2.1) : cl_dp ids h' s' (c.1, c.2.1, nc, cl_un c.2.2.2.1 c.2.2.1, -1, pr) := by
  have nc16 := cl_nc hk
  have c14 := hk.1.2.2.2.2.2.2.2.2.2.2.2.1
  have c15 := hk.1.2.2.2.2.2.2.2.2.2.2.2.2
  refine ⟨fun k hk => ?_, fun k hk => ?_, fun k hk => ?_⟩
  · have hk : k < c.2.1 := hk
    obtain ⟨wd, hw⟩ := hd.1 k hk
    refine ⟨wd, hw.eqv (fun q q1 q2 => a5 q ?_ (fun i hi e => ?_))⟩
    · have := c14 k hk
      omega
    · rcases Nat.lt_trichotomy i k with u | u | u
      · have := c15 i k u hk
        omega
      · rw [u] at e
        omega
      · have := c15 k i u (by omega)
        omega
  · have hk : k < nc := hk
    exact (hd.2.1 k (by omega)).of (fun i hi f hf => cl_un_8 hf)
  · have hk : k < nc := hk
    exact Or.inl (if_pos ⟨by omega, rfl⟩)
theorem cd_rw {ids : Nat → ClassId} {h h' : rl_H} {n x L : Nat} {s : cl_S} {c : cl_N} {z : sh_S} {res : List arow} {rw : Nat} (hk : cl_ok ids h n x L s c) (hR : sh_R s c z) (hd : cl_dp ids h s c) (hrs : cl_rs s c res rw) {q a b e d r : Int32} (H : (((q < 0 ∨ nI s.2.2.2.1 ≤ q) ∧ r = -1 ∧ h' = h) ∨ (¬ (q < 0 ∨ nI s.2.2.2.1 ≤ q) ∧ 36 ≤ s.2.2.2.2 ∧ r = -4 ∧ h' = h) ∨ (¬ (q < 0 ∨ nI s.2.2.2.1 ≤ q) ∧ s.2.2.2.2 < 36 ∧ r = nI s.2.2.2.2 ∧ cl_at ids h' x (s.1, upd s.2.1 s.2.2.2.2 q, (fun r => if r = s.2.2.2.2 then upd (upd (upd (upd (s.2.2.1 s.2.2.2.2) 0 a) 1 b) 2 e) 3 d else s.2.2.1 r), s.2.2.2.1, s.2.2.2.2 + 1) (c.1, c.2.1, c.2.2.1, cl_un c.2.2.2.1 c.2.2.1, -1, (c.2.2.2.2.2 ||| (1 : Int64) <<< ((nI s.2.2.2.2).toInt64 &&& 63))) ∧ ∀ k, (k < x ∨ x + 41 ≤ k) → (∀ i, i < c.2.2.1 → k ≠ c.1 i) → h' k = h k))) : ∃ (s' : cl_S) (c' : cl_N) (res' : List arow), cl_ok ids h' n x L s' c' ∧ sh_R s' c' (sh_row z q).2 ∧ r = (sh_row z q).1 ∧ cl_fr h h' x L ∧ cl_dp ids h' s' c' ∧ cl_rs s' c' res' rw ∧ ((s'.2.1 = s.2.1 ∧ s'.2.2.1 = s.2.2.1 ∧ c'.2.2.2.1 = c.2.2.2.1 ∧ (sh_row z q).2 = z ∧ res' = res) ∨ (s'.2.1 = upd s.2.1 z.2.2.1 q ∧ s'.2.2.1 = (fun r => if r = z.2.2.1 then upd (upd (upd (upd (s.2.2.1 z.2.2.1) 0 a) 1 b) 2 e) 3 d else s.2.2.1 r) ∧ (∀ i : Nat, i < z.2.2.2.1 → ∀ f : Nat, f < 8 → c'.2.2.2.1 i f = c.2.2.2.1 i f) ∧ (sh_row z q).2.2.2.1 = z.2.2.1 + 1 ∧ res' = [])) := by
  obtain ⟨r1, r2, r3, r4, r5, r6⟩ := id hR
  rcases H with ⟨a1, a2, rfl⟩ | ⟨a1, a2, a3, rfl⟩ | ⟨a1, a2, a3, a4, a5⟩
  · rw [r1] at a1
    have e : sh_row z q = (-1, z) := if_pos a1
    exact ⟨s, c, res, hk, by rw [e]; exact hR, by rw [e]; exact a2, cl_fr.rf, hd, hrs, Or.inl ⟨rfl, rfl, rfl, by rw [e], rfl⟩⟩
  · rw [r1] at a1
    have e : sh_row z q = (-4, z) := (if_neg a1).trans (if_pos (by omega))
    exact ⟨s, c, res, hk, by rw [e]; exact hR, by rw [e]; exact a3, cl_fr.rf, hd, hrs, Or.inl ⟨rfl, rfl, rfl, by rw [e], rfl⟩⟩
  · rw [r1] at a1
    have e : sh_row z q = (nI z.2.2.1, (z.1, z.2.1, z.2.2.1 + 1, z.2.2.2.1, z.2.2.2.2.1, z.2.2.2.2.2 ||| (1 : Int64) <<< ((nI z.2.2.1).toInt64 &&& 63))) := (if_neg a1).trans (if_neg (by omega))
    have nc16 := cl_nc hk
    have hdp := fun (s' : cl_S) (pr : Int64) => hd.un (s' := s') (pr := pr) hk a5 c.2.2.1 (Nat.le_refl _)
    obtain ⟨k1, k2, k3, k4, k5, k6, k7⟩ := hk
    refine ⟨_, _, [], ⟨a4, k2, k3, k4, k5, fun k hk => (k6 k hk).of (fun i _ f hf => cl_un_8 hf), fun k hk a w b e => absurd (if_pos ⟨hk, rfl⟩) a⟩, ?_, by rw [e, a3, r3], fun q z1 z2 => a5 q (by omega) (fun i hi => ?_), hdp _ _, Or.inl ⟨rfl, rfl⟩, Or.inr ⟨by rw [← r3], by rw [← r3], fun i _ f hf => cl_un_8 hf, by rw [e], rfl⟩⟩
    · rw [e]
      exact ⟨r1, r2, by rw [← r3], r4, fun k hk => (cl_un_8 (by decide)).trans (r5 k hk), by rw [← r6, ← r3]⟩
    · have := k4 i (by omega)
      omega
theorem cd_dr {ids : Nat → ClassId} {h h' : rl_H} {n x L : Nat} {s : cl_S} {c : cl_N} {z : sh_S} {res : List arow} {rw : Nat} (hk : cl_ok ids h n x L s c) (hR : sh_R s c z) (hd : cl_dp ids h s c) (hrs : cl_rs s c res rw) {q on r : Int32} (H : (((q < 0 ∨ nI s.2.2.2.2 ≤ q) ∧ r = -1 ∧ h' = h) ∨ (¬ (q < 0 ∨ nI s.2.2.2.2 ≤ q) ∧ r = (if dp_pr c.2.2.2.2.2 q on = c.2.2.2.2.2 then nI 0 else nI 1) ∧ cl_at ids h' x s (c.1, c.2.1, c.2.2.1, c.2.2.2.1, c.2.2.2.2.1, dp_pr c.2.2.2.2.2 q on) ∧ ∀ k, k ≠ x → h' k = h k))) : ∃ c' : cl_N, cl_ok ids h' n x L s c' ∧ sh_R s c' (sh_drop z q on).2 ∧ r = (sh_drop z q on).1 ∧ cl_fr h h' x L ∧ cl_dp ids h' s c' ∧ cl_rs s c' res rw ∧ c'.2.2.2.1 = c.2.2.2.1 := by
  obtain ⟨r1, r2, r3, r4, r5, r6⟩ := id hR
  rcases H with ⟨a1, a2, rfl⟩ | ⟨a1, a2, a3, a4⟩
  · rw [r3] at a1
    have e : sh_drop z q on = (-1, z) := if_pos a1
    exact ⟨c, hk, by rw [e]; exact hR, by rw [e]; exact a2, cl_fr.rf, hd, hrs, rfl⟩
  · rw [r3] at a1
    have e : sh_drop z q on = (if dp_pr z.2.2.2.2.2 q on = z.2.2.2.2.2 then nI 0 else nI 1, (z.1, z.2.1, z.2.2.1, z.2.2.2.1, z.2.2.2.2.1, dp_pr z.2.2.2.2.2 q on)) := if_neg a1
    have nc16 := cl_nc hk
    obtain ⟨k1, k2, k3, k4, k5, k6, k7⟩ := hk
    refine ⟨_, ⟨a3, k2, k3, k4, k5, k6, fun k hk a w b e => ?_⟩, ?_, by rw [e, a2, r6], fun q z1 z2 => a4 q (by omega), cl_dp.eqv (hd.rp c.2.2.2.2.1 (dp_pr c.2.2.2.2.2 q on)) nc16.1 (fun k hk q z1 z2 => a4 q ?_), hrs, rfl⟩
    · have hk : k < c.2.2.1 := hk
      have := k4 k (by omega)
      refine (k7 k hk a w b e).eqv (fun q z1 z2 => a4 q ?_)
      have z1 : c.1 k + 1 ≤ q := z1
      omega
    · rw [e]
      exact ⟨r1, r2, r3, r4, r5, by rw [← r6]⟩
    · have hk : k < c.2.1 := hk
      have := k4 k hk
      have z1 : c.1 k + 1 ≤ q := z1
      omega
theorem cd_clr {ids : Nat → ClassId} {h h' : rl_H} {n x L : Nat} {s : cl_S} {c : cl_N} {z : sh_S} {res : List arow} {rw : Nat} (hk : cl_ok ids h n x L s c) (hR : sh_R s c z) (hd : cl_dp ids h s c) (hrs : cl_rs s c res rw) (a4 : cl_at ids h' x (s.1, s.2.1, s.2.2.1, 0, 0) (c.1, c.2.1, 0, cl_un c.2.2.2.1 c.2.2.1, -1, 0)) (a5 : ∀ k, (k < x ∨ x + 41 ≤ k) → (∀ i, i < c.2.2.1 → k ≠ c.1 i) → h' k = h k) : ∃ (s' : cl_S) (c' : cl_N), cl_ok ids h' n x L s' c' ∧ sh_R s' c' (sh_clear z) ∧ cl_fr h h' x L ∧ cl_dp ids h' s' c' ∧ cl_rs s' c' [] rw := by
  obtain ⟨r1, r2, r3, r4, r5, r6⟩ := id hR
  have nc16 := cl_nc hk
  have hdp := fun (s' : cl_S) (pr : Int64) => hd.un (s' := s') (pr := pr) hk a5 0 (Nat.zero_le _)
  obtain ⟨k1, k2, k3, k4, k5, k6, k7⟩ := hk
  refine ⟨_, _, ⟨a4, k2, k3, k4, fun i hi => absurd hi (Nat.not_lt_zero i), fun i hi => absurd hi (Nat.not_lt_zero i), fun i hi => absurd hi (Nat.not_lt_zero i)⟩, ⟨rfl, r2, rfl, rfl, fun i hi => absurd hi (Nat.not_lt_zero i), rfl⟩, fun q z1 z2 => a5 q (by omega) (fun i hi => ?_), hdp _ _, Or.inl ⟨rfl, rfl⟩⟩
  have := k4 i (by omega)
  omega
/-- run on both sides -/
theorem cd_run {s : cl_S} {c : cl_N} {z : sh_S} {res res' : List arow} {rw rw' : Nat} {A : md_D} {T : md_T} {N' : Nat → Nat → Int32} {rs q r1 r2 : Int32} (hR : sh_R s c z) (n16 : c.2.2.1 ≤ 16) (hrs : cl_rs s c res rw) (hN : ∀ k f : Nat, f < 8 → N' k f = c.2.2.2.1 k f) (hkp : ∀ k : Nat, c.2.2.2.1 k 8 ≠ nI 0 → N' k 8 = c.2.2.2.1 k 8) (hm : mrs A T res' rw') (H1 : (¬ (∃ j : Nat, j < c.2.2.1 ∧ q = nI j) ∧ r1 = -1 ∧ rs = c.2.2.2.2.1) ∨ ∃ j : Nat, j < c.2.2.1 ∧ q = nI j ∧ ((semc s c j = none ∧ r1 = -4 ∧ rs = c.2.2.2.2.1) ∨ ∃ tab : List arow, semc s c j = some tab ∧ r1 = nI tab.length ∧ rs = nI j ∧ N' j 8 = nI 1)) (H2 : (¬ (∃ j : Nat, j < z.2.2.2.1 ∧ q = nI j) ∧ r2 = -1 ∧ res' = res ∧ rw' = rw) ∨ ∃ j : Nat, j < z.2.2.2.1 ∧ q = nI j ∧ ((sem s.2.1 s.2.2.1 z.2.2.1 c.2.2.2.1 j = none ∧ r2 = -4 ∧ res' = res ∧ rw' = rw) ∨ ∃ tab : List arow, sem s.2.1 s.2.2.1 z.2.2.1 c.2.2.2.1 j = some tab ∧ r2 = nI tab.length ∧ res' = tab ∧ c.2.2.2.1 j 1 = nI rw')) : r1 = r2 ∧ cl_rs s (c.1, c.2.1, c.2.2.1, N', rs, c.2.2.2.2.2) res' rw' := by
  rw [← hR.2.2.1, ← hR.2.2.2.1] at H2
  have es : ∀ j : Nat, semc s (c.1, c.2.1, c.2.2.1, N', rs, c.2.2.2.2.2) j = semc s c j := fun j => sem_eq _ _ _ _ (fun i _ f hf => hN i f hf)
  have kp : rs = c.2.2.2.2.1 → cl_rs s (c.1, c.2.1, c.2.2.1, N', rs, c.2.2.2.2.2) res rw := fun e => by
    rcases hrs with ⟨h1, h2⟩ | ⟨j, h1, h2, h3, h4, h5, h6⟩
    · exact Or.inl ⟨e.trans h1, h2⟩
    · exact Or.inr ⟨j, h1, e.trans h2, (hkp j (by rw [h3]; decide +kernel)).trans h3, (es j).trans h4, (hN j 1 (by decide)).trans h5, h6⟩
  rcases H1 with ⟨a1, a2, a3⟩ | ⟨j, hj, rfl, H1⟩
  · rcases H2 with ⟨b1, b2, b3, b4⟩ | ⟨i, hi, e, -⟩
    · rw [b3, b4]
      exact ⟨a2.trans b2.symm, kp a3⟩
    · exact absurd ⟨i, hi, e⟩ a1
  · rcases H2 with ⟨b1, -⟩ | ⟨i, hi, e, H2⟩
    · exact absurd ⟨j, hj, rfl⟩ b1
    · have ij := nI_inj2 (by omega) (by omega) e
      subst ij
      rcases H1 with ⟨a1, a2, a3⟩ | ⟨tab, a1, a2, a3, a4⟩
      · rcases H2 with ⟨b1, b2, b3, b4⟩ | ⟨tab2, b1, b2, b3, b4⟩
        · rw [b3, b4]
          exact ⟨a2.trans b2.symm, kp a3⟩
        · exact absurd (a1.symm.trans b1) (by simp)
      · rcases H2 with ⟨b1, b2, b3, b4⟩ | ⟨tab2, b1, b2, b3, b4⟩
        · exact absurd (b1.symm.trans a1) (by simp)
        · have et : tab = tab2 := Option.some.inj (a1.symm.trans b1)
          rw [b3, ← et]
          exact ⟨a2.trans (by rw [b2, et]), Or.inr ⟨j, hj, a3, a4, (es j).trans a1, (hN j 1 (by decide)).trans b4, hm.2.2.1⟩⟩
/-- two looks that say the same -/
theorem lk_eq {res : List arow} {q r1 r2 : Int32} {F : Nat → Int32} (n80 : res.length ≤ 80) (H1 : (¬ (∃ t : Nat, t < res.length ∧ q = nI t) ∧ r1 = -1) ∨ ∃ t : Nat, t < res.length ∧ q = nI t ∧ r1 = F t) (H2 : (¬ (∃ t : Nat, t < res.length ∧ q = nI t) ∧ r2 = -1) ∨ ∃ t : Nat, t < res.length ∧ q = nI t ∧ r2 = F t) : r1 = r2 := by
  rcases H1 with ⟨a1, a2⟩ | ⟨t, a1, rfl, a2⟩
  · rcases H2 with ⟨b1, b2⟩ | ⟨t, b1, e, b2⟩
    · exact a2.trans b2.symm
    · exact absurd ⟨t, b1, e⟩ a1
  · rcases H2 with ⟨b1, b2⟩ | ⟨u, b1, e, b2⟩
    · exact absurd ⟨t, a1, rfl⟩ b1
    · have tu := nI_inj2 (by omega) (by omega) e
      rw [a2, b2, tu]
/-- what one round of the law leaves -/
def lgd_ok (ids : Nat → ClassId) (h : rl_H) (n x : Nat) : Prop := ∃ (s : cl_S) (c : cl_N) (z : sh_S) (res : List arow) (rw : Nat), cl_ok ids h n x (x + 94) s c ∧ sh_R s c z ∧ cl_dp ids h s c ∧ cl_rs s c res rw ∧ mdd ids h (x + 70) z s.2.1 s.2.2.1 c.2.2.2.1 res rw ∧ ∃ of : Nat → Int64, h (x + 93) = some (.inl (ids 1, 1, .inr (.inl of)))
theorem lgd_ok.of {ids : Nat → ClassId} {h h1 h2 : rl_H} {n1 x : Nat} {s : cl_S} {c : cl_N} {z : sh_S} {res : List arow} {rw : Nat} {of : Nat → Int64} (hou : h (x + 93) = some (.inl (ids 1, 1, .inr (.inl of)))) (f1 : cl_fr h h1 x (x + 94)) (hk : cl_ok ids h1 n1 x (x + 94) s c) (hR : sh_R s c z) (hd : cl_dp ids h1 s c) (hrs : cl_rs s c res rw) (hm : mdd ids h2 (x + 70) z s.2.1 s.2.2.1 c.2.2.2.1 res rw) (f2 : rl_fr h1 h2 (x + 70) (x + 70 + 23)) : lgd_ok ids h2 n1 x :=
  ⟨s, c, z, res, rw, hk.eqv (Nat.le_refl _) (fun q hq => f2 q (by omega)), hR, hd.eqv (cl_nc hk).1 (fun k hk9 q a b => f2 q (by have := hk.2.2.2.1 k hk9; omega)), hrs, hm, of, (f2 _ (by omega)).trans ((f1 _ (by omega) (by omega)).trans hou)⟩
theorem cl_new.D {ids : Nat → ClassId} {h : rl_H} : cl_dp ids h (fun _ => 0, fun _ => 0, fun _ _ => 0, 0, 0) (fun _ => 0, 0, 0, fun _ _ => 0, -1, 0) := ⟨fun k hk => absurd hk (Nat.not_lt_zero k), fun k hk => absurd hk (Nat.not_lt_zero k), fun k hk => absurd hk (Nat.not_lt_zero k)⟩
theorem md_new.D {ids : Nat → ClassId} {h : rl_H} {m : Nat} (H : md_new ids h m) {sf : Nat → Int32} {cf N : Nat → Nat → Int32} : mdd ids h m (0, fun _ => 0, 0, 0, fun _ => 0, 0) sf cf N [] 0 := by
  obtain ⟨m0, m1, m2, m3, m4, m5, m6, m7, m8, m9, m10, m11, m12, m13, m14, m15, m16, m17, m18, m19, m20, m21, m22⟩ := H
  have q : mq ids h h m (nI 0, nI 0, nI 0, 0, nI 0, nI 0, nI 0) (nI 0) 0 := ⟨m0, Nat.zero_le _, ⟨⟨_, m12⟩, ⟨_, m13, fun k _ => ⟨0, by decide, nI_0.symm⟩⟩, ⟨_, m14⟩, ⟨_, m15, fun k _ => ⟨0, by decide, nI_0.symm⟩⟩, ⟨_, m16⟩, ⟨_, m17⟩, ⟨_, m18⟩, ⟨_, m19⟩, ⟨_, m20⟩, ⟨_, m21, fun k _ => ⟨0, by decide, nI_0.symm⟩⟩, ⟨_, m22⟩⟩, fun _ _ _ => rfl⟩
  exact ⟨(nI 0, nI 0, nI 0, 0, nI 0, nI 0, nI 0), nI 0, 0, (fun _ => 0, fun _ => 0, fun _ => 0, fun _ => 0, fun _ => 0, fun _ => 0, fun _ => 0, fun _ => 0, fun _ => 0, fun _ => 0, fun _ => 0), (fun _ => 0, fun _ => 0, fun _ => 0, fun _ => 0, fun _ => 0, fun _ => 0, fun _ => 0, fun _ => 0, fun _ => 0, fun _ => 0, fun _ => 0), ⟨q, ⟨m1, m2, m3, m4, m5, m6, m7, m8, m9, m10, m11⟩, ⟨rfl, Nat.zero_le _⟩, rfl, ⟨rfl, Nat.zero_le _⟩, ⟨rfl, Nat.zero_le _⟩, rfl, rfl, fun a ha => absurd ha (Nat.not_lt_zero a), fun a ha => absurd ha (Nat.not_lt_zero a), ⟨0, Nat.zero_le _, rfl⟩⟩, ⟨q, m12, m13, m14, m15, m16, m17, m18, m19, m20, m21, m22⟩, ⟨fun r hr => absurd hr (Nat.not_lt_zero r), fun a ha => absurd ha (Nat.not_lt_zero a)⟩, mrs.nil nI_0.symm (by decide)⟩
