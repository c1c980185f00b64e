/-! fresh objects; what the shallow calls leave -/
theorem op_at.sh {ids : Nat → ClassId} {h : rl_H} {o so : Nat} {dr : dr_S} {f g : Nat → Int64} {k : Nat} {gp : Nat → Option Nat} {kc : Nat → Int32} {F G : Nat → Nat → Int64} {K : Nat → Nat} (H : op_at ids h o so dr f g k gp kc F G K) : op_sh ids h o so gp := by
  obtain ⟨h1, h2, h3, h4, h5, h6, h7⟩ := H
  exact ⟨h1, ⟨_, h2⟩, ⟨_, _, _, h3⟩, h4, h5, ⟨_, h6⟩, fun m hm => ⟨_, _, _, h7 m hm⟩⟩
theorem cl_new {ids : Nat → ClassId} {h : rl_H} {n x L : Nat} (H : rw_new ids h x) (hL : x + 70 ≤ L) (hn : L ≤ n) : cl_ok ids h n x L (fun _ => 0, fun _ => 0, fun _ _ => 0, 0, 0) (fun _ => 0, 0, 0, fun _ _ => 0, -1, 0) := by
  obtain ⟨h1, h2, h3, h4, h5, h6, h7⟩ := H
  refine ⟨⟨h1, h2, ⟨_, h3.sh⟩, ⟨_, h4, fun k _ => (if_neg (Nat.not_lt_zero k)).symm⟩, ⟨_, h5, fun k _ => (if_neg (Nat.not_lt_zero k)).symm⟩, h6, ⟨_, _, _, h7⟩, Nat.le_refl _, Nat.zero_le _, fun k hk => absurd hk (Nat.not_lt_zero k), fun k hk => absurd hk (Nat.not_lt_zero k), fun k hk => absurd hk (Nat.not_lt_zero k), fun i j _ hj => absurd hj (Nat.not_lt_zero j)⟩, hL, hn, fun k hk => absurd hk (Nat.not_lt_zero k), fun k hk => absurd hk (Nat.not_lt_zero k), fun k hk => absurd hk (Nat.not_lt_zero k), fun k hk => absurd hk (Nat.not_lt_zero k)⟩
theorem md_new.ok {ids : Nat → ClassId} {h : rl_H} {m : Nat} (H : md_new ids h m) : md_ok ids h m (0, fun _ => 0, 0, 0, fun _ => 0, 0) := by
  obtain ⟨m0, m1, m2, m3, m4, m5, m6, m7, m8, m9, m10, m11, m12, m13, m14, m15, m16, m17, m18, m19, m20, m21, m22⟩ := H
  exact ⟨(nI 0, nI 0, nI 0, 0, nI 0, nI 0, nI 0), nI 0, 0, (fun _ => 0, fun _ => 0, fun _ => 0, fun _ => 0, fun _ => 0, fun _ => 0, fun _ => 0, fun _ => 0, fun _ => 0, fun _ => 0, fun _ => 0), ⟨m0, Nat.zero_le _, ⟨⟨_, m12⟩, ⟨_, m13, fun k _ => ⟨0, by decide, nI_0.symm⟩⟩, ⟨_, m14⟩, ⟨_, m15, fun k _ => ⟨0, by decide, nI_0.symm⟩⟩, ⟨_, m16⟩, ⟨_, m17⟩, ⟨_, m18⟩, ⟨_, m19⟩, ⟨_, m20⟩, ⟨_, m21, fun k _ => ⟨0, by decide, nI_0.symm⟩⟩, ⟨_, m22⟩⟩, fun _ _ _ => rfl⟩, ⟨m1, m2, m3, m4, m5, m6, m7, m8, m9, m10, m11⟩, ⟨rfl, Nat.zero_le _⟩, rfl, ⟨rfl, Nat.zero_le _⟩, ⟨rfl, Nat.zero_le _⟩, rfl, rfl, fun a ha => absurd ha (Nat.not_lt_zero a), fun a ha => absurd ha (Nat.not_lt_zero a), ⟨0, Nat.zero_le _, rfl⟩⟩
theorem cl_new.R : sh_R (fun _ => 0, fun _ => 0, fun _ _ => 0, 0, 0) (fun _ => 0, 0, 0, fun _ _ => 0, -1, 0) (0, fun _ => 0, 0, 0, fun _ => 0, 0) := ⟨rfl, rfl, rfl, rfl, fun k hk => absurd hk (Nat.not_lt_zero k), rfl⟩
theorem cl_un_8 {N : Nat → Nat → Int32} {t k f : Nat} (h : f < 8) : cl_un N t k f = N k f := if_neg (by omega)
theorem cl_src {ids : Nat → ClassId} {h h' : rl_H} {n x L : Nat} {s : cl_S} {c : cl_N} {z : sh_S} (hk : cl_ok ids h n x L s c) (hR : sh_R s c z) {q r : Int32} (H : (((q < nI 1 ∨ ¬ q ≤ nI 4) ∧ r = -2 ∧ h' = h) ∨ (¬ (q < nI 1 ∨ ¬ q ≤ nI 4) ∧ 4 ≤ s.2.2.2.1 ∧ r = -4 ∧ h' = h) ∨ (¬ (q < nI 1 ∨ ¬ q ≤ nI 4) ∧ s.2.2.2.1 < 4 ∧ r = nI s.2.2.2.1 ∧ cl_at ids h' x (upd s.1 s.2.2.2.1 q, s.2.1, s.2.2.1, s.2.2.2.1 + 1, s.2.2.2.2) c ∧ rl_fr h h' (x + 1) (x + 41)))) : ∃ s' : cl_S, cl_ok ids h' n x L s' c ∧ sh_R s' c (sh_source z q).2 ∧ r = (sh_source z q).1 ∧ cl_fr h h' x L := by
  obtain ⟨r1, r2, r3, r4, r5, r6⟩ := id hR
  rcases H with ⟨a1, a2, rfl⟩ | ⟨a1, a2, a3, rfl⟩ | ⟨a1, a2, a3, a4, a5⟩
  · have e : sh_source z q = (-2, z) := if_pos a1
    exact ⟨s, hk, by rw [e]; exact hR, by rw [e]; exact a2, cl_fr.rf⟩
  · have e : sh_source z q = (-4, z) := (if_neg a1).trans (if_pos (by omega))
    exact ⟨s, hk, by rw [e]; exact hR, by rw [e]; exact a3, cl_fr.rf⟩
  · have e : sh_source z q = (nI z.1, (z.1 + 1, upd z.2.1 z.1 q, z.2.2)) := (if_neg a1).trans (if_neg (by omega))
    have nc16 := cl_nc hk
    obtain ⟨k1, k2, k3, k4, k5, k6, k7⟩ := hk
    refine ⟨_, ⟨a4, k2, k3, k4, fun i hi => ?_, k6, fun k hk a w b e => ?_⟩, ?_, by rw [e, a3, r1], fun q z1 z2 => a5 q (by omega)⟩
    · have hi : i < s.2.2.2.1 + 1 := hi
      show ∃ w : Nat, 1 ≤ w ∧ w ≤ 4 ∧ upd s.1 s.2.2.2.1 q i = nI w
      by_cases ei : i = s.2.2.2.1
      · rw [ei, upd_at]
        obtain ⟨w, hw, rfl⟩ := nI_of2 (M := nI 4) (nI_toInt (by decide)) (fun e => a1 (Or.inl (Int32.lt_trans e (by decide +kernel)))) (Decidable.not_not.mp (fun e => a1 (Or.inr e)))
        exact ⟨w, Nat.pos_of_ne_zero (fun e => a1 (Or.inl (by rw [e]; decide +kernel))), hw, rfl⟩
      · rw [upd_lt (show i < s.2.2.2.1 by omega)]
        exact k5 i (by omega)
    · have := k4 k (by omega)
      exact (k7 k hk a w b e).eqv (fun q z1 z2 => a5 q (by omega))
    · rw [e]
      exact ⟨by rw [← r1], by rw [← r1, ← r2], r3, r4, r5, r6⟩
theorem cl_rw {ids : Nat → ClassId} {h h' : rl_H} {n x L : Nat} {s : cl_S} {c : cl_N} {z : sh_S} (hk : cl_ok ids h n x L s c) (hR : sh_R s c z) {q a b e d r : Int32} (H : (((q < 0 ∨ nI s.2.2.2.1 ≤ q) ∧ r = -1 ∧ h' = h) ∨ (¬ (q < 0 ∨ nI s.2.2.2.1 ≤ q) ∧ 36 ≤ s.2.2.2.2 ∧ r = -4 ∧ h' = h) ∨ (¬ (q < 0 ∨ nI s.2.2.2.1 ≤ q) ∧ s.2.2.2.2 < 36 ∧ r = nI s.2.2.2.2 ∧ cl_at ids h' x (s.1, upd s.2.1 s.2.2.2.2 q, (fun r => if r = s.2.2.2.2 then upd (upd (upd (upd (s.2.2.1 s.2.2.2.2) 0 a) 1 b) 2 e) 3 d else s.2.2.1 r), s.2.2.2.1, s.2.2.2.2 + 1) (c.1, c.2.1, c.2.2.1, cl_un c.2.2.2.1 c.2.2.1, -1, (c.2.2.2.2.2 ||| (1 : Int64) <<< ((nI s.2.2.2.2).toInt64 &&& 63))) ∧ ∀ k, (k < x ∨ x + 41 ≤ k) → (∀ i, i < c.2.2.1 → k ≠ c.1 i) → h' k = h k))) : ∃ (s' : cl_S) (c' : cl_N), cl_ok ids h' n x L s' c' ∧ sh_R s' c' (sh_row z q).2 ∧ r = (sh_row z q).1 ∧ cl_fr h h' x L := by
  obtain ⟨r1, r2, r3, r4, r5, r6⟩ := id hR
  rcases H with ⟨a1, a2, rfl⟩ | ⟨a1, a2, a3, rfl⟩ | ⟨a1, a2, a3, a4, a5⟩
  · rw [r1] at a1
    have e : sh_row z q = (-1, z) := if_pos a1
    exact ⟨s, c, hk, by rw [e]; exact hR, by rw [e]; exact a2, cl_fr.rf⟩
  · rw [r1] at a1
    have e : sh_row z q = (-4, z) := (if_neg a1).trans (if_pos (by omega))
    exact ⟨s, c, hk, by rw [e]; exact hR, by rw [e]; exact a3, cl_fr.rf⟩
  · rw [r1] at a1
    have e : sh_row z q = (nI z.2.2.1, (z.1, z.2.1, z.2.2.1 + 1, z.2.2.2.1, z.2.2.2.2.1, z.2.2.2.2.2 ||| (1 : Int64) <<< ((nI z.2.2.1).toInt64 &&& 63))) := (if_neg a1).trans (if_neg (by omega))
    have nc16 := cl_nc hk
    obtain ⟨k1, k2, k3, k4, k5, k6, k7⟩ := hk
    refine ⟨_, _, ⟨a4, k2, k3, k4, k5, fun k hk => (k6 k hk).of (fun i _ f hf => cl_un_8 hf), fun k hk a w b e => absurd (if_pos ⟨hk, rfl⟩) a⟩, ?_, by rw [e, a3, r3], fun q z1 z2 => a5 q (by omega) (fun i hi => ?_)⟩
    · rw [e]
      exact ⟨r1, r2, by rw [← r3], r4, fun k hk => (cl_un_8 (by decide)).trans (r5 k hk), by rw [← r6, ← r3]⟩
    · have := k4 i (by omega)
      omega
theorem cl_cols {ids : Nat → ClassId} {h : rl_H} {n x L : Nat} {s : cl_S} {c : cl_N} {z : sh_S} (hk : cl_ok ids h n x L s c) (hR : sh_R s c z) {q r : Int32} (H : (r = -1 ∧ ¬ ∃ j : Nat, j < c.2.2.1 ∧ q = nI j) ∨ ∃ j : Nat, j < c.2.2.1 ∧ q = nI j ∧ r = c.2.2.2.1 j 1) : (sh_columns z q).2 = z ∧ r = (sh_columns z q).1 := by
  unfold sh_columns
  rcases H with ⟨a1, a2⟩ | ⟨j, hj, rfl, a3⟩
  · rw [if_pos (Decidable.not_not.mp (fun e => a2 ((sh_R.nn hk hR).mpr e)))]
    exact ⟨rfl, a1⟩
  · rw [if_neg ((sh_R.nn hk hR).mp ⟨j, hj, rfl⟩)]
    exact ⟨rfl, a3.trans (sh_R.w hk hR hj).symm⟩
theorem cl_dr {ids : Nat → ClassId} {h h' : rl_H} {n x L : Nat} {s : cl_S} {c : cl_N} {z : sh_S} (hk : cl_ok ids h n x L s c) (hR : sh_R s c z) {q on r : Int32} (H : (((q < 0 ∨ nI s.2.2.2.2 ≤ q) ∧ r = -1 ∧ h' = h) ∨ (¬ (q < 0 ∨ nI s.2.2.2.2 ≤ q) ∧ r = (if dp_pr c.2.2.2.2.2 q on = c.2.2.2.2.2 then nI 0 else nI 1) ∧ cl_at ids h' x s (c.1, c.2.1, c.2.2.1, c.2.2.2.1, c.2.2.2.2.1, dp_pr c.2.2.2.2.2 q on) ∧ ∀ k, k ≠ x → h' k = h k))) : ∃ c' : cl_N, cl_ok ids h' n x L s c' ∧ sh_R s c' (sh_drop z q on).2 ∧ r = (sh_drop z q on).1 ∧ cl_fr h h' x L := by
  obtain ⟨r1, r2, r3, r4, r5, r6⟩ := id hR
  rcases H with ⟨a1, a2, rfl⟩ | ⟨a1, a2, a3, a4⟩
  · rw [r3] at a1
    have e : sh_drop z q on = (-1, z) := if_pos a1
    exact ⟨c, hk, by rw [e]; exact hR, by rw [e]; exact a2, cl_fr.rf⟩
  · rw [r3] at a1
    have e : sh_drop z q on = (if dp_pr z.2.2.2.2.2 q on = z.2.2.2.2.2 then nI 0 else nI 1, (z.1, z.2.1, z.2.2.1, z.2.2.2.1, z.2.2.2.2.1, dp_pr z.2.2.2.2.2 q on)) := if_neg a1
    have nc16 := cl_nc hk
    obtain ⟨k1, k2, k3, k4, k5, k6, k7⟩ := hk
    refine ⟨_, ⟨a3, k2, k3, k4, k5, k6, fun k hk a w b e => ?_⟩, ?_, by rw [e, a2, r6], fun q z1 z2 => a4 q (by omega)⟩
    · have hk : k < c.2.2.1 := hk
      have := k4 k (by omega)
      refine (k7 k hk a w b e).eqv (fun q z1 z2 => a4 q ?_)
      have z1 : c.1 k + 1 ≤ q := z1
      omega
    · rw [e]
      exact ⟨r1, r2, r3, r4, r5, by rw [← r6]⟩
theorem cl_clr {ids : Nat → ClassId} {h h' : rl_H} {n x L : Nat} {s : cl_S} {c : cl_N} {z : sh_S} (hk : cl_ok ids h n x L s c) (hR : sh_R s c z) (a4 : cl_at ids h' x (s.1, s.2.1, s.2.2.1, 0, 0) (c.1, c.2.1, 0, cl_un c.2.2.2.1 c.2.2.1, -1, 0)) (a5 : ∀ k, (k < x ∨ x + 41 ≤ k) → (∀ i, i < c.2.2.1 → k ≠ c.1 i) → h' k = h k) : ∃ (s' : cl_S) (c' : cl_N), cl_ok ids h' n x L s' c' ∧ sh_R s' c' (sh_clear z) ∧ cl_fr h h' x L := by
  obtain ⟨r1, r2, r3, r4, r5, r6⟩ := id hR
  have nc16 := cl_nc hk
  obtain ⟨k1, k2, k3, k4, k5, k6, k7⟩ := hk
  refine ⟨_, _, ⟨a4, k2, k3, k4, fun i hi => absurd hi (Nat.not_lt_zero i), fun i hi => absurd hi (Nat.not_lt_zero i), fun i hi => absurd hi (Nat.not_lt_zero i)⟩, ⟨rfl, r2, rfl, rfl, fun i hi => absurd hi (Nat.not_lt_zero i), rfl⟩, fun q z1 z2 => a5 q (by omega) (fun i hi => ?_)⟩
  have := k4 i (by omega)
  omega
theorem sh_R.run {s : cl_S} {c : cl_N} {z : sh_S} (hR : sh_R s c z) {N : Nat → Nat → Int32} {rs : Int32} (hN : ∀ k f : Nat, f < 8 → N k f = c.2.2.2.1 k f) : sh_R s (c.1, c.2.1, c.2.2.1, N, rs, c.2.2.2.2.2) z := ⟨hR.1, hR.2.1, hR.2.2.1, hR.2.2.2.1, fun k hk => (hN k 1 (by decide)).trans (hR.2.2.2.2.1 k hk), hR.2.2.2.2.2⟩
/-- what one round of the law may leave: objects at x, x + 70, x + 93 -/
def lg_ok (ids : Nat → ClassId) (h : rl_H) (n x : Nat) : Prop := ∃ (s : cl_S) (c : cl_N) (z : sh_S), cl_ok ids h n x (x + 94) s c ∧ sh_R s c z ∧ md_ok ids h (x + 70) z ∧ ∃ of : Nat → Int64, h (x + 93) = some (.inl (ids 1, 1, .inr (.inl of)))
theorem lg_ok.of {ids : Nat → ClassId} {h h1 h2 : rl_H} {n1 x : Nat} {s : cl_S} {c : cl_N} {z : sh_S} {of : Nat → Int64} (hou : h (x + 93) = some (.inl (ids 1, 1, .inr (.inl of)))) (f1 : cl_fr h h1 x (x + 94)) (hk : cl_ok ids h1 n1 x (x + 94) s c) (hR : sh_R s c z) (hm : md_ok ids h2 (x + 70) z) (f2 : rl_fr h1 h2 (x + 70) (x + 70 + 23)) : lg_ok ids h2 n1 x :=
  ⟨s, c, z, hk.eqv (Nat.le_refl _) (fun q hq => f2 q (by omega)), hR, hm, of, (f2 _ (by omega)).trans ((f1 _ (by omega) (by omega)).trans hou)⟩
theorem md_ok.cl {ids : Nat → ClassId} {h h1 : rl_H} {x : Nat} {z : sh_S} (hm : md_ok ids h (x + 70) z) (f1 : cl_fr h h1 x (x + 94)) : md_ok ids h1 (x + 70) z := hm.eqv (fun q a b => f1 q (by omega) (by omega))
theorem rw_new.eqw {ids : Nat → ClassId} {h h' : rl_H} {x : Nat} (H : rw_new ids h x) (he : ∀ q, x ≤ q → q < x + 70 → h' q = h q) : rw_new ids h' x :=
  ⟨by rw [he x (by omega) (by omega)]; exact H.1, H.2.1.eqv (fun q a b => he q (by omega) (by omega)), H.2.2.1.eqv (fun q a b => he q (by omega) (by omega)), by rw [he (x + 63) (by omega) (by omega)]; exact H.2.2.2.1, by rw [he (x + 64) (by omega) (by omega)]; exact H.2.2.2.2.1, by rw [he (x + 65) (by omega) (by omega)]; exact H.2.2.2.2.2.1, H.2.2.2.2.2.2.eqv (fun q a b => he q (by omega) (by omega))⟩
theorem lg_len {L j : Nat} (hL : L ≤ 3072) (hj : j ≤ 512) (h : ¬ nI L - nI 6 < nI (6 * j)) : 6 * j + 6 ≤ L := by
  rcases Nat.lt_or_ge L 6 with q | q
  · refine absurd (Int32.lt_of_lt_of_le (b := 0) ?_ (Int32.not_lt.mp (nI_pos (by omega)))) h
    rcases (by omega : L = 0 ∨ L = 1 ∨ L = 2 ∨ L = 3 ∨ L = 4 ∨ L = 5) with rfl | rfl | rfl | rfl | rfl | rfl <;> decide +kernel
  · have e : nI L - nI 6 = nI (L - 6) := by
      have e2 : nI L = nI (L - 6) + nI 6 := by rw [nI_add, Nat.sub_add_cancel q]
      rw [e2, Int32.add_sub_cancel]
    rw [e] at h
    rcases Nat.lt_or_ge L (6 * j + 6) with u | u
    · exact absurd (nI_lt (show L - 6 < 6 * j by omega) (by omega)) h
    · exact u
