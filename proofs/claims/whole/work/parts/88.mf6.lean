/-! THE MODEL, functionally: comes -/
/-- nothing but node a's table (and the heap) has changed -/
def mto (A B : md_D) (a : Nat) : Prop := (∀ q : Nat, (q < 480 * a ∨ 480 * a + 480 ≤ q) → B.1 q = A.1 q) ∧ (∀ i : Nat, i ≠ a → B.2.1 i = A.2.1 i) ∧ B.2.2.1 = A.2.2.1 ∧ (∀ i : Nat, (i < 80 * a ∨ 80 * a + 80 ≤ i) → B.2.2.2.1 i = A.2.2.2.1 i) ∧ (∀ q : Nat, (q < 960 * a ∨ 960 * a + 960 ≤ q) → B.2.2.2.2.1 q = A.2.2.2.2.1 q ∧ B.2.2.2.2.2.1 q = A.2.2.2.2.2.1 q) ∧ B.2.2.2.2.2.2.2.2 = A.2.2.2.2.2.2.2.2
theorem mto.rf {A : md_D} {a : Nat} : mto A A a := ⟨fun _ _ => rfl, fun _ _ => rfl, rfl, fun _ _ => rfl, fun _ _ => ⟨rfl, rfl⟩, rfl⟩
theorem mto.tr {A B C : md_D} {a : Nat} (h : mto A B a) (g : mto B C a) : mto A C a := by
  obtain ⟨h1, h2, h3, h4, h5, h6⟩ := h
  obtain ⟨g1, g2, g3, g4, g5, g6⟩ := g
  exact ⟨fun q hq => (g1 q hq).trans (h1 q hq), fun q hq => (g2 q hq).trans (h2 q hq), g3.trans h3, fun i hi => (g4 i hi).trans (h4 i hi), fun q hq => ⟨(g5 q hq).1.trans (h5 q hq).1, (g5 q hq).2.trans (h5 q hq).2⟩, g6.trans h6⟩
theorem mto.ro {A B : md_D} {a c : Nat} (h : mro A B c) (h1 : 80 * a ≤ c) (h2 : c < 80 * a + 80) : mto A B a := by
  obtain ⟨e1, e2, e3, e4, e5, e6⟩ := h
  exact ⟨fun q _ => congrFun e1 q, fun q _ => congrFun e2 q, e3, fun i hi => e4 i (by omega), fun q hq => e5 q (by omega), e6⟩
theorem mto.ws {A B : md_D} {a b : Nat} {L : List tT} (h : mto A B a) (hb : b < 80 * a ∨ 80 * a + 80 ≤ b) (H : mws A b L) : mws B b L := by
  obtain ⟨h1, h2, h3, h4, h5, h6⟩ := h
  obtain ⟨g1, g2, g3⟩ := H
  refine ⟨(h4 b hb).trans g1, g2, (tls_eq (fun i hi => ?_)).trans g3⟩
  exact h5 (12 * b + i) (by omega)
/-- a row of a table -/
def mrw (A : md_D) (a w j : Nat) (r : arow) : Prop := rcl (mcl A a j) w = r.1 ∧ mws A (80 * a + j) r.2
/-- a table -/
def mtb (A : md_D) (a w : Nat) (tab : List arow) : Prop := A.2.1 a = nI tab.length ∧ ∀ j : Nat, j < tab.length → mrw A a w j (ark tab j)
theorem mrw.of {A B : md_D} {a w j : Nat} {r : arow} (hw : w ≤ 6) (h : mrw A a w j r) (h1 : ∀ q : Nat, (80 * a + j) * 6 ≤ q → q < (80 * a + j) * 6 + 6 → B.1 q = A.1 q) (h2 : mws A (80 * a + j) r.2 → mws B (80 * a + j) r.2) : mrw B a w j r := ⟨(rsg_eq (fun i _ hi => h1 _ (by omega) (by omega))).trans h.1, h2 h.2⟩
theorem mrw.ro {A B : md_D} {a w j c : Nat} {r : arow} (hw : w ≤ 6) (h : mrw A a w j r) (hr : mro A B c) (hc : 80 * a + j ≠ c) : mrw B a w j r := h.of hw (fun q _ _ => congrFun hr.1 q) (hr.ws hc)
theorem mtb.to {A B : md_D} {a b w : Nat} {tab : List arow} (hw : w ≤ 6) (hl : tab.length ≤ 80) (h : mtb A b w tab) (hr : mto A B a) (hab : b ≠ a) : mtb B b w tab := ⟨(hr.2.1 b hab).trans h.1, fun j hj => (h.2 j hj).of hw (fun q h1 h2 => hr.1 q (by omega)) (hr.ws (by omega))⟩
theorem ark_ins {tab : List arow} {r : arow} {p : Nat} (hp : p ≤ tab.length) (j : Nat) : ark (tab.take p ++ r :: tab.drop p) j = if j < p then ark tab j else if j = p then r else ark tab (j - 1) := by
  unfold ark
  rw [List.getD_eq_getElem?_getD, List.getD_eq_getElem?_getD, List.getD_eq_getElem?_getD]
  have hl : (tab.take p).length = p := by rw [List.length_take]; omega
  by_cases e : j < p
  · rw [if_pos e, List.getElem?_append_left (by omega), List.getElem?_take_of_lt e]
  · rw [if_neg e, List.getElem?_append_right (by omega), hl]
    by_cases e2 : j = p
    · rw [if_pos e2, e2, Nat.sub_self]
      rfl
    · rw [if_neg e2, show j - p = (j - 1 - p) + 1 by omega, List.getElem?_cons_succ, List.getElem?_drop, show p + (j - 1 - p) = j - 1 by omega]
/-- between: those from p on stand one further -/
def mcs (A B : md_D) (a b w p : Nat) (tab : List arow) (ts : List tT) : Prop := mto A B a ∧ B.2.1 a = nI tab.length ∧ mws B b ts ∧ (∀ j : Nat, j < p → mrw B a w j (ark tab j)) ∧ (∀ j : Nat, p < j → j ≤ tab.length → mrw B a w j (ark tab (j - 1)))
theorem mcs.st {A B C : md_D} {f : Nat → Int32} {a b w p : Nat} {tab : List arow} {ts : List tT} (hw : w ≤ 6) (hl : tab.length < 80) (hp : p < tab.length) (hb : b < 80 * a ∨ 80 * a + 80 ≤ b) (h : mcs A B a b w (p + 1) tab ts) (hf : ∀ q : Nat, f q = if (80 * a + (p + 1)) * 6 ≤ q ∧ q < (80 * a + (p + 1)) * 6 + 6 then B.1 (q - 6) else B.1 q) (hr : mro (f, B.2.1, B.2.2.1, B.2.2.2.1, B.2.2.2.2.1, B.2.2.2.2.2.1, B.2.2.2.2.2.2.1, B.2.2.2.2.2.2.2.1, B.2.2.2.2.2.2.2.2.1, B.2.2.2.2.2.2.2.2.2.1, B.2.2.2.2.2.2.2.2.2.2) C (80 * a + (p + 1))) (hu : mws C (80 * a + (p + 1)) (ark tab p).2) : mcs A C a b w p tab ts := by
  obtain ⟨h1, h2, h3, h4, h5⟩ := h
  have hB : mto B (f, B.2.1, B.2.2.1, B.2.2.2.1, B.2.2.2.2.1, B.2.2.2.2.2.1, B.2.2.2.2.2.2.1, B.2.2.2.2.2.2.2.1, B.2.2.2.2.2.2.2.2.1, B.2.2.2.2.2.2.2.2.2.1, B.2.2.2.2.2.2.2.2.2.2) a := ⟨fun q hq => (hf q).trans (if_neg (by omega)), fun _ _ => rfl, rfl, fun _ _ => rfl, fun _ _ => ⟨rfl, rfl⟩, rfl⟩
  have hC : mto B C a := hB.tr (mto.ro hr (by omega) (by omega))
  have ec : C.1 = f := hr.1
  have keep : ∀ (j : Nat) (r : arow), j ≠ p + 1 → mrw B a w j r → mrw C a w j r := fun j r hj H => by
    refine H.of hw (fun q q1 q2 => ?_) (fun H => hr.ws (by omega) H)
    rw [ec, hf q]
    exact if_neg (by omega)
  refine ⟨h1.tr hC, ?_, hC.ws hb h3, fun j hj => keep j _ (by omega) (h4 j (by omega)), fun j hj hj2 => ?_⟩
  · rw [show C.2.1 = B.2.1 from hr.2.1]
    exact h2
  · by_cases e : j = p + 1
    · subst e
      refine ⟨?_, hu⟩
      rw [Nat.add_sub_cancel, ← (h4 p (by omega)).1]
      refine rsg_eq (fun i _ hi => ?_)
      show C.1 _ = B.1 _
      rw [ec, hf, if_pos (by omega)]
      exact congrArg B.1 (by omega)
    · exact keep j _ e (h5 j (by omega) hj2)
theorem mcs.en {A B C : md_D} {f : Nat → Int32} {a b w p : Nat} {tab : List arow} {ts : List tT} (hw : w ≤ 6) (hl : tab.length < 80) (hp : p ≤ tab.length) (h : mcs A B a b w p tab ts) (hf : ∀ q : Nat, f q = if (80 * a + p) * 6 ≤ q ∧ q < (80 * a + p) * 6 + 6 then A.2.2.2.2.2.2.2.2.1 (q - (80 * a + p) * 6) else B.1 q) (hr : mro (f, B.2.1, B.2.2.1, B.2.2.2.1, B.2.2.2.2.1, B.2.2.2.2.2.1, B.2.2.2.2.2.2.1, B.2.2.2.2.2.2.2.1, B.2.2.2.2.2.2.2.2.1, B.2.2.2.2.2.2.2.2.2.1, B.2.2.2.2.2.2.2.2.2.2) C (80 * a + p)) (hu : mws C (80 * a + p) ts) : mtb (C.1, upd C.2.1 a (nI (tab.length + 1)), C.2.2.1, C.2.2.2.1, C.2.2.2.2.1, C.2.2.2.2.2.1, C.2.2.2.2.2.2.1, C.2.2.2.2.2.2.2.1, C.2.2.2.2.2.2.2.2.1, C.2.2.2.2.2.2.2.2.2.1, C.2.2.2.2.2.2.2.2.2.2) a w (tab.take p ++ (rcl A.2.2.2.2.2.2.2.2.1 w, ts) :: tab.drop p) ∧ mto A (C.1, upd C.2.1 a (nI (tab.length + 1)), C.2.2.1, C.2.2.2.1, C.2.2.2.2.1, C.2.2.2.2.2.1, C.2.2.2.2.2.2.1, C.2.2.2.2.2.2.2.1, C.2.2.2.2.2.2.2.2.1, C.2.2.2.2.2.2.2.2.2.1, C.2.2.2.2.2.2.2.2.2.2) a := by
  obtain ⟨h1, h2, h3, h4, h5⟩ := h
  have hB : mto B (f, B.2.1, B.2.2.1, B.2.2.2.1, B.2.2.2.2.1, B.2.2.2.2.2.1, B.2.2.2.2.2.2.1, B.2.2.2.2.2.2.2.1, B.2.2.2.2.2.2.2.2.1, B.2.2.2.2.2.2.2.2.2.1, B.2.2.2.2.2.2.2.2.2.2) a := ⟨fun q hq => (hf q).trans (if_neg (by omega)), fun _ _ => rfl, rfl, fun _ _ => rfl, fun _ _ => ⟨rfl, rfl⟩, rfl⟩
  have hC : mto B C a := hB.tr (mto.ro hr (by omega) (by omega))
  have hD : mto C (C.1, upd C.2.1 a (nI (tab.length + 1)), C.2.2.1, C.2.2.2.1, C.2.2.2.2.1, C.2.2.2.2.2.1, C.2.2.2.2.2.2.1, C.2.2.2.2.2.2.2.1, C.2.2.2.2.2.2.2.2.1, C.2.2.2.2.2.2.2.2.2.1, C.2.2.2.2.2.2.2.2.2.2) a := ⟨fun _ _ => rfl, fun q hq => if_neg hq, rfl, fun _ _ => rfl, fun _ _ => ⟨rfl, rfl⟩, rfl⟩
  have ec : C.1 = f := hr.1
  have keep : ∀ (j : Nat) (r : arow), j ≠ p → mrw B a w j r → mrw C a w j r := fun j r hj H => by
    refine H.of hw (fun q q1 q2 => ?_) (fun H => hr.ws (by omega) H)
    rw [ec, hf q]
    exact if_neg (by omega)
  have el : (tab.take p ++ (rcl A.2.2.2.2.2.2.2.2.1 w, ts) :: tab.drop p).length = tab.length + 1 := by
    rw [List.length_append, List.length_cons, List.length_take, List.length_drop]
    omega
  refine ⟨⟨?_, fun j hj => ?_⟩, (h1.tr hC).tr hD⟩
  · rw [el]
    exact if_pos rfl
  · rw [el] at hj
    rw [ark_ins hp]
    show mrw C a w j _
    by_cases e : j < p
    · rw [if_pos e]
      exact keep j _ (by omega) (h4 j e)
    · rw [if_neg e]
      by_cases e2 : j = p
      · subst e2
        rw [if_pos rfl]
        refine ⟨rsg_eq (fun i _ hi => ?_), hu⟩
        show C.1 _ = _
        rw [ec, hf, if_pos (by omega)]
        exact congrArg A.2.2.2.2.2.2.2.2.1 (by omega)
      · rw [if_neg e2]
        exact keep j _ e2 (h5 j (by omega) (by omega))
theorem mfi_or (A : md_D) (a w : Nat) : ∀ (f t : Nat), (mfi A a w f t = -1 ∧ ∀ j : Nat, t ≤ j → j < t + f → mag A a w j ≠ 0) ∨ ∃ j : Nat, j < t + f ∧ mfi A a w f t = nI j ∧ mag A a w j = 0
  | 0, t => Or.inl ⟨rfl, fun j h1 h2 => by omega⟩
  | f + 1, t => by
    unfold mfi
    by_cases e : mag A a w t = 0
    · rw [if_pos e]
      exact Or.inr ⟨t, by omega, rfl, e⟩
    · rw [if_neg e]
      rcases mfi_or A a w f (t + 1) with ⟨h1, h2⟩ | ⟨j, h1, h2, h3⟩
      · refine Or.inl ⟨h1, fun j q1 q2 => ?_⟩
        by_cases e2 : j = t
        · rw [e2]
          exact e
        · exact h2 j (by omega) (by omega)
      · exact Or.inr ⟨j, by omega, h2, h3⟩
theorem mag_l (A : md_D) (a w t : Nat) : mag A a w t = lcm2 (rcl A.2.2.2.2.2.2.2.2.1 w) (rcl (mcl A a t) w) := tb_ord_l _ _ _ _
theorem afb_hit {w : Nat} {tab : List arow} {key : List Int32} {t : Nat} (h : aok w tab) (ht : t < tab.length) (e : (ark tab t).1 = key) : afb tab key = t + 1 := by
  have hle : afb tab key ≤ tab.length := tb_fb_le _ _
  have h1 : t < afb tab key := by
    refine Nat.lt_of_not_le (fun q => ?_)
    refine tb_fb_ge (fun j => lcm2 (ark tab j).1 key) tab.length t q ht ?_
    show lcm2 (ark tab t).1 key ≤ 0
    rw [e, lcm2_rf]
    decide +kernel
  refine Nat.le_antisymm (Nat.le_of_not_lt (fun q => ?_)) h1
  have h2 := tb_fb_lt (fun j => lcm2 (ark tab j).1 key) tab.length (show 0 < afb tab key by omega)
  have h2 : lcm2 (ark tab (afb tab key - 1)).1 key ≤ 0 := h2
  have h3 := (List.pairwise_iff_getElem.mp h.1) t (afb tab key - 1) ht (by omega) (by omega)
  rw [← ark_at ht, ← ark_at (show afb tab key - 1 < tab.length by omega), e] at h3
  rw [lcm2_sw.mp h3] at h2
  exact absurd h2 (by decide +kernel)
theorem aput_hit {w : Nat} {tab : List arow} {key : List Int32} {ts : List tT} {t : Nat} (h : aok w tab) (hts : ts ≠ []) (ht : t < tab.length) (e : (ark tab t).1 = key) : aput tab key ts = (wst ((ark tab t).2 ++ ts)).map (fun u => tab.set t (key, u)) := by
  unfold aput
  rw [afb_hit h ht e, if_neg hts, Nat.add_sub_cancel, if_pos ⟨by omega, by rw [e]; exact lcm2_rf key⟩]
theorem aput_new {w : Nat} {tab : List arow} {key : List Int32} {ts : List tT} (h : aok w tab) (hk : key.length = w) (hts : ts ≠ []) (hn : ∀ j : Nat, j < tab.length → (ark tab j).1 ≠ key) : aput tab key ts = if 80 ≤ tab.length then none else some (tab.take (afb tab key) ++ (key, ts) :: tab.drop (afb tab key)) := by
  have hle : afb tab key ≤ tab.length := tb_fb_le _ _
  unfold aput
  rw [if_neg hts, if_neg]
  intro q
  have hj : afb tab key - 1 < tab.length := by omega
  refine hn _ hj (lcm2_0 ?_ q.2)
  rw [ark_at hj, (h.2.1 _ (List.getElem_mem hj)).1, hk]

theorem fb_ge {x : Int32} {A B : List Int32} (e : x = lcm2 A B) (h : 0 ≤ x) : lcm2 B A ≤ 0 := by
  rw [lcm2_z]
  rcases lcm2_val B A with q | q | q
  · exact Or.inl q
  · rw [e, lcm2_sw.mpr q] at h
    exact absurd h (by decide +kernel)
  · exact Or.inr q
theorem fb_lt {x : Int32} {A B : List Int32} (e : x = lcm2 A B) (h : ¬ 0 ≤ x) : ¬ lcm2 B A ≤ 0 := by
  rcases lcm2_val A B with q | q | q
  · rw [e, q] at h
    exact absurd (by decide +kernel) h
  · rw [e, q] at h
    exact absurd (by decide +kernel) h
  · rw [lcm2_sw.mp q]
    decide +kernel

set_option maxHeartbeats 4000000 in
set_option maxRecDepth 100000 in
theorem cf_X8_comes (l : Launch) (D : va_G) (ids : Nat → ClassId) (H0 : Heap) (h : rl_H) (n : Nat) (m : Nat) (T : md_T) (fu : Int32) (k : Nat) (A : md_D) (S : md_A) (a b w : Nat) (tab : List arow) (ts : List tT) (hq : mf ids h h m T fu k A) (hs : md_sa ids h m S) (ha : a < 16) (hb16 : b < 1368) (hbo : b < 80 * a ∨ 80 * a + 80 ≤ b) (hw : S.2.2.2.2.2.2.2.2.2.2 a = nI w) (hw6 : w ≤ 6) (hfu : fu = nI 0) (htab : mtb A a w tab) (hok : aok w tab) (hb : mws A b ts) (hts : wok ts) : rl_Met l (rl_e D ids H0) rl_BW rl_Ns yX8_comes cX8_comes 6 none ({ frames := 3, cells := 0, slots := 0, locals := 73 }) [.ref m, .int (nI a), .int (nI b)] h n (fun v h' n' => ∃ (fu' : Int32) (k' : Nat) (A' : md_D), v = none ∧ n' = n ∧ mf ids h h' m T fu' k' A' ∧ mto A A' a ∧ ((∃ tab' : List arow, aput tab (rcl A.2.2.2.2.2.2.2.2.1 w) ts = some tab' ∧ fu' = nI 0 ∧ mtb A' a w tab') ∨ (aput tab (rcl A.2.2.2.2.2.2.2.2.1 w) ts = none ∧ fu' = nI 1))) := by
  obtain ⟨hm0, g12, g13, g14, g15, g16, g17, g18, g19, g20, g21, g22⟩ := id hq
  have g0 := hm0.1
  have gk := hm0.2.1
  have b13 := hq.b13
  have b15 := hq.b15
  have b21 := hq.b21
  obtain ⟨a1, a2, a3, a4, a5, a6, a7, a8, a9, a10, a11⟩ := id hs
  have lt80 := hok.2.2
  have ts12 := hb.2.1
  refine rl_Met.of (by decide +kernel) (Nat.le_of_ble_eq_true rfl) ?_
  intro X hC hB
  show rl_G X (rl_e D ids H0) 0 [some (.ref m), some (.int (nI a)), some (.int (nI b)), none, none, none] [] h n 0 0
  refine o_aload_n hC dX8_comes_0 (by rfl) ?_
  refine o_getf hC (fX8_91 hC rfl) dX8_comes_1 (by repeat (first | with_reducible assumption | (rw [rl_u_s]; done) | (rw [rl_u_s]; rfl) | rw [rl_u_n (by first | with_reducible assumption | omega)])) (by first | rfl | with_reducible assumption) ?_
  refine o_if_ne (tgt := 16) hC dX8_comes_4 (by decide) (fun c_4 => ?_) (fun c_4 => ?_)
  · refine o_vret hC hB dX8_comes_16 (Nat.le_of_ble_eq_true rfl) (Nat.le_of_ble_eq_true rfl) ?_
    first
    | exact absurd hfu c_4
    | exact ⟨_, _, _, rfl, rfl, hq, mto.rf, Or.inl ⟨tab, if_pos (List.eq_nil_of_length_eq_zero (nI_inj2 (by omega) (by omega) (by first | exact c_13 | exact Classical.not_not.mp c_13))), hfu, htab⟩⟩
  · refine o_aload_n hC dX8_comes_7 (by rfl) ?_
    refine o_getf hC (fX8_53 hC rfl) dX8_comes_8 (by repeat (first | with_reducible assumption | (rw [rl_u_s]; done) | (rw [rl_u_s]; rfl) | rw [rl_u_n (by first | with_reducible assumption | omega)])) (by first | rfl | with_reducible assumption) ?_
    refine o_iload_n hC dX8_comes_11 (by rfl) ?_
    refine o_ialdN (t0 := 0) (k := b) hC rfl dX8_comes_12 (by repeat (first | with_reducible assumption | (rw [rl_u_s]; done) | (rw [rl_u_s]; rfl) | rw [rl_u_n (by first | with_reducible assumption | omega)])) (by omega) (by decide) ?_
    rw [hb.1]
    refine o_if_ne (tgt := 17) hC dX8_comes_13 (by decide) (fun c_13 => ?_) (fun c_13 => ?_)
    · have hne : ts ≠ [] := fun e => c_13 (by rw [e]; rfl)
      refine o_aload_n hC dX8_comes_17 (by rfl) ?_
      refine o_iload_n hC dX8_comes_18 (by rfl) ?_
      refine o_callV1 hC rl_BW_good rl_Ns_nw (by exact hB.2.2.2.2.2) YX8_find IX8_find VX8_find (mX8_145 hC) (by rw [hB.1]; exact cf_X8_find l D ids H0 _ _ m T _ _ _ S a w tab.length hq hs (by omega) hw hw6 htab.1 hok.2.2) (by exact g0) rfl rfl (Nat.le_of_ble_eq_true rfl) (by rw [hB.2.1]; first | exact Nat.le_of_ble_eq_true rfl | (dsimp only; omega)) (by rw [hB.2.1]; first | exact Nat.le_of_ble_eq_true rfl | (dsimp only; omega)) (by rw [hB.2.1]; first | exact Nat.le_of_ble_eq_true rfl | (dsimp only; omega)) (by rw [hB.2.1]; first | exact Nat.le_of_ble_eq_true rfl | (dsimp only; omega)) dX8_comes_19 (fun v h_19 n_19 p_19 => ?_)
      obtain ⟨rfl, rfl, rfl⟩ := p_19
      try dsimp only [Option.toList, List.cons_append, List.nil_append]
      have hfo := mfi_or A a w tab.length 0
      generalize mfi A a w tab.length 0 = r19 at hfo ⊢
      rcases hfo with ⟨rfl, hno⟩ | ⟨t, ht, rfl, hmt⟩
      · try dsimp only [Option.toList, List.cons_append, List.nil_append]
        have hkn : ∀ j : Nat, j < tab.length → (ark tab j).1 ≠ (rcl A.2.2.2.2.2.2.2.2.1 w) := by
          intro j hj e
          refine hno j (by omega) (by omega) ?_
          rw [mag_l, (htab.2 j hj).1, e]
          exact lcm2_rf _
        have hnew0 := aput_new hok (rsg_len _ 0 w) hne hkn
        refine o_istore_n hC dX8_comes_22 (Nat.le_of_ble_eq_true rfl) ?_
        refine o_iload_n hC dX8_comes_23 (by rfl) ?_
        refine o_iconst (v := (-1 : Int32)) hC dX8_comes_24 (by decide +kernel) ?_
        refine o_icmp_eq (tgt := 46) hC dX8_comes_25 (by decide) (fun c_25 => ?_) (fun c_25 => ?_)
        · refine o_aload_n hC dX8_comes_46 (by rfl) ?_
          refine o_getf hC (fX8_46 hC rfl) dX8_comes_47 (by repeat (first | with_reducible assumption | (rw [rl_u_s]; done) | (rw [rl_u_s]; rfl) | rw [rl_u_n (by first | with_reducible assumption | omega)])) (by first | rfl | with_reducible assumption) ?_
          refine o_iload_n hC dX8_comes_50 (by rfl) ?_
          refine o_ialdN (t0 := 0) (k := a) hC rfl dX8_comes_51 (by repeat (first | with_reducible assumption | (rw [rl_u_s]; done) | (rw [rl_u_s]; rfl) | rw [rl_u_n (by first | with_reducible assumption | omega)])) (by omega) (by decide) ?_
          rw [htab.1]
          refine o_bipush (v := nI 80) hC dX8_comes_52 (by decide +kernel) ?_
          refine o_icmp_ne (tgt := 63) hC dX8_comes_54 (by decide) (fun c_54 => ?_) (fun c_54 => ?_)
          · have t80 : tab.length ≠ 80 := fun e => c_54 (by rw [e])
            have htl : tab.length < 80 := by omega
            have hnew := hnew0
            rw [if_neg (by omega)] at hnew
            refine o_aload_n hC dX8_comes_63 (by rfl) ?_
            refine o_getf hC (fX8_46 hC rfl) dX8_comes_64 (by repeat (first | with_reducible assumption | (rw [rl_u_s]; done) | (rw [rl_u_s]; rfl) | rw [rl_u_n (by first | with_reducible assumption | omega)])) (by first | rfl | with_reducible assumption) ?_
            refine o_iload_n hC dX8_comes_67 (by rfl) ?_
            refine o_ialdN (t0 := 0) (k := a) hC rfl dX8_comes_68 (by repeat (first | with_reducible assumption | (rw [rl_u_s]; done) | (rw [rl_u_s]; rfl) | rw [rl_u_n (by first | with_reducible assumption | omega)])) (by omega) (by decide) ?_
            rw [htab.1]
            refine o_istore hC dX8_comes_69 (Nat.le_of_ble_eq_true rfl) ?_
            have loopD : ∀ (mm c p : Nat) (h1 : rl_H) (A0 : md_D) (c1 : Nat → Int32) (o3 : Option Value), c + mm = 6 → p ≤ tab.length → mcs A A0 a b w p tab ts → aput tab (rcl A.2.2.2.2.2.2.2.2.1 w) ts = some (tab.take p ++ ((rcl A.2.2.2.2.2.2.2.2.1 w), ts) :: tab.drop p) → mf ids h_19 h1 m T fu k (c1, A0.2.1, A0.2.2.1, A0.2.2.2.1, A0.2.2.2.2.1, A0.2.2.2.2.2.1, A0.2.2.2.2.2.2.1, A0.2.2.2.2.2.2.2.1, A0.2.2.2.2.2.2.2.2.1, A0.2.2.2.2.2.2.2.2.2.1, A0.2.2.2.2.2.2.2.2.2.2) → (∀ q : Nat, c1 q = if (80 * a + p) * 6 ≤ q ∧ q < (80 * a + p) * 6 + c then A.2.2.2.2.2.2.2.2.1 (q - (80 * a + p) * 6) else A0.1 q) → rl_G X (rl_e D ids H0) 171 [some (.ref m), some (.int (nI a)), some (.int (nI b)), o3, some (.int (nI p)), some (.int (nI c))] [] h1 n_19 0 0 := by
              intro mm
              induction mm with
              | zero =>
                intro c p h1 A0 c1 o3 hm hp hI hap hq1 hc1
                have ec : c = 6 := by omega
                subst ec
                obtain ⟨hm0, g12, g13, g14, g15, g16, g17, g18, g19, g20, g21, g22⟩ := id hq1
                have g0 := hm0.1
                have gk := hm0.2.1
                refine o_iload hC dX8_comes_171 (by rfl) ?_
                refine o_bipush (v := nI 6) hC dX8_comes_173 (by decide +kernel) ?_
                refine o_icmp_ge (tgt := 209) hC dX8_comes_175 (by decide) (fun c_175 => ?_) (fun c_175 => ?_)
                · refine o_aload_n hC dX8_comes_209 (by rfl) ?_
                  refine o_bipush (v := nI 80) hC dX8_comes_210 (by decide +kernel) ?_
                  refine o_iload_n hC dX8_comes_212 (by rfl) ?_
                  refine o_imul hC dX8_comes_213 ?_
                  try rw [nI_mul]
                  refine o_iload hC dX8_comes_214 (by rfl) ?_
                  refine o_iadd hC dX8_comes_216 ?_
                  try rw [nI_add]
                  refine o_iload_n hC dX8_comes_217 (by rfl) ?_
                  refine o_callV2 hC rl_BW_good rl_Ns_nw (by exact hB.2.2.2.2.2) YX8_copy IX8_copy VX8_copy (mX8_153 hC) (by rw [hB.1]; exact cf_X8_copy l D ids H0 _ _ m T _ _ _ (80 * a + p) b ts hq1.rf (by omega) (by omega) (by omega) hI.2.2.1) (by exact hq1.1.1) rfl rfl (Nat.le_of_ble_eq_true rfl) (by rw [hB.2.1]; first | exact Nat.le_of_ble_eq_true rfl | (dsimp only; omega)) (by rw [hB.2.1]; first | exact Nat.le_of_ble_eq_true rfl | (dsimp only; omega)) (by rw [hB.2.1]; first | exact Nat.le_of_ble_eq_true rfl | (dsimp only; omega)) (by rw [hB.2.1]; first | exact Nat.le_of_ble_eq_true rfl | (dsimp only; omega)) dX8_comes_218 (fun v h_218 n_218 p_218 => ?_)
                  obtain ⟨A3, rfl, rfl, q218, r218, u218⟩ := p_218
                  have gb218 := q218.1.1
                  try dsimp only [Option.toList, List.cons_append, List.nil_append]
                  refine o_aload_n hC dX8_comes_221 (by rfl) ?_
                  refine o_getf hC (fX8_46 hC rfl) dX8_comes_222 (by repeat (first | with_reducible assumption | (rw [rl_u_s]; done) | (rw [rl_u_s]; rfl) | rw [rl_u_n (by first | with_reducible assumption | omega)])) (by first | rfl | with_reducible assumption) ?_
                  refine o_iload_n hC dX8_comes_225 (by rfl) ?_
                  refine o_dup2 hC dX8_comes_226 rfl rfl ?_
                  obtain ⟨-, k12, k13, k14, k15, k16, k17, k18, k19, k20, k21, k22⟩ := id q218
                  refine o_ialdN (t0 := 0) (k := a) hC rfl dX8_comes_227 (by repeat (first | with_reducible assumption | (rw [rl_u_s]; done) | (rw [rl_u_s]; rfl) | rw [rl_u_n (by first | with_reducible assumption | omega)])) (by omega) (by decide) ?_
                  rw [(show A3.2.1 a = nI tab.length from (congrFun r218.2.1 a).trans hI.2.1)]
                  refine o_iconst (v := nI 1) hC dX8_comes_228 (by decide +kernel) ?_
                  refine o_iadd hC dX8_comes_229 ?_
                  try rw [nI_add]
                  refine o_iastN (t0 := 0) (k := a) hC rfl dX8_comes_230 (by repeat (first | with_reducible assumption | (rw [rl_u_s]; done) | (rw [rl_u_s]; rfl) | rw [rl_u_n (by first | with_reducible assumption | omega)])) (by omega) (by decide) ?_
                  refine o_vret hC hB dX8_comes_231 (Nat.le_of_ble_eq_true rfl) (Nat.le_of_ble_eq_true rfl) ?_
                  obtain ⟨e1, e2⟩ := mcs.en hw6 htl hp hI hc1 r218 u218
                  exact ⟨_, _, _, rfl, rfl, (hq1.tr q218).s13 _ (md_bd q218.b13 ⟨tab.length + 1, by omega, rfl⟩), e2, Or.inl ⟨_, hap, hfu, e1⟩⟩
                · exact absurd (nI_le (by omega) (by omega)) c_175
              | succ mm ih =>
                intro c p h1 A0 c1 o3 hm hp hI hap hq1 hc1
                obtain ⟨hm0, g12, g13, g14, g15, g16, g17, g18, g19, g20, g21, g22⟩ := id hq1
                have g0 := hm0.1
                have gk := hm0.2.1
                refine o_iload hC dX8_comes_171 (by rfl) ?_
                refine o_bipush (v := nI 6) hC dX8_comes_173 (by decide +kernel) ?_
                refine o_icmp_ge (tgt := 209) hC dX8_comes_175 (by decide) (fun c_175 => ?_) (fun c_175 => ?_)
                · exact absurd c_175 (nI_ge (by omega) (by omega))
                · refine o_aload_n hC dX8_comes_178 (by rfl) ?_
                  refine o_getf hC (fX8_43 hC rfl) dX8_comes_179 (by repeat (first | with_reducible assumption | (rw [rl_u_s]; done) | (rw [rl_u_s]; rfl) | rw [rl_u_n (by first | with_reducible assumption | omega)])) (by first | rfl | with_reducible assumption) ?_
                  refine o_bipush (v := nI 80) hC dX8_comes_182 (by decide +kernel) ?_
                  refine o_iload_n hC dX8_comes_184 (by rfl) ?_
                  refine o_imul hC dX8_comes_185 ?_
                  try rw [nI_mul]
                  refine o_iload hC dX8_comes_186 (by rfl) ?_
                  refine o_iadd hC dX8_comes_188 ?_
                  try rw [nI_add]
                  refine o_bipush (v := nI 6) hC dX8_comes_189 (by decide +kernel) ?_
                  refine o_imul hC dX8_comes_191 ?_
                  try rw [nI_mul]
                  refine o_iload hC dX8_comes_192 (by rfl) ?_
                  refine o_iadd hC dX8_comes_194 ?_
                  try rw [nI_add]
                  refine o_aload_n hC dX8_comes_195 (by rfl) ?_
                  refine o_getf hC (fX8_69 hC rfl) dX8_comes_196 (by repeat (first | with_reducible assumption | (rw [rl_u_s]; done) | (rw [rl_u_s]; rfl) | rw [rl_u_n (by first | with_reducible assumption | omega)])) (by first | rfl | with_reducible assumption) ?_
                  refine o_iload hC dX8_comes_199 (by rfl) ?_
                  refine o_ialdN (t0 := 0) hC rfl dX8_comes_201 (by repeat (first | with_reducible assumption | (rw [rl_u_s]; done) | (rw [rl_u_s]; rfl) | rw [rl_u_n (by first | with_reducible assumption | omega)])) (by omega) (by decide) ?_
                  refine o_iastN (t0 := 0) hC rfl dX8_comes_202 (by repeat (first | with_reducible assumption | (rw [rl_u_s]; done) | (rw [rl_u_s]; rfl) | rw [rl_u_n (by first | with_reducible assumption | omega)])) (by omega) (by decide) ?_
                  refine o_iinc hC dX8_comes_203 (by rfl) (rl_inc _) (Nat.le_of_ble_eq_true rfl) ?_
                  refine o_goto (tgt := 171) hC dX8_comes_206 (by decide) ?_
                  refine ih (c + 1) p _ A0 _ _ (by omega) hp hI hap (hq1.s12 _) (fun q => ?_)
                  by_cases e : q = (80 * a + p) * 6 + c
                  · subst e
                    rw [if_pos (by omega), show (80 * a + p) * 6 + c - (80 * a + p) * 6 = c by omega]
                    refine (if_pos rfl).trans ?_
                    exact congrFun (congrArg Prod.fst hI.1.2.2.2.2.2) c
                  · refine (if_neg e).trans ((hc1 q).trans ?_)
                    by_cases e2 : (80 * a + p) * 6 ≤ q ∧ q < (80 * a + p) * 6 + c
                    · rw [if_pos e2, if_pos (by omega)]
                    · rw [if_neg e2, if_neg (by omega)]
            have loopP : ∀ (p : Nat) (h1 : rl_H) (A1 : md_D) (o3 o5 : Option Value), p ≤ tab.length → mcs A A1 a b w p tab ts → afb tab (rcl A.2.2.2.2.2.2.2.2.1 w) = tb_fb (fun j => lcm2 (ark tab j).1 (rcl A.2.2.2.2.2.2.2.2.1 w)) p → mf ids h_19 h1 m T fu k A1 → rl_G X (rl_e D ids H0) 71 [some (.ref m), some (.int (nI a)), some (.int (nI b)), o3, some (.int (nI p)), o5] [] h1 n_19 0 0 := by
              intro p
              induction p with
              | zero =>
                intro h1 A1 o3 o5 hp hI hfb hq1
                refine o_iload hC dX8_comes_71 (by rfl) ?_
                refine o_if_le (tgt := 168) hC dX8_comes_73 (by decide) (fun c_73 => ?_) (fun c_73 => ?_)
                · refine o_iconst (v := nI 0) hC dX8_comes_168 (by decide +kernel) ?_
                  refine o_istore hC dX8_comes_169 (Nat.le_of_ble_eq_true rfl) ?_
                  exact loopD 6 0 0 _ A1 A1.1 _ (by omega) (by omega) hI (by rw [hnew, show afb tab (rcl A.2.2.2.2.2.2.2.2.1 w) = 0 from hfb]) hq1 (fun q => (if_neg (by omega)).symm)
                · exact absurd (by decide +kernel) c_73
              | succ p ihp =>
                intro h1 A1 o3 o5 hp hI hfb hq1
                have loopC : ∀ (mm c : Nat) (h2 : rl_H) (c2 : Nat → Int32), c + mm = 6 → afb tab (rcl A.2.2.2.2.2.2.2.2.1 w) = tb_fb (fun j => lcm2 (ark tab j).1 (rcl A.2.2.2.2.2.2.2.2.1 w)) p → mf ids h_19 h2 m T fu k (c2, A1.2.1, A1.2.2.1, A1.2.2.2.1, A1.2.2.2.2.1, A1.2.2.2.2.2.1, A1.2.2.2.2.2.2.1, A1.2.2.2.2.2.2.2.1, A1.2.2.2.2.2.2.2.2.1, A1.2.2.2.2.2.2.2.2.2.1, A1.2.2.2.2.2.2.2.2.2.2) → (∀ q : Nat, c2 q = if (80 * a + (p + 1)) * 6 ≤ q ∧ q < (80 * a + (p + 1)) * 6 + c then A1.1 (q - 6) else A1.1 q) → rl_G X (rl_e D ids H0) 91 [some (.ref m), some (.int (nI a)), some (.int (nI b)), o3, some (.int (nI (p + 1))), some (.int (nI c))] [] h2 n_19 0 0 := by
                  intro mm
                  induction mm with
                  | zero =>
                    intro c h2 c2 hm hfb2 hq2 hc2
                    have ec : c = 6 := by omega
                    subst ec
                    obtain ⟨hm0, g12, g13, g14, g15, g16, g17, g18, g19, g20, g21, g22⟩ := id hq2
                    have g0 := hm0.1
                    have gk := hm0.2.1
                    refine o_iload hC dX8_comes_91 (by rfl) ?_
                    refine o_bipush (v := nI 6) hC dX8_comes_93 (by decide +kernel) ?_
                    refine o_icmp_ge (tgt := 142) hC dX8_comes_95 (by decide) (fun c_95 => ?_) (fun c_95 => ?_)
                    · refine o_aload_n hC dX8_comes_142 (by rfl) ?_
                      refine o_bipush (v := nI 80) hC dX8_comes_143 (by decide +kernel) ?_
                      refine o_iload_n hC dX8_comes_145 (by rfl) ?_
                      refine o_imul hC dX8_comes_146 ?_
                      try rw [nI_mul]
                      refine o_iload hC dX8_comes_147 (by rfl) ?_
                      refine o_iadd hC dX8_comes_149 ?_
                      try rw [nI_add]
                      refine o_bipush (v := nI 80) hC dX8_comes_150 (by decide +kernel) ?_
                      refine o_iload_n hC dX8_comes_152 (by rfl) ?_
                      refine o_imul hC dX8_comes_153 ?_
                      try rw [nI_mul]
                      refine o_iload hC dX8_comes_154 (by rfl) ?_
                      refine o_iadd hC dX8_comes_156 ?_
                      try rw [nI_add]
                      refine o_iconst (v := nI 1) hC dX8_comes_157 (by decide +kernel) ?_
                      refine o_isub hC dX8_comes_158 ?_
                      rw [show nI (80 * a + (p + 1)) - nI 1 = nI (80 * a + p) from rl_pred _]
                      refine o_callV2 hC rl_BW_good rl_Ns_nw (by exact hB.2.2.2.2.2) YX8_copy IX8_copy VX8_copy (mX8_153 hC) (by rw [hB.1]; exact cf_X8_copy l D ids H0 _ _ m T _ _ _ (80 * a + (p + 1)) (80 * a + p) _ hq2.rf (by omega) (by omega) (by omega) (hI.2.2.2.1 p (by omega)).2) (by exact hq2.1.1) rfl rfl (Nat.le_of_ble_eq_true rfl) (by rw [hB.2.1]; first | exact Nat.le_of_ble_eq_true rfl | (dsimp only; omega)) (by rw [hB.2.1]; first | exact Nat.le_of_ble_eq_true rfl | (dsimp only; omega)) (by rw [hB.2.1]; first | exact Nat.le_of_ble_eq_true rfl | (dsimp only; omega)) (by rw [hB.2.1]; first | exact Nat.le_of_ble_eq_true rfl | (dsimp only; omega)) dX8_comes_159 (fun v h_159 n_159 p_159 => ?_)
                      obtain ⟨A3, rfl, rfl, q159, r159, u159⟩ := p_159
                      have gb159 := q159.1.1
                      try dsimp only [Option.toList, List.cons_append, List.nil_append]
                      refine o_iinc hC dX8_comes_162 (by rfl) (rl_dec _) (Nat.le_of_ble_eq_true rfl) ?_
                      refine o_goto (tgt := 71) hC dX8_comes_165 (by decide) ?_
                      exact ihp _ A3 _ _ (by omega) (mcs.st hw6 htl (by omega) hbo hI hc2 r159 u159) hfb2 (hq2.tr q159)
                    · exact absurd (nI_le (by omega) (by omega)) c_95
                  | succ mm ih =>
                    intro c h2 c2 hm hfb2 hq2 hc2
                    obtain ⟨hm0, g12, g13, g14, g15, g16, g17, g18, g19, g20, g21, g22⟩ := id hq2
                    have g0 := hm0.1
                    have gk := hm0.2.1
                    refine o_iload hC dX8_comes_91 (by rfl) ?_
                    refine o_bipush (v := nI 6) hC dX8_comes_93 (by decide +kernel) ?_
                    refine o_icmp_ge (tgt := 142) hC dX8_comes_95 (by decide) (fun c_95 => ?_) (fun c_95 => ?_)
                    · exact absurd c_95 (nI_ge (by omega) (by omega))
                    · refine o_aload_n hC dX8_comes_98 (by rfl) ?_
                      refine o_getf hC (fX8_43 hC rfl) dX8_comes_99 (by repeat (first | with_reducible assumption | (rw [rl_u_s]; done) | (rw [rl_u_s]; rfl) | rw [rl_u_n (by first | with_reducible assumption | omega)])) (by first | rfl | with_reducible assumption) ?_
                      refine o_bipush (v := nI 80) hC dX8_comes_102 (by decide +kernel) ?_
                      refine o_iload_n hC dX8_comes_104 (by rfl) ?_
                      refine o_imul hC dX8_comes_105 ?_
                      try rw [nI_mul]
                      refine o_iload hC dX8_comes_106 (by rfl) ?_
                      refine o_iadd hC dX8_comes_108 ?_
                      try rw [nI_add]
                      refine o_bipush (v := nI 6) hC dX8_comes_109 (by decide +kernel) ?_
                      refine o_imul hC dX8_comes_111 ?_
                      try rw [nI_mul]
                      refine o_iload hC dX8_comes_112 (by rfl) ?_
                      refine o_iadd hC dX8_comes_114 ?_
                      try rw [nI_add]
                      refine o_aload_n hC dX8_comes_115 (by rfl) ?_
                      refine o_getf hC (fX8_43 hC rfl) dX8_comes_116 (by repeat (first | with_reducible assumption | (rw [rl_u_s]; done) | (rw [rl_u_s]; rfl) | rw [rl_u_n (by first | with_reducible assumption | omega)])) (by first | rfl | with_reducible assumption) ?_
                      refine o_bipush (v := nI 80) hC dX8_comes_119 (by decide +kernel) ?_
                      refine o_iload_n hC dX8_comes_121 (by rfl) ?_
                      refine o_imul hC dX8_comes_122 ?_
                      try rw [nI_mul]
                      refine o_iload hC dX8_comes_123 (by rfl) ?_
                      refine o_iadd hC dX8_comes_125 ?_
                      try rw [nI_add]
                      refine o_iconst (v := nI 1) hC dX8_comes_126 (by decide +kernel) ?_
                      refine o_isub hC dX8_comes_127 ?_
                      rw [show nI (80 * a + (p + 1)) - nI 1 = nI (80 * a + p) from rl_pred _]
                      refine o_bipush (v := nI 6) hC dX8_comes_128 (by decide +kernel) ?_
                      refine o_imul hC dX8_comes_130 ?_
                      try rw [nI_mul]
                      refine o_iload hC dX8_comes_131 (by rfl) ?_
                      refine o_iadd hC dX8_comes_133 ?_
                      try rw [nI_add]
                      refine o_ialdN (t0 := 0) hC rfl dX8_comes_134 (by repeat (first | with_reducible assumption | (rw [rl_u_s]; done) | (rw [rl_u_s]; rfl) | rw [rl_u_n (by first | with_reducible assumption | omega)])) (by omega) (by decide) ?_
                      refine o_iastN (t0 := 0) hC rfl dX8_comes_135 (by repeat (first | with_reducible assumption | (rw [rl_u_s]; done) | (rw [rl_u_s]; rfl) | rw [rl_u_n (by first | with_reducible assumption | omega)])) (by omega) (by decide) ?_
                      refine o_iinc hC dX8_comes_136 (by rfl) (rl_inc _) (Nat.le_of_ble_eq_true rfl) ?_
                      refine o_goto (tgt := 91) hC dX8_comes_139 (by decide) ?_
                      refine ih (c + 1) _ _ (by omega) hfb2 (hq2.s12 _) (fun q => ?_)
                      by_cases e : q = (80 * a + (p + 1)) * 6 + c
                      · subst e
                        rw [if_pos (by omega), show (80 * a + (p + 1)) * 6 + c - 6 = (80 * a + p) * 6 + c by omega]
                        refine (if_pos rfl).trans ((hc2 _).trans ?_)
                        exact if_neg (by omega)
                      · refine (if_neg e).trans ((hc2 q).trans ?_)
                        by_cases e2 : (80 * a + (p + 1)) * 6 ≤ q ∧ q < (80 * a + (p + 1)) * 6 + c
                        · rw [if_pos e2, if_pos (by omega)]
                        · rw [if_neg e2, if_neg (by omega)]
                have hs1 := hq1.1.sa hs
                have em : mag A1 a w p = lcm2 (rcl A.2.2.2.2.2.2.2.2.1 w) (ark tab p).1 := by
                  rw [mag_l, (hI.2.2.2.1 p (by omega)).1, congrArg Prod.fst hI.1.2.2.2.2.2]
                obtain ⟨hm0, g12, g13, g14, g15, g16, g17, g18, g19, g20, g21, g22⟩ := id hq1
                have g0 := hm0.1
                have gk := hm0.2.1
                refine o_iload hC dX8_comes_71 (by rfl) ?_
                refine o_if_le (tgt := 168) hC dX8_comes_73 (by decide) (fun c_73 => ?_) (fun c_73 => ?_)
                · refine o_iconst (v := nI 0) hC dX8_comes_168 (by decide +kernel) ?_
                  refine o_istore hC dX8_comes_169 (Nat.le_of_ble_eq_true rfl) ?_
                  first
                  | exact absurd (show nI (p + 1) ≤ nI 0 from c_73) (nI_ge (by omega) (by omega))
                  | exact loopD 6 0 (p + 1) _ A1 A1.1 _ (by omega) (by omega) hI (by rw [hnew, show afb tab (rcl A.2.2.2.2.2.2.2.2.1 w) = p + 1 from by rw [hfb, tb_fb, if_pos (fb_ge em c_85)]]) hq1 (fun q => (if_neg (by omega)).symm)
                · refine o_aload_n hC dX8_comes_76 (by rfl) ?_
                  refine o_iload_n hC dX8_comes_77 (by rfl) ?_
                  refine o_iload hC dX8_comes_78 (by rfl) ?_
                  refine o_iconst (v := nI 1) hC dX8_comes_80 (by decide +kernel) ?_
                  refine o_isub hC dX8_comes_81 ?_
                  rw [show nI ((p + 1)) - nI 1 = nI (p) from rl_pred _]
                  refine o_callV2 hC rl_BW_good rl_Ns_nw (by exact hB.2.2.2.2.2) YX8_against IX8_against VX8_against (mX8_141 hC) (by rw [hB.1]; exact cf_X8_against l D ids H0 _ _ m T _ _ _ S a p w hq1.rf hs1 (by omega) (by omega) hw hw6) (by exact hq1.rf.1.1) rfl rfl (Nat.le_of_ble_eq_true rfl) (by rw [hB.2.1]; first | exact Nat.le_of_ble_eq_true rfl | (dsimp only; omega)) (by rw [hB.2.1]; first | exact Nat.le_of_ble_eq_true rfl | (dsimp only; omega)) (by rw [hB.2.1]; first | exact Nat.le_of_ble_eq_true rfl | (dsimp only; omega)) (by rw [hB.2.1]; first | exact Nat.le_of_ble_eq_true rfl | (dsimp only; omega)) dX8_comes_82 (fun v h_82 n_82 p_82 => ?_)
                  obtain ⟨rfl, rfl, rfl⟩ := p_82
                  try dsimp only [Option.toList, List.cons_append, List.nil_append]
                  refine o_if_ge (tgt := 168) hC dX8_comes_85 (by decide) (fun c_85 => ?_) (fun c_85 => ?_)
                  · refine o_iconst (v := nI 0) hC dX8_comes_168 (by decide +kernel) ?_
                    refine o_istore hC dX8_comes_169 (Nat.le_of_ble_eq_true rfl) ?_
                    first
                    | exact absurd (show nI (p + 1) ≤ nI 0 from c_73) (nI_ge (by omega) (by omega))
                    | exact loopD 6 0 (p + 1) _ A1 A1.1 _ (by omega) (by omega) hI (by rw [hnew, show afb tab (rcl A.2.2.2.2.2.2.2.2.1 w) = p + 1 from by rw [hfb, tb_fb, if_pos (fb_ge em c_85)]]) hq1 (fun q => (if_neg (by omega)).symm)
                  · refine o_iconst (v := nI 0) hC dX8_comes_88 (by decide +kernel) ?_
                    refine o_istore hC dX8_comes_89 (Nat.le_of_ble_eq_true rfl) ?_
                    exact loopC 6 0 _ A1.1 (by omega) (by rw [hfb, tb_fb, if_neg (fb_lt em c_85)]) hq1 (fun q => (if_neg (by omega)).symm)
            exact loopP tab.length _ A _ _ (by omega) ⟨mto.rf, htab.1, hb, htab.2, fun j h1 h2 => absurd h1 (by omega)⟩ rfl hq
          · refine o_aload_n hC dX8_comes_57 (by rfl) ?_
            refine o_iconst (v := nI 1) hC dX8_comes_58 (by decide +kernel) ?_
            refine o_putf hC (fX8_91 hC rfl) (fwX8 rfl rfl rfl (Or.inl rfl)) dX8_comes_59 (by repeat (first | with_reducible assumption | (rw [rl_u_s]; done) | (rw [rl_u_s]; rfl) | rw [rl_u_n (by first | with_reducible assumption | omega)])) (Nat.le_of_ble_eq_true rfl) ?_
            try simp only [List.set_cons_zero, List.set_cons_succ]
            refine o_vret hC hB dX8_comes_62 (Nat.le_of_ble_eq_true rfl) (Nat.le_of_ble_eq_true rfl) ?_
            have e80 : tab.length = 80 := nI_inj2 (by omega) (by omega) (by first | exact c_54 | exact Classical.not_not.mp c_54)
            exact ⟨_, _, _, rfl, rfl, hq.ob T (nI 1) k gk, mto.rf, Or.inr ⟨by rw [hnew0, if_pos (by omega)], rfl⟩⟩
        · exact absurd rfl c_25
      · try dsimp only [Option.toList, List.cons_append, List.nil_append]
        have hkt : (ark tab t).1 = (rcl A.2.2.2.2.2.2.2.2.1 w) := by
          rw [mag_l, (htab.2 t (by omega)).1] at hmt
          exact (lcm2_0 (by rw [← (htab.2 t (by omega)).1, rsg_len, rsg_len]) hmt).symm
        have hht := aput_hit hok hne (show t < tab.length by omega) hkt
        have hrt := hok.2.1 _ (List.getElem_mem (show t < tab.length by omega))
        rw [← ark_at] at hrt
        refine o_istore_n hC dX8_comes_22 (Nat.le_of_ble_eq_true rfl) ?_
        refine o_iload_n hC dX8_comes_23 (by rfl) ?_
        refine o_iconst (v := (-1 : Int32)) hC dX8_comes_24 (by decide +kernel) ?_
        refine o_icmp_eq (tgt := 46) hC dX8_comes_25 (by decide) (fun c_25 => ?_) (fun c_25 => ?_)
        · exact absurd c_25 (fun e => absurd (e ▸ (show (-1 : Int32) < 0 by decide +kernel)) (nI_pos (by omega)))
        · refine o_aload_n hC dX8_comes_28 (by rfl) ?_
          refine o_bipush (v := nI 80) hC dX8_comes_29 (by decide +kernel) ?_
          refine o_iload_n hC dX8_comes_31 (by rfl) ?_
          refine o_imul hC dX8_comes_32 ?_
          try rw [nI_mul]
          refine o_iload_n hC dX8_comes_33 (by rfl) ?_
          refine o_iadd hC dX8_comes_34 ?_
          try rw [nI_add]
          refine o_bipush (v := nI 80) hC dX8_comes_35 (by decide +kernel) ?_
          refine o_iload_n hC dX8_comes_37 (by rfl) ?_
          refine o_imul hC dX8_comes_38 ?_
          try rw [nI_mul]
          refine o_iload_n hC dX8_comes_39 (by rfl) ?_
          refine o_iadd hC dX8_comes_40 ?_
          try rw [nI_add]
          refine o_iload_n hC dX8_comes_41 (by rfl) ?_
          refine o_callV3 hC rl_BW_good rl_Ns_nw (by exact hB.2.2.2.2.2) YX8_either IX8_either VX8_either (mX8_149 hC) (by rw [hB.1]; exact cf_X8_either l D ids H0 _ _ m T _ _ _ (80 * a + t) (80 * a + t) b (ark tab t).2 ts hq (by omega) (by omega) (by omega) (htab.2 t (by omega)).2 hb (fun e he => (List.mem_append.mp he).elim (hrt.2.1.2.1 e) (hts.2.1 e))) (by exact g0) rfl rfl (Nat.le_of_ble_eq_true rfl) (by rw [hB.2.1]; first | exact Nat.le_of_ble_eq_true rfl | (dsimp only; omega)) (by rw [hB.2.1]; first | exact Nat.le_of_ble_eq_true rfl | (dsimp only; omega)) (by rw [hB.2.1]; first | exact Nat.le_of_ble_eq_true rfl | (dsimp only; omega)) (by rw [hB.2.1]; first | exact Nat.le_of_ble_eq_true rfl | (dsimp only; omega)) dX8_comes_42 (fun v h_42 n_42 p_42 => ?_)
          obtain ⟨f9, k9, A9, rfl, rfl, q9, r9, w9⟩ := p_42
          try dsimp only [Option.toList, List.cons_append, List.nil_append]
          refine o_vret hC hB dX8_comes_45 (Nat.le_of_ble_eq_true rfl) (Nat.le_of_ble_eq_true rfl) ?_
          refine ⟨f9, k9, A9, rfl, rfl, q9, mto.ro r9 (by omega) (by omega), ?_⟩
          rcases w9 with ⟨L, h3, h4, h5⟩ | ⟨h3, h4, h5⟩
          · refine Or.inl ⟨tab.set t ((rcl A.2.2.2.2.2.2.2.2.1 w), L), by rw [hht, h3]; rfl, h4.trans hfu, ?_⟩
            refine ⟨by rw [List.length_set, r9.2.1]; exact htab.1, fun j hj => ?_⟩
            rw [List.length_set] at hj
            by_cases e : j = t
            · subst e
              rw [show ark (tab.set j ((rcl A.2.2.2.2.2.2.2.2.1 w), L)) j = ((rcl A.2.2.2.2.2.2.2.2.1 w), L) by unfold ark; rw [List.getD_eq_getElem?_getD, List.getElem?_set_self hj]; rfl]
              refine ⟨?_, h5⟩
              rw [← hkt, ← (htab.2 j hj).1]
              exact rsg_eq (fun i _ _ => congrFun r9.1 _)
            · rw [show ark (tab.set t ((rcl A.2.2.2.2.2.2.2.2.1 w), L)) j = ark tab j by unfold ark; rw [List.getD_eq_getElem?_getD, List.getD_eq_getElem?_getD, List.getElem?_set_ne (by omega)]]
              exact (htab.2 j hj).ro hw6 r9 (by omega)
          · exact Or.inr ⟨by rw [hht, h3]; rfl, h4⟩
    · refine o_vret hC hB dX8_comes_16 (Nat.le_of_ble_eq_true rfl) (Nat.le_of_ble_eq_true rfl) ?_
      first
      | exact absurd hfu c_4
      | exact ⟨_, _, _, rfl, rfl, hq, mto.rf, Or.inl ⟨tab, if_pos (List.eq_nil_of_length_eq_zero (nI_inj2 (by omega) (by omega) (by first | exact c_13 | exact Classical.not_not.mp c_13))), hfu, htab⟩⟩
