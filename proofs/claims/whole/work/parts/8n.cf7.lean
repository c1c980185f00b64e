/-! THE CLASS, functionally: what looks at THE RESULT -/
/-- the first TERM that holds -/
def wfh (x : Int64) : List tT → Nat → Int32
  | [], _ => -1
  | t :: L, j => if t.1 &&& (x ^^^ (-1)) = 0 ∧ t.2 &&& x = 0 then nI j else wfh x L (j + 1)
theorem tm_first_l (f g : Nat → Int64) (x : Int64) : ∀ (m j : Nat), tm_first f g x m j = wfh x (tsg f g j m) j
  | 0, _ => rfl
  | m + 1, j => by
    unfold tm_first tsg wfh
    rw [tm_first_l f g x m (j + 1)]
theorem tm_first_0 {f g : Nat → Int64} {x : Int64} {k : Nat} {L : List tT} (h : tls f g k = L) : tm_first f g x k 0 = wfh x L 0 := by
  rw [tm_first_l, ← tls_0, h]
/-- how many of the TUPLES hold -/
def hgo (x : Int64) : List arow → Int32 → Int32
  | [], c => c
  | r :: R, c => hgo x R (if wfh x r.2 0 = -1 then c else c + Int32.ofInt 1)
/-- how many hold under one set and not under the other -/
def fwo (x y : Int64) : List arow → Int32 → Int32
  | [], c => c
  | r :: R, c => fwo x y R (if (wfh x r.2 0 = -1 ↔ wfh y r.2 0 = -1) then c else c + Int32.ofInt 1)
theorem hm_go_l {S : tb_S} {P : Nat → Nat} {x : Int64} {w : Nat} {tab : List arow} (h : ∀ j : Nat, j < tab.length → crw S (P j) w = ark tab j) : ∀ (m t : Nat) (c : Int32), t + m = tab.length → hm_go S P x m t c = hgo x (tab.drop t) c
  | 0, t, c, ht => by
    rw [List.drop_eq_nil_of_le (by omega)]
    rfl
  | m + 1, t, c, ht => by
    have e := h t (by omega)
    rw [ark_dropp (show t < tab.length by omega)]
    unfold hm_go hgo
    rw [tm_first_0 (show tls (S.2.1 (P t)) (S.2.2.1 (P t)) (S.2.2.2 (P t)) = (ark tab t).2 from congrArg Prod.snd e)]
    by_cases q : wfh x (ark tab t).2 0 = -1
    · rw [if_pos q, if_pos q]
      exact hm_go_l h m (t + 1) c (by omega)
    · rw [if_neg q, if_neg q]
      exact hm_go_l h m (t + 1) _ (by omega)
/-- THE RESULT of the class -/
def cl_rs (s : cl_S) (c : cl_N) (res : List arow) (rw : Nat) : Prop := (c.2.2.2.2.1 = -1 ∧ res = []) ∨ ∃ j : Nat, j < c.2.2.1 ∧ c.2.2.2.2.1 = nI j ∧ c.2.2.2.1 j 8 = nI 1 ∧ semc s c j = some res ∧ c.2.2.2.1 j 1 = nI rw ∧ rw ≤ 6
/-- its table -/
theorem cl_rs.tb {ids : Nat → ClassId} {h : rl_H} {s : cl_S} {c : cl_N} {res : List arow} {rw : Nat} (H : cl_rs s c res rw) (D : cl_dp ids h s c) (hw : ∀ k : Nat, k < c.2.2.1 → ∃ w : Nat, 1 ≤ w ∧ w ≤ 6 ∧ c.2.2.2.1 k 1 = nI w) : (c.2.2.2.2.1 = -1 ∧ res = []) ∨ ∃ j : Nat, j < c.2.2.1 ∧ c.2.2.2.2.1 = nI j ∧ c.2.2.2.1 j 1 = nI rw ∧ ctb ids h (c.1 j + 1) rw res ∧ aok rw res := by
  rcases H with H | ⟨j, h1, h2, h3, h4, h5, h6⟩
  · exact Or.inl H
  · refine Or.inr ⟨j, h1, h2, h5, ?_⟩
    rcases D.2.2 j h1 with g | ⟨-, tab, w, g1, g2, g3, g4⟩ | ⟨g, -⟩
    · exact absurd (h3.symm.trans g) (by decide +kernel)
    · obtain rfl : tab = res := Option.some.inj (g2.symm.trans h4)
      have w6 : w ≤ 6 := by
        obtain ⟨P, S, t, -⟩ := id g3
        exact t.2.2.2.2.2
      obtain ⟨w9, u1, u2, u3⟩ := hw j h1
      have e1 : w = w9 := nI_inj2 (by omega) (by omega) (g1.symm.trans u3)
      have r6 : nI rw = nI w9 := h5.symm.trans u3
      have e2 : rw = w9 := nI_inj2 (by omega) (by omega) r6
      rw [e2, ← e1]
      exact ⟨g3, g4⟩
    · exact absurd (h3.symm.trans g) (by decide +kernel)

set_option maxHeartbeats 4000000 in
set_option maxRecDepth 100000 in
theorem cd_X7_resultTuple (l : Launch) (D : va_G) (ids : Nat → ClassId) (H0 : Heap) (h : rl_H) (n : Nat) (x L : Nat) (s : cl_S) (c : cl_N) (res : List arow) (rw : Nat) (q : Int32) (hk : cl_ok ids h n x L s c) (hd : cl_dp ids h s c) (hr : cl_rs s c res rw) : rl_Met l (rl_e D ids H0) rl_BW rl_Ns yX7_resultTuple cX7_resultTuple 3 (some (.object "RowLineage$Tuple")) ({ frames := 2, cells := 0, slots := 0, locals := 42 }) [.ref x, .int q] h n (fun v h' n' => ∃ z : Value, v = some z ∧ h' = h ∧ n' = n ∧ ((z = .null ∧ ¬ (∃ t : Nat, t < res.length ∧ q = nI t)) ∨ ∃ t j i : Nat, t < res.length ∧ q = nI t ∧ j < c.2.2.1 ∧ c.2.2.2.2.1 = nI j ∧ i < 80 ∧ z = .ref (c.1 j + 1 + 2 + 5 * i) ∧ ∃ (P : Nat → Nat) (S : tb_S), tb_at ids h (c.1 j + 1) res.length rw P S ∧ crw S i rw = ark res t)) := by
  have nc16 := cl_nc hk
  have hc := hk.1
  obtain ⟨c1, c2, c3, ⟨pn, c4, c5⟩, ⟨pt, c6, c7⟩, c8, c9, c10, c11, c12, c13, c14, c15⟩ := id hc
  have htb := hr.tb hd (fun k hk9 => cl_wd hk hk9)
  refine rl_Met.of (by decide +kernel) (Nat.le_of_ble_eq_true rfl) ?_
  intro X hC hB
  show rl_G X (rl_e D ids H0) 0 [some (.ref x), some (.int q), none] [] h n 0 0
  refine o_aload_n hC dX7_resultTuple_0 (by rfl) ?_
  refine o_aload_n hC dX7_resultTuple_1 (by rfl) ?_
  refine o_getf hC (fX7_49 hC rfl) dX7_resultTuple_2 (by repeat (first | with_reducible assumption | (rw [rl_u_s]; done) | (rw [rl_u_s]; rfl) | rw [rl_u_n (by first | with_reducible assumption | omega)])) (by first | rfl | with_reducible assumption) ?_
  refine o_callV1 hC rl_BW_good rl_Ns_nw (by exact hB.2.2.2.2.2) YX7_tableOf IX7_tableOf VX7_tableOf (mX7_127 hC) (by rw [hB.1]; exact cg_X7_tableOf l D ids H0 _ _ x s c _ hc) (by exact c1) rfl rfl (Nat.le_of_ble_eq_true rfl) (by rw [hB.2.1]; first | exact Nat.le_of_ble_eq_true rfl | (dsimp only; omega)) (by rw [hB.2.1]; first | exact Nat.le_of_ble_eq_true rfl | (dsimp only; omega)) (by rw [hB.2.1]; first | exact Nat.le_of_ble_eq_true rfl | (dsimp only; omega)) (by rw [hB.2.1]; first | exact Nat.le_of_ble_eq_true rfl | (dsimp only; omega)) dX7_resultTuple_5 (fun v h_5 n_5 p_5 => ?_)
  obtain ⟨z, rfl, rfl, rfl, hz⟩ := p_5
  try dsimp only [Option.toList, List.cons_append, List.nil_append]
  rcases hz with ⟨rfl, hz⟩ | ⟨j, hj, e, rfl⟩
  · try dsimp only [Option.toList, List.cons_append, List.nil_append]
    have hre : res = [] := by
      rcases htb with ⟨-, e⟩ | ⟨j, h1, h2, -⟩
      · exact e
      · exact absurd ⟨j, h1, h2⟩ hz
    refine o_astore_n hC dX7_resultTuple_8 (Nat.le_of_ble_eq_true rfl) ?_
    refine o_iload_n hC dX7_resultTuple_9 (by rfl) ?_
    refine o_if_lt (tgt := 30) hC dX7_resultTuple_10 (by decide) (fun c_10 => ?_) (fun c_10 => ?_)
    · refine o_null hC dX7_resultTuple_30 ?_
      refine o_aret hC hB (by first | exact Or.inl ⟨_, rfl⟩ | exact Or.inr ⟨_, rfl⟩) (by first | exact Or.inl rfl | exact Or.inr ⟨_, rfl⟩) dX7_resultTuple_31 (Nat.le_of_ble_eq_true rfl) (Nat.le_of_ble_eq_true rfl) ?_
      exact ⟨_, rfl, rfl, rfl, Or.inl ⟨rfl, fun ⟨t, ht, _⟩ => by rw [hre] at ht; exact absurd ht (Nat.not_lt_zero t)⟩⟩
    · refine o_iload_n hC dX7_resultTuple_13 (by rfl) ?_
      refine o_aload_n hC dX7_resultTuple_14 (by rfl) ?_
      refine o_getf hC (fX7_138 hC rfl) dX7_resultTuple_15 (by repeat (first | with_reducible assumption | (rw [rl_u_s]; done) | (rw [rl_u_s]; rfl) | rw [rl_u_n (by first | with_reducible assumption | omega)])) (by first | rfl | with_reducible assumption) ?_
      refine o_icmp_ge (tgt := 30) hC dX7_resultTuple_18 (by decide) (fun c_18 => ?_) (fun c_18 => ?_)
      · refine o_null hC dX7_resultTuple_30 ?_
        refine o_aret hC hB (by first | exact Or.inl ⟨_, rfl⟩ | exact Or.inr ⟨_, rfl⟩) (by first | exact Or.inl rfl | exact Or.inr ⟨_, rfl⟩) dX7_resultTuple_31 (Nat.le_of_ble_eq_true rfl) (Nat.le_of_ble_eq_true rfl) ?_
        exact ⟨_, rfl, rfl, rfl, Or.inl ⟨rfl, fun ⟨t, ht, _⟩ => by rw [hre] at ht; exact absurd ht (Nat.not_lt_zero t)⟩⟩
      · exact absurd (nI_of_lt (by decide) c_10 c_18) (fun ⟨j, hj, _⟩ => absurd hj (by omega))
  · try dsimp only [Option.toList, List.cons_append, List.nil_append]
    obtain ⟨P, S, ht, hP, hrow⟩ : ctb ids h_5 (c.1 j + 1) rw res := by
      rcases htb with ⟨u, -⟩ | ⟨j2, u1, u2, -, u3, -⟩
      · exact absurd (e.symm.trans u) (nI_m1 (by omega))
      · have := nI_inj2 (by omega) (by omega) (e.symm.trans u2)
        subst this
        exact u3
    obtain ⟨t1, ⟨tf, t2, t3⟩, t4, t5, t6, t7⟩ := id ht
    refine o_astore_n hC dX7_resultTuple_8 (Nat.le_of_ble_eq_true rfl) ?_
    refine o_iload_n hC dX7_resultTuple_9 (by rfl) ?_
    refine o_if_lt (tgt := 30) hC dX7_resultTuple_10 (by decide) (fun c_10 => ?_) (fun c_10 => ?_)
    · refine o_null hC dX7_resultTuple_30 ?_
      refine o_aret hC hB (by first | exact Or.inl ⟨_, rfl⟩ | exact Or.inr ⟨_, rfl⟩) (by first | exact Or.inl rfl | exact Or.inr ⟨_, rfl⟩) dX7_resultTuple_31 (Nat.le_of_ble_eq_true rfl) (Nat.le_of_ble_eq_true rfl) ?_
      first
      | exact ⟨_, rfl, rfl, rfl, Or.inr ⟨u, j, P u, hu, rfl, hj, e, t4 u (by omega), rfl, P, S, ht, hrow u hu⟩⟩
      | exact ⟨_, rfl, rfl, rfl, Or.inl ⟨rfl, fun ⟨t, ht9, e9⟩ => absurd c_10 (by rw [e9]; exact nI_pos (by omega))⟩⟩
      | exact ⟨_, rfl, rfl, rfl, Or.inl ⟨rfl, fun ⟨t, ht9, e9⟩ => absurd c_18 (by rw [e9]; exact nI_ge ht9 (by omega))⟩⟩
    · refine o_iload_n hC dX7_resultTuple_13 (by rfl) ?_
      refine o_aload_n hC dX7_resultTuple_14 (by rfl) ?_
      refine o_getf hC (fX7_138 hC rfl) dX7_resultTuple_15 (by repeat (first | with_reducible assumption | (rw [rl_u_s]; done) | (rw [rl_u_s]; rfl) | rw [rl_u_n (by first | with_reducible assumption | omega)])) (by first | rfl | with_reducible assumption) ?_
      refine o_icmp_ge (tgt := 30) hC dX7_resultTuple_18 (by decide) (fun c_18 => ?_) (fun c_18 => ?_)
      · refine o_null hC dX7_resultTuple_30 ?_
        refine o_aret hC hB (by first | exact Or.inl ⟨_, rfl⟩ | exact Or.inr ⟨_, rfl⟩) (by first | exact Or.inl rfl | exact Or.inr ⟨_, rfl⟩) dX7_resultTuple_31 (Nat.le_of_ble_eq_true rfl) (Nat.le_of_ble_eq_true rfl) ?_
        first
        | exact ⟨_, rfl, rfl, rfl, Or.inr ⟨u, j, P u, hu, rfl, hj, e, t4 u (by omega), rfl, P, S, ht, hrow u hu⟩⟩
        | exact ⟨_, rfl, rfl, rfl, Or.inl ⟨rfl, fun ⟨t, ht9, e9⟩ => absurd c_10 (by rw [e9]; exact nI_pos (by omega))⟩⟩
        | exact ⟨_, rfl, rfl, rfl, Or.inl ⟨rfl, fun ⟨t, ht9, e9⟩ => absurd c_18 (by rw [e9]; exact nI_ge ht9 (by omega))⟩⟩
      · obtain ⟨u, hu, rfl⟩ := nI_of_lt (k := res.length) (by omega) c_10 c_18
        refine o_aload_n hC dX7_resultTuple_21 (by rfl) ?_
        refine o_getf hC (fX7_195 hC rfl) dX7_resultTuple_22 (by repeat (first | with_reducible assumption | (rw [rl_u_s]; done) | (rw [rl_u_s]; rfl) | rw [rl_u_n (by first | with_reducible assumption | omega)])) (by first | rfl | with_reducible assumption) ?_
        refine o_iload_n hC dX7_resultTuple_25 (by rfl) ?_
        refine o_aaldN (t0 := 3) (k := u) hC rfl dX7_resultTuple_26 t2 (by omega) (by decide) ?_
        rw [t3 u (by omega)]
        show rl_G X _ _ _ (.ref _ :: _) _ _ _ _
        refine o_goto (tgt := 31) hC dX7_resultTuple_27 (by decide) ?_
        refine o_aret hC hB (by first | exact Or.inl ⟨_, rfl⟩ | exact Or.inr ⟨_, rfl⟩) (by first | exact Or.inl rfl | exact Or.inr ⟨_, rfl⟩) dX7_resultTuple_31 (Nat.le_of_ble_eq_true rfl) (Nat.le_of_ble_eq_true rfl) ?_
        first
        | exact ⟨_, rfl, rfl, rfl, Or.inr ⟨u, j, P u, hu, rfl, hj, e, t4 u (by omega), rfl, P, S, ht, hrow u hu⟩⟩
        | exact ⟨_, rfl, rfl, rfl, Or.inl ⟨rfl, fun ⟨t, ht9, e9⟩ => absurd c_10 (by rw [e9]; exact nI_pos (by omega))⟩⟩
        | exact ⟨_, rfl, rfl, rfl, Or.inl ⟨rfl, fun ⟨t, ht9, e9⟩ => absurd c_18 (by rw [e9]; exact nI_ge ht9 (by omega))⟩⟩

set_option maxHeartbeats 4000000 in
set_option maxRecDepth 100000 in
theorem cd_X7_asNumber (l : Launch) (D : va_G) (ids : Nat → ClassId) (H0 : Heap) (h : rl_H) (n : Nat) (q : Int32)  : rl_Met l (rl_e D ids H0) rl_BW rl_Ns yX7_asNumber cX7_asNumber 1 (some .int) ({ frames := 0, cells := 0, slots := 0, locals := 0 }) [.int q] h n (fun v h' n' => v = some (.int (if q = nI 0 then nI 0 else nI 1)) ∧ h' = h ∧ n' = n) := by
  refine rl_Met.of (by decide +kernel) (Nat.le_of_ble_eq_true rfl) ?_
  intro X hC hB
  show rl_G X (rl_e D ids H0) 0 [some (.int q)] [] h n 0 0
  refine o_iload_n hC dX7_asNumber_0 (by rfl) ?_
  refine o_if_eq (tgt := 8) hC dX7_asNumber_1 (by decide) (fun c_1 => ?_) (fun c_1 => ?_)
  · refine o_iconst (v := nI 0) hC dX7_asNumber_8 (by decide +kernel) ?_
    refine o_iret hC hB dX7_asNumber_9 (Nat.le_of_ble_eq_true rfl) (Nat.le_of_ble_eq_true rfl) ?_
    first
    | exact ⟨by rw [if_pos (show q = nI 0 from c_1)], rfl, rfl⟩
    | exact ⟨by rw [if_neg (show ¬ q = nI 0 from c_1)], rfl, rfl⟩
  · refine o_iconst (v := nI 1) hC dX7_asNumber_4 (by decide +kernel) ?_
    refine o_goto (tgt := 9) hC dX7_asNumber_5 (by decide) ?_
    refine o_iret hC hB dX7_asNumber_9 (Nat.le_of_ble_eq_true rfl) (Nat.le_of_ble_eq_true rfl) ?_
    first
    | exact ⟨by rw [if_pos (show q = nI 0 from c_1)], rfl, rfl⟩
    | exact ⟨by rw [if_neg (show ¬ q = nI 0 from c_1)], rfl, rfl⟩

theorem as_h (a : Int32) : (if (if a = -1 then nI 0 else nI 1) = nI 0 then nI 0 else nI 1) = (if a = -1 then nI 0 else nI 1) := by
  by_cases q : a = -1
  · rw [if_pos q, if_pos rfl]
  · rw [if_neg q, if_neg (by decide +kernel)]

set_option maxHeartbeats 4000000 in
set_option maxRecDepth 100000 in
theorem cd_X7_ways (l : Launch) (D : va_G) (ids : Nat → ClassId) (H0 : Heap) (h : rl_H) (n : Nat) (x L : Nat) (s : cl_S) (c : cl_N) (res : List arow) (rw : Nat) (q : Int32) (hk : cl_ok ids h n x L s c) (hd : cl_dp ids h s c) (hr : cl_rs s c res rw) : rl_Met l (rl_e D ids H0) rl_BW rl_Ns yX7_ways cX7_ways 3 (some .int) ({ frames := 3, cells := 0, slots := 0, locals := 64 }) [.ref x, .int q] h n (fun v h' n' => ∃ r : Int32, v = some (.int r) ∧ h' = h ∧ n' = n ∧ ((¬ (∃ t : Nat, t < res.length ∧ q = nI t) ∧ r = -1) ∨ ∃ t : Nat, t < res.length ∧ q = nI t ∧ r = nI (ark res t).2.length)) := by
  have nc16 := cl_nc hk
  have hc := hk.1
  obtain ⟨c1, c2, c3, ⟨pn, c4, c5⟩, ⟨pt, c6, c7⟩, c8, c9, c10, c11, c12, c13, c14, c15⟩ := id hc
  have htb := hr.tb hd (fun k hk9 => cl_wd hk hk9)
  refine rl_Met.of (by decide +kernel) (Nat.le_of_ble_eq_true rfl) ?_
  intro X hC hB
  show rl_G X (rl_e D ids H0) 0 [some (.ref x), some (.int q), none] [] h n 0 0
  refine o_aload_n hC dX7_ways_0 (by rfl) ?_
  refine o_iload_n hC dX7_ways_1 (by rfl) ?_
  refine o_callV1 hC rl_BW_good rl_Ns_nw (by exact hB.2.2.2.2.2) YX7_resultTuple IX7_resultTuple VX7_resultTuple (mX7_141 hC) (by rw [hB.1]; exact cd_X7_resultTuple l D ids H0 _ _ x L s c res rw _ hk hd hr) (by exact c1) rfl rfl (Nat.le_of_ble_eq_true rfl) (by rw [hB.2.1]; first | exact Nat.le_of_ble_eq_true rfl | (dsimp only; omega)) (by rw [hB.2.1]; first | exact Nat.le_of_ble_eq_true rfl | (dsimp only; omega)) (by rw [hB.2.1]; first | exact Nat.le_of_ble_eq_true rfl | (dsimp only; omega)) (by rw [hB.2.1]; first | exact Nat.le_of_ble_eq_true rfl | (dsimp only; omega)) dX7_ways_2 (fun v h_2 n_2 p_2 => ?_)
  obtain ⟨zv, rfl, rfl, rfl, hz⟩ := p_2
  try dsimp only [Option.toList, List.cons_append, List.nil_append]
  rcases hz with ⟨rfl, hz⟩ | ⟨t, j, i, htl, rfl, hj, hrs, hi, rfl, P, S, ht, er⟩
  · try dsimp only [Option.toList, List.cons_append, List.nil_append]
    refine o_astore_nN hC dX7_ways_5 (Nat.le_of_ble_eq_true rfl) ?_
    refine o_aload_nN hC dX7_ways_6 (by rfl) ?_
    refine o_ifnonnullN hC dX7_ways_7 ?_
    refine o_iconst (v := (-1 : Int32)) hC dX7_ways_10 (by decide +kernel) ?_
    refine o_goto (tgt := 21) hC dX7_ways_11 (by decide) ?_
    refine o_iret hC hB dX7_ways_21 (Nat.le_of_ble_eq_true rfl) (Nat.le_of_ble_eq_true rfl) ?_
    exact ⟨_, rfl, rfl, rfl, Or.inl ⟨hz, rfl⟩⟩
  · try dsimp only [Option.toList, List.cons_append, List.nil_append]
    obtain ⟨t1, ⟨tf, t2, t3⟩, t4, t5, t6, t7⟩ := id ht
    obtain ⟨e1, e2, e3⟩ := t5 i hi
    obtain ⟨w1, w2, w3, w4⟩ := id e3
    have ew : tls (S.2.1 i) (S.2.2.1 i) (S.2.2.2 i) = (ark res t).2 := congrArg Prod.snd er
    refine o_astore_n hC dX7_ways_5 (Nat.le_of_ble_eq_true rfl) ?_
    refine o_aload_n hC dX7_ways_6 (by rfl) ?_
    refine o_ifnonnull (tgt := 14) hC dX7_ways_7 (by decide) ?_
    refine o_aload_n hC dX7_ways_14 (by rfl) ?_
    refine o_getf hC (fX7_160 hC rfl) dX7_ways_15 (by repeat (first | with_reducible assumption | (rw [rl_u_s]; done) | (rw [rl_u_s]; rfl) | rw [rl_u_n (by first | with_reducible assumption | omega)])) (by first | rfl | with_reducible assumption) ?_
    refine o_getf hC (fX7_163 hC rfl) dX7_ways_18 (by repeat (first | with_reducible assumption | (rw [rl_u_s]; done) | (rw [rl_u_s]; rfl) | rw [rl_u_n (by first | with_reducible assumption | omega)])) (by first | rfl | with_reducible assumption) ?_
    refine o_iret hC hB dX7_ways_21 (Nat.le_of_ble_eq_true rfl) (Nat.le_of_ble_eq_true rfl) ?_
    exact ⟨_, rfl, rfl, rfl, Or.inr ⟨t, htl, rfl, by rw [← ew, tls_len]⟩⟩

set_option maxHeartbeats 4000000 in
set_option maxRecDepth 100000 in
theorem cd_X7_holds (l : Launch) (D : va_G) (ids : Nat → ClassId) (H0 : Heap) (h : rl_H) (n : Nat) (x L : Nat) (s : cl_S) (c : cl_N) (res : List arow) (rw : Nat) (q : Int32) (hk : cl_ok ids h n x L s c) (hd : cl_dp ids h s c) (hr : cl_rs s c res rw) : rl_Met l (rl_e D ids H0) rl_BW rl_Ns yX7_holds cX7_holds 3 (some .int) ({ frames := 3, cells := 0, slots := 0, locals := 64 }) [.ref x, .int q] h n (fun v h' n' => ∃ r : Int32, v = some (.int r) ∧ h' = h ∧ n' = n ∧ ((¬ (∃ t : Nat, t < res.length ∧ q = nI t) ∧ r = -1) ∨ ∃ t : Nat, t < res.length ∧ q = nI t ∧ r = (if wfh c.2.2.2.2.2 (ark res t).2 0 = -1 then nI 0 else nI 1))) := by
  have nc16 := cl_nc hk
  have hc := hk.1
  obtain ⟨c1, c2, c3, ⟨pn, c4, c5⟩, ⟨pt, c6, c7⟩, c8, c9, c10, c11, c12, c13, c14, c15⟩ := id hc
  have htb := hr.tb hd (fun k hk9 => cl_wd hk hk9)
  refine rl_Met.of (by decide +kernel) (Nat.le_of_ble_eq_true rfl) ?_
  intro X hC hB
  show rl_G X (rl_e D ids H0) 0 [some (.ref x), some (.int q), none] [] h n 0 0
  refine o_aload_n hC dX7_holds_0 (by rfl) ?_
  refine o_iload_n hC dX7_holds_1 (by rfl) ?_
  refine o_callV1 hC rl_BW_good rl_Ns_nw (by exact hB.2.2.2.2.2) YX7_resultTuple IX7_resultTuple VX7_resultTuple (mX7_141 hC) (by rw [hB.1]; exact cd_X7_resultTuple l D ids H0 _ _ x L s c res rw _ hk hd hr) (by exact c1) rfl rfl (Nat.le_of_ble_eq_true rfl) (by rw [hB.2.1]; first | exact Nat.le_of_ble_eq_true rfl | (dsimp only; omega)) (by rw [hB.2.1]; first | exact Nat.le_of_ble_eq_true rfl | (dsimp only; omega)) (by rw [hB.2.1]; first | exact Nat.le_of_ble_eq_true rfl | (dsimp only; omega)) (by rw [hB.2.1]; first | exact Nat.le_of_ble_eq_true rfl | (dsimp only; omega)) dX7_holds_2 (fun v h_2 n_2 p_2 => ?_)
  obtain ⟨zv, rfl, rfl, rfl, hz⟩ := p_2
  try dsimp only [Option.toList, List.cons_append, List.nil_append]
  rcases hz with ⟨rfl, hz⟩ | ⟨t, j, i, htl, rfl, hj, hrs, hi, rfl, P, S, ht, er⟩
  · try dsimp only [Option.toList, List.cons_append, List.nil_append]
    refine o_astore_nN hC dX7_holds_5 (Nat.le_of_ble_eq_true rfl) ?_
    refine o_aload_nN hC dX7_holds_6 (by rfl) ?_
    refine o_ifnonnullN hC dX7_holds_7 ?_
    refine o_iconst (v := (-1 : Int32)) hC dX7_holds_10 (by decide +kernel) ?_
    refine o_goto (tgt := 28) hC dX7_holds_11 (by decide) ?_
    refine o_iret hC hB dX7_holds_28 (Nat.le_of_ble_eq_true rfl) (Nat.le_of_ble_eq_true rfl) ?_
    exact ⟨_, rfl, rfl, rfl, Or.inl ⟨hz, rfl⟩⟩
  · try dsimp only [Option.toList, List.cons_append, List.nil_append]
    obtain ⟨t1, ⟨tf, t2, t3⟩, t4, t5, t6, t7⟩ := id ht
    obtain ⟨e1, e2, e3⟩ := t5 i hi
    obtain ⟨w1, w2, w3, w4⟩ := id e3
    have ew : tls (S.2.1 i) (S.2.2.1 i) (S.2.2.2 i) = (ark res t).2 := congrArg Prod.snd er
    refine o_astore_n hC dX7_holds_5 (Nat.le_of_ble_eq_true rfl) ?_
    refine o_aload_n hC dX7_holds_6 (by rfl) ?_
    refine o_ifnonnull (tgt := 14) hC dX7_holds_7 (by decide) ?_
    refine o_aload_n hC dX7_holds_14 (by rfl) ?_
    refine o_getf hC (fX7_160 hC rfl) dX7_holds_15 (by repeat (first | with_reducible assumption | (rw [rl_u_s]; done) | (rw [rl_u_s]; rfl) | rw [rl_u_n (by first | with_reducible assumption | omega)])) (by first | rfl | with_reducible assumption) ?_
    refine o_aload_n hC dX7_holds_18 (by rfl) ?_
    refine o_getf hC (fX7_71 hC rfl) dX7_holds_19 (by repeat (first | with_reducible assumption | (rw [rl_u_s]; done) | (rw [rl_u_s]; rfl) | rw [rl_u_n (by first | with_reducible assumption | omega)])) (by first | rfl | with_reducible assumption) ?_
    refine o_callV1 hC rl_BW_good rl_Ns_nw (by exact hB.2.2.2.2.2) YX6_holdsWith IX6_holdsWith VX6_holdsWith (mX7_183 hC) (by rw [hB.1]; exact ct_X6_holdsWith l D ids H0 _ _ (c.1 j + 1 + 2 + 5 * i + 2) _ _ _ _ e3) (by exact e3.1) rfl rfl (Nat.le_of_ble_eq_true rfl) (by rw [hB.2.1]; first | exact Nat.le_of_ble_eq_true rfl | (dsimp only; omega)) (by rw [hB.2.1]; first | exact Nat.le_of_ble_eq_true rfl | (dsimp only; omega)) (by rw [hB.2.1]; first | exact Nat.le_of_ble_eq_true rfl | (dsimp only; omega)) (by rw [hB.2.1]; first | exact Nat.le_of_ble_eq_true rfl | (dsimp only; omega)) dX7_holds_22 (fun v h_22 n_22 p_22 => ?_)
    obtain ⟨rfl, rfl, rfl⟩ := p_22
    rw [tm_first_0 ew]
    try dsimp only [Option.toList, List.cons_append, List.nil_append]
    refine o_callS1 hC rl_BW_good rl_Ns_nw (by exact hB.2.2.2.2.2) YX7_asNumber SX7_asNumber (mX7_187 hC) (by rw [hB.1]; exact cd_X7_asNumber l D ids H0 _ _ _) (Nat.le_of_ble_eq_true rfl) (by rw [hB.2.1]; first | exact Nat.le_of_ble_eq_true rfl | (dsimp only; omega)) (by rw [hB.2.1]; first | exact Nat.le_of_ble_eq_true rfl | (dsimp only; omega)) (by rw [hB.2.1]; first | exact Nat.le_of_ble_eq_true rfl | (dsimp only; omega)) (by rw [hB.2.1]; first | exact Nat.le_of_ble_eq_true rfl | (dsimp only; omega)) dX7_holds_25 (fun v h_25 n_25 p_25 => ?_)
    obtain ⟨rfl, rfl, rfl⟩ := p_25
    rw [as_h]
    try dsimp only [Option.toList, List.cons_append, List.nil_append]
    refine o_iret hC hB dX7_holds_28 (Nat.le_of_ble_eq_true rfl) (Nat.le_of_ble_eq_true rfl) ?_
    exact ⟨_, rfl, rfl, rfl, Or.inr ⟨t, htl, rfl, rfl⟩⟩

set_option maxHeartbeats 4000000 in
set_option maxRecDepth 100000 in
theorem cd_X7_made (l : Launch) (D : va_G) (ids : Nat → ClassId) (H0 : Heap) (h : rl_H) (n : Nat) (x L : Nat) (s : cl_S) (c : cl_N) (res : List arow) (rw : Nat) (q : Int32) (hk : cl_ok ids h n x L s c) (hd : cl_dp ids h s c) (hr : cl_rs s c res rw) : rl_Met l (rl_e D ids H0) rl_BW rl_Ns yX7_made cX7_made 3 (some .int) ({ frames := 3, cells := 0, slots := 0, locals := 64 }) [.ref x, .int q] h n (fun v h' n' => ∃ r : Int32, v = some (.int r) ∧ h' = h ∧ n' = n ∧ ((¬ (∃ t : Nat, t < res.length ∧ q = nI t) ∧ r = -1) ∨ ∃ t : Nat, t < res.length ∧ q = nI t ∧ r = wfh c.2.2.2.2.2 (ark res t).2 0)) := by
  have nc16 := cl_nc hk
  have hc := hk.1
  obtain ⟨c1, c2, c3, ⟨pn, c4, c5⟩, ⟨pt, c6, c7⟩, c8, c9, c10, c11, c12, c13, c14, c15⟩ := id hc
  have htb := hr.tb hd (fun k hk9 => cl_wd hk hk9)
  refine rl_Met.of (by decide +kernel) (Nat.le_of_ble_eq_true rfl) ?_
  intro X hC hB
  show rl_G X (rl_e D ids H0) 0 [some (.ref x), some (.int q), none] [] h n 0 0
  refine o_aload_n hC dX7_made_0 (by rfl) ?_
  refine o_iload_n hC dX7_made_1 (by rfl) ?_
  refine o_callV1 hC rl_BW_good rl_Ns_nw (by exact hB.2.2.2.2.2) YX7_resultTuple IX7_resultTuple VX7_resultTuple (mX7_141 hC) (by rw [hB.1]; exact cd_X7_resultTuple l D ids H0 _ _ x L s c res rw _ hk hd hr) (by exact c1) rfl rfl (Nat.le_of_ble_eq_true rfl) (by rw [hB.2.1]; first | exact Nat.le_of_ble_eq_true rfl | (dsimp only; omega)) (by rw [hB.2.1]; first | exact Nat.le_of_ble_eq_true rfl | (dsimp only; omega)) (by rw [hB.2.1]; first | exact Nat.le_of_ble_eq_true rfl | (dsimp only; omega)) (by rw [hB.2.1]; first | exact Nat.le_of_ble_eq_true rfl | (dsimp only; omega)) dX7_made_2 (fun v h_2 n_2 p_2 => ?_)
  obtain ⟨zv, rfl, rfl, rfl, hz⟩ := p_2
  try dsimp only [Option.toList, List.cons_append, List.nil_append]
  rcases hz with ⟨rfl, hz⟩ | ⟨t, j, i, htl, rfl, hj, hrs, hi, rfl, P, S, ht, er⟩
  · try dsimp only [Option.toList, List.cons_append, List.nil_append]
    refine o_astore_nN hC dX7_made_5 (Nat.le_of_ble_eq_true rfl) ?_
    refine o_aload_nN hC dX7_made_6 (by rfl) ?_
    refine o_ifnonnullN hC dX7_made_7 ?_
    refine o_iconst (v := (-1 : Int32)) hC dX7_made_10 (by decide +kernel) ?_
    refine o_goto (tgt := 25) hC dX7_made_11 (by decide) ?_
    refine o_iret hC hB dX7_made_25 (Nat.le_of_ble_eq_true rfl) (Nat.le_of_ble_eq_true rfl) ?_
    exact ⟨_, rfl, rfl, rfl, Or.inl ⟨hz, rfl⟩⟩
  · try dsimp only [Option.toList, List.cons_append, List.nil_append]
    obtain ⟨t1, ⟨tf, t2, t3⟩, t4, t5, t6, t7⟩ := id ht
    obtain ⟨e1, e2, e3⟩ := t5 i hi
    obtain ⟨w1, w2, w3, w4⟩ := id e3
    have ew : tls (S.2.1 i) (S.2.2.1 i) (S.2.2.2 i) = (ark res t).2 := congrArg Prod.snd er
    refine o_astore_n hC dX7_made_5 (Nat.le_of_ble_eq_true rfl) ?_
    refine o_aload_n hC dX7_made_6 (by rfl) ?_
    refine o_ifnonnull (tgt := 14) hC dX7_made_7 (by decide) ?_
    refine o_aload_n hC dX7_made_14 (by rfl) ?_
    refine o_getf hC (fX7_160 hC rfl) dX7_made_15 (by repeat (first | with_reducible assumption | (rw [rl_u_s]; done) | (rw [rl_u_s]; rfl) | rw [rl_u_n (by first | with_reducible assumption | omega)])) (by first | rfl | with_reducible assumption) ?_
    refine o_aload_n hC dX7_made_18 (by rfl) ?_
    refine o_getf hC (fX7_71 hC rfl) dX7_made_19 (by repeat (first | with_reducible assumption | (rw [rl_u_s]; done) | (rw [rl_u_s]; rfl) | rw [rl_u_n (by first | with_reducible assumption | omega)])) (by first | rfl | with_reducible assumption) ?_
    refine o_callV1 hC rl_BW_good rl_Ns_nw (by exact hB.2.2.2.2.2) YX6_firstThatHolds IX6_firstThatHolds VX6_firstThatHolds (mX7_191 hC) (by rw [hB.1]; exact ct_X6_firstThatHolds l D ids H0 _ _ (c.1 j + 1 + 2 + 5 * i + 2) _ _ _ _ e3) (by exact e3.1) rfl rfl (Nat.le_of_ble_eq_true rfl) (by rw [hB.2.1]; first | exact Nat.le_of_ble_eq_true rfl | (dsimp only; omega)) (by rw [hB.2.1]; first | exact Nat.le_of_ble_eq_true rfl | (dsimp only; omega)) (by rw [hB.2.1]; first | exact Nat.le_of_ble_eq_true rfl | (dsimp only; omega)) (by rw [hB.2.1]; first | exact Nat.le_of_ble_eq_true rfl | (dsimp only; omega)) dX7_made_22 (fun v h_22 n_22 p_22 => ?_)
    obtain ⟨rfl, rfl, rfl⟩ := p_22
    rw [tm_first_0 ew]
    try dsimp only [Option.toList, List.cons_append, List.nil_append]
    refine o_iret hC hB dX7_made_25 (Nat.le_of_ble_eq_true rfl) (Nat.le_of_ble_eq_true rfl) ?_
    exact ⟨_, rfl, rfl, rfl, Or.inr ⟨t, htl, rfl, rfl⟩⟩
