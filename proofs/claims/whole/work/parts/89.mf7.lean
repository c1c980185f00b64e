/-! THE MODEL, functionally: the operators -/
/-- TUPLES one after the other, each with its WAYS (FULL is none) -/
def aall : List arow → List (List Int32 × Option (List tT)) → Option (List arow)
  | T, [] => some T
  | T, r :: R => (r.2.bind (aput T r.1)).bind (fun T' => aall T' R)
/-- nothing but node a's table, the TUPLE in work, the WAYS in work, the group (and the heap) has changed -/
def mop (A B : md_D) (a : Nat) : Prop := (∀ q : Nat, (q < 480 * a ∨ 480 * a + 480 ≤ q) → B.1 q = A.1 q) ∧ (∀ i : Nat, i ≠ a → B.2.1 i = A.2.1 i) ∧ B.2.2.1 = A.2.2.1 ∧ (∀ i : Nat, (i < 80 * a ∨ 80 * a + 80 ≤ i) → i < 1360 → B.2.2.2.1 i = A.2.2.2.1 i) ∧ (∀ q : Nat, (q < 960 * a ∨ 960 * a + 960 ≤ q) → q < 16320 → B.2.2.2.2.1 q = A.2.2.2.2.1 q ∧ B.2.2.2.2.2.1 q = A.2.2.2.2.2.1 q) ∧ B.2.2.2.2.2.2.2.2.2.2 = A.2.2.2.2.2.2.2.2.2.2
theorem mop.rf {A : md_D} {a : Nat} : mop A A a := ⟨fun _ _ => rfl, fun _ _ => rfl, rfl, fun _ _ _ => rfl, fun _ _ _ => ⟨rfl, rfl⟩, rfl⟩
theorem mop.tr {A B C : md_D} {a : Nat} (h : mop A B a) (g : mop B C a) : mop A C a := by
  obtain ⟨h1, h2, h3, h4, h5, h6⟩ := h
  obtain ⟨g1, g2, g3, g4, g5, g6⟩ := g
  exact ⟨fun q hq => (g1 q hq).trans (h1 q hq), fun q hq => (g2 q hq).trans (h2 q hq), g3.trans h3, fun i hi hj => (g4 i hi hj).trans (h4 i hi hj), fun q hq hj => ⟨(g5 q hq hj).1.trans (h5 q hq hj).1, (g5 q hq hj).2.trans (h5 q hq hj).2⟩, g6.trans h6⟩
theorem mto.op {A B : md_D} {a : Nat} (h : mto A B a) : mop A B a := by
  obtain ⟨h1, h2, h3, h4, h5, h6⟩ := h
  exact ⟨h1, h2, h3, fun i hi _ => h4 i hi, fun q hq _ => h5 q hq, by rw [h6]⟩
theorem mop.ws {A B : md_D} {a b : Nat} {L : List tT} (h : mop A B a) (hb : b < 80 * a ∨ 80 * a + 80 ≤ b) (hb2 : b < 1360) (H : mws A b L) : mws B b L := by
  obtain ⟨h1, h2, h3, h4, h5, h6⟩ := h
  obtain ⟨g1, g2, g3⟩ := H
  refine ⟨(h4 b hb hb2).trans g1, g2, (tls_eq (fun i hi => ?_)).trans g3⟩
  exact h5 (12 * b + i) (by omega) (by omega)
theorem mop.tb {A B : md_D} {a b w : Nat} {tab : List arow} (hr : mop A B a) (hw : w ≤ 6) (hl : tab.length ≤ 80) (hb : b < 17) (h : mtb A b w tab) (hab : b ≠ a) : mtb B b w tab := ⟨(hr.2.1 b hab).trans h.1, fun j hj => (h.2 j hj).of hw (fun q h1 h2 => hr.1 q (by omega)) (hr.ws (by omega) (by omega))⟩
/-- where a table stands: FULL is none -/
def mst (A : md_D) (a w : Nat) (fu : Int32) (r : Option (List arow)) : Prop := (∃ tab : List arow, r = some tab ∧ fu = nI 0 ∧ mtb A a w tab ∧ aok w tab) ∨ (r = none ∧ fu = nI 1)
theorem ark_drop {tab : List arow} {f : arow → List Int32 × Option (List tT)} {t : Nat} (h : t < tab.length) : (tab.map f).drop t = f (ark tab t) :: (tab.map f).drop (t + 1) := by
  rw [List.drop_eq_getElem_cons (by rw [List.length_map]; exact h), List.getElem_map, ark_at h]

set_option maxHeartbeats 4000000 in
set_option maxRecDepth 100000 in
theorem cf_X8_makeUnite (l : Launch) (D : va_G) (ids : Nat → ClassId) (H0 : Heap) (h : rl_H) (n : Nat) (m : Nat) (T : md_T) (fu : Int32) (k : Nat) (A : md_D) (S : md_A) (a b w wb : Nat) (tb : List arow) (r0 : Option (List arow)) (hq : mf ids h h m T fu k A) (hs : md_sa ids h m S) (ha : a < 16) (hb : b < 16) (hba : b ≠ a) (hw : S.2.2.2.2.2.2.2.2.2.2 a = nI w) (hw6 : w ≤ 6) (hwb : S.2.2.2.2.2.2.2.2.2.2 b = nI wb) (hwb6 : wb ≤ 6) (hbt : mtb A b wb tb) (hbk : aok wb tb) (hr0 : mst A a w fu r0) (hww : w = wb) : rl_Met l (rl_e D ids H0) rl_BW rl_Ns yX8_makeUnite cX8_makeUnite 4 none ({ frames := 4, cells := 0, slots := 0, locals := 98 }) [.ref m, .int (nI a), .int (nI b)] h n (fun v h' n' => ∃ (fu' : Int32) (k' : Nat) (A' : md_D), v = none ∧ n' = n ∧ mf ids h h' m T fu' k' A' ∧ mop A A' a ∧ mst A' a w fu' (r0.bind (fun x => aall x (tb.map (fun r => (r.1, some r.2)))))) := by
  have tl80 := hbk.2.2
  refine rl_Met.of (by decide +kernel) (Nat.le_of_ble_eq_true rfl) ?_
  intro X hC hB
  have loop : ∀ (mm t : Nat) (h1 : rl_H) (f1 : Int32) (k1 : Nat) (A1 : md_D) (r1 : Option (List arow)), t + mm = tb.length → mf ids h h1 m T f1 k1 A1 → mop A A1 a → mst A1 a w f1 r1 → r0.bind (fun x => aall x (tb.map (fun r => (r.1, some r.2)))) = r1.bind (fun x => aall x ((tb.map (fun r => (r.1, some r.2))).drop t)) → rl_G X (rl_e D ids H0) 2 [some (.ref m), some (.int (nI a)), some (.int (nI b)), some (.int (nI t))] [] h1 n 0 0 := by
    intro mm
    induction mm with
    | zero =>
      intro t h1 f1 k1 A1 r1 hm hq1 hop hst he
      have et : t = tb.length := by omega
      subst et
      have hTb := hop.tb hwb6 hbk.2.2 (by omega) hbt hba
      have hs1 := hq1.1.sa hs
      obtain ⟨hm0, g12, g13, g14, g15, g16, g17, g18, g19, g20, g21, g22⟩ := id hq1
      have g0 := hm0.1
      have gk := hm0.2.1
      obtain ⟨a1, a2, a3, a4, a5, a6, a7, a8, a9, a10, a11⟩ := id hs1
      refine o_iload_n hC dX8_makeUnite_2 (by rfl) ?_
      refine o_aload_n hC dX8_makeUnite_3 (by rfl) ?_
      refine o_getf hC (fX8_46 hC rfl) dX8_makeUnite_4 (by repeat (first | with_reducible assumption | (rw [rl_u_s]; done) | (rw [rl_u_s]; rfl) | rw [rl_u_n (by first | with_reducible assumption | omega)])) (by first | rfl | with_reducible assumption) ?_
      refine o_iload_n hC dX8_makeUnite_7 (by rfl) ?_
      refine o_ialdN (t0 := 0) (k := b) hC rfl dX8_makeUnite_8 (by repeat (first | with_reducible assumption | (rw [rl_u_s]; done) | (rw [rl_u_s]; rfl) | rw [rl_u_n (by first | with_reducible assumption | omega)])) (by omega) (by decide) ?_
      rw [hTb.1]
      refine o_icmp_ge (tgt := 48) hC dX8_makeUnite_9 (by decide) (fun c_9 => ?_) (fun c_9 => ?_)
      · refine o_vret hC hB dX8_makeUnite_48 (Nat.le_of_ble_eq_true rfl) (Nat.le_of_ble_eq_true rfl) ?_
        refine ⟨f1, k1, A1, rfl, rfl, hq1, hop, ?_⟩
        rw [he, show r1.bind (fun x => aall x ((tb.map (fun r => (r.1, some r.2))).drop tb.length)) = r1 by rw [List.drop_eq_nil_of_le (by rw [List.length_map]; exact Nat.le_refl _)]; cases r1 <;> rfl]
        exact hst
      · exact absurd (nI_le (by omega) (by omega)) c_9
    | succ mm ih =>
      intro t h1 f1 k1 A1 r1 hm hq1 hop hst he
      have hTb := hop.tb hwb6 hbk.2.2 (by omega) hbt hba
      have hs1 := hq1.1.sa hs
      obtain ⟨hm0, g12, g13, g14, g15, g16, g17, g18, g19, g20, g21, g22⟩ := id hq1
      have g0 := hm0.1
      have gk := hm0.2.1
      obtain ⟨a1, a2, a3, a4, a5, a6, a7, a8, a9, a10, a11⟩ := id hs1
      refine o_iload_n hC dX8_makeUnite_2 (by rfl) ?_
      refine o_aload_n hC dX8_makeUnite_3 (by rfl) ?_
      refine o_getf hC (fX8_46 hC rfl) dX8_makeUnite_4 (by repeat (first | with_reducible assumption | (rw [rl_u_s]; done) | (rw [rl_u_s]; rfl) | rw [rl_u_n (by first | with_reducible assumption | omega)])) (by first | rfl | with_reducible assumption) ?_
      refine o_iload_n hC dX8_makeUnite_7 (by rfl) ?_
      refine o_ialdN (t0 := 0) (k := b) hC rfl dX8_makeUnite_8 (by repeat (first | with_reducible assumption | (rw [rl_u_s]; done) | (rw [rl_u_s]; rfl) | rw [rl_u_n (by first | with_reducible assumption | omega)])) (by omega) (by decide) ?_
      rw [hTb.1]
      refine o_icmp_ge (tgt := 48) hC dX8_makeUnite_9 (by decide) (fun c_9 => ?_) (fun c_9 => ?_)
      · refine o_vret hC hB dX8_makeUnite_48 (Nat.le_of_ble_eq_true rfl) (Nat.le_of_ble_eq_true rfl) ?_
        exact absurd c_9 (nI_ge (by omega) (by omega))
      · refine o_aload_n hC dX8_makeUnite_12 (by rfl) ?_
        refine o_getf hC (fX8_91 hC rfl) dX8_makeUnite_13 (by repeat (first | with_reducible assumption | (rw [rl_u_s]; done) | (rw [rl_u_s]; rfl) | rw [rl_u_n (by first | with_reducible assumption | omega)])) (by first | rfl | with_reducible assumption) ?_
        refine o_if_ne (tgt := 48) hC dX8_makeUnite_16 (by decide) (fun c_16 => ?_) (fun c_16 => ?_)
        · refine o_vret hC hB dX8_makeUnite_48 (Nat.le_of_ble_eq_true rfl) (Nat.le_of_ble_eq_true rfl) ?_
          rcases hst with ⟨tab1, rfl, rfl, ht1, hk1⟩ | ⟨rfl, rfl⟩
          · exact absurd rfl c_16
          · exact ⟨_, k1, A1, rfl, rfl, hq1, hop, Or.inr ⟨he, rfl⟩⟩
        · rcases hst with ⟨tab1, rfl, rfl, ht1, hk1⟩ | ⟨rfl, rfl⟩
          rotate_left
          · exact absurd c_16 (by decide +kernel)
          have hrt := hbk.2.1 _ (List.getElem_mem (show t < tb.length by omega))
          rw [← ark_at] at hrt
          refine o_aload_n hC dX8_makeUnite_19 (by rfl) ?_
          refine o_iload_n hC dX8_makeUnite_20 (by rfl) ?_
          refine o_iload_n hC dX8_makeUnite_21 (by rfl) ?_
          refine o_aload_n hC dX8_makeUnite_22 (by rfl) ?_
          refine o_getf hC (fX8_40 hC rfl) dX8_makeUnite_23 (by repeat (first | with_reducible assumption | (rw [rl_u_s]; done) | (rw [rl_u_s]; rfl) | rw [rl_u_n (by first | with_reducible assumption | omega)])) (by first | rfl | with_reducible assumption) ?_
          refine o_iload_n hC dX8_makeUnite_26 (by rfl) ?_
          refine o_ialdN (t0 := 0) (k := b) hC rfl dX8_makeUnite_27 (by repeat (first | with_reducible assumption | (rw [rl_u_s]; done) | (rw [rl_u_s]; rfl) | rw [rl_u_n (by first | with_reducible assumption | omega)])) (by omega) (by decide) ?_
          rw [hwb]
          refine o_callV3 hC rl_BW_good rl_Ns_nw (by exact hB.2.2.2.2.2) YX8_take IX8_take VX8_take (mX8_181 hC) (by rw [hB.1]; exact cf_X8_take l D ids H0 _ _ m T _ _ _ b t wb hq1.rf (by omega) (by omega) hwb6) (by exact hq1.1.1) rfl rfl (Nat.le_of_ble_eq_true rfl) (by rw [hB.2.1]; first | exact Nat.le_of_ble_eq_true rfl | (dsimp only; omega)) (by rw [hB.2.1]; first | exact Nat.le_of_ble_eq_true rfl | (dsimp only; omega)) (by rw [hB.2.1]; first | exact Nat.le_of_ble_eq_true rfl | (dsimp only; omega)) (by rw [hB.2.1]; first | exact Nat.le_of_ble_eq_true rfl | (dsimp only; omega)) dX8_makeUnite_28 (fun v h_28 n_28 p_28 => ?_)
          obtain ⟨tp2, rfl, rfl, q28, e28⟩ := p_28
          have hq2 := hq1.tr q28
          have hs2 := hq2.1.sa hs
          have ekey : rcl tp2 w = (ark tb t).1 := by
            rw [← (hTb.2 t (by omega)).1, hww]
            exact rsg_eq (fun i _ hi => (e28 i).trans (if_pos (by omega)))
          try dsimp only [Option.toList, List.cons_append, List.nil_append]
          refine o_aload_n hC dX8_makeUnite_31 (by rfl) ?_
          refine o_iload_n hC dX8_makeUnite_32 (by rfl) ?_
          refine o_bipush (v := nI 80) hC dX8_makeUnite_33 (by decide +kernel) ?_
          refine o_iload_n hC dX8_makeUnite_35 (by rfl) ?_
          refine o_imul hC dX8_makeUnite_36 ?_
          try rw [nI_mul]
          refine o_iload_n hC dX8_makeUnite_37 (by rfl) ?_
          refine o_iadd hC dX8_makeUnite_38 ?_
          try rw [nI_add]
          refine o_callV2 hC rl_BW_good rl_Ns_nw (by exact hB.2.2.2.2.2) YX8_comes IX8_comes VX8_comes (mX8_178 hC) (by rw [hB.1]; exact cf_X8_comes l D ids H0 _ _ m T _ _ _ S a (80 * b + t) w _ _ hq2.rf hs2 (by omega) (by omega) (by omega) hw hw6 rfl ht1 hk1 (hTb.2 t (by omega)).2 hrt.2.1) (by exact hq2.1.1) rfl rfl (Nat.le_of_ble_eq_true rfl) (by rw [hB.2.1]; first | exact Nat.le_of_ble_eq_true rfl | (dsimp only; omega)) (by rw [hB.2.1]; first | exact Nat.le_of_ble_eq_true rfl | (dsimp only; omega)) (by rw [hB.2.1]; first | exact Nat.le_of_ble_eq_true rfl | (dsimp only; omega)) (by rw [hB.2.1]; first | exact Nat.le_of_ble_eq_true rfl | (dsimp only; omega)) dX8_makeUnite_39 (fun v h_39 n_39 p_39 => ?_)
          obtain ⟨f39, k39, A4, rfl, rfl, q39, r39, u39⟩ := p_39
          try dsimp only [Option.toList, List.cons_append, List.nil_append]
          refine o_iinc hC dX8_makeUnite_42 (by rfl) (rl_inc _) (Nat.le_of_ble_eq_true rfl) ?_
          refine o_goto (tgt := 2) hC dX8_makeUnite_45 (by decide) ?_
          have hop2 : mop A A4 a := hop.tr (mop.tr ⟨fun _ _ => rfl, fun _ _ => rfl, rfl, fun _ _ _ => rfl, fun _ _ _ => ⟨rfl, rfl⟩, rfl⟩ r39.op)
          have u39 : (∃ tab' : List arow, aput tab1 (rcl tp2 w) (ark tb t).2 = some tab' ∧ f39 = nI 0 ∧ mtb A4 a w tab') ∨ (aput tab1 (rcl tp2 w) (ark tb t).2 = none ∧ f39 = nI 1) := u39
          rw [ekey] at u39
          refine ih (t + 1) _ f39 k39 A4 (aput tab1 (ark tb t).1 (ark tb t).2) (by omega) (hq2.tr q39) hop2 ?_ ?_
          · rcases u39 with ⟨tab', h1, h2, h3⟩ | ⟨h1, h2⟩
            · exact Or.inl ⟨tab', h1, h2, h3, aput_ok hk1 (by rw [← ekey]; exact rsg_len _ 0 w) hrt.2.1 h1⟩
            · exact Or.inr ⟨h1, h2⟩
          · rw [he, ark_drop (show t < tb.length by omega)]
            rfl
  show rl_G X (rl_e D ids H0) 0 [some (.ref m), some (.int (nI a)), some (.int (nI b)), none] [] h n 0 0
  refine o_iconst (v := nI 0) hC dX8_makeUnite_0 (by decide +kernel) ?_
  refine o_istore_n hC dX8_makeUnite_1 (Nat.le_of_ble_eq_true rfl) ?_
  exact loop tb.length 0 _ _ _ A r0 (by omega) hq mop.rf hr0 rfl

set_option maxHeartbeats 4000000 in
set_option maxRecDepth 100000 in
theorem cf_X8_comes1 (l : Launch) (D : va_G) (ids : Nat → ClassId) (H0 : Heap) (h : rl_H) (n : Nat) (m : Nat) (T : md_T) (fu : Int32) (k : Nat) (A : md_D) (a b : Nat) (hq : mf ids h h m T fu k A) (hfu : fu = nI 1) : rl_Met l (rl_e D ids H0) rl_BW rl_Ns yX8_comes cX8_comes 6 none ({ frames := 3, cells := 0, slots := 0, locals := 73 }) [.ref m, .int (nI a), .int (nI b)] h n (fun v h' n' => v = none ∧ n' = n ∧ h' = h) := by
  obtain ⟨hm0, g12, g13, g14, g15, g16, g17, g18, g19, g20, g21, g22⟩ := id hq
  have g0 := hm0.1
  have gk := hm0.2.1
  have b13 := hq.b13
  have b15 := hq.b15
  have b21 := hq.b21
  refine rl_Met.of (by decide +kernel) (Nat.le_of_ble_eq_true rfl) ?_
  intro X hC hB
  show rl_G X (rl_e D ids H0) 0 [some (.ref m), some (.int (nI a)), some (.int (nI b)), none, none, none] [] h n 0 0
  refine o_aload_n hC dX8_comes_0 (by rfl) ?_
  refine o_getf hC (fX8_91 hC rfl) dX8_comes_1 (by repeat (first | with_reducible assumption | (rw [rl_u_s]; done) | (rw [rl_u_s]; rfl) | rw [rl_u_n (by first | with_reducible assumption | omega)])) (by first | rfl | with_reducible assumption) ?_
  refine o_if_ne (tgt := 16) hC dX8_comes_4 (by decide) (fun c_4 => ?_) (fun c_4 => ?_)
  · refine o_vret hC hB dX8_comes_16 (Nat.le_of_ble_eq_true rfl) (Nat.le_of_ble_eq_true rfl) ?_
    exact ⟨rfl, rfl, rfl⟩
  · exact absurd (hfu.symm.trans c_4) (by decide +kernel)

def pcnd (op x y : Int32) : Bool := if op = 0 then !decide (y ≤ x) else if op = nI 1 then decide (x = y) else !decide (x ≤ y)
abbrev acg (r : arow) (c : Nat) : Int32 := r.1.getD c 0
/-- which TUPLES PICK leaves -/
abbrev ppk (op v : Int32) (ca : Nat) (cc : Option Nat) (r : arow) : Bool := pcnd op (acg r ca) (cc.elim v (acg r))
theorem rsg_get {f : Nat → Int32} {w c : Nat} (h : c < w) : (rcl f w).getD c 0 = f c := by
  show (rsg f 0 w).getD c 0 = f c
  unfold rsg
  rw [List.getD_eq_getElem?_getD, List.getElem?_map, List.getElem?_range' h]
  show f (0 + 1 * c) = f c
  rw [Nat.zero_add, Nat.one_mul]
theorem mrw.cg {A : md_D} {a w j c : Nat} {r : arow} (h : mrw A a w j r) (hc : c < w) : mcl A a j c = acg r c := by
  show _ = r.1.getD c 0
  rw [← h.1, rsg_get hc]
theorem ark_dropp {tab : List arow} {t : Nat} (h : t < tab.length) : tab.drop t = ark tab t :: tab.drop (t + 1) := by
  rw [List.drop_eq_getElem_cons h, ark_at h]

set_option maxHeartbeats 4000000 in
set_option maxRecDepth 100000 in
theorem cf_X8_makePick (l : Launch) (D : va_G) (ids : Nat → ClassId) (H0 : Heap) (h : rl_H) (n : Nat) (m : Nat) (T : md_T) (fu : Int32) (k : Nat) (A : md_D) (S : md_A) (a b w wb : Nat) (tb : List arow) (r0 : Option (List arow)) (ca : Nat) (cc : Option Nat) (hq : mf ids h h m T fu k A) (hs : md_sa ids h m S) (ha : a < 16) (hb : b < 16) (hba : b ≠ a) (hw : S.2.2.2.2.2.2.2.2.2.2 a = nI w) (hw6 : w ≤ 6) (hwb : S.2.2.2.2.2.2.2.2.2.2 b = nI wb) (hwb6 : wb ≤ 6) (hbt : mtb A b wb tb) (hbk : aok wb tb) (hr0 : mst A a w fu r0) (hww : w = wb) (hnA : S.2.2.2.2.2.2.1 a = nI ca) (hca : ca < wb) (hnC : (cc = none ∧ S.2.2.2.2.2.2.2.2.1 a = -1) ∨ ∃ c : Nat, cc = some c ∧ c < wb ∧ S.2.2.2.2.2.2.2.2.1 a = nI c) : rl_Met l (rl_e D ids H0) rl_BW rl_Ns yX8_makePick cX8_makePick 7 none ({ frames := 4, cells := 0, slots := 0, locals := 98 }) [.ref m, .int (nI a), .int (nI b)] h n (fun v h' n' => ∃ (fu' : Int32) (k' : Nat) (A' : md_D), v = none ∧ n' = n ∧ mf ids h h' m T fu' k' A' ∧ mop A A' a ∧ mst A' a w fu' (r0.bind (fun x => aall x ((tb.filter (fun r => ppk (S.2.2.2.2.2.2.2.1 a) (S.2.2.2.2.2.2.2.2.2.1 a) ca cc r)).map (fun r => (r.1, some r.2)))))) := by
  have tl80 := hbk.2.2
  refine rl_Met.of (by decide +kernel) (Nat.le_of_ble_eq_true rfl) ?_
  intro X hC hB
  have loop : ∀ (mm t : Nat) (h1 : rl_H) (f1 : Int32) (k1 : Nat) (A1 : md_D) (r1 : Option (List arow)) (o4 o5 o6 : Option Value), t + mm = tb.length → mf ids h h1 m T f1 k1 A1 → mop A A1 a → mst A1 a w f1 r1 → r0.bind (fun x => aall x ((tb.filter (fun r => ppk (S.2.2.2.2.2.2.2.1 a) (S.2.2.2.2.2.2.2.2.2.1 a) ca cc r)).map (fun r => (r.1, some r.2)))) = r1.bind (fun x => aall x (((tb.drop t).filter (fun r => ppk (S.2.2.2.2.2.2.2.1 a) (S.2.2.2.2.2.2.2.2.2.1 a) ca cc r)).map (fun r => (r.1, some r.2)))) → rl_G X (rl_e D ids H0) 2 [some (.ref m), some (.int (nI a)), some (.int (nI b)), some (.int (nI t)), o4, o5, o6] [] h1 n 0 0 := by
    intro mm
    induction mm with
    | zero =>
      intro t h1 f1 k1 A1 r1 o4 o5 o6 hm hq1 hop hst he
      have et : t = tb.length := by omega
      subst et
      have hTb := hop.tb hwb6 hbk.2.2 (by omega) hbt hba
      have hs1 := hq1.1.sa hs
      obtain ⟨hm0, g12, g13, g14, g15, g16, g17, g18, g19, g20, g21, g22⟩ := id hq1
      have g0 := hm0.1
      have gk := hm0.2.1
      obtain ⟨a1, a2, a3, a4, a5, a6, a7, a8, a9, a10, a11⟩ := id hs1
      refine o_iload_n hC dX8_makePick_2 (by rfl) ?_
      refine o_aload_n hC dX8_makePick_3 (by rfl) ?_
      refine o_getf hC (fX8_46 hC rfl) dX8_makePick_4 (by repeat (first | with_reducible assumption | (rw [rl_u_s]; done) | (rw [rl_u_s]; rfl) | rw [rl_u_n (by first | with_reducible assumption | omega)])) (by first | rfl | with_reducible assumption) ?_
      refine o_iload_n hC dX8_makePick_7 (by rfl) ?_
      refine o_ialdN (t0 := 0) (k := b) hC rfl dX8_makePick_8 (by repeat (first | with_reducible assumption | (rw [rl_u_s]; done) | (rw [rl_u_s]; rfl) | rw [rl_u_n (by first | with_reducible assumption | omega)])) (by omega) (by decide) ?_
      rw [hTb.1]
      refine o_icmp_ge (tgt := 156) hC dX8_makePick_9 (by decide) (fun c_9 => ?_) (fun c_9 => ?_)
      · refine o_vret hC hB dX8_makePick_156 (Nat.le_of_ble_eq_true rfl) (Nat.le_of_ble_eq_true rfl) ?_
        refine ⟨f1, k1, A1, rfl, rfl, hq1, hop, ?_⟩
        rw [he, show r1.bind (fun x => aall x (((tb.drop tb.length).filter (fun r => ppk (S.2.2.2.2.2.2.2.1 a) (S.2.2.2.2.2.2.2.2.2.1 a) ca cc r)).map (fun r => (r.1, some r.2)))) = r1 by rw [List.drop_eq_nil_of_le (Nat.le_refl _)]; cases r1 <;> rfl]
        exact hst
      · exact absurd (nI_le (by omega) (by omega)) c_9
    | succ mm ih =>
      intro t h1 f1 k1 A1 r1 o4 o5 o6 hm hq1 hop hst he
      have hTb := hop.tb hwb6 hbk.2.2 (by omega) hbt hba
      have hrt := hbk.2.1 _ (List.getElem_mem (show t < tb.length by omega))
      rw [← ark_at] at hrt
      have hrw := hTb.2 t (by omega)
      rw [ark_dropp (show t < tb.length by omega)] at he
      have go : ∀ (z : Int32) (o4 o5 : Option Value), z = (if ppk (S.2.2.2.2.2.2.2.1 a) (S.2.2.2.2.2.2.2.2.2.1 a) ca cc (ark tb t) then nI 1 else nI 0) → rl_G X (rl_e D ids H0) 122 [some (.ref m), some (.int (nI a)), some (.int (nI b)), some (.int (nI t)), o4, o5, some (.int z)] [] h1 n 0 0 := by
        intro z o4 o5 hz
        have hs1 := hq1.1.sa hs
        obtain ⟨hm0, g12, g13, g14, g15, g16, g17, g18, g19, g20, g21, g22⟩ := id hq1
        have g0 := hm0.1
        have gk := hm0.2.1
        obtain ⟨a1, a2, a3, a4, a5, a6, a7, a8, a9, a10, a11⟩ := id hs1
        rcases hst with ⟨tab1, rfl, rfl, ht1, hk1⟩ | ⟨rfl, rfl⟩
        · refine o_iload hC dX8_makePick_122 (by rfl) ?_
          refine o_if_eq (tgt := 150) hC dX8_makePick_124 (by decide) (fun c_124 => ?_) (fun c_124 => ?_)
          · refine o_iinc hC dX8_makePick_150 (by rfl) (rl_inc _) (Nat.le_of_ble_eq_true rfl) ?_
            refine o_goto (tgt := 2) hC dX8_makePick_153 (by decide) ?_
            have hp : ¬ ppk (S.2.2.2.2.2.2.2.1 a) (S.2.2.2.2.2.2.2.2.2.1 a) ca cc (ark tb t) = true := by
              intro e
              rw [e] at hz
              exact absurd (hz.symm.trans c_124) (by decide +kernel)
            rw [List.filter_cons_of_neg (p := (fun r => ppk (S.2.2.2.2.2.2.2.1 a) (S.2.2.2.2.2.2.2.2.2.1 a) ca cc r)) hp] at he
            exact ih (t + 1) _ _ _ A1 _ _ _ _ (by omega) hq1 hop (Or.inl ⟨tab1, rfl, rfl, ht1, hk1⟩) he
          · have hp : ppk (S.2.2.2.2.2.2.2.1 a) (S.2.2.2.2.2.2.2.2.2.1 a) ca cc (ark tb t) = true := by
              cases e : ppk (S.2.2.2.2.2.2.2.1 a) (S.2.2.2.2.2.2.2.2.2.1 a) ca cc (ark tb t) with
              | true => rfl
              | false => rw [e] at hz; exact absurd hz c_124
            refine o_aload_n hC dX8_makePick_127 (by rfl) ?_
            refine o_iload_n hC dX8_makePick_128 (by rfl) ?_
            refine o_iload_n hC dX8_makePick_129 (by rfl) ?_
            refine o_aload_n hC dX8_makePick_130 (by rfl) ?_
            refine o_getf hC (fX8_40 hC rfl) dX8_makePick_131 (by repeat (first | with_reducible assumption | (rw [rl_u_s]; done) | (rw [rl_u_s]; rfl) | rw [rl_u_n (by first | with_reducible assumption | omega)])) (by first | rfl | with_reducible assumption) ?_
            refine o_iload_n hC dX8_makePick_134 (by rfl) ?_
            refine o_ialdN (t0 := 0) (k := b) hC rfl dX8_makePick_135 (by repeat (first | with_reducible assumption | (rw [rl_u_s]; done) | (rw [rl_u_s]; rfl) | rw [rl_u_n (by first | with_reducible assumption | omega)])) (by omega) (by decide) ?_
            rw [hwb]
            refine o_callV3 hC rl_BW_good rl_Ns_nw (by exact hB.2.2.2.2.2) YX8_take IX8_take VX8_take (mX8_181 hC) (by rw [hB.1]; exact cf_X8_take l D ids H0 _ _ m T _ _ _ b t wb hq1.rf (by omega) (by omega) hwb6) (by exact hq1.1.1) rfl rfl (Nat.le_of_ble_eq_true rfl) (by rw [hB.2.1]; first | exact Nat.le_of_ble_eq_true rfl | (dsimp only; omega)) (by rw [hB.2.1]; first | exact Nat.le_of_ble_eq_true rfl | (dsimp only; omega)) (by rw [hB.2.1]; first | exact Nat.le_of_ble_eq_true rfl | (dsimp only; omega)) (by rw [hB.2.1]; first | exact Nat.le_of_ble_eq_true rfl | (dsimp only; omega)) dX8_makePick_136 (fun v h_136 n_136 p_136 => ?_)
            obtain ⟨tp2, rfl, rfl, q136, e136⟩ := p_136
            have hq2 := hq1.tr q136
            have hs2 := hq2.1.sa hs
            have ekey : rcl tp2 w = (ark tb t).1 := by
              rw [← hrw.1, hww]
              exact rsg_eq (fun i _ hi => (e136 i).trans (if_pos (by omega)))
            try dsimp only [Option.toList, List.cons_append, List.nil_append]
            refine o_aload_n hC dX8_makePick_139 (by rfl) ?_
            refine o_iload_n hC dX8_makePick_140 (by rfl) ?_
            refine o_bipush (v := nI 80) hC dX8_makePick_141 (by decide +kernel) ?_
            refine o_iload_n hC dX8_makePick_143 (by rfl) ?_
            refine o_imul hC dX8_makePick_144 ?_
            try rw [nI_mul]
            refine o_iload_n hC dX8_makePick_145 (by rfl) ?_
            refine o_iadd hC dX8_makePick_146 ?_
            try rw [nI_add]
            refine o_callV2 hC rl_BW_good rl_Ns_nw (by exact hB.2.2.2.2.2) YX8_comes IX8_comes VX8_comes (mX8_178 hC) (by rw [hB.1]; exact cf_X8_comes l D ids H0 _ _ m T _ _ _ S a (80 * b + t) w _ _ hq2.rf hs2 (by omega) (by omega) (by omega) hw hw6 rfl ht1 hk1 hrw.2 hrt.2.1) (by exact hq2.1.1) rfl rfl (Nat.le_of_ble_eq_true rfl) (by rw [hB.2.1]; first | exact Nat.le_of_ble_eq_true rfl | (dsimp only; omega)) (by rw [hB.2.1]; first | exact Nat.le_of_ble_eq_true rfl | (dsimp only; omega)) (by rw [hB.2.1]; first | exact Nat.le_of_ble_eq_true rfl | (dsimp only; omega)) (by rw [hB.2.1]; first | exact Nat.le_of_ble_eq_true rfl | (dsimp only; omega)) dX8_makePick_147 (fun v h_147 n_147 p_147 => ?_)
            obtain ⟨f147, k147, A4, rfl, rfl, q147, r147, u147⟩ := p_147
            try dsimp only [Option.toList, List.cons_append, List.nil_append]
            refine o_iinc hC dX8_makePick_150 (by rfl) (rl_inc _) (Nat.le_of_ble_eq_true rfl) ?_
            refine o_goto (tgt := 2) hC dX8_makePick_153 (by decide) ?_
            have hop2 : mop A A4 a := hop.tr (mop.tr ⟨fun _ _ => rfl, fun _ _ => rfl, rfl, fun _ _ _ => rfl, fun _ _ _ => ⟨rfl, rfl⟩, rfl⟩ r147.op)
            have u39 : (∃ tab' : List arow, aput tab1 (rcl tp2 w) (ark tb t).2 = some tab' ∧ f147 = nI 0 ∧ mtb A4 a w tab') ∨ (aput tab1 (rcl tp2 w) (ark tb t).2 = none ∧ f147 = nI 1) := u147
            rw [ekey] at u39
            refine ih (t + 1) _ f147 k147 A4 (aput tab1 (ark tb t).1 (ark tb t).2) _ _ _ (by omega) (hq2.tr q147) hop2 ?_ ?_
            · rcases u39 with ⟨tab', h1, h2, h3⟩ | ⟨h1, h2⟩
              · exact Or.inl ⟨tab', h1, h2, h3, aput_ok hk1 (by rw [← ekey]; exact rsg_len _ 0 w) hrt.2.1 h1⟩
              · exact Or.inr ⟨h1, h2⟩
            · rw [he, List.filter_cons_of_pos (p := (fun r => ppk (S.2.2.2.2.2.2.2.1 a) (S.2.2.2.2.2.2.2.2.2.1 a) ca cc r)) hp]
              rfl
        · refine o_iload hC dX8_makePick_122 (by rfl) ?_
          refine o_if_eq (tgt := 150) hC dX8_makePick_124 (by decide) (fun c_124 => ?_) (fun c_124 => ?_)
          · refine o_iinc hC dX8_makePick_150 (by rfl) (rl_inc _) (Nat.le_of_ble_eq_true rfl) ?_
            refine o_goto (tgt := 2) hC dX8_makePick_153 (by decide) ?_
            have hp : ¬ ppk (S.2.2.2.2.2.2.2.1 a) (S.2.2.2.2.2.2.2.2.2.1 a) ca cc (ark tb t) = true := by
              intro e
              rw [e] at hz
              exact absurd (hz.symm.trans c_124) (by decide +kernel)
            rw [List.filter_cons_of_neg (p := (fun r => ppk (S.2.2.2.2.2.2.2.1 a) (S.2.2.2.2.2.2.2.2.2.1 a) ca cc r)) hp] at he
            exact ih (t + 1) _ _ _ A1 _ _ _ _ (by omega) hq1 hop (Or.inr ⟨rfl, rfl⟩) he
          · have hp : ppk (S.2.2.2.2.2.2.2.1 a) (S.2.2.2.2.2.2.2.2.2.1 a) ca cc (ark tb t) = true := by
              cases e : ppk (S.2.2.2.2.2.2.2.1 a) (S.2.2.2.2.2.2.2.2.2.1 a) ca cc (ark tb t) with
              | true => rfl
              | false => rw [e] at hz; exact absurd hz c_124
            refine o_aload_n hC dX8_makePick_127 (by rfl) ?_
            refine o_iload_n hC dX8_makePick_128 (by rfl) ?_
            refine o_iload_n hC dX8_makePick_129 (by rfl) ?_
            refine o_aload_n hC dX8_makePick_130 (by rfl) ?_
            refine o_getf hC (fX8_40 hC rfl) dX8_makePick_131 (by repeat (first | with_reducible assumption | (rw [rl_u_s]; done) | (rw [rl_u_s]; rfl) | rw [rl_u_n (by first | with_reducible assumption | omega)])) (by first | rfl | with_reducible assumption) ?_
            refine o_iload_n hC dX8_makePick_134 (by rfl) ?_
            refine o_ialdN (t0 := 0) (k := b) hC rfl dX8_makePick_135 (by repeat (first | with_reducible assumption | (rw [rl_u_s]; done) | (rw [rl_u_s]; rfl) | rw [rl_u_n (by first | with_reducible assumption | omega)])) (by omega) (by decide) ?_
            rw [hwb]
            refine o_callV3 hC rl_BW_good rl_Ns_nw (by exact hB.2.2.2.2.2) YX8_take IX8_take VX8_take (mX8_181 hC) (by rw [hB.1]; exact cf_X8_take l D ids H0 _ _ m T _ _ _ b t wb hq1.rf (by omega) (by omega) hwb6) (by exact hq1.1.1) rfl rfl (Nat.le_of_ble_eq_true rfl) (by rw [hB.2.1]; first | exact Nat.le_of_ble_eq_true rfl | (dsimp only; omega)) (by rw [hB.2.1]; first | exact Nat.le_of_ble_eq_true rfl | (dsimp only; omega)) (by rw [hB.2.1]; first | exact Nat.le_of_ble_eq_true rfl | (dsimp only; omega)) (by rw [hB.2.1]; first | exact Nat.le_of_ble_eq_true rfl | (dsimp only; omega)) dX8_makePick_136 (fun v h_136 n_136 p_136 => ?_)
            obtain ⟨tp2, rfl, rfl, q136, e136⟩ := p_136
            have hq2 := hq1.tr q136
            have hs2 := hq2.1.sa hs
            have ekey : rcl tp2 w = (ark tb t).1 := by
              rw [← hrw.1, hww]
              exact rsg_eq (fun i _ hi => (e136 i).trans (if_pos (by omega)))
            try dsimp only [Option.toList, List.cons_append, List.nil_append]
            refine o_aload_n hC dX8_makePick_139 (by rfl) ?_
            refine o_iload_n hC dX8_makePick_140 (by rfl) ?_
            refine o_bipush (v := nI 80) hC dX8_makePick_141 (by decide +kernel) ?_
            refine o_iload_n hC dX8_makePick_143 (by rfl) ?_
            refine o_imul hC dX8_makePick_144 ?_
            try rw [nI_mul]
            refine o_iload_n hC dX8_makePick_145 (by rfl) ?_
            refine o_iadd hC dX8_makePick_146 ?_
            try rw [nI_add]
            refine o_callV2 hC rl_BW_good rl_Ns_nw (by exact hB.2.2.2.2.2) YX8_comes IX8_comes VX8_comes (mX8_178 hC) (by rw [hB.1]; exact cf_X8_comes1 l D ids H0 _ _ m T _ _ _ a (80 * b + t) hq2.rf rfl) (by exact hq2.1.1) rfl rfl (Nat.le_of_ble_eq_true rfl) (by rw [hB.2.1]; first | exact Nat.le_of_ble_eq_true rfl | (dsimp only; omega)) (by rw [hB.2.1]; first | exact Nat.le_of_ble_eq_true rfl | (dsimp only; omega)) (by rw [hB.2.1]; first | exact Nat.le_of_ble_eq_true rfl | (dsimp only; omega)) (by rw [hB.2.1]; first | exact Nat.le_of_ble_eq_true rfl | (dsimp only; omega)) dX8_makePick_147 (fun v h_147 n_147 p_147 => ?_)
            obtain ⟨rfl, rfl, rfl⟩ := p_147
            try dsimp only [Option.toList, List.cons_append, List.nil_append]
            refine o_iinc hC dX8_makePick_150 (by rfl) (rl_inc _) (Nat.le_of_ble_eq_true rfl) ?_
            refine o_goto (tgt := 2) hC dX8_makePick_153 (by decide) ?_
            refine ih (t + 1) _ _ _ _ none _ _ _ (by omega) hq2 (hop.tr ⟨fun _ _ => rfl, fun _ _ => rfl, rfl, fun _ _ _ => rfl, fun _ _ _ => ⟨rfl, rfl⟩, rfl⟩) (Or.inr ⟨rfl, rfl⟩) ?_
            rw [he]
            rfl
      have hs1 := hq1.1.sa hs
      obtain ⟨hm0, g12, g13, g14, g15, g16, g17, g18, g19, g20, g21, g22⟩ := id hq1
      have g0 := hm0.1
      have gk := hm0.2.1
      obtain ⟨a1, a2, a3, a4, a5, a6, a7, a8, a9, a10, a11⟩ := id hs1
      refine o_iload_n hC dX8_makePick_2 (by rfl) ?_
      refine o_aload_n hC dX8_makePick_3 (by rfl) ?_
      refine o_getf hC (fX8_46 hC rfl) dX8_makePick_4 (by repeat (first | with_reducible assumption | (rw [rl_u_s]; done) | (rw [rl_u_s]; rfl) | rw [rl_u_n (by first | with_reducible assumption | omega)])) (by first | rfl | with_reducible assumption) ?_
      refine o_iload_n hC dX8_makePick_7 (by rfl) ?_
      refine o_ialdN (t0 := 0) (k := b) hC rfl dX8_makePick_8 (by repeat (first | with_reducible assumption | (rw [rl_u_s]; done) | (rw [rl_u_s]; rfl) | rw [rl_u_n (by first | with_reducible assumption | omega)])) (by omega) (by decide) ?_
      rw [hTb.1]
      refine o_icmp_ge (tgt := 156) hC dX8_makePick_9 (by decide) (fun c_9 => ?_) (fun c_9 => ?_)
      · refine o_vret hC hB dX8_makePick_156 (Nat.le_of_ble_eq_true rfl) (Nat.le_of_ble_eq_true rfl) ?_
        exact absurd c_9 (nI_ge (by omega) (by omega))
      · refine o_aload_n hC dX8_makePick_12 (by rfl) ?_
        refine o_iload_n hC dX8_makePick_13 (by rfl) ?_
        refine o_iload_n hC dX8_makePick_14 (by rfl) ?_
        refine o_aload_n hC dX8_makePick_15 (by rfl) ?_
        refine o_getf hC (fX8_28 hC rfl) dX8_makePick_16 (by repeat (first | with_reducible assumption | (rw [rl_u_s]; done) | (rw [rl_u_s]; rfl) | rw [rl_u_n (by first | with_reducible assumption | omega)])) (by first | rfl | with_reducible assumption) ?_
        refine o_iload_n hC dX8_makePick_19 (by rfl) ?_
        refine o_ialdN (t0 := 0) (k := a) hC rfl dX8_makePick_20 (by repeat (first | with_reducible assumption | (rw [rl_u_s]; done) | (rw [rl_u_s]; rfl) | rw [rl_u_n (by first | with_reducible assumption | omega)])) (by omega) (by decide) ?_
        rw [hnA]
        refine o_callV3 hC rl_BW_good rl_Ns_nw (by exact hB.2.2.2.2.2) YX8_cellAt IX8_cellAt VX8_cellAt (mX8_138 hC) (by rw [hB.1]; exact cf_X8_cellAt l D ids H0 _ _ m T _ _ _ b t ca hq1.rf (by omega)) (by exact hq1.rf.1.1) rfl rfl (Nat.le_of_ble_eq_true rfl) (by rw [hB.2.1]; first | exact Nat.le_of_ble_eq_true rfl | (dsimp only; omega)) (by rw [hB.2.1]; first | exact Nat.le_of_ble_eq_true rfl | (dsimp only; omega)) (by rw [hB.2.1]; first | exact Nat.le_of_ble_eq_true rfl | (dsimp only; omega)) (by rw [hB.2.1]; first | exact Nat.le_of_ble_eq_true rfl | (dsimp only; omega)) dX8_makePick_21 (fun v h_21 n_21 p_21 => ?_)
        obtain ⟨rfl, rfl, rfl⟩ := p_21
        try dsimp only [Option.toList, List.cons_append, List.nil_append]
        refine o_istore hC dX8_makePick_24 (Nat.le_of_ble_eq_true rfl) ?_
        refine o_aload_n hC dX8_makePick_26 (by rfl) ?_
        refine o_getf hC (fX8_34 hC rfl) dX8_makePick_27 (by repeat (first | with_reducible assumption | (rw [rl_u_s]; done) | (rw [rl_u_s]; rfl) | rw [rl_u_n (by first | with_reducible assumption | omega)])) (by first | rfl | with_reducible assumption) ?_
        refine o_iload_n hC dX8_makePick_30 (by rfl) ?_
        refine o_ialdN (t0 := 0) hC rfl dX8_makePick_31 (by repeat (first | with_reducible assumption | (rw [rl_u_s]; done) | (rw [rl_u_s]; rfl) | rw [rl_u_n (by first | with_reducible assumption | omega)])) (by omega) (by decide) ?_
        refine o_iconst (v := (-1 : Int32)) hC dX8_makePick_32 (by decide +kernel) ?_
        refine o_icmp_ne (tgt := 45) hC dX8_makePick_33 (by decide) (fun c_33 => ?_) (fun c_33 => ?_)
        · obtain ⟨c0, ecc, hcc, ec⟩ := hnC.resolve_left (fun e => c_33 e.2)
          have eX : ppk (S.2.2.2.2.2.2.2.1 a) (S.2.2.2.2.2.2.2.2.2.1 a) ca cc (ark tb t) = pcnd (S.2.2.2.2.2.2.2.1 a) (mcl A1 b t ca) (mcl A1 b t c0) := by
            subst ecc
            show pcnd _ (acg _ ca) (acg _ c0) = _
            rw [hrw.cg hca, hrw.cg hcc]
          have eY : (0 : Nat) = 0 := rfl
          refine o_aload_n hC dX8_makePick_45 (by rfl) ?_
          refine o_iload_n hC dX8_makePick_46 (by rfl) ?_
          refine o_iload_n hC dX8_makePick_47 (by rfl) ?_
          refine o_aload_n hC dX8_makePick_48 (by rfl) ?_
          refine o_getf hC (fX8_34 hC rfl) dX8_makePick_49 (by repeat (first | with_reducible assumption | (rw [rl_u_s]; done) | (rw [rl_u_s]; rfl) | rw [rl_u_n (by first | with_reducible assumption | omega)])) (by first | rfl | with_reducible assumption) ?_
          refine o_iload_n hC dX8_makePick_52 (by rfl) ?_
          refine o_ialdN (t0 := 0) (k := a) hC rfl dX8_makePick_53 (by repeat (first | with_reducible assumption | (rw [rl_u_s]; done) | (rw [rl_u_s]; rfl) | rw [rl_u_n (by first | with_reducible assumption | omega)])) (by omega) (by decide) ?_
          rw [ec]
          refine o_callV3 hC rl_BW_good rl_Ns_nw (by exact hB.2.2.2.2.2) YX8_cellAt IX8_cellAt VX8_cellAt (mX8_138 hC) (by rw [hB.1]; exact cf_X8_cellAt l D ids H0 _ _ m T _ _ _ b t c0 hq1.rf (by omega)) (by exact hq1.rf.1.1) rfl rfl (Nat.le_of_ble_eq_true rfl) (by rw [hB.2.1]; first | exact Nat.le_of_ble_eq_true rfl | (dsimp only; omega)) (by rw [hB.2.1]; first | exact Nat.le_of_ble_eq_true rfl | (dsimp only; omega)) (by rw [hB.2.1]; first | exact Nat.le_of_ble_eq_true rfl | (dsimp only; omega)) (by rw [hB.2.1]; first | exact Nat.le_of_ble_eq_true rfl | (dsimp only; omega)) dX8_makePick_54 (fun v h_54 n_54 p_54 => ?_)
          obtain ⟨rfl, rfl, rfl⟩ := p_54
          try dsimp only [Option.toList, List.cons_append, List.nil_append]
          refine o_istore hC dX8_makePick_57 (Nat.le_of_ble_eq_true rfl) ?_
          refine o_aload_n hC dX8_makePick_59 (by rfl) ?_
          refine o_getf hC (fX8_31 hC rfl) dX8_makePick_60 (by repeat (first | with_reducible assumption | (rw [rl_u_s]; done) | (rw [rl_u_s]; rfl) | rw [rl_u_n (by first | with_reducible assumption | omega)])) (by first | rfl | with_reducible assumption) ?_
          refine o_iload_n hC dX8_makePick_63 (by rfl) ?_
          refine o_ialdN (t0 := 0) hC rfl dX8_makePick_64 (by repeat (first | with_reducible assumption | (rw [rl_u_s]; done) | (rw [rl_u_s]; rfl) | rw [rl_u_n (by first | with_reducible assumption | omega)])) (by omega) (by decide) ?_
          refine o_if_ne (tgt := 83) hC dX8_makePick_65 (by decide) (fun c_65 => ?_) (fun c_65 => ?_)
          · refine o_aload_n hC dX8_makePick_83 (by rfl) ?_
            refine o_getf hC (fX8_31 hC rfl) dX8_makePick_84 (by repeat (first | with_reducible assumption | (rw [rl_u_s]; done) | (rw [rl_u_s]; rfl) | rw [rl_u_n (by first | with_reducible assumption | omega)])) (by first | rfl | with_reducible assumption) ?_
            refine o_iload_n hC dX8_makePick_87 (by rfl) ?_
            refine o_ialdN (t0 := 0) hC rfl dX8_makePick_88 (by repeat (first | with_reducible assumption | (rw [rl_u_s]; done) | (rw [rl_u_s]; rfl) | rw [rl_u_n (by first | with_reducible assumption | omega)])) (by omega) (by decide) ?_
            refine o_iconst (v := nI 1) hC dX8_makePick_89 (by decide +kernel) ?_
            refine o_icmp_ne (tgt := 108) hC dX8_makePick_90 (by decide) (fun c_90 => ?_) (fun c_90 => ?_)
            · refine o_iload hC dX8_makePick_108 (by rfl) ?_
              refine o_iload hC dX8_makePick_110 (by rfl) ?_
              refine o_icmp_le (tgt := 119) hC dX8_makePick_112 (by decide) (fun c_112 => ?_) (fun c_112 => ?_)
              · refine o_iconst (v := nI 0) hC dX8_makePick_119 (by decide +kernel) ?_
                refine o_istore hC dX8_makePick_120 (Nat.le_of_ble_eq_true rfl) ?_
                first
                | exact go _ _ _ (by rw [eX]; unfold pcnd; rw [if_neg c_65, if_neg c_90, decide_eq_true c_112]; rfl)
                | exact go _ _ _ (by rw [eX]; unfold pcnd; rw [if_neg c_65, if_neg c_90, decide_eq_false c_112]; rfl)
                | exact go _ _ _ (by rw [eX]; unfold pcnd; rw [if_neg c_65, if_pos c_90, decide_eq_false c_97]; rfl)
                | exact go _ _ _ (by rw [eX]; unfold pcnd; rw [if_neg c_65, if_pos c_90, decide_eq_true c_97]; rfl)
                | exact go _ _ _ (by rw [eX]; unfold pcnd; rw [if_pos c_65, decide_eq_true c_72]; rfl)
                | exact go _ _ _ (by rw [eX]; unfold pcnd; rw [if_pos c_65, decide_eq_false c_72]; rfl)
              · refine o_iconst (v := nI 1) hC dX8_makePick_115 (by decide +kernel) ?_
                refine o_goto (tgt := 120) hC dX8_makePick_116 (by decide) ?_
                refine o_istore hC dX8_makePick_120 (Nat.le_of_ble_eq_true rfl) ?_
                first
                | exact go _ _ _ (by rw [eX]; unfold pcnd; rw [if_neg c_65, if_neg c_90, decide_eq_true c_112]; rfl)
                | exact go _ _ _ (by rw [eX]; unfold pcnd; rw [if_neg c_65, if_neg c_90, decide_eq_false c_112]; rfl)
                | exact go _ _ _ (by rw [eX]; unfold pcnd; rw [if_neg c_65, if_pos c_90, decide_eq_false c_97]; rfl)
                | exact go _ _ _ (by rw [eX]; unfold pcnd; rw [if_neg c_65, if_pos c_90, decide_eq_true c_97]; rfl)
                | exact go _ _ _ (by rw [eX]; unfold pcnd; rw [if_pos c_65, decide_eq_true c_72]; rfl)
                | exact go _ _ _ (by rw [eX]; unfold pcnd; rw [if_pos c_65, decide_eq_false c_72]; rfl)
            · refine o_iload hC dX8_makePick_93 (by rfl) ?_
              refine o_iload hC dX8_makePick_95 (by rfl) ?_
              refine o_icmp_ne (tgt := 104) hC dX8_makePick_97 (by decide) (fun c_97 => ?_) (fun c_97 => ?_)
              · refine o_iconst (v := nI 0) hC dX8_makePick_104 (by decide +kernel) ?_
                refine o_goto (tgt := 120) hC dX8_makePick_105 (by decide) ?_
                refine o_istore hC dX8_makePick_120 (Nat.le_of_ble_eq_true rfl) ?_
                first
                | exact go _ _ _ (by rw [eX]; unfold pcnd; rw [if_neg c_65, if_neg c_90, decide_eq_true c_112]; rfl)
                | exact go _ _ _ (by rw [eX]; unfold pcnd; rw [if_neg c_65, if_neg c_90, decide_eq_false c_112]; rfl)
                | exact go _ _ _ (by rw [eX]; unfold pcnd; rw [if_neg c_65, if_pos c_90, decide_eq_false c_97]; rfl)
                | exact go _ _ _ (by rw [eX]; unfold pcnd; rw [if_neg c_65, if_pos c_90, decide_eq_true c_97]; rfl)
                | exact go _ _ _ (by rw [eX]; unfold pcnd; rw [if_pos c_65, decide_eq_true c_72]; rfl)
                | exact go _ _ _ (by rw [eX]; unfold pcnd; rw [if_pos c_65, decide_eq_false c_72]; rfl)
              · refine o_iconst (v := nI 1) hC dX8_makePick_100 (by decide +kernel) ?_
                refine o_goto (tgt := 120) hC dX8_makePick_101 (by decide) ?_
                refine o_istore hC dX8_makePick_120 (Nat.le_of_ble_eq_true rfl) ?_
                first
                | exact go _ _ _ (by rw [eX]; unfold pcnd; rw [if_neg c_65, if_neg c_90, decide_eq_true c_112]; rfl)
                | exact go _ _ _ (by rw [eX]; unfold pcnd; rw [if_neg c_65, if_neg c_90, decide_eq_false c_112]; rfl)
                | exact go _ _ _ (by rw [eX]; unfold pcnd; rw [if_neg c_65, if_pos c_90, decide_eq_false c_97]; rfl)
                | exact go _ _ _ (by rw [eX]; unfold pcnd; rw [if_neg c_65, if_pos c_90, decide_eq_true c_97]; rfl)
                | exact go _ _ _ (by rw [eX]; unfold pcnd; rw [if_pos c_65, decide_eq_true c_72]; rfl)
                | exact go _ _ _ (by rw [eX]; unfold pcnd; rw [if_pos c_65, decide_eq_false c_72]; rfl)
          · refine o_iload hC dX8_makePick_68 (by rfl) ?_
            refine o_iload hC dX8_makePick_70 (by rfl) ?_
            refine o_icmp_ge (tgt := 79) hC dX8_makePick_72 (by decide) (fun c_72 => ?_) (fun c_72 => ?_)
            · refine o_iconst (v := nI 0) hC dX8_makePick_79 (by decide +kernel) ?_
              refine o_goto (tgt := 120) hC dX8_makePick_80 (by decide) ?_
              refine o_istore hC dX8_makePick_120 (Nat.le_of_ble_eq_true rfl) ?_
              first
              | exact go _ _ _ (by rw [eX]; unfold pcnd; rw [if_neg c_65, if_neg c_90, decide_eq_true c_112]; rfl)
              | exact go _ _ _ (by rw [eX]; unfold pcnd; rw [if_neg c_65, if_neg c_90, decide_eq_false c_112]; rfl)
              | exact go _ _ _ (by rw [eX]; unfold pcnd; rw [if_neg c_65, if_pos c_90, decide_eq_false c_97]; rfl)
              | exact go _ _ _ (by rw [eX]; unfold pcnd; rw [if_neg c_65, if_pos c_90, decide_eq_true c_97]; rfl)
              | exact go _ _ _ (by rw [eX]; unfold pcnd; rw [if_pos c_65, decide_eq_true c_72]; rfl)
              | exact go _ _ _ (by rw [eX]; unfold pcnd; rw [if_pos c_65, decide_eq_false c_72]; rfl)
            · refine o_iconst (v := nI 1) hC dX8_makePick_75 (by decide +kernel) ?_
              refine o_goto (tgt := 120) hC dX8_makePick_76 (by decide) ?_
              refine o_istore hC dX8_makePick_120 (Nat.le_of_ble_eq_true rfl) ?_
              first
              | exact go _ _ _ (by rw [eX]; unfold pcnd; rw [if_neg c_65, if_neg c_90, decide_eq_true c_112]; rfl)
              | exact go _ _ _ (by rw [eX]; unfold pcnd; rw [if_neg c_65, if_neg c_90, decide_eq_false c_112]; rfl)
              | exact go _ _ _ (by rw [eX]; unfold pcnd; rw [if_neg c_65, if_pos c_90, decide_eq_false c_97]; rfl)
              | exact go _ _ _ (by rw [eX]; unfold pcnd; rw [if_neg c_65, if_pos c_90, decide_eq_true c_97]; rfl)
              | exact go _ _ _ (by rw [eX]; unfold pcnd; rw [if_pos c_65, decide_eq_true c_72]; rfl)
              | exact go _ _ _ (by rw [eX]; unfold pcnd; rw [if_pos c_65, decide_eq_false c_72]; rfl)
        · have ecc : cc = none := (hnC.resolve_right (fun ⟨c, _, hc, ec⟩ => absurd (ec ▸ c_33 : nI c = -1) (fun e => absurd (e ▸ (show (-1 : Int32) < 0 by decide +kernel)) (nI_pos (by omega))))).1
          have eX : ppk (S.2.2.2.2.2.2.2.1 a) (S.2.2.2.2.2.2.2.2.2.1 a) ca cc (ark tb t) = pcnd (S.2.2.2.2.2.2.2.1 a) (mcl A1 b t ca) (S.2.2.2.2.2.2.2.2.2.1 a) := by
            subst ecc
            show pcnd _ (acg _ ca) _ = _
            rw [hrw.cg hca]
            rfl
          have eY : (0 : Nat) = 0 := rfl
          refine o_aload_n hC dX8_makePick_36 (by rfl) ?_
          refine o_getf hC (fX8_37 hC rfl) dX8_makePick_37 (by repeat (first | with_reducible assumption | (rw [rl_u_s]; done) | (rw [rl_u_s]; rfl) | rw [rl_u_n (by first | with_reducible assumption | omega)])) (by first | rfl | with_reducible assumption) ?_
          refine o_iload_n hC dX8_makePick_40 (by rfl) ?_
          refine o_ialdN (t0 := 0) hC rfl dX8_makePick_41 (by repeat (first | with_reducible assumption | (rw [rl_u_s]; done) | (rw [rl_u_s]; rfl) | rw [rl_u_n (by first | with_reducible assumption | omega)])) (by omega) (by decide) ?_
          refine o_goto (tgt := 57) hC dX8_makePick_42 (by decide) ?_
          refine o_istore hC dX8_makePick_57 (Nat.le_of_ble_eq_true rfl) ?_
          refine o_aload_n hC dX8_makePick_59 (by rfl) ?_
          refine o_getf hC (fX8_31 hC rfl) dX8_makePick_60 (by repeat (first | with_reducible assumption | (rw [rl_u_s]; done) | (rw [rl_u_s]; rfl) | rw [rl_u_n (by first | with_reducible assumption | omega)])) (by first | rfl | with_reducible assumption) ?_
          refine o_iload_n hC dX8_makePick_63 (by rfl) ?_
          refine o_ialdN (t0 := 0) hC rfl dX8_makePick_64 (by repeat (first | with_reducible assumption | (rw [rl_u_s]; done) | (rw [rl_u_s]; rfl) | rw [rl_u_n (by first | with_reducible assumption | omega)])) (by omega) (by decide) ?_
          refine o_if_ne (tgt := 83) hC dX8_makePick_65 (by decide) (fun c_65 => ?_) (fun c_65 => ?_)
          · refine o_aload_n hC dX8_makePick_83 (by rfl) ?_
            refine o_getf hC (fX8_31 hC rfl) dX8_makePick_84 (by repeat (first | with_reducible assumption | (rw [rl_u_s]; done) | (rw [rl_u_s]; rfl) | rw [rl_u_n (by first | with_reducible assumption | omega)])) (by first | rfl | with_reducible assumption) ?_
            refine o_iload_n hC dX8_makePick_87 (by rfl) ?_
            refine o_ialdN (t0 := 0) hC rfl dX8_makePick_88 (by repeat (first | with_reducible assumption | (rw [rl_u_s]; done) | (rw [rl_u_s]; rfl) | rw [rl_u_n (by first | with_reducible assumption | omega)])) (by omega) (by decide) ?_
            refine o_iconst (v := nI 1) hC dX8_makePick_89 (by decide +kernel) ?_
            refine o_icmp_ne (tgt := 108) hC dX8_makePick_90 (by decide) (fun c_90 => ?_) (fun c_90 => ?_)
            · refine o_iload hC dX8_makePick_108 (by rfl) ?_
              refine o_iload hC dX8_makePick_110 (by rfl) ?_
              refine o_icmp_le (tgt := 119) hC dX8_makePick_112 (by decide) (fun c_112 => ?_) (fun c_112 => ?_)
              · refine o_iconst (v := nI 0) hC dX8_makePick_119 (by decide +kernel) ?_
                refine o_istore hC dX8_makePick_120 (Nat.le_of_ble_eq_true rfl) ?_
                first
                | exact go _ _ _ (by rw [eX]; unfold pcnd; rw [if_neg c_65, if_neg c_90, decide_eq_true c_112]; rfl)
                | exact go _ _ _ (by rw [eX]; unfold pcnd; rw [if_neg c_65, if_neg c_90, decide_eq_false c_112]; rfl)
                | exact go _ _ _ (by rw [eX]; unfold pcnd; rw [if_neg c_65, if_pos c_90, decide_eq_false c_97]; rfl)
                | exact go _ _ _ (by rw [eX]; unfold pcnd; rw [if_neg c_65, if_pos c_90, decide_eq_true c_97]; rfl)
                | exact go _ _ _ (by rw [eX]; unfold pcnd; rw [if_pos c_65, decide_eq_true c_72]; rfl)
                | exact go _ _ _ (by rw [eX]; unfold pcnd; rw [if_pos c_65, decide_eq_false c_72]; rfl)
              · refine o_iconst (v := nI 1) hC dX8_makePick_115 (by decide +kernel) ?_
                refine o_goto (tgt := 120) hC dX8_makePick_116 (by decide) ?_
                refine o_istore hC dX8_makePick_120 (Nat.le_of_ble_eq_true rfl) ?_
                first
                | exact go _ _ _ (by rw [eX]; unfold pcnd; rw [if_neg c_65, if_neg c_90, decide_eq_true c_112]; rfl)
                | exact go _ _ _ (by rw [eX]; unfold pcnd; rw [if_neg c_65, if_neg c_90, decide_eq_false c_112]; rfl)
                | exact go _ _ _ (by rw [eX]; unfold pcnd; rw [if_neg c_65, if_pos c_90, decide_eq_false c_97]; rfl)
                | exact go _ _ _ (by rw [eX]; unfold pcnd; rw [if_neg c_65, if_pos c_90, decide_eq_true c_97]; rfl)
                | exact go _ _ _ (by rw [eX]; unfold pcnd; rw [if_pos c_65, decide_eq_true c_72]; rfl)
                | exact go _ _ _ (by rw [eX]; unfold pcnd; rw [if_pos c_65, decide_eq_false c_72]; rfl)
            · refine o_iload hC dX8_makePick_93 (by rfl) ?_
              refine o_iload hC dX8_makePick_95 (by rfl) ?_
              refine o_icmp_ne (tgt := 104) hC dX8_makePick_97 (by decide) (fun c_97 => ?_) (fun c_97 => ?_)
              · refine o_iconst (v := nI 0) hC dX8_makePick_104 (by decide +kernel) ?_
                refine o_goto (tgt := 120) hC dX8_makePick_105 (by decide) ?_
                refine o_istore hC dX8_makePick_120 (Nat.le_of_ble_eq_true rfl) ?_
                first
                | exact go _ _ _ (by rw [eX]; unfold pcnd; rw [if_neg c_65, if_neg c_90, decide_eq_true c_112]; rfl)
                | exact go _ _ _ (by rw [eX]; unfold pcnd; rw [if_neg c_65, if_neg c_90, decide_eq_false c_112]; rfl)
                | exact go _ _ _ (by rw [eX]; unfold pcnd; rw [if_neg c_65, if_pos c_90, decide_eq_false c_97]; rfl)
                | exact go _ _ _ (by rw [eX]; unfold pcnd; rw [if_neg c_65, if_pos c_90, decide_eq_true c_97]; rfl)
                | exact go _ _ _ (by rw [eX]; unfold pcnd; rw [if_pos c_65, decide_eq_true c_72]; rfl)
                | exact go _ _ _ (by rw [eX]; unfold pcnd; rw [if_pos c_65, decide_eq_false c_72]; rfl)
              · refine o_iconst (v := nI 1) hC dX8_makePick_100 (by decide +kernel) ?_
                refine o_goto (tgt := 120) hC dX8_makePick_101 (by decide) ?_
                refine o_istore hC dX8_makePick_120 (Nat.le_of_ble_eq_true rfl) ?_
                first
                | exact go _ _ _ (by rw [eX]; unfold pcnd; rw [if_neg c_65, if_neg c_90, decide_eq_true c_112]; rfl)
                | exact go _ _ _ (by rw [eX]; unfold pcnd; rw [if_neg c_65, if_neg c_90, decide_eq_false c_112]; rfl)
                | exact go _ _ _ (by rw [eX]; unfold pcnd; rw [if_neg c_65, if_pos c_90, decide_eq_false c_97]; rfl)
                | exact go _ _ _ (by rw [eX]; unfold pcnd; rw [if_neg c_65, if_pos c_90, decide_eq_true c_97]; rfl)
                | exact go _ _ _ (by rw [eX]; unfold pcnd; rw [if_pos c_65, decide_eq_true c_72]; rfl)
                | exact go _ _ _ (by rw [eX]; unfold pcnd; rw [if_pos c_65, decide_eq_false c_72]; rfl)
          · refine o_iload hC dX8_makePick_68 (by rfl) ?_
            refine o_iload hC dX8_makePick_70 (by rfl) ?_
            refine o_icmp_ge (tgt := 79) hC dX8_makePick_72 (by decide) (fun c_72 => ?_) (fun c_72 => ?_)
            · refine o_iconst (v := nI 0) hC dX8_makePick_79 (by decide +kernel) ?_
              refine o_goto (tgt := 120) hC dX8_makePick_80 (by decide) ?_
              refine o_istore hC dX8_makePick_120 (Nat.le_of_ble_eq_true rfl) ?_
              first
              | exact go _ _ _ (by rw [eX]; unfold pcnd; rw [if_neg c_65, if_neg c_90, decide_eq_true c_112]; rfl)
              | exact go _ _ _ (by rw [eX]; unfold pcnd; rw [if_neg c_65, if_neg c_90, decide_eq_false c_112]; rfl)
              | exact go _ _ _ (by rw [eX]; unfold pcnd; rw [if_neg c_65, if_pos c_90, decide_eq_false c_97]; rfl)
              | exact go _ _ _ (by rw [eX]; unfold pcnd; rw [if_neg c_65, if_pos c_90, decide_eq_true c_97]; rfl)
              | exact go _ _ _ (by rw [eX]; unfold pcnd; rw [if_pos c_65, decide_eq_true c_72]; rfl)
              | exact go _ _ _ (by rw [eX]; unfold pcnd; rw [if_pos c_65, decide_eq_false c_72]; rfl)
            · refine o_iconst (v := nI 1) hC dX8_makePick_75 (by decide +kernel) ?_
              refine o_goto (tgt := 120) hC dX8_makePick_76 (by decide) ?_
              refine o_istore hC dX8_makePick_120 (Nat.le_of_ble_eq_true rfl) ?_
              first
              | exact go _ _ _ (by rw [eX]; unfold pcnd; rw [if_neg c_65, if_neg c_90, decide_eq_true c_112]; rfl)
              | exact go _ _ _ (by rw [eX]; unfold pcnd; rw [if_neg c_65, if_neg c_90, decide_eq_false c_112]; rfl)
              | exact go _ _ _ (by rw [eX]; unfold pcnd; rw [if_neg c_65, if_pos c_90, decide_eq_false c_97]; rfl)
              | exact go _ _ _ (by rw [eX]; unfold pcnd; rw [if_neg c_65, if_pos c_90, decide_eq_true c_97]; rfl)
              | exact go _ _ _ (by rw [eX]; unfold pcnd; rw [if_pos c_65, decide_eq_true c_72]; rfl)
              | exact go _ _ _ (by rw [eX]; unfold pcnd; rw [if_pos c_65, decide_eq_false c_72]; rfl)
  show rl_G X (rl_e D ids H0) 0 [some (.ref m), some (.int (nI a)), some (.int (nI b)), none, none, none, none] [] h n 0 0
  refine o_iconst (v := nI 0) hC dX8_makePick_0 (by decide +kernel) ?_
  refine o_istore_n hC dX8_makePick_1 (Nat.le_of_ble_eq_true rfl) ?_
  exact loop tb.length 0 _ _ _ A r0 _ _ _ (by omega) hq mop.rf hr0 rfl
