/-! THE MODEL: its whole state; make, run -/
/-- node a is made of earlier ones, and its numbers are such that its tuples can be made -/
def md_nv (S : md_A) (a : Nat) : Prop := ∃ op w : Nat, op ≤ 6 ∧ 1 ≤ w ∧ w ≤ 6 ∧ S.2.2.2.1 a = nI op ∧ S.2.2.2.2.2.2.2.2.2.2 a = nI w ∧ (1 ≤ op → ∃ b wb : Nat, b < a ∧ wb ≤ 6 ∧ S.2.2.2.2.1 a = nI b ∧ S.2.2.2.2.2.2.2.2.2.2 b = nI wb ∧ (op = 3 ∨ op = 4 ∨ op = 5 → ∃ d wd : Nat, d < a ∧ wd ≤ 6 ∧ S.2.2.2.2.2.1 a = nI d ∧ S.2.2.2.2.2.2.2.2.2.2 d = nI wd ∧ (op = 3 → wb + wd ≤ 6))) ∧ (op = 1 ∨ op = 3 ∨ op = 6 → ∃ ca : Nat, ca < 6 ∧ S.2.2.2.2.2.2.1 a = nI ca) ∧ (op = 1 → S.2.2.2.2.2.2.2.2.1 a = -1 ∨ ∃ cc : Nat, cc < 6 ∧ S.2.2.2.2.2.2.2.2.1 a = nI cc) ∧ (op = 2 → ∃ N : Nat, N < 10 ^ 6 ∧ S.2.2.2.2.2.2.1 a = nI N ∧ ∀ c : Nat, N / 10 ^ c ≠ 0 → 1 ≤ N / 10 ^ c % 10 ∧ N / 10 ^ c % 10 ≤ 6) ∧ (op = 3 ∨ op = 6 → ∃ cb : Nat, cb < 6 ∧ S.2.2.2.2.2.2.2.1 a = nI cb)
theorem upd_lt {f : Nat → Int32} {k i : Nat} {x : Int32} (h : i < k) : upd f k x i = f i := if_neg (by omega)
theorem upd_at {f : Nat → Int32} {k : Nat} {x : Int32} : upd f k x k = x := if_pos rfl
theorem md_nv.up {S : md_A} {a k : Nat} (ha : a < k) {op fi se x y u v w : Int32} (H : md_nv S a) : md_nv (S.1, S.2.1, S.2.2.1, upd S.2.2.2.1 k op, upd S.2.2.2.2.1 k fi, upd S.2.2.2.2.2.1 k se, upd S.2.2.2.2.2.2.1 k x, upd S.2.2.2.2.2.2.2.1 k y, upd S.2.2.2.2.2.2.2.2.1 k u, upd S.2.2.2.2.2.2.2.2.2.1 k v, upd S.2.2.2.2.2.2.2.2.2.2 k w) a := by
  obtain ⟨op', w', h1, h2, h3, h4, h5, h6, h7, h8, h9, h10⟩ := H
  refine ⟨op', w', h1, h2, h3, (upd_lt ha).trans h4, (upd_lt ha).trans h5, fun q => ?_, fun q => ?_, fun q => ?_, fun q => ?_, fun q => ?_⟩
  · obtain ⟨b, wb, i1, i2, i3, i4, i5⟩ := h6 q
    refine ⟨b, wb, i1, i2, (upd_lt ha).trans i3, (upd_lt (by omega)).trans i4, fun q2 => ?_⟩
    obtain ⟨d, wd, j1, j2, j3, j4, j5⟩ := i5 q2
    exact ⟨d, wd, j1, j2, (upd_lt ha).trans j3, (upd_lt (by omega)).trans j4, j5⟩
  · obtain ⟨c, i1, i2⟩ := h7 q
    exact ⟨c, i1, (upd_lt ha).trans i2⟩
  · rcases h8 q with i | ⟨c, i1, i2⟩
    · exact Or.inl ((upd_lt ha).trans i)
    · exact Or.inr ⟨c, i1, (upd_lt ha).trans i2⟩
  · obtain ⟨N, i1, i2, i3⟩ := h9 q
    exact ⟨N, i1, (upd_lt ha).trans i2, i3⟩
  · obtain ⟨c, i1, i2⟩ := h10 q
    exact ⟨c, i1, (upd_lt ha).trans i2⟩
def md_un (ids : Nat → ClassId) (h : rl_H) (m : Nat) (T : md_T) (fu : Int32) (k : Nat) (S : md_A) (z : sh_S) : Prop :=
  mq ids h h m T fu k ∧ md_sa ids h m S ∧ (T.2.1 = nI z.1 ∧ z.1 ≤ 4) ∧ S.1 = z.2.1 ∧ (T.2.2.1 = nI z.2.2.1 ∧ z.2.2.1 ≤ 36) ∧ (T.2.2.2.2.1 = nI z.2.2.2.1 ∧ z.2.2.2.1 ≤ 16) ∧ S.2.2.2.2.2.2.2.2.2.2 = z.2.2.2.2.1 ∧ T.2.2.2.1 = z.2.2.2.2.2 ∧ (∀ a : Nat, a < z.2.2.2.1 → md_nv S a) ∧ (∀ i : Nat, i < z.1 → ∃ w : Nat, 1 ≤ w ∧ w ≤ 4 ∧ S.1 i = nI w) ∧ ∃ w : Nat, w ≤ 6 ∧ T.2.2.2.2.2.1 = nI w
def md_ok (ids : Nat → ClassId) (h : rl_H) (m : Nat) (z : sh_S) : Prop := ∃ (T : md_T) (fu : Int32) (k : Nat) (S : md_A), md_un ids h m T fu k S z
/-- what a call leaves that makes nothing of tuples -/
def mdx (ids : Nat → ClassId) (h' : rl_H) (m : Nat) (T : md_T) (z : sh_S) (R : md_A → Prop) (D : Prop) : Prop := ∃ (T' : md_T) (fu' : Int32) (k' : Nat) (S' : md_A), md_un ids h' m T' fu' k' S' z ∧ T'.2.2.2.2.2.1 = T.2.2.2.2.2.1 ∧ R S' ∧ D
theorem mdx.ok {ids : Nat → ClassId} {h' : rl_H} {m : Nat} {T : md_T} {z : sh_S} {R : md_A → Prop} {D : Prop} (H : mdx ids h' m T z R D) : md_ok ids h' m z := by
  obtain ⟨T', fu', k', S', H, -⟩ := H
  exact ⟨T', fu', k', S', H⟩
theorem mdx.im {ids : Nat → ClassId} {h' : rl_H} {m : Nat} {T T1 : md_T} {z : sh_S} {R R' : md_A → Prop} {D D' : Prop} (H : mdx ids h' m T1 z R D) (e : T1.2.2.2.2.2.1 = T.2.2.2.2.2.1) (r : ∀ S' : md_A, R S' → R' S') (d : D → D') : mdx ids h' m T z R' D' := by
  obtain ⟨T', fu', k', S', H, a, b, c⟩ := H
  exact ⟨T', fu', k', S', H, a.trans e, r S' b, d c⟩
theorem md_ok.eqv {ids : Nat → ClassId} {h h' : rl_H} {m : Nat} {z : sh_S} (H : md_ok ids h m z) (he : ∀ q : Nat, m ≤ q → q < m + 23 → h' q = h q) : md_ok ids h' m z := by
  obtain ⟨T, fu, k, S, ⟨g0, gk, ⟨d12, d13, d14, d15, d16, d17, d18, d19, d20, d21, d22⟩, -⟩, u2, u3⟩ := H
  exact ⟨T, fu, k, S, ⟨(he m (by omega) (by omega)).trans g0, gk, ⟨d12.elim fun f e => ⟨f, (he _ (by omega) (by omega)).trans e⟩, d13.elim fun f e => ⟨f, (he _ (by omega) (by omega)).trans e.1, e.2⟩, d14.elim fun f e => ⟨f, (he _ (by omega) (by omega)).trans e⟩, d15.elim fun f e => ⟨f, (he _ (by omega) (by omega)).trans e.1, e.2⟩, d16.elim fun f e => ⟨f, (he _ (by omega) (by omega)).trans e⟩, d17.elim fun f e => ⟨f, (he _ (by omega) (by omega)).trans e⟩, d18.elim fun f e => ⟨f, (he _ (by omega) (by omega)).trans e⟩, d19.elim fun f e => ⟨f, (he _ (by omega) (by omega)).trans e⟩, d20.elim fun f e => ⟨f, (he _ (by omega) (by omega)).trans e⟩, d21.elim fun f e => ⟨f, (he _ (by omega) (by omega)).trans e.1, e.2⟩, d22.elim fun f e => ⟨f, (he _ (by omega) (by omega)).trans e⟩⟩, fun _ _ _ => rfl⟩, u2.eqv (fun q a b => he q (by omega) (by omega)), u3⟩
/-- what a deep call has left -/
theorem md_un.dp {ids : Nat → ClassId} {h h' : rl_H} {m : Nat} {T : md_T} {fu fu' : Int32} {k k' : Nat} {S : md_A} {z : sh_S} (H : md_un ids h m T fu k S z) {T' : md_T} (q : mq ids h h' m T' fu' k') (e1 : T'.2.1 = T.2.1) (e2 : T'.2.2.1 = T.2.2.1) (e3 : T'.2.2.2.1 = T.2.2.2.1) (e4 : T'.2.2.2.2.1 = T.2.2.2.2.1) (e5 : ∃ w : Nat, w ≤ 6 ∧ T'.2.2.2.2.2.1 = nI w) : md_un ids h' m T' fu' k' S z := by
  obtain ⟨u1, u2, u3, u4, u5, u6, u7, u8, u9, u10, u11⟩ := H
  exact ⟨q.rf, q.sa u2, by rw [e1]; exact u3, u4, by rw [e2]; exact u5, by rw [e4]; exact u6, u7, by rw [e3]; exact u8, u9, u10, e5⟩
theorem mq.fr {ids : Nat → ClassId} {h h' : rl_H} {m : Nat} {T : md_T} {fu : Int32} {k : Nat} (H : mq ids h h' m T fu k) : rl_fr h h' m (m + 23) := fun q hq => H.2.2.2 q (by omega) (by omega)
section RLV8
variable {X : rl_X} {E : rl_E} {cc : ByteArray} {own : String} {BW Ns : List Cond} {pc : Nat} {lo : List (Option Value)} {h : rl_H} {n ce sl : Nat}
theorem o_callV8 {bytes : ByteArray} {maxL idx b ci N : Nat} {C : String} {T : u_T} {fs rest : List Value} {a1 a2 a3 a4 a5 a6 a7 a8 : Value} {ret' : Option FieldType} {rm' : Room} {y' : MethodName} {Post' : Option Value → rl_H → Nat → Prop} (hC : rl_C X E cc own BW Ns) (hG : ∀ w ∈ BW, goodWord w = true) (hN : ∀ w ∈ Ns, rl_nw w = true) (hml : X.2.1.2.2.2.2.maxLocals = lo.length) (hY : rl_Y BW y' bytes maxL ret' 8) (h1 : Cond.instanceMethod y' ∈ BW) (h2 : Cond.selects y'.cls y' y' ∈ BW) (hl : rl_M X own idx y') (hM : rl_Met X.1.2.1 E BW Ns y' bytes maxL ret' rm' (.ref b :: [a1, a2, a3, a4, a5, a6, a7, a8]) h n Post') (hb : h b = some (.inr (ci, fs))) (hc : E.2.1[ci]? = some (C, T, N)) (hCy : C = y'.cls) (hst : (rest.map fun v => v.category).sum ≤ 8) (hr1 : rm'.frames + 1 ≤ X.1.2.2.2.1.frames) (hr2 : 8 + (maxL + 11) + rm'.locals ≤ X.1.2.2.2.1.locals) (hr3 : ce + rm'.cells ≤ X.1.2.2.2.1.cells) (hr4 : sl + rm'.slots ≤ X.1.2.2.2.1.slots) (hd : decode cc pc = .ok (.invokevirtual idx, 3)) (kk : ∀ (v : Option Value) (h' : rl_H) (n' : Nat), Post' v h' n' → rl_G X E (pc + 3) lo (v.toList ++ rest) h' n' (ce + rm'.cells) (sl + rm'.slots)) : rl_G X E pc lo (a8 :: a7 :: a6 :: a5 :: a4 :: a3 :: a2 :: a1 :: .ref b :: rest) h n ce sl := o_callV (As := [a1, a2, a3, a4, a5, a6, a7, a8]) (nL' := 0) hC hG hN hml hY h1 h2 hl hM hb hc hCy hst hr1 hr2 hr3 hr4 hd kk
end RLV8

set_option maxHeartbeats 4000000 in
set_option maxRecDepth 100000 in
theorem cm_X8_make (l : Launch) (D : va_G) (ids : Nat → ClassId) (H0 : Heap) (h : rl_H) (n : Nat) (m : Nat) (T : md_T) (fu : Int32) (k : Nat) (S : md_A) (a rr : Nat) (hq : mq ids h h m T fu k) (hs : md_sa ids h m S) (ha : a < 16) (hv : md_nv S a) (hrr : T.2.2.1 = nI rr) (hr36 : rr ≤ 36) : rl_Met l (rl_e D ids H0) rl_BW rl_Ns yX8_make cX8_make 4 none ({ frames := 6, cells := 0, slots := 0, locals := 155 }) [.ref m, .int (nI a)] h n (fun v h' n' => v = none ∧ n' = n ∧ ∃ (fu' : Int32) (k' : Nat), mq ids h h' m T fu' k') := by
  obtain ⟨g0, gk, ⟨⟨cl, g12⟩, ⟨tu, g13, b13⟩, ⟨im, g14⟩, ⟨te, g15, b15⟩, ⟨ne, g16⟩, ⟨la, g17⟩, ⟨hn, g18⟩, ⟨hl, g19⟩, ⟨tp, g20⟩, ⟨gr, g21, b21⟩, ⟨it, g22⟩⟩, gf⟩ := id hq
  obtain ⟨a1, a2, a3, a4, a5, a6, a7, a8, a9, a10, a11⟩ := id hs
  obtain ⟨op, w, h1, h2, h3, h4, h5, h6, h7, h8, h9, h10⟩ := hv
  refine rl_Met.of (by decide +kernel) (Nat.le_of_ble_eq_true rfl) ?_
  intro X hC hB
  show rl_G X (rl_e D ids H0) 0 [some (.ref m), some (.int (nI a)), none, none] [] h n 0 0
  refine o_aload_n hC dX8_make_0 (by rfl) ?_
  refine o_getf hC (fX8_46 hC rfl) dX8_make_1 (by repeat (first | with_reducible assumption | (rw [rl_u_s]; done) | (rw [rl_u_s]; rfl) | rw [rl_u_n (by first | with_reducible assumption | omega)])) (by first | rfl | with_reducible assumption) ?_
  refine o_iload_n hC dX8_make_4 (by rfl) ?_
  refine o_iconst (v := nI 0) hC dX8_make_5 (by decide +kernel) ?_
  refine o_iastN (t0 := 0) hC rfl dX8_make_6 (by repeat (first | with_reducible assumption | (rw [rl_u_s]; done) | (rw [rl_u_s]; rfl) | rw [rl_u_n (by first | with_reducible assumption | omega)])) (by omega) (by decide) ?_
  refine o_aload_n hC dX8_make_7 (by rfl) ?_
  refine o_getf hC (fX8_22 hC rfl) dX8_make_8 (by repeat (first | with_reducible assumption | (rw [rl_u_s]; done) | (rw [rl_u_s]; rfl) | rw [rl_u_n (by first | with_reducible assumption | omega)])) (by first | rfl | with_reducible assumption) ?_
  refine o_iload_n hC dX8_make_11 (by rfl) ?_
  refine o_ialdN (t0 := 0) hC rfl dX8_make_12 (by repeat (first | with_reducible assumption | (rw [rl_u_s]; done) | (rw [rl_u_s]; rfl) | rw [rl_u_n (by first | with_reducible assumption | omega)])) (by omega) (by decide) ?_
  refine o_istore_n hC dX8_make_13 (Nat.le_of_ble_eq_true rfl) ?_
  refine o_aload_n hC dX8_make_14 (by rfl) ?_
  refine o_getf hC (fX8_25 hC rfl) dX8_make_15 (by repeat (first | with_reducible assumption | (rw [rl_u_s]; done) | (rw [rl_u_s]; rfl) | rw [rl_u_n (by first | with_reducible assumption | omega)])) (by first | rfl | with_reducible assumption) ?_
  refine o_iload_n hC dX8_make_18 (by rfl) ?_
  refine o_ialdN (t0 := 0) hC rfl dX8_make_19 (by repeat (first | with_reducible assumption | (rw [rl_u_s]; done) | (rw [rl_u_s]; rfl) | rw [rl_u_n (by first | with_reducible assumption | omega)])) (by omega) (by decide) ?_
  refine o_istore_n hC dX8_make_20 (Nat.le_of_ble_eq_true rfl) ?_
  refine o_aload_n hC dX8_make_21 (by rfl) ?_
  refine o_getf hC (fX8_19 hC rfl) dX8_make_22 (by repeat (first | with_reducible assumption | (rw [rl_u_s]; done) | (rw [rl_u_s]; rfl) | rw [rl_u_n (by first | with_reducible assumption | omega)])) (by first | rfl | with_reducible assumption) ?_
  refine o_iload_n hC dX8_make_25 (by rfl) ?_
  refine o_ialdN (t0 := 0) hC rfl dX8_make_26 (by repeat (first | with_reducible assumption | (rw [rl_u_s]; done) | (rw [rl_u_s]; rfl) | rw [rl_u_n (by first | with_reducible assumption | omega)])) (by omega) (by decide) ?_
  have hq1 := hq.s13 (upd tu a (nI 0)) (md_bd b13 ⟨0, by decide, rfl⟩)
  have hs1 := hq1.sa hs
  rw [h4]
  rcases (show op = 0 ∨ op = 1 ∨ op = 2 ∨ op = 3 ∨ op = 4 ∨ op = 5 ∨ op = 6 by omega) with rfl | rfl | rfl | rfl | rfl | rfl | rfl
  · refine o_tableIn (off := 37) (tgt := 64) hC dX8_make_27 (by decide +kernel) (by decide +kernel) (by decide +kernel) (by decide) ?_
    refine o_aload_n hC dX8_make_64 (by rfl) ?_
    refine o_iload_n hC dX8_make_65 (by rfl) ?_
    refine o_iload_n hC dX8_make_66 (by rfl) ?_
    refine o_callV2 hC rl_BW_good rl_Ns_nw (by exact hB.2.2.2.2.2) YX8_makeScan IX8_makeScan VX8_makeScan (mX8_157 hC) (by rw [hB.1]; exact cm_X8_makeScan l D ids H0 _ _ m T _ _ S a w rr _ hq1.rf hs1 ha h5 h3 hrr hr36) (by exact hq1.1) rfl rfl (Nat.le_of_ble_eq_true rfl) (by rw [hB.2.1]; first | exact Nat.le_of_ble_eq_true rfl | (dsimp only; omega)) (by rw [hB.2.1]; first | exact Nat.le_of_ble_eq_true rfl | (dsimp only; omega)) (by rw [hB.2.1]; first | exact Nat.le_of_ble_eq_true rfl | (dsimp only; omega)) (by rw [hB.2.1]; first | exact Nat.le_of_ble_eq_true rfl | (dsimp only; omega)) dX8_make_67 (fun v h_67 n_67 p_67 => ?_)
    obtain ⟨rfl, rfl, f67, k67, q67⟩ := p_67
    try dsimp only [Option.toList, List.cons_append, List.nil_append]
    refine o_goto (tgt := 132) hC dX8_make_70 (by decide) ?_
    refine o_vret hC hB dX8_make_132 (Nat.le_of_ble_eq_true rfl) (Nat.le_of_ble_eq_true rfl) ?_
    exact ⟨rfl, rfl, _, _, hq1.tr q67⟩
  · obtain ⟨b, wb, i1, i2, i3, i4, i5⟩ := h6 (by decide)
    rw [i3]
    have b16 : b < 16 := by omega
    obtain ⟨ca, c1, c2⟩ := h7 (by decide)
    refine o_tableIn (off := 46) (tgt := 73) hC dX8_make_27 (by decide +kernel) (by decide +kernel) (by decide +kernel) (by decide) ?_
    refine o_aload_n hC dX8_make_73 (by rfl) ?_
    refine o_iload_n hC dX8_make_74 (by rfl) ?_
    refine o_iload_n hC dX8_make_75 (by rfl) ?_
    refine o_callV2 hC rl_BW_good rl_Ns_nw (by exact hB.2.2.2.2.2) YX8_makePick IX8_makePick VX8_makePick (mX8_160 hC) (by rw [hB.1]; exact cm_X8_makePick l D ids H0 _ _ m T _ _ S a b w wb ca hq1.rf hs1 ha b16 h5 h3 i4 i2 c2 c1 (h8 (by decide))) (by exact hq1.1) rfl rfl (Nat.le_of_ble_eq_true rfl) (by rw [hB.2.1]; first | exact Nat.le_of_ble_eq_true rfl | (dsimp only; omega)) (by rw [hB.2.1]; first | exact Nat.le_of_ble_eq_true rfl | (dsimp only; omega)) (by rw [hB.2.1]; first | exact Nat.le_of_ble_eq_true rfl | (dsimp only; omega)) (by rw [hB.2.1]; first | exact Nat.le_of_ble_eq_true rfl | (dsimp only; omega)) dX8_make_76 (fun v h_76 n_76 p_76 => ?_)
    obtain ⟨rfl, rfl, f76, k76, q76⟩ := p_76
    try dsimp only [Option.toList, List.cons_append, List.nil_append]
    refine o_goto (tgt := 132) hC dX8_make_79 (by decide) ?_
    refine o_vret hC hB dX8_make_132 (Nat.le_of_ble_eq_true rfl) (Nat.le_of_ble_eq_true rfl) ?_
    exact ⟨rfl, rfl, _, _, hq1.tr q76⟩
  · obtain ⟨b, wb, i1, i2, i3, i4, i5⟩ := h6 (by decide)
    rw [i3]
    have b16 : b < 16 := by omega
    obtain ⟨N, n1, n2, n3⟩ := h9 (by decide)
    refine o_tableIn (off := 55) (tgt := 82) hC dX8_make_27 (by decide +kernel) (by decide +kernel) (by decide +kernel) (by decide) ?_
    refine o_aload_n hC dX8_make_82 (by rfl) ?_
    refine o_iload_n hC dX8_make_83 (by rfl) ?_
    refine o_iload_n hC dX8_make_84 (by rfl) ?_
    refine o_callV2 hC rl_BW_good rl_Ns_nw (by exact hB.2.2.2.2.2) YX8_makeCols IX8_makeCols VX8_makeCols (mX8_163 hC) (by rw [hB.1]; exact cm_X8_makeCols l D ids H0 _ _ m T _ _ S a b w wb N hq1.rf hs1 ha b16 h5 h3 i4 i2 n2 n1 n3) (by exact hq1.1) rfl rfl (Nat.le_of_ble_eq_true rfl) (by rw [hB.2.1]; first | exact Nat.le_of_ble_eq_true rfl | (dsimp only; omega)) (by rw [hB.2.1]; first | exact Nat.le_of_ble_eq_true rfl | (dsimp only; omega)) (by rw [hB.2.1]; first | exact Nat.le_of_ble_eq_true rfl | (dsimp only; omega)) (by rw [hB.2.1]; first | exact Nat.le_of_ble_eq_true rfl | (dsimp only; omega)) dX8_make_85 (fun v h_85 n_85 p_85 => ?_)
    obtain ⟨rfl, rfl, f85, k85, q85⟩ := p_85
    try dsimp only [Option.toList, List.cons_append, List.nil_append]
    refine o_goto (tgt := 132) hC dX8_make_88 (by decide) ?_
    refine o_vret hC hB dX8_make_132 (Nat.le_of_ble_eq_true rfl) (Nat.le_of_ble_eq_true rfl) ?_
    exact ⟨rfl, rfl, _, _, hq1.tr q85⟩
  · obtain ⟨b, wb, i1, i2, i3, i4, i5⟩ := h6 (by decide)
    rw [i3]
    have b16 : b < 16 := by omega
    obtain ⟨d, wd, j1, j2, j3, j4, j5⟩ := i5 (by decide)
    rw [j3]
    have d16 : d < 16 := by omega
    obtain ⟨ca, c1, c2⟩ := h7 (by decide)
    obtain ⟨cb, e1, e2⟩ := h10 (by decide)
    refine o_tableIn (off := 64) (tgt := 91) hC dX8_make_27 (by decide +kernel) (by decide +kernel) (by decide +kernel) (by decide) ?_
    refine o_aload_n hC dX8_make_91 (by rfl) ?_
    refine o_iload_n hC dX8_make_92 (by rfl) ?_
    refine o_iload_n hC dX8_make_93 (by rfl) ?_
    refine o_iload_n hC dX8_make_94 (by rfl) ?_
    refine o_callV3 hC rl_BW_good rl_Ns_nw (by exact hB.2.2.2.2.2) YX8_makeJoin IX8_makeJoin VX8_makeJoin (mX8_166 hC) (by rw [hB.1]; exact cm_X8_makeJoin l D ids H0 _ _ m T _ _ S a b d w wb wd ca cb hq1.rf hs1 ha b16 h5 h3 i4 i2 d16 j4 j2 c2 c1 e2 e1 (j5 (by decide))) (by exact hq1.1) rfl rfl (Nat.le_of_ble_eq_true rfl) (by rw [hB.2.1]; first | exact Nat.le_of_ble_eq_true rfl | (dsimp only; omega)) (by rw [hB.2.1]; first | exact Nat.le_of_ble_eq_true rfl | (dsimp only; omega)) (by rw [hB.2.1]; first | exact Nat.le_of_ble_eq_true rfl | (dsimp only; omega)) (by rw [hB.2.1]; first | exact Nat.le_of_ble_eq_true rfl | (dsimp only; omega)) dX8_make_95 (fun v h_95 n_95 p_95 => ?_)
    obtain ⟨rfl, rfl, f95, k95, q95⟩ := p_95
    try dsimp only [Option.toList, List.cons_append, List.nil_append]
    refine o_goto (tgt := 132) hC dX8_make_98 (by decide) ?_
    refine o_vret hC hB dX8_make_132 (Nat.le_of_ble_eq_true rfl) (Nat.le_of_ble_eq_true rfl) ?_
    exact ⟨rfl, rfl, _, _, hq1.tr q95⟩
  · obtain ⟨b, wb, i1, i2, i3, i4, i5⟩ := h6 (by decide)
    rw [i3]
    have b16 : b < 16 := by omega
    obtain ⟨d, wd, j1, j2, j3, j4, j5⟩ := i5 (by decide)
    rw [j3]
    have d16 : d < 16 := by omega
    refine o_tableIn (off := 74) (tgt := 101) hC dX8_make_27 (by decide +kernel) (by decide +kernel) (by decide +kernel) (by decide) ?_
    refine o_aload_n hC dX8_make_101 (by rfl) ?_
    refine o_iload_n hC dX8_make_102 (by rfl) ?_
    refine o_iload_n hC dX8_make_103 (by rfl) ?_
    refine o_callV2 hC rl_BW_good rl_Ns_nw (by exact hB.2.2.2.2.2) YX8_makeUnite IX8_makeUnite VX8_makeUnite (mX8_169 hC) (by rw [hB.1]; exact cm_X8_makeUnite l D ids H0 _ _ m T _ _ S a b w wb hq1.rf hs1 ha b16 h5 h3 i4 i2) (by exact hq1.1) rfl rfl (Nat.le_of_ble_eq_true rfl) (by rw [hB.2.1]; first | exact Nat.le_of_ble_eq_true rfl | (dsimp only; omega)) (by rw [hB.2.1]; first | exact Nat.le_of_ble_eq_true rfl | (dsimp only; omega)) (by rw [hB.2.1]; first | exact Nat.le_of_ble_eq_true rfl | (dsimp only; omega)) (by rw [hB.2.1]; first | exact Nat.le_of_ble_eq_true rfl | (dsimp only; omega)) dX8_make_104 (fun v h_104 n_104 p_104 => ?_)
    obtain ⟨rfl, rfl, f104, k104, q104⟩ := p_104
    have hq2 := hq1.tr q104
    have hs2 := hq2.sa hs
    try dsimp only [Option.toList, List.cons_append, List.nil_append]
    refine o_aload_n hC dX8_make_107 (by rfl) ?_
    refine o_iload_n hC dX8_make_108 (by rfl) ?_
    refine o_iload_n hC dX8_make_109 (by rfl) ?_
    refine o_callV2 hC rl_BW_good rl_Ns_nw (by exact hB.2.2.2.2.2) YX8_makeUnite IX8_makeUnite VX8_makeUnite (mX8_169 hC) (by rw [hB.1]; exact cm_X8_makeUnite l D ids H0 _ _ m T _ _ S a d w wd hq2.rf hs2 ha d16 h5 h3 j4 j2) (by exact hq2.1) rfl rfl (Nat.le_of_ble_eq_true rfl) (by rw [hB.2.1]; first | exact Nat.le_of_ble_eq_true rfl | (dsimp only; omega)) (by rw [hB.2.1]; first | exact Nat.le_of_ble_eq_true rfl | (dsimp only; omega)) (by rw [hB.2.1]; first | exact Nat.le_of_ble_eq_true rfl | (dsimp only; omega)) (by rw [hB.2.1]; first | exact Nat.le_of_ble_eq_true rfl | (dsimp only; omega)) dX8_make_110 (fun v h_110 n_110 p_110 => ?_)
    obtain ⟨rfl, rfl, f110, k110, q110⟩ := p_110
    try dsimp only [Option.toList, List.cons_append, List.nil_append]
    refine o_goto (tgt := 132) hC dX8_make_113 (by decide) ?_
    refine o_vret hC hB dX8_make_132 (Nat.le_of_ble_eq_true rfl) (Nat.le_of_ble_eq_true rfl) ?_
    exact ⟨rfl, rfl, _, _, hq2.tr q110⟩
  · obtain ⟨b, wb, i1, i2, i3, i4, i5⟩ := h6 (by decide)
    rw [i3]
    have b16 : b < 16 := by omega
    obtain ⟨d, wd, j1, j2, j3, j4, j5⟩ := i5 (by decide)
    rw [j3]
    have d16 : d < 16 := by omega
    refine o_tableIn (off := 89) (tgt := 116) hC dX8_make_27 (by decide +kernel) (by decide +kernel) (by decide +kernel) (by decide) ?_
    refine o_aload_n hC dX8_make_116 (by rfl) ?_
    refine o_iload_n hC dX8_make_117 (by rfl) ?_
    refine o_iload_n hC dX8_make_118 (by rfl) ?_
    refine o_iload_n hC dX8_make_119 (by rfl) ?_
    refine o_callV3 hC rl_BW_good rl_Ns_nw (by exact hB.2.2.2.2.2) YX8_makeMinus IX8_makeMinus VX8_makeMinus (mX8_172 hC) (by rw [hB.1]; exact cm_X8_makeMinus l D ids H0 _ _ m T _ _ S a b d w wb wd hq1.rf hs1 ha b16 h5 h3 i4 i2 d16 j4 j2) (by exact hq1.1) rfl rfl (Nat.le_of_ble_eq_true rfl) (by rw [hB.2.1]; first | exact Nat.le_of_ble_eq_true rfl | (dsimp only; omega)) (by rw [hB.2.1]; first | exact Nat.le_of_ble_eq_true rfl | (dsimp only; omega)) (by rw [hB.2.1]; first | exact Nat.le_of_ble_eq_true rfl | (dsimp only; omega)) (by rw [hB.2.1]; first | exact Nat.le_of_ble_eq_true rfl | (dsimp only; omega)) dX8_make_120 (fun v h_120 n_120 p_120 => ?_)
    obtain ⟨rfl, rfl, f120, k120, q120⟩ := p_120
    try dsimp only [Option.toList, List.cons_append, List.nil_append]
    refine o_goto (tgt := 132) hC dX8_make_123 (by decide) ?_
    refine o_vret hC hB dX8_make_132 (Nat.le_of_ble_eq_true rfl) (Nat.le_of_ble_eq_true rfl) ?_
    exact ⟨rfl, rfl, _, _, hq1.tr q120⟩
  · obtain ⟨b, wb, i1, i2, i3, i4, i5⟩ := h6 (by decide)
    rw [i3]
    have b16 : b < 16 := by omega
    obtain ⟨ca, c1, c2⟩ := h7 (by decide)
    obtain ⟨cb, e1, e2⟩ := h10 (by decide)
    refine o_tableOut (tgt := 126) hC dX8_make_27 (by decide +kernel) (by decide) ?_
    refine o_aload_n hC dX8_make_126 (by rfl) ?_
    refine o_iload_n hC dX8_make_127 (by rfl) ?_
    refine o_iload_n hC dX8_make_128 (by rfl) ?_
    refine o_callV2 hC rl_BW_good rl_Ns_nw (by exact hB.2.2.2.2.2) YX8_makeFold IX8_makeFold VX8_makeFold (mX8_175 hC) (by rw [hB.1]; exact cm_X8_makeFold l D ids H0 _ _ m T _ _ S a b w wb ca cb hq1.rf hs1 ha b16 h5 h3 i4 i2 c2 c1 e2 e1) (by exact hq1.1) rfl rfl (Nat.le_of_ble_eq_true rfl) (by rw [hB.2.1]; first | exact Nat.le_of_ble_eq_true rfl | (dsimp only; omega)) (by rw [hB.2.1]; first | exact Nat.le_of_ble_eq_true rfl | (dsimp only; omega)) (by rw [hB.2.1]; first | exact Nat.le_of_ble_eq_true rfl | (dsimp only; omega)) (by rw [hB.2.1]; first | exact Nat.le_of_ble_eq_true rfl | (dsimp only; omega)) dX8_make_129 (fun v h_129 n_129 p_129 => ?_)
    obtain ⟨rfl, rfl, f129, k129, q129⟩ := p_129
    try dsimp only [Option.toList, List.cons_append, List.nil_append]
    refine o_vret hC hB dX8_make_132 (Nat.le_of_ble_eq_true rfl) (Nat.le_of_ble_eq_true rfl) ?_
    exact ⟨rfl, rfl, _, _, hq1.tr q129⟩
