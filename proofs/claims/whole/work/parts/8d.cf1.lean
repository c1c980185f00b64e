/-! THE CLASS, functionally: WAYS and tables as lists -/
/-- a WAYS of the class -/
def wat (ids : Nat → ClassId) (h : rl_H) (w : Nat) (L : List tT) : Prop := ∃ f g : Nat → Int64, ws_at ids h w f g L.length ∧ tls f g L.length = L
theorem wat.eqv {ids : Nat → ClassId} {h h' : rl_H} {w : Nat} {L : List tT} (H : wat ids h w L) (he : ∀ q, w ≤ q → q < w + 3 → h' q = h q) : wat ids h' w L := by
  obtain ⟨f, g, H, e⟩ := H
  exact ⟨f, g, H.eqv he, e⟩
theorem wat.ok {ids : Nat → ClassId} {h : rl_H} {w : Nat} {L : List tT} (H : wat ids h w L) : ws_ok ids h w := by
  obtain ⟨f, g, H, e⟩ := H
  exact ⟨f, g, _, H⟩
theorem wat.le {ids : Nat → ClassId} {h : rl_H} {w : Nat} {L : List tT} (H : wat ids h w L) : L.length ≤ 12 := by
  obtain ⟨f, g, H, e⟩ := H
  exact H.2.2.2
theorem ws_at.wat {ids : Nat → ClassId} {h : rl_H} {w k : Nat} {f g : Nat → Int64} (H : ws_at ids h w f g k) : wat ids h w (tls f g k) := ⟨f, g, by rw [tls_len]; exact H, by rw [tls_len]⟩
/-- how EITHER, BOTH, NOT end: FULL is none -/
def wres (ids : Nat → ClassId) (h : rl_H) (w : Nat) (r : Option (List tT)) (x : Int32) : Prop := (∃ L : List tT, r = some L ∧ x = nI 1 ∧ wat ids h w L) ∨ (r = none ∧ x = nI 0)
theorem dr_out.we {ids : Nat → ClassId} {h h' : rl_H} {d w : Nat} {C : List tT} {F G f g : Nat → Int64} {x : Int32} (H : dr_out ids h h' d w (dr_fold C (F, G, 0)) f g x) (hC : C.length ≤ 432) : wres ids h' w (wst C) x := by
  have hd := dr_fold_0 C F G hC
  obtain ⟨a, b | b⟩ := H
  · refine Or.inr ⟨?_, b.2.1⟩
    unfold wst
    rw [if_neg (by rw [← hd.2]; exact Nat.not_le.mpr b.1)]
  · have el : (tso (tfl C)).length = (dr_fold C (F, G, 0)).2.2 := by rw [(tso_perm _).length_eq, hd.2]
    refine Or.inl ⟨tso (tfl C), ?_, b.2.1, _, _, by rw [el]; exact b.2.2.1, ?_⟩
    · unfold wst
      rw [if_pos (by rw [← hd.2]; exact b.1)]
    · rw [el, st_go_so, hd.1]
theorem ei_out {ids : Nat → ClassId} {h h' : rl_H} {d w ka kb : Nat} {A B : List tT} {F G fa ga fb gb f g : Nat → Int64} {x : Int32} (ha : tls fa ga ka = A) (hb : tls fb gb kb = B) (hA : ka ≤ 12) (hB : kb ≤ 12) (H : dr_out ids h h' d w (ei_go fb gb kb 0 (ei_go fa ga ka 0 (F, G, 0))) f g x) : wres ids h' w (wst (A ++ B)) x := by
  rw [ei_fold, ei_fold, ← dr_fold_app, ← tls_0, ← tls_0, ha, hb] at H
  refine H.we ?_
  rw [List.length_append, ← ha, ← hb, tls_len, tls_len]
  omega
theorem bo_out {ids : Nat → ClassId} {h h' : rl_H} {d w ka kb : Nat} {A B : List tT} {F G fa ga fb gb f g : Nat → Int64} {x : Int32} (ha : tls fa ga ka = A) (hb : tls fb gb kb = B) (hA : ka ≤ 12) (hB : kb ≤ 12) (H : dr_out ids h h' d w (bo_go fa ga fb gb kb ka 0 (F, G, 0)) f g x) : wres ids h' w (wst (tbo A B)) x := by
  rw [bo_fold, ← tls_0, ha, hb] at H
  refine H.we ?_
  rw [tbo_len, ← ha, ← hb, tls_len, tls_len]
  exact Nat.le_trans (Nat.mul_le_mul hA hB) (by decide)
theorem no_out {ids : Nat → ClassId} {h : rl_H} {w ka : Nat} {A : List tT} {s : dr_S} {fa ga fm gm : Nat → Int64} {x : Int32} (ha : tls fa ga ka = A) (hA : ∀ e ∈ A, tok e) (hx : x = (if (no_go fa ga ka 0 s (vp_updL fm 0 0, vp_updL gm 0 0, 1)).2.2 then nI 1 else nI 0)) (H : ws_at ids h w (no_go fa ga ka 0 s (vp_updL fm 0 0, vp_updL gm 0 0, 1)).2.1.1 (no_go fa ga ka 0 s (vp_updL fm 0 0, vp_updL gm 0 0, 1)).2.1.2.1 (no_go fa ga ka 0 s (vp_updL fm 0 0, vp_updL gm 0 0, 1)).2.1.2.2) : wres ids h w (wno A [(0, 0)]) x := by
  have key := no_go_list fa ga ka 0 s (vp_updL fm 0 0, vp_updL gm 0 0, 1) (fun j _ hj => hA (fa j, ga j) (by rw [← ha]; exact tls_mem.mpr ⟨j, by omega, rfl⟩)) (by show 1 ≤ 12; decide)
  have e1 : tls (vp_updL fm 0 0) (vp_updL gm 0 0) 1 = [((0 : Int64), (0 : Int64))] := by
    show [(vp_updL fm 0 0 0, vp_updL gm 0 0 0)] = _
    rw [up_at, up_at]
  rw [← tls_0, ha, e1] at key
  cases hb : (no_go fa ga ka 0 s (vp_updL fm 0 0, vp_updL gm 0 0, 1)).2.2 with
  | true =>
    rw [hb] at hx
    exact Or.inl ⟨_, key.1 hb, hx, H.wat⟩
  | false =>
    rw [hb] at hx
    exact Or.inr ⟨key.2 hb, hx⟩
/-- row i of a table of the class -/
abbrev crw (S : tb_S) (i w : Nat) : arow := (rcl (S.1 i) w, tls (S.2.1 i) (S.2.2.1 i) (S.2.2.2 i))
/-- a table of the class -/
def ctb (ids : Nat → ClassId) (h : rl_H) (a w : Nat) (tab : List arow) : Prop := ∃ (P : Nat → Nat) (S : tb_S), tb_at ids h a tab.length w P S ∧ (∀ i j : Nat, i < 80 → j < 80 → P i = P j → i = j) ∧ ∀ j : Nat, j < tab.length → crw S (P j) w = ark tab j
theorem ctb.eqv {ids : Nat → ClassId} {h h' : rl_H} {a w : Nat} {tab : List arow} (H : ctb ids h a w tab) (he : ∀ q, a ≤ q → q < a + 402 → h' q = h q) : ctb ids h' a w tab := by
  obtain ⟨P, S, H, e⟩ := H
  exact ⟨P, S, H.eqv he, e⟩
theorem ctb.ok {ids : Nat → ClassId} {h : rl_H} {a w : Nat} {tab : List arow} (H : ctb ids h a w tab) : tb_ok ids h a w := by
  obtain ⟨P, S, H, e⟩ := H
  exact ⟨_, P, S, H⟩
theorem tbi.eqv {ids : Nat → ClassId} {h h' : rl_H} {a w : Nat} (H : tbi ids h a w) (he : ∀ q, a ≤ q → q < a + 402 → h' q = h q) : tbi ids h' a w := by
  obtain ⟨sz, P, S, H, e⟩ := H
  exact ⟨sz, P, S, H.eqv he, e⟩
theorem tbi.ok {ids : Nat → ClassId} {h : rl_H} {a w : Nat} (H : tbi ids h a w) : tb_ok ids h a w := by
  obtain ⟨sz, P, S, H, e⟩ := H
  exact ⟨sz, P, S, H⟩
theorem ctb.ti {ids : Nat → ClassId} {h : rl_H} {a w : Nat} {tab : List arow} (H : ctb ids h a w tab) : tbi ids h a w := by
  obtain ⟨P, S, H, e, -⟩ := H
  exact ⟨_, P, S, H, e⟩
/-- a table is begun -/
theorem tbi.begin {ids : Nat → ClassId} {h h' : rl_H} {a wd w : Nat} (H : tbi ids h a wd) (hw : w ≤ 6) (h1 : h' a = some (.inr (4, [.ref (a + 1), .int (nI 0), .int (nI w)]))) (he : ∀ q, q ≠ a → h' q = h q) : ctb ids h' a w [] := by
  obtain ⟨sz, P, S, ⟨t1, ⟨f, t2, t3⟩, t4, t5, t6, t7⟩, hP⟩ := H
  exact ⟨P, S, ⟨h1, ⟨f, by rw [he (a + 1) (by omega)]; exact t2, t3⟩, t4, fun i hi => (t5 i hi).eqv (fun q q1 q2 => he q (by omega)), Nat.zero_le _, hw⟩, hP, fun j hj => absurd hj (Nat.not_lt_zero j)⟩
theorem aok_nil (w : Nat) : aok w [] := ⟨List.Pairwise.nil, (fun _ hr => absurd hr List.not_mem_nil), Nat.zero_le _⟩
/-- a Tuple's Ways is another one -/
theorem tb_at.wayf {ids : Nat → ClassId} {h h' : rl_H} {a sz wd i wk : Nat} {P : Nat → Nat} {S : tb_S} {wf wg : Nat → Int64} (H : tb_at ids h a sz wd P S) (hi : i < 80) (hw : ws_at ids h' (a + 2 + 5 * i + 2) wf wg wk) (he : ∀ q, a ≤ q → q < a + 402 → (q < a + 2 + 5 * i + 2 ∨ a + 2 + 5 * i + 5 ≤ q) → h' q = h q) : tb_at ids h' a sz wd P (S.1, va_up S.2.1 i wf, va_up S.2.2.1 i wg, va_up S.2.2.2 i wk) := by
  obtain ⟨h1, ⟨f, h2, h3⟩, h4, h5, h6⟩ := H
  refine ⟨by rw [he a (by omega) (by omega) (by omega)]; exact h1, ⟨f, by rw [he (a + 1) (by omega) (by omega) (by omega)]; exact h2, h3⟩, h4, fun j hj => ?_, h6⟩
  show tp_at ids h' _ (S.1 j) (va_up S.2.1 i wf j) (va_up S.2.2.1 i wg j) (va_up S.2.2.2 i wk j)
  by_cases q : j = i
  · subst q
    unfold va_up
    rw [if_pos rfl, if_pos rfl, if_pos rfl]
    obtain ⟨e1, e2, e3⟩ := h5 j hj
    exact ⟨by rw [he _ (by omega) (by omega) (by omega)]; exact e1, by rw [he _ (by omega) (by omega) (by omega)]; exact e2, hw⟩
  · unfold va_up
    rw [if_neg q, if_neg q, if_neg q]
    exact (h5 j hj).eqv (fun q q1 q2 => he q (by omega) (by omega) (by omega))
/-- how a table stands after a TUPLE more: FULL is none -/
def pres (ids : Nat → ClassId) (h : rl_H) (a w : Nat) (r : Option (List arow)) (x : Int32) : Prop := (∃ tab : List arow, r = some tab ∧ x = nI 1 ∧ ctb ids h a w tab ∧ aok w tab) ∨ (r = none ∧ x = nI 0 ∧ tbi ids h a w)
theorem crw_o {S : tb_S} {P : Nat → Nat} {nc : Nat → Int32} {wd : Nat} {tab : List arow} (h : ∀ j : Nat, j < tab.length → crw S (P j) wd = ark tab j) {j : Nat} (hj : j < tab.length) : tb_o S P nc wd j = lcm2 (ark tab j).1 (rcl nc wd) := by
  rw [← h j hj]
  exact tb_ord_l _ _ _ _
theorem crw_fb {S : tb_S} {P : Nat → Nat} {nc : Nat → Int32} {wd : Nat} {tab : List arow} (h : ∀ j : Nat, j < tab.length → crw S (P j) wd = ark tab j) : tb_fb (tb_o S P nc wd) tab.length = afb tab (rcl nc wd) := tb_fb_eq (fun j hj => crw_o h hj)
theorem crw_hit {S : tb_S} {P : Nat → Nat} {nc : Nat → Int32} {wd : Nat} {tab : List arow} (h : ∀ j : Nat, j < tab.length → crw S (P j) wd = ark tab j) : (0 < tb_fb (tb_o S P nc wd) tab.length ∧ tb_o S P nc wd (tb_fb (tb_o S P nc wd) tab.length - 1) = 0) ↔ (0 < afb tab (rcl nc wd) ∧ lcm2 (ark tab (afb tab (rcl nc wd) - 1)).1 (rcl nc wd) = 0) := by
  rw [crw_fb h]
  refine and_congr_right (fun h0 => ?_)
  have hle : afb tab (rcl nc wd) ≤ tab.length := tb_fb_le _ _
  rw [crw_o h (by omega)]
theorem sh_inj {P : Nat → Nat} {fb sz : Nat} (h : ∀ i j : Nat, i < 80 → j < 80 → P i = P j → i = j) (hf : fb ≤ sz) (hs : sz < 80) : ∀ i j : Nat, i < 80 → j < 80 → tb_sh P fb sz i = tb_sh P fb sz j → i = j := by
  have key : ∀ i : Nat, i < 80 → tb_sh P fb sz i = P (if i < fb then i else if i = fb then sz else if i ≤ sz then i - 1 else i) := fun i _ => by
    unfold tb_sh
    by_cases e1 : i < fb
    · rw [if_pos e1, if_pos e1]
    · rw [if_neg e1, if_neg e1]
      by_cases e2 : i = fb
      · rw [if_pos e2, if_pos e2]
      · rw [if_neg e2, if_neg e2]
        by_cases e3 : i ≤ sz
        · rw [if_pos e3, if_pos e3]
        · rw [if_neg e3, if_neg e3]
  intro i j hi hj e
  rw [key i hi, key j hj] at e
  have e2 := h _ _ (by split <;> (try split) <;> (try split) <;> omega) (by split <;> (try split) <;> (try split) <;> omega) e
  revert e2
  repeat' split
  all_goals (intro _; omega)
theorem crw_set {S : tb_S} {P : Nat → Nat} {wd t k : Nat} {tab : List arow} {key : List Int32} {L : List tT} {f g : Nat → Int64} (h : ∀ j : Nat, j < tab.length → crw S (P j) wd = ark tab j) (hP : ∀ i j : Nat, i < 80 → j < 80 → P i = P j → i = j) (h80 : tab.length ≤ 80) (ht : t < tab.length) (hkey : (ark tab t).1 = key) (hL : tls f g k = L) : ∀ j : Nat, j < (tab.set t (key, L)).length → crw (S.1, va_up S.2.1 (P t) f, va_up S.2.2.1 (P t) g, va_up S.2.2.2 (P t) k) (P j) wd = ark (tab.set t (key, L)) j := by
  intro j hj
  rw [List.length_set] at hj
  by_cases e : j = t
  · subst e
    rw [show ark (tab.set j (key, L)) j = (key, L) by unfold ark; rw [List.getD_eq_getElem?_getD, List.getElem?_set_self hj]; rfl]
    show (rcl (S.1 (P j)) wd, tls (va_up S.2.1 (P j) f (P j)) (va_up S.2.2.1 (P j) g (P j)) (va_up S.2.2.2 (P j) k (P j))) = _
    rw [va_up_self, va_up_self, va_up_self, hL, ← hkey, ← h j hj]
  · rw [show ark (tab.set t (key, L)) j = ark tab j by unfold ark; rw [List.getD_eq_getElem?_getD, List.getD_eq_getElem?_getD, List.getElem?_set_ne (by omega)]]
    have ne : P j ≠ P t := fun q => e (hP j t (by omega) (by omega) q)
    show (rcl (S.1 (P j)) wd, tls (va_up S.2.1 (P t) f (P j)) (va_up S.2.2.1 (P t) g (P j)) (va_up S.2.2.2 (P t) k (P j))) = _
    rw [va_up_ne _ _ ne, va_up_ne _ _ ne, va_up_ne _ _ ne]
    exact h j hj
theorem crw_new {S : tb_S} {P : Nat → Nat} {wd fb k : Nat} {tab : List arow} {nc : Nat → Int32} {L : List tT} {f g : Nat → Int64} (h : ∀ j : Nat, j < tab.length → crw S (P j) wd = ark tab j) (hP : ∀ i j : Nat, i < 80 → j < 80 → P i = P j → i = j) (h80 : tab.length < 80) (hw : wd ≤ 6) (hf : fb ≤ tab.length) (hL : tls f g k = L) : ∀ j : Nat, j < (tab.take fb ++ (rcl nc wd, L) :: tab.drop fb).length → crw ((tb_in S (P tab.length) nc).1, va_up (tb_in S (P tab.length) nc).2.1 (P tab.length) f, va_up (tb_in S (P tab.length) nc).2.2.1 (P tab.length) g, va_up (tb_in S (P tab.length) nc).2.2.2 (P tab.length) k) (tb_sh P fb tab.length j) wd = ark (tab.take fb ++ (rcl nc wd, L) :: tab.drop fb) j := by
  intro j hj
  have el : (tab.take fb ++ (rcl nc wd, L) :: tab.drop fb).length = tab.length + 1 := by
    rw [List.length_append, List.length_cons, List.length_take, List.length_drop]
    omega
  rw [el] at hj
  rw [ark_ins hf]
  have old : ∀ i : Nat, i < tab.length → crw ((tb_in S (P tab.length) nc).1, va_up (tb_in S (P tab.length) nc).2.1 (P tab.length) f, va_up (tb_in S (P tab.length) nc).2.2.1 (P tab.length) g, va_up (tb_in S (P tab.length) nc).2.2.2 (P tab.length) k) (P i) wd = ark tab i := by
    intro i hi
    have ne : P i ≠ P tab.length := fun q => absurd (hP i tab.length (by omega) h80 q) (by omega)
    show (rcl (va_up S.1 (P tab.length) _ (P i)) wd, tls (va_up S.2.1 (P tab.length) f (P i)) (va_up S.2.2.1 (P tab.length) g (P i)) (va_up (va_up S.2.2.2 (P tab.length) 0) (P tab.length) k (P i))) = _
    rw [va_up_ne _ _ ne, va_up_ne _ _ ne, va_up_ne _ _ ne, va_up_ne _ _ ne, va_up_ne _ _ ne]
    exact h i hi
  unfold tb_sh
  by_cases e1 : j < fb
  · rw [if_pos e1, if_pos e1]
    exact old j (by omega)
  · rw [if_neg e1, if_neg e1]
    by_cases e2 : j = fb
    · rw [if_pos e2, if_pos e2]
      show (rcl (va_up S.1 (P tab.length) (va_cpy nc (S.1 (P tab.length)) 0 0 6) (P tab.length)) wd, tls (va_up S.2.1 (P tab.length) f (P tab.length)) (va_up S.2.2.1 (P tab.length) g (P tab.length)) (va_up (va_up S.2.2.2 (P tab.length) 0) (P tab.length) k (P tab.length))) = _
      rw [va_up_self, va_up_self, va_up_self, va_up_self, hL]
      congr 1
      refine rsg_eq (fun i _ hi => ?_)
      unfold va_cpy
      rw [if_pos (by omega), Nat.zero_add, Nat.sub_zero]
    · rw [if_neg e2, if_neg e2, if_pos (by omega)]
      exact old (j - 1) (by omega)

set_option maxHeartbeats 4000000 in
set_option maxRecDepth 100000 in
theorem cp_X2_put (l : Launch) (D : va_G) (ids : Nat → ClassId) (H0 : Heap) (h : rl_H) (n : Nat) (o so a w na wd : Nat) (gp : Nat → Option Nat) (tab : List arow) (ts : List tT) (nc : Nat → Int32) (ho : op_sh ids h o so gp) (htab : ctb ids h a wd tab) (hok : aok wd tab) (hn : h na = some (.inl (ids 0, 6, .inl nc))) (hwt : wat ids h w ts) (hts : wok ts) (hna : na < a ∨ a + 402 ≤ na) (hwa : w + 3 ≤ a ∨ a + 402 ≤ w) (hwd : o + 4 ≤ w ∨ w + 3 ≤ o + 1) (hoa : o + 22 ≤ a ∨ a + 402 ≤ o) : rl_Met l (rl_e D ids H0) rl_BW rl_Ns yX2_put cX2_put 5 (some .boolean) ({ frames := 3, cells := 0, slots := 0, locals := 125 }) [.ref o, .ref a, .ref na, .ref w] h n (fun v h' n' => ∃ x : Int32, v = some (.int x) ∧ n' = n ∧ op_sh ids h' o so gp ∧ rl_g2 h h' (o + 1) (o + 4) a (a + 402) ∧ pres ids h' a wd (aput tab (rcl nc wd) ts) x) := by
  obtain ⟨o0, ⟨ds, hd⟩, o4, o7, o8, o9, ot⟩ := id ho
  obtain ⟨P, S, ht, hP, hrow⟩ := id htab
  obtain ⟨f, g, hw, wl⟩ := id hwt
  obtain ⟨w1, w2, w3, w4⟩ := id hw
  refine rl_Met.of (by decide +kernel) (Nat.le_of_ble_eq_true rfl) ?_
  intro X hC hB
  show rl_G X (rl_e D ids H0) 0 [some (.ref o), some (.ref a), some (.ref na), some (.ref w), none] [] h n 0 0
  refine o_aload_n hC dX2_put_0 (by rfl) ?_
  refine o_getf hC (fX2_191 hC rfl) dX2_put_1 (by repeat (first | with_reducible assumption | (rw [rl_u_s]; done) | (rw [rl_u_s]; rfl) | rw [rl_u_n (by first | with_reducible assumption | omega)])) (by first | rfl | with_reducible assumption) ?_
  refine o_if_ne (tgt := 9) hC dX2_put_4 (by decide) (fun c_4 => ?_) (fun c_4 => ?_)
  · have hne : ts ≠ [] := fun q => c_4 (by rw [q]; rfl)
    refine o_aload_n hC dX2_put_9 (by rfl) ?_
    refine o_aload_n hC dX2_put_10 (by rfl) ?_
    refine o_callV1 hC rl_BW_good rl_Ns_nw (by exact hB.2.2.2.2.2) YX4_findOrAdd IX4_findOrAdd VX4_findOrAdd (mX2_192 hC) (by rw [hB.1]; exact ct_X4_findOrAdd l D ids H0 h n a tab.length wd na P S nc ht hn hna) (by exact ht.1) rfl rfl (Nat.le_of_ble_eq_true rfl) (by rw [hB.2.1]; first | exact Nat.le_of_ble_eq_true rfl | (dsimp only; omega)) (by rw [hB.2.1]; first | exact Nat.le_of_ble_eq_true rfl | (dsimp only; omega)) (by rw [hB.2.1]; first | exact Nat.le_of_ble_eq_true rfl | (dsimp only; omega)) (by rw [hB.2.1]; first | exact Nat.le_of_ble_eq_true rfl | (dsimp only; omega)) dX2_put_11 (fun v h_11 n_11 p_11 => ?_)
    try dsimp only [Option.toList, List.cons_append, List.nil_append]
    rcases p_11 with ⟨hh, rfl, rfl, rfl⟩ | ⟨rfl, h80, nhit, rfl, rfl⟩ | ⟨nhit, h80, rfl, rfl, p1, p2⟩
    · have hhit := (crw_hit hrow).mp hh
      obtain ⟨t, ht'⟩ : ∃ t : Nat, t = afb tab (rcl nc wd) - 1 := ⟨_, rfl⟩
      have hle : afb tab (rcl nc wd) ≤ tab.length := tb_fb_le _ _
      have htl : t < tab.length := by omega
      have hpt : P t < 80 := ht.2.2.1 t (by have := hok.2.2; omega)
      rw [crw_fb hrow, ← ht']
      obtain ⟨e1, e2, e3⟩ := ht.2.2.2.1 (P t) hpt
      have u1 : h_11 o = some (.inr (2, [.ref (o + 1), .ref (o + 4), .ref (o + 7), .ref (o + 8), .ref (o + 9)])) := by exact o0
      have u2 : dr_at ids h_11 (o + 1) ds := hd
      have u3 := hw
      try dsimp only [Option.toList, List.cons_append, List.nil_append]
      refine o_astore hC dX2_put_14 (Nat.le_of_ble_eq_true rfl) ?_
      refine o_aload hC dX2_put_16 (by rfl) ?_
      refine o_ifnull hC dX2_put_18 ?_
      refine o_aload_n hC dX2_put_21 (by rfl) ?_
      refine o_getf hC (fX2_12 hC rfl) dX2_put_22 (by repeat (first | with_reducible assumption | (rw [rl_u_s]; done) | (rw [rl_u_s]; rfl) | rw [rl_u_n (by first | with_reducible assumption | omega)])) (by first | rfl | with_reducible assumption) ?_
      refine o_aload hC dX2_put_25 (by rfl) ?_
      refine o_getf hC (fX2_116 hC rfl) dX2_put_27 (by repeat (first | with_reducible assumption | (rw [rl_u_s]; done) | (rw [rl_u_s]; rfl) | rw [rl_u_n (by first | with_reducible assumption | omega)])) (by first | rfl | with_reducible assumption) ?_
      refine o_aload_n hC dX2_put_30 (by rfl) ?_
      refine o_aload hC dX2_put_31 (by rfl) ?_
      refine o_getf hC (fX2_116 hC rfl) dX2_put_33 (by repeat (first | with_reducible assumption | (rw [rl_u_s]; done) | (rw [rl_u_s]; rfl) | rw [rl_u_n (by first | with_reducible assumption | omega)])) (by first | rfl | with_reducible assumption) ?_
      refine o_callV3 hC rl_BW_good rl_Ns_nw (by exact hB.2.2.2.2.2) YX0_either IX0_either VX0_either (mX2_195 hC) (by rw [hB.1]; exact ct_X0_either l D ids H0 _ _ (o + 1) (a + 2 + 5 * P t + 2) w (a + 2 + 5 * P t + 2) _ _ _ ds _ _ _ _ _ _ u2 e3 u3 e3 (by omega) (by omega) (by omega)) (by exact u2.1) rfl rfl (Nat.le_of_ble_eq_true rfl) (by rw [hB.2.1]; first | exact Nat.le_of_ble_eq_true rfl | (dsimp only; omega)) (by rw [hB.2.1]; first | exact Nat.le_of_ble_eq_true rfl | (dsimp only; omega)) (by rw [hB.2.1]; first | exact Nat.le_of_ble_eq_true rfl | (dsimp only; omega)) (by rw [hB.2.1]; first | exact Nat.le_of_ble_eq_true rfl | (dsimp only; omega)) dX2_put_36 (fun v h_36 n_36 p_36 => ?_)
      obtain ⟨x, rfl, rfl, q1⟩ := p_36
      have e6 := q1.f2
      try dsimp only [Option.toList, List.cons_append, List.nil_append]
      refine o_if_eq (tgt := 46) hC dX2_put_39 (by decide) (fun c_39 => ?_) (fun c_39 => ?_)
      · refine o_iconst (v := nI 0) hC dX2_put_46 (by decide +kernel) ?_
        refine o_zret hC hB dX2_put_47 (by first | rfl | decide +kernel) (Nat.le_of_ble_eq_true rfl) (Nat.le_of_ble_eq_true rfl) ?_
        have ex : x = nI 0 := c_39
        refine ⟨_, rfl, rfl, ho.dr ⟨_, q1.1⟩ (fun q a1 a2 a3 => e6 q (by omega) (by omega)), fun q a1 a2 => e6 q (by omega) (by omega), ?_⟩
        have ea : aput tab (rcl nc wd) ts = (wst ((ark tab t).2 ++ ts)).map (fun u => tab.set t (rcl nc wd, u)) := by
          unfold aput
          rw [if_neg hne, if_pos hhit, ← ht']
        have hkey : (ark tab t).1 = rcl nc wd := by
          have := hhit.2
          rw [← ht'] at this
          refine lcm2_0 ?_ this
          rw [← hrow t htl, rsg_len, rsg_len]
        rcases ei_out (show tls (S.2.1 (P t)) (S.2.2.1 (P t)) (S.2.2.2 (P t)) = (ark tab t).2 from congrArg Prod.snd (hrow t htl)) wl e3.2.2.2 hw.2.2.2 q1 with ⟨L, h3, h4, wf, wg, h5, h6⟩ | ⟨h3, h4⟩
        · refine Or.inl ⟨tab.set t (rcl nc wd, L), by rw [ea, h3]; rfl, (ex.symm.trans h4), ⟨P, _, ?_, hP, crw_set hrow hP hok.2.2 htl hkey h6⟩, aput_ok hok (rsg_len _ _ _) hts (by rw [ea, h3]; rfl)⟩
          rw [List.length_set]
          exact ht.wayf (ht.2.2.1 t (by have := hok.2.2; omega)) h5 (fun q a1 a2 a3 => e6 q (by omega) (by omega))
        · exact Or.inr ⟨by rw [ea, h3]; rfl, (ex.symm.trans h4), (ht.way (ht.2.2.1 t (by have := hok.2.2; omega)) (q1.ws e3 (by omega)) (fun q a1 a2 a3 => e6 q (by omega) (by omega))).elim (fun S2 e => ⟨_, _, _, e, hP⟩)⟩
      · refine o_iconst (v := nI 1) hC dX2_put_42 (by decide +kernel) ?_
        refine o_goto (tgt := 47) hC dX2_put_43 (by decide) ?_
        refine o_zret hC hB dX2_put_47 (by first | rfl | decide +kernel) (Nat.le_of_ble_eq_true rfl) (Nat.le_of_ble_eq_true rfl) ?_
        have ex : x = nI 1 := q1.x.resolve_left c_39
        refine ⟨_, rfl, rfl, ho.dr ⟨_, q1.1⟩ (fun q a1 a2 a3 => e6 q (by omega) (by omega)), fun q a1 a2 => e6 q (by omega) (by omega), ?_⟩
        have ea : aput tab (rcl nc wd) ts = (wst ((ark tab t).2 ++ ts)).map (fun u => tab.set t (rcl nc wd, u)) := by
          unfold aput
          rw [if_neg hne, if_pos hhit, ← ht']
        have hkey : (ark tab t).1 = rcl nc wd := by
          have := hhit.2
          rw [← ht'] at this
          refine lcm2_0 ?_ this
          rw [← hrow t htl, rsg_len, rsg_len]
        rcases ei_out (show tls (S.2.1 (P t)) (S.2.2.1 (P t)) (S.2.2.2 (P t)) = (ark tab t).2 from congrArg Prod.snd (hrow t htl)) wl e3.2.2.2 hw.2.2.2 q1 with ⟨L, h3, h4, wf, wg, h5, h6⟩ | ⟨h3, h4⟩
        · refine Or.inl ⟨tab.set t (rcl nc wd, L), by rw [ea, h3]; rfl, (ex.symm.trans h4), ⟨P, _, ?_, hP, crw_set hrow hP hok.2.2 htl hkey h6⟩, aput_ok hok (rsg_len _ _ _) hts (by rw [ea, h3]; rfl)⟩
          rw [List.length_set]
          exact ht.wayf (ht.2.2.1 t (by have := hok.2.2; omega)) h5 (fun q a1 a2 a3 => e6 q (by omega) (by omega))
        · exact Or.inr ⟨by rw [ea, h3]; rfl, (ex.symm.trans h4), (ht.way (ht.2.2.1 t (by have := hok.2.2; omega)) (q1.ws e3 (by omega)) (fun q a1 a2 a3 => e6 q (by omega) (by omega))).elim (fun S2 e => ⟨_, _, _, e, hP⟩)⟩
    · try dsimp only [Option.toList, List.cons_append, List.nil_append]
      refine o_astoreN hC dX2_put_14 (Nat.le_of_ble_eq_true rfl) ?_
      refine o_aloadN hC dX2_put_16 (by rfl) ?_
      refine o_ifnullN (tgt := 46) hC dX2_put_18 (by decide) ?_
      refine o_iconst (v := nI 0) hC dX2_put_46 (by decide +kernel) ?_
      refine o_zret hC hB dX2_put_47 (by first | rfl | decide +kernel) (Nat.le_of_ble_eq_true rfl) (Nat.le_of_ble_eq_true rfl) ?_
      refine ⟨_, rfl, rfl, ho, rl_g2.rf, Or.inr ⟨?_, rfl, htab.ti⟩⟩
      unfold aput
      rw [if_neg hne, if_neg (fun q => nhit ((crw_hit hrow).mpr q)), if_pos h80]
    · have hpt : P tab.length < 80 := ht.2.2.1 _ h80
      obtain ⟨e1, e2, e3⟩ := p1.2.2.2.1 (P tab.length) hpt
      have u1 : h_11 o = some (.inr (2, [.ref (o + 1), .ref (o + 4), .ref (o + 7), .ref (o + 8), .ref (o + 9)])) := by rw [p2 o (by omega)]; exact o0
      have u2 : dr_at ids h_11 (o + 1) ds := hd.kept p2 (by omega)
      have u3 := hw.kept p2 (by omega)
      try dsimp only [Option.toList, List.cons_append, List.nil_append]
      refine o_astore hC dX2_put_14 (Nat.le_of_ble_eq_true rfl) ?_
      refine o_aload hC dX2_put_16 (by rfl) ?_
      refine o_ifnull hC dX2_put_18 ?_
      refine o_aload_n hC dX2_put_21 (by rfl) ?_
      refine o_getf hC (fX2_12 hC rfl) dX2_put_22 (by repeat (first | with_reducible assumption | (rw [rl_u_s]; done) | (rw [rl_u_s]; rfl) | rw [rl_u_n (by first | with_reducible assumption | omega)])) (by first | rfl | with_reducible assumption) ?_
      refine o_aload hC dX2_put_25 (by rfl) ?_
      refine o_getf hC (fX2_116 hC rfl) dX2_put_27 (by repeat (first | with_reducible assumption | (rw [rl_u_s]; done) | (rw [rl_u_s]; rfl) | rw [rl_u_n (by first | with_reducible assumption | omega)])) (by first | rfl | with_reducible assumption) ?_
      refine o_aload_n hC dX2_put_30 (by rfl) ?_
      refine o_aload hC dX2_put_31 (by rfl) ?_
      refine o_getf hC (fX2_116 hC rfl) dX2_put_33 (by repeat (first | with_reducible assumption | (rw [rl_u_s]; done) | (rw [rl_u_s]; rfl) | rw [rl_u_n (by first | with_reducible assumption | omega)])) (by first | rfl | with_reducible assumption) ?_
      refine o_callV3 hC rl_BW_good rl_Ns_nw (by exact hB.2.2.2.2.2) YX0_either IX0_either VX0_either (mX2_195 hC) (by rw [hB.1]; exact ct_X0_either l D ids H0 _ _ (o + 1) (a + 2 + 5 * P tab.length + 2) w (a + 2 + 5 * P tab.length + 2) _ _ _ ds _ _ _ _ _ _ u2 e3 u3 e3 (by omega) (by omega) (by omega)) (by exact u2.1) rfl rfl (Nat.le_of_ble_eq_true rfl) (by rw [hB.2.1]; first | exact Nat.le_of_ble_eq_true rfl | (dsimp only; omega)) (by rw [hB.2.1]; first | exact Nat.le_of_ble_eq_true rfl | (dsimp only; omega)) (by rw [hB.2.1]; first | exact Nat.le_of_ble_eq_true rfl | (dsimp only; omega)) (by rw [hB.2.1]; first | exact Nat.le_of_ble_eq_true rfl | (dsimp only; omega)) dX2_put_36 (fun v h_36 n_36 p_36 => ?_)
      obtain ⟨x, rfl, rfl, q1⟩ := p_36
      have e6 := q1.f2
      try dsimp only [Option.toList, List.cons_append, List.nil_append]
      refine o_if_eq (tgt := 46) hC dX2_put_39 (by decide) (fun c_39 => ?_) (fun c_39 => ?_)
      · refine o_iconst (v := nI 0) hC dX2_put_46 (by decide +kernel) ?_
        refine o_zret hC hB dX2_put_47 (by first | rfl | decide +kernel) (Nat.le_of_ble_eq_true rfl) (Nat.le_of_ble_eq_true rfl) ?_
        have ex : x = nI 0 := c_39
        have e7 : wst ([] ++ ts) = some ts := by rw [List.nil_append]; exact wst_id hts
        refine ⟨_, rfl, rfl, ho.dr ⟨_, q1.1⟩ (fun q a1 a2 a3 => by rw [e6 q (by omega) (by omega)]; exact p2 q (by omega)), fun q a1 a2 => by rw [e6 q (by omega) (by omega)]; exact p2 q (by omega), ?_⟩
        have ea : aput tab (rcl nc wd) ts = some (tab.take (afb tab (rcl nc wd)) ++ (rcl nc wd, ts) :: tab.drop (afb tab (rcl nc wd))) := by
          unfold aput
          rw [if_neg hne, if_neg (fun q => nhit ((crw_hit hrow).mpr q)), if_neg (by omega)]
        rcases ei_out (A := []) (by show tls _ _ (va_up S.2.2.2 (P tab.length) 0 (P tab.length)) = []; rw [va_up_self]; rfl) wl e3.2.2.2 u3.2.2.2 q1 with ⟨L, h3, h4, wf, wg, h5, h6⟩ | ⟨h3, h4⟩
        · rw [e7] at h3
          cases h3
          refine Or.inl ⟨_, ea, (ex.symm.trans h4), ⟨tb_sh P (afb tab (rcl nc wd)) tab.length, _, ?_, sh_inj hP (tb_fb_le _ _) h80, crw_new hrow hP h80 p1.2.2.2.2.2 (tb_fb_le _ _) h6⟩, aput_ok hok (rsg_len _ _ _) hts ea⟩
          rw [show (tab.take (afb tab (rcl nc wd)) ++ (rcl nc wd, ts) :: tab.drop (afb tab (rcl nc wd))).length = tab.length + 1 by have hle : afb tab (rcl nc wd) ≤ tab.length := tb_fb_le _ _; rw [List.length_append, List.length_cons, List.length_take, List.length_drop]; omega, ← crw_fb hrow]
          exact p1.wayf hpt h5 (fun q a1 a2 a3 => e6 q (by omega) (by omega))
        · rw [e7] at h3
          cases h3
      · refine o_iconst (v := nI 1) hC dX2_put_42 (by decide +kernel) ?_
        refine o_goto (tgt := 47) hC dX2_put_43 (by decide) ?_
        refine o_zret hC hB dX2_put_47 (by first | rfl | decide +kernel) (Nat.le_of_ble_eq_true rfl) (Nat.le_of_ble_eq_true rfl) ?_
        have ex : x = nI 1 := q1.x.resolve_left c_39
        have e7 : wst ([] ++ ts) = some ts := by rw [List.nil_append]; exact wst_id hts
        refine ⟨_, rfl, rfl, ho.dr ⟨_, q1.1⟩ (fun q a1 a2 a3 => by rw [e6 q (by omega) (by omega)]; exact p2 q (by omega)), fun q a1 a2 => by rw [e6 q (by omega) (by omega)]; exact p2 q (by omega), ?_⟩
        have ea : aput tab (rcl nc wd) ts = some (tab.take (afb tab (rcl nc wd)) ++ (rcl nc wd, ts) :: tab.drop (afb tab (rcl nc wd))) := by
          unfold aput
          rw [if_neg hne, if_neg (fun q => nhit ((crw_hit hrow).mpr q)), if_neg (by omega)]
        rcases ei_out (A := []) (by show tls _ _ (va_up S.2.2.2 (P tab.length) 0 (P tab.length)) = []; rw [va_up_self]; rfl) wl e3.2.2.2 u3.2.2.2 q1 with ⟨L, h3, h4, wf, wg, h5, h6⟩ | ⟨h3, h4⟩
        · rw [e7] at h3
          cases h3
          refine Or.inl ⟨_, ea, (ex.symm.trans h4), ⟨tb_sh P (afb tab (rcl nc wd)) tab.length, _, ?_, sh_inj hP (tb_fb_le _ _) h80, crw_new hrow hP h80 p1.2.2.2.2.2 (tb_fb_le _ _) h6⟩, aput_ok hok (rsg_len _ _ _) hts ea⟩
          rw [show (tab.take (afb tab (rcl nc wd)) ++ (rcl nc wd, ts) :: tab.drop (afb tab (rcl nc wd))).length = tab.length + 1 by have hle : afb tab (rcl nc wd) ≤ tab.length := tb_fb_le _ _; rw [List.length_append, List.length_cons, List.length_take, List.length_drop]; omega, ← crw_fb hrow]
          exact p1.wayf hpt h5 (fun q a1 a2 a3 => e6 q (by omega) (by omega))
        · rw [e7] at h3
          cases h3
  · refine o_iconst (v := nI 1) hC dX2_put_7 (by decide +kernel) ?_
    refine o_zret hC hB dX2_put_8 (by first | rfl | decide +kernel) (Nat.le_of_ble_eq_true rfl) (Nat.le_of_ble_eq_true rfl) ?_
    exact ⟨_, rfl, rfl, ho, rl_g2.rf, Or.inl ⟨tab, if_pos (List.eq_nil_of_length_eq_zero (nI_inj2 (by omega) (by omega) (by first | exact c_4 | exact Classical.not_not.mp c_4))), rfl, htab, hok⟩⟩
