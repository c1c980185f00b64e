section
/-! THE CLASS, functionally: WAYS and tables as lists -/
/-- a WAYS of the class -/
def wat (ids : Nat → ClassId) (h : rl_H) (w : Nat) (L : List tT) : Prop := ∃ f g : Nat → Int64, ws_at ids h w f g L.length ∧ tls f g L.length = L
theorem wat.eqv {ids : Nat → ClassId} {h h' : rl_H} {w : Nat} {L : List tT} (H : wat ids h w L) (he : ∀ q, w ≤ q → q < w + 3 → h' q = h q) : wat ids h' w L := by
  obtain ⟨f, g, H, e⟩ := H
  exact ⟨f, g, H.eqv he, e⟩
theorem wat.ok {ids : Nat → ClassId} {h : rl_H} {w : Nat} {L : List tT} (H : wat ids h w L) : ws_ok ids h w := by
  obtain ⟨f, g, H, e⟩ := H
  exact ⟨f, g, _, H⟩
theorem wat.le {ids : Nat → ClassId} {h : rl_H} {w : Nat} {L : List tT} (H : wat ids h w L) : L.length ≤ 12 := by
  obtain ⟨f, g, H, e⟩ := H
  exact H.2.2.2
theorem ws_at.wat {ids : Nat → ClassId} {h : rl_H} {w k : Nat} {f g : Nat → Int64} (H : ws_at ids h w f g k) : wat ids h w (tls f g k) := ⟨f, g, by rw [tls_len]; exact H, by rw [tls_len]⟩
/-- how EITHER, BOTH, NOT end: FULL is none -/
def wres (ids : Nat → ClassId) (h : rl_H) (w : Nat) (r : Option (List tT)) (x : Int32) : Prop := (∃ L : List tT, r = some L ∧ x = nI 1 ∧ wat ids h w L) ∨ (r = none ∧ x = nI 0)
theorem dr_out.we {ids : Nat → ClassId} {h h' : rl_H} {d w : Nat} {C : List tT} {F G f g : Nat → Int64} {x : Int32} (H : dr_out ids h h' d w (dr_fold C (F, G, 0)) f g x) (hC : C.length ≤ 432) : wres ids h' w (wst C) x := by
  have hd := dr_fold_0 C F G hC
  obtain ⟨a, b | b⟩ := H
  · refine Or.inr ⟨?_, b.2.1⟩
    unfold wst
    rw [if_neg (by rw [← hd.2]; exact Nat.not_le.mpr b.1)]
  · have el : (tso (tfl C)).length = (dr_fold C (F, G, 0)).2.2 := by rw [(tso_perm _).length_eq, hd.2]
    refine Or.inl ⟨tso (tfl C), ?_, b.2.1, _, _, by rw [el]; exact b.2.2.1, ?_⟩
    · unfold wst
      rw [if_pos (by rw [← hd.2]; exact b.1)]
    · rw [el, st_go_so, hd.1]
theorem ei_out {ids : Nat → ClassId} {h h' : rl_H} {d w ka kb : Nat} {A B : List tT} {F G fa ga fb gb f g : Nat → Int64} {x : Int32} (ha : tls fa ga ka = A) (hb : tls fb gb kb = B) (hA : ka ≤ 12) (hB : kb ≤ 12) (H : dr_out ids h h' d w (ei_go fb gb kb 0 (ei_go fa ga ka 0 (F, G, 0))) f g x) : wres ids h' w (wst (A ++ B)) x := by
  rw [ei_fold, ei_fold, ← dr_fold_app, ← tls_0, ← tls_0, ha, hb] at H
  refine H.we ?_
  rw [List.length_append, ← ha, ← hb, tls_len, tls_len]
  omega
theorem bo_out {ids : Nat → ClassId} {h h' : rl_H} {d w ka kb : Nat} {A B : List tT} {F G fa ga fb gb f g : Nat → Int64} {x : Int32} (ha : tls fa ga ka = A) (hb : tls fb gb kb = B) (hA : ka ≤ 12) (hB : kb ≤ 12) (H : dr_out ids h h' d w (bo_go fa ga fb gb kb ka 0 (F, G, 0)) f g x) : wres ids h' w (wst (tbo A B)) x := by
  rw [bo_fold, ← tls_0, ha, hb] at H
  refine H.we ?_
  rw [tbo_len, ← ha, ← hb, tls_len, tls_len]
  exact Nat.le_trans (Nat.mul_le_mul hA hB) (by decide)
theorem no_out {ids : Nat → ClassId} {h : rl_H} {w ka : Nat} {A : List tT} {s : dr_S} {fa ga fm gm : Nat → Int64} {x : Int32} (ha : tls fa ga ka = A) (hA : ∀ e ∈ A, tok e) (hx : x = (if (no_go fa ga ka 0 s (vp_updL fm 0 0, vp_updL gm 0 0, 1)).2.2 then nI 1 else nI 0)) (H : ws_at ids h w (no_go fa ga ka 0 s (vp_updL fm 0 0, vp_updL gm 0 0, 1)).2.1.1 (no_go fa ga ka 0 s (vp_updL fm 0 0, vp_updL gm 0 0, 1)).2.1.2.1 (no_go fa ga ka 0 s (vp_updL fm 0 0, vp_updL gm 0 0, 1)).2.1.2.2) : wres ids h w (wno A [(0, 0)]) x := by
  have key := no_go_list fa ga ka 0 s (vp_updL fm 0 0, vp_updL gm 0 0, 1) (fun j _ hj => hA (fa j, ga j) (by rw [← ha]; exact tls_mem.mpr ⟨j, by omega, rfl⟩)) (by show 1 ≤ 12; decide)
  have e1 : tls (vp_updL fm 0 0) (vp_updL gm 0 0) 1 = [((0 : Int64), (0 : Int64))] := by
    show [(vp_updL fm 0 0 0, vp_updL gm 0 0 0)] = _
    rw [up_at, up_at]
  rw [← tls_0, ha, e1] at key
  cases hb : (no_go fa ga ka 0 s (vp_updL fm 0 0, vp_updL gm 0 0, 1)).2.2 with
  | true =>
    rw [hb] at hx
    exact Or.inl ⟨_, key.1 hb, hx, H.wat⟩
  | false =>
    rw [hb] at hx
    exact Or.inr ⟨key.2 hb, hx⟩
/-- row i of a table of the class -/
abbrev crw (S : tb_S) (i w : Nat) : arow := (rcl (S.1 i) w, tls (S.2.1 i) (S.2.2.1 i) (S.2.2.2 i))
/-- a table of the class -/
def ctb (ids : Nat → ClassId) (h : rl_H) (a w : Nat) (tab : List arow) : Prop := ∃ (P : Nat → Nat) (S : tb_S), tb_at ids h a tab.length w P S ∧ (∀ i j : Nat, i < 80 → j < 80 → P i = P j → i = j) ∧ ∀ j : Nat, j < tab.length → crw S (P j) w = ark tab j
theorem ctb.eqv {ids : Nat → ClassId} {h h' : rl_H} {a w : Nat} {tab : List arow} (H : ctb ids h a w tab) (he : ∀ q, a ≤ q → q < a + 402 → h' q = h q) : ctb ids h' a w tab := by
  obtain ⟨P, S, H, e⟩ := H
  exact ⟨P, S, H.eqv he, e⟩
theorem ctb.ok {ids : Nat → ClassId} {h : rl_H} {a w : Nat} {tab : List arow} (H : ctb ids h a w tab) : tb_ok ids h a w := by
  obtain ⟨P, S, H, e⟩ := H
  exact ⟨_, P, S, H⟩
theorem tbi.eqv {ids : Nat → ClassId} {h h' : rl_H} {a w : Nat} (H : tbi ids h a w) (he : ∀ q, a ≤ q → q < a + 402 → h' q = h q) : tbi ids h' a w := by
  obtain ⟨sz, P, S, H, e⟩ := H
  exact ⟨sz, P, S, H.eqv he, e⟩
theorem tbi.ok {ids : Nat → ClassId} {h : rl_H} {a w : Nat} (H : tbi ids h a w) : tb_ok ids h a w := by
  obtain ⟨sz, P, S, H, e⟩ := H
  exact ⟨sz, P, S, H⟩
theorem ctb.ti {ids : Nat → ClassId} {h : rl_H} {a w : Nat} {tab : List arow} (H : ctb ids h a w tab) : tbi ids h a w := by
  obtain ⟨P, S, H, e, -⟩ := H
  exact ⟨_, P, S, H, e⟩
/-- a table is begun -/
theorem tbi.begin {ids : Nat → ClassId} {h h' : rl_H} {a wd w : Nat} (H : tbi ids h a wd) (hw : w ≤ 6) (h1 : h' a = some (.inr (4, [.ref (a + 1), .int (nI 0), .int (nI w)]))) (he : ∀ q, q ≠ a → h' q = h q) : ctb ids h' a w [] := by
  obtain ⟨sz, P, S, ⟨t1, ⟨f, t2, t3⟩, t4, t5, t6, t7⟩, hP⟩ := H
  exact ⟨P, S, ⟨h1, ⟨f, by rw [he (a + 1) (by omega)]; exact t2, t3⟩, t4, fun i hi => (t5 i hi).eqv (fun q q1 q2 => he q (by omega)), Nat.zero_le _, hw⟩, hP, fun j hj => absurd hj (Nat.not_lt_zero j)⟩
theorem aok_nil (w : Nat) : aok w [] := ⟨List.Pairwise.nil, (fun _ hr => absurd hr List.not_mem_nil), Nat.zero_le _⟩
/-- a Tuple's Ways is another one -/
theorem tb_at.wayf {ids : Nat → ClassId} {h h' : rl_H} {a sz wd i wk : Nat} {P : Nat → Nat} {S : tb_S} {wf wg : Nat → Int64} (H : tb_at ids h a sz wd P S) (hi : i < 80) (hw : ws_at ids h' (a + 2 + 5 * i + 2) wf wg wk) (he : ∀ q, a ≤ q → q < a + 402 → (q < a + 2 + 5 * i + 2 ∨ a + 2 + 5 * i + 5 ≤ q) → h' q = h q) : tb_at ids h' a sz wd P (S.1, va_up S.2.1 i wf, va_up S.2.2.1 i wg, va_up S.2.2.2 i wk) := by
  obtain ⟨h1, ⟨f, h2, h3⟩, h4, h5, h6⟩ := H
  refine ⟨by rw [he a (by omega) (by omega) (by omega)]; exact h1, ⟨f, by rw [he (a + 1) (by omega) (by omega) (by omega)]; exact h2, h3⟩, h4, fun j hj => ?_, h6⟩
  show tp_at ids h' _ (S.1 j) (va_up S.2.1 i wf j) (va_up S.2.2.1 i wg j) (va_up S.2.2.2 i wk j)
  by_cases q : j = i
  · subst q
    unfold va_up
    rw [if_pos rfl, if_pos rfl, if_pos rfl]
    obtain ⟨e1, e2, e3⟩ := h5 j hj
    exact ⟨by rw [he _ (by omega) (by omega) (by omega)]; exact e1, by rw [he _ (by omega) (by omega) (by omega)]; exact e2, hw⟩
  · unfold va_up
    rw [if_neg q, if_neg q, if_neg q]
    exact (h5 j hj).eqv (fun q q1 q2 => he q (by omega) (by omega) (by omega))
/-- how a table stands after a TUPLE more: FULL is none -/
def pres (ids : Nat → ClassId) (h : rl_H) (a w : Nat) (r : Option (List arow)) (x : Int32) : Prop := (∃ tab : List arow, r = some tab ∧ x = nI 1 ∧ ctb ids h a w tab ∧ aok w tab) ∨ (r = none ∧ x = nI 0 ∧ tbi ids h a w)
theorem crw_o {S : tb_S} {P : Nat → Nat} {nc : Nat → Int32} {wd : Nat} {tab : List arow} (h : ∀ j : Nat, j < tab.length → crw S (P j) wd = ark tab j) {j : Nat} (hj : j < tab.length) : tb_o S P nc wd j = lcm2 (ark tab j).1 (rcl nc wd) := by
  rw [← h j hj]
  exact tb_ord_l _ _ _ _
theorem crw_fb {S : tb_S} {P : Nat → Nat} {nc : Nat → Int32} {wd : Nat} {tab : List arow} (h : ∀ j : Nat, j < tab.length → crw S (P j) wd = ark tab j) : tb_fb (tb_o S P nc wd) tab.length = afb tab (rcl nc wd) := tb_fb_eq (fun j hj => crw_o h hj)
theorem crw_hit {S : tb_S} {P : Nat → Nat} {nc : Nat → Int32} {wd : Nat} {tab : List arow} (h : ∀ j : Nat, j < tab.length → crw S (P j) wd = ark tab j) : (0 < tb_fb (tb_o S P nc wd) tab.length ∧ tb_o S P nc wd (tb_fb (tb_o S P nc wd) tab.length - 1) = 0) ↔ (0 < afb tab (rcl nc wd) ∧ lcm2 (ark tab (afb tab (rcl nc wd) - 1)).1 (rcl nc wd) = 0) := by
  rw [crw_fb h]
  refine and_congr_right (fun h0 => ?_)
  have hle : afb tab (rcl nc wd) ≤ tab.length := tb_fb_le _ _
  rw [crw_o h (by omega)]
theorem sh_inj {P : Nat → Nat} {fb sz : Nat} (h : ∀ i j : Nat, i < 80 → j < 80 → P i = P j → i = j) (hf : fb ≤ sz) (hs : sz < 80) : ∀ i j : Nat, i < 80 → j < 80 → tb_sh P fb sz i = tb_sh P fb sz j → i = j := by
  have key : ∀ i : Nat, i < 80 → tb_sh P fb sz i = P (if i < fb then i else if i = fb then sz else if i ≤ sz then i - 1 else i) := fun i _ => by
    unfold tb_sh
    by_cases e1 : i < fb
    · rw [if_pos e1, if_pos e1]
    · rw [if_neg e1, if_neg e1]
      by_cases e2 : i = fb
      · rw [if_pos e2, if_pos e2]
      · rw [if_neg e2, if_neg e2]
        by_cases e3 : i ≤ sz
        · rw [if_pos e3, if_pos e3]
        · rw [if_neg e3, if_neg e3]
  intro i j hi hj e
  rw [key i hi, key j hj] at e
  have e2 := h _ _ (by split <;> (try split) <;> (try split) <;> omega) (by split <;> (try split) <;> (try split) <;> omega) e
  revert e2
  repeat' split
  all_goals (intro _; omega)
theorem crw_set {S : tb_S} {P : Nat → Nat} {wd t k : Nat} {tab : List arow} {key : List Int32} {L : List tT} {f g : Nat → Int64} (h : ∀ j : Nat, j < tab.length → crw S (P j) wd = ark tab j) (hP : ∀ i j : Nat, i < 80 → j < 80 → P i = P j → i = j) (h80 : tab.length ≤ 80) (ht : t < tab.length) (hkey : (ark tab t).1 = key) (hL : tls f g k = L) : ∀ j : Nat, j < (tab.set t (key, L)).length → crw (S.1, va_up S.2.1 (P t) f, va_up S.2.2.1 (P t) g, va_up S.2.2.2 (P t) k) (P j) wd = ark (tab.set t (key, L)) j := by
  intro j hj
  rw [List.length_set] at hj
  by_cases e : j = t
  · subst e
    rw [show ark (tab.set j (key, L)) j = (key, L) by unfold ark; rw [List.getD_eq_getElem?_getD, List.getElem?_set_self hj]; rfl]
    show (rcl (S.1 (P j)) wd, tls (va_up S.2.1 (P j) f (P j)) (va_up S.2.2.1 (P j) g (P j)) (va_up S.2.2.2 (P j) k (P j))) = _
    rw [va_up_self, va_up_self, va_up_self, hL, ← hkey, ← h j hj]
  · rw [show ark (tab.set t (key, L)) j = ark tab j by unfold ark; rw [List.getD_eq_getElem?_getD, List.getD_eq_getElem?_getD, List.getElem?_set_ne (by omega)]]
    have ne : P j ≠ P t := fun q => e (hP j t (by omega) (by omega) q)
    show (rcl (S.1 (P j)) wd, tls (va_up S.2.1 (P t) f (P j)) (va_up S.2.2.1 (P t) g (P j)) (va_up S.2.2.2 (P t) k (P j))) = _
    rw [va_up_ne _ _ ne, va_up_ne _ _ ne, va_up_ne _ _ ne]
    exact h j hj
theorem crw_new {S : tb_S} {P : Nat → Nat} {wd fb k : Nat} {tab : List arow} {nc : Nat → Int32} {L : List tT} {f g : Nat → Int64} (h : ∀ j : Nat, j < tab.length → crw S (P j) wd = ark tab j) (hP : ∀ i j : Nat, i < 80 → j < 80 → P i = P j → i = j) (h80 : tab.length < 80) (hw : wd ≤ 6) (hf : fb ≤ tab.length) (hL : tls f g k = L) : ∀ j : Nat, j < (tab.take fb ++ (rcl nc wd, L) :: tab.drop fb).length → crw ((tb_in S (P tab.length) nc).1, va_up (tb_in S (P tab.length) nc).2.1 (P tab.length) f, va_up (tb_in S (P tab.length) nc).2.2.1 (P tab.length) g, va_up (tb_in S (P tab.length) nc).2.2.2 (P tab.length) k) (tb_sh P fb tab.length j) wd = ark (tab.take fb ++ (rcl nc wd, L) :: tab.drop fb) j := by
  intro j hj
  have el : (tab.take fb ++ (rcl nc wd, L) :: tab.drop fb).length = tab.length + 1 := by
    rw [List.length_append, List.length_cons, List.length_take, List.length_drop]
    omega
  rw [el] at hj
  rw [ark_ins hf]
  have old : ∀ i : Nat, i < tab.length → crw ((tb_in S (P tab.length) nc).1, va_up (tb_in S (P tab.length) nc).2.1 (P tab.length) f, va_up (tb_in S (P tab.length) nc).2.2.1 (P tab.length) g, va_up (tb_in S (P tab.length) nc).2.2.2 (P tab.length) k) (P i) wd = ark tab i := by
    intro i hi
    have ne : P i ≠ P tab.length := fun q => absurd (hP i tab.length (by omega) h80 q) (by omega)
    show (rcl (va_up S.1 (P tab.length) _ (P i)) wd, tls (va_up S.2.1 (P tab.length) f (P i)) (va_up S.2.2.1 (P tab.length) g (P i)) (va_up (va_up S.2.2.2 (P tab.length) 0) (P tab.length) k (P i))) = _
    rw [va_up_ne _ _ ne, va_up_ne _ _ ne, va_up_ne _ _ ne, va_up_ne _ _ ne, va_up_ne _ _ ne]
    exact h i hi
  unfold tb_sh
  by_cases e1 : j < fb
  · rw [if_pos e1, if_pos e1]
    exact old j (by omega)
  · rw [if_neg e1, if_neg e1]
    by_cases e2 : j = fb
    · rw [if_pos e2, if_pos e2]
      show (rcl (va_up S.1 (P tab.length) (va_cpy nc (S.1 (P tab.length)) 0 0 6) (P tab.length)) wd, tls (va_up S.2.1 (P tab.length) f (P tab.length)) (va_up S.2.2.1 (P tab.length) g (P tab.length)) (va_up (va_up S.2.2.2 (P tab.length) 0) (P tab.length) k (P tab.length))) = _
      rw [va_up_self, va_up_self, va_up_self, va_up_self, hL]
      congr 1
      refine rsg_eq (fun i _ hi => ?_)
      unfold va_cpy
      rw [if_pos (by omega), Nat.zero_add, Nat.sub_zero]
    · rw [if_neg e2, if_neg e2, if_pos (by omega)]
      exact old (j - 1) (by omega)

set_option maxHeartbeats 4000000 in
set_option maxRecDepth 100000 in
theorem cp_X2_put (l : Launch) (D : va_G) (ids : Nat → ClassId) (H0 : Heap) (h : rl_H) (n : Nat) (o so a w na wd : Nat) (gp : Nat → Option Nat) (tab : List arow) (ts : List tT) (nc : Nat → Int32) (ho : op_sh ids h o so gp) (htab : ctb ids h a wd tab) (hok : aok wd tab) (hn : h na = some (.inl (ids 0, 6, .inl nc))) (hwt : wat ids h w ts) (hts : wok ts) (hna : na < a ∨ a + 402 ≤ na) (hwa : w + 3 ≤ a ∨ a + 402 ≤ w) (hwd : o + 4 ≤ w ∨ w + 3 ≤ o + 1) (hoa : o + 22 ≤ a ∨ a + 402 ≤ o) : rl_Met l (rl_e D ids H0) rl_BW rl_Ns yX2_put cX2_put 5 (some .boolean) ({ frames := 3, cells := 0, slots := 0, locals := 125 }) [.ref o, .ref a, .ref na, .ref w] h n (fun v h' n' => ∃ x : Int32, v = some (.int x) ∧ n' = n ∧ op_sh ids h' o so gp ∧ rl_g2 h h' (o + 1) (o + 4) a (a + 402) ∧ pres ids h' a wd (aput tab (rcl nc wd) ts) x) := by
  obtain ⟨o0, ⟨ds, hd⟩, o4, o7, o8, o9, ot⟩ := id ho
  obtain ⟨P, S, ht, hP, hrow⟩ := id htab
  obtain ⟨f, g, hw, wl⟩ := id hwt
  obtain ⟨w1, w2, w3, w4⟩ := id hw
  refine rl_Met.of (by decide +kernel) (Nat.le_of_ble_eq_true rfl) ?_
  intro X hC hB
  show rl_G X (rl_e D ids H0) 0 [some (.ref o), some (.ref a), some (.ref na), some (.ref w), none] [] h n 0 0
  refine o_aload_n hC dX2_put_0 (by rfl) ?_
  refine o_getf hC (fX2_191 hC rfl) dX2_put_1 (by repeat (first | with_reducible assumption | (rw [rl_u_s]; done) | (rw [rl_u_s]; rfl) | rw [rl_u_n (by first | with_reducible assumption | omega)])) (by first | rfl | with_reducible assumption) ?_
  refine o_if_ne (tgt := 9) hC dX2_put_4 (by decide) (fun c_4 => ?_) (fun c_4 => ?_)
  · have hne : ts ≠ [] := fun q => c_4 (by rw [q]; rfl)
    refine o_aload_n hC dX2_put_9 (by rfl) ?_
    refine o_aload_n hC dX2_put_10 (by rfl) ?_
    refine o_callV1 hC rl_BW_good rl_Ns_nw (by exact hB.2.2.2.2.2) YX4_findOrAdd IX4_findOrAdd VX4_findOrAdd (mX2_192 hC) (by rw [hB.1]; exact ct_X4_findOrAdd l D ids H0 h n a tab.length wd na P S nc ht hn hna) (by exact ht.1) rfl rfl (Nat.le_of_ble_eq_true rfl) (by rw [hB.2.1]; first | exact Nat.le_of_ble_eq_true rfl | (dsimp only; omega)) (by rw [hB.2.1]; first | exact Nat.le_of_ble_eq_true rfl | (dsimp only; omega)) (by rw [hB.2.1]; first | exact Nat.le_of_ble_eq_true rfl | (dsimp only; omega)) (by rw [hB.2.1]; first | exact Nat.le_of_ble_eq_true rfl | (dsimp only; omega)) dX2_put_11 (fun v h_11 n_11 p_11 => ?_)
    try dsimp only [Option.toList, List.cons_append, List.nil_append]
    rcases p_11 with ⟨hh, rfl, rfl, rfl⟩ | ⟨rfl, h80, nhit, rfl, rfl⟩ | ⟨nhit, h80, rfl, rfl, p1, p2⟩
    · have hhit := (crw_hit hrow).mp hh
      obtain ⟨t, ht'⟩ : ∃ t : Nat, t = afb tab (rcl nc wd) - 1 := ⟨_, rfl⟩
      have hle : afb tab (rcl nc wd) ≤ tab.length := tb_fb_le _ _
      have htl : t < tab.length := by omega
      have hpt : P t < 80 := ht.2.2.1 t (by have := hok.2.2; omega)
      rw [crw_fb hrow, ← ht']
      obtain ⟨e1, e2, e3⟩ := ht.2.2.2.1 (P t) hpt
      have u1 : h_11 o = some (.inr (2, [.ref (o + 1), .ref (o + 4), .ref (o + 7), .ref (o + 8), .ref (o + 9)])) := by exact o0
      have u2 : dr_at ids h_11 (o + 1) ds := hd
      have u3 := hw
      try dsimp only [Option.toList, List.cons_append, List.nil_append]
      refine o_astore hC dX2_put_14 (Nat.le_of_ble_eq_true rfl) ?_
      refine o_aload hC dX2_put_16 (by rfl) ?_
      refine o_ifnull hC dX2_put_18 ?_
      refine o_aload_n hC dX2_put_21 (by rfl) ?_
      refine o_getf hC (fX2_12 hC rfl) dX2_put_22 (by repeat (first | with_reducible assumption | (rw [rl_u_s]; done) | (rw [rl_u_s]; rfl) | rw [rl_u_n (by first | with_reducible assumption | omega)])) (by first | rfl | with_reducible assumption) ?_
      refine o_aload hC dX2_put_25 (by rfl) ?_
      refine o_getf hC (fX2_116 hC rfl) dX2_put_27 (by repeat (first | with_reducible assumption | (rw [rl_u_s]; done) | (rw [rl_u_s]; rfl) | rw [rl_u_n (by first | with_reducible assumption | omega)])) (by first | rfl | with_reducible assumption) ?_
      refine o_aload_n hC dX2_put_30 (by rfl) ?_
      refine o_aload hC dX2_put_31 (by rfl) ?_
      refine o_getf hC (fX2_116 hC rfl) dX2_put_33 (by repeat (first | with_reducible assumption | (rw [rl_u_s]; done) | (rw [rl_u_s]; rfl) | rw [rl_u_n (by first | with_reducible assumption | omega)])) (by first | rfl | with_reducible assumption) ?_
      refine o_callV3 hC rl_BW_good rl_Ns_nw (by exact hB.2.2.2.2.2) YX0_either IX0_either VX0_either (mX2_195 hC) (by rw [hB.1]; exact ct_X0_either l D ids H0 _ _ (o + 1) (a + 2 + 5 * P t + 2) w (a + 2 + 5 * P t + 2) _ _ _ ds _ _ _ _ _ _ u2 e3 u3 e3 (by omega) (by omega) (by omega)) (by exact u2.1) rfl rfl (Nat.le_of_ble_eq_true rfl) (by rw [hB.2.1]; first | exact Nat.le_of_ble_eq_true rfl | (dsimp only; omega)) (by rw [hB.2.1]; first | exact Nat.le_of_ble_eq_true rfl | (dsimp only; omega)) (by rw [hB.2.1]; first | exact Nat.le_of_ble_eq_true rfl | (dsimp only; omega)) (by rw [hB.2.1]; first | exact Nat.le_of_ble_eq_true rfl | (dsimp only; omega)) dX2_put_36 (fun v h_36 n_36 p_36 => ?_)
      obtain ⟨x, rfl, rfl, q1⟩ := p_36
      have e6 := q1.f2
      try dsimp only [Option.toList, List.cons_append, List.nil_append]
      refine o_if_eq (tgt := 46) hC dX2_put_39 (by decide) (fun c_39 => ?_) (fun c_39 => ?_)
      · refine o_iconst (v := nI 0) hC dX2_put_46 (by decide +kernel) ?_
        refine o_zret hC hB dX2_put_47 (by first | rfl | decide +kernel) (Nat.le_of_ble_eq_true rfl) (Nat.le_of_ble_eq_true rfl) ?_
        have ex : x = nI 0 := c_39
        refine ⟨_, rfl, rfl, ho.dr ⟨_, q1.1⟩ (fun q a1 a2 a3 => e6 q (by omega) (by omega)), fun q a1 a2 => e6 q (by omega) (by omega), ?_⟩
        have ea : aput tab (rcl nc wd) ts = (wst ((ark tab t).2 ++ ts)).map (fun u => tab.set t (rcl nc wd, u)) := by
          unfold aput
          rw [if_neg hne, if_pos hhit, ← ht']
        have hkey : (ark tab t).1 = rcl nc wd := by
          have := hhit.2
          rw [← ht'] at this
          refine lcm2_0 ?_ this
          rw [← hrow t htl, rsg_len, rsg_len]
        rcases ei_out (show tls (S.2.1 (P t)) (S.2.2.1 (P t)) (S.2.2.2 (P t)) = (ark tab t).2 from congrArg Prod.snd (hrow t htl)) wl e3.2.2.2 hw.2.2.2 q1 with ⟨L, h3, h4, wf, wg, h5, h6⟩ | ⟨h3, h4⟩
        · refine Or.inl ⟨tab.set t (rcl nc wd, L), by rw [ea, h3]; rfl, (ex.symm.trans h4), ⟨P, _, ?_, hP, crw_set hrow hP hok.2.2 htl hkey h6⟩, aput_ok hok (rsg_len _ _ _) hts (by rw [ea, h3]; rfl)⟩
          rw [List.length_set]
          exact ht.wayf (ht.2.2.1 t (by have := hok.2.2; omega)) h5 (fun q a1 a2 a3 => e6 q (by omega) (by omega))
        · exact Or.inr ⟨by rw [ea, h3]; rfl, (ex.symm.trans h4), (ht.way (ht.2.2.1 t (by have := hok.2.2; omega)) (q1.ws e3 (by omega)) (fun q a1 a2 a3 => e6 q (by omega) (by omega))).elim (fun S2 e => ⟨_, _, _, e, hP⟩)⟩
      · refine o_iconst (v := nI 1) hC dX2_put_42 (by decide +kernel) ?_
        refine o_goto (tgt := 47) hC dX2_put_43 (by decide) ?_
        refine o_zret hC hB dX2_put_47 (by first | rfl | decide +kernel) (Nat.le_of_ble_eq_true rfl) (Nat.le_of_ble_eq_true rfl) ?_
        have ex : x = nI 1 := q1.x.resolve_left c_39
        refine ⟨_, rfl, rfl, ho.dr ⟨_, q1.1⟩ (fun q a1 a2 a3 => e6 q (by omega) (by omega)), fun q a1 a2 => e6 q (by omega) (by omega), ?_⟩
        have ea : aput tab (rcl nc wd) ts = (wst ((ark tab t).2 ++ ts)).map (fun u => tab.set t (rcl nc wd, u)) := by
          unfold aput
          rw [if_neg hne, if_pos hhit, ← ht']
        have hkey : (ark tab t).1 = rcl nc wd := by
          have := hhit.2
          rw [← ht'] at this
          refine lcm2_0 ?_ this
          rw [← hrow t htl, rsg_len, rsg_len]
        rcases ei_out (show tls (S.2.1 (P t)) (S.2.2.1 (P t)) (S.2.2.2 (P t)) = (ark tab t).2 from congrArg Prod.snd (hrow t htl)) wl e3.2.2.2 hw.2.2.2 q1 with ⟨L, h3, h4, wf, wg, h5, h6⟩ | ⟨h3, h4⟩
        · refine Or.inl ⟨tab.set t (rcl nc wd, L), by rw [ea, h3]; rfl, (ex.symm.trans h4), ⟨P, _, ?_, hP, crw_set hrow hP hok.2.2 htl hkey h6⟩, aput_ok hok (rsg_len _ _ _) hts (by rw [ea, h3]; rfl)⟩
          rw [List.length_set]
          exact ht.wayf (ht.2.2.1 t (by have := hok.2.2; omega)) h5 (fun q a1 a2 a3 => e6 q (by omega) (by omega))
        · exact Or.inr ⟨by rw [ea, h3]; rfl, (ex.symm.trans h4), (ht.way (ht.2.2.1 t (by have := hok.2.2; omega)) (q1.ws e3 (by omega)) (fun q a1 a2 a3 => e6 q (by omega) (by omega))).elim (fun S2 e => ⟨_, _, _, e, hP⟩)⟩
    · try dsimp only [Option.toList, List.cons_append, List.nil_append]
      refine o_astoreN hC dX2_put_14 (Nat.le_of_ble_eq_true rfl) ?_
      refine o_aloadN hC dX2_put_16 (by rfl) ?_
      refine o_ifnullN (tgt := 46) hC dX2_put_18 (by decide) ?_
      refine o_iconst (v := nI 0) hC dX2_put_46 (by decide +kernel) ?_
      refine o_zret hC hB dX2_put_47 (by first | rfl | decide +kernel) (Nat.le_of_ble_eq_true rfl) (Nat.le_of_ble_eq_true rfl) ?_
      refine ⟨_, rfl, rfl, ho, rl_g2.rf, Or.inr ⟨?_, rfl, htab.ti⟩⟩
      unfold aput
      rw [if_neg hne, if_neg (fun q => nhit ((crw_hit hrow).mpr q)), if_pos h80]
    · have hpt : P tab.length < 80 := ht.2.2.1 _ h80
      obtain ⟨e1, e2, e3⟩ := p1.2.2.2.1 (P tab.length) hpt
      have u1 : h_11 o = some (.inr (2, [.ref (o + 1), .ref (o + 4), .ref (o + 7), .ref (o + 8), .ref (o + 9)])) := by rw [p2 o (by omega)]; exact o0
      have u2 : dr_at ids h_11 (o + 1) ds := hd.kept p2 (by omega)
      have u3 := hw.kept p2 (by omega)
      try dsimp only [Option.toList, List.cons_append, List.nil_append]
      refine o_astore hC dX2_put_14 (Nat.le_of_ble_eq_true rfl) ?_
      refine o_aload hC dX2_put_16 (by rfl) ?_
      refine o_ifnull hC dX2_put_18 ?_
      refine o_aload_n hC dX2_put_21 (by rfl) ?_
      refine o_getf hC (fX2_12 hC rfl) dX2_put_22 (by repeat (first | with_reducible assumption | (rw [rl_u_s]; done) | (rw [rl_u_s]; rfl) | rw [rl_u_n (by first | with_reducible assumption | omega)])) (by first | rfl | with_reducible assumption) ?_
      refine o_aload hC dX2_put_25 (by rfl) ?_
      refine o_getf hC (fX2_116 hC rfl) dX2_put_27 (by repeat (first | with_reducible assumption | (rw [rl_u_s]; done) | (rw [rl_u_s]; rfl) | rw [rl_u_n (by first | with_reducible assumption | omega)])) (by first | rfl | with_reducible assumption) ?_
      refine o_aload_n hC dX2_put_30 (by rfl) ?_
      refine o_aload hC dX2_put_31 (by rfl) ?_
      refine o_getf hC (fX2_116 hC rfl) dX2_put_33 (by repeat (first | with_reducible assumption | (rw [rl_u_s]; done) | (rw [rl_u_s]; rfl) | rw [rl_u_n (by first | with_reducible assumption | omega)])) (by first | rfl | with_reducible assumption) ?_
      refine o_callV3 hC rl_BW_good rl_Ns_nw (by exact hB.2.2.2.2.2) YX0_either IX0_either VX0_either (mX2_195 hC) (by rw [hB.1]; exact ct_X0_either l D ids H0 _ _ (o + 1) (a + 2 + 5 * P tab.length + 2) w (a + 2 + 5 * P tab.length + 2) _ _ _ ds _ _ _ _ _ _ u2 e3 u3 e3 (by omega) (by omega) (by omega)) (by exact u2.1) rfl rfl (Nat.le_of_ble_eq_true rfl) (by rw [hB.2.1]; first | exact Nat.le_of_ble_eq_true rfl | (dsimp only; omega)) (by rw [hB.2.1]; first | exact Nat.le_of_ble_eq_true rfl | (dsimp only; omega)) (by rw [hB.2.1]; first | exact Nat.le_of_ble_eq_true rfl | (dsimp only; omega)) (by rw [hB.2.1]; first | exact Nat.le_of_ble_eq_true rfl | (dsimp only; omega)) dX2_put_36 (fun v h_36 n_36 p_36 => ?_)
      obtain ⟨x, rfl, rfl, q1⟩ := p_36
      have e6 := q1.f2
      try dsimp only [Option.toList, List.cons_append, List.nil_append]
      refine o_if_eq (tgt := 46) hC dX2_put_39 (by decide) (fun c_39 => ?_) (fun c_39 => ?_)
      · refine o_iconst (v := nI 0) hC dX2_put_46 (by decide +kernel) ?_
        refine o_zret hC hB dX2_put_47 (by first | rfl | decide +kernel) (Nat.le_of_ble_eq_true rfl) (Nat.le_of_ble_eq_true rfl) ?_
        have ex : x = nI 0 := c_39
        have e7 : wst ([] ++ ts) = some ts := by rw [List.nil_append]; exact wst_id hts
        refine ⟨_, rfl, rfl, ho.dr ⟨_, q1.1⟩ (fun q a1 a2 a3 => by rw [e6 q (by omega) (by omega)]; exact p2 q (by omega)), fun q a1 a2 => by rw [e6 q (by omega) (by omega)]; exact p2 q (by omega), ?_⟩
        have ea : aput tab (rcl nc wd) ts = some (tab.take (afb tab (rcl nc wd)) ++ (rcl nc wd, ts) :: tab.drop (afb tab (rcl nc wd))) := by
          unfold aput
          rw [if_neg hne, if_neg (fun q => nhit ((crw_hit hrow).mpr q)), if_neg (by omega)]
        rcases ei_out (A := []) (by show tls _ _ (va_up S.2.2.2 (P tab.length) 0 (P tab.length)) = []; rw [va_up_self]; rfl) wl e3.2.2.2 u3.2.2.2 q1 with ⟨L, h3, h4, wf, wg, h5, h6⟩ | ⟨h3, h4⟩
        · rw [e7] at h3
          cases h3
          refine Or.inl ⟨_, ea, (ex.symm.trans h4), ⟨tb_sh P (afb tab (rcl nc wd)) tab.length, _, ?_, sh_inj hP (tb_fb_le _ _) h80, crw_new hrow hP h80 p1.2.2.2.2.2 (tb_fb_le _ _) h6⟩, aput_ok hok (rsg_len _ _ _) hts ea⟩
          rw [show (tab.take (afb tab (rcl nc wd)) ++ (rcl nc wd, ts) :: tab.drop (afb tab (rcl nc wd))).length = tab.length + 1 by have hle : afb tab (rcl nc wd) ≤ tab.length := tb_fb_le _ _; rw [List.length_append, List.length_cons, List.length_take, List.length_drop]; omega, ← crw_fb hrow]
          exact p1.wayf hpt h5 (fun q a1 a2 a3 => e6 q (by omega) (by omega))
        · rw [e7] at h3
          cases h3
      · refine o_iconst (v := nI 1) hC dX2_put_42 (by decide +kernel) ?_
        refine o_goto (tgt := 47) hC dX2_put_43 (by decide) ?_
        refine o_zret hC hB dX2_put_47 (by first | rfl | decide +kernel) (Nat.le_of_ble_eq_true rfl) (Nat.le_of_ble_eq_true rfl) ?_
        have ex : x = nI 1 := q1.x.resolve_left c_39
        have e7 : wst ([] ++ ts) = some ts := by rw [List.nil_append]; exact wst_id hts
        refine ⟨_, rfl, rfl, ho.dr ⟨_, q1.1⟩ (fun q a1 a2 a3 => by rw [e6 q (by omega) (by omega)]; exact p2 q (by omega)), fun q a1 a2 => by rw [e6 q (by omega) (by omega)]; exact p2 q (by omega), ?_⟩
        have ea : aput tab (rcl nc wd) ts = some (tab.take (afb tab (rcl nc wd)) ++ (rcl nc wd, ts) :: tab.drop (afb tab (rcl nc wd))) := by
          unfold aput
          rw [if_neg hne, if_neg (fun q => nhit ((crw_hit hrow).mpr q)), if_neg (by omega)]
        rcases ei_out (A := []) (by show tls _ _ (va_up S.2.2.2 (P tab.length) 0 (P tab.length)) = []; rw [va_up_self]; rfl) wl e3.2.2.2 u3.2.2.2 q1 with ⟨L, h3, h4, wf, wg, h5, h6⟩ | ⟨h3, h4⟩
        · rw [e7] at h3
          cases h3
          refine Or.inl ⟨_, ea, (ex.symm.trans h4), ⟨tb_sh P (afb tab (rcl nc wd)) tab.length, _, ?_, sh_inj hP (tb_fb_le _ _) h80, crw_new hrow hP h80 p1.2.2.2.2.2 (tb_fb_le _ _) h6⟩, aput_ok hok (rsg_len _ _ _) hts ea⟩
          rw [show (tab.take (afb tab (rcl nc wd)) ++ (rcl nc wd, ts) :: tab.drop (afb tab (rcl nc wd))).length = tab.length + 1 by have hle : afb tab (rcl nc wd) ≤ tab.length := tb_fb_le _ _; rw [List.length_append, List.length_cons, List.length_take, List.length_drop]; omega, ← crw_fb hrow]
          exact p1.wayf hpt h5 (fun q a1 a2 a3 => e6 q (by omega) (by omega))
        · rw [e7] at h3
          cases h3
  · refine o_iconst (v := nI 1) hC dX2_put_7 (by decide +kernel) ?_
    refine o_zret hC hB dX2_put_8 (by first | rfl | decide +kernel) (Nat.le_of_ble_eq_true rfl) (Nat.le_of_ble_eq_true rfl) ?_
    exact ⟨_, rfl, rfl, ho, rl_g2.rf, Or.inl ⟨tab, if_pos (List.eq_nil_of_length_eq_zero (nI_inj2 (by omega) (by omega) (by first | exact c_4 | exact Classical.not_not.mp c_4))), rfl, htab, hok⟩⟩
end
section
/-! THE CLASS, functionally: what fills tables -/
theorem pcnd_0 (x y : Int32) : pcnd (nI 0) x y = !decide (y ≤ x) := if_pos (by decide +kernel)
theorem pcnd_1 (x y : Int32) : pcnd (nI 1) x y = decide (x = y) := (if_neg (by decide +kernel)).trans (if_pos rfl)
theorem pcnd_2 (x y : Int32) : pcnd (nI 2) x y = !decide (x ≤ y) := (if_neg (by decide +kernel)).trans (if_neg (by decide +kernel))

set_option maxHeartbeats 4000000 in
set_option maxRecDepth 100000 in
theorem cp_X2_putAll (l : Launch) (D : va_G) (ids : Nat → ClassId) (H0 : Heap) (h : rl_H) (n : Nat) (o so a a1 wd : Nat) (gp : Nat → Option Nat) (tab tb : List arow) (ho : op_sh ids h o so gp) (ht : ctb ids h a wd tab) (hok : aok wd tab) (hi : ctb ids h a1 wd tb) (hbk : aok wd tb) (hoa : o + 22 ≤ a ∨ a + 402 ≤ o) (hoi : o + 22 ≤ a1 ∨ a1 + 402 ≤ o) (hia : a1 + 402 ≤ a ∨ a + 402 ≤ a1) : rl_Met l (rl_e D ids H0) rl_BW rl_Ns yX2_putAll cX2_putAll 4 (some .boolean) ({ frames := 4, cells := 0, slots := 0, locals := 149 }) [.ref o, .ref a1, .ref a] h n (fun v h' n' => ∃ x : Int32, v = some (.int x) ∧ n' = n ∧ (∃ gp' : Nat → Option Nat, op_sh ids h' o so gp') ∧ rl_g2 h h' o (o + 22) a (a + 402) ∧ pres ids h' a wd (aall tab (tb.map (fun r => (r.1, some r.2)))) x) := by
  obtain ⟨P1, S1, hi0, hP1, hrow1⟩ := id hi
  have tl80 := hbk.2.2
  refine rl_Met.of (by decide +kernel) (Nat.le_of_ble_eq_true rfl) ?_
  intro X hC hB
  have loop : ∀ (m t : Nat) (h1 : rl_H) (gp1 : Nat → Option Nat) (tab1 : List arow), t + m = tb.length → op_sh ids h1 o so gp1 → ctb ids h1 a wd tab1 → aok wd tab1 → rl_g2 h h1 o (o + 22) a (a + 402) → aall tab (tb.map (fun r => (r.1, some r.2))) = aall tab1 ((tb.map (fun r => (r.1, some r.2))).drop t) → rl_G X (rl_e D ids H0) 2 [some (.ref o), some (.ref a1), some (.ref a), some (.int (nI t))] [] h1 n 0 0 := by
    intro m
    induction m with
    | zero =>
      intro t h1 gp1 tab1 hm ho1 ht1 hk1 hf he
      obtain ⟨t1, ⟨tf, t2, t3⟩, t4, t5, t6, t7⟩ := hi0.eqv (h' := h1) (fun q q1 q2 => hf q (by omega) (by omega))
      refine o_iload_n hC dX2_putAll_2 (by rfl) ?_
      refine o_aload_n hC dX2_putAll_3 (by rfl) ?_
      refine o_getf hC (fX2_103 hC rfl) dX2_putAll_4 (by repeat (first | with_reducible assumption | (rw [rl_u_s]; done) | (rw [rl_u_s]; rfl) | rw [rl_u_n (by first | with_reducible assumption | omega)])) (by first | rfl | with_reducible assumption) ?_
      refine o_icmp_ge (tgt := 44) hC dX2_putAll_7 (by decide) (fun c_7 => ?_) (fun c_7 => ?_)
      · refine o_iconst (v := nI 1) hC dX2_putAll_44 (by decide +kernel) ?_
        refine o_zret hC hB dX2_putAll_45 (by first | rfl | decide +kernel) (Nat.le_of_ble_eq_true rfl) (Nat.le_of_ble_eq_true rfl) ?_
        exact ⟨_, rfl, rfl, ⟨_, ho1⟩, hf, Or.inl ⟨tab1, by rw [he, List.drop_eq_nil_of_le (by rw [List.length_map]; omega)]; rfl, rfl, ht1, hk1⟩⟩
      · exact absurd (nI_le (by omega) (by omega)) c_7
    | succ m ih =>
      intro t h1 gp1 tab1 hm ho1 ht1 hk1 hf he
      obtain ⟨t1, ⟨tf, t2, t3⟩, t4, t5, t6, t7⟩ := hi0.eqv (h' := h1) (fun q q1 q2 => hf q (by omega) (by omega))
      have htl : t < tb.length := by omega
      have hb := t4 t (by omega)
      obtain ⟨e1, e2, e3⟩ := t5 (P1 t) hb
      have hrt := hbk.2.1 _ (List.getElem_mem htl)
      rw [← ark_at] at hrt
      have er := hrow1 t htl
      have w3 : wat ids h1 (a1 + 2 + 5 * P1 t + 2) (ark tb t).2 := by
        rw [← er]
        exact e3.wat
      refine o_iload_n hC dX2_putAll_2 (by rfl) ?_
      refine o_aload_n hC dX2_putAll_3 (by rfl) ?_
      refine o_getf hC (fX2_103 hC rfl) dX2_putAll_4 (by repeat (first | with_reducible assumption | (rw [rl_u_s]; done) | (rw [rl_u_s]; rfl) | rw [rl_u_n (by first | with_reducible assumption | omega)])) (by first | rfl | with_reducible assumption) ?_
      refine o_icmp_ge (tgt := 44) hC dX2_putAll_7 (by decide) (fun c_7 => ?_) (fun c_7 => ?_)
      · exact absurd c_7 (nI_ge (by omega) (by omega))
      · refine o_aload_n hC dX2_putAll_10 (by rfl) ?_
        refine o_aload_n hC dX2_putAll_11 (by rfl) ?_
        refine o_aload_n hC dX2_putAll_12 (by rfl) ?_
        refine o_getf hC (fX2_106 hC rfl) dX2_putAll_13 (by repeat (first | with_reducible assumption | (rw [rl_u_s]; done) | (rw [rl_u_s]; rfl) | rw [rl_u_n (by first | with_reducible assumption | omega)])) (by first | rfl | with_reducible assumption) ?_
        refine o_iload_n hC dX2_putAll_16 (by rfl) ?_
        refine o_aaldN (t0 := 3) hC rfl dX2_putAll_17 (by repeat (first | with_reducible assumption | (rw [rl_u_s]; done) | (rw [rl_u_s]; rfl) | rw [rl_u_n (by first | with_reducible assumption | omega)])) (by omega) (by decide) ?_
        rw [t3 _ (by omega)]
        show rl_G X _ _ _ (.ref _ :: _) _ _ _ _
        refine o_getf hC (fX2_109 hC rfl) dX2_putAll_18 (by repeat (first | with_reducible assumption | (rw [rl_u_s]; done) | (rw [rl_u_s]; rfl) | rw [rl_u_n (by first | with_reducible assumption | omega)])) (by first | rfl | with_reducible assumption) ?_
        refine o_aload_n hC dX2_putAll_21 (by rfl) ?_
        refine o_getf hC (fX2_106 hC rfl) dX2_putAll_22 (by repeat (first | with_reducible assumption | (rw [rl_u_s]; done) | (rw [rl_u_s]; rfl) | rw [rl_u_n (by first | with_reducible assumption | omega)])) (by first | rfl | with_reducible assumption) ?_
        refine o_iload_n hC dX2_putAll_25 (by rfl) ?_
        refine o_aaldN (t0 := 3) hC rfl dX2_putAll_26 (by repeat (first | with_reducible assumption | (rw [rl_u_s]; done) | (rw [rl_u_s]; rfl) | rw [rl_u_n (by first | with_reducible assumption | omega)])) (by omega) (by decide) ?_
        rw [t3 _ (by omega)]
        show rl_G X _ _ _ (.ref _ :: _) _ _ _ _
        refine o_getf hC (fX2_116 hC rfl) dX2_putAll_27 (by repeat (first | with_reducible assumption | (rw [rl_u_s]; done) | (rw [rl_u_s]; rfl) | rw [rl_u_n (by first | with_reducible assumption | omega)])) (by first | rfl | with_reducible assumption) ?_
        refine o_callV3 hC rl_BW_good rl_Ns_nw (by exact hB.2.2.2.2.2) YX2_put IX2_put VX2_put (mX2_99 hC) (by rw [hB.1]; exact cp_X2_put l D ids H0 _ _ o so a (a1 + 2 + 5 * P1 t + 2) (a1 + 2 + 5 * P1 t + 1) wd _ _ _ _ ho1 ht1 hk1 e2 w3 hrt.2.1 (by omega) (by omega) (by omega) (by omega)) (by exact ho1.1) rfl rfl (Nat.le_of_ble_eq_true rfl) (by rw [hB.2.1]; first | exact Nat.le_of_ble_eq_true rfl | (dsimp only; omega)) (by rw [hB.2.1]; first | exact Nat.le_of_ble_eq_true rfl | (dsimp only; omega)) (by rw [hB.2.1]; first | exact Nat.le_of_ble_eq_true rfl | (dsimp only; omega)) (by rw [hB.2.1]; first | exact Nat.le_of_ble_eq_true rfl | (dsimp only; omega)) dX2_putAll_30 (fun v h_30 n_30 p_30 => ?_)
        obtain ⟨x, rfl, rfl, q1, q3, q2⟩ := p_30
        have ek : rcl (S1.1 (P1 t)) wd = (ark tb t).1 := congrArg Prod.fst er
        rw [ek] at q2
        try dsimp only [Option.toList, List.cons_append, List.nil_append]
        refine o_if_ne (tgt := 38) hC dX2_putAll_33 (by decide) (fun c_33 => ?_) (fun c_33 => ?_)
        · refine o_iinc hC dX2_putAll_38 (by rfl) (rl_inc _) (Nat.le_of_ble_eq_true rfl) ?_
          refine o_goto (tgt := 2) hC dX2_putAll_41 (by decide) ?_
          rcases q2 with ⟨tab2, y1, y2, y3, y4⟩ | ⟨-, y2, -⟩
          rotate_left
          · exact absurd y2 c_33
          refine ih (t + 1) _ _ tab2 (by omega) q1 y3 y4 (hf.tr (q3.wd (by omega) (by omega) (Nat.le_refl _) (Nat.le_refl _))) ?_
          rw [he, ark_drop htl]
          show (aput tab1 _ _).bind _ = _
          rw [y1]
          rfl
        · refine o_iconst (v := nI 0) hC dX2_putAll_36 (by decide +kernel) ?_
          refine o_zret hC hB dX2_putAll_37 (by first | rfl | decide +kernel) (Nat.le_of_ble_eq_true rfl) (Nat.le_of_ble_eq_true rfl) ?_
          rcases q2 with ⟨tab2, y1, y2, -, -⟩ | ⟨y1, y2, y3⟩
          · exact absurd (c_33.symm.trans y2) (by decide +kernel)
          · refine ⟨_, rfl, rfl, ⟨_, q1⟩, hf.tr (q3.wd (by omega) (by omega) (Nat.le_refl _) (Nat.le_refl _)), Or.inr ⟨?_, rfl, y3⟩⟩
            rw [he, ark_drop htl]
            show (aput tab1 _ _).bind _ = _
            rw [y1]
            rfl
  show rl_G X (rl_e D ids H0) 0 [some (.ref o), some (.ref a1), some (.ref a), none] [] h n 0 0
  refine o_iconst (v := nI 0) hC dX2_putAll_0 (by decide +kernel) ?_
  refine o_istore_n hC dX2_putAll_1 (Nat.le_of_ble_eq_true rfl) ?_
  exact loop tb.length 0 h gp tab (by omega) ho ht hok rl_g2.rf rfl

set_option maxHeartbeats 4000000 in
set_option maxRecDepth 100000 in
theorem cp_X2_isPicked (l : Launch) (D : va_G) (ids : Nat → ClassId) (H0 : Heap) (h : rl_H) (n : Nat) (nd ca c4 kd : Nat) (f0 f1 f2 f3 f5 f7 f8 yv : Int32) (cc : Nat → Int32) (hnd : h nd = some (.inr (1, [.int f0, .int f1, .int f2, .int f3, .int (nI c4), .int f5, .int (nI kd), .int f7, .int f8]))) (hc : h ca = some (.inl (ids 0, 6, .inl cc))) (h4 : c4 < 6) (hy : (f5 = -1 ∧ yv = f7) ∨ ∃ c5 : Nat, c5 < 6 ∧ f5 = nI c5 ∧ yv = cc c5) (h6 : kd ≤ 2) : rl_Met l (rl_e D ids H0) rl_BW rl_Ns yX2_isPicked cX2_isPicked 4 (some .boolean) ({ frames := 0, cells := 0, slots := 0, locals := 0 }) [.ref nd, .ref ca] h n (fun v h' n' => ∃ x : Int32, v = some (.int x) ∧ h' = h ∧ n' = n ∧ x = (if pcnd (nI kd) (cc c4) yv then nI 1 else nI 0)) := by
  refine rl_Met.of (by decide +kernel) (Nat.le_of_ble_eq_true rfl) ?_
  intro X hC hB
  show rl_G X (rl_e D ids H0) 0 [some (.ref nd), some (.ref ca), none, none] [] h n 0 0
  refine o_aload_n hC dX2_isPicked_0 (by rfl) ?_
  refine o_aload_n hC dX2_isPicked_1 (by rfl) ?_
  refine o_getf hC (fX2_119 hC rfl) dX2_isPicked_2 (by repeat (first | with_reducible assumption | (rw [rl_u_s]; done) | (rw [rl_u_s]; rfl) | rw [rl_u_n (by first | with_reducible assumption | omega)])) (by first | rfl | with_reducible assumption) ?_
  refine o_ialdN (t0 := 0) (k := c4) hC rfl dX2_isPicked_5 hc (by omega) (by decide) ?_
  refine o_istore_n hC dX2_isPicked_6 (Nat.le_of_ble_eq_true rfl) ?_
  refine o_aload_n hC dX2_isPicked_7 (by rfl) ?_
  refine o_getf hC (fX2_122 hC rfl) dX2_isPicked_8 (by repeat (first | with_reducible assumption | (rw [rl_u_s]; done) | (rw [rl_u_s]; rfl) | rw [rl_u_n (by first | with_reducible assumption | omega)])) (by first | rfl | with_reducible assumption) ?_
  refine o_iconst (v := (-1 : Int32)) hC dX2_isPicked_11 (by decide +kernel) ?_
  refine o_icmp_ne (tgt := 22) hC dX2_isPicked_12 (by decide) (fun c_12 => ?_) (fun c_12 => ?_)
  · obtain ⟨c5, h5, rfl, rfl⟩ := hy.resolve_left (fun q => c_12 q.1)
    refine o_aload_n hC dX2_isPicked_22 (by rfl) ?_
    refine o_aload_n hC dX2_isPicked_23 (by rfl) ?_
    refine o_getf hC (fX2_122 hC rfl) dX2_isPicked_24 (by repeat (first | with_reducible assumption | (rw [rl_u_s]; done) | (rw [rl_u_s]; rfl) | rw [rl_u_n (by first | with_reducible assumption | omega)])) (by first | rfl | with_reducible assumption) ?_
    refine o_ialdN (t0 := 0) (k := c5) hC rfl dX2_isPicked_27 hc (by omega) (by decide) ?_
    refine o_istore_n hC dX2_isPicked_28 (Nat.le_of_ble_eq_true rfl) ?_
    refine o_aload_n hC dX2_isPicked_29 (by rfl) ?_
    refine o_getf hC (fX2_125 hC rfl) dX2_isPicked_30 (by repeat (first | with_reducible assumption | (rw [rl_u_s]; done) | (rw [rl_u_s]; rfl) | rw [rl_u_n (by first | with_reducible assumption | omega)])) (by first | rfl | with_reducible assumption) ?_
    rcases (show kd = 0 ∨ kd = 1 ∨ kd = 2 by omega) with rfl | rfl | rfl
    · refine o_lookup (off := 27) (tgt := 60) hC dX2_isPicked_33 (by decide +kernel) (by decide +kernel) (by decide) ?_
      refine o_iload_n hC dX2_isPicked_60 (by rfl) ?_
      refine o_iload_n hC dX2_isPicked_61 (by rfl) ?_
      refine o_icmp_ge (tgt := 69) hC dX2_isPicked_62 (by decide) (fun c_62 => ?_) (fun c_62 => ?_)
      · refine o_iconst (v := nI 0) hC dX2_isPicked_69 (by decide +kernel) ?_
        refine o_zret hC hB dX2_isPicked_70 (by first | rfl | decide +kernel) (Nat.le_of_ble_eq_true rfl) (Nat.le_of_ble_eq_true rfl) ?_
        first
        | exact ⟨_, rfl, rfl, rfl, by rw [pcnd_0, decide_eq_true c_62]; rfl⟩
        | exact ⟨_, rfl, rfl, rfl, by rw [pcnd_0, decide_eq_false c_62]; rfl⟩
      · refine o_iconst (v := nI 1) hC dX2_isPicked_65 (by decide +kernel) ?_
        refine o_goto (tgt := 70) hC dX2_isPicked_66 (by decide) ?_
        refine o_zret hC hB dX2_isPicked_70 (by first | rfl | decide +kernel) (Nat.le_of_ble_eq_true rfl) (Nat.le_of_ble_eq_true rfl) ?_
        first
        | exact ⟨_, rfl, rfl, rfl, by rw [pcnd_0, decide_eq_true c_62]; rfl⟩
        | exact ⟨_, rfl, rfl, rfl, by rw [pcnd_0, decide_eq_false c_62]; rfl⟩
    · refine o_lookup (off := 38) (tgt := 71) hC dX2_isPicked_33 (by decide +kernel) (by decide +kernel) (by decide) ?_
      refine o_iload_n hC dX2_isPicked_71 (by rfl) ?_
      refine o_iload_n hC dX2_isPicked_72 (by rfl) ?_
      refine o_icmp_ne (tgt := 80) hC dX2_isPicked_73 (by decide) (fun c_73 => ?_) (fun c_73 => ?_)
      · refine o_iconst (v := nI 0) hC dX2_isPicked_80 (by decide +kernel) ?_
        refine o_zret hC hB dX2_isPicked_81 (by first | rfl | decide +kernel) (Nat.le_of_ble_eq_true rfl) (Nat.le_of_ble_eq_true rfl) ?_
        first
        | exact ⟨_, rfl, rfl, rfl, by rw [pcnd_1, decide_eq_true c_73]; rfl⟩
        | exact ⟨_, rfl, rfl, rfl, by rw [pcnd_1, decide_eq_false c_73]; rfl⟩
      · refine o_iconst (v := nI 1) hC dX2_isPicked_76 (by decide +kernel) ?_
        refine o_goto (tgt := 81) hC dX2_isPicked_77 (by decide) ?_
        refine o_zret hC hB dX2_isPicked_81 (by first | rfl | decide +kernel) (Nat.le_of_ble_eq_true rfl) (Nat.le_of_ble_eq_true rfl) ?_
        first
        | exact ⟨_, rfl, rfl, rfl, by rw [pcnd_1, decide_eq_true c_73]; rfl⟩
        | exact ⟨_, rfl, rfl, rfl, by rw [pcnd_1, decide_eq_false c_73]; rfl⟩
    · refine o_lookup (off := 49) (tgt := 82) hC dX2_isPicked_33 (by decide +kernel) (by decide +kernel) (by decide) ?_
      refine o_iload_n hC dX2_isPicked_82 (by rfl) ?_
      refine o_iload_n hC dX2_isPicked_83 (by rfl) ?_
      refine o_icmp_le (tgt := 91) hC dX2_isPicked_84 (by decide) (fun c_84 => ?_) (fun c_84 => ?_)
      · refine o_iconst (v := nI 0) hC dX2_isPicked_91 (by decide +kernel) ?_
        refine o_zret hC hB dX2_isPicked_92 (by first | rfl | decide +kernel) (Nat.le_of_ble_eq_true rfl) (Nat.le_of_ble_eq_true rfl) ?_
        first
        | exact ⟨_, rfl, rfl, rfl, by rw [pcnd_2, decide_eq_true c_84]; rfl⟩
        | exact ⟨_, rfl, rfl, rfl, by rw [pcnd_2, decide_eq_false c_84]; rfl⟩
      · refine o_iconst (v := nI 1) hC dX2_isPicked_87 (by decide +kernel) ?_
        refine o_goto (tgt := 92) hC dX2_isPicked_88 (by decide) ?_
        refine o_zret hC hB dX2_isPicked_92 (by first | rfl | decide +kernel) (Nat.le_of_ble_eq_true rfl) (Nat.le_of_ble_eq_true rfl) ?_
        first
        | exact ⟨_, rfl, rfl, rfl, by rw [pcnd_2, decide_eq_true c_84]; rfl⟩
        | exact ⟨_, rfl, rfl, rfl, by rw [pcnd_2, decide_eq_false c_84]; rfl⟩
  · obtain ⟨-, rfl⟩ := hy.resolve_right (fun ⟨q, q1, q2, q3⟩ => absurd (q2.symm.trans c_12) (fun e => absurd (e ▸ (show (-1 : Int32) < 0 by decide +kernel)) (nI_pos (by omega))))
    refine o_aload_n hC dX2_isPicked_15 (by rfl) ?_
    refine o_getf hC (fX2_88 hC rfl) dX2_isPicked_16 (by repeat (first | with_reducible assumption | (rw [rl_u_s]; done) | (rw [rl_u_s]; rfl) | rw [rl_u_n (by first | with_reducible assumption | omega)])) (by first | rfl | with_reducible assumption) ?_
    refine o_goto (tgt := 28) hC dX2_isPicked_19 (by decide) ?_
    refine o_istore_n hC dX2_isPicked_28 (Nat.le_of_ble_eq_true rfl) ?_
    refine o_aload_n hC dX2_isPicked_29 (by rfl) ?_
    refine o_getf hC (fX2_125 hC rfl) dX2_isPicked_30 (by repeat (first | with_reducible assumption | (rw [rl_u_s]; done) | (rw [rl_u_s]; rfl) | rw [rl_u_n (by first | with_reducible assumption | omega)])) (by first | rfl | with_reducible assumption) ?_
    rcases (show kd = 0 ∨ kd = 1 ∨ kd = 2 by omega) with rfl | rfl | rfl
    · refine o_lookup (off := 27) (tgt := 60) hC dX2_isPicked_33 (by decide +kernel) (by decide +kernel) (by decide) ?_
      refine o_iload_n hC dX2_isPicked_60 (by rfl) ?_
      refine o_iload_n hC dX2_isPicked_61 (by rfl) ?_
      refine o_icmp_ge (tgt := 69) hC dX2_isPicked_62 (by decide) (fun c_62 => ?_) (fun c_62 => ?_)
      · refine o_iconst (v := nI 0) hC dX2_isPicked_69 (by decide +kernel) ?_
        refine o_zret hC hB dX2_isPicked_70 (by first | rfl | decide +kernel) (Nat.le_of_ble_eq_true rfl) (Nat.le_of_ble_eq_true rfl) ?_
        first
        | exact ⟨_, rfl, rfl, rfl, by rw [pcnd_0, decide_eq_true c_62]; rfl⟩
        | exact ⟨_, rfl, rfl, rfl, by rw [pcnd_0, decide_eq_false c_62]; rfl⟩
      · refine o_iconst (v := nI 1) hC dX2_isPicked_65 (by decide +kernel) ?_
        refine o_goto (tgt := 70) hC dX2_isPicked_66 (by decide) ?_
        refine o_zret hC hB dX2_isPicked_70 (by first | rfl | decide +kernel) (Nat.le_of_ble_eq_true rfl) (Nat.le_of_ble_eq_true rfl) ?_
        first
        | exact ⟨_, rfl, rfl, rfl, by rw [pcnd_0, decide_eq_true c_62]; rfl⟩
        | exact ⟨_, rfl, rfl, rfl, by rw [pcnd_0, decide_eq_false c_62]; rfl⟩
    · refine o_lookup (off := 38) (tgt := 71) hC dX2_isPicked_33 (by decide +kernel) (by decide +kernel) (by decide) ?_
      refine o_iload_n hC dX2_isPicked_71 (by rfl) ?_
      refine o_iload_n hC dX2_isPicked_72 (by rfl) ?_
      refine o_icmp_ne (tgt := 80) hC dX2_isPicked_73 (by decide) (fun c_73 => ?_) (fun c_73 => ?_)
      · refine o_iconst (v := nI 0) hC dX2_isPicked_80 (by decide +kernel) ?_
        refine o_zret hC hB dX2_isPicked_81 (by first | rfl | decide +kernel) (Nat.le_of_ble_eq_true rfl) (Nat.le_of_ble_eq_true rfl) ?_
        first
        | exact ⟨_, rfl, rfl, rfl, by rw [pcnd_1, decide_eq_true c_73]; rfl⟩
        | exact ⟨_, rfl, rfl, rfl, by rw [pcnd_1, decide_eq_false c_73]; rfl⟩
      · refine o_iconst (v := nI 1) hC dX2_isPicked_76 (by decide +kernel) ?_
        refine o_goto (tgt := 81) hC dX2_isPicked_77 (by decide) ?_
        refine o_zret hC hB dX2_isPicked_81 (by first | rfl | decide +kernel) (Nat.le_of_ble_eq_true rfl) (Nat.le_of_ble_eq_true rfl) ?_
        first
        | exact ⟨_, rfl, rfl, rfl, by rw [pcnd_1, decide_eq_true c_73]; rfl⟩
        | exact ⟨_, rfl, rfl, rfl, by rw [pcnd_1, decide_eq_false c_73]; rfl⟩
    · refine o_lookup (off := 49) (tgt := 82) hC dX2_isPicked_33 (by decide +kernel) (by decide +kernel) (by decide) ?_
      refine o_iload_n hC dX2_isPicked_82 (by rfl) ?_
      refine o_iload_n hC dX2_isPicked_83 (by rfl) ?_
      refine o_icmp_le (tgt := 91) hC dX2_isPicked_84 (by decide) (fun c_84 => ?_) (fun c_84 => ?_)
      · refine o_iconst (v := nI 0) hC dX2_isPicked_91 (by decide +kernel) ?_
        refine o_zret hC hB dX2_isPicked_92 (by first | rfl | decide +kernel) (Nat.le_of_ble_eq_true rfl) (Nat.le_of_ble_eq_true rfl) ?_
        first
        | exact ⟨_, rfl, rfl, rfl, by rw [pcnd_2, decide_eq_true c_84]; rfl⟩
        | exact ⟨_, rfl, rfl, rfl, by rw [pcnd_2, decide_eq_false c_84]; rfl⟩
      · refine o_iconst (v := nI 1) hC dX2_isPicked_87 (by decide +kernel) ?_
        refine o_goto (tgt := 92) hC dX2_isPicked_88 (by decide) ?_
        refine o_zret hC hB dX2_isPicked_92 (by first | rfl | decide +kernel) (Nat.le_of_ble_eq_true rfl) (Nat.le_of_ble_eq_true rfl) ?_
        first
        | exact ⟨_, rfl, rfl, rfl, by rw [pcnd_2, decide_eq_true c_84]; rfl⟩
        | exact ⟨_, rfl, rfl, rfl, by rw [pcnd_2, decide_eq_false c_84]; rfl⟩

set_option maxHeartbeats 4000000 in
set_option maxRecDepth 100000 in
theorem cp_X2_fillPick (l : Launch) (D : va_G) (ids : Nat → ClassId) (H0 : Heap) (h : rl_H) (n : Nat) (o so a a1 wd : Nat) (gp : Nat → Option Nat) (tab tb : List arow) (nd c4 kd : Nat) (oc : Option Nat) (f0 f1 f2 f3 f5 f7 f8 : Int32) (ho : op_sh ids h o so gp) (ht : ctb ids h a wd tab) (hok : aok wd tab) (hi : ctb ids h a1 wd tb) (hbk : aok wd tb) (hoa : o + 22 ≤ a ∨ a + 402 ≤ o) (hoi : o + 22 ≤ a1 ∨ a1 + 402 ≤ o) (hia : a1 + 402 ≤ a ∨ a + 402 ≤ a1) (hnd : h nd = some (.inr (1, [.int f0, .int f1, .int f2, .int f3, .int (nI c4), .int f5, .int (nI kd), .int f7, .int f8]))) (h4 : c4 < wd) (hw6 : wd ≤ 6) (hoc : (oc = none ∧ f5 = -1) ∨ ∃ c : Nat, oc = some c ∧ c < wd ∧ f5 = nI c) (h6 : kd ≤ 2) (hno : nd < o ∨ o + 22 ≤ nd) (hna : nd < a ∨ a + 402 ≤ nd) : rl_Met l (rl_e D ids H0) rl_BW rl_Ns yX2_fillPick cX2_fillPick 6 (some .boolean) ({ frames := 4, cells := 0, slots := 0, locals := 149 }) [.ref o, .ref nd, .ref a1, .ref a] h n (fun v h' n' => ∃ x : Int32, v = some (.int x) ∧ n' = n ∧ (∃ gp' : Nat → Option Nat, op_sh ids h' o so gp') ∧ rl_g2 h h' o (o + 22) a (a + 402) ∧ pres ids h' a wd (aall tab ((tb.filter (fun r => ppk (nI kd) f7 c4 oc r)).map (fun r => (r.1, some r.2)))) x) := by
  obtain ⟨P1, S1, hi0, hP1, hrow1⟩ := id hi
  have tl80 := hbk.2.2
  refine rl_Met.of (by decide +kernel) (Nat.le_of_ble_eq_true rfl) ?_
  intro X hC hB
  have loop : ∀ (m t : Nat) (o5 : Option Value) (h1 : rl_H) (gp1 : Nat → Option Nat) (tab1 : List arow), t + m = tb.length → op_sh ids h1 o so gp1 → ctb ids h1 a wd tab1 → aok wd tab1 → rl_g2 h h1 o (o + 22) a (a + 402) → aall tab ((tb.filter (fun r => ppk (nI kd) f7 c4 oc r)).map (fun r => (r.1, some r.2))) = aall tab1 (((tb.drop t).filter (fun r => ppk (nI kd) f7 c4 oc r)).map (fun r => (r.1, some r.2))) → rl_G X (rl_e D ids H0) 3 [some (.ref o), some (.ref nd), some (.ref a1), some (.ref a), some (.int (nI t)), o5] [] h1 n 0 0 := by
    intro m
    induction m with
    | zero =>
      intro t o5 h1 gp1 tab1 hm ho1 ht1 hk1 hf he
      obtain ⟨t1, ⟨tf, t2, t3⟩, t4, t5, t6, t7⟩ := hi0.eqv (h' := h1) (fun q q1 q2 => hf q (by omega) (by omega))
      refine o_iload hC dX2_fillPick_3 (by rfl) ?_
      refine o_aload_n hC dX2_fillPick_5 (by rfl) ?_
      refine o_getf hC (fX2_103 hC rfl) dX2_fillPick_6 (by repeat (first | with_reducible assumption | (rw [rl_u_s]; done) | (rw [rl_u_s]; rfl) | rw [rl_u_n (by first | with_reducible assumption | omega)])) (by first | rfl | with_reducible assumption) ?_
      refine o_icmp_ge (tgt := 59) hC dX2_fillPick_9 (by decide) (fun c_9 => ?_) (fun c_9 => ?_)
      · refine o_iconst (v := nI 1) hC dX2_fillPick_59 (by decide +kernel) ?_
        refine o_zret hC hB dX2_fillPick_60 (by first | rfl | decide +kernel) (Nat.le_of_ble_eq_true rfl) (Nat.le_of_ble_eq_true rfl) ?_
        exact ⟨_, rfl, rfl, ⟨_, ho1⟩, hf, Or.inl ⟨tab1, by rw [he, List.drop_eq_nil_of_le (by omega)]; rfl, rfl, ht1, hk1⟩⟩
      · exact absurd (nI_le (by omega) (by omega)) c_9
    | succ m ih =>
      intro t o5 h1 gp1 tab1 hm ho1 ht1 hk1 hf he
      obtain ⟨t1, ⟨tf, t2, t3⟩, t4, t5, t6, t7⟩ := hi0.eqv (h' := h1) (fun q q1 q2 => hf q (by omega) (by omega))
      have htl : t < tb.length := by omega
      have hb := t4 t (by omega)
      obtain ⟨e1, e2, e3⟩ := t5 (P1 t) hb
      have hrt := hbk.2.1 _ (List.getElem_mem htl)
      rw [← ark_at] at hrt
      have er := hrow1 t htl
      have w3 : wat ids h1 (a1 + 2 + 5 * P1 t + 2) (ark tb t).2 := by
        rw [← er]
        exact e3.wat
      have n1 := (hf nd (by omega) (by omega)).trans hnd
      have ekk : rcl (S1.1 (P1 t)) wd = (ark tb t).1 := congrArg Prod.fst er
      have gc : ∀ c : Nat, c < wd → acg (ark tb t) c = S1.1 (P1 t) c := fun c hc => by
        show (ark tb t).1.getD c 0 = _
        rw [← ekk, rsg_get hc]
      have hy : (f5 = -1 ∧ oc.elim f7 (acg (ark tb t)) = f7) ∨ ∃ c5 : Nat, c5 < 6 ∧ f5 = nI c5 ∧ oc.elim f7 (acg (ark tb t)) = S1.1 (P1 t) c5 := by
        rcases hoc with ⟨q1, q2⟩ | ⟨c, q1, q2, q3⟩
        · exact Or.inl ⟨q2, by rw [q1]; rfl⟩
        · exact Or.inr ⟨c, by omega, q3, by rw [q1]; exact gc c q2⟩
      rw [ark_dropp htl] at he
      refine o_iload hC dX2_fillPick_3 (by rfl) ?_
      refine o_aload_n hC dX2_fillPick_5 (by rfl) ?_
      refine o_getf hC (fX2_103 hC rfl) dX2_fillPick_6 (by repeat (first | with_reducible assumption | (rw [rl_u_s]; done) | (rw [rl_u_s]; rfl) | rw [rl_u_n (by first | with_reducible assumption | omega)])) (by first | rfl | with_reducible assumption) ?_
      refine o_icmp_ge (tgt := 59) hC dX2_fillPick_9 (by decide) (fun c_9 => ?_) (fun c_9 => ?_)
      · exact absurd c_9 (nI_ge (by omega) (by omega))
      · refine o_aload_n hC dX2_fillPick_12 (by rfl) ?_
        refine o_getf hC (fX2_106 hC rfl) dX2_fillPick_13 (by repeat (first | with_reducible assumption | (rw [rl_u_s]; done) | (rw [rl_u_s]; rfl) | rw [rl_u_n (by first | with_reducible assumption | omega)])) (by first | rfl | with_reducible assumption) ?_
        refine o_iload hC dX2_fillPick_16 (by rfl) ?_
        refine o_aaldN (t0 := 3) hC rfl dX2_fillPick_18 (by repeat (first | with_reducible assumption | (rw [rl_u_s]; done) | (rw [rl_u_s]; rfl) | rw [rl_u_n (by first | with_reducible assumption | omega)])) (by omega) (by decide) ?_
        rw [t3 _ (by omega)]
        show rl_G X _ _ _ (.ref _ :: _) _ _ _ _
        refine o_astore hC dX2_fillPick_19 (Nat.le_of_ble_eq_true rfl) ?_
        refine o_aload_n hC dX2_fillPick_21 (by rfl) ?_
        refine o_aload hC dX2_fillPick_22 (by rfl) ?_
        refine o_getf hC (fX2_109 hC rfl) dX2_fillPick_24 (by repeat (first | with_reducible assumption | (rw [rl_u_s]; done) | (rw [rl_u_s]; rfl) | rw [rl_u_n (by first | with_reducible assumption | omega)])) (by first | rfl | with_reducible assumption) ?_
        refine o_callS2 hC rl_BW_good rl_Ns_nw (by exact hB.2.2.2.2.2) YX2_isPicked SX2_isPicked (mX2_112 hC) (by rw [hB.1]; exact cp_X2_isPicked l D ids H0 _ _ nd (a1 + 2 + 5 * P1 t + 1) c4 kd _ _ _ _ f5 f7 _ (oc.elim f7 (acg (ark tb t))) _ n1 e2 (by omega) hy h6) (Nat.le_of_ble_eq_true rfl) (by rw [hB.2.1]; first | exact Nat.le_of_ble_eq_true rfl | (dsimp only; omega)) (by rw [hB.2.1]; first | exact Nat.le_of_ble_eq_true rfl | (dsimp only; omega)) (by rw [hB.2.1]; first | exact Nat.le_of_ble_eq_true rfl | (dsimp only; omega)) (by rw [hB.2.1]; first | exact Nat.le_of_ble_eq_true rfl | (dsimp only; omega)) dX2_fillPick_27 (fun v h_27 n_27 p_27 => ?_)
        obtain ⟨x0, rfl, rfl, rfl, q9⟩ := p_27
        rw [← gc c4 h4] at q9
        replace q9 : x0 = if ppk (nI kd) f7 c4 oc (ark tb t) then nI 1 else nI 0 := q9
        try dsimp only [Option.toList, List.cons_append, List.nil_append]
        refine o_if_eq (tgt := 53) hC dX2_fillPick_30 (by decide) (fun c_30 => ?_) (fun c_30 => ?_)
        · refine o_iinc hC dX2_fillPick_53 (by rfl) (rl_inc _) (Nat.le_of_ble_eq_true rfl) ?_
          refine o_goto (tgt := 3) hC dX2_fillPick_56 (by decide) ?_
          have hp : ¬ ppk (nI kd) f7 c4 oc (ark tb t) = true := by
            intro e
            rw [e] at q9
            exact absurd (q9.symm.trans c_30) (by decide +kernel)
          rw [List.filter_cons_of_neg (p := (fun r => ppk (nI kd) f7 c4 oc r)) hp] at he
          exact ih (t + 1) _ _ _ tab1 (by omega) ho1 ht1 hk1 hf he
        · have hp : ppk (nI kd) f7 c4 oc (ark tb t) = true := by
            cases e : ppk (nI kd) f7 c4 oc (ark tb t) with
            | true => rfl
            | false => rw [e] at q9; exact absurd q9 c_30
          rw [List.filter_cons_of_pos (p := (fun r => ppk (nI kd) f7 c4 oc r)) hp, List.map_cons] at he
          refine o_aload_n hC dX2_fillPick_33 (by rfl) ?_
          refine o_aload_n hC dX2_fillPick_34 (by rfl) ?_
          refine o_aload hC dX2_fillPick_35 (by rfl) ?_
          refine o_getf hC (fX2_109 hC rfl) dX2_fillPick_37 (by repeat (first | with_reducible assumption | (rw [rl_u_s]; done) | (rw [rl_u_s]; rfl) | rw [rl_u_n (by first | with_reducible assumption | omega)])) (by first | rfl | with_reducible assumption) ?_
          refine o_aload hC dX2_fillPick_40 (by rfl) ?_
          refine o_getf hC (fX2_116 hC rfl) dX2_fillPick_42 (by repeat (first | with_reducible assumption | (rw [rl_u_s]; done) | (rw [rl_u_s]; rfl) | rw [rl_u_n (by first | with_reducible assumption | omega)])) (by first | rfl | with_reducible assumption) ?_
          refine o_callV3 hC rl_BW_good rl_Ns_nw (by exact hB.2.2.2.2.2) YX2_put IX2_put VX2_put (mX2_99 hC) (by rw [hB.1]; exact cp_X2_put l D ids H0 _ _ o so a (a1 + 2 + 5 * P1 t + 2) (a1 + 2 + 5 * P1 t + 1) wd _ _ _ _ ho1 ht1 hk1 e2 w3 hrt.2.1 (by omega) (by omega) (by omega) (by omega)) (by exact ho1.1) rfl rfl (Nat.le_of_ble_eq_true rfl) (by rw [hB.2.1]; first | exact Nat.le_of_ble_eq_true rfl | (dsimp only; omega)) (by rw [hB.2.1]; first | exact Nat.le_of_ble_eq_true rfl | (dsimp only; omega)) (by rw [hB.2.1]; first | exact Nat.le_of_ble_eq_true rfl | (dsimp only; omega)) (by rw [hB.2.1]; first | exact Nat.le_of_ble_eq_true rfl | (dsimp only; omega)) dX2_fillPick_45 (fun v h_45 n_45 p_45 => ?_)
          obtain ⟨x, rfl, rfl, q1, q3, q2⟩ := p_45
          rw [ekk] at q2
          try dsimp only [Option.toList, List.cons_append, List.nil_append]
          refine o_if_ne (tgt := 53) hC dX2_fillPick_48 (by decide) (fun c_48 => ?_) (fun c_48 => ?_)
          · refine o_iinc hC dX2_fillPick_53 (by rfl) (rl_inc _) (Nat.le_of_ble_eq_true rfl) ?_
            refine o_goto (tgt := 3) hC dX2_fillPick_56 (by decide) ?_
            rcases q2 with ⟨tab2, y1, y2, y3, y4⟩ | ⟨-, y2, -⟩
            rotate_left
            · exact absurd y2 c_48
            refine ih (t + 1) _ _ _ tab2 (by omega) q1 y3 y4 (hf.tr (q3.wd (by omega) (by omega) (Nat.le_refl _) (Nat.le_refl _))) ?_
            rw [he]
            show (aput tab1 _ _).bind _ = _
            rw [y1]
            rfl
          · refine o_iconst (v := nI 0) hC dX2_fillPick_51 (by decide +kernel) ?_
            refine o_zret hC hB dX2_fillPick_52 (by first | rfl | decide +kernel) (Nat.le_of_ble_eq_true rfl) (Nat.le_of_ble_eq_true rfl) ?_
            rcases q2 with ⟨tab2, y1, y2, -, -⟩ | ⟨y1, y2, y3⟩
            · exact absurd (c_48.symm.trans y2) (by decide +kernel)
            · refine ⟨_, rfl, rfl, ⟨_, q1⟩, hf.tr (q3.wd (by omega) (by omega) (Nat.le_refl _) (Nat.le_refl _)), Or.inr ⟨?_, rfl, y3⟩⟩
              rw [he]
              show (aput tab1 _ _).bind _ = _
              rw [y1]
              rfl
  show rl_G X (rl_e D ids H0) 0 [some (.ref o), some (.ref nd), some (.ref a1), some (.ref a), none, none] [] h n 0 0
  refine o_iconst (v := nI 0) hC dX2_fillPick_0 (by decide +kernel) ?_
  refine o_istore hC dX2_fillPick_1 (Nat.le_of_ble_eq_true rfl) ?_
  exact loop tb.length 0 _ h gp tab (by omega) ho ht hok rl_g2.rf rfl

set_option maxHeartbeats 4000000 in
set_option maxRecDepth 100000 in
theorem cp_X2_fillCols (l : Launch) (D : va_G) (ids : Nat → ClassId) (H0 : Heap) (h : rl_H) (n : Nat) (o so a a1 wd wd1 : Nat) (gp : Nat → Option Nat) (tab tb : List arow) (nd N : Nat) (f0 f2 f3 f4 f5 f6 f8 : Int32) (ho : op_sh ids h o so gp) (ht : ctb ids h a wd tab) (hok : aok wd tab) (hi : ctb ids h a1 wd1 tb) (hbk : aok wd1 tb) (hoa : o + 22 ≤ a ∨ a + 402 ≤ o) (hoi : o + 22 ≤ a1 ∨ a1 + 402 ≤ o) (hia : a1 + 402 ≤ a ∨ a + 402 ≤ a1) (hnd : h nd = some (.inr (1, [.int f0, .int (nI wd), .int f2, .int f3, .int f4, .int f5, .int f6, .int (nI N), .int f8]))) (hw6 : wd ≤ 6) (hN : N < 2147483648) (hdg : ∀ c, c < wd → 1 ≤ N / 10 ^ c % 10 ∧ N / 10 ^ c % 10 ≤ wd1) (hw16 : wd1 ≤ 6) (hno : nd < o ∨ o + 22 ≤ nd) (hna : nd < a ∨ a + 402 ≤ nd) : rl_Met l (rl_e D ids H0) rl_BW rl_Ns yX2_fillCols cX2_fillCols 7 (some .boolean) ({ frames := 4, cells := 0, slots := 0, locals := 149 }) [.ref o, .ref nd, .ref a1, .ref a] h n (fun v h' n' => ∃ x : Int32, v = some (.int x) ∧ n' = n ∧ (∃ gp' : Nat → Option Nat, op_sh ids h' o so gp') ∧ rl_g2 h h' o (o + 22) a (a + 402) ∧ pres ids h' a wd (aall tab (tb.map (fun r => (ccl N wd r, some r.2)))) x) := by
  obtain ⟨P1, S1, hi0, hP1, hrow1⟩ := id hi
  have tl80 := hbk.2.2
  refine rl_Met.of (by decide +kernel) (Nat.le_of_ble_eq_true rfl) ?_
  intro X hC hB
  have loop : ∀ (m t : Nat) (o5 o6 : Option Value) (h1 : rl_H) (gp1 : Nat → Option Nat) (tab1 : List arow), t + m = tb.length → op_sh ids h1 o so gp1 → ctb ids h1 a wd tab1 → aok wd tab1 → rl_g2 h h1 o (o + 22) a (a + 402) → aall tab (tb.map (fun r => (ccl N wd r, some r.2))) = aall tab1 ((tb.map (fun r => (ccl N wd r, some r.2))).drop t) → rl_G X (rl_e D ids H0) 3 [some (.ref o), some (.ref nd), some (.ref a1), some (.ref a), some (.int (nI t)), o5, o6] [] h1 n 0 0 := by
    intro m
    induction m with
    | zero =>
      intro t o5 o6 h1 gp1 tab1 hm ho1 ht1 hk1 hf he
      obtain ⟨t1, ⟨tf, t2, t3⟩, t4, t5, t6, t7⟩ := hi0.eqv (h' := h1) (fun q q1 q2 => hf q (by omega) (by omega))
      refine o_iload hC dX2_fillCols_3 (by rfl) ?_
      refine o_aload_n hC dX2_fillCols_5 (by rfl) ?_
      refine o_getf hC (fX2_103 hC rfl) dX2_fillCols_6 (by repeat (first | with_reducible assumption | (rw [rl_u_s]; done) | (rw [rl_u_s]; rfl) | rw [rl_u_n (by first | with_reducible assumption | omega)])) (by first | rfl | with_reducible assumption) ?_
      refine o_icmp_ge (tgt := 98) hC dX2_fillCols_9 (by decide) (fun c_9 => ?_) (fun c_9 => ?_)
      · refine o_iconst (v := nI 1) hC dX2_fillCols_98 (by decide +kernel) ?_
        refine o_zret hC hB dX2_fillCols_99 (by first | rfl | decide +kernel) (Nat.le_of_ble_eq_true rfl) (Nat.le_of_ble_eq_true rfl) ?_
        exact ⟨_, rfl, rfl, ⟨_, ho1⟩, hf, Or.inl ⟨tab1, by rw [he, List.drop_eq_nil_of_le (by rw [List.length_map]; omega)]; rfl, rfl, ht1, hk1⟩⟩
      · exact absurd (nI_le (by omega) (by omega)) c_9
    | succ m ih =>
      intro t o5 o6 h9 gp9 tab1 hm ho9 ht9 hk1 hf9 he
      have loop2 : ∀ (m2 c R : Nat) (h1 : rl_H) (kc : Nat → Int32), c + m2 = wd → R = N / 10 ^ c → op_sh ids h1 o so gp9 → ctb ids h1 a wd tab1 → h1 (o + 9) = some (.inl (ids 0, 6, .inl kc)) → (∀ i : Nat, i < c → kc i = acg (ark tb t) (N / 10 ^ i % 10 - 1)) → rl_g2 h h1 o (o + 22) a (a + 402) → rl_G X (rl_e D ids H0) 21 [some (.ref o), some (.ref nd), some (.ref a1), some (.ref a), some (.int (nI t)), some (.int (nI R)), some (.int (nI c))] [] h1 n 0 0 := by
        intro m2
        induction m2 with
        | zero =>
          intro c R h1 kc hm2 hR ho1 ht1 o9 hkc hf
          obtain ⟨t1, ⟨tf, t2, t3⟩, t4, t5, t6, t7⟩ := hi0.eqv (h' := h1) (fun q q1 q2 => hf q (by omega) (by omega))
          have o0 := ho1.1
          have n1 := (hf nd (by omega) (by omega)).trans hnd
          have htl : t < tb.length := by omega
          have hb := t4 t (by omega)
          obtain ⟨e1, e2, e3⟩ := t5 (P1 t) hb
          have hrt := hbk.2.1 _ (List.getElem_mem htl)
          rw [← ark_at] at hrt
          have er := hrow1 t htl
          have w3 : wat ids h1 (a1 + 2 + 5 * P1 t + 2) (ark tb t).2 := by
            rw [← er]
            exact e3.wat
          refine o_iload hC dX2_fillCols_21 (by rfl) ?_
          refine o_aload_n hC dX2_fillCols_23 (by rfl) ?_
          refine o_getf hC (fX2_39 hC rfl) dX2_fillCols_24 (by repeat (first | with_reducible assumption | (rw [rl_u_s]; done) | (rw [rl_u_s]; rfl) | rw [rl_u_n (by first | with_reducible assumption | omega)])) (by first | rfl | with_reducible assumption) ?_
          refine o_icmp_ge (tgt := 68) hC dX2_fillCols_27 (by decide) (fun c_27 => ?_) (fun c_27 => ?_)
          · refine o_aload_n hC dX2_fillCols_68 (by rfl) ?_
            refine o_aload_n hC dX2_fillCols_69 (by rfl) ?_
            refine o_aload_n hC dX2_fillCols_70 (by rfl) ?_
            refine o_getf hC (fX2_35 hC rfl) dX2_fillCols_71 (by repeat (first | with_reducible assumption | (rw [rl_u_s]; done) | (rw [rl_u_s]; rfl) | rw [rl_u_n (by first | with_reducible assumption | omega)])) (by first | rfl | with_reducible assumption) ?_
            refine o_aload_n hC dX2_fillCols_74 (by rfl) ?_
            refine o_getf hC (fX2_106 hC rfl) dX2_fillCols_75 (by repeat (first | with_reducible assumption | (rw [rl_u_s]; done) | (rw [rl_u_s]; rfl) | rw [rl_u_n (by first | with_reducible assumption | omega)])) (by first | rfl | with_reducible assumption) ?_
            refine o_iload hC dX2_fillCols_78 (by rfl) ?_
            refine o_aaldN (t0 := 3) hC rfl dX2_fillCols_80 (by repeat (first | with_reducible assumption | (rw [rl_u_s]; done) | (rw [rl_u_s]; rfl) | rw [rl_u_n (by first | with_reducible assumption | omega)])) (by omega) (by decide) ?_
            rw [t3 _ (by omega)]
            show rl_G X _ _ _ (.ref _ :: _) _ _ _ _
            refine o_getf hC (fX2_116 hC rfl) dX2_fillCols_81 (by repeat (first | with_reducible assumption | (rw [rl_u_s]; done) | (rw [rl_u_s]; rfl) | rw [rl_u_n (by first | with_reducible assumption | omega)])) (by first | rfl | with_reducible assumption) ?_
            refine o_callV3 hC rl_BW_good rl_Ns_nw (by exact hB.2.2.2.2.2) YX2_put IX2_put VX2_put (mX2_99 hC) (by rw [hB.1]; exact cp_X2_put l D ids H0 _ _ o so a (a1 + 2 + 5 * P1 t + 2) (o + 9) wd _ _ _ _ ho1 ht1 hk1 o9 w3 hrt.2.1 (by omega) (by omega) (by omega) (by omega)) (by exact ho1.1) rfl rfl (Nat.le_of_ble_eq_true rfl) (by rw [hB.2.1]; first | exact Nat.le_of_ble_eq_true rfl | (dsimp only; omega)) (by rw [hB.2.1]; first | exact Nat.le_of_ble_eq_true rfl | (dsimp only; omega)) (by rw [hB.2.1]; first | exact Nat.le_of_ble_eq_true rfl | (dsimp only; omega)) (by rw [hB.2.1]; first | exact Nat.le_of_ble_eq_true rfl | (dsimp only; omega)) dX2_fillCols_84 (fun v h_84 n_84 p_84 => ?_)
            obtain ⟨x, rfl, rfl, q1, q3, q2⟩ := p_84
            have ek : rcl kc wd = ccl N wd (ark tb t) := rsg_eq (fun i _ hi => hkc i (by omega))
            rw [ek] at q2
            try dsimp only [Option.toList, List.cons_append, List.nil_append]
            refine o_if_ne (tgt := 92) hC dX2_fillCols_87 (by decide) (fun c_87 => ?_) (fun c_87 => ?_)
            · refine o_iinc hC dX2_fillCols_92 (by rfl) (rl_inc _) (Nat.le_of_ble_eq_true rfl) ?_
              refine o_goto (tgt := 3) hC dX2_fillCols_95 (by decide) ?_
              rcases q2 with ⟨tab2, y1, y2, y3, y4⟩ | ⟨-, y2, -⟩
              rotate_left
              · exact absurd y2 c_87
              refine ih (t + 1) _ _ _ _ tab2 (by omega) q1 y3 y4 (hf.tr (q3.wd (by omega) (by omega) (Nat.le_refl _) (Nat.le_refl _))) ?_
              rw [he, ark_drop htl]
              show (aput tab1 _ _).bind _ = _
              rw [y1]
              rfl
            · refine o_iconst (v := nI 0) hC dX2_fillCols_90 (by decide +kernel) ?_
              refine o_zret hC hB dX2_fillCols_91 (by first | rfl | decide +kernel) (Nat.le_of_ble_eq_true rfl) (Nat.le_of_ble_eq_true rfl) ?_
              rcases q2 with ⟨tab2, y1, y2, -, -⟩ | ⟨y1, y2, y3⟩
              · exact absurd (c_87.symm.trans y2) (by decide +kernel)
              · refine ⟨_, rfl, rfl, ⟨_, q1⟩, hf.tr (q3.wd (by omega) (by omega) (Nat.le_refl _) (Nat.le_refl _)), Or.inr ⟨?_, rfl, y3⟩⟩
                rw [he, ark_drop htl]
                show (aput tab1 _ _).bind _ = _
                rw [y1]
                rfl
          · exact absurd (nI_le (by omega) (by omega)) c_27
        | succ m2 ih2 =>
          intro c R h1 kc hm2 hR ho1 ht1 o9 hkc hf
          obtain ⟨t1, ⟨tf, t2, t3⟩, t4, t5, t6, t7⟩ := hi0.eqv (h' := h1) (fun q q1 q2 => hf q (by omega) (by omega))
          have o0 := ho1.1
          have n1 := (hf nd (by omega) (by omega)).trans hnd
          have htl : t < tb.length := by omega
          have hb := t4 t (by omega)
          obtain ⟨e1, e2, e3⟩ := t5 (P1 t) hb
          have hrt := hbk.2.1 _ (List.getElem_mem htl)
          rw [← ark_at] at hrt
          have er := hrow1 t htl
          have w3 : wat ids h1 (a1 + 2 + 5 * P1 t + 2) (ark tb t).2 := by
            rw [← er]
            exact e3.wat
          have hR0 : R < 2147483648 := by
            rw [hR]
            exact Nat.lt_of_le_of_lt (Nat.div_le_self _ _) hN
          obtain ⟨g1, g2⟩ := hdg c (by omega)
          have hRR := hR
          rw [← hR] at g1 g2
          obtain ⟨e, hre⟩ : ∃ e, R % 10 = e + 1 := ⟨R % 10 - 1, by omega⟩
          have hR1 : R / 10 = N / 10 ^ (c + 1) := by rw [hR, Nat.div_div_eq_div_mul, Nat.pow_succ]
          refine o_iload hC dX2_fillCols_21 (by rfl) ?_
          refine o_aload_n hC dX2_fillCols_23 (by rfl) ?_
          refine o_getf hC (fX2_39 hC rfl) dX2_fillCols_24 (by repeat (first | with_reducible assumption | (rw [rl_u_s]; done) | (rw [rl_u_s]; rfl) | rw [rl_u_n (by first | with_reducible assumption | omega)])) (by first | rfl | with_reducible assumption) ?_
          refine o_icmp_ge (tgt := 68) hC dX2_fillCols_27 (by decide) (fun c_27 => ?_) (fun c_27 => ?_)
          · exact absurd c_27 (nI_ge (by omega) (by omega))
          · refine o_aload_n hC dX2_fillCols_30 (by rfl) ?_
            refine o_getf hC (fX2_35 hC rfl) dX2_fillCols_31 (by repeat (first | with_reducible assumption | (rw [rl_u_s]; done) | (rw [rl_u_s]; rfl) | rw [rl_u_n (by first | with_reducible assumption | omega)])) (by first | rfl | with_reducible assumption) ?_
            refine o_iload hC dX2_fillCols_34 (by rfl) ?_
            refine o_aload_n hC dX2_fillCols_36 (by rfl) ?_
            refine o_getf hC (fX2_106 hC rfl) dX2_fillCols_37 (by repeat (first | with_reducible assumption | (rw [rl_u_s]; done) | (rw [rl_u_s]; rfl) | rw [rl_u_n (by first | with_reducible assumption | omega)])) (by first | rfl | with_reducible assumption) ?_
            refine o_iload hC dX2_fillCols_40 (by rfl) ?_
            refine o_aaldN (t0 := 3) hC rfl dX2_fillCols_42 (by repeat (first | with_reducible assumption | (rw [rl_u_s]; done) | (rw [rl_u_s]; rfl) | rw [rl_u_n (by first | with_reducible assumption | omega)])) (by omega) (by decide) ?_
            rw [t3 _ (by omega)]
            show rl_G X _ _ _ (.ref _ :: _) _ _ _ _
            refine o_getf hC (fX2_109 hC rfl) dX2_fillCols_43 (by repeat (first | with_reducible assumption | (rw [rl_u_s]; done) | (rw [rl_u_s]; rfl) | rw [rl_u_n (by first | with_reducible assumption | omega)])) (by first | rfl | with_reducible assumption) ?_
            refine o_iload hC dX2_fillCols_46 (by rfl) ?_
            refine o_bipush (v := nI 10) hC dX2_fillCols_48 (by decide +kernel) ?_
            refine o_irem hC dX2_fillCols_50 (by decide +kernel) ?_
            rw [pk_rem hR0 (by decide) (by decide), hre]
            refine o_iconst (v := nI 1) hC dX2_fillCols_51 (by decide +kernel) ?_
            refine o_isub hC dX2_fillCols_52 ?_
            rw [rl_pred e]
            refine o_ialdN (t0 := 0) (k := e) hC rfl dX2_fillCols_53 e2 (by omega) (by decide) ?_
            refine o_iastN (t0 := 0) (k := c) hC rfl dX2_fillCols_54 o9 (by omega) (by decide) ?_
            refine o_iload hC dX2_fillCols_55 (by rfl) ?_
            refine o_bipush (v := nI 10) hC dX2_fillCols_57 (by decide +kernel) ?_
            refine o_idiv hC dX2_fillCols_59 (by decide +kernel) ?_
            rw [pk_div hR0 (by decide) (by decide)]
            refine o_istore hC dX2_fillCols_60 (Nat.le_of_ble_eq_true rfl) ?_
            refine o_iinc hC dX2_fillCols_62 (by rfl) (rl_inc _) (Nat.le_of_ble_eq_true rfl) ?_
            refine o_goto (tgt := 21) hC dX2_fillCols_65 (by decide) ?_
            refine ih2 (c + 1) _ _ _ (by omega) hR1 (ho1.ky rl_u_s (fun q q1 q2 q3 => rl_u_n q3)) (ht1.eqv (fun q q1 q2 => rl_u_n (by omega))) rl_u_s (fun i hi => ?_) (hf.tr (fun q q1 q2 => rl_u_n (by omega)))
            by_cases e4 : i = c
            · subst e4
              refine (if_pos rfl).trans ?_
              rw [← hRR, hre, Nat.add_sub_cancel]
              show _ = (ark tb t).1.getD e 0
              rw [← er]
              exact (rsg_get (by omega)).symm
            · exact (if_neg e4).trans (hkc i (by omega))
      obtain ⟨t1, -, -, -, t6, -⟩ := hi0.eqv (h' := h9) (fun q q1 q2 => hf9 q (by omega) (by omega))
      have n1 := (hf9 nd (by omega) (by omega)).trans hnd
      obtain ⟨o0, -, -, -, -, ⟨kc9, o9⟩, -⟩ := id ho9
      refine o_iload hC dX2_fillCols_3 (by rfl) ?_
      refine o_aload_n hC dX2_fillCols_5 (by rfl) ?_
      refine o_getf hC (fX2_103 hC rfl) dX2_fillCols_6 (by repeat (first | with_reducible assumption | (rw [rl_u_s]; done) | (rw [rl_u_s]; rfl) | rw [rl_u_n (by first | with_reducible assumption | omega)])) (by first | rfl | with_reducible assumption) ?_
      refine o_icmp_ge (tgt := 98) hC dX2_fillCols_9 (by decide) (fun c_9 => ?_) (fun c_9 => ?_)
      · exact absurd c_9 (nI_ge (by omega) (by omega))
      · refine o_aload_n hC dX2_fillCols_12 (by rfl) ?_
        refine o_getf hC (fX2_88 hC rfl) dX2_fillCols_13 (by repeat (first | with_reducible assumption | (rw [rl_u_s]; done) | (rw [rl_u_s]; rfl) | rw [rl_u_n (by first | with_reducible assumption | omega)])) (by first | rfl | with_reducible assumption) ?_
        refine o_istore hC dX2_fillCols_16 (Nat.le_of_ble_eq_true rfl) ?_
        refine o_iconst (v := nI 0) hC dX2_fillCols_18 (by decide +kernel) ?_
        refine o_istore hC dX2_fillCols_19 (Nat.le_of_ble_eq_true rfl) ?_
        exact loop2 wd 0 N h9 kc9 (by omega) (by rw [Nat.pow_zero, Nat.div_one]) ho9 ht9 o9 (fun i hi => absurd hi (by omega)) hf9
  show rl_G X (rl_e D ids H0) 0 [some (.ref o), some (.ref nd), some (.ref a1), some (.ref a), none, none, none] [] h n 0 0
  refine o_iconst (v := nI 0) hC dX2_fillCols_0 (by decide +kernel) ?_
  refine o_istore hC dX2_fillCols_1 (Nat.le_of_ble_eq_true rfl) ?_
  exact loop tb.length 0 _ _ h gp tab (by omega) ho ht hok rl_g2.rf rfl

/-- what SCAN gives of n rows from t on, in the class -/
abbrev csc (sf : Nat → Int32) (cf : Nat → Nat → Int32) (q : Int32) (w t n : Nat) : List (List Int32 × Option (List tT)) := ((List.range' t n).filter (fun r => decide (sf r = q))).map (fun r => (rcl (cf r) w, some [(tbt r, (0 : Int64))]))

set_option maxHeartbeats 4000000 in
set_option maxRecDepth 100000 in
theorem cp_X2_fillScan (l : Launch) (D : va_G) (ids : Nat → ClassId) (H0 : Heap) (h : rl_H) (n : Nat) (o so a wd nd sc rc : Nat) (gp : Nat → Option Nat) (tab : List arow) (wf sf : Nat → Int32) (cf : Nat → Nat → Int32) (f0 f1 f2 f3 f4 f5 f6 f7 f8 : Int32) (ho : op_sh ids h o so gp) (ht : ctb ids h a wd tab) (hok : aok wd tab) (hs : so_at ids h so wf sf cf sc rc) (hnd : h nd = some (.inr (1, [.int f0, .int f1, .int f2, .int f3, .int f4, .int f5, .int f6, .int f7, .int f8]))) (hoa : o + 22 ≤ a ∨ a + 402 ≤ o) (hso : so + 40 ≤ o ∨ o + 22 ≤ so) (hsa : so + 40 ≤ a ∨ a + 402 ≤ so) (hno : nd < o ∨ o + 22 ≤ nd) (hna : nd < a ∨ a + 402 ≤ nd) : rl_Met l (rl_e D ids H0) rl_BW rl_Ns yX2_fillScan cX2_fillScan 5 (some .boolean) ({ frames := 4, cells := 0, slots := 0, locals := 149 }) [.ref o, .ref nd, .ref so, .ref a] h n (fun v h' n' => ∃ x : Int32, v = some (.int x) ∧ n' = n ∧ (∃ gp' : Nat → Option Nat, op_sh ids h' o so gp') ∧ rl_g2 h h' o (o + 22) a (a + 402) ∧ pres ids h' a wd (aall tab (csc sf cf f7 wd 0 rc)) x) := by
  refine rl_Met.of (by decide +kernel) (Nat.le_of_ble_eq_true rfl) ?_
  intro X hC hB
  have loop : ∀ (m t : Nat) (h1 : rl_H) (gp1 : Nat → Option Nat) (tab1 : List arow), t + m = rc → op_sh ids h1 o so gp1 → ctb ids h1 a wd tab1 → aok wd tab1 → rl_g2 h h1 o (o + 22) a (a + 402) → aall tab (csc sf cf f7 wd 0 rc) = aall tab1 (csc sf cf f7 wd t m) → rl_G X (rl_e D ids H0) 3 [some (.ref o), some (.ref nd), some (.ref so), some (.ref a), some (.int (nI t))] [] h1 n 0 0 := by
    intro m
    induction m with
    | zero =>
      intro t h1 gp1 tab1 hm ho1 ht1 hk1 hf he
      obtain ⟨s1, s2, s3, s4, s5, s6, s7⟩ := hs.eqv (h' := h1) (fun q q1 q2 => hf q (by omega) (by omega))
      have o0 := ho1.1
      refine o_iload hC dX2_fillScan_3 (by rfl) ?_
      refine o_aload_n hC dX2_fillScan_5 (by rfl) ?_
      refine o_getf hC (fX2_80 hC rfl) dX2_fillScan_6 (by repeat (first | with_reducible assumption | (rw [rl_u_s]; done) | (rw [rl_u_s]; rfl) | rw [rl_u_n (by first | with_reducible assumption | omega)])) (by first | rfl | with_reducible assumption) ?_
      refine o_icmp_ge (tgt := 65) hC dX2_fillScan_9 (by decide) (fun c_9 => ?_) (fun c_9 => ?_)
      · refine o_iconst (v := nI 1) hC dX2_fillScan_65 (by decide +kernel) ?_
        refine o_zret hC hB dX2_fillScan_66 (by first | rfl | decide +kernel) (Nat.le_of_ble_eq_true rfl) (Nat.le_of_ble_eq_true rfl) ?_
        exact ⟨_, rfl, rfl, ⟨_, ho1⟩, hf, Or.inl ⟨tab1, by rw [he]; rfl, rfl, ht1, hk1⟩⟩
      · exact absurd (nI_le (by omega) (by omega)) c_9
    | succ m ih =>
      intro t h1 gp1 tab1 hm ho1 ht1 hk1 hf he
      obtain ⟨s1, s2, s3, s4, s5, s6, s7⟩ := hs.eqv (h' := h1) (fun q q1 q2 => hf q (by omega) (by omega))
      obtain ⟨o0, ⟨ds, od⟩, ⟨mf0, mg0, mk0, om⟩, ⟨tp, o7, o7b⟩, o8, ⟨kc, o9⟩, ot⟩ := id ho1
      have n1 := (hf nd (by omega) (by omega)).trans hnd
      refine o_iload hC dX2_fillScan_3 (by rfl) ?_
      refine o_aload_n hC dX2_fillScan_5 (by rfl) ?_
      refine o_getf hC (fX2_80 hC rfl) dX2_fillScan_6 (by repeat (first | with_reducible assumption | (rw [rl_u_s]; done) | (rw [rl_u_s]; rfl) | rw [rl_u_n (by first | with_reducible assumption | omega)] | rw [p2 _ (by omega)])) (by first | rfl | with_reducible assumption) ?_
      refine o_icmp_ge (tgt := 65) hC dX2_fillScan_9 (by decide) (fun c_9 => ?_) (fun c_9 => ?_)
      · exact absurd c_9 (nI_ge (by omega) (by omega))
      · refine o_aload_n hC dX2_fillScan_12 (by rfl) ?_
        refine o_getf hC (fX2_85 hC rfl) dX2_fillScan_13 (by repeat (first | with_reducible assumption | (rw [rl_u_s]; done) | (rw [rl_u_s]; rfl) | rw [rl_u_n (by first | with_reducible assumption | omega)] | rw [p2 _ (by omega)])) (by first | rfl | with_reducible assumption) ?_
        refine o_iload hC dX2_fillScan_16 (by rfl) ?_
        refine o_ialdN (t0 := 0) hC rfl dX2_fillScan_18 (by repeat (first | with_reducible assumption | (rw [rl_u_s]; done) | (rw [rl_u_s]; rfl) | rw [rl_u_n (by first | with_reducible assumption | omega)] | rw [p2 _ (by omega)])) (by omega) (by decide) ?_
        refine o_aload_n hC dX2_fillScan_19 (by rfl) ?_
        refine o_getf hC (fX2_88 hC rfl) dX2_fillScan_20 (by repeat (first | with_reducible assumption | (rw [rl_u_s]; done) | (rw [rl_u_s]; rfl) | rw [rl_u_n (by first | with_reducible assumption | omega)] | rw [p2 _ (by omega)])) (by first | rfl | with_reducible assumption) ?_
        refine o_icmp_ne (tgt := 59) hC dX2_fillScan_23 (by decide) (fun c_23 => ?_) (fun c_23 => ?_)
        · refine o_iinc hC dX2_fillScan_59 (by rfl) (rl_inc _) (Nat.le_of_ble_eq_true rfl) ?_
          refine o_goto (tgt := 3) hC dX2_fillScan_62 (by decide) ?_
          unfold csc at he
          rw [List.range'_succ, List.filter_cons_of_neg (p := fun r => decide (sf r = f7)) (fun e => c_23 (of_decide_eq_true e))] at he
          exact ih (t + 1) _ _ tab1 (by omega) ho1 ht1 hk1 hf he
        · refine o_aload_n hC dX2_fillScan_26 (by rfl) ?_
          refine o_getf hC (fX2_21 hC rfl) dX2_fillScan_27 (by repeat (first | with_reducible assumption | (rw [rl_u_s]; done) | (rw [rl_u_s]; rfl) | rw [rl_u_n (by first | with_reducible assumption | omega)] | rw [p2 _ (by omega)])) (by first | rfl | with_reducible assumption) ?_
          refine o_lconst (v := 1) hC dX2_fillScan_30 (by decide +kernel) ?_
          refine o_iload hC dX2_fillScan_31 (by rfl) ?_
          refine o_lshl hC dX2_fillScan_33 ?_
          refine o_lconst (v := 0) hC dX2_fillScan_34 (by decide +kernel) ?_
          refine o_callV2 hC rl_BW_good rl_Ns_nw (by exact hB.2.2.2.2.2) YX6_becomeTerm IX6_becomeTerm VX6_becomeTerm (mX2_91 hC) (by rw [hB.1]; exact ct_X6_becomeTerm l D ids H0 _ _ (o + 4) _ _ _ _ _ om) (by exact om.1) rfl rfl (Nat.le_of_ble_eq_true rfl) (by rw [hB.2.1]; first | exact Nat.le_of_ble_eq_true rfl | (dsimp only; omega)) (by rw [hB.2.1]; first | exact Nat.le_of_ble_eq_true rfl | (dsimp only; omega)) (by rw [hB.2.1]; first | exact Nat.le_of_ble_eq_true rfl | (dsimp only; omega)) (by rw [hB.2.1]; first | exact Nat.le_of_ble_eq_true rfl | (dsimp only; omega)) dX2_fillScan_35 (fun v h_35 n_35 p_35 => ?_)
          obtain ⟨rfl, rfl, p1, p2⟩ := p_35
          have ho2 : op_sh ids h_35 o so gp1 := ho1.mk (ho1.2.1.eqv (fun q q1 q2 => p2 q (by omega))) ⟨_, _, _, p1⟩ (fun q q1 q2 q3 => p2 q (by omega))
          have ht2 := ht1.eqv (h' := h_35) (fun q q1 q2 => p2 q (by omega))
          have e2 : h_35 (so + 4 + t) = some (.inl (ids 0, 6, .inl (cf t))) := by rw [p2 _ (by omega)]; exact s5 t (by omega)
          have w3 : wat ids h_35 (o + 4) [(tbt t, (0 : Int64))] := by
            have := p1.wat
            have e9 : tls (vp_updL mf0 0 ((1 : Int64) <<< ((nI t).toInt64 &&& 63))) (vp_updL mg0 0 0) 1 = [(tbt t, (0 : Int64))] := by
              show [(vp_updL mf0 0 _ 0, vp_updL mg0 0 0 0)] = _
              rw [up_at, up_at]
            rw [e9] at this
            exact this
          have hsq : sf t = f7 := by first | exact c_23 | exact Classical.not_not.mp c_23
          unfold csc at he
          rw [List.range'_succ, List.filter_cons_of_pos (p := fun r => decide (sf r = f7)) (decide_eq_true hsq), List.map_cons] at he
          try dsimp only [Option.toList, List.cons_append, List.nil_append]
          refine o_aload_n hC dX2_fillScan_38 (by rfl) ?_
          refine o_aload_n hC dX2_fillScan_39 (by rfl) ?_
          refine o_aload_n hC dX2_fillScan_40 (by rfl) ?_
          refine o_getf hC (fX2_95 hC rfl) dX2_fillScan_41 (by repeat (first | with_reducible assumption | (rw [rl_u_s]; done) | (rw [rl_u_s]; rfl) | rw [rl_u_n (by first | with_reducible assumption | omega)] | rw [p2 _ (by omega)])) (by first | rfl | with_reducible assumption) ?_
          refine o_iload hC dX2_fillScan_44 (by rfl) ?_
          refine o_aaldA (t0 := 7) hC rfl dX2_fillScan_46 (by repeat (first | with_reducible assumption | (rw [rl_u_s]; done) | (rw [rl_u_s]; rfl) | rw [rl_u_n (by first | with_reducible assumption | omega)] | rw [p2 _ (by omega)])) (by omega) (by decide) ?_
          rw [if_pos (by omega)]
          show rl_G X _ _ _ (.ref _ :: _) _ _ _ _
          refine o_aload_n hC dX2_fillScan_47 (by rfl) ?_
          refine o_getf hC (fX2_21 hC rfl) dX2_fillScan_48 (by repeat (first | with_reducible assumption | (rw [rl_u_s]; done) | (rw [rl_u_s]; rfl) | rw [rl_u_n (by first | with_reducible assumption | omega)] | rw [p2 _ (by omega)])) (by first | rfl | with_reducible assumption) ?_
          refine o_callV3 hC rl_BW_good rl_Ns_nw (by exact hB.2.2.2.2.2) YX2_put IX2_put VX2_put (mX2_99 hC) (by rw [hB.1]; exact cp_X2_put l D ids H0 _ _ o so a (o + 4) (so + 4 + t) wd _ _ _ _ ho2 ht2 hk1 e2 w3 (wok_s _) (by omega) (by omega) (by omega) (by omega)) (by exact ho2.1) rfl rfl (Nat.le_of_ble_eq_true rfl) (by rw [hB.2.1]; first | exact Nat.le_of_ble_eq_true rfl | (dsimp only; omega)) (by rw [hB.2.1]; first | exact Nat.le_of_ble_eq_true rfl | (dsimp only; omega)) (by rw [hB.2.1]; first | exact Nat.le_of_ble_eq_true rfl | (dsimp only; omega)) (by rw [hB.2.1]; first | exact Nat.le_of_ble_eq_true rfl | (dsimp only; omega)) dX2_fillScan_51 (fun v h_51 n_51 p_51 => ?_)
          obtain ⟨x, rfl, rfl, q1, q3, q2⟩ := p_51
          try dsimp only [Option.toList, List.cons_append, List.nil_append]
          refine o_if_ne (tgt := 59) hC dX2_fillScan_54 (by decide) (fun c_54 => ?_) (fun c_54 => ?_)
          · refine o_iinc hC dX2_fillScan_59 (by rfl) (rl_inc _) (Nat.le_of_ble_eq_true rfl) ?_
            refine o_goto (tgt := 3) hC dX2_fillScan_62 (by decide) ?_
            rcases q2 with ⟨tab2, y1, y2, y3, y4⟩ | ⟨-, y2, -⟩
            rotate_left
            · exact absurd y2 c_54
            refine ih (t + 1) _ _ tab2 (by omega) q1 y3 y4 (hf.tr ((p2.wd (a' := o) (b' := o + 22) (by omega) (by omega)).g1.tr (q3.wd (by omega) (by omega) (Nat.le_refl _) (Nat.le_refl _)))) ?_
            rw [he]
            show (aput tab1 _ _).bind _ = _
            rw [y1]
            rfl
          · refine o_iconst (v := nI 0) hC dX2_fillScan_57 (by decide +kernel) ?_
            refine o_zret hC hB dX2_fillScan_58 (by first | rfl | decide +kernel) (Nat.le_of_ble_eq_true rfl) (Nat.le_of_ble_eq_true rfl) ?_
            rcases q2 with ⟨tab2, y1, y2, -, -⟩ | ⟨y1, y2, y3⟩
            · exact absurd (c_54.symm.trans y2) (by decide +kernel)
            · refine ⟨_, rfl, rfl, ⟨_, q1⟩, hf.tr ((p2.wd (a' := o) (b' := o + 22) (by omega) (by omega)).g1.tr (q3.wd (by omega) (by omega) (Nat.le_refl _) (Nat.le_refl _))), Or.inr ⟨?_, rfl, y3⟩⟩
              rw [he]
              show (aput tab1 _ _).bind _ = _
              rw [y1]
              rfl
  show rl_G X (rl_e D ids H0) 0 [some (.ref o), some (.ref nd), some (.ref so), some (.ref a), none] [] h n 0 0
  refine o_iconst (v := nI 0) hC dX2_fillScan_0 (by decide +kernel) ?_
  refine o_istore hC dX2_fillScan_1 (Nat.le_of_ble_eq_true rfl) ?_
  exact loop rc 0 h gp tab (by omega) ho ht hok rl_g2.rf rfl
end
section
/-! THE CLASS, functionally: JOIN, MINUS -/
theorem getD_rcl {f : Nat → Int32} {w : Nat} {l : List Int32} (h : rcl f w = l) {i : Nat} (hi : i < w) : f i = l.getD i 0 := by
  rw [← h, rsg_get hi]
theorem join_key {f g k0 : Nat → Int32} {w1 w2 : Nat} {A B : List Int32} (h1 : rcl f w1 = A) (h2 : rcl g w2 = B) : rcl (va_cpy g (va_cpy f k0 0 0 w1) 0 w1 w2) (w1 + w2) = A ++ B := by
  have l1 : A.length = w1 := by rw [← h1, rsg_len]
  have l2 : B.length = w2 := by rw [← h2, rsg_len]
  have := rcl_app (f := va_cpy g (va_cpy f k0 0 0 w1) 0 w1 w2) (X := A) (Y := B) (fun i hi => ?_) (fun i hi => ?_)
  · rw [l1, l2] at this
    exact this
  · unfold va_cpy
    rw [if_neg (by omega), if_pos (by omega), Nat.zero_add, Nat.sub_zero]
    exact getD_rcl h1 (by omega)
  · unfold va_cpy
    rw [if_pos (by omega), show 0 + (A.length + i - w1) = i by omega]
    exact getD_rcl h2 (by omega)
/-- the WAYS that a table has for a key -/
def afd (td : List arow) (key : List Int32) : Option (List tT) := if 0 < afb td key ∧ lcm2 (ark td (afb td key - 1)).1 key = 0 then some (ark td (afb td key - 1)).2 else none
/-- what MINUS makes of a TUPLE's WAYS -/
def mno (U : List tT) : Option (List tT) → Option (List tT)
  | none => some U
  | some K => (wno K [(0, 0)]).bind (fun W => wst (tbo U W))

set_option maxHeartbeats 4000000 in
set_option maxRecDepth 100000 in
theorem cp_X2_putPair (l : Launch) (D : va_G) (ids : Nat → ClassId) (H0 : Heap) (h : rl_H) (n : Nat) (o so a a1 wd wd1 : Nat) (gp : Nat → Option Nat) (tab tb : List arow) (a2 wd2 t u : Nat) (td : List arow) (ho : op_sh ids h o so gp) (ht : ctb ids h a wd tab) (hok : aok wd tab) (hi : ctb ids h a1 wd1 tb) (hbk : aok wd1 tb) (hoa : o + 22 ≤ a ∨ a + 402 ≤ o) (hoi : o + 22 ≤ a1 ∨ a1 + 402 ≤ o) (hia : a1 + 402 ≤ a ∨ a + 402 ≤ a1) (hj : ctb ids h a2 wd2 td) (hdk : aok wd2 td) (hoj : o + 22 ≤ a2 ∨ a2 + 402 ≤ o) (hja : a2 + 402 ≤ a ∨ a + 402 ≤ a2) (ht1 : t < tb.length) (hu1 : u < td.length) (hwd : wd = wd1 + wd2) (hwd6 : wd1 + wd2 ≤ 6) : rl_Met l (rl_e D ids H0) rl_BW rl_Ns yX2_putPair cX2_putPair 6 (some .boolean) ({ frames := 4, cells := 0, slots := 0, locals := 149 }) [.ref o, .ref a1, .int (nI t), .ref a2, .int (nI u), .ref a] h n (fun v h' n' => ∃ x : Int32, v = some (.int x) ∧ n' = n ∧ (∃ gp' : Nat → Option Nat, op_sh ids h' o so gp') ∧ rl_g2 h h' o (o + 22) a (a + 402) ∧ pres ids h' a wd ((wst (tbo (ark tb t).2 (ark td u).2)).bind (aput tab ((ark tb t).1 ++ (ark td u).1))) x) := by
  obtain ⟨P1, S1, hi0, hP1, hrow1⟩ := id hi
  have tl80 := hbk.2.2
  obtain ⟨P2, S2, hj0, hP2, hrow2⟩ := id hj
  have tl81 := hdk.2.2
  obtain ⟨o0, ⟨ds, od⟩, ⟨mf0, mg0, mk0, om⟩, ⟨tp, o7, o7b⟩, o8, ⟨kc, o9⟩, ot⟩ := id ho
  obtain ⟨t1, ⟨tf, t2, t3⟩, t4, t5, t6, t7⟩ := id hi0
  obtain ⟨j1, ⟨jf, j2, j3⟩, j4, j5, j6, j7⟩ := id hj0
  have hb := t4 t (by omega)
  have hb2 := j4 u (by omega)
  obtain ⟨e1, e2, e3⟩ := t5 (P1 t) hb
  obtain ⟨g1, g2, g3⟩ := j5 (P2 u) hb2
  have er := hrow1 t ht1
  have es := hrow2 u hu1
  refine rl_Met.of (by decide +kernel) (Nat.le_of_ble_eq_true rfl) ?_
  intro X hC hB
  show rl_G X (rl_e D ids H0) 0 [some (.ref o), some (.ref a1), some (.int (nI t)), some (.ref a2), some (.int (nI u)), some (.ref a)] [] h n 0 0
  refine o_aload_n hC dX2_putPair_0 (by rfl) ?_
  refine o_getf hC (fX2_106 hC rfl) dX2_putPair_1 (by repeat (first | with_reducible assumption | (rw [rl_u_s]; done) | (rw [rl_u_s]; rfl) | rw [rl_u_n (by first | with_reducible assumption | omega)])) (by first | rfl | with_reducible assumption) ?_
  refine o_iload_n hC dX2_putPair_4 (by rfl) ?_
  refine o_aaldN (t0 := 3) hC rfl dX2_putPair_5 (by repeat (first | with_reducible assumption | (rw [rl_u_s]; done) | (rw [rl_u_s]; rfl) | rw [rl_u_n (by first | with_reducible assumption | omega)])) (by omega) (by decide) ?_
  rw [t3 _ (by omega)]
  show rl_G X _ _ _ (.ref _ :: _) _ _ _ _
  refine o_getf hC (fX2_109 hC rfl) dX2_putPair_6 (by repeat (first | with_reducible assumption | (rw [rl_u_s]; done) | (rw [rl_u_s]; rfl) | rw [rl_u_n (by first | with_reducible assumption | omega)])) (by first | rfl | with_reducible assumption) ?_
  refine o_iconst (v := nI 0) hC dX2_putPair_9 (by decide +kernel) ?_
  refine o_aload_n hC dX2_putPair_10 (by rfl) ?_
  refine o_getf hC (fX2_35 hC rfl) dX2_putPair_11 (by repeat (first | with_reducible assumption | (rw [rl_u_s]; done) | (rw [rl_u_s]; rfl) | rw [rl_u_n (by first | with_reducible assumption | omega)])) (by first | rfl | with_reducible assumption) ?_
  refine o_iconst (v := nI 0) hC dX2_putPair_14 (by decide +kernel) ?_
  refine o_aload_n hC dX2_putPair_15 (by rfl) ?_
  refine o_getf hC (fX2_132 hC rfl) dX2_putPair_16 (by repeat (first | with_reducible assumption | (rw [rl_u_s]; done) | (rw [rl_u_s]; rfl) | rw [rl_u_n (by first | with_reducible assumption | omega)])) (by first | rfl | with_reducible assumption) ?_
  refine o_copyi (t0 := 0) (sp := 0) (dp := 0) (k := wd1) hC (by exact hB.2.2.2.2.2) acX2_133 w_acN w_acS w_acI rfl rfl dX2_putPair_19 e2 o9 (by omega) (by omega) (by decide) (by decide) (by rw [hB.2.1]; first | exact Nat.le_of_ble_eq_true rfl | (dsimp only; omega)) (by rw [hB.2.1]; first | exact Nat.le_of_ble_eq_true rfl | (dsimp only; omega)) ?_
  refine o_aload_n hC dX2_putPair_22 (by rfl) ?_
  refine o_getf hC (fX2_106 hC rfl) dX2_putPair_23 (by repeat (first | with_reducible assumption | (rw [rl_u_s]; done) | (rw [rl_u_s]; rfl) | rw [rl_u_n (by first | with_reducible assumption | omega)])) (by first | rfl | with_reducible assumption) ?_
  refine o_iload hC dX2_putPair_26 (by rfl) ?_
  refine o_aaldN (t0 := 3) hC rfl dX2_putPair_28 (by repeat (first | with_reducible assumption | (rw [rl_u_s]; done) | (rw [rl_u_s]; rfl) | rw [rl_u_n (by first | with_reducible assumption | omega)])) (by omega) (by decide) ?_
  rw [j3 _ (by omega)]
  show rl_G X _ _ _ (.ref _ :: _) _ _ _ _
  refine o_getf hC (fX2_109 hC rfl) dX2_putPair_29 (by repeat (first | with_reducible assumption | (rw [rl_u_s]; done) | (rw [rl_u_s]; rfl) | rw [rl_u_n (by first | with_reducible assumption | omega)])) (by first | rfl | with_reducible assumption) ?_
  refine o_iconst (v := nI 0) hC dX2_putPair_32 (by decide +kernel) ?_
  refine o_aload_n hC dX2_putPair_33 (by rfl) ?_
  refine o_getf hC (fX2_35 hC rfl) dX2_putPair_34 (by repeat (first | with_reducible assumption | (rw [rl_u_s]; done) | (rw [rl_u_s]; rfl) | rw [rl_u_n (by first | with_reducible assumption | omega)])) (by first | rfl | with_reducible assumption) ?_
  refine o_aload_n hC dX2_putPair_37 (by rfl) ?_
  refine o_getf hC (fX2_132 hC rfl) dX2_putPair_38 (by repeat (first | with_reducible assumption | (rw [rl_u_s]; done) | (rw [rl_u_s]; rfl) | rw [rl_u_n (by first | with_reducible assumption | omega)])) (by first | rfl | with_reducible assumption) ?_
  refine o_aload_n hC dX2_putPair_41 (by rfl) ?_
  refine o_getf hC (fX2_132 hC rfl) dX2_putPair_42 (by repeat (first | with_reducible assumption | (rw [rl_u_s]; done) | (rw [rl_u_s]; rfl) | rw [rl_u_n (by first | with_reducible assumption | omega)])) (by first | rfl | with_reducible assumption) ?_
  refine o_copyi (t0 := 0) (sp := 0) (dp := wd1) (k := wd2) hC (by exact hB.2.2.2.2.2) acX2_133 w_acN w_acS w_acI rfl rfl dX2_putPair_45 (by repeat (first | with_reducible assumption | (rw [rl_u_s]; done) | (rw [rl_u_s]; rfl) | rw [rl_u_n (by first | with_reducible assumption | omega)])) rl_u_s (by omega) (by omega) (by decide) (by decide) (by rw [hB.2.1]; first | exact Nat.le_of_ble_eq_true rfl | (dsimp only; omega)) (by rw [hB.2.1]; first | exact Nat.le_of_ble_eq_true rfl | (dsimp only; omega)) ?_
  have f9 : ∀ q, q ≠ o + 9 → (rl_u (rl_u h (o + 9) (.inl (ids 0, 6, .inl (va_cpy (S1.1 (P1 t)) kc 0 0 wd1)))) (o + 9) (.inl (ids 0, 6, .inl (va_cpy (S2.1 (P2 u)) (va_cpy (S1.1 (P1 t)) kc 0 0 wd1) 0 wd1 wd2)))) q = h q := fun q hq => by rw [rl_u_n hq, rl_u_n hq]
  have k9 : (rl_u (rl_u h (o + 9) (.inl (ids 0, 6, .inl (va_cpy (S1.1 (P1 t)) kc 0 0 wd1)))) (o + 9) (.inl (ids 0, 6, .inl (va_cpy (S2.1 (P2 u)) (va_cpy (S1.1 (P1 t)) kc 0 0 wd1) 0 wd1 wd2)))) (o + 9) = some (.inl (ids 0, 6, .inl (va_cpy (S2.1 (P2 u)) (va_cpy (S1.1 (P1 t)) kc 0 0 wd1) 0 wd1 wd2))) := rl_u_s
  generalize (rl_u (rl_u h (o + 9) (.inl (ids 0, 6, .inl (va_cpy (S1.1 (P1 t)) kc 0 0 wd1)))) (o + 9) (.inl (ids 0, 6, .inl (va_cpy (S2.1 (P2 u)) (va_cpy (S1.1 (P1 t)) kc 0 0 wd1) 0 wd1 wd2)))) = hh at f9 k9 ⊢
  have ho2 : op_sh ids hh o so gp := ho.ky k9 (fun q q1 q2 q3 => f9 q q3)
  obtain ⟨z0, ⟨zs, zd⟩, ⟨zf, zg, zk, zm⟩, -, -, -, -⟩ := id ho2
  have ht2 := ht.eqv (h' := hh) (fun q q1 q2 => f9 q (by omega))
  obtain ⟨b1, ⟨bf, b2, b3⟩, b4, b5, -⟩ := hi0.eqv (h' := hh) (fun q q1 q2 => f9 q (by omega))
  obtain ⟨d1, ⟨df, d2, d3⟩, d4, d5, -⟩ := hj0.eqv (h' := hh) (fun q q1 q2 => f9 q (by omega))
  obtain ⟨x1, x2, x3⟩ := b5 (P1 t) hb
  obtain ⟨y1, y2, y3⟩ := d5 (P2 u) hb2
  refine o_aload_n hC dX2_putPair_48 (by rfl) ?_
  refine o_getf hC (fX2_12 hC rfl) dX2_putPair_49 (by repeat (first | with_reducible assumption | (rw [rl_u_s]; done) | (rw [rl_u_s]; rfl) | rw [rl_u_n (by first | with_reducible assumption | omega)])) (by first | rfl | with_reducible assumption) ?_
  refine o_aload_n hC dX2_putPair_52 (by rfl) ?_
  refine o_getf hC (fX2_106 hC rfl) dX2_putPair_53 (by repeat (first | with_reducible assumption | (rw [rl_u_s]; done) | (rw [rl_u_s]; rfl) | rw [rl_u_n (by first | with_reducible assumption | omega)])) (by first | rfl | with_reducible assumption) ?_
  refine o_iload_n hC dX2_putPair_56 (by rfl) ?_
  refine o_aaldN (t0 := 3) hC rfl dX2_putPair_57 (by repeat (first | with_reducible assumption | (rw [rl_u_s]; done) | (rw [rl_u_s]; rfl) | rw [rl_u_n (by first | with_reducible assumption | omega)])) (by omega) (by decide) ?_
  rw [b3 _ (by omega)]
  show rl_G X _ _ _ (.ref _ :: _) _ _ _ _
  refine o_getf hC (fX2_116 hC rfl) dX2_putPair_58 (by repeat (first | with_reducible assumption | (rw [rl_u_s]; done) | (rw [rl_u_s]; rfl) | rw [rl_u_n (by first | with_reducible assumption | omega)])) (by first | rfl | with_reducible assumption) ?_
  refine o_aload_n hC dX2_putPair_61 (by rfl) ?_
  refine o_getf hC (fX2_106 hC rfl) dX2_putPair_62 (by repeat (first | with_reducible assumption | (rw [rl_u_s]; done) | (rw [rl_u_s]; rfl) | rw [rl_u_n (by first | with_reducible assumption | omega)])) (by first | rfl | with_reducible assumption) ?_
  refine o_iload hC dX2_putPair_65 (by rfl) ?_
  refine o_aaldN (t0 := 3) hC rfl dX2_putPair_67 (by repeat (first | with_reducible assumption | (rw [rl_u_s]; done) | (rw [rl_u_s]; rfl) | rw [rl_u_n (by first | with_reducible assumption | omega)])) (by omega) (by decide) ?_
  rw [d3 _ (by omega)]
  show rl_G X _ _ _ (.ref _ :: _) _ _ _ _
  refine o_getf hC (fX2_116 hC rfl) dX2_putPair_68 (by repeat (first | with_reducible assumption | (rw [rl_u_s]; done) | (rw [rl_u_s]; rfl) | rw [rl_u_n (by first | with_reducible assumption | omega)])) (by first | rfl | with_reducible assumption) ?_
  refine o_aload_n hC dX2_putPair_71 (by rfl) ?_
  refine o_getf hC (fX2_21 hC rfl) dX2_putPair_72 (by repeat (first | with_reducible assumption | (rw [rl_u_s]; done) | (rw [rl_u_s]; rfl) | rw [rl_u_n (by first | with_reducible assumption | omega)])) (by first | rfl | with_reducible assumption) ?_
  refine o_callV3 hC rl_BW_good rl_Ns_nw (by exact hB.2.2.2.2.2) YX0_both IX0_both VX0_both (mX2_139 hC) (by rw [hB.1]; exact ct_X0_both l D ids H0 _ _ (o + 1) (a1 + 2 + 5 * P1 t + 2) (a2 + 2 + 5 * P2 u + 2) (o + 4) _ _ _ _ _ _ _ _ _ _ zd x3 y3 zm (by omega) (by omega) (by omega)) (by exact zd.1) rfl rfl (Nat.le_of_ble_eq_true rfl) (by rw [hB.2.1]; first | exact Nat.le_of_ble_eq_true rfl | (dsimp only; omega)) (by rw [hB.2.1]; first | exact Nat.le_of_ble_eq_true rfl | (dsimp only; omega)) (by rw [hB.2.1]; first | exact Nat.le_of_ble_eq_true rfl | (dsimp only; omega)) (by rw [hB.2.1]; first | exact Nat.le_of_ble_eq_true rfl | (dsimp only; omega)) dX2_putPair_75 (fun v h_75 n_75 p_75 => ?_)
  obtain ⟨x0, rfl, rfl, s1⟩ := p_75
  have s2 := s1.f2
  have w0 := bo_out (show tls (S1.2.1 (P1 t)) (S1.2.2.1 (P1 t)) (S1.2.2.2 (P1 t)) = (ark tb t).2 from congrArg Prod.snd er) (show tls (S2.2.1 (P2 u)) (S2.2.2.1 (P2 u)) (S2.2.2.2 (P2 u)) = (ark td u).2 from congrArg Prod.snd es) x3.2.2.2 y3.2.2.2 s1
  have ho3 : op_sh ids h_75 o so gp := ho2.mk ⟨_, s1.1⟩ (s1.ws zm (by omega)) (fun q q1 q2 q3 => s2 q (by omega) (by omega))
  have ht3 := ht2.eqv (h' := h_75) (fun q q1 q2 => s2 q (by omega) (by omega))
  have o3 := ho3.1
  have k3 := (s2 (o + 9) (by omega) (by omega)).trans k9
  try dsimp only [Option.toList, List.cons_append, List.nil_append]
  refine o_if_eq (tgt := 102) hC dX2_putPair_78 (by decide) (fun c_78 => ?_) (fun c_78 => ?_)
  · refine o_iconst (v := nI 0) hC dX2_putPair_102 (by decide +kernel) ?_
    refine o_zret hC hB dX2_putPair_103 (by first | rfl | decide +kernel) (Nat.le_of_ble_eq_true rfl) (Nat.le_of_ble_eq_true rfl) ?_
    rcases w0 with ⟨L3, z1, z2, -⟩ | ⟨z1, z2⟩
    · exact absurd (c_78.symm.trans z2) (by decide +kernel)
    · exact ⟨_, rfl, rfl, ⟨_, ho3⟩, fun q z1 z2 => (s2 q (by omega) (by omega)).trans (f9 q (by omega)), Or.inr ⟨by rw [z1]; rfl, rfl, ht3.ti⟩⟩
  · rcases w0 with ⟨L3, z1, z2, z3⟩ | ⟨-, z2⟩
    rotate_left
    · exact absurd z2 c_78
    refine o_aload_n hC dX2_putPair_81 (by rfl) ?_
    refine o_aload hC dX2_putPair_82 (by rfl) ?_
    refine o_aload_n hC dX2_putPair_84 (by rfl) ?_
    refine o_getf hC (fX2_35 hC rfl) dX2_putPair_85 (by repeat (first | with_reducible assumption | (rw [rl_u_s]; done) | (rw [rl_u_s]; rfl) | rw [rl_u_n (by first | with_reducible assumption | omega)])) (by first | rfl | with_reducible assumption) ?_
    refine o_aload_n hC dX2_putPair_88 (by rfl) ?_
    refine o_getf hC (fX2_21 hC rfl) dX2_putPair_89 (by repeat (first | with_reducible assumption | (rw [rl_u_s]; done) | (rw [rl_u_s]; rfl) | rw [rl_u_n (by first | with_reducible assumption | omega)])) (by first | rfl | with_reducible assumption) ?_
    refine o_callV3 hC rl_BW_good rl_Ns_nw (by exact hB.2.2.2.2.2) YX2_put IX2_put VX2_put (mX2_99 hC) (by rw [hB.1]; exact cp_X2_put l D ids H0 _ _ o so a (o + 4) (o + 9) wd _ _ _ _ ho3 ht3 hok k3 z3 (wst_ok z1) (by omega) (by omega) (by omega) (by omega)) (by exact ho3.1) rfl rfl (Nat.le_of_ble_eq_true rfl) (by rw [hB.2.1]; first | exact Nat.le_of_ble_eq_true rfl | (dsimp only; omega)) (by rw [hB.2.1]; first | exact Nat.le_of_ble_eq_true rfl | (dsimp only; omega)) (by rw [hB.2.1]; first | exact Nat.le_of_ble_eq_true rfl | (dsimp only; omega)) (by rw [hB.2.1]; first | exact Nat.le_of_ble_eq_true rfl | (dsimp only; omega)) dX2_putPair_92 (fun v h_92 n_92 p_92 => ?_)
    obtain ⟨x, rfl, rfl, q1, q3, q2⟩ := p_92
    rw [hwd, join_key (show rcl (S1.1 (P1 t)) wd1 = (ark tb t).1 from congrArg Prod.fst er) (show rcl (S2.1 (P2 u)) wd2 = (ark td u).1 from congrArg Prod.fst es), ← hwd] at q2
    try dsimp only [Option.toList, List.cons_append, List.nil_append]
    refine o_if_eq (tgt := 102) hC dX2_putPair_95 (by decide) (fun c_95 => ?_) (fun c_95 => ?_)
    · refine o_iconst (v := nI 0) hC dX2_putPair_102 (by decide +kernel) ?_
      refine o_zret hC hB dX2_putPair_103 (by first | rfl | decide +kernel) (Nat.le_of_ble_eq_true rfl) (Nat.le_of_ble_eq_true rfl) ?_
      rcases q2 with ⟨tab2, v1, v2, -, -⟩ | ⟨v1, v2, v3⟩
      · exact absurd (c_95.symm.trans v2) (by decide +kernel)
      · exact ⟨_, rfl, rfl, ⟨_, q1⟩, fun q z1 z2 => (q3 q (by omega) (by omega)).trans ((s2 q (by omega) (by omega)).trans (f9 q (by omega))), Or.inr ⟨by rw [z1]; exact v1, rfl, v3⟩⟩
    · refine o_iconst (v := nI 1) hC dX2_putPair_98 (by decide +kernel) ?_
      refine o_goto (tgt := 103) hC dX2_putPair_99 (by decide) ?_
      refine o_zret hC hB dX2_putPair_103 (by first | rfl | decide +kernel) (Nat.le_of_ble_eq_true rfl) (Nat.le_of_ble_eq_true rfl) ?_
      rcases q2 with ⟨tab2, v1, v2, v3, v4⟩ | ⟨-, v2, -⟩
      · exact ⟨_, rfl, rfl, ⟨_, q1⟩, fun q z1 z2 => (q3 q (by omega) (by omega)).trans ((s2 q (by omega) (by omega)).trans (f9 q (by omega))), Or.inl ⟨tab2, by rw [z1]; exact v1, rfl, v3, v4⟩⟩
      · exact absurd v2 c_95

set_option maxHeartbeats 4000000 in
set_option maxRecDepth 100000 in
theorem cp_X2_fillJoin (l : Launch) (D : va_G) (ids : Nat → ClassId) (H0 : Heap) (h : rl_H) (n : Nat) (o so a a1 wd wd1 : Nat) (gp : Nat → Option Nat) (tab tb : List arow) (a2 wd2 nd c4 c5 : Nat) (td : List arow) (f0 f1 f2 f3 f6 f7 f8 : Int32) (ho : op_sh ids h o so gp) (ht : ctb ids h a wd tab) (hok : aok wd tab) (hi : ctb ids h a1 wd1 tb) (hbk : aok wd1 tb) (hoa : o + 22 ≤ a ∨ a + 402 ≤ o) (hoi : o + 22 ≤ a1 ∨ a1 + 402 ≤ o) (hia : a1 + 402 ≤ a ∨ a + 402 ≤ a1) (hj : ctb ids h a2 wd2 td) (hdk : aok wd2 td) (hoj : o + 22 ≤ a2 ∨ a2 + 402 ≤ o) (hja : a2 + 402 ≤ a ∨ a + 402 ≤ a2) (hnd : h nd = some (.inr (1, [.int f0, .int f1, .int f2, .int f3, .int (nI c4), .int (nI c5), .int f6, .int f7, .int f8]))) (h4 : c4 < wd1) (h5 : c5 < wd2) (hno : nd < o ∨ o + 22 ≤ nd) (hna : nd < a ∨ a + 402 ≤ nd) (hwd : wd = wd1 + wd2) (hwd6 : wd1 + wd2 ≤ 6) : rl_Met l (rl_e D ids H0) rl_BW rl_Ns yX2_fillJoin cX2_fillJoin 8 (some .boolean) ({ frames := 5, cells := 0, slots := 0, locals := 174 }) [.ref o, .ref nd, .ref a1, .ref a2, .ref a] h n (fun v h' n' => ∃ x : Int32, v = some (.int x) ∧ n' = n ∧ (∃ gp' : Nat → Option Nat, op_sh ids h' o so gp') ∧ rl_g2 h h' o (o + 22) a (a + 402) ∧ pres ids h' a wd (aall tab (jll c4 c5 tb td)) x) := by
  obtain ⟨P1, S1, hi0, hP1, hrow1⟩ := id hi
  have tl80 := hbk.2.2
  obtain ⟨P2, S2, hj0, hP2, hrow2⟩ := id hj
  have tl81 := hdk.2.2
  refine rl_Met.of (by decide +kernel) (Nat.le_of_ble_eq_true rfl) ?_
  intro X hC hB
  have loop : ∀ (m t : Nat) (o6 o7 : Option Value) (h1 : rl_H) (gp1 : Nat → Option Nat) (tab1 : List arow), t + m = tb.length → op_sh ids h1 o so gp1 → ctb ids h1 a wd tab1 → aok wd tab1 → rl_g2 h h1 o (o + 22) a (a + 402) → aall tab (jll c4 c5 tb td) = aall tab1 (jll c4 c5 (tb.drop t) td) → rl_G X (rl_e D ids H0) 3 [some (.ref o), some (.ref nd), some (.ref a1), some (.ref a2), some (.ref a), some (.int (nI t)), o6, o7] [] h1 n 0 0 := by
    intro m
    induction m with
    | zero =>
      intro t o6 o7 h1 gp1 tab1 hm ho1 ht1 hk1 hf he
      obtain ⟨t1, ⟨tf, t2, t3⟩, t4, t5, t6, t7⟩ := hi0.eqv (h' := h1) (fun q q1 q2 => hf q (by omega) (by omega))
      refine o_iload hC dX2_fillJoin_3 (by rfl) ?_
      refine o_aload_n hC dX2_fillJoin_5 (by rfl) ?_
      refine o_getf hC (fX2_103 hC rfl) dX2_fillJoin_6 (by repeat (first | with_reducible assumption | (rw [rl_u_s]; done) | (rw [rl_u_s]; rfl) | rw [rl_u_n (by first | with_reducible assumption | omega)])) (by first | rfl | with_reducible assumption) ?_
      refine o_icmp_ge (tgt := 98) hC dX2_fillJoin_9 (by decide) (fun c_9 => ?_) (fun c_9 => ?_)
      · refine o_iconst (v := nI 1) hC dX2_fillJoin_98 (by decide +kernel) ?_
        refine o_zret hC hB dX2_fillJoin_99 (by first | rfl | decide +kernel) (Nat.le_of_ble_eq_true rfl) (Nat.le_of_ble_eq_true rfl) ?_
        exact ⟨_, rfl, rfl, ⟨_, ho1⟩, hf, Or.inl ⟨tab1, by rw [he, List.drop_eq_nil_of_le (by omega)]; rfl, rfl, ht1, hk1⟩⟩
      · exact absurd (nI_le (by omega) (by omega)) c_9
    | succ m ih =>
      intro t o6 o7 h9 gp9 tab9 hm ho9 ht9 hk9 hf9 he9
      have htl : t < tb.length := by omega
      rw [ark_dropp htl] at he9
      replace he9 : aall tab (jll c4 c5 tb td) = aall tab9 (jlr c4 c5 (ark tb t) td ++ jll c4 c5 (tb.drop (t + 1)) td) := he9
      have loop2 : ∀ (m2 u : Nat) (o7 : Option Value) (h1 : rl_H) (gp1 : Nat → Option Nat) (tab1 : List arow), u + m2 = td.length → op_sh ids h1 o so gp1 → ctb ids h1 a wd tab1 → aok wd tab1 → rl_g2 h h1 o (o + 22) a (a + 402) → aall tab (jll c4 c5 tb td) = aall tab1 (jlr c4 c5 (ark tb t) (td.drop u) ++ jll c4 c5 (tb.drop (t + 1)) td) → rl_G X (rl_e D ids H0) 15 [some (.ref o), some (.ref nd), some (.ref a1), some (.ref a2), some (.ref a), some (.int (nI t)), some (.int (nI u)), o7] [] h1 n 0 0 := by
        intro m2
        induction m2 with
        | zero =>
          intro u o7 h1 gp1 tab1 hm2 ho1 ht1 hk1 hf he
          obtain ⟨j1, ⟨jf, j2, j3⟩, j4, j5, j6, j7⟩ := hj0.eqv (h' := h1) (fun q q1 q2 => hf q (by omega) (by omega))
          refine o_iload hC dX2_fillJoin_15 (by rfl) ?_
          refine o_aload_n hC dX2_fillJoin_17 (by rfl) ?_
          refine o_getf hC (fX2_103 hC rfl) dX2_fillJoin_18 (by repeat (first | with_reducible assumption | (rw [rl_u_s]; done) | (rw [rl_u_s]; rfl) | rw [rl_u_n (by first | with_reducible assumption | omega)])) (by first | rfl | with_reducible assumption) ?_
          refine o_icmp_ge (tgt := 92) hC dX2_fillJoin_21 (by decide) (fun c_21 => ?_) (fun c_21 => ?_)
          · refine o_iinc hC dX2_fillJoin_92 (by rfl) (rl_inc _) (Nat.le_of_ble_eq_true rfl) ?_
            refine o_goto (tgt := 3) hC dX2_fillJoin_95 (by decide) ?_
            exact ih (t + 1) _ _ _ _ tab1 (by omega) ho1 ht1 hk1 hf (by rw [he, List.drop_eq_nil_of_le (by omega)]; rfl)
          · exact absurd (nI_le (by omega) (by omega)) c_21
        | succ m2 ih2 =>
          intro u o7 h1 gp1 tab1 hm2 ho1 ht1 hk1 hf he
          obtain ⟨t1, ⟨tf, t2, t3⟩, t4, t5, t6, t7⟩ := hi0.eqv (h' := h1) (fun q q1 q2 => hf q (by omega) (by omega))
          obtain ⟨j1, ⟨jf, j2, j3⟩, j4, j5, j6, j7⟩ := hj0.eqv (h' := h1) (fun q q1 q2 => hf q (by omega) (by omega))
          have n1 := (hf nd (by omega) (by omega)).trans hnd
          have hul : u < td.length := by omega
          have hb := t4 t (by omega)
          have hb2 := j4 u (by omega)
          obtain ⟨e1, e2, e3⟩ := t5 (P1 t) hb
          obtain ⟨g1, g2, g3⟩ := j5 (P2 u) hb2
          rw [ark_dropp hul] at he
          have ea : acg (ark tb t) c4 = S1.1 (P1 t) c4 := by
            show (ark tb t).1.getD c4 0 = _
            rw [← hrow1 t htl, rsg_get h4]
          have eb : acg (ark td u) c5 = S2.1 (P2 u) c5 := by
            show (ark td u).1.getD c5 0 = _
            rw [← hrow2 u hul, rsg_get h5]
          refine o_iload hC dX2_fillJoin_15 (by rfl) ?_
          refine o_aload_n hC dX2_fillJoin_17 (by rfl) ?_
          refine o_getf hC (fX2_103 hC rfl) dX2_fillJoin_18 (by repeat (first | with_reducible assumption | (rw [rl_u_s]; done) | (rw [rl_u_s]; rfl) | rw [rl_u_n (by first | with_reducible assumption | omega)])) (by first | rfl | with_reducible assumption) ?_
          refine o_icmp_ge (tgt := 92) hC dX2_fillJoin_21 (by decide) (fun c_21 => ?_) (fun c_21 => ?_)
          · exact absurd c_21 (nI_ge (by omega) (by omega))
          · refine o_aload_n hC dX2_fillJoin_24 (by rfl) ?_
            refine o_getf hC (fX2_106 hC rfl) dX2_fillJoin_25 (by repeat (first | with_reducible assumption | (rw [rl_u_s]; done) | (rw [rl_u_s]; rfl) | rw [rl_u_n (by first | with_reducible assumption | omega)])) (by first | rfl | with_reducible assumption) ?_
            refine o_iload hC dX2_fillJoin_28 (by rfl) ?_
            refine o_aaldN (t0 := 3) hC rfl dX2_fillJoin_30 (by repeat (first | with_reducible assumption | (rw [rl_u_s]; done) | (rw [rl_u_s]; rfl) | rw [rl_u_n (by first | with_reducible assumption | omega)])) (by omega) (by decide) ?_
            rw [t3 _ (by omega)]
            show rl_G X _ _ _ (.ref _ :: _) _ _ _ _
            refine o_getf hC (fX2_109 hC rfl) dX2_fillJoin_31 (by repeat (first | with_reducible assumption | (rw [rl_u_s]; done) | (rw [rl_u_s]; rfl) | rw [rl_u_n (by first | with_reducible assumption | omega)])) (by first | rfl | with_reducible assumption) ?_
            refine o_aload_n hC dX2_fillJoin_34 (by rfl) ?_
            refine o_getf hC (fX2_119 hC rfl) dX2_fillJoin_35 (by repeat (first | with_reducible assumption | (rw [rl_u_s]; done) | (rw [rl_u_s]; rfl) | rw [rl_u_n (by first | with_reducible assumption | omega)])) (by first | rfl | with_reducible assumption) ?_
            refine o_ialdN (t0 := 0) (k := c4) hC rfl dX2_fillJoin_38 e2 (by omega) (by decide) ?_
            refine o_aload_n hC dX2_fillJoin_39 (by rfl) ?_
            refine o_getf hC (fX2_106 hC rfl) dX2_fillJoin_40 (by repeat (first | with_reducible assumption | (rw [rl_u_s]; done) | (rw [rl_u_s]; rfl) | rw [rl_u_n (by first | with_reducible assumption | omega)])) (by first | rfl | with_reducible assumption) ?_
            refine o_iload hC dX2_fillJoin_43 (by rfl) ?_
            refine o_aaldN (t0 := 3) hC rfl dX2_fillJoin_45 (by repeat (first | with_reducible assumption | (rw [rl_u_s]; done) | (rw [rl_u_s]; rfl) | rw [rl_u_n (by first | with_reducible assumption | omega)])) (by omega) (by decide) ?_
            rw [j3 _ (by omega)]
            show rl_G X _ _ _ (.ref _ :: _) _ _ _ _
            refine o_getf hC (fX2_109 hC rfl) dX2_fillJoin_46 (by repeat (first | with_reducible assumption | (rw [rl_u_s]; done) | (rw [rl_u_s]; rfl) | rw [rl_u_n (by first | with_reducible assumption | omega)])) (by first | rfl | with_reducible assumption) ?_
            refine o_aload_n hC dX2_fillJoin_49 (by rfl) ?_
            refine o_getf hC (fX2_122 hC rfl) dX2_fillJoin_50 (by repeat (first | with_reducible assumption | (rw [rl_u_s]; done) | (rw [rl_u_s]; rfl) | rw [rl_u_n (by first | with_reducible assumption | omega)])) (by first | rfl | with_reducible assumption) ?_
            refine o_ialdN (t0 := 0) (k := c5) hC rfl dX2_fillJoin_53 g2 (by omega) (by decide) ?_
            refine o_icmp_ne (tgt := 61) hC dX2_fillJoin_54 (by decide) (fun c_54 => ?_) (fun c_54 => ?_)
            · refine o_iconst (v := nI 0) hC dX2_fillJoin_61 (by decide +kernel) ?_
              refine o_istore hC dX2_fillJoin_62 (Nat.le_of_ble_eq_true rfl) ?_
              refine o_iload hC dX2_fillJoin_64 (by rfl) ?_
              refine o_if_eq (tgt := 86) hC dX2_fillJoin_66 (by decide) (fun _ => ?_) (fun q => absurd rfl q)
              refine o_iinc hC dX2_fillJoin_86 (by rfl) (rl_inc _) (Nat.le_of_ble_eq_true rfl) ?_
              refine o_goto (tgt := 15) hC dX2_fillJoin_89 (by decide) ?_
              unfold jlr at he
              rw [List.filter_cons_of_neg (p := fun s => decide (acg (ark tb t) c4 = acg s c5)) (fun e => c_54 (by rw [← ea, ← eb]; exact of_decide_eq_true e))] at he
              exact ih2 (u + 1) _ _ _ tab1 (by omega) ho1 ht1 hk1 hf he
            · refine o_iconst (v := nI 1) hC dX2_fillJoin_57 (by decide +kernel) ?_
              refine o_goto (tgt := 62) hC dX2_fillJoin_58 (by decide) ?_
              refine o_istore hC dX2_fillJoin_62 (Nat.le_of_ble_eq_true rfl) ?_
              have hmeet : acg (ark tb t) c4 = acg (ark td u) c5 := by
                rw [ea, eb]
                first | exact c_54 | exact Classical.not_not.mp c_54
              unfold jlr at he
              rw [List.filter_cons_of_pos (p := fun s => decide (acg (ark tb t) c4 = acg s c5)) (decide_eq_true hmeet), List.map_cons, List.cons_append] at he
              refine o_iload hC dX2_fillJoin_64 (by rfl) ?_
              refine o_if_eq (tgt := 86) hC dX2_fillJoin_66 (by decide) (fun q => absurd q (by decide +kernel)) (fun c_66 => ?_)
              refine o_aload_n hC dX2_fillJoin_69 (by rfl) ?_
              refine o_aload_n hC dX2_fillJoin_70 (by rfl) ?_
              refine o_iload hC dX2_fillJoin_71 (by rfl) ?_
              refine o_aload_n hC dX2_fillJoin_73 (by rfl) ?_
              refine o_iload hC dX2_fillJoin_74 (by rfl) ?_
              refine o_aload hC dX2_fillJoin_76 (by rfl) ?_
              refine o_callV5 hC rl_BW_good rl_Ns_nw (by exact hB.2.2.2.2.2) YX2_putPair IX2_putPair VX2_putPair (mX2_128 hC) (by rw [hB.1]; exact cp_X2_putPair l D ids H0 _ _ o so a a1 wd wd1 _ tab1 tb a2 wd2 t u td ho1 ht1 hk1 (hi.eqv (fun q q1 q2 => hf q (by omega) (by omega))) hbk (by omega) (by omega) (by omega) (hj.eqv (fun q q1 q2 => hf q (by omega) (by omega))) hdk (by omega) (by omega) (by omega) (by omega) hwd hwd6) (by exact ho1.1) rfl rfl (Nat.le_of_ble_eq_true rfl) (by rw [hB.2.1]; first | exact Nat.le_of_ble_eq_true rfl | (dsimp only; omega)) (by rw [hB.2.1]; first | exact Nat.le_of_ble_eq_true rfl | (dsimp only; omega)) (by rw [hB.2.1]; first | exact Nat.le_of_ble_eq_true rfl | (dsimp only; omega)) (by rw [hB.2.1]; first | exact Nat.le_of_ble_eq_true rfl | (dsimp only; omega)) dX2_fillJoin_78 (fun v h_78 n_78 p_78 => ?_)
              obtain ⟨x, rfl, rfl, ⟨gp2, q1⟩, q3, q2⟩ := p_78
              try dsimp only [Option.toList, List.cons_append, List.nil_append]
              refine o_if_ne (tgt := 86) hC dX2_fillJoin_81 (by decide) (fun c_81 => ?_) (fun c_81 => ?_)
              · refine o_iinc hC dX2_fillJoin_86 (by rfl) (rl_inc _) (Nat.le_of_ble_eq_true rfl) ?_
                refine o_goto (tgt := 15) hC dX2_fillJoin_89 (by decide) ?_
                rcases q2 with ⟨tab2, y1, y2, y3, y4⟩ | ⟨-, y2, -⟩
                rotate_left
                · exact absurd y2 c_81
                refine ih2 (u + 1) _ _ _ tab2 (by omega) q1 y3 y4 (hf.tr (q3.wd (by omega) (by omega) (Nat.le_refl _) (Nat.le_refl _))) ?_
                rw [he]
                show ((wst _).bind (aput tab1 _)).bind _ = _
                rw [y1]
                rfl
              · refine o_iconst (v := nI 0) hC dX2_fillJoin_84 (by decide +kernel) ?_
                refine o_zret hC hB dX2_fillJoin_85 (by first | rfl | decide +kernel) (Nat.le_of_ble_eq_true rfl) (Nat.le_of_ble_eq_true rfl) ?_
                rcases q2 with ⟨tab2, y1, y2, -, -⟩ | ⟨y1, y2, y3⟩
                · exact absurd (c_81.symm.trans y2) (by decide +kernel)
                · refine ⟨_, rfl, rfl, ⟨_, q1⟩, hf.tr (q3.wd (by omega) (by omega) (Nat.le_refl _) (Nat.le_refl _)), Or.inr ⟨?_, rfl, y3⟩⟩
                  rw [he]
                  show ((wst _).bind (aput tab1 _)).bind _ = _
                  rw [y1]
                  rfl
      obtain ⟨t1, -, -, -, t6, -⟩ := hi0.eqv (h' := h9) (fun q q1 q2 => hf9 q (by omega) (by omega))
      refine o_iload hC dX2_fillJoin_3 (by rfl) ?_
      refine o_aload_n hC dX2_fillJoin_5 (by rfl) ?_
      refine o_getf hC (fX2_103 hC rfl) dX2_fillJoin_6 (by repeat (first | with_reducible assumption | (rw [rl_u_s]; done) | (rw [rl_u_s]; rfl) | rw [rl_u_n (by first | with_reducible assumption | omega)])) (by first | rfl | with_reducible assumption) ?_
      refine o_icmp_ge (tgt := 98) hC dX2_fillJoin_9 (by decide) (fun c_9 => ?_) (fun c_9 => ?_)
      · exact absurd c_9 (nI_ge (by omega) (by omega))
      · refine o_iconst (v := nI 0) hC dX2_fillJoin_12 (by decide +kernel) ?_
        refine o_istore hC dX2_fillJoin_13 (Nat.le_of_ble_eq_true rfl) ?_
        exact loop2 td.length 0 _ h9 gp9 tab9 (by omega) ho9 ht9 hk9 hf9 he9
  show rl_G X (rl_e D ids H0) 0 [some (.ref o), some (.ref nd), some (.ref a1), some (.ref a2), some (.ref a), none, none, none] [] h n 0 0
  refine o_iconst (v := nI 0) hC dX2_fillJoin_0 (by decide +kernel) ?_
  refine o_istore hC dX2_fillJoin_1 (Nat.le_of_ble_eq_true rfl) ?_
  exact loop tb.length 0 _ _ h gp tab (by omega) ho ht hok rl_g2.rf rfl

set_option maxHeartbeats 4000000 in
set_option maxRecDepth 100000 in
theorem cp_X2_putWithout (l : Launch) (D : va_G) (ids : Nat → ClassId) (H0 : Heap) (h : rl_H) (n : Nat) (o so a wd tu tk uk kk : Nat) (gp : Nat → Option Nat) (tab : List arow) (uc kc2 : Nat → Int32) (uf ug kf kg : Nat → Int64) (U K : List tT) (ho : op_sh ids h o so gp) (ht : ctb ids h a wd tab) (hok : aok wd tab) (hu : tp_at ids h tu uc uf ug uk) (hk : tp_at ids h tk kc2 kf kg kk) (hU : tls uf ug uk = U) (hK : tls kf kg kk = K) (hKo : ∀ e ∈ K, tok e) (hoa : o + 22 ≤ a ∨ a + 402 ≤ o) (huo : tu + 5 ≤ o ∨ o + 22 ≤ tu) (hua : tu + 5 ≤ a ∨ a + 402 ≤ tu) (hko : tk + 5 ≤ o ∨ o + 22 ≤ tk) (hka : tk + 5 ≤ a ∨ a + 402 ≤ tk) : rl_Met l (rl_e D ids H0) rl_BW rl_Ns yX2_putWithout cX2_putWithout 4 (some .boolean) ({ frames := 4, cells := 0, slots := 0, locals := 149 }) [.ref o, .ref tu, .ref tk, .ref a] h n (fun v h' n' => ∃ x : Int32, v = some (.int x) ∧ n' = n ∧ (∃ gp' : Nat → Option Nat, op_sh ids h' o so gp') ∧ rl_g2 h h' o (o + 22) a (a + 402) ∧ pres ids h' a wd ((mno U (some K)).bind (aput tab (rcl uc wd))) x) := by
  obtain ⟨o0, ⟨ds, od⟩, ⟨mf0, mg0, mk0, om⟩, ⟨tp, o7, o7b⟩, o8, ⟨kc, o9⟩, ot⟩ := id ho
  obtain ⟨w1, w2, w3⟩ := id hu
  obtain ⟨w4, w5, w6⟩ := id hk
  refine rl_Met.of (by decide +kernel) (Nat.le_of_ble_eq_true rfl) ?_
  intro X hC hB
  show rl_G X (rl_e D ids H0) 0 [some (.ref o), some (.ref tu), some (.ref tk), some (.ref a)] [] h n 0 0
  refine o_aload_n hC dX2_putWithout_0 (by rfl) ?_
  refine o_getf hC (fX2_12 hC rfl) dX2_putWithout_1 (by repeat (first | with_reducible assumption | (rw [rl_u_s]; done) | (rw [rl_u_s]; rfl) | rw [rl_u_n (by first | with_reducible assumption | omega)])) (by first | rfl | with_reducible assumption) ?_
  refine o_aload_n hC dX2_putWithout_4 (by rfl) ?_
  refine o_getf hC (fX2_116 hC rfl) dX2_putWithout_5 (by repeat (first | with_reducible assumption | (rw [rl_u_s]; done) | (rw [rl_u_s]; rfl) | rw [rl_u_n (by first | with_reducible assumption | omega)])) (by first | rfl | with_reducible assumption) ?_
  refine o_aload_n hC dX2_putWithout_8 (by rfl) ?_
  refine o_getf hC (fX2_21 hC rfl) dX2_putWithout_9 (by repeat (first | with_reducible assumption | (rw [rl_u_s]; done) | (rw [rl_u_s]; rfl) | rw [rl_u_n (by first | with_reducible assumption | omega)])) (by first | rfl | with_reducible assumption) ?_
  refine o_callV2 hC rl_BW_good rl_Ns_nw (by exact hB.2.2.2.2.2) YX0_not IX0_not VX0_not (mX2_151 hC) (by rw [hB.1]; exact ct_X0_not l D ids H0 _ _ (o + 1) (tk + 2) (o + 4) _ _ ds _ _ mf0 mg0 od hk.2.2 om (by omega) (by omega) (by omega)) (by exact od.1) rfl rfl (Nat.le_of_ble_eq_true rfl) (by rw [hB.2.1]; first | exact Nat.le_of_ble_eq_true rfl | (dsimp only; omega)) (by rw [hB.2.1]; first | exact Nat.le_of_ble_eq_true rfl | (dsimp only; omega)) (by rw [hB.2.1]; first | exact Nat.le_of_ble_eq_true rfl | (dsimp only; omega)) (by rw [hB.2.1]; first | exact Nat.le_of_ble_eq_true rfl | (dsimp only; omega)) dX2_putWithout_12 (fun v h_12 n_12 p_12 => ?_)
  obtain ⟨x1, rfl, rfl, hx1, r1, r2, r3⟩ := p_12
  have w0 := no_out hK hKo hx1 r2
  have ho2 : op_sh ids h_12 o so gp := ho.mk ⟨_, r1⟩ ⟨_, _, _, r2⟩ (fun q q1 q2 q3 => r3 q (by omega) (by omega))
  have u2 : tp_at ids h_12 tu uc uf ug uk := hu.eqv (fun q q1 q2 => r3 q (by omega) (by omega))
  have ht2 := ht.eqv (h' := h_12) (fun q q1 q2 => r3 q (by omega) (by omega))
  obtain ⟨v1, v2, v3⟩ := id u2
  have o2 := ho2.1
  try dsimp only [Option.toList, List.cons_append, List.nil_append]
  refine o_if_eq (tgt := 60) hC dX2_putWithout_15 (by decide) (fun c_15 => ?_) (fun c_15 => ?_)
  · refine o_iconst (v := nI 0) hC dX2_putWithout_60 (by decide +kernel) ?_
    refine o_zret hC hB dX2_putWithout_61 (by first | rfl | decide +kernel) (Nat.le_of_ble_eq_true rfl) (Nat.le_of_ble_eq_true rfl) ?_
    rcases w0 with ⟨W, z1, z2, -⟩ | ⟨z1, z2⟩
    · exact absurd (c_15.symm.trans z2) (by decide +kernel)
    · exact ⟨_, rfl, rfl, ⟨_, ho2⟩, fun q b1 b2 => r3 q (by omega) (by omega), Or.inr ⟨by show (((wno K [(0, 0)]).bind (fun W => wst (tbo U W))).bind (aput tab (rcl uc wd))) = _; rw [z1]; rfl, rfl, ht2.ti⟩⟩
  · rcases w0 with ⟨W, z1, z2, zf, zg, z3, z4⟩ | ⟨-, z2⟩
    rotate_left
    · exact absurd z2 c_15
    refine o_aload_n hC dX2_putWithout_18 (by rfl) ?_
    refine o_getf hC (fX2_12 hC rfl) dX2_putWithout_19 (by repeat (first | with_reducible assumption | (rw [rl_u_s]; done) | (rw [rl_u_s]; rfl) | rw [rl_u_n (by first | with_reducible assumption | omega)])) (by first | rfl | with_reducible assumption) ?_
    refine o_aload_n hC dX2_putWithout_22 (by rfl) ?_
    refine o_getf hC (fX2_116 hC rfl) dX2_putWithout_23 (by repeat (first | with_reducible assumption | (rw [rl_u_s]; done) | (rw [rl_u_s]; rfl) | rw [rl_u_n (by first | with_reducible assumption | omega)])) (by first | rfl | with_reducible assumption) ?_
    refine o_aload_n hC dX2_putWithout_26 (by rfl) ?_
    refine o_getf hC (fX2_21 hC rfl) dX2_putWithout_27 (by repeat (first | with_reducible assumption | (rw [rl_u_s]; done) | (rw [rl_u_s]; rfl) | rw [rl_u_n (by first | with_reducible assumption | omega)])) (by first | rfl | with_reducible assumption) ?_
    refine o_aload_n hC dX2_putWithout_30 (by rfl) ?_
    refine o_getf hC (fX2_21 hC rfl) dX2_putWithout_31 (by repeat (first | with_reducible assumption | (rw [rl_u_s]; done) | (rw [rl_u_s]; rfl) | rw [rl_u_n (by first | with_reducible assumption | omega)])) (by first | rfl | with_reducible assumption) ?_
    refine o_callV3 hC rl_BW_good rl_Ns_nw (by exact hB.2.2.2.2.2) YX0_both IX0_both VX0_both (mX2_139 hC) (by rw [hB.1]; exact ct_X0_both l D ids H0 _ _ (o + 1) (tu + 2) (o + 4) (o + 4) _ _ _ _ _ _ _ _ _ _ r1 v3 z3 z3 (by omega) (by omega) (by omega)) (by exact r1.1) rfl rfl (Nat.le_of_ble_eq_true rfl) (by rw [hB.2.1]; first | exact Nat.le_of_ble_eq_true rfl | (dsimp only; omega)) (by rw [hB.2.1]; first | exact Nat.le_of_ble_eq_true rfl | (dsimp only; omega)) (by rw [hB.2.1]; first | exact Nat.le_of_ble_eq_true rfl | (dsimp only; omega)) (by rw [hB.2.1]; first | exact Nat.le_of_ble_eq_true rfl | (dsimp only; omega)) dX2_putWithout_34 (fun v h_34 n_34 p_34 => ?_)
    obtain ⟨x2, rfl, rfl, s1⟩ := p_34
    have s2 := s1.f2
    have w1 := bo_out hU z4 v3.2.2.2 z3.2.2.2 s1
    have ho3 : op_sh ids h_34 o so gp := ho2.mk ⟨_, s1.1⟩ (s1.ws z3 (by omega)) (fun q q1 q2 q3 => s2 q (by omega) (by omega))
    have u3 : tp_at ids h_34 tu uc uf ug uk := u2.eqv (fun q q1 q2 => s2 q (by omega) (by omega))
    obtain ⟨v4, v5, v6⟩ := id u3
    have ht3 := ht2.eqv (h' := h_34) (fun q q1 q2 => s2 q (by omega) (by omega))
    have o3 := ho3.1
    try dsimp only [Option.toList, List.cons_append, List.nil_append]
    refine o_if_eq (tgt := 60) hC dX2_putWithout_37 (by decide) (fun c_37 => ?_) (fun c_37 => ?_)
    · refine o_iconst (v := nI 0) hC dX2_putWithout_60 (by decide +kernel) ?_
      refine o_zret hC hB dX2_putWithout_61 (by first | rfl | decide +kernel) (Nat.le_of_ble_eq_true rfl) (Nat.le_of_ble_eq_true rfl) ?_
      rcases w1 with ⟨L3, y1, y2, -⟩ | ⟨y1, y2⟩
      · exact absurd (c_37.symm.trans y2) (by decide +kernel)
      · refine ⟨_, rfl, rfl, ⟨_, ho3⟩, fun q b1 b2 => (s2 q (by omega) (by omega)).trans (r3 q (by omega) (by omega)), Or.inr ⟨?_, rfl, ht3.ti⟩⟩
        show (((wno K [(0, 0)]).bind (fun W => wst (tbo U W))).bind (aput tab (rcl uc wd))) = _
        rw [z1]
        show (wst (tbo U W)).bind _ = _
        rw [y1]
        rfl
    · rcases w1 with ⟨L3, y1, y2, y3⟩ | ⟨-, y2⟩
      rotate_left
      · exact absurd y2 c_37
      refine o_aload_n hC dX2_putWithout_40 (by rfl) ?_
      refine o_aload_n hC dX2_putWithout_41 (by rfl) ?_
      refine o_aload_n hC dX2_putWithout_42 (by rfl) ?_
      refine o_getf hC (fX2_109 hC rfl) dX2_putWithout_43 (by repeat (first | with_reducible assumption | (rw [rl_u_s]; done) | (rw [rl_u_s]; rfl) | rw [rl_u_n (by first | with_reducible assumption | omega)])) (by first | rfl | with_reducible assumption) ?_
      refine o_aload_n hC dX2_putWithout_46 (by rfl) ?_
      refine o_getf hC (fX2_21 hC rfl) dX2_putWithout_47 (by repeat (first | with_reducible assumption | (rw [rl_u_s]; done) | (rw [rl_u_s]; rfl) | rw [rl_u_n (by first | with_reducible assumption | omega)])) (by first | rfl | with_reducible assumption) ?_
      refine o_callV3 hC rl_BW_good rl_Ns_nw (by exact hB.2.2.2.2.2) YX2_put IX2_put VX2_put (mX2_99 hC) (by rw [hB.1]; exact cp_X2_put l D ids H0 _ _ o so a (o + 4) (tu + 1) wd _ _ _ _ ho3 ht3 hok v5 y3 (wst_ok y1) (by omega) (by omega) (by omega) (by omega)) (by exact ho3.1) rfl rfl (Nat.le_of_ble_eq_true rfl) (by rw [hB.2.1]; first | exact Nat.le_of_ble_eq_true rfl | (dsimp only; omega)) (by rw [hB.2.1]; first | exact Nat.le_of_ble_eq_true rfl | (dsimp only; omega)) (by rw [hB.2.1]; first | exact Nat.le_of_ble_eq_true rfl | (dsimp only; omega)) (by rw [hB.2.1]; first | exact Nat.le_of_ble_eq_true rfl | (dsimp only; omega)) dX2_putWithout_50 (fun v h_50 n_50 p_50 => ?_)
      obtain ⟨x, rfl, rfl, q1, q3, q2⟩ := p_50
      try dsimp only [Option.toList, List.cons_append, List.nil_append]
      refine o_if_eq (tgt := 60) hC dX2_putWithout_53 (by decide) (fun c_53 => ?_) (fun c_53 => ?_)
      · refine o_iconst (v := nI 0) hC dX2_putWithout_60 (by decide +kernel) ?_
        refine o_zret hC hB dX2_putWithout_61 (by first | rfl | decide +kernel) (Nat.le_of_ble_eq_true rfl) (Nat.le_of_ble_eq_true rfl) ?_
        rcases q2 with ⟨tab2, m1, m2, -, -⟩ | ⟨m1, m2, m3⟩
        · exact absurd (c_53.symm.trans m2) (by decide +kernel)
        · refine ⟨_, rfl, rfl, ⟨_, q1⟩, fun q b1 b2 => (q3 q (by omega) (by omega)).trans ((s2 q (by omega) (by omega)).trans (r3 q (by omega) (by omega))), Or.inr ⟨?_, rfl, m3⟩⟩
          show (((wno K [(0, 0)]).bind (fun W => wst (tbo U W))).bind (aput tab (rcl uc wd))) = _
          rw [z1]
          show (wst (tbo U W)).bind _ = _
          rw [y1]
          exact m1
      · refine o_iconst (v := nI 1) hC dX2_putWithout_56 (by decide +kernel) ?_
        refine o_goto (tgt := 61) hC dX2_putWithout_57 (by decide) ?_
        refine o_zret hC hB dX2_putWithout_61 (by first | rfl | decide +kernel) (Nat.le_of_ble_eq_true rfl) (Nat.le_of_ble_eq_true rfl) ?_
        rcases q2 with ⟨tab2, m1, m2, m3, m4⟩ | ⟨-, m2, -⟩
        · refine ⟨_, rfl, rfl, ⟨_, q1⟩, fun q b1 b2 => (q3 q (by omega) (by omega)).trans ((s2 q (by omega) (by omega)).trans (r3 q (by omega) (by omega))), Or.inl ⟨tab2, ?_, rfl, m3, m4⟩⟩
          show (((wno K [(0, 0)]).bind (fun W => wst (tbo U W))).bind (aput tab (rcl uc wd))) = _
          rw [z1]
          show (wst (tbo U W)).bind _ = _
          rw [y1]
          exact m1
        · exact absurd m2 c_53

set_option maxHeartbeats 4000000 in
set_option maxRecDepth 100000 in
theorem cp_X2_fillMinus (l : Launch) (D : va_G) (ids : Nat → ClassId) (H0 : Heap) (h : rl_H) (n : Nat) (o so a a1 wd : Nat) (gp : Nat → Option Nat) (tab tb : List arow) (a2 : Nat) (td : List arow) (ho : op_sh ids h o so gp) (ht : ctb ids h a wd tab) (hok : aok wd tab) (hi : ctb ids h a1 wd tb) (hbk : aok wd tb) (hoa : o + 22 ≤ a ∨ a + 402 ≤ o) (hoi : o + 22 ≤ a1 ∨ a1 + 402 ≤ o) (hia : a1 + 402 ≤ a ∨ a + 402 ≤ a1) (hj : ctb ids h a2 wd td) (hdk : aok wd td) (hoj : o + 22 ≤ a2 ∨ a2 + 402 ≤ o) (hja : a2 + 402 ≤ a ∨ a + 402 ≤ a2) : rl_Met l (rl_e D ids H0) rl_BW rl_Ns yX2_fillMinus cX2_fillMinus 8 (some .boolean) ({ frames := 5, cells := 0, slots := 0, locals := 172 }) [.ref o, .ref a1, .ref a2, .ref a] h n (fun v h' n' => ∃ x : Int32, v = some (.int x) ∧ n' = n ∧ (∃ gp' : Nat → Option Nat, op_sh ids h' o so gp') ∧ rl_g2 h h' o (o + 22) a (a + 402) ∧ pres ids h' a wd (aall tab (tb.map (fun r => (r.1, mno r.2 (afd td r.1))))) x) := by
  obtain ⟨P1, S1, hi0, hP1, hrow1⟩ := id hi
  have tl80 := hbk.2.2
  obtain ⟨P2, S2, hj0, hP2, hrow2⟩ := id hj
  have tl81 := hdk.2.2
  refine rl_Met.of (by decide +kernel) (Nat.le_of_ble_eq_true rfl) ?_
  intro X hC hB
  have loop : ∀ (m t : Nat) (o5 o6 o7 : Option Value) (h1 : rl_H) (gp1 : Nat → Option Nat) (tab1 : List arow), t + m = tb.length → op_sh ids h1 o so gp1 → ctb ids h1 a wd tab1 → aok wd tab1 → rl_g2 h h1 o (o + 22) a (a + 402) → aall tab (tb.map (fun r => (r.1, mno r.2 (afd td r.1)))) = aall tab1 ((tb.map (fun r => (r.1, mno r.2 (afd td r.1)))).drop t) → rl_G X (rl_e D ids H0) 3 [some (.ref o), some (.ref a1), some (.ref a2), some (.ref a), some (.int (nI t)), o5, o6, o7] [] h1 n 0 0 := by
    intro m
    induction m with
    | zero =>
      intro t o5 o6 o7 h1 gp1 tab1 hm ho1 ht1 hk1 hf he
      obtain ⟨t1, ⟨tf, t2, t3⟩, t4, t5, t6, t7⟩ := hi0.eqv (h' := h1) (fun q q1 q2 => hf q (by omega) (by omega))
      refine o_iload hC dX2_fillMinus_3 (by rfl) ?_
      refine o_aload_n hC dX2_fillMinus_5 (by rfl) ?_
      refine o_getf hC (fX2_103 hC rfl) dX2_fillMinus_6 (by repeat (first | with_reducible assumption | (rw [rl_u_s]; done) | (rw [rl_u_s]; rfl) | rw [rl_u_n (by first | with_reducible assumption | omega)])) (by first | rfl | with_reducible assumption) ?_
      refine o_icmp_ge (tgt := 79) hC dX2_fillMinus_9 (by decide) (fun c_9 => ?_) (fun c_9 => ?_)
      · refine o_iconst (v := nI 1) hC dX2_fillMinus_79 (by decide +kernel) ?_
        refine o_zret hC hB dX2_fillMinus_80 (by first | rfl | decide +kernel) (Nat.le_of_ble_eq_true rfl) (Nat.le_of_ble_eq_true rfl) ?_
        exact ⟨_, rfl, rfl, ⟨_, ho1⟩, hf, Or.inl ⟨tab1, by rw [he, List.drop_eq_nil_of_le (by rw [List.length_map]; omega)]; rfl, rfl, ht1, hk1⟩⟩
      · exact absurd (nI_le (by omega) (by omega)) c_9
    | succ m ih =>
      intro t o5 o6 o7 h1 gp1 tab1 hm ho1 ht1 hk1 hf he
      obtain ⟨t1, ⟨tf, t2, t3⟩, t4, t5, t6, t7⟩ := hi0.eqv (h' := h1) (fun q q1 q2 => hf q (by omega) (by omega))
      have hj1 := hj0.eqv (h' := h1) (fun q q1 q2 => hf q (by omega) (by omega))
      have htl : t < tb.length := by omega
      have hb := t4 t (by omega)
      obtain ⟨e1, e2, e3⟩ := t5 (P1 t) hb
      have hrt := hbk.2.1 _ (List.getElem_mem htl)
      rw [← ark_at] at hrt
      have er := hrow1 t htl
      have w3 : wat ids h1 (a1 + 2 + 5 * P1 t + 2) (ark tb t).2 := by
        rw [← er]
        exact e3.wat
      have e0 := t5 (P1 t) hb
      have ek : rcl (S1.1 (P1 t)) wd = (ark tb t).1 := congrArg Prod.fst er
      rw [ark_drop htl] at he
      refine o_iload hC dX2_fillMinus_3 (by rfl) ?_
      refine o_aload_n hC dX2_fillMinus_5 (by rfl) ?_
      refine o_getf hC (fX2_103 hC rfl) dX2_fillMinus_6 (by repeat (first | with_reducible assumption | (rw [rl_u_s]; done) | (rw [rl_u_s]; rfl) | rw [rl_u_n (by first | with_reducible assumption | omega)])) (by first | rfl | with_reducible assumption) ?_
      refine o_icmp_ge (tgt := 79) hC dX2_fillMinus_9 (by decide) (fun c_9 => ?_) (fun c_9 => ?_)
      · exact absurd c_9 (nI_ge (by omega) (by omega))
      · refine o_aload_n hC dX2_fillMinus_12 (by rfl) ?_
        refine o_getf hC (fX2_106 hC rfl) dX2_fillMinus_13 (by repeat (first | with_reducible assumption | (rw [rl_u_s]; done) | (rw [rl_u_s]; rfl) | rw [rl_u_n (by first | with_reducible assumption | omega)])) (by first | rfl | with_reducible assumption) ?_
        refine o_iload hC dX2_fillMinus_16 (by rfl) ?_
        refine o_aaldN (t0 := 3) hC rfl dX2_fillMinus_18 (by repeat (first | with_reducible assumption | (rw [rl_u_s]; done) | (rw [rl_u_s]; rfl) | rw [rl_u_n (by first | with_reducible assumption | omega)])) (by omega) (by decide) ?_
        rw [t3 _ (by omega)]
        show rl_G X _ _ _ (.ref _ :: _) _ _ _ _
        refine o_astore hC dX2_fillMinus_19 (Nat.le_of_ble_eq_true rfl) ?_
        refine o_aload_n hC dX2_fillMinus_21 (by rfl) ?_
        refine o_aload hC dX2_fillMinus_22 (by rfl) ?_
        refine o_getf hC (fX2_109 hC rfl) dX2_fillMinus_24 (by repeat (first | with_reducible assumption | (rw [rl_u_s]; done) | (rw [rl_u_s]; rfl) | rw [rl_u_n (by first | with_reducible assumption | omega)])) (by first | rfl | with_reducible assumption) ?_
        refine o_callV1 hC rl_BW_good rl_Ns_nw (by exact hB.2.2.2.2.2) YX4_find IX4_find VX4_find (mX2_143 hC) (by rw [hB.1]; exact ct_X4_find l D ids H0 _ _ a2 td.length wd (a1 + 2 + 5 * P1 t + 1) P2 S2 _ hj1 e2) (by exact hj1.1) rfl rfl (Nat.le_of_ble_eq_true rfl) (by rw [hB.2.1]; first | exact Nat.le_of_ble_eq_true rfl | (dsimp only; omega)) (by rw [hB.2.1]; first | exact Nat.le_of_ble_eq_true rfl | (dsimp only; omega)) (by rw [hB.2.1]; first | exact Nat.le_of_ble_eq_true rfl | (dsimp only; omega)) (by rw [hB.2.1]; first | exact Nat.le_of_ble_eq_true rfl | (dsimp only; omega)) dX2_fillMinus_27 (fun v h_27 n_27 p_27 => ?_)
        obtain ⟨e9, rfl, rfl⟩ := p_27
        try dsimp only [Option.toList, List.cons_append, List.nil_append]
        split at e9
        · rename_i hh
          have hhit := (crw_hit hrow2).mp hh
          rw [ek] at hhit
          have hle : afb td (ark tb t).1 ≤ td.length := tb_fb_le _ _
          obtain ⟨u, hu⟩ : ∃ u : Nat, u = afb td (ark tb t).1 - 1 := ⟨_, rfl⟩
          have hul : u < td.length := by omega
          have hi2 : P2 u < 80 := hj1.2.2.1 u (by omega)
          have efd : afd td (ark tb t).1 = some (ark td u).2 := by
            unfold afd
            rw [if_pos hhit, ← hu]
          have hut := hdk.2.1 _ (List.getElem_mem hul)
          rw [← ark_at] at hut
          rw [crw_fb hrow2, ek, ← hu] at e9
          subst e9
          try dsimp only [Option.toList, List.cons_append, List.nil_append]
          refine o_astore hC dX2_fillMinus_30 (Nat.le_of_ble_eq_true rfl) ?_
          refine o_aload hC dX2_fillMinus_32 (by rfl) ?_
          refine o_ifnonnull (tgt := 55) hC dX2_fillMinus_34 (by decide) ?_
          refine o_aload_n hC dX2_fillMinus_55 (by rfl) ?_
          refine o_aload hC dX2_fillMinus_56 (by rfl) ?_
          refine o_aload hC dX2_fillMinus_58 (by rfl) ?_
          refine o_aload_n hC dX2_fillMinus_60 (by rfl) ?_
          refine o_callV3 hC rl_BW_good rl_Ns_nw (by exact hB.2.2.2.2.2) YX2_putWithout IX2_putWithout VX2_putWithout (mX2_147 hC) (by rw [hB.1]; exact cp_X2_putWithout l D ids H0 _ _ o so a wd (a1 + 2 + 5 * P1 t) (a2 + 2 + 5 * P2 u) _ _ _ tab1 _ _ _ _ _ _ (ark tb t).2 (ark td u).2 ho1 ht1 hk1 e0 (hj1.2.2.2.1 (P2 u) hi2) (congrArg Prod.snd er) (congrArg Prod.snd (hrow2 u hul)) hut.2.1.2.1 (by omega) (by omega) (by omega) (by omega) (by omega)) (by exact ho1.1) rfl rfl (Nat.le_of_ble_eq_true rfl) (by rw [hB.2.1]; first | exact Nat.le_of_ble_eq_true rfl | (dsimp only; omega)) (by rw [hB.2.1]; first | exact Nat.le_of_ble_eq_true rfl | (dsimp only; omega)) (by rw [hB.2.1]; first | exact Nat.le_of_ble_eq_true rfl | (dsimp only; omega)) (by rw [hB.2.1]; first | exact Nat.le_of_ble_eq_true rfl | (dsimp only; omega)) dX2_fillMinus_61 (fun v h_61 n_61 p_61 => ?_)
          obtain ⟨x, rfl, rfl, ⟨gp2, q1⟩, q3, q2⟩ := p_61
          rw [ek] at q2
          try dsimp only [Option.toList, List.cons_append, List.nil_append]
          refine o_istore hC dX2_fillMinus_64 (Nat.le_of_ble_eq_true rfl) ?_
          refine o_iload hC dX2_fillMinus_66 (by rfl) ?_
          refine o_if_ne (tgt := 73) hC dX2_fillMinus_68 (by decide) (fun c_68 => ?_) (fun c_68 => ?_)
          · refine o_iinc hC dX2_fillMinus_73 (by rfl) (rl_inc _) (Nat.le_of_ble_eq_true rfl) ?_
            refine o_goto (tgt := 3) hC dX2_fillMinus_76 (by decide) ?_
            rcases q2 with ⟨tab2, y1, y2, y3, y4⟩ | ⟨-, y2, -⟩
            rotate_left
            · exact absurd y2 c_68
            refine ih (t + 1) _ _ _ _ _ tab2 (by omega) q1 y3 y4 (hf.tr (q3.wd (by omega) (by omega) (Nat.le_refl _) (Nat.le_refl _))) ?_
            rw [he]
            show ((mno _ (afd td (ark tb t).1)).bind (aput tab1 _)).bind _ = _
            rw [efd]
            rw [y1]
            rfl
          · refine o_iconst (v := nI 0) hC dX2_fillMinus_71 (by decide +kernel) ?_
            refine o_zret hC hB dX2_fillMinus_72 (by first | rfl | decide +kernel) (Nat.le_of_ble_eq_true rfl) (Nat.le_of_ble_eq_true rfl) ?_
            rcases q2 with ⟨tab2, y1, y2, -, -⟩ | ⟨y1, y2, y3⟩
            · exact absurd (c_68.symm.trans y2) (by decide +kernel)
            · refine ⟨_, rfl, rfl, ⟨_, q1⟩, hf.tr (q3.wd (by omega) (by omega) (Nat.le_refl _) (Nat.le_refl _)), Or.inr ⟨?_, rfl, y3⟩⟩
              rw [he]
              show ((mno _ (afd td (ark tb t).1)).bind (aput tab1 _)).bind _ = _
              rw [efd]
              rw [y1]
              rfl
        · rename_i hh
          have efd : afd td (ark tb t).1 = none := by
            unfold afd
            rw [if_neg (fun q => hh ((crw_hit hrow2).mpr (by rw [ek]; exact q)))]
          subst e9
          try dsimp only [Option.toList, List.cons_append, List.nil_append]
          refine o_astoreN hC dX2_fillMinus_30 (Nat.le_of_ble_eq_true rfl) ?_
          refine o_aloadN hC dX2_fillMinus_32 (by rfl) ?_
          refine o_ifnonnullN hC dX2_fillMinus_34 ?_
          refine o_aload_n hC dX2_fillMinus_37 (by rfl) ?_
          refine o_aload_n hC dX2_fillMinus_38 (by rfl) ?_
          refine o_aload hC dX2_fillMinus_39 (by rfl) ?_
          refine o_getf hC (fX2_109 hC rfl) dX2_fillMinus_41 (by repeat (first | with_reducible assumption | (rw [rl_u_s]; done) | (rw [rl_u_s]; rfl) | rw [rl_u_n (by first | with_reducible assumption | omega)])) (by first | rfl | with_reducible assumption) ?_
          refine o_aload hC dX2_fillMinus_44 (by rfl) ?_
          refine o_getf hC (fX2_116 hC rfl) dX2_fillMinus_46 (by repeat (first | with_reducible assumption | (rw [rl_u_s]; done) | (rw [rl_u_s]; rfl) | rw [rl_u_n (by first | with_reducible assumption | omega)])) (by first | rfl | with_reducible assumption) ?_
          refine o_callV3 hC rl_BW_good rl_Ns_nw (by exact hB.2.2.2.2.2) YX2_put IX2_put VX2_put (mX2_99 hC) (by rw [hB.1]; exact cp_X2_put l D ids H0 _ _ o so a (a1 + 2 + 5 * P1 t + 2) (a1 + 2 + 5 * P1 t + 1) wd _ _ _ _ ho1 ht1 hk1 e2 w3 hrt.2.1 (by omega) (by omega) (by omega) (by omega)) (by exact ho1.1) rfl rfl (Nat.le_of_ble_eq_true rfl) (by rw [hB.2.1]; first | exact Nat.le_of_ble_eq_true rfl | (dsimp only; omega)) (by rw [hB.2.1]; first | exact Nat.le_of_ble_eq_true rfl | (dsimp only; omega)) (by rw [hB.2.1]; first | exact Nat.le_of_ble_eq_true rfl | (dsimp only; omega)) (by rw [hB.2.1]; first | exact Nat.le_of_ble_eq_true rfl | (dsimp only; omega)) dX2_fillMinus_49 (fun v h_49 n_49 p_49 => ?_)
          obtain ⟨x, rfl, rfl, q1, q3, q2⟩ := p_49
          rw [ek] at q2
          replace q2 : pres ids h_49 a wd ((mno (ark tb t).2 none).bind (aput tab1 (ark tb t).1)) x := q2
          try dsimp only [Option.toList, List.cons_append, List.nil_append]
          refine o_goto (tgt := 64) hC dX2_fillMinus_52 (by decide) ?_
          refine o_istore hC dX2_fillMinus_64 (Nat.le_of_ble_eq_true rfl) ?_
          refine o_iload hC dX2_fillMinus_66 (by rfl) ?_
          refine o_if_ne (tgt := 73) hC dX2_fillMinus_68 (by decide) (fun c_68 => ?_) (fun c_68 => ?_)
          · refine o_iinc hC dX2_fillMinus_73 (by rfl) (rl_inc _) (Nat.le_of_ble_eq_true rfl) ?_
            refine o_goto (tgt := 3) hC dX2_fillMinus_76 (by decide) ?_
            rcases q2 with ⟨tab2, y1, y2, y3, y4⟩ | ⟨-, y2, -⟩
            rotate_left
            · exact absurd y2 c_68
            refine ih (t + 1) _ _ _ _ _ tab2 (by omega) q1 y3 y4 (hf.tr (q3.wd (by omega) (by omega) (Nat.le_refl _) (Nat.le_refl _))) ?_
            rw [he]
            show ((mno _ (afd td (ark tb t).1)).bind (aput tab1 _)).bind _ = _
            rw [efd]
            rw [y1]
            rfl
          · refine o_iconst (v := nI 0) hC dX2_fillMinus_71 (by decide +kernel) ?_
            refine o_zret hC hB dX2_fillMinus_72 (by first | rfl | decide +kernel) (Nat.le_of_ble_eq_true rfl) (Nat.le_of_ble_eq_true rfl) ?_
            rcases q2 with ⟨tab2, y1, y2, -, -⟩ | ⟨y1, y2, y3⟩
            · exact absurd (c_68.symm.trans y2) (by decide +kernel)
            · refine ⟨_, rfl, rfl, ⟨_, q1⟩, hf.tr (q3.wd (by omega) (by omega) (Nat.le_refl _) (Nat.le_refl _)), Or.inr ⟨?_, rfl, y3⟩⟩
              rw [he]
              show ((mno _ (afd td (ark tb t).1)).bind (aput tab1 _)).bind _ = _
              rw [efd]
              rw [y1]
              rfl
  show rl_G X (rl_e D ids H0) 0 [some (.ref o), some (.ref a1), some (.ref a2), some (.ref a), none, none, none, none] [] h n 0 0
  refine o_iconst (v := nI 0) hC dX2_fillMinus_0 (by decide +kernel) ?_
  refine o_istore hC dX2_fillMinus_1 (Nat.le_of_ble_eq_true rfl) ?_
  exact loop tb.length 0 _ _ _ h gp tab (by omega) ho ht hok rl_g2.rf rfl
end
section
/-! FOLD, in lists -/
/-- whether member j is in set s -/
abbrev fbt (s j : Nat) : Int32 := (nI s >>> (nI j &&& 31)) &&& nI 1
def inS (s j : Nat) : Bool := !decide (fbt s j = 0)
theorem fbt_or : ∀ s : Nat, s < 16 → ∀ j : Nat, j < 4 → fbt s j = nI 0 ∨ fbt s j = nI 1 := by decide +kernel
theorem inS_1 : inS 1 0 = true := by decide +kernel
abbrev fSt : Type := Nat × Int32 × Int32 × Int32
def fstep (st : fSt) (b : Bool) (x : Int32) : fSt := if b then (st.1 + 1, st.2.1 + x, if st.1 = 0 then x else if x < st.2.2.1 then x else st.2.2.1, if st.1 = 0 then x else if st.2.2.2 < x then x else st.2.2.2) else st
/-- how many, the sum, the least, the greatest of those of g in set s -/
def ffn (s c : Nat) (g : List arow) : Nat → Nat → fSt → fSt
  | 0, _, st => st
  | m + 1, j, st => ffn s c g m (j + 1) (fstep st (inS s j) (acg (ark g j) c))
def fpick (kd : Nat) (st : fSt) : Int32 := if kd = 0 then nI st.1 else if kd = 1 then st.2.1 else if kd = 2 then st.2.2.1 else st.2.2.2
/-- the NOTs of a group's WAYS -/
def fnf (g : List arow) : Nat → Nat → List (List tT) → Option (List (List tT))
  | 0, _, ns => some ns
  | m + 1, j, ns => (wno (ark g j).2 [(0, 0)]).bind (fun W => fnf g m (j + 1) (ns ++ [W]))
abbrev fnw (s : Nat) (g : List arow) (ns : List (List tT)) (j : Nat) : List tT := if inS s j then (ark g j).2 else ns.getD j []
/-- the WAYS of a set of a group -/
def fwf (s : Nat) (g : List arow) (ns : List (List tT)) : Nat → Nat → List tT → Option (List tT)
  | 0, _, W => some W
  | m + 1, j, W => (wst (tbo W (fnw s g ns j))).bind (fwf s g ns m (j + 1))
abbrev fky (s cb co kd : Nat) (g : List arow) : List Int32 := [acg (ark g 0) cb, fpick kd (ffn s co g g.length 0 (0, 0, 0, 0))]
abbrev fca (cb co kd : Nat) (g : List arow) (ns : List (List tT)) (s : Nat) : List Int32 × Option (List tT) := (fky s cb co kd g, fwf s g ns g.length 0 [(0, 0)])
abbrev fcs (cb co kd : Nat) (g : List arow) (ns : List (List tT)) (s n : Nat) : List (List Int32 × Option (List tT)) := (List.range' s n).map (fca cb co kd g ns)
/-- the NOTs that a group needs -/
def fnn (g : List arow) : Option (List (List tT)) := if 1 < g.length then fnf g g.length 0 [] else some []
/-- a group more -/
def fgr (cb co kd : Nat) (T g : List arow) : Option (List arow) := (fnn g).bind (fun ns => aall T (fcs cb co kd g ns 1 (2 ^ g.length - 1)))
/-- no TUPLE from u on, m of them, has the same number as the one at t -/
def ffr (tb : List arow) (c t : Nat) : Nat → Nat → Bool
  | 0, _ => true
  | m + 1, u => if acg (ark tb u) c = acg (ark tb t) c then false else ffr tb c t m (u + 1)
abbrev fpr (tb : List arow) (c t : Nat) : arow → Bool := fun r => decide (acg r c = acg (ark tb t) c)
/-- the group that begins at t -/
abbrev fgp (tb : List arow) (c t : Nat) : List arow := (tb.drop t).filter (fpr tb c t)
/-- FOLD of the TUPLES from t on, m of them -/
def ffo (tb : List arow) (cb co kd : Nat) : Nat → Nat → List arow → Option (List arow)
  | 0, _, T => some T
  | m + 1, t, T => if ffr tb cb t t 0 then (if 4 < (fgp tb cb t).length then none else (fgr cb co kd T (fgp tb cb t)).bind (ffo tb cb co kd m (t + 1))) else ffo tb cb co kd m (t + 1) T
/-- a group of the class: where its Tuples are -/
def cgr (gp : Nat → Option Nat) (a1 wd1 : Nat) (S1 : tb_S) (g : List arow) : Prop := ∀ j : Nat, j < g.length → j < 4 → ∃ i : Nat, i < 80 ∧ gp j = some (a1 + 2 + 5 * i) ∧ crw S1 i wd1 = ark g j
theorem ark_app_l {A B : List arow} {j : Nat} (h : j < A.length) : ark (A ++ B) j = ark A j := by
  unfold ark
  rw [List.getD_eq_getElem?_getD, List.getD_eq_getElem?_getD, List.getElem?_append_left h]
theorem ark_app_r {A : List arow} {r : arow} : ark (A ++ [r]) A.length = r := by
  unfold ark
  rw [List.getD_eq_getElem?_getD, List.getElem?_append_right (Nat.le_refl _), Nat.sub_self]
  rfl
theorem getD_app_l {A B : List (List tT)} {j : Nat} (h : j < A.length) : (A ++ B).getD j [] = A.getD j [] := by
  rw [List.getD_eq_getElem?_getD, List.getD_eq_getElem?_getD, List.getElem?_append_left h]
theorem getD_app_r {A : List (List tT)} {r : List tT} : (A ++ [r]).getD A.length [] = r := by
  rw [List.getD_eq_getElem?_getD, List.getElem?_append_right (Nat.le_refl _), Nat.sub_self]
  rfl
theorem sh_1k {k : Nat} (hk : k ≤ 4) : nI 1 <<< (nI k &&& 31) = nI (2 ^ k) := by
  rcases (show k = 0 ∨ k = 1 ∨ k = 2 ∨ k = 3 ∨ k = 4 by omega) with rfl | rfl | rfl | rfl | rfl <;> decide +kernel
theorem pw_16 {k : Nat} (hk : k ≤ 4) : 1 ≤ 2 ^ k ∧ 2 ^ k ≤ 16 ∧ (1 < 2 ^ k → 1 ≤ k) := by
  rcases (show k = 0 ∨ k = 1 ∨ k = 2 ∨ k = 3 ∨ k = 4 by omega) with rfl | rfl | rfl | rfl | rfl <;> decide

set_option maxHeartbeats 4000000 in
set_option maxRecDepth 100000 in
theorem cp_X2_isFirstOfGroup (l : Launch) (D : va_G) (ids : Nat → ClassId) (H0 : Heap) (h : rl_H) (n : Nat) (a1 wd1 t c4 : Nat) (P1 : Nat → Nat) (S1 : tb_S) (tb : List arow) (hi0 : tb_at ids h a1 tb.length wd1 P1 S1) (hrow1 : ∀ j : Nat, j < tb.length → crw S1 (P1 j) wd1 = ark tb j) (tl80 : tb.length ≤ 80) (ht : t < tb.length) (h4 : c4 < wd1) : rl_Met l (rl_e D ids H0) rl_BW rl_Ns yX2_isFirstOfGroup cX2_isFirstOfGroup 4 (some .boolean) ({ frames := 0, cells := 0, slots := 0, locals := 0 }) [.ref a1, .int (nI t), .int (nI c4)] h n (fun v h' n' => ∃ x : Int32, v = some (.int x) ∧ h' = h ∧ n' = n ∧ x = (if ffr tb c4 t t 0 then nI 1 else nI 0)) := by
  obtain ⟨t1, ⟨tf, t2, t3⟩, t4, t5, t6, t7⟩ := id hi0
  refine rl_Met.of (by decide +kernel) (Nat.le_of_ble_eq_true rfl) ?_
  intro X hC hB
  have hb := t4 t (by omega)
  obtain ⟨e1, e2, e3⟩ := t5 (P1 t) hb
  have et : acg (ark tb t) c4 = S1.1 (P1 t) c4 := by
    show (ark tb t).1.getD c4 0 = _
    rw [← hrow1 t ht, rsg_get h4]
  have loop : ∀ (m u : Nat), u + m = t → ffr tb c4 t t 0 = ffr tb c4 t m u → rl_G X (rl_e D ids H0) 2 [some (.ref a1), some (.int (nI t)), some (.int (nI c4)), some (.int (nI u))] [] h n 0 0 := by
    intro m
    induction m with
    | zero =>
      intro u hm he
      refine o_iload_n hC dX2_isFirstOfGroup_2 (by rfl) ?_
      refine o_iload_n hC dX2_isFirstOfGroup_3 (by rfl) ?_
      refine o_icmp_ge (tgt := 40) hC dX2_isFirstOfGroup_4 (by decide) (fun c_4 => ?_) (fun c_4 => ?_)
      · refine o_iconst (v := nI 1) hC dX2_isFirstOfGroup_40 (by decide +kernel) ?_
        refine o_zret hC hB dX2_isFirstOfGroup_41 (by first | rfl | decide +kernel) (Nat.le_of_ble_eq_true rfl) (Nat.le_of_ble_eq_true rfl) ?_
        exact ⟨_, rfl, rfl, rfl, by rw [he]; rfl⟩
      · exact absurd (nI_le (by omega) (by omega)) c_4
    | succ m ih =>
      intro u hm he
      have hb2 := t4 u (by omega)
      obtain ⟨g1, g2, g3⟩ := t5 (P1 u) hb2
      have eu : acg (ark tb u) c4 = S1.1 (P1 u) c4 := by
        show (ark tb u).1.getD c4 0 = _
        rw [← hrow1 u (by omega), rsg_get h4]
      refine o_iload_n hC dX2_isFirstOfGroup_2 (by rfl) ?_
      refine o_iload_n hC dX2_isFirstOfGroup_3 (by rfl) ?_
      refine o_icmp_ge (tgt := 40) hC dX2_isFirstOfGroup_4 (by decide) (fun c_4 => ?_) (fun c_4 => ?_)
      · exact absurd c_4 (nI_ge (by omega) (by omega))
      · refine o_aload_n hC dX2_isFirstOfGroup_7 (by rfl) ?_
        refine o_getf hC (fX2_106 hC rfl) dX2_isFirstOfGroup_8 (by repeat (first | with_reducible assumption | (rw [rl_u_s]; done) | (rw [rl_u_s]; rfl) | rw [rl_u_n (by first | with_reducible assumption | omega)])) (by first | rfl | with_reducible assumption) ?_
        refine o_iload_n hC dX2_isFirstOfGroup_11 (by rfl) ?_
        refine o_aaldN (t0 := 3) hC rfl dX2_isFirstOfGroup_12 (by repeat (first | with_reducible assumption | (rw [rl_u_s]; done) | (rw [rl_u_s]; rfl) | rw [rl_u_n (by first | with_reducible assumption | omega)])) (by omega) (by decide) ?_
        rw [t3 _ (by omega)]
        show rl_G X _ _ _ (.ref _ :: _) _ _ _ _
        refine o_getf hC (fX2_109 hC rfl) dX2_isFirstOfGroup_13 (by repeat (first | with_reducible assumption | (rw [rl_u_s]; done) | (rw [rl_u_s]; rfl) | rw [rl_u_n (by first | with_reducible assumption | omega)])) (by first | rfl | with_reducible assumption) ?_
        refine o_iload_n hC dX2_isFirstOfGroup_16 (by rfl) ?_
        refine o_ialdN (t0 := 0) (k := c4) hC rfl dX2_isFirstOfGroup_17 g2 (by omega) (by decide) ?_
        refine o_aload_n hC dX2_isFirstOfGroup_18 (by rfl) ?_
        refine o_getf hC (fX2_106 hC rfl) dX2_isFirstOfGroup_19 (by repeat (first | with_reducible assumption | (rw [rl_u_s]; done) | (rw [rl_u_s]; rfl) | rw [rl_u_n (by first | with_reducible assumption | omega)])) (by first | rfl | with_reducible assumption) ?_
        refine o_iload_n hC dX2_isFirstOfGroup_22 (by rfl) ?_
        refine o_aaldN (t0 := 3) hC rfl dX2_isFirstOfGroup_23 (by repeat (first | with_reducible assumption | (rw [rl_u_s]; done) | (rw [rl_u_s]; rfl) | rw [rl_u_n (by first | with_reducible assumption | omega)])) (by omega) (by decide) ?_
        rw [t3 _ (by omega)]
        show rl_G X _ _ _ (.ref _ :: _) _ _ _ _
        refine o_getf hC (fX2_109 hC rfl) dX2_isFirstOfGroup_24 (by repeat (first | with_reducible assumption | (rw [rl_u_s]; done) | (rw [rl_u_s]; rfl) | rw [rl_u_n (by first | with_reducible assumption | omega)])) (by first | rfl | with_reducible assumption) ?_
        refine o_iload_n hC dX2_isFirstOfGroup_27 (by rfl) ?_
        refine o_ialdN (t0 := 0) (k := c4) hC rfl dX2_isFirstOfGroup_28 e2 (by omega) (by decide) ?_
        refine o_icmp_ne (tgt := 34) hC dX2_isFirstOfGroup_29 (by decide) (fun c_29 => ?_) (fun c_29 => ?_)
        · refine o_iinc hC dX2_isFirstOfGroup_34 (by rfl) (rl_inc _) (Nat.le_of_ble_eq_true rfl) ?_
          refine o_goto (tgt := 2) hC dX2_isFirstOfGroup_37 (by decide) ?_
          exact ih (u + 1) (by omega) (by rw [he, ffr, if_neg (by rw [eu, et]; exact c_29)])
        · refine o_iconst (v := nI 0) hC dX2_isFirstOfGroup_32 (by decide +kernel) ?_
          refine o_zret hC hB dX2_isFirstOfGroup_33 (by first | rfl | decide +kernel) (Nat.le_of_ble_eq_true rfl) (Nat.le_of_ble_eq_true rfl) ?_
          exact ⟨_, rfl, rfl, rfl, by rw [he, show ffr tb c4 t (m + 1) u = false from if_pos (eu.trans (c_29.trans et.symm))]; rfl⟩
  show rl_G X (rl_e D ids H0) 0 [some (.ref a1), some (.int (nI t)), some (.int (nI c4)), none] [] h n 0 0
  refine o_iconst (v := nI 0) hC dX2_isFirstOfGroup_0 (by decide +kernel) ?_
  refine o_istore_n hC dX2_isFirstOfGroup_1 (Nat.le_of_ble_eq_true rfl) ?_
  exact loop t 0 (by omega) rfl

set_option maxHeartbeats 4000000 in
set_option maxRecDepth 100000 in
theorem cp_X2_gatherGroup (l : Launch) (D : va_G) (ids : Nat → ClassId) (H0 : Heap) (h : rl_H) (n : Nat) (o so a1 wd1 t c4 : Nat) (gp : Nat → Option Nat) (P1 : Nat → Nat) (S1 : tb_S) (tb : List arow) (ho : op_sh ids h o so gp) (hi0 : tb_at ids h a1 tb.length wd1 P1 S1) (hrow1 : ∀ j : Nat, j < tb.length → crw S1 (P1 j) wd1 = ark tb j) (tl80 : tb.length ≤ 80) (hoi : o + 22 ≤ a1 ∨ a1 + 402 ≤ o) (ht : t < tb.length) (h4 : c4 < wd1) : rl_Met l (rl_e D ids H0) rl_BW rl_Ns yX2_gatherGroup cX2_gatherGroup 6 (some .int) ({ frames := 0, cells := 0, slots := 0, locals := 0 }) [.ref o, .ref a1, .int (nI t), .int (nI c4)] h n (fun v h' n' => v = some (.int (nI (fgp tb c4 t).length)) ∧ n' = n ∧ ∃ gp' : Nat → Option Nat, op_sh ids h' o so gp' ∧ cgr gp' a1 wd1 S1 (fgp tb c4 t) ∧ rl_fr h h' (o + 8) (o + 9)) := by
  obtain ⟨-, -, -, -, -, tz⟩ := id hi0
  refine rl_Met.of (by decide +kernel) (Nat.le_of_ble_eq_true rfl) ?_
  intro X hC hB
  have et : acg (ark tb t) c4 = S1.1 (P1 t) c4 := by
    show (ark tb t).1.getD c4 0 = _
    rw [← hrow1 t ht, rsg_get h4]
  have loop : ∀ (m u : Nat) (g : List arow) (h1 : rl_H) (gp1 : Nat → Option Nat), u + m = tb.length → t ≤ u → g.length ≤ u → fgp tb c4 t = g ++ (tb.drop u).filter (fpr tb c4 t) → op_sh ids h1 o so gp1 → cgr gp1 a1 wd1 S1 g → rl_fr h h1 (o + 8) (o + 9) → rl_G X (rl_e D ids H0) 6 [some (.ref o), some (.ref a1), some (.int (nI t)), some (.int (nI c4)), some (.int (nI g.length)), some (.int (nI u))] [] h1 n 0 0 := by
    intro m
    induction m with
    | zero =>
      intro u g h1 gp1 hm htu hk he ho1 hg hf
      obtain ⟨t1, ⟨tf, t2, t3⟩, t4, t5, t6, t7⟩ := hi0.eqv (h' := h1) (fun q q1 q2 => hf q (by omega))
      refine o_iload hC dX2_gatherGroup_6 (by rfl) ?_
      refine o_aload_n hC dX2_gatherGroup_8 (by rfl) ?_
      refine o_getf hC (fX2_103 hC rfl) dX2_gatherGroup_9 (by repeat (first | with_reducible assumption | (rw [rl_u_s]; done) | (rw [rl_u_s]; rfl) | rw [rl_u_n (by first | with_reducible assumption | omega)])) (by first | rfl | with_reducible assumption) ?_
      refine o_icmp_ge (tgt := 70) hC dX2_gatherGroup_12 (by decide) (fun c_12 => ?_) (fun c_12 => ?_)
      · refine o_iload hC dX2_gatherGroup_70 (by rfl) ?_
        refine o_iret hC hB dX2_gatherGroup_72 (Nat.le_of_ble_eq_true rfl) (Nat.le_of_ble_eq_true rfl) ?_
        rw [List.drop_eq_nil_of_le (by omega), List.filter_nil, List.append_nil] at he
        rw [he]
        exact ⟨rfl, rfl, gp1, ho1, hg, hf⟩
      · exact absurd (nI_le (by omega) (by omega)) c_12
    | succ m ih =>
      intro u g h1 gp1 hm htu hk he ho1 hg hf
      obtain ⟨t1, ⟨tf, t2, t3⟩, t4, t5, t6, t7⟩ := hi0.eqv (h' := h1) (fun q q1 q2 => hf q (by omega))
      obtain ⟨o0, -, -, -, o8, -, -⟩ := id ho1
      have hb := t4 t (by omega)
      obtain ⟨e1, e2, e3⟩ := t5 (P1 t) hb
      have hb2 := t4 u (by omega)
      obtain ⟨g1, g2, g3⟩ := t5 (P1 u) hb2
      have eu : acg (ark tb u) c4 = S1.1 (P1 u) c4 := by
        show (ark tb u).1.getD c4 0 = _
        rw [← hrow1 u (by omega), rsg_get h4]
      rw [ark_dropp (show u < tb.length by omega)] at he
      refine o_iload hC dX2_gatherGroup_6 (by rfl) ?_
      refine o_aload_n hC dX2_gatherGroup_8 (by rfl) ?_
      refine o_getf hC (fX2_103 hC rfl) dX2_gatherGroup_9 (by repeat (first | with_reducible assumption | (rw [rl_u_s]; done) | (rw [rl_u_s]; rfl) | rw [rl_u_n (by first | with_reducible assumption | omega)])) (by first | rfl | with_reducible assumption) ?_
      refine o_icmp_ge (tgt := 70) hC dX2_gatherGroup_12 (by decide) (fun c_12 => ?_) (fun c_12 => ?_)
      · exact absurd c_12 (nI_ge (by omega) (by omega))
      · refine o_aload_n hC dX2_gatherGroup_15 (by rfl) ?_
        refine o_getf hC (fX2_106 hC rfl) dX2_gatherGroup_16 (by repeat (first | with_reducible assumption | (rw [rl_u_s]; done) | (rw [rl_u_s]; rfl) | rw [rl_u_n (by first | with_reducible assumption | omega)])) (by first | rfl | with_reducible assumption) ?_
        refine o_iload hC dX2_gatherGroup_19 (by rfl) ?_
        refine o_aaldN (t0 := 3) hC rfl dX2_gatherGroup_21 (by repeat (first | with_reducible assumption | (rw [rl_u_s]; done) | (rw [rl_u_s]; rfl) | rw [rl_u_n (by first | with_reducible assumption | omega)])) (by omega) (by decide) ?_
        rw [t3 _ (by omega)]
        show rl_G X _ _ _ (.ref _ :: _) _ _ _ _
        refine o_getf hC (fX2_109 hC rfl) dX2_gatherGroup_22 (by repeat (first | with_reducible assumption | (rw [rl_u_s]; done) | (rw [rl_u_s]; rfl) | rw [rl_u_n (by first | with_reducible assumption | omega)])) (by first | rfl | with_reducible assumption) ?_
        refine o_iload_n hC dX2_gatherGroup_25 (by rfl) ?_
        refine o_ialdN (t0 := 0) (k := c4) hC rfl dX2_gatherGroup_26 g2 (by omega) (by decide) ?_
        refine o_aload_n hC dX2_gatherGroup_27 (by rfl) ?_
        refine o_getf hC (fX2_106 hC rfl) dX2_gatherGroup_28 (by repeat (first | with_reducible assumption | (rw [rl_u_s]; done) | (rw [rl_u_s]; rfl) | rw [rl_u_n (by first | with_reducible assumption | omega)])) (by first | rfl | with_reducible assumption) ?_
        refine o_iload_n hC dX2_gatherGroup_31 (by rfl) ?_
        refine o_aaldN (t0 := 3) hC rfl dX2_gatherGroup_32 (by repeat (first | with_reducible assumption | (rw [rl_u_s]; done) | (rw [rl_u_s]; rfl) | rw [rl_u_n (by first | with_reducible assumption | omega)])) (by omega) (by decide) ?_
        rw [t3 _ (by omega)]
        show rl_G X _ _ _ (.ref _ :: _) _ _ _ _
        refine o_getf hC (fX2_109 hC rfl) dX2_gatherGroup_33 (by repeat (first | with_reducible assumption | (rw [rl_u_s]; done) | (rw [rl_u_s]; rfl) | rw [rl_u_n (by first | with_reducible assumption | omega)])) (by first | rfl | with_reducible assumption) ?_
        refine o_iload_n hC dX2_gatherGroup_36 (by rfl) ?_
        refine o_ialdN (t0 := 0) (k := c4) hC rfl dX2_gatherGroup_37 e2 (by omega) (by decide) ?_
        refine o_icmp_ne (tgt := 64) hC dX2_gatherGroup_38 (by decide) (fun c_38 => ?_) (fun c_38 => ?_)
        · refine o_iinc hC dX2_gatherGroup_64 (by rfl) (rl_inc _) (Nat.le_of_ble_eq_true rfl) ?_
          refine o_goto (tgt := 6) hC dX2_gatherGroup_67 (by decide) ?_
          have hp : ¬ fpr tb c4 t (ark tb u) = true := fun e => c_38 (by rw [← eu, ← et]; exact of_decide_eq_true e)
          rw [List.filter_cons_of_neg hp] at he
          exact ih (u + 1) g _ _ (by omega) (by omega) (by omega) he ho1 hg hf
        · refine o_iload hC dX2_gatherGroup_41 (by rfl) ?_
          refine o_iconst (v := nI 4) hC dX2_gatherGroup_43 (by decide +kernel) ?_
          refine o_icmp_ge (tgt := 61) hC dX2_gatherGroup_44 (by decide) (fun c_44 => ?_) (fun c_44 => ?_)
          · refine o_iinc hC dX2_gatherGroup_61 (by rfl) (rl_inc _) (Nat.le_of_ble_eq_true rfl) ?_
            refine o_iinc hC dX2_gatherGroup_64 (by rfl) (rl_inc _) (Nat.le_of_ble_eq_true rfl) ?_
            refine o_goto (tgt := 6) hC dX2_gatherGroup_67 (by decide) ?_
            have hp : fpr tb c4 t (ark tb u) = true := decide_eq_true (by rw [eu, et]; first | exact c_38 | exact Classical.not_not.mp c_38)
            rw [List.filter_cons_of_pos hp, ← List.singleton_append, ← List.append_assoc] at he
            have el : (g ++ [ark tb u]).length = g.length + 1 := by rw [List.length_append]; rfl
            rw [← el]
            have h4g : ¬ g.length < 4 := fun q => nI_ge q (by decide) c_44
            refine ih (u + 1) (g ++ [ark tb u]) _ _ (by omega) (by omega) (by omega) he ho1 (fun j j1 j2 => ?_) hf
            rw [ark_app_l (show j < g.length by omega)]
            exact hg j (by omega) j2
          · refine o_aload_n hC dX2_gatherGroup_47 (by rfl) ?_
            refine o_getf hC (fX2_31 hC rfl) dX2_gatherGroup_48 (by repeat (first | with_reducible assumption | (rw [rl_u_s]; done) | (rw [rl_u_s]; rfl) | rw [rl_u_n (by first | with_reducible assumption | omega)])) (by first | rfl | with_reducible assumption) ?_
            refine o_iload hC dX2_gatherGroup_51 (by rfl) ?_
            refine o_aload_n hC dX2_gatherGroup_53 (by rfl) ?_
            refine o_getf hC (fX2_106 hC rfl) dX2_gatherGroup_54 (by repeat (first | with_reducible assumption | (rw [rl_u_s]; done) | (rw [rl_u_s]; rfl) | rw [rl_u_n (by first | with_reducible assumption | omega)])) (by first | rfl | with_reducible assumption) ?_
            refine o_iload hC dX2_gatherGroup_57 (by rfl) ?_
            refine o_aaldN (t0 := 3) hC rfl dX2_gatherGroup_59 (by repeat (first | with_reducible assumption | (rw [rl_u_s]; done) | (rw [rl_u_s]; rfl) | rw [rl_u_n (by first | with_reducible assumption | omega)])) (by omega) (by decide) ?_
            rw [t3 _ (by omega)]
            show rl_G X _ _ _ (.ref _ :: _) _ _ _ _
            refine o_aastN (t0 := 3) hC rfl rfl dX2_gatherGroup_60 o8 g1 (by rcases Nat.lt_or_ge g.length 4 with q | q; exact q; exact absurd (nI_le q (by omega)) c_44) (by decide) ?_
            refine o_iinc hC dX2_gatherGroup_61 (by rfl) (rl_inc _) (Nat.le_of_ble_eq_true rfl) ?_
            refine o_iinc hC dX2_gatherGroup_64 (by rfl) (rl_inc _) (Nat.le_of_ble_eq_true rfl) ?_
            refine o_goto (tgt := 6) hC dX2_gatherGroup_67 (by decide) ?_
            have hp : fpr tb c4 t (ark tb u) = true := decide_eq_true (by rw [eu, et]; first | exact c_38 | exact Classical.not_not.mp c_38)
            rw [List.filter_cons_of_pos hp, ← List.singleton_append, ← List.append_assoc] at he
            have el : (g ++ [ark tb u]).length = g.length + 1 := by rw [List.length_append]; rfl
            rw [← el]
            refine ih (u + 1) (g ++ [ark tb u]) _ _ (by omega) (by omega) (by omega) he (ho1.gr rl_u_s (fun q q1 q2 q3 => rl_u_n q3)) (fun j j1 j2 => ?_) (fun q hq => by rw [rl_u_n (by omega)]; exact hf q hq)
            unfold va_up
            by_cases q : j = g.length
            · rw [if_pos q, q, ark_app_r]
              exact ⟨P1 u, hb2, rfl, hrow1 u (by omega)⟩
            · rw [if_neg q, ark_app_l (show j < g.length by omega)]
              exact hg j (by omega) j2
  show rl_G X (rl_e D ids H0) 0 [some (.ref o), some (.ref a1), some (.int (nI t)), some (.int (nI c4)), none, none] [] h n 0 0
  refine o_iconst (v := nI 0) hC dX2_gatherGroup_0 (by decide +kernel) ?_
  refine o_istore hC dX2_gatherGroup_1 (Nat.le_of_ble_eq_true rfl) ?_
  refine o_iload_n hC dX2_gatherGroup_3 (by rfl) ?_
  refine o_istore hC dX2_gatherGroup_4 (Nat.le_of_ble_eq_true rfl) ?_
  exact loop (tb.length - t) t [] h gp (by omega) (Nat.le_refl _) (Nat.zero_le _) rfl ho (fun j j1 _ => absurd j1 (Nat.not_lt_zero j)) rl_fr.rf

set_option maxHeartbeats 4000000 in
set_option maxRecDepth 100000 in
theorem cp_X2_turnGroup (l : Launch) (D : va_G) (ids : Nat → ClassId) (H0 : Heap) (h : rl_H) (n : Nat) (o so a1 sz1 wd1 : Nat) (gp : Nat → Option Nat) (P1 : Nat → Nat) (S1 : tb_S) (g : List arow) (ho : op_sh ids h o so gp) (hi : tb_at ids h a1 sz1 wd1 P1 S1) (hoi : o + 22 ≤ a1 ∨ a1 + 402 ≤ o) (hk4 : g.length ≤ 4) (hg : cgr gp a1 wd1 S1 g) (hgo : ∀ r ∈ g, wok r.2) : rl_Met l (rl_e D ids H0) rl_BW rl_Ns yX2_turnGroup cX2_turnGroup 3 (some .boolean) ({ frames := 3, cells := 0, slots := 0, locals := 81 }) [.ref o, .int (nI g.length)] h n (fun v h' n' => ∃ x : Int32, v = some (.int x) ∧ n' = n ∧ op_sh ids h' o so gp ∧ rl_fr h h' o (o + 22) ∧ ((x = nI 1 ∧ ∃ ns : List (List tT), fnn g = some ns ∧ (1 < g.length → ∀ i : Nat, i < g.length → wat ids h' (o + 10 + 3 * i) (ns.getD i []))) ∨ (x = nI 0 ∧ fnn g = none))) := by
  refine rl_Met.of (by decide +kernel) (Nat.le_of_ble_eq_true rfl) ?_
  intro X hC hB
  have loop : 1 < g.length → ∀ (m j : Nat) (h1 : rl_H) (ns : List (List tT)), j + m = g.length → ns.length = j → fnf g g.length 0 [] = fnf g m j ns → op_sh ids h1 o so gp → (∀ i : Nat, i < ns.length → wat ids h1 (o + 10 + 3 * i) (ns.getD i [])) → rl_fr h h1 o (o + 22) → rl_G X (rl_e D ids H0) 2 [some (.ref o), some (.int (nI g.length)), some (.int (nI j))] [] h1 n 0 0 := by
    intro h1k m
    induction m with
    | zero =>
      intro j h1 ns hm hns he ho1 hw hf
      refine o_iload_n hC dX2_turnGroup_2 (by rfl) ?_
      refine o_iload_n hC dX2_turnGroup_3 (by rfl) ?_
      refine o_icmp_ge (tgt := 45) hC dX2_turnGroup_4 (by decide) (fun c_4 => ?_) (fun c_4 => ?_)
      · refine o_iconst (v := nI 1) hC dX2_turnGroup_45 (by decide +kernel) ?_
        refine o_zret hC hB dX2_turnGroup_46 (by first | rfl | decide +kernel) (Nat.le_of_ble_eq_true rfl) (Nat.le_of_ble_eq_true rfl) ?_
        exact ⟨_, rfl, rfl, ho1, hf, Or.inl ⟨rfl, ns, by unfold fnn; rw [if_pos h1k, he]; rfl, fun _ i hi => hw i (by omega)⟩⟩
      · exact absurd (nI_le (by omega) (by omega)) c_4
    | succ m ih =>
      intro j h1 ns hm hns he ho1 hw hf
      obtain ⟨o0, ⟨ds, od⟩, ⟨mf0, mg0, mk0, om⟩, ⟨tp, o7, o7b⟩, o8, ⟨kc, o9⟩, ot⟩ := id ho1
      obtain ⟨i, hi80, hgj, hgr⟩ := hg j (by omega) (by omega)
      obtain ⟨e1, e2, e3⟩ := (hi.eqv (h' := h1) (fun q q1 q2 => hf q (by omega))).2.2.2.1 i hi80
      obtain ⟨wf, wg, wk, tw⟩ := ot j (by omega)
      have egr : tls (S1.2.1 i) (S1.2.2.1 i) (S1.2.2.2 i) = (ark g j).2 := congrArg Prod.snd hgr
      have hwk : wok (ark g j).2 := hgo _ (by rw [ark_at (show j < g.length by omega)]; exact List.getElem_mem _)
      refine o_iload_n hC dX2_turnGroup_2 (by rfl) ?_
      refine o_iload_n hC dX2_turnGroup_3 (by rfl) ?_
      refine o_icmp_ge (tgt := 45) hC dX2_turnGroup_4 (by decide) (fun c_4 => ?_) (fun c_4 => ?_)
      · first | exact absurd c_4 (nI_ge (by omega) (by omega)) | exact absurd c_9 (nI_ge (by omega) (by omega))
      · refine o_iload_n hC dX2_turnGroup_7 (by rfl) ?_
        refine o_iconst (v := nI 1) hC dX2_turnGroup_8 (by decide +kernel) ?_
        refine o_icmp_le (tgt := 45) hC dX2_turnGroup_9 (by decide) (fun c_9 => ?_) (fun c_9 => ?_)
        · first | exact absurd c_4 (nI_ge (by omega) (by omega)) | exact absurd c_9 (nI_ge (by omega) (by omega))
        · refine o_aload_n hC dX2_turnGroup_12 (by rfl) ?_
          refine o_getf hC (fX2_12 hC rfl) dX2_turnGroup_13 (by repeat (first | with_reducible assumption | (rw [rl_u_s]; done) | (rw [rl_u_s]; rfl) | rw [rl_u_n (by first | with_reducible assumption | omega)])) (by first | rfl | with_reducible assumption) ?_
          refine o_aload_n hC dX2_turnGroup_16 (by rfl) ?_
          refine o_getf hC (fX2_31 hC rfl) dX2_turnGroup_17 (by repeat (first | with_reducible assumption | (rw [rl_u_s]; done) | (rw [rl_u_s]; rfl) | rw [rl_u_n (by first | with_reducible assumption | omega)])) (by first | rfl | with_reducible assumption) ?_
          refine o_iload_n hC dX2_turnGroup_20 (by rfl) ?_
          refine o_aaldN (t0 := 3) hC rfl dX2_turnGroup_21 o8 (by omega) (by decide) ?_
          rw [hgj]
          show rl_G X _ _ _ (.ref _ :: _) _ _ _ _
          refine o_getf hC (fX2_116 hC rfl) dX2_turnGroup_22 (by repeat (first | with_reducible assumption | (rw [rl_u_s]; done) | (rw [rl_u_s]; rfl) | rw [rl_u_n (by first | with_reducible assumption | omega)])) (by first | rfl | with_reducible assumption) ?_
          refine o_aload_n hC dX2_turnGroup_25 (by rfl) ?_
          refine o_getf hC (fX2_25 hC rfl) dX2_turnGroup_26 (by repeat (first | with_reducible assumption | (rw [rl_u_s]; done) | (rw [rl_u_s]; rfl) | rw [rl_u_n (by first | with_reducible assumption | omega)])) (by first | rfl | with_reducible assumption) ?_
          refine o_iload_n hC dX2_turnGroup_29 (by rfl) ?_
          refine o_aaldN (t0 := 4) hC rfl dX2_turnGroup_30 o7 (by omega) (by decide) ?_
          rw [o7b _ (by omega)]
          show rl_G X _ _ _ (.ref _ :: _) _ _ _ _
          refine o_callV2 hC rl_BW_good rl_Ns_nw (by exact hB.2.2.2.2.2) YX0_not IX0_not VX0_not (mX2_151 hC) (by rw [hB.1]; exact ct_X0_not l D ids H0 _ _ (o + 1) (a1 + 2 + 5 * i + 2) (o + 10 + 3 * j) _ _ ds _ _ _ _ od e3 tw (by omega) (by omega) (by omega)) (by exact od.1) rfl rfl (Nat.le_of_ble_eq_true rfl) (by rw [hB.2.1]; first | exact Nat.le_of_ble_eq_true rfl | (dsimp only; omega)) (by rw [hB.2.1]; first | exact Nat.le_of_ble_eq_true rfl | (dsimp only; omega)) (by rw [hB.2.1]; first | exact Nat.le_of_ble_eq_true rfl | (dsimp only; omega)) (by rw [hB.2.1]; first | exact Nat.le_of_ble_eq_true rfl | (dsimp only; omega)) dX2_turnGroup_31 (fun v h_31 n_31 p_31 => ?_)
          obtain ⟨x, rfl, rfl, hx1, r1, r2, r3⟩ := p_31
          have w0 := no_out egr hwk.2.1 hx1 r2
          have ho2 : op_sh ids h_31 o so gp := ho1.tu (by omega) ⟨_, r1⟩ ⟨_, _, _, r2⟩ (fun q q1 q2 => r3 q (by omega) (by omega))
          have hf2 : rl_fr h h_31 o (o + 22) := fun q hq => (r3 q (by omega) (by omega)).trans (hf q hq)
          try dsimp only [Option.toList, List.cons_append, List.nil_append]
          refine o_if_ne (tgt := 39) hC dX2_turnGroup_34 (by decide) (fun c_34 => ?_) (fun c_34 => ?_)
          · refine o_iinc hC dX2_turnGroup_39 (by rfl) (rl_inc _) (Nat.le_of_ble_eq_true rfl) ?_
            refine o_goto (tgt := 2) hC dX2_turnGroup_42 (by decide) ?_
            rcases w0 with ⟨W, z1, z2, z3⟩ | ⟨-, z2⟩
            rotate_left
            · exact absurd z2 c_34
            refine ih (j + 1) _ (ns ++ [W]) (by omega) (by rw [List.length_append, hns]; rfl) (by rw [he, fnf, z1]; rfl) ho2 (fun i hi => ?_) hf2
            rw [List.length_append] at hi
            by_cases q : i = ns.length
            · rw [q, getD_app_r, hns]
              exact z3
            · have hi2 : i < ns.length + 1 := hi
              rw [getD_app_l (by omega)]
              exact (hw i (by omega)).eqv (fun q a b => r3 q (by omega) (by omega))
          · refine o_iconst (v := nI 0) hC dX2_turnGroup_37 (by decide +kernel) ?_
            refine o_zret hC hB dX2_turnGroup_38 (by first | rfl | decide +kernel) (Nat.le_of_ble_eq_true rfl) (Nat.le_of_ble_eq_true rfl) ?_
            rcases w0 with ⟨W, z1, z2, -⟩ | ⟨z1, z2⟩
            · exact absurd (c_34.symm.trans z2) (by decide +kernel)
            · exact ⟨_, rfl, rfl, ho2, hf2, Or.inr ⟨rfl, by unfold fnn; rw [if_pos h1k, he, fnf, z1]; rfl⟩⟩
  show rl_G X (rl_e D ids H0) 0 [some (.ref o), some (.int (nI g.length)), none] [] h n 0 0
  refine o_iconst (v := nI 0) hC dX2_turnGroup_0 (by decide +kernel) ?_
  refine o_istore_n hC dX2_turnGroup_1 (Nat.le_of_ble_eq_true rfl) ?_
  rcases Nat.lt_or_ge 1 g.length with h1k | h1k
  · exact loop h1k g.length 0 h [] (by omega) rfl rfl ho (fun i hi => absurd hi (Nat.not_lt_zero i)) rl_fr.rf
  · refine o_iload_n hC dX2_turnGroup_2 (by rfl) ?_
    refine o_iload_n hC dX2_turnGroup_3 (by rfl) ?_
    refine o_icmp_ge (tgt := 45) hC dX2_turnGroup_4 (by decide) (fun c_4 => ?_) (fun c_4 => ?_)
    · refine o_iconst (v := nI 1) hC dX2_turnGroup_45 (by decide +kernel) ?_
      refine o_zret hC hB dX2_turnGroup_46 (by first | rfl | decide +kernel) (Nat.le_of_ble_eq_true rfl) (Nat.le_of_ble_eq_true rfl) ?_
      exact ⟨_, rfl, rfl, ho, rl_fr.rf, Or.inl ⟨rfl, [], by unfold fnn; rw [if_neg (by omega)], fun q => absurd q (by omega)⟩⟩
    · refine o_iload_n hC dX2_turnGroup_7 (by rfl) ?_
      refine o_iconst (v := nI 1) hC dX2_turnGroup_8 (by decide +kernel) ?_
      refine o_icmp_le (tgt := 45) hC dX2_turnGroup_9 (by decide) (fun c_9 => ?_) (fun c_9 => ?_)
      · refine o_iconst (v := nI 1) hC dX2_turnGroup_45 (by decide +kernel) ?_
        refine o_zret hC hB dX2_turnGroup_46 (by first | rfl | decide +kernel) (Nat.le_of_ble_eq_true rfl) (Nat.le_of_ble_eq_true rfl) ?_
        exact ⟨_, rfl, rfl, ho, rl_fr.rf, Or.inl ⟨rfl, [], by unfold fnn; rw [if_neg (by omega)], fun q => absurd q (by omega)⟩⟩
      · exact absurd (nI_le (by omega) (by decide)) c_9

set_option maxHeartbeats 4000000 in
set_option maxRecDepth 100000 in
theorem cp_X2_makeWaysOfSet (l : Launch) (D : va_G) (ids : Nat → ClassId) (H0 : Heap) (h : rl_H) (n : Nat) (o so a1 sz1 wd1 : Nat) (gp : Nat → Option Nat) (P1 : Nat → Nat) (S1 : tb_S) (g : List arow) (s : Nat) (ns : List (List tT)) (ho : op_sh ids h o so gp) (hi : tb_at ids h a1 sz1 wd1 P1 S1) (hoi : o + 22 ≤ a1 ∨ a1 + 402 ≤ o) (hk4 : g.length ≤ 4) (hg : cgr gp a1 wd1 S1 g) (hgo : ∀ r ∈ g, wok r.2) (hns : ∀ i : Nat, i < g.length → inS s i = false → wat ids h (o + 10 + 3 * i) (ns.getD i [])) : rl_Met l (rl_e D ids H0) rl_BW rl_Ns yX2_makeWaysOfSet cX2_makeWaysOfSet 5 (some .boolean) ({ frames := 3, cells := 0, slots := 0, locals := 72 }) [.ref o, .int (nI s), .int (nI g.length)] h n (fun v h' n' => ∃ x : Int32, v = some (.int x) ∧ n' = n ∧ op_sh ids h' o so gp ∧ rl_fr h h' (o + 1) (o + 7) ∧ wres ids h' (o + 4) (fwf s g ns g.length 0 [(0, 0)]) x) := by
  obtain ⟨o0, -, ⟨mf0, mg0, mk0, om⟩, -, -, -, -⟩ := id ho
  refine rl_Met.of (by decide +kernel) (Nat.le_of_ble_eq_true rfl) ?_
  intro X hC hB
  have loop : ∀ (m j : Nat) (W : List tT) (o4 : Option Value) (h1 : rl_H), j + m = g.length → fwf s g ns g.length 0 [(0, 0)] = fwf s g ns m j W → op_sh ids h1 o so gp → wat ids h1 (o + 4) W → rl_fr h h1 (o + 1) (o + 7) → rl_G X (rl_e D ids H0) 9 [some (.ref o), some (.int (nI s)), some (.int (nI g.length)), some (.int (nI j)), o4] [] h1 n 0 0 := by
    intro m
    induction m with
    | zero =>
      intro j W o4 h1 hm he ho1 hW hf
      refine o_iload_n hC dX2_makeWaysOfSet_9 (by rfl) ?_
      refine o_iload_n hC dX2_makeWaysOfSet_10 (by rfl) ?_
      refine o_icmp_ge (tgt := 70) hC dX2_makeWaysOfSet_11 (by decide) (fun c_11 => ?_) (fun c_11 => ?_)
      · refine o_iconst (v := nI 1) hC dX2_makeWaysOfSet_70 (by decide +kernel) ?_
        refine o_zret hC hB dX2_makeWaysOfSet_71 (by first | rfl | decide +kernel) (Nat.le_of_ble_eq_true rfl) (Nat.le_of_ble_eq_true rfl) ?_
        exact ⟨_, rfl, rfl, ho1, hf, Or.inl ⟨W, by rw [he]; rfl, rfl, hW⟩⟩
      · exact absurd (nI_le (by omega) (by omega)) c_11
    | succ m ih =>
      intro j W o4 h1 hm he ho1 hW hf
      obtain ⟨o0, ⟨ds, od⟩, ⟨mf0, mg0, mk0, om⟩, ⟨tp, o7, o7b⟩, o8, ⟨kc, o9⟩, ot⟩ := id ho1
      obtain ⟨i, hi80, hgj, hgr⟩ := hg j (by omega) (by omega)
      obtain ⟨e1, e2, e3⟩ := (hi.eqv (h' := h1) (fun q q1 q2 => hf q (by omega))).2.2.2.1 i hi80
      obtain ⟨wf, wg, wk, tw⟩ := ot j (by omega)
      have egr : tls (S1.2.1 i) (S1.2.2.1 i) (S1.2.2.2 i) = (ark g j).2 := congrArg Prod.snd hgr
      have hwk : wok (ark g j).2 := hgo _ (by rw [ark_at (show j < g.length by omega)]; exact List.getElem_mem _)
      obtain ⟨mf, mg, hm4, hm5⟩ := id hW
      refine o_iload_n hC dX2_makeWaysOfSet_9 (by rfl) ?_
      refine o_iload_n hC dX2_makeWaysOfSet_10 (by rfl) ?_
      refine o_icmp_ge (tgt := 70) hC dX2_makeWaysOfSet_11 (by decide) (fun c_11 => ?_) (fun c_11 => ?_)
      · exact absurd c_11 (nI_ge (by omega) (by omega))
      · refine o_iload_n hC dX2_makeWaysOfSet_14 (by rfl) ?_
        refine o_iload_n hC dX2_makeWaysOfSet_15 (by rfl) ?_
        refine o_ishr hC dX2_makeWaysOfSet_16 ?_
        refine o_iconst (v := nI 1) hC dX2_makeWaysOfSet_17 (by decide +kernel) ?_
        refine o_iand hC dX2_makeWaysOfSet_18 ?_
        refine o_if_eq (tgt := 34) hC dX2_makeWaysOfSet_19 (by decide) (fun c_19 => ?_) (fun c_19 => ?_)
        · have hin : inS s j = false := by
            unfold inS
            rw [decide_eq_true (show fbt s j = 0 from c_19)]
            rfl
          obtain ⟨tf9, tg9, tw9, hnx⟩ := hns j (by omega) hin
          have hnl := tw9.2.2.2
          replace tw9 := tw9.kept hf (by omega)
          refine o_aload_n hC dX2_makeWaysOfSet_34 (by rfl) ?_
          refine o_getf hC (fX2_25 hC rfl) dX2_makeWaysOfSet_35 (by repeat (first | with_reducible assumption | (rw [rl_u_s]; done) | (rw [rl_u_s]; rfl) | rw [rl_u_n (by first | with_reducible assumption | omega)])) (by first | rfl | with_reducible assumption) ?_
          refine o_iload_n hC dX2_makeWaysOfSet_38 (by rfl) ?_
          refine o_aaldN (t0 := 4) hC rfl dX2_makeWaysOfSet_39 o7 (by omega) (by decide) ?_
          rw [o7b _ (by omega)]
          show rl_G X _ _ _ (.ref _ :: _) _ _ _ _
          refine o_astore hC dX2_makeWaysOfSet_40 (Nat.le_of_ble_eq_true rfl) ?_
          refine o_aload_n hC dX2_makeWaysOfSet_42 (by rfl) ?_
          refine o_getf hC (fX2_12 hC rfl) dX2_makeWaysOfSet_43 (by repeat (first | with_reducible assumption | (rw [rl_u_s]; done) | (rw [rl_u_s]; rfl) | rw [rl_u_n (by first | with_reducible assumption | omega)])) (by first | rfl | with_reducible assumption) ?_
          refine o_aload_n hC dX2_makeWaysOfSet_46 (by rfl) ?_
          refine o_getf hC (fX2_21 hC rfl) dX2_makeWaysOfSet_47 (by repeat (first | with_reducible assumption | (rw [rl_u_s]; done) | (rw [rl_u_s]; rfl) | rw [rl_u_n (by first | with_reducible assumption | omega)])) (by first | rfl | with_reducible assumption) ?_
          refine o_aload hC dX2_makeWaysOfSet_50 (by rfl) ?_
          refine o_aload_n hC dX2_makeWaysOfSet_52 (by rfl) ?_
          refine o_getf hC (fX2_21 hC rfl) dX2_makeWaysOfSet_53 (by repeat (first | with_reducible assumption | (rw [rl_u_s]; done) | (rw [rl_u_s]; rfl) | rw [rl_u_n (by first | with_reducible assumption | omega)])) (by first | rfl | with_reducible assumption) ?_
          refine o_callV3 hC rl_BW_good rl_Ns_nw (by exact hB.2.2.2.2.2) YX0_both IX0_both VX0_both (mX2_139 hC) (by rw [hB.1]; exact ct_X0_both l D ids H0 _ _ (o + 1) (o + 4) _ (o + 4) _ _ _ _ _ _ _ _ _ _ od hm4 tw9 hm4 (by omega) (by omega) (by omega)) (by exact od.1) rfl rfl (Nat.le_of_ble_eq_true rfl) (by rw [hB.2.1]; first | exact Nat.le_of_ble_eq_true rfl | (dsimp only; omega)) (by rw [hB.2.1]; first | exact Nat.le_of_ble_eq_true rfl | (dsimp only; omega)) (by rw [hB.2.1]; first | exact Nat.le_of_ble_eq_true rfl | (dsimp only; omega)) (by rw [hB.2.1]; first | exact Nat.le_of_ble_eq_true rfl | (dsimp only; omega)) dX2_makeWaysOfSet_56 (fun v h_56 n_56 p_56 => ?_)
          obtain ⟨x, rfl, rfl, s1⟩ := p_56
          have s2 := s1.f2
          have ho2 : op_sh ids h_56 o so gp := ho1.mk ⟨_, s1.1⟩ (s1.ws hm4 (by omega)) (fun q q1 q2 q3 => s2 q (by omega) (by omega))
          have hf2 : rl_fr h h_56 (o + 1) (o + 7) := fun q hq => (s2 q (by omega) (by omega)).trans (hf q hq)
          have w0 : wres ids h_56 (o + 4) (wst (tbo W (fnw s g ns j))) x := by
            unfold fnw
            rw [hin]
            exact bo_out hm5 hnx hm4.2.2.2 hnl s1
          try dsimp only [Option.toList, List.cons_append, List.nil_append]
          refine o_if_ne (tgt := 64) hC dX2_makeWaysOfSet_59 (by decide) (fun c_59 => ?_) (fun c_59 => ?_)
          · refine o_iinc hC dX2_makeWaysOfSet_64 (by rfl) (rl_inc _) (Nat.le_of_ble_eq_true rfl) ?_
            refine o_goto (tgt := 9) hC dX2_makeWaysOfSet_67 (by decide) ?_
            rcases w0 with ⟨W2, z1, z2, z3⟩ | ⟨-, z2⟩
            rotate_left
            · exact absurd z2 c_59
            exact ih (j + 1) W2 _ _ (by omega) (by rw [he, fwf, z1]; rfl) ho2 z3 hf2
          · refine o_iconst (v := nI 0) hC dX2_makeWaysOfSet_62 (by decide +kernel) ?_
            refine o_zret hC hB dX2_makeWaysOfSet_63 (by first | rfl | decide +kernel) (Nat.le_of_ble_eq_true rfl) (Nat.le_of_ble_eq_true rfl) ?_
            rcases w0 with ⟨W2, z1, z2, -⟩ | ⟨z1, z2⟩
            · exact absurd (c_59.symm.trans z2) (by decide +kernel)
            · exact ⟨_, rfl, rfl, ho2, hf2, Or.inr ⟨by rw [he, fwf, z1]; rfl, rfl⟩⟩
        · have hin : inS s j = true := by
            unfold inS
            rw [decide_eq_false (show ¬ fbt s j = 0 from c_19)]
            rfl
          have hnx := egr
          have hnl := e3.2.2.2
          refine o_aload_n hC dX2_makeWaysOfSet_22 (by rfl) ?_
          refine o_getf hC (fX2_31 hC rfl) dX2_makeWaysOfSet_23 (by repeat (first | with_reducible assumption | (rw [rl_u_s]; done) | (rw [rl_u_s]; rfl) | rw [rl_u_n (by first | with_reducible assumption | omega)])) (by first | rfl | with_reducible assumption) ?_
          refine o_iload_n hC dX2_makeWaysOfSet_26 (by rfl) ?_
          refine o_aaldN (t0 := 3) hC rfl dX2_makeWaysOfSet_27 o8 (by omega) (by decide) ?_
          rw [hgj]
          show rl_G X _ _ _ (.ref _ :: _) _ _ _ _
          refine o_getf hC (fX2_116 hC rfl) dX2_makeWaysOfSet_28 (by repeat (first | with_reducible assumption | (rw [rl_u_s]; done) | (rw [rl_u_s]; rfl) | rw [rl_u_n (by first | with_reducible assumption | omega)])) (by first | rfl | with_reducible assumption) ?_
          refine o_goto (tgt := 40) hC dX2_makeWaysOfSet_31 (by decide) ?_
          refine o_astore hC dX2_makeWaysOfSet_40 (Nat.le_of_ble_eq_true rfl) ?_
          refine o_aload_n hC dX2_makeWaysOfSet_42 (by rfl) ?_
          refine o_getf hC (fX2_12 hC rfl) dX2_makeWaysOfSet_43 (by repeat (first | with_reducible assumption | (rw [rl_u_s]; done) | (rw [rl_u_s]; rfl) | rw [rl_u_n (by first | with_reducible assumption | omega)])) (by first | rfl | with_reducible assumption) ?_
          refine o_aload_n hC dX2_makeWaysOfSet_46 (by rfl) ?_
          refine o_getf hC (fX2_21 hC rfl) dX2_makeWaysOfSet_47 (by repeat (first | with_reducible assumption | (rw [rl_u_s]; done) | (rw [rl_u_s]; rfl) | rw [rl_u_n (by first | with_reducible assumption | omega)])) (by first | rfl | with_reducible assumption) ?_
          refine o_aload hC dX2_makeWaysOfSet_50 (by rfl) ?_
          refine o_aload_n hC dX2_makeWaysOfSet_52 (by rfl) ?_
          refine o_getf hC (fX2_21 hC rfl) dX2_makeWaysOfSet_53 (by repeat (first | with_reducible assumption | (rw [rl_u_s]; done) | (rw [rl_u_s]; rfl) | rw [rl_u_n (by first | with_reducible assumption | omega)])) (by first | rfl | with_reducible assumption) ?_
          refine o_callV3 hC rl_BW_good rl_Ns_nw (by exact hB.2.2.2.2.2) YX0_both IX0_both VX0_both (mX2_139 hC) (by rw [hB.1]; exact ct_X0_both l D ids H0 _ _ (o + 1) (o + 4) _ (o + 4) _ _ _ _ _ _ _ _ _ _ od hm4 e3 hm4 (by omega) (by omega) (by omega)) (by exact od.1) rfl rfl (Nat.le_of_ble_eq_true rfl) (by rw [hB.2.1]; first | exact Nat.le_of_ble_eq_true rfl | (dsimp only; omega)) (by rw [hB.2.1]; first | exact Nat.le_of_ble_eq_true rfl | (dsimp only; omega)) (by rw [hB.2.1]; first | exact Nat.le_of_ble_eq_true rfl | (dsimp only; omega)) (by rw [hB.2.1]; first | exact Nat.le_of_ble_eq_true rfl | (dsimp only; omega)) dX2_makeWaysOfSet_56 (fun v h_56 n_56 p_56 => ?_)
          obtain ⟨x, rfl, rfl, s1⟩ := p_56
          have s2 := s1.f2
          have ho2 : op_sh ids h_56 o so gp := ho1.mk ⟨_, s1.1⟩ (s1.ws hm4 (by omega)) (fun q q1 q2 q3 => s2 q (by omega) (by omega))
          have hf2 : rl_fr h h_56 (o + 1) (o + 7) := fun q hq => (s2 q (by omega) (by omega)).trans (hf q hq)
          have w0 : wres ids h_56 (o + 4) (wst (tbo W (fnw s g ns j))) x := by
            unfold fnw
            rw [hin]
            exact bo_out hm5 hnx hm4.2.2.2 hnl s1
          try dsimp only [Option.toList, List.cons_append, List.nil_append]
          refine o_if_ne (tgt := 64) hC dX2_makeWaysOfSet_59 (by decide) (fun c_59 => ?_) (fun c_59 => ?_)
          · refine o_iinc hC dX2_makeWaysOfSet_64 (by rfl) (rl_inc _) (Nat.le_of_ble_eq_true rfl) ?_
            refine o_goto (tgt := 9) hC dX2_makeWaysOfSet_67 (by decide) ?_
            rcases w0 with ⟨W2, z1, z2, z3⟩ | ⟨-, z2⟩
            rotate_left
            · exact absurd z2 c_59
            exact ih (j + 1) W2 _ _ (by omega) (by rw [he, fwf, z1]; rfl) ho2 z3 hf2
          · refine o_iconst (v := nI 0) hC dX2_makeWaysOfSet_62 (by decide +kernel) ?_
            refine o_zret hC hB dX2_makeWaysOfSet_63 (by first | rfl | decide +kernel) (Nat.le_of_ble_eq_true rfl) (Nat.le_of_ble_eq_true rfl) ?_
            rcases w0 with ⟨W2, z1, z2, -⟩ | ⟨z1, z2⟩
            · exact absurd (c_59.symm.trans z2) (by decide +kernel)
            · exact ⟨_, rfl, rfl, ho2, hf2, Or.inr ⟨by rw [he, fwf, z1]; rfl, rfl⟩⟩
  show rl_G X (rl_e D ids H0) 0 [some (.ref o), some (.int (nI s)), some (.int (nI g.length)), none, none] [] h n 0 0
  refine o_aload_n hC dX2_makeWaysOfSet_0 (by rfl) ?_
  refine o_getf hC (fX2_21 hC rfl) dX2_makeWaysOfSet_1 (by repeat (first | with_reducible assumption | (rw [rl_u_s]; done) | (rw [rl_u_s]; rfl) | rw [rl_u_n (by first | with_reducible assumption | omega)])) (by first | rfl | with_reducible assumption) ?_
  refine o_callV0 hC rl_BW_good rl_Ns_nw (by exact hB.2.2.2.2.2) YX6_becomeTrue IX6_becomeTrue VX6_becomeTrue (mX2_179 hC) (by rw [hB.1]; exact ct_X6_becomeTrue l D ids H0 _ _ (o + 4) _ _ _ om) (by exact om.1) rfl rfl (Nat.le_of_ble_eq_true rfl) (by rw [hB.2.1]; first | exact Nat.le_of_ble_eq_true rfl | (dsimp only; omega)) (by rw [hB.2.1]; first | exact Nat.le_of_ble_eq_true rfl | (dsimp only; omega)) (by rw [hB.2.1]; first | exact Nat.le_of_ble_eq_true rfl | (dsimp only; omega)) (by rw [hB.2.1]; first | exact Nat.le_of_ble_eq_true rfl | (dsimp only; omega)) dX2_makeWaysOfSet_4 (fun v h_4 n_4 p_4 => ?_)
  obtain ⟨rfl, rfl, p1, p2⟩ := p_4
  have wT : wat ids h_4 (o + 4) [(0, 0)] := by
    have := p1.wat
    have e9 : tls (vp_updL mf0 0 0) (vp_updL mg0 0 0) 1 = [((0 : Int64), (0 : Int64))] := by
      show [(vp_updL mf0 0 0 0, vp_updL mg0 0 0 0)] = _
      rw [up_at, up_at]
    rw [e9] at this
    exact this
  try dsimp only [Option.toList, List.cons_append, List.nil_append]
  refine o_iconst (v := nI 0) hC dX2_makeWaysOfSet_7 (by decide +kernel) ?_
  refine o_istore_n hC dX2_makeWaysOfSet_8 (Nat.le_of_ble_eq_true rfl) ?_
  exact loop g.length 0 [(0, 0)] _ _ (by omega) rfl (ho.mk (ho.2.1.eqv (fun q q1 q2 => p2 q (by omega))) ⟨_, _, _, p1⟩ (fun q q1 q2 q3 => p2 q (by omega))) wT (p2.wd (by omega) (by omega))

set_option maxHeartbeats 4000000 in
set_option maxRecDepth 100000 in
theorem cp_X2_foldedNumber (l : Launch) (D : va_G) (ids : Nat → ClassId) (H0 : Heap) (h : rl_H) (n : Nat) (o so a1 sz1 wd1 : Nat) (gp : Nat → Option Nat) (P1 : Nat → Nat) (S1 : tb_S) (g : List arow) (s nd c5 kd : Nat) (f0 f1 f2 f3 f4 f7 f8 : Int32) (ho : op_sh ids h o so gp) (hi : tb_at ids h a1 sz1 wd1 P1 S1) (hoi : o + 22 ≤ a1 ∨ a1 + 402 ≤ o) (hk4 : g.length ≤ 4) (hg : cgr gp a1 wd1 S1 g) (hgo : ∀ r ∈ g, wok r.2) (hnd : h nd = some (.inr (1, [.int f0, .int f1, .int f2, .int f3, .int f4, .int (nI c5), .int (nI kd), .int f7, .int f8]))) (h5 : c5 < wd1) (hw16 : wd1 ≤ 6) (h6 : kd ≤ 3) : rl_Met l (rl_e D ids H0) rl_BW rl_Ns yX2_foldedNumber cX2_foldedNumber 10 (some .int) ({ frames := 1, cells := 0, slots := 0, locals := 40 }) [.ref o, .ref nd, .int (nI s), .int (nI g.length)] h n (fun v h' n' => v = some (.int (fpick kd (ffn s c5 g g.length 0 (0, 0, 0, 0)))) ∧ h' = h ∧ n' = n) := by
  obtain ⟨o0, -, -, -, o8, -, -⟩ := id ho
  refine rl_Met.of (by decide +kernel) (Nat.le_of_ble_eq_true rfl) ?_
  intro X hC hB
  have loop : ∀ (m j : Nat) (st : fSt) (o9v : Option Value), j + m = g.length → st.1 ≤ j → ffn s c5 g g.length 0 (0, 0, 0, 0) = ffn s c5 g m j st → rl_G X (rl_e D ids H0) 15 [some (.ref o), some (.ref nd), some (.int (nI s)), some (.int (nI g.length)), some (.int (nI st.1)), some (.int st.2.1), some (.int st.2.2.1), some (.int st.2.2.2), some (.int (nI j)), o9v] [] h n 0 0 := by
    intro m
    induction m with
    | zero =>
      intro j st o9v hm hst he
      refine o_iload hC dX2_foldedNumber_15 (by rfl) ?_
      refine o_iload_n hC dX2_foldedNumber_17 (by rfl) ?_
      refine o_icmp_ge (tgt := 101) hC dX2_foldedNumber_18 (by decide) (fun c_18 => ?_) (fun c_18 => ?_)
      · refine o_aload_n hC dX2_foldedNumber_101 (by rfl) ?_
        refine o_getf hC (fX2_125 hC rfl) dX2_foldedNumber_102 (by repeat (first | with_reducible assumption | (rw [rl_u_s]; done) | (rw [rl_u_s]; rfl) | rw [rl_u_n (by first | with_reducible assumption | omega)])) (by first | rfl | with_reducible assumption) ?_
        rcases (show kd = 0 ∨ kd = 1 ∨ kd = 2 ∨ kd = 3 by omega) with rfl | rfl | rfl | rfl
        · refine o_tableIn (off := 27) (tgt := 132) hC dX2_foldedNumber_105 (by decide +kernel) (by decide +kernel) (by decide +kernel) (by decide) ?_
          refine o_iload hC dX2_foldedNumber_132 (by rfl) ?_
          refine o_iret hC hB dX2_foldedNumber_134 (Nat.le_of_ble_eq_true rfl) (Nat.le_of_ble_eq_true rfl) ?_
          exact ⟨by rw [he]; rfl, rfl, rfl⟩
        · refine o_tableIn (off := 30) (tgt := 135) hC dX2_foldedNumber_105 (by decide +kernel) (by decide +kernel) (by decide +kernel) (by decide) ?_
          refine o_iload hC dX2_foldedNumber_135 (by rfl) ?_
          refine o_iret hC hB dX2_foldedNumber_137 (Nat.le_of_ble_eq_true rfl) (Nat.le_of_ble_eq_true rfl) ?_
          exact ⟨by rw [he]; rfl, rfl, rfl⟩
        · refine o_tableIn (off := 33) (tgt := 138) hC dX2_foldedNumber_105 (by decide +kernel) (by decide +kernel) (by decide +kernel) (by decide) ?_
          refine o_iload hC dX2_foldedNumber_138 (by rfl) ?_
          refine o_iret hC hB dX2_foldedNumber_140 (Nat.le_of_ble_eq_true rfl) (Nat.le_of_ble_eq_true rfl) ?_
          exact ⟨by rw [he]; rfl, rfl, rfl⟩
        · refine o_tableOut (tgt := 141) hC dX2_foldedNumber_105 (by decide +kernel) (by decide) ?_
          refine o_iload hC dX2_foldedNumber_141 (by rfl) ?_
          refine o_iret hC hB dX2_foldedNumber_143 (Nat.le_of_ble_eq_true rfl) (Nat.le_of_ble_eq_true rfl) ?_
          exact ⟨by rw [he]; rfl, rfl, rfl⟩
      · exact absurd (nI_le (by omega) (by omega)) c_18
    | succ m ih =>
      intro j st o9v hm hst he
      obtain ⟨i, hi80, hgj, hgr⟩ := hg j (by omega) (by omega)
      obtain ⟨e1, e2, e3⟩ := hi.2.2.2.1 i hi80
      have ex : acg (ark g j) c5 = S1.1 i c5 := by
        show (ark g j).1.getD c5 0 = _
        rw [← hgr, rsg_get h5]
      refine o_iload hC dX2_foldedNumber_15 (by rfl) ?_
      refine o_iload_n hC dX2_foldedNumber_17 (by rfl) ?_
      refine o_icmp_ge (tgt := 101) hC dX2_foldedNumber_18 (by decide) (fun c_18 => ?_) (fun c_18 => ?_)
      · exact absurd c_18 (nI_ge (by omega) (by omega))
      · refine o_iload_n hC dX2_foldedNumber_21 (by rfl) ?_
        refine o_iload hC dX2_foldedNumber_22 (by rfl) ?_
        refine o_ishr hC dX2_foldedNumber_24 ?_
        refine o_iconst (v := nI 1) hC dX2_foldedNumber_25 (by decide +kernel) ?_
        refine o_iand hC dX2_foldedNumber_26 ?_
        refine o_if_eq (tgt := 95) hC dX2_foldedNumber_27 (by decide) (fun c_27 => ?_) (fun c_27 => ?_)
        · refine o_iinc hC dX2_foldedNumber_95 (by rfl) (rl_inc _) (Nat.le_of_ble_eq_true rfl) ?_
          refine o_goto (tgt := 15) hC dX2_foldedNumber_98 (by decide) ?_
          have hin : inS s j = false := by
            unfold inS
            rw [decide_eq_true (show fbt s j = 0 from c_27)]
            rfl
          exact ih (j + 1) st _ (by omega) (by omega) (by rw [he, ffn, hin]; rfl)
        · refine o_aload_n hC dX2_foldedNumber_30 (by rfl) ?_
          refine o_getf hC (fX2_31 hC rfl) dX2_foldedNumber_31 (by repeat (first | with_reducible assumption | (rw [rl_u_s]; done) | (rw [rl_u_s]; rfl) | rw [rl_u_n (by first | with_reducible assumption | omega)])) (by first | rfl | with_reducible assumption) ?_
          refine o_iload hC dX2_foldedNumber_34 (by rfl) ?_
          refine o_aaldN (t0 := 3) hC rfl dX2_foldedNumber_36 o8 (by omega) (by decide) ?_
          rw [hgj]
          show rl_G X _ _ _ (.ref _ :: _) _ _ _ _
          refine o_getf hC (fX2_109 hC rfl) dX2_foldedNumber_37 (by repeat (first | with_reducible assumption | (rw [rl_u_s]; done) | (rw [rl_u_s]; rfl) | rw [rl_u_n (by first | with_reducible assumption | omega)])) (by first | rfl | with_reducible assumption) ?_
          refine o_aload_n hC dX2_foldedNumber_40 (by rfl) ?_
          refine o_getf hC (fX2_122 hC rfl) dX2_foldedNumber_41 (by repeat (first | with_reducible assumption | (rw [rl_u_s]; done) | (rw [rl_u_s]; rfl) | rw [rl_u_n (by first | with_reducible assumption | omega)])) (by first | rfl | with_reducible assumption) ?_
          refine o_ialdN (t0 := 0) (k := c5) hC rfl dX2_foldedNumber_44 e2 (by omega) (by decide) ?_
          refine o_istore hC dX2_foldedNumber_45 (Nat.le_of_ble_eq_true rfl) ?_
          refine o_iload hC dX2_foldedNumber_47 (by rfl) ?_
          refine o_iload hC dX2_foldedNumber_49 (by rfl) ?_
          refine o_iadd hC dX2_foldedNumber_51 ?_
          refine o_istore hC dX2_foldedNumber_52 (Nat.le_of_ble_eq_true rfl) ?_
          refine o_iload hC dX2_foldedNumber_54 (by rfl) ?_
          refine o_if_ne (tgt := 64) hC dX2_foldedNumber_56 (by decide) (fun c_56 => ?_) (fun c_56 => ?_)
          · refine o_iload hC dX2_foldedNumber_64 (by rfl) ?_
            refine o_iload hC dX2_foldedNumber_66 (by rfl) ?_
            refine o_mmin hC (by exact hB.2.2.2.2.2) (rl_bw 491 (by decide +kernel) (by decide +kernel)) SJ9_min_7cf53 YJ9_min_7cf53.2.1 YJ9_min_7cf53.1 (by rw [hB.2.1]; first | exact Nat.le_of_ble_eq_true rfl | (dsimp only; omega)) (by rw [hB.2.1]; first | exact Nat.le_of_ble_eq_true rfl | (dsimp only; omega)) (by rw [hB.2.1]; first | exact Nat.le_of_ble_eq_true rfl | (dsimp only; omega)) (by rw [hB.2.1]; first | exact Nat.le_of_ble_eq_true rfl | (dsimp only; omega)) dX2_foldedNumber_68 ?_
            refine o_istore hC dX2_foldedNumber_71 (Nat.le_of_ble_eq_true rfl) ?_
            refine o_iload hC dX2_foldedNumber_73 (by rfl) ?_
            refine o_if_ne (tgt := 83) hC dX2_foldedNumber_75 (by decide) (fun c_75 => ?_) (fun c_75 => ?_)
            · refine o_iload hC dX2_foldedNumber_83 (by rfl) ?_
              refine o_iload hC dX2_foldedNumber_85 (by rfl) ?_
              refine o_mmax hC (by exact hB.2.2.2.2.2) (rl_bw 492 (by decide +kernel) (by decide +kernel)) SJ9_max_7cf53 YJ9_max_7cf53.2.1 YJ9_max_7cf53.1 (by rw [hB.2.1]; first | exact Nat.le_of_ble_eq_true rfl | (dsimp only; omega)) (by rw [hB.2.1]; first | exact Nat.le_of_ble_eq_true rfl | (dsimp only; omega)) (by rw [hB.2.1]; first | exact Nat.le_of_ble_eq_true rfl | (dsimp only; omega)) (by rw [hB.2.1]; first | exact Nat.le_of_ble_eq_true rfl | (dsimp only; omega)) dX2_foldedNumber_87 ?_
              refine o_istore hC dX2_foldedNumber_90 (Nat.le_of_ble_eq_true rfl) ?_
              refine o_iinc hC dX2_foldedNumber_92 (by rfl) (rl_inc _) (Nat.le_of_ble_eq_true rfl) ?_
              refine o_iinc hC dX2_foldedNumber_95 (by rfl) (rl_inc _) (Nat.le_of_ble_eq_true rfl) ?_
              refine o_goto (tgt := 15) hC dX2_foldedNumber_98 (by decide) ?_
              have hin : inS s j = true := by
                unfold inS
                rw [decide_eq_false (show ¬ fbt s j = 0 from c_27)]
                rfl
              first
              | exact absurd c_56 c_75
              | exact absurd c_75 c_56
              | (have h0 : st.1 = 0 := nI_inj2 (by omega) (by omega) (by first | exact c_56 | exact Classical.not_not.mp c_56); exact ih (j + 1) (st.1 + 1, st.2.1 + S1.1 i c5, S1.1 i c5, S1.1 i c5) _ (by omega) (by dsimp only; omega) (by rw [he, ffn, hin, ex]; unfold fstep; rw [if_pos rfl, if_pos h0, if_pos h0]))
              | (have h0 : st.1 ≠ 0 := fun e => c_56 (by rw [e]; rfl); exact ih (j + 1) (st.1 + 1, st.2.1 + S1.1 i c5, if S1.1 i c5 < st.2.2.1 then S1.1 i c5 else st.2.2.1, if st.2.2.2 < S1.1 i c5 then S1.1 i c5 else st.2.2.2) _ (by omega) (by dsimp only; omega) (by rw [he, ffn, hin, ex]; unfold fstep; rw [if_pos rfl, if_neg h0, if_neg h0]))
            · refine o_iload hC dX2_foldedNumber_78 (by rfl) ?_
              refine o_goto (tgt := 90) hC dX2_foldedNumber_80 (by decide) ?_
              refine o_istore hC dX2_foldedNumber_90 (Nat.le_of_ble_eq_true rfl) ?_
              refine o_iinc hC dX2_foldedNumber_92 (by rfl) (rl_inc _) (Nat.le_of_ble_eq_true rfl) ?_
              refine o_iinc hC dX2_foldedNumber_95 (by rfl) (rl_inc _) (Nat.le_of_ble_eq_true rfl) ?_
              refine o_goto (tgt := 15) hC dX2_foldedNumber_98 (by decide) ?_
              have hin : inS s j = true := by
                unfold inS
                rw [decide_eq_false (show ¬ fbt s j = 0 from c_27)]
                rfl
              first
              | exact absurd c_56 c_75
              | exact absurd c_75 c_56
              | (have h0 : st.1 = 0 := nI_inj2 (by omega) (by omega) (by first | exact c_56 | exact Classical.not_not.mp c_56); exact ih (j + 1) (st.1 + 1, st.2.1 + S1.1 i c5, S1.1 i c5, S1.1 i c5) _ (by omega) (by dsimp only; omega) (by rw [he, ffn, hin, ex]; unfold fstep; rw [if_pos rfl, if_pos h0, if_pos h0]))
              | (have h0 : st.1 ≠ 0 := fun e => c_56 (by rw [e]; rfl); exact ih (j + 1) (st.1 + 1, st.2.1 + S1.1 i c5, if S1.1 i c5 < st.2.2.1 then S1.1 i c5 else st.2.2.1, if st.2.2.2 < S1.1 i c5 then S1.1 i c5 else st.2.2.2) _ (by omega) (by dsimp only; omega) (by rw [he, ffn, hin, ex]; unfold fstep; rw [if_pos rfl, if_neg h0, if_neg h0]))
          · refine o_iload hC dX2_foldedNumber_59 (by rfl) ?_
            refine o_goto (tgt := 71) hC dX2_foldedNumber_61 (by decide) ?_
            refine o_istore hC dX2_foldedNumber_71 (Nat.le_of_ble_eq_true rfl) ?_
            refine o_iload hC dX2_foldedNumber_73 (by rfl) ?_
            refine o_if_ne (tgt := 83) hC dX2_foldedNumber_75 (by decide) (fun c_75 => ?_) (fun c_75 => ?_)
            · refine o_iload hC dX2_foldedNumber_83 (by rfl) ?_
              refine o_iload hC dX2_foldedNumber_85 (by rfl) ?_
              refine o_mmax hC (by exact hB.2.2.2.2.2) (rl_bw 492 (by decide +kernel) (by decide +kernel)) SJ9_max_7cf53 YJ9_max_7cf53.2.1 YJ9_max_7cf53.1 (by rw [hB.2.1]; first | exact Nat.le_of_ble_eq_true rfl | (dsimp only; omega)) (by rw [hB.2.1]; first | exact Nat.le_of_ble_eq_true rfl | (dsimp only; omega)) (by rw [hB.2.1]; first | exact Nat.le_of_ble_eq_true rfl | (dsimp only; omega)) (by rw [hB.2.1]; first | exact Nat.le_of_ble_eq_true rfl | (dsimp only; omega)) dX2_foldedNumber_87 ?_
              refine o_istore hC dX2_foldedNumber_90 (Nat.le_of_ble_eq_true rfl) ?_
              refine o_iinc hC dX2_foldedNumber_92 (by rfl) (rl_inc _) (Nat.le_of_ble_eq_true rfl) ?_
              refine o_iinc hC dX2_foldedNumber_95 (by rfl) (rl_inc _) (Nat.le_of_ble_eq_true rfl) ?_
              refine o_goto (tgt := 15) hC dX2_foldedNumber_98 (by decide) ?_
              have hin : inS s j = true := by
                unfold inS
                rw [decide_eq_false (show ¬ fbt s j = 0 from c_27)]
                rfl
              first
              | exact absurd c_56 c_75
              | exact absurd c_75 c_56
              | (have h0 : st.1 = 0 := nI_inj2 (by omega) (by omega) (by first | exact c_56 | exact Classical.not_not.mp c_56); exact ih (j + 1) (st.1 + 1, st.2.1 + S1.1 i c5, S1.1 i c5, S1.1 i c5) _ (by omega) (by dsimp only; omega) (by rw [he, ffn, hin, ex]; unfold fstep; rw [if_pos rfl, if_pos h0, if_pos h0]))
              | (have h0 : st.1 ≠ 0 := fun e => c_56 (by rw [e]; rfl); exact ih (j + 1) (st.1 + 1, st.2.1 + S1.1 i c5, if S1.1 i c5 < st.2.2.1 then S1.1 i c5 else st.2.2.1, if st.2.2.2 < S1.1 i c5 then S1.1 i c5 else st.2.2.2) _ (by omega) (by dsimp only; omega) (by rw [he, ffn, hin, ex]; unfold fstep; rw [if_pos rfl, if_neg h0, if_neg h0]))
            · refine o_iload hC dX2_foldedNumber_78 (by rfl) ?_
              refine o_goto (tgt := 90) hC dX2_foldedNumber_80 (by decide) ?_
              refine o_istore hC dX2_foldedNumber_90 (Nat.le_of_ble_eq_true rfl) ?_
              refine o_iinc hC dX2_foldedNumber_92 (by rfl) (rl_inc _) (Nat.le_of_ble_eq_true rfl) ?_
              refine o_iinc hC dX2_foldedNumber_95 (by rfl) (rl_inc _) (Nat.le_of_ble_eq_true rfl) ?_
              refine o_goto (tgt := 15) hC dX2_foldedNumber_98 (by decide) ?_
              have hin : inS s j = true := by
                unfold inS
                rw [decide_eq_false (show ¬ fbt s j = 0 from c_27)]
                rfl
              first
              | exact absurd c_56 c_75
              | exact absurd c_75 c_56
              | (have h0 : st.1 = 0 := nI_inj2 (by omega) (by omega) (by first | exact c_56 | exact Classical.not_not.mp c_56); exact ih (j + 1) (st.1 + 1, st.2.1 + S1.1 i c5, S1.1 i c5, S1.1 i c5) _ (by omega) (by dsimp only; omega) (by rw [he, ffn, hin, ex]; unfold fstep; rw [if_pos rfl, if_pos h0, if_pos h0]))
              | (have h0 : st.1 ≠ 0 := fun e => c_56 (by rw [e]; rfl); exact ih (j + 1) (st.1 + 1, st.2.1 + S1.1 i c5, if S1.1 i c5 < st.2.2.1 then S1.1 i c5 else st.2.2.1, if st.2.2.2 < S1.1 i c5 then S1.1 i c5 else st.2.2.2) _ (by omega) (by dsimp only; omega) (by rw [he, ffn, hin, ex]; unfold fstep; rw [if_pos rfl, if_neg h0, if_neg h0]))
  show rl_G X (rl_e D ids H0) 0 [some (.ref o), some (.ref nd), some (.int (nI s)), some (.int (nI g.length)), none, none, none, none, none, none] [] h n 0 0
  refine o_iconst (v := nI 0) hC dX2_foldedNumber_0 (by decide +kernel) ?_
  refine o_istore hC dX2_foldedNumber_1 (Nat.le_of_ble_eq_true rfl) ?_
  refine o_iconst (v := nI 0) hC dX2_foldedNumber_3 (by decide +kernel) ?_
  refine o_istore hC dX2_foldedNumber_4 (Nat.le_of_ble_eq_true rfl) ?_
  refine o_iconst (v := nI 0) hC dX2_foldedNumber_6 (by decide +kernel) ?_
  refine o_istore hC dX2_foldedNumber_7 (Nat.le_of_ble_eq_true rfl) ?_
  refine o_iconst (v := nI 0) hC dX2_foldedNumber_9 (by decide +kernel) ?_
  refine o_istore hC dX2_foldedNumber_10 (Nat.le_of_ble_eq_true rfl) ?_
  refine o_iconst (v := nI 0) hC dX2_foldedNumber_12 (by decide +kernel) ?_
  refine o_istore hC dX2_foldedNumber_13 (Nat.le_of_ble_eq_true rfl) ?_
  exact loop g.length 0 (0, 0, 0, 0) _ (by omega) (Nat.le_refl _) rfl
end
section
/-! THE CLASS, functionally: FOLD's end, fill -/
theorem fwf_ok {s : Nat} {g : List arow} {ns : List (List tT)} : ∀ {m j : Nat} {W L : List tT}, fwf s g ns m j W = some L → wok W → wok L
  | 0, j, W, L, h, hW => by
    cases h
    exact hW
  | m + 1, j, W, L, h, hW => by
    unfold fwf at h
    cases e : wst (tbo W (fnw s g ns j)) with
    | none => rw [e] at h; cases h
    | some W2 =>
      rw [e] at h
      exact fwf_ok (m := m) h (wst_ok e)
theorem ffo_1 {tb : List arow} {cb co kd m t : Nat} {T : List arow} (h : ffr tb cb t t 0 = true) : ffo tb cb co kd (m + 1) t T = if 4 < (fgp tb cb t).length then none else (fgr cb co kd T (fgp tb cb t)).bind (ffo tb cb co kd m (t + 1)) := if_pos h
theorem ffo_0 {tb : List arow} {cb co kd m t : Nat} {T : List arow} (h : ¬ ffr tb cb t t 0 = true) : ffo tb cb co kd (m + 1) t T = ffo tb cb co kd m (t + 1) T := if_neg h
theorem fcs_s (cb co kd : Nat) (g : List arow) (ns : List (List tT)) (s n : Nat) : fcs cb co kd g ns s (n + 1) = fca cb co kd g ns s :: fcs cb co kd g ns (s + 1) n := by
  unfold fcs
  rw [List.range'_succ, List.map_cons]

set_option maxHeartbeats 4000000 in
set_option maxRecDepth 100000 in
theorem cp_X2_putGroup (l : Launch) (D : va_G) (ids : Nat → ClassId) (H0 : Heap) (h : rl_H) (n : Nat) (o so a wd a1 sz1 wd1 nd c4 c5 kd : Nat) (gp : Nat → Option Nat) (P1 : Nat → Nat) (S1 : tb_S) (g tab : List arow) (f0 f1 f2 f3 f7 f8 : Int32) (ho : op_sh ids h o so gp) (ht : ctb ids h a wd tab) (hok : aok wd tab) (hwd : wd = 2) (hoa : o + 22 ≤ a ∨ a + 402 ≤ o) (hia : a1 + 402 ≤ a ∨ a + 402 ≤ a1) (hi : tb_at ids h a1 sz1 wd1 P1 S1) (hoi : o + 22 ≤ a1 ∨ a1 + 402 ≤ o) (hk4 : g.length ≤ 4) (hg : cgr gp a1 wd1 S1 g) (hgo : ∀ r ∈ g, wok r.2) (hnd : h nd = some (.inr (1, [.int f0, .int f1, .int f2, .int f3, .int (nI c4), .int (nI c5), .int (nI kd), .int f7, .int f8]))) (h4 : c4 < wd1) (h5 : c5 < wd1) (hw16 : wd1 ≤ 6) (h6 : kd ≤ 3) (hno : nd < o ∨ o + 22 ≤ nd) (hna : nd < a ∨ a + 402 ≤ nd) : rl_Met l (rl_e D ids H0) rl_BW rl_Ns yX2_putGroup cX2_putGroup 5 (some .boolean) ({ frames := 4, cells := 0, slots := 0, locals := 149 }) [.ref o, .ref nd, .int (nI g.length), .ref a] h n (fun v h' n' => ∃ x : Int32, v = some (.int x) ∧ n' = n ∧ (∃ gp' : Nat → Option Nat, op_sh ids h' o so gp') ∧ rl_g2 h h' o (o + 22) a (a + 402) ∧ pres ids h' a wd (fgr c4 c5 kd tab g) x) := by
  refine rl_Met.of (by decide +kernel) (Nat.le_of_ble_eq_true rfl) ?_
  intro X hC hB
  show rl_G X (rl_e D ids H0) 0 [some (.ref o), some (.ref nd), some (.int (nI g.length)), some (.ref a), none] [] h n 0 0
  refine o_aload_n hC dX2_putGroup_0 (by rfl) ?_
  refine o_iload_n hC dX2_putGroup_1 (by rfl) ?_
  refine o_callV1 hC rl_BW_good rl_Ns_nw (by exact hB.2.2.2.2.2) YX2_turnGroup IX2_turnGroup VX2_turnGroup (mX2_167 hC) (by rw [hB.1]; exact cp_X2_turnGroup l D ids H0 _ _ o so a1 sz1 wd1 gp P1 S1 g ho hi hoi hk4 hg hgo) (by exact ho.1) rfl rfl (Nat.le_of_ble_eq_true rfl) (by rw [hB.2.1]; first | exact Nat.le_of_ble_eq_true rfl | (dsimp only; omega)) (by rw [hB.2.1]; first | exact Nat.le_of_ble_eq_true rfl | (dsimp only; omega)) (by rw [hB.2.1]; first | exact Nat.le_of_ble_eq_true rfl | (dsimp only; omega)) (by rw [hB.2.1]; first | exact Nat.le_of_ble_eq_true rfl | (dsimp only; omega)) dX2_putGroup_2 (fun v h_2 n_2 p_2 => ?_)
  obtain ⟨x0, rfl, rfl, v1, v2, w0⟩ := p_2
  have v3 := ht.eqv (h' := h_2) (fun q q1 q2 => v2 q (by omega))
  try dsimp only [Option.toList, List.cons_append, List.nil_append]
  refine o_if_ne (tgt := 10) hC dX2_putGroup_5 (by decide) (fun c_5 => ?_) (fun c_5 => ?_)
  · refine o_iconst (v := nI 1) hC dX2_putGroup_10 (by decide +kernel) ?_
    refine o_istore hC dX2_putGroup_11 (Nat.le_of_ble_eq_true rfl) ?_
    rcases w0 with ⟨-, ns, z1, z2⟩ | ⟨z2, -⟩
    rotate_left
    · exact absurd z2 c_5
    have hfg : fgr c4 c5 kd tab g = aall tab (fcs c4 c5 kd g ns 1 (2 ^ g.length - 1)) := by
      unfold fgr
      rw [z1]
      rfl
    obtain ⟨pw1, pw2, pw3⟩ := pw_16 hk4
    have loop : ∀ (m s : Nat) (h1 : rl_H) (tab1 : List arow), s + m = 2 ^ g.length → 1 ≤ s → op_sh ids h1 o so gp → ctb ids h1 a wd tab1 → aok wd tab1 → (1 < g.length → ∀ i : Nat, i < g.length → wat ids h1 (o + 10 + 3 * i) (ns.getD i [])) → rl_g2 h h1 o (o + 22) a (a + 402) → aall tab (fcs c4 c5 kd g ns 1 (2 ^ g.length - 1)) = aall tab1 (fcs c4 c5 kd g ns s m) → rl_G X (rl_e D ids H0) 13 [some (.ref o), some (.ref nd), some (.int (nI g.length)), some (.ref a), some (.int (nI s))] [] h1 n_2 0 0 := by
      intro m
      induction m with
      | zero =>
        intro s h1 tab1 hm hs1 ho1 ht1 hk1 hTW hf he
        refine o_iload hC dX2_putGroup_13 (by rfl) ?_
        refine o_iconst (v := nI 1) hC dX2_putGroup_15 (by decide +kernel) ?_
        refine o_iload_n hC dX2_putGroup_16 (by rfl) ?_
        refine o_ishl hC dX2_putGroup_17 ?_
        rw [sh_1k hk4]
        refine o_icmp_ge (tgt := 89) hC dX2_putGroup_18 (by decide) (fun c_18 => ?_) (fun c_18 => ?_)
        · refine o_iconst (v := nI 1) hC dX2_putGroup_89 (by decide +kernel) ?_
          refine o_zret hC hB dX2_putGroup_90 (by first | rfl | decide +kernel) (Nat.le_of_ble_eq_true rfl) (Nat.le_of_ble_eq_true rfl) ?_
          exact ⟨_, rfl, rfl, ⟨_, ho1⟩, hf, Or.inl ⟨tab1, by rw [hfg, he]; rfl, rfl, ht1, hk1⟩⟩
        · exact absurd (nI_le (by omega) (by omega)) c_18
      | succ m ih =>
        intro s h1 tab1 hm hs1 ho1 ht1 hk1 hTW hf he
        rw [fcs_s] at he
        obtain ⟨o0, ⟨ds, od⟩, ⟨mf0, mg0, mk0, om⟩, ⟨tp, o7, o7b⟩, o8, ⟨kc, o9⟩, ot⟩ := id ho1
        have n1 := (hf nd (by omega) (by omega)).trans hnd
        have hg1 : 1 ≤ g.length := pw3 (by omega)
        obtain ⟨i, hi80, hg0, hgr⟩ := hg 0 (by omega) (by omega)
        have hi1 := hi.eqv (h' := h1) (fun q q1 q2 => hf q (by omega) (by omega))
        obtain ⟨e1, e2, e3⟩ := hi1.2.2.2.1 i hi80
        have ex : acg (ark g 0) c4 = S1.1 i c4 := by
          show (ark g 0).1.getD c4 0 = _
          rw [← hgr, rsg_get h4]
        refine o_iload hC dX2_putGroup_13 (by rfl) ?_
        refine o_iconst (v := nI 1) hC dX2_putGroup_15 (by decide +kernel) ?_
        refine o_iload_n hC dX2_putGroup_16 (by rfl) ?_
        refine o_ishl hC dX2_putGroup_17 ?_
        rw [sh_1k hk4]
        refine o_icmp_ge (tgt := 89) hC dX2_putGroup_18 (by decide) (fun c_18 => ?_) (fun c_18 => ?_)
        · exact absurd c_18 (nI_ge (by omega) (by omega))
        · refine o_aload_n hC dX2_putGroup_21 (by rfl) ?_
          refine o_getf hC (fX2_35 hC rfl) dX2_putGroup_22 (by repeat (first | with_reducible assumption | (rw [rl_u_s]; done) | (rw [rl_u_s]; rfl) | rw [rl_u_n (by first | with_reducible assumption | omega)])) (by first | rfl | with_reducible assumption) ?_
          refine o_iconst (v := nI 0) hC dX2_putGroup_25 (by decide +kernel) ?_
          refine o_aload_n hC dX2_putGroup_26 (by rfl) ?_
          refine o_getf hC (fX2_31 hC rfl) dX2_putGroup_27 (by repeat (first | with_reducible assumption | (rw [rl_u_s]; done) | (rw [rl_u_s]; rfl) | rw [rl_u_n (by first | with_reducible assumption | omega)])) (by first | rfl | with_reducible assumption) ?_
          refine o_iconst (v := nI 0) hC dX2_putGroup_30 (by decide +kernel) ?_
          refine o_aaldN (t0 := 3) (k := 0) hC rfl dX2_putGroup_31 o8 (by omega) (by decide) ?_
          rw [hg0]
          show rl_G X _ _ _ (.ref _ :: _) _ _ _ _
          refine o_getf hC (fX2_109 hC rfl) dX2_putGroup_32 (by repeat (first | with_reducible assumption | (rw [rl_u_s]; done) | (rw [rl_u_s]; rfl) | rw [rl_u_n (by first | with_reducible assumption | omega)])) (by first | rfl | with_reducible assumption) ?_
          refine o_aload_n hC dX2_putGroup_35 (by rfl) ?_
          refine o_getf hC (fX2_119 hC rfl) dX2_putGroup_36 (by repeat (first | with_reducible assumption | (rw [rl_u_s]; done) | (rw [rl_u_s]; rfl) | rw [rl_u_n (by first | with_reducible assumption | omega)])) (by first | rfl | with_reducible assumption) ?_
          refine o_ialdN (t0 := 0) (k := c4) hC rfl dX2_putGroup_39 e2 (by omega) (by decide) ?_
          refine o_iastN (t0 := 0) (k := 0) hC rfl dX2_putGroup_40 o9 (by decide) (by decide) ?_
          have f9 : ∀ q, q ≠ o + 9 → (rl_u h1 (o + 9) (.inl (ids 0, 6, .inl (upd kc 0 (S1.1 i c4))))) q = h1 q := fun q hq => rl_u_n hq
          have k9 : (rl_u h1 (o + 9) (.inl (ids 0, 6, .inl (upd kc 0 (S1.1 i c4))))) (o + 9) = some (.inl (ids 0, 6, .inl (upd kc 0 (S1.1 i c4)))) := rl_u_s
          generalize (rl_u h1 (o + 9) (.inl (ids 0, 6, .inl (upd kc 0 (S1.1 i c4))))) = hh at f9 k9 ⊢
          have ho2 : op_sh ids hh o so gp := ho1.ky k9 (fun q q1 q2 q3 => f9 q q3)
          have z0 := ho2.1
          have hi2 := hi1.eqv (h' := hh) (fun q q1 q2 => f9 q (by omega))
          have n2 := (f9 nd (by omega)).trans n1
          refine o_aload_n hC dX2_putGroup_41 (by rfl) ?_
          refine o_getf hC (fX2_35 hC rfl) dX2_putGroup_42 (by repeat (first | with_reducible assumption | (rw [rl_u_s]; done) | (rw [rl_u_s]; rfl) | rw [rl_u_n (by first | with_reducible assumption | omega)])) (by first | rfl | with_reducible assumption) ?_
          refine o_iconst (v := nI 1) hC dX2_putGroup_45 (by decide +kernel) ?_
          refine o_aload_n hC dX2_putGroup_46 (by rfl) ?_
          refine o_aload_n hC dX2_putGroup_47 (by rfl) ?_
          refine o_iload hC dX2_putGroup_48 (by rfl) ?_
          refine o_iload_n hC dX2_putGroup_50 (by rfl) ?_
          refine o_callV3 hC rl_BW_good rl_Ns_nw (by exact hB.2.2.2.2.2) YX2_foldedNumber IX2_foldedNumber VX2_foldedNumber (mX2_171 hC) (by rw [hB.1]; exact cp_X2_foldedNumber l D ids H0 _ _ o so a1 sz1 wd1 gp P1 S1 g s nd c5 kd _ _ _ _ _ _ _ ho2 hi2 hoi hk4 hg hgo n2 h5 hw16 h6) (by exact z0) rfl rfl (Nat.le_of_ble_eq_true rfl) (by rw [hB.2.1]; first | exact Nat.le_of_ble_eq_true rfl | (dsimp only; omega)) (by rw [hB.2.1]; first | exact Nat.le_of_ble_eq_true rfl | (dsimp only; omega)) (by rw [hB.2.1]; first | exact Nat.le_of_ble_eq_true rfl | (dsimp only; omega)) (by rw [hB.2.1]; first | exact Nat.le_of_ble_eq_true rfl | (dsimp only; omega)) dX2_putGroup_51 (fun v h_51 n_51 p_51 => ?_)
          obtain ⟨rfl, rfl, rfl⟩ := p_51
          try dsimp only [Option.toList, List.cons_append, List.nil_append]
          refine o_iastN (t0 := 0) (k := 1) hC rfl dX2_putGroup_54 k9 (by decide) (by decide) ?_
          have hns : ∀ iq : Nat, iq < g.length → inS s iq = false → wat ids (rl_u h_51 (o + 9) (.inl (ids 0, 6, .inl (upd (upd kc 0 (S1.1 i c4)) 1 (fpick kd (ffn s c5 g g.length 0 (0, 0, 0, 0))))))) (o + 10 + 3 * iq) (ns.getD iq []) := fun iq hi e => by
            rcases Nat.lt_or_ge 1 g.length with q | q
            · exact (hTW q iq hi).eqv (fun q q1 q2 => by rw [rl_u_n (by omega)]; exact f9 q (by omega))
            · obtain rfl : iq = 0 := by omega
              have e1 : g.length = 1 := by omega
              have e2 : 2 ^ g.length = 2 := by rw [e1]
              obtain rfl : s = 1 := by omega
              rw [inS_1] at e
              cases e
          refine o_aload_n hC dX2_putGroup_55 (by rfl) ?_
          refine o_iload hC dX2_putGroup_56 (by rfl) ?_
          refine o_iload_n hC dX2_putGroup_58 (by rfl) ?_
          refine o_callV2 hC rl_BW_good rl_Ns_nw (by exact hB.2.2.2.2.2) YX2_makeWaysOfSet IX2_makeWaysOfSet VX2_makeWaysOfSet (mX2_175 hC) (by rw [hB.1]; exact cp_X2_makeWaysOfSet l D ids H0 _ _ o so a1 sz1 wd1 gp P1 S1 g s ns (ho2.ky rl_u_s (fun q q1 q2 q3 => rl_u_n q3)) (hi2.eqv (fun q q1 q2 => rl_u_n (by omega))) hoi hk4 hg hgo hns) (by rw [rl_u_n (by omega)]; exact z0) rfl rfl (Nat.le_of_ble_eq_true rfl) (by rw [hB.2.1]; first | exact Nat.le_of_ble_eq_true rfl | (dsimp only; omega)) (by rw [hB.2.1]; first | exact Nat.le_of_ble_eq_true rfl | (dsimp only; omega)) (by rw [hB.2.1]; first | exact Nat.le_of_ble_eq_true rfl | (dsimp only; omega)) (by rw [hB.2.1]; first | exact Nat.le_of_ble_eq_true rfl | (dsimp only; omega)) dX2_putGroup_59 (fun v h_59 n_59 p_59 => ?_)
          obtain ⟨x6, rfl, rfl, u1, u2, w9⟩ := p_59
          have w8 : ∀ q, (q < o ∨ o + 22 ≤ q) → h_59 q = h1 q := fun q hq => by rw [u2 q (by omega), rl_u_n (by omega)]; exact f9 q (by omega)
          have ht3 := ht1.eqv (h' := h_59) (fun q q1 q2 => w8 q (by omega))
          have k3 := (u2 (o + 9) (by omega)).trans rl_u_s
          have o3 := u1.1
          try dsimp only [Option.toList, List.cons_append, List.nil_append]
          refine o_if_eq (tgt := 81) hC dX2_putGroup_62 (by decide) (fun c_62 => ?_) (fun c_62 => ?_)
          · refine o_iconst (v := nI 0) hC dX2_putGroup_81 (by decide +kernel) ?_
            refine o_zret hC hB dX2_putGroup_82 (by first | rfl | decide +kernel) (Nat.le_of_ble_eq_true rfl) (Nat.le_of_ble_eq_true rfl) ?_
            rcases w9 with ⟨L9, z3, z4, -⟩ | ⟨z3, z4⟩
            · exact absurd (c_62.symm.trans z4) (by decide +kernel)
            · refine ⟨_, rfl, rfl, ⟨_, u1⟩, hf.tr (fun q b1 b2 => w8 q (by omega)), Or.inr ⟨?_, rfl, ht3.ti⟩⟩
              rw [hfg, he]
              show ((fwf s g ns g.length 0 [(0, 0)]).bind (aput tab1 _)).bind _ = _
              rw [z3]
              rfl
          · rcases w9 with ⟨L9, z3, z4, z5⟩ | ⟨-, z4⟩
            rotate_left
            · exact absurd z4 c_62
            refine o_aload_n hC dX2_putGroup_65 (by rfl) ?_
            refine o_aload_n hC dX2_putGroup_66 (by rfl) ?_
            refine o_aload_n hC dX2_putGroup_67 (by rfl) ?_
            refine o_getf hC (fX2_35 hC rfl) dX2_putGroup_68 (by repeat (first | with_reducible assumption | (rw [rl_u_s]; done) | (rw [rl_u_s]; rfl) | rw [rl_u_n (by first | with_reducible assumption | omega)])) (by first | rfl | with_reducible assumption) ?_
            refine o_aload_n hC dX2_putGroup_71 (by rfl) ?_
            refine o_getf hC (fX2_21 hC rfl) dX2_putGroup_72 (by repeat (first | with_reducible assumption | (rw [rl_u_s]; done) | (rw [rl_u_s]; rfl) | rw [rl_u_n (by first | with_reducible assumption | omega)])) (by first | rfl | with_reducible assumption) ?_
            refine o_callV3 hC rl_BW_good rl_Ns_nw (by exact hB.2.2.2.2.2) YX2_put IX2_put VX2_put (mX2_99 hC) (by rw [hB.1]; exact cp_X2_put l D ids H0 _ _ o so a (o + 4) (o + 9) wd _ _ _ _ u1 ht3 hk1 k3 z5 (fwf_ok z3 (wok_s 0)) (by omega) (by omega) (by omega) (by omega)) (by exact u1.1) rfl rfl (Nat.le_of_ble_eq_true rfl) (by rw [hB.2.1]; first | exact Nat.le_of_ble_eq_true rfl | (dsimp only; omega)) (by rw [hB.2.1]; first | exact Nat.le_of_ble_eq_true rfl | (dsimp only; omega)) (by rw [hB.2.1]; first | exact Nat.le_of_ble_eq_true rfl | (dsimp only; omega)) (by rw [hB.2.1]; first | exact Nat.le_of_ble_eq_true rfl | (dsimp only; omega)) dX2_putGroup_75 (fun v h_75 n_75 p_75 => ?_)
            obtain ⟨x, rfl, rfl, q1, q3, q2⟩ := p_75
            have ek : rcl (upd (upd kc 0 (S1.1 i c4)) 1 (fpick kd (ffn s c5 g g.length 0 (0, 0, 0, 0)))) 2 = fky s c4 c5 kd g := by
              show [upd (upd kc 0 (S1.1 i c4)) 1 (fpick kd (ffn s c5 g g.length 0 (0, 0, 0, 0))) 0, upd (upd kc 0 (S1.1 i c4)) 1 (fpick kd (ffn s c5 g g.length 0 (0, 0, 0, 0))) 1] = _
              rw [upd_lt (show 0 < 1 by decide), upd_at, upd_at, ← ex]
            rw [hwd, ek, ← hwd] at q2
            try dsimp only [Option.toList, List.cons_append, List.nil_append]
            refine o_if_ne (tgt := 83) hC dX2_putGroup_78 (by decide) (fun c_78 => ?_) (fun c_78 => ?_)
            · refine o_iinc hC dX2_putGroup_83 (by rfl) (rl_inc _) (Nat.le_of_ble_eq_true rfl) ?_
              refine o_goto (tgt := 13) hC dX2_putGroup_86 (by decide) ?_
              rcases q2 with ⟨tab2, m1, m2, m3, m4⟩ | ⟨-, m2, -⟩
              rotate_left
              · exact absurd m2 c_78
              refine ih (s + 1) _ tab2 (by omega) (by omega) q1 m3 m4 (fun q i hi => (hTW q i hi).eqv (fun q b1 b2 => ?_)) (hf.tr (fun q b1 b2 => (q3 q (by omega) (by omega)).trans (w8 q (by omega)))) ?_
              · rw [q3 q (by omega) (by omega), u2 q (by omega), rl_u_n (by omega)]
                exact f9 q (by omega)
              · rw [he]
                show ((fwf s g ns g.length 0 [(0, 0)]).bind (aput tab1 _)).bind _ = _
                rw [z3]
                show (aput tab1 _ L9).bind _ = _
                rw [m1]
                rfl
            · refine o_iconst (v := nI 0) hC dX2_putGroup_81 (by decide +kernel) ?_
              refine o_zret hC hB dX2_putGroup_82 (by first | rfl | decide +kernel) (Nat.le_of_ble_eq_true rfl) (Nat.le_of_ble_eq_true rfl) ?_
              rcases q2 with ⟨tab2, m1, m2, -, -⟩ | ⟨m1, m2, m3⟩
              · exact absurd (c_78.symm.trans m2) (by decide +kernel)
              · refine ⟨_, rfl, rfl, ⟨_, q1⟩, hf.tr (fun q b1 b2 => (q3 q (by omega) (by omega)).trans (w8 q (by omega))), Or.inr ⟨?_, rfl, m3⟩⟩
                rw [hfg, he]
                show ((fwf s g ns g.length 0 [(0, 0)]).bind (aput tab1 _)).bind _ = _
                rw [z3]
                show (aput tab1 _ L9).bind _ = _
                rw [m1]
                rfl
    exact loop (2 ^ g.length - 1) 1 _ tab (by omega) (Nat.le_refl _) v1 v3 hok z2 v2.g1 rfl
  · refine o_iconst (v := nI 0) hC dX2_putGroup_8 (by decide +kernel) ?_
    refine o_zret hC hB dX2_putGroup_9 (by first | rfl | decide +kernel) (Nat.le_of_ble_eq_true rfl) (Nat.le_of_ble_eq_true rfl) ?_
    rcases w0 with ⟨z2, -⟩ | ⟨-, z1⟩
    · exact absurd (c_5.symm.trans z2) (by decide +kernel)
    · exact ⟨_, rfl, rfl, ⟨_, v1⟩, v2.g1, Or.inr ⟨by unfold fgr; rw [z1]; rfl, rfl, v3.ti⟩⟩

set_option maxHeartbeats 4000000 in
set_option maxRecDepth 100000 in
theorem cp_X2_fillFold (l : Launch) (D : va_G) (ids : Nat → ClassId) (H0 : Heap) (h : rl_H) (n : Nat) (o so a a1 wd wd1 : Nat) (gp : Nat → Option Nat) (tab tb : List arow) (nd c4 c5 kd : Nat) (f0 f1 f2 f3 f7 f8 : Int32) (ho : op_sh ids h o so gp) (ht : ctb ids h a wd tab) (hok : aok wd tab) (hi : ctb ids h a1 wd1 tb) (hbk : aok wd1 tb) (hoa : o + 22 ≤ a ∨ a + 402 ≤ o) (hoi : o + 22 ≤ a1 ∨ a1 + 402 ≤ o) (hia : a1 + 402 ≤ a ∨ a + 402 ≤ a1) (hwd : wd = 2) (hnd : h nd = some (.inr (1, [.int f0, .int f1, .int f2, .int f3, .int (nI c4), .int (nI c5), .int (nI kd), .int f7, .int f8]))) (h4 : c4 < wd1) (h5 : c5 < wd1) (hw16 : wd1 ≤ 6) (h6 : kd ≤ 3) (hno : nd < o ∨ o + 22 ≤ nd) (hna : nd < a ∨ a + 402 ≤ nd) : rl_Met l (rl_e D ids H0) rl_BW rl_Ns yX2_fillFold cX2_fillFold 6 (some .boolean) ({ frames := 5, cells := 0, slots := 0, locals := 173 }) [.ref o, .ref nd, .ref a1, .ref a] h n (fun v h' n' => ∃ x : Int32, v = some (.int x) ∧ n' = n ∧ (∃ gp' : Nat → Option Nat, op_sh ids h' o so gp') ∧ rl_g2 h h' o (o + 22) a (a + 402) ∧ pres ids h' a wd (ffo tb c4 c5 kd tb.length 0 tab) x) := by
  obtain ⟨P1, S1, hi0, hP1, hrow1⟩ := id hi
  have tl80 := hbk.2.2
  refine rl_Met.of (by decide +kernel) (Nat.le_of_ble_eq_true rfl) ?_
  intro X hC hB
  have loop : ∀ (m t : Nat) (o5 : Option Value) (h1 : rl_H) (gp1 : Nat → Option Nat) (tab1 : List arow), t + m = tb.length → op_sh ids h1 o so gp1 → ctb ids h1 a wd tab1 → aok wd tab1 → rl_g2 h h1 o (o + 22) a (a + 402) → (ffo tb c4 c5 kd tb.length 0 tab) = ffo tb c4 c5 kd m t tab1 → rl_G X (rl_e D ids H0) 3 [some (.ref o), some (.ref nd), some (.ref a1), some (.ref a), some (.int (nI t)), o5] [] h1 n 0 0 := by
    intro m
    induction m with
    | zero =>
      intro t o5 h1 gp1 tab1 hm ho1 ht1 hk1 hf he
      obtain ⟨t1, ⟨tf, t2, t3⟩, t4, t5, t6, t7⟩ := hi0.eqv (h' := h1) (fun q q1 q2 => hf q (by omega) (by omega))
      refine o_iload hC dX2_fillFold_3 (by rfl) ?_
      refine o_aload_n hC dX2_fillFold_5 (by rfl) ?_
      refine o_getf hC (fX2_103 hC rfl) dX2_fillFold_6 (by repeat (first | with_reducible assumption | (rw [rl_u_s]; done) | (rw [rl_u_s]; rfl) | rw [rl_u_n (by first | with_reducible assumption | omega)])) (by first | rfl | with_reducible assumption) ?_
      refine o_icmp_ge (tgt := 63) hC dX2_fillFold_9 (by decide) (fun c_9 => ?_) (fun c_9 => ?_)
      · refine o_iconst (v := nI 1) hC dX2_fillFold_63 (by decide +kernel) ?_
        refine o_zret hC hB dX2_fillFold_64 (by first | rfl | decide +kernel) (Nat.le_of_ble_eq_true rfl) (Nat.le_of_ble_eq_true rfl) ?_
        exact ⟨_, rfl, rfl, ⟨_, ho1⟩, hf, Or.inl ⟨tab1, by rw [he]; rfl, rfl, ht1, hk1⟩⟩
      · exact absurd (nI_le (by omega) (by omega)) c_9
    | succ m ih =>
      intro t o5 h1 gp1 tab1 hm ho1 ht1 hk1 hf he
      have hi1 := hi0.eqv (h' := h1) (fun q q1 q2 => hf q (by omega) (by omega))
      obtain ⟨t1, -, -, -, t6, -⟩ := id hi1
      have n1 := (hf nd (by omega) (by omega)).trans hnd
      refine o_iload hC dX2_fillFold_3 (by rfl) ?_
      refine o_aload_n hC dX2_fillFold_5 (by rfl) ?_
      refine o_getf hC (fX2_103 hC rfl) dX2_fillFold_6 (by repeat (first | with_reducible assumption | (rw [rl_u_s]; done) | (rw [rl_u_s]; rfl) | rw [rl_u_n (by first | with_reducible assumption | omega)])) (by first | rfl | with_reducible assumption) ?_
      refine o_icmp_ge (tgt := 63) hC dX2_fillFold_9 (by decide) (fun c_9 => ?_) (fun c_9 => ?_)
      · exact absurd c_9 (nI_ge (by omega) (by omega))
      · refine o_aload_n hC dX2_fillFold_12 (by rfl) ?_
        refine o_iload hC dX2_fillFold_13 (by rfl) ?_
        refine o_aload_n hC dX2_fillFold_15 (by rfl) ?_
        refine o_getf hC (fX2_119 hC rfl) dX2_fillFold_16 (by repeat (first | with_reducible assumption | (rw [rl_u_s]; done) | (rw [rl_u_s]; rfl) | rw [rl_u_n (by first | with_reducible assumption | omega)])) (by first | rfl | with_reducible assumption) ?_
        refine o_callS3 hC rl_BW_good rl_Ns_nw (by exact hB.2.2.2.2.2) YX2_isFirstOfGroup SX2_isFirstOfGroup (mX2_155 hC) (by rw [hB.1]; exact cp_X2_isFirstOfGroup l D ids H0 _ _ a1 wd1 t c4 P1 S1 tb hi1 hrow1 tl80 (by omega) h4) (Nat.le_of_ble_eq_true rfl) (by rw [hB.2.1]; first | exact Nat.le_of_ble_eq_true rfl | (dsimp only; omega)) (by rw [hB.2.1]; first | exact Nat.le_of_ble_eq_true rfl | (dsimp only; omega)) (by rw [hB.2.1]; first | exact Nat.le_of_ble_eq_true rfl | (dsimp only; omega)) (by rw [hB.2.1]; first | exact Nat.le_of_ble_eq_true rfl | (dsimp only; omega)) dX2_fillFold_19 (fun v h_19 n_19 p_19 => ?_)
        obtain ⟨x0, rfl, rfl, rfl, y0⟩ := p_19
        try dsimp only [Option.toList, List.cons_append, List.nil_append]
        refine o_if_eq (tgt := 57) hC dX2_fillFold_22 (by decide) (fun c_22 => ?_) (fun c_22 => ?_)
        · refine o_iinc hC dX2_fillFold_57 (by rfl) (rl_inc _) (Nat.le_of_ble_eq_true rfl) ?_
          refine o_goto (tgt := 3) hC dX2_fillFold_60 (by decide) ?_
          have hfst : ¬ ffr tb c4 t t 0 = true := by
            intro e
            rw [e] at y0
            exact absurd (y0.symm.trans c_22) (by decide +kernel)
          rw [ffo_0 hfst] at he
          exact ih (t + 1) _ _ _ tab1 (by omega) ho1 ht1 hk1 hf he
        · refine o_aload_n hC dX2_fillFold_25 (by rfl) ?_
          refine o_aload_n hC dX2_fillFold_26 (by rfl) ?_
          refine o_iload hC dX2_fillFold_27 (by rfl) ?_
          refine o_aload_n hC dX2_fillFold_29 (by rfl) ?_
          refine o_getf hC (fX2_119 hC rfl) dX2_fillFold_30 (by repeat (first | with_reducible assumption | (rw [rl_u_s]; done) | (rw [rl_u_s]; rfl) | rw [rl_u_n (by first | with_reducible assumption | omega)])) (by first | rfl | with_reducible assumption) ?_
          refine o_callV3 hC rl_BW_good rl_Ns_nw (by exact hB.2.2.2.2.2) YX2_gatherGroup IX2_gatherGroup VX2_gatherGroup (mX2_159 hC) (by rw [hB.1]; exact cp_X2_gatherGroup l D ids H0 _ _ o so a1 wd1 t c4 _ P1 S1 tb ho1 hi1 hrow1 tl80 hoi (by omega) h4) (by exact ho1.1) rfl rfl (Nat.le_of_ble_eq_true rfl) (by rw [hB.2.1]; first | exact Nat.le_of_ble_eq_true rfl | (dsimp only; omega)) (by rw [hB.2.1]; first | exact Nat.le_of_ble_eq_true rfl | (dsimp only; omega)) (by rw [hB.2.1]; first | exact Nat.le_of_ble_eq_true rfl | (dsimp only; omega)) (by rw [hB.2.1]; first | exact Nat.le_of_ble_eq_true rfl | (dsimp only; omega)) dX2_fillFold_33 (fun v h_33 n_33 p_33 => ?_)
          obtain ⟨rfl, rfl, gp2, v1, v2, v3⟩ := p_33
          have hfst : ffr tb c4 t t 0 = true := by
            cases e : ffr tb c4 t t 0 with
            | true => rfl
            | false => rw [e] at y0; exact absurd y0 c_22
          rw [ffo_1 hfst] at he
          have hgl : (fgp tb c4 t).length ≤ 80 := Nat.le_trans (List.length_filter_le _ _) (by rw [List.length_drop]; omega)
          have hi3 := hi1.eqv (h' := h_33) (fun q q1 q2 => v3 q (by omega))
          have n3 := (v3 nd (by omega)).trans n1
          have ht3 := ht1.eqv (h' := h_33) (fun q q1 q2 => v3 q (by omega))
          have hf3 : rl_g2 h h_33 o (o + 22) a (a + 402) := hf.tr ((v3.wd (a' := o) (b' := o + 22) (by omega) (by omega)).g1)
          have hgo : ∀ r ∈ fgp tb c4 t, wok r.2 := fun r hr => (hbk.2.1 r (List.mem_of_mem_drop (List.mem_filter.mp hr).1)).2.1
          try dsimp only [Option.toList, List.cons_append, List.nil_append]
          refine o_istore hC dX2_fillFold_36 (Nat.le_of_ble_eq_true rfl) ?_
          refine o_iload hC dX2_fillFold_38 (by rfl) ?_
          refine o_iconst (v := nI 4) hC dX2_fillFold_40 (by decide +kernel) ?_
          refine o_icmp_gt (tgt := 55) hC dX2_fillFold_41 (by decide) (fun c_41 => ?_) (fun c_41 => ?_)
          · refine o_iconst (v := nI 0) hC dX2_fillFold_55 (by decide +kernel) ?_
            refine o_zret hC hB dX2_fillFold_56 (by first | rfl | decide +kernel) (Nat.le_of_ble_eq_true rfl) (Nat.le_of_ble_eq_true rfl) ?_
            have h4k : 4 < (fgp tb c4 t).length := by
              rcases Nat.lt_or_ge 4 (fgp tb c4 t).length with q | q
              · exact q
              · exact absurd c_41 (nI_nlt q (by decide))
            rw [if_pos h4k] at he
            exact ⟨_, rfl, rfl, ⟨_, v1⟩, hf3, Or.inr ⟨he, rfl, ht3.ti⟩⟩
          · have hk4 : (fgp tb c4 t).length ≤ 4 := by
              rcases Nat.lt_or_ge 4 (fgp tb c4 t).length with q | q
              · exact absurd (nI_lt q (by omega)) c_41
              · exact q
            rw [if_neg (by omega)] at he
            refine o_aload_n hC dX2_fillFold_44 (by rfl) ?_
            refine o_aload_n hC dX2_fillFold_45 (by rfl) ?_
            refine o_iload hC dX2_fillFold_46 (by rfl) ?_
            refine o_aload_n hC dX2_fillFold_48 (by rfl) ?_
            refine o_callV3 hC rl_BW_good rl_Ns_nw (by exact hB.2.2.2.2.2) YX2_putGroup IX2_putGroup VX2_putGroup (mX2_163 hC) (by rw [hB.1]; exact cp_X2_putGroup l D ids H0 _ _ o so a wd a1 tb.length wd1 nd c4 c5 kd gp2 P1 S1 (fgp tb c4 t) tab1 _ _ _ _ _ _ v1 ht3 hk1 hwd (by omega) (by omega) hi3 (by omega) hk4 v2 hgo n3 h4 h5 hw16 h6 hno hna) (by exact v1.1) rfl rfl (Nat.le_of_ble_eq_true rfl) (by rw [hB.2.1]; first | exact Nat.le_of_ble_eq_true rfl | (dsimp only; omega)) (by rw [hB.2.1]; first | exact Nat.le_of_ble_eq_true rfl | (dsimp only; omega)) (by rw [hB.2.1]; first | exact Nat.le_of_ble_eq_true rfl | (dsimp only; omega)) (by rw [hB.2.1]; first | exact Nat.le_of_ble_eq_true rfl | (dsimp only; omega)) dX2_fillFold_49 (fun v h_49 n_49 p_49 => ?_)
            obtain ⟨x, rfl, rfl, ⟨gp3, q1⟩, q3, q2⟩ := p_49
            try dsimp only [Option.toList, List.cons_append, List.nil_append]
            refine o_if_ne (tgt := 57) hC dX2_fillFold_52 (by decide) (fun c_52 => ?_) (fun c_52 => ?_)
            · refine o_iinc hC dX2_fillFold_57 (by rfl) (rl_inc _) (Nat.le_of_ble_eq_true rfl) ?_
              refine o_goto (tgt := 3) hC dX2_fillFold_60 (by decide) ?_
              rcases q2 with ⟨tab2, m1, m2, m3, m4⟩ | ⟨-, m2, -⟩
              rotate_left
              · exact absurd m2 c_52
              exact ih (t + 1) _ _ _ tab2 (by omega) q1 m3 m4 (hf3.tr q3) (by rw [he, m1]; rfl)
            · refine o_iconst (v := nI 0) hC dX2_fillFold_55 (by decide +kernel) ?_
              refine o_zret hC hB dX2_fillFold_56 (by first | rfl | decide +kernel) (Nat.le_of_ble_eq_true rfl) (Nat.le_of_ble_eq_true rfl) ?_
              rcases q2 with ⟨tab2, m1, m2, -, -⟩ | ⟨m1, m2, m3⟩
              · exact absurd (c_52.symm.trans m2) (by decide +kernel)
              · exact ⟨_, rfl, rfl, ⟨_, q1⟩, hf3.tr q3, Or.inr ⟨by rw [he, m1]; rfl, rfl, m3⟩⟩
  show rl_G X (rl_e D ids H0) 0 [some (.ref o), some (.ref nd), some (.ref a1), some (.ref a), none, none] [] h n 0 0
  refine o_iconst (v := nI 0) hC dX2_fillFold_0 (by decide +kernel) ?_
  refine o_istore hC dX2_fillFold_1 (Nat.le_of_ble_eq_true rfl) ?_
  exact loop tb.length 0 _ h gp tab (by omega) ho ht hok rl_g2.rf rfl

/-! what a node gives, of what its parts give -/
def iN (x : Int32) : Nat := x.toNatClampNeg
theorem iN_nI {k : Nat} (h : k < 2147483648) : iN (nI k) = k := nI_clamp h
def oN (x : Int32) : Option Nat := if x = -1 then none else some (iN x)
def nfn (sf : Nat → Int32) (cf : Nat → Nat → Int32) (rc : Nat) (op w : Nat) (f4 f5 f6 f7 : Int32) (tb td : List arow) : Option (List arow) :=
  if op = 0 then aall [] (csc sf cf f7 w 0 rc) else if op = 1 then aall [] ((tb.filter (fun r => ppk f6 f7 (iN f4) (oN f5) r)).map (fun r => (r.1, some r.2)))
  else if op = 2 then aall [] (tb.map (fun r => (ccl (iN f7) w r, some r.2))) else if op = 3 then aall [] (jll (iN f4) (iN f5) tb td)
  else if op = 4 then (aall [] (tb.map (fun r => (r.1, some r.2)))).bind (fun x => aall x (td.map (fun r => (r.1, some r.2))))
  else if op = 5 then aall [] (tb.map (fun r => (r.1, mno r.2 (afd td r.1)))) else ffo tb (iN f4) (iN f5) (iN f6) tb.length 0 []
/-- what a node's numbers must be, beside its parts' widths -/
def nd_f (op w : Nat) (f4 f5 f6 f7 : Int32) (wd1 wd2 : Nat) : Prop :=
  op ≤ 6 ∧ 1 ≤ w ∧ w ≤ 6 ∧ wd1 ≤ 6 ∧ wd2 ≤ 6 ∧ (op = 0 → w ≤ 4) ∧
  (op = 1 → w = wd1 ∧ (∃ c4 : Nat, c4 < wd1 ∧ f4 = nI c4) ∧ (f5 = -1 ∨ ∃ c5 : Nat, c5 < wd1 ∧ f5 = nI c5) ∧ ∃ kd : Nat, kd ≤ 2 ∧ f6 = nI kd) ∧
  (op = 2 → ∃ N : Nat, N < 1000000 ∧ f7 = nI N ∧ N / 10 ^ w = 0 ∧ (∀ c : Nat, c < w → N / 10 ^ c ≠ 0) ∧ ∀ c : Nat, c < w → 1 ≤ N / 10 ^ c % 10 ∧ N / 10 ^ c % 10 ≤ wd1) ∧
  (op = 3 → (∃ c4 : Nat, c4 < wd1 ∧ f4 = nI c4) ∧ (∃ c5 : Nat, c5 < wd2 ∧ f5 = nI c5) ∧ w = wd1 + wd2) ∧ (op = 4 ∨ op = 5 → w = wd1 ∧ w = wd2) ∧
  (op = 6 → w = 2 ∧ (∃ c4 : Nat, c4 < wd1 ∧ f4 = nI c4) ∧ (∃ c5 : Nat, c5 < wd1 ∧ f5 = nI c5) ∧ ∃ kd : Nat, kd ≤ 3 ∧ f6 = nI kd)

set_option maxHeartbeats 4000000 in
set_option maxRecDepth 100000 in
theorem cp_X2_fill (l : Launch) (D : va_G) (ids : Nat → ClassId) (H0 : Heap) (h : rl_H) (n : Nat) (o so a w wd0 op nd a1 a2 wd1 wd2 sc rc : Nat) (gp : Nat → Option Nat) (tb td : List arow) (wf sf : Nat → Int32) (cf : Nat → Nat → Int32) (f2 f3 f4 f5 f6 f7 f8 : Int32) (ho : op_sh ids h o so gp) (ht : tbi ids h a wd0) (hs : so_at ids h so wf sf cf sc rc) (hnd : h nd = some (.inr (1, [.int (nI op), .int (nI w), .int f2, .int f3, .int f4, .int f5, .int f6, .int f7, .int f8]))) (hok : nd_f op w f4 f5 f6 f7 wd1 wd2) (hoa : o + 22 ≤ a ∨ a + 402 ≤ o) (hso : so + 40 ≤ o ∨ o + 22 ≤ so) (hsa : so + 40 ≤ a ∨ a + 402 ≤ so) (hno : nd < o ∨ o + 22 ≤ nd) (hna : nd < a ∨ a + 402 ≤ nd) (hi : 1 ≤ op → ctb ids h a1 wd1 tb ∧ aok wd1 tb ∧ (o + 22 ≤ a1 ∨ a1 + 402 ≤ o) ∧ (a1 + 402 ≤ a ∨ a + 402 ≤ a1)) (hj : op = 3 ∨ op = 4 ∨ op = 5 → ctb ids h a2 wd2 td ∧ aok wd2 td ∧ (o + 22 ≤ a2 ∨ a2 + 402 ≤ o) ∧ (a2 + 402 ≤ a ∨ a + 402 ≤ a2)) : rl_Met l (rl_e D ids H0) rl_BW rl_Ns yX2_fill cX2_fill 6 (some .boolean) ({ frames := 6, cells := 0, slots := 0, locals := 201 }) [.ref o, .ref nd, .ref so, .ref a1, .ref a2, .ref a] h n (fun v h' n' => ∃ x : Int32, v = some (.int x) ∧ n' = n ∧ (∃ gp' : Nat → Option Nat, op_sh ids h' o so gp') ∧ rl_g2 h h' o (o + 22) a (a + 402) ∧ pres ids h' a w (nfn sf cf rc op w f4 f5 f6 f7 tb td) x) := by
  obtain ⟨sz0, P0, S0, ht0, -⟩ := id ht
  have t1 := ht0.1
  have op6 := hok.1
  have w6 := hok.2.2.1
  have w16 := hok.2.2.2.1
  have w26 := hok.2.2.2.2.1
  refine rl_Met.of (by decide +kernel) (Nat.le_of_ble_eq_true rfl) ?_
  intro X hC hB
  show rl_G X (rl_e D ids H0) 0 [some (.ref o), some (.ref nd), some (.ref so), some (.ref a1), some (.ref a2), some (.ref a)] [] h n 0 0
  refine o_aload hC dX2_fill_0 (by rfl) ?_
  refine o_aload_n hC dX2_fill_2 (by rfl) ?_
  refine o_getf hC (fX2_39 hC rfl) dX2_fill_3 (by repeat (first | with_reducible assumption | (rw [rl_u_s]; done) | (rw [rl_u_s]; rfl) | rw [rl_u_n (by first | with_reducible assumption | omega)])) (by first | rfl | with_reducible assumption) ?_
  refine o_callV1 hC rl_BW_good rl_Ns_nw (by exact hB.2.2.2.2.2) YX4_begin IX4_begin VX4_begin (mX2_45 hC) (by rw [hB.1]; exact ct_X4_begin l D ids H0 _ _ a _ _ _ _ t1) (by exact t1) rfl rfl (Nat.le_of_ble_eq_true rfl) (by rw [hB.2.1]; first | exact Nat.le_of_ble_eq_true rfl | (dsimp only; omega)) (by rw [hB.2.1]; first | exact Nat.le_of_ble_eq_true rfl | (dsimp only; omega)) (by rw [hB.2.1]; first | exact Nat.le_of_ble_eq_true rfl | (dsimp only; omega)) (by rw [hB.2.1]; first | exact Nat.le_of_ble_eq_true rfl | (dsimp only; omega)) dX2_fill_6 (fun v h_6 n_6 p_6 => ?_)
  obtain ⟨rfl, rfl, b1, b2⟩ := p_6
  have b3 : ∀ q, q ≠ a → h_6 q = h q := fun q hq => b2 q (by omega)
  have ho2 : op_sh ids h_6 o so gp := ho.eqv (fun q q1 q2 => b3 q (by omega))
  have ht2 : ctb ids h_6 a w [] := ht.begin w6 b1 b3
  have hs2 := hs.eqv (h' := h_6) (fun q q1 q2 => b3 q (by omega))
  have n2 := (b3 nd (by omega)).trans hnd
  have o2 := ho2.1
  try dsimp only [Option.toList, List.cons_append, List.nil_append]
  refine o_aload_n hC dX2_fill_9 (by rfl) ?_
  refine o_getf hC (fX2_51 hC rfl) dX2_fill_10 (by repeat (first | with_reducible assumption | (rw [rl_u_s]; done) | (rw [rl_u_s]; rfl) | rw [rl_u_n (by first | with_reducible assumption | omega)])) (by first | rfl | with_reducible assumption) ?_
  rcases (show op = 0 ∨ op = 1 ∨ op = 2 ∨ op = 3 ∨ op = 4 ∨ op = 5 ∨ op = 6 by omega) with rfl | rfl | rfl | rfl | rfl | rfl | rfl
  · refine o_tableIn (off := 39) (tgt := 52) hC dX2_fill_13 (by decide +kernel) (by decide +kernel) (by decide +kernel) (by decide) ?_
    refine o_aload_n hC dX2_fill_52 (by rfl) ?_
    refine o_aload_n hC dX2_fill_53 (by rfl) ?_
    refine o_aload_n hC dX2_fill_54 (by rfl) ?_
    refine o_aload hC dX2_fill_55 (by rfl) ?_
    refine o_callV3 hC rl_BW_good rl_Ns_nw (by exact hB.2.2.2.2.2) YX2_fillScan IX2_fillScan VX2_fillScan (mX2_54 hC) (by rw [hB.1]; exact cp_X2_fillScan l D ids H0 _ _ o so a w nd sc rc gp [] wf sf cf _ _ _ _ _ _ _ _ _ ho2 ht2 (aok_nil _) hs2 n2 (by omega) (by omega) (by omega) (by omega) (by omega)) (by exact o2) rfl rfl (Nat.le_of_ble_eq_true rfl) (by rw [hB.2.1]; first | exact Nat.le_of_ble_eq_true rfl | (dsimp only; omega)) (by rw [hB.2.1]; first | exact Nat.le_of_ble_eq_true rfl | (dsimp only; omega)) (by rw [hB.2.1]; first | exact Nat.le_of_ble_eq_true rfl | (dsimp only; omega)) (by rw [hB.2.1]; first | exact Nat.le_of_ble_eq_true rfl | (dsimp only; omega)) dX2_fill_57 (fun v h_57 n_57 p_57 => ?_)
    obtain ⟨x, rfl, rfl, ⟨gp3, q1⟩, q3, q2⟩ := p_57
    try dsimp only [Option.toList, List.cons_append, List.nil_append]
    refine o_zret hC hB dX2_fill_60 (by rcases q2 with ⟨-, -, q, -⟩ | ⟨-, q, -⟩ <;> (rw [q]; decide +kernel)) (Nat.le_of_ble_eq_true rfl) (Nat.le_of_ble_eq_true rfl) ?_
    refine ⟨_, rfl, rfl, ⟨_, q1⟩, (fun q z1 z2 => (q3 q (by omega) (by omega)).trans (b3 q (by omega))), ?_⟩
    show pres ids _ a _ (nfn sf cf rc 0 _ _ _ _ _ tb td) _
    unfold nfn
    rw [if_pos rfl]
    exact q2
  · obtain ⟨i1, ik, i2, i3⟩ := hi (by decide)
    have i4 := i1.eqv (h' := h_6) (fun q q1 q2 => b3 q (by omega))
    obtain ⟨rfl, ⟨c4, h4, rfl⟩, hf5, kd, h6, rfl⟩ := hok.2.2.2.2.2.2.1 rfl
    have hoc : (oN f5 = none ∧ f5 = -1) ∨ ∃ c : Nat, oN f5 = some c ∧ c < w ∧ f5 = nI c := by
      rcases hf5 with rfl | ⟨c5, h5, rfl⟩
      · exact Or.inl ⟨if_pos rfl, rfl⟩
      · refine Or.inr ⟨c5, ?_, h5, rfl⟩
        unfold oN
        rw [if_neg (fun e => absurd (e ▸ (show (-1 : Int32) < 0 by decide +kernel)) (nI_pos (by omega))), iN_nI (by omega)]
    refine o_tableIn (off := 48) (tgt := 61) hC dX2_fill_13 (by decide +kernel) (by decide +kernel) (by decide +kernel) (by decide) ?_
    refine o_aload_n hC dX2_fill_61 (by rfl) ?_
    refine o_aload_n hC dX2_fill_62 (by rfl) ?_
    refine o_aload_n hC dX2_fill_63 (by rfl) ?_
    refine o_aload hC dX2_fill_64 (by rfl) ?_
    refine o_callV3 hC rl_BW_good rl_Ns_nw (by exact hB.2.2.2.2.2) YX2_fillPick IX2_fillPick VX2_fillPick (mX2_58 hC) (by rw [hB.1]; exact cp_X2_fillPick l D ids H0 _ _ o so a a1 w gp [] tb nd c4 kd (oN f5) _ _ _ _ f5 f7 _ ho2 ht2 (aok_nil _) i4 ik (by omega) (by omega) (by omega) n2 h4 w6 hoc h6 (by omega) (by omega)) (by exact o2) rfl rfl (Nat.le_of_ble_eq_true rfl) (by rw [hB.2.1]; first | exact Nat.le_of_ble_eq_true rfl | (dsimp only; omega)) (by rw [hB.2.1]; first | exact Nat.le_of_ble_eq_true rfl | (dsimp only; omega)) (by rw [hB.2.1]; first | exact Nat.le_of_ble_eq_true rfl | (dsimp only; omega)) (by rw [hB.2.1]; first | exact Nat.le_of_ble_eq_true rfl | (dsimp only; omega)) dX2_fill_66 (fun v h_66 n_66 p_66 => ?_)
    obtain ⟨x, rfl, rfl, ⟨gp3, q1⟩, q3, q2⟩ := p_66
    try dsimp only [Option.toList, List.cons_append, List.nil_append]
    refine o_zret hC hB dX2_fill_69 (by rcases q2 with ⟨-, -, q, -⟩ | ⟨-, q, -⟩ <;> (rw [q]; decide +kernel)) (Nat.le_of_ble_eq_true rfl) (Nat.le_of_ble_eq_true rfl) ?_
    refine ⟨_, rfl, rfl, ⟨_, q1⟩, (fun q z1 z2 => (q3 q (by omega) (by omega)).trans (b3 q (by omega))), ?_⟩
    show pres ids _ a _ (nfn sf cf rc 1 _ _ _ _ _ tb td) _
    unfold nfn
    rw [if_neg (by decide), if_pos rfl]
    rw [iN_nI (by omega)]
    exact q2
  · obtain ⟨i1, ik, i2, i3⟩ := hi (by decide)
    have i4 := i1.eqv (h' := h_6) (fun q q1 q2 => b3 q (by omega))
    obtain ⟨N, hN, rfl, hN0, hNz, hdg⟩ := hok.2.2.2.2.2.2.2.1 rfl
    refine o_tableIn (off := 57) (tgt := 70) hC dX2_fill_13 (by decide +kernel) (by decide +kernel) (by decide +kernel) (by decide) ?_
    refine o_aload_n hC dX2_fill_70 (by rfl) ?_
    refine o_aload_n hC dX2_fill_71 (by rfl) ?_
    refine o_aload_n hC dX2_fill_72 (by rfl) ?_
    refine o_aload hC dX2_fill_73 (by rfl) ?_
    refine o_callV3 hC rl_BW_good rl_Ns_nw (by exact hB.2.2.2.2.2) YX2_fillCols IX2_fillCols VX2_fillCols (mX2_62 hC) (by rw [hB.1]; exact cp_X2_fillCols l D ids H0 _ _ o so a a1 w wd1 gp [] tb nd N _ _ _ _ _ _ _ ho2 ht2 (aok_nil _) i4 ik (by omega) (by omega) (by omega) n2 w6 (by omega) hdg w16 (by omega) (by omega)) (by exact o2) rfl rfl (Nat.le_of_ble_eq_true rfl) (by rw [hB.2.1]; first | exact Nat.le_of_ble_eq_true rfl | (dsimp only; omega)) (by rw [hB.2.1]; first | exact Nat.le_of_ble_eq_true rfl | (dsimp only; omega)) (by rw [hB.2.1]; first | exact Nat.le_of_ble_eq_true rfl | (dsimp only; omega)) (by rw [hB.2.1]; first | exact Nat.le_of_ble_eq_true rfl | (dsimp only; omega)) dX2_fill_75 (fun v h_75 n_75 p_75 => ?_)
    obtain ⟨x, rfl, rfl, ⟨gp3, q1⟩, q3, q2⟩ := p_75
    try dsimp only [Option.toList, List.cons_append, List.nil_append]
    refine o_zret hC hB dX2_fill_78 (by rcases q2 with ⟨-, -, q, -⟩ | ⟨-, q, -⟩ <;> (rw [q]; decide +kernel)) (Nat.le_of_ble_eq_true rfl) (Nat.le_of_ble_eq_true rfl) ?_
    refine ⟨_, rfl, rfl, ⟨_, q1⟩, (fun q z1 z2 => (q3 q (by omega) (by omega)).trans (b3 q (by omega))), ?_⟩
    show pres ids _ a _ (nfn sf cf rc 2 _ _ _ _ _ tb td) _
    unfold nfn
    rw [if_neg (by decide), if_neg (by decide), if_pos rfl]
    rw [iN_nI (by omega)]
    exact q2
  · obtain ⟨i1, ik, i2, i3⟩ := hi (by decide)
    have i4 := i1.eqv (h' := h_6) (fun q q1 q2 => b3 q (by omega))
    obtain ⟨j1, jk, j2, j3⟩ := hj (by decide)
    have j4 := j1.eqv (h' := h_6) (fun q q1 q2 => b3 q (by omega))
    obtain ⟨⟨c4, h4, rfl⟩, ⟨c5, h5, rfl⟩, hwd⟩ := hok.2.2.2.2.2.2.2.2.1 rfl
    refine o_tableIn (off := 66) (tgt := 79) hC dX2_fill_13 (by decide +kernel) (by decide +kernel) (by decide +kernel) (by decide) ?_
    refine o_aload_n hC dX2_fill_79 (by rfl) ?_
    refine o_aload_n hC dX2_fill_80 (by rfl) ?_
    refine o_aload_n hC dX2_fill_81 (by rfl) ?_
    refine o_aload hC dX2_fill_82 (by rfl) ?_
    refine o_aload hC dX2_fill_84 (by rfl) ?_
    refine o_callV4 hC rl_BW_good rl_Ns_nw (by exact hB.2.2.2.2.2) YX2_fillJoin IX2_fillJoin VX2_fillJoin (mX2_65 hC) (by rw [hB.1]; exact cp_X2_fillJoin l D ids H0 _ _ o so a a1 w wd1 gp [] tb a2 wd2 nd c4 c5 td _ _ _ _ _ _ _ ho2 ht2 (aok_nil _) i4 ik (by omega) (by omega) (by omega) j4 jk (by omega) (by omega) n2 h4 h5 (by omega) (by omega) hwd (by omega)) (by exact o2) rfl rfl (Nat.le_of_ble_eq_true rfl) (by rw [hB.2.1]; first | exact Nat.le_of_ble_eq_true rfl | (dsimp only; omega)) (by rw [hB.2.1]; first | exact Nat.le_of_ble_eq_true rfl | (dsimp only; omega)) (by rw [hB.2.1]; first | exact Nat.le_of_ble_eq_true rfl | (dsimp only; omega)) (by rw [hB.2.1]; first | exact Nat.le_of_ble_eq_true rfl | (dsimp only; omega)) dX2_fill_86 (fun v h_86 n_86 p_86 => ?_)
    obtain ⟨x, rfl, rfl, ⟨gp3, q1⟩, q3, q2⟩ := p_86
    try dsimp only [Option.toList, List.cons_append, List.nil_append]
    refine o_zret hC hB dX2_fill_89 (by rcases q2 with ⟨-, -, q, -⟩ | ⟨-, q, -⟩ <;> (rw [q]; decide +kernel)) (Nat.le_of_ble_eq_true rfl) (Nat.le_of_ble_eq_true rfl) ?_
    refine ⟨_, rfl, rfl, ⟨_, q1⟩, (fun q z1 z2 => (q3 q (by omega) (by omega)).trans (b3 q (by omega))), ?_⟩
    show pres ids _ a _ (nfn sf cf rc 3 _ _ _ _ _ tb td) _
    unfold nfn
    rw [if_neg (by decide), if_neg (by decide), if_neg (by decide), if_pos rfl]
    rw [iN_nI (by omega), iN_nI (by omega)]
    exact q2
  · obtain ⟨i1, ik, i2, i3⟩ := hi (by decide)
    have i4 := i1.eqv (h' := h_6) (fun q q1 q2 => b3 q (by omega))
    obtain ⟨j1, jk, j2, j3⟩ := hj (by decide)
    have j4 := j1.eqv (h' := h_6) (fun q q1 q2 => b3 q (by omega))
    obtain ⟨rfl, rfl⟩ := hok.2.2.2.2.2.2.2.2.2.1 (Or.inl rfl)
    refine o_tableIn (off := 77) (tgt := 90) hC dX2_fill_13 (by decide +kernel) (by decide +kernel) (by decide +kernel) (by decide) ?_
    refine o_aload_n hC dX2_fill_90 (by rfl) ?_
    refine o_aload_n hC dX2_fill_91 (by rfl) ?_
    refine o_aload hC dX2_fill_92 (by rfl) ?_
    refine o_callV2 hC rl_BW_good rl_Ns_nw (by exact hB.2.2.2.2.2) YX2_putAll IX2_putAll VX2_putAll (mX2_69 hC) (by rw [hB.1]; exact cp_X2_putAll l D ids H0 _ _ o so a a1 w gp [] tb ho2 ht2 (aok_nil _) i4 ik (by omega) (by omega) (by omega)) (by exact o2) rfl rfl (Nat.le_of_ble_eq_true rfl) (by rw [hB.2.1]; first | exact Nat.le_of_ble_eq_true rfl | (dsimp only; omega)) (by rw [hB.2.1]; first | exact Nat.le_of_ble_eq_true rfl | (dsimp only; omega)) (by rw [hB.2.1]; first | exact Nat.le_of_ble_eq_true rfl | (dsimp only; omega)) (by rw [hB.2.1]; first | exact Nat.le_of_ble_eq_true rfl | (dsimp only; omega)) dX2_fill_94 (fun v h_94 n_94 p_94 => ?_)
    obtain ⟨x, rfl, rfl, ⟨gp3, q1⟩, q3, q2⟩ := p_94
    have o4 := q1.1
    have j5 := j4.eqv (h' := h_94) (fun q z1 z2 => q3 q (by omega) (by omega))
    try dsimp only [Option.toList, List.cons_append, List.nil_append]
    refine o_if_eq (tgt := 115) hC dX2_fill_97 (by decide) (fun c_97 => ?_) (fun c_97 => ?_)
    · refine o_iconst (v := nI 0) hC dX2_fill_115 (by decide +kernel) ?_
      refine o_zret hC hB dX2_fill_116 (by first | rfl | decide +kernel) (Nat.le_of_ble_eq_true rfl) (Nat.le_of_ble_eq_true rfl) ?_
      rcases q2 with ⟨tab2, m1, m2, -, -⟩ | ⟨m1, m2, m3⟩
      · exact absurd (c_97.symm.trans m2) (by decide +kernel)
      · refine ⟨_, rfl, rfl, ⟨_, q1⟩, (fun q z1 z2 => (q3 q (by omega) (by omega)).trans (b3 q (by omega))), Or.inr ⟨?_, rfl, m3⟩⟩
        unfold nfn
        rw [if_neg (by decide), if_neg (by decide), if_neg (by decide), if_neg (by decide), if_pos rfl, m1]
        rfl
    · rcases q2 with ⟨tab2, m1, m2, m3, m4⟩ | ⟨-, m2, -⟩
      rotate_left
      · exact absurd m2 c_97
      refine o_aload_n hC dX2_fill_100 (by rfl) ?_
      refine o_aload hC dX2_fill_101 (by rfl) ?_
      refine o_aload hC dX2_fill_103 (by rfl) ?_
      refine o_callV2 hC rl_BW_good rl_Ns_nw (by exact hB.2.2.2.2.2) YX2_putAll IX2_putAll VX2_putAll (mX2_69 hC) (by rw [hB.1]; exact cp_X2_putAll l D ids H0 _ _ o so a a2 w _ tab2 td q1 m3 m4 j5 jk (by omega) (by omega) (by omega)) (by exact q1.1) rfl rfl (Nat.le_of_ble_eq_true rfl) (by rw [hB.2.1]; first | exact Nat.le_of_ble_eq_true rfl | (dsimp only; omega)) (by rw [hB.2.1]; first | exact Nat.le_of_ble_eq_true rfl | (dsimp only; omega)) (by rw [hB.2.1]; first | exact Nat.le_of_ble_eq_true rfl | (dsimp only; omega)) (by rw [hB.2.1]; first | exact Nat.le_of_ble_eq_true rfl | (dsimp only; omega)) dX2_fill_105 (fun v h_105 n_105 p_105 => ?_)
      obtain ⟨x, rfl, rfl, ⟨gp4, r1⟩, r3, r2⟩ := p_105
      have o5 := r1.1
      try dsimp only [Option.toList, List.cons_append, List.nil_append]
      refine o_if_eq (tgt := 115) hC dX2_fill_108 (by decide) (fun c_108 => ?_) (fun c_108 => ?_)
      · refine o_iconst (v := nI 0) hC dX2_fill_115 (by decide +kernel) ?_
        refine o_zret hC hB dX2_fill_116 (by first | rfl | decide +kernel) (Nat.le_of_ble_eq_true rfl) (Nat.le_of_ble_eq_true rfl) ?_
        rcases r2 with ⟨tab3, p1, p2, -, -⟩ | ⟨p1, p2, p3⟩
        · exact absurd (c_108.symm.trans p2) (by decide +kernel)
        · refine ⟨_, rfl, rfl, ⟨_, r1⟩, fun q z1 z2 => (r3 q (by omega) (by omega)).trans ((q3 q (by omega) (by omega)).trans (b3 q (by omega))), Or.inr ⟨?_, rfl, p3⟩⟩
          unfold nfn
          rw [if_neg (by decide), if_neg (by decide), if_neg (by decide), if_neg (by decide), if_pos rfl, m1]
          exact p1
      · refine o_iconst (v := nI 1) hC dX2_fill_111 (by decide +kernel) ?_
        refine o_goto (tgt := 116) hC dX2_fill_112 (by decide) ?_
        refine o_zret hC hB dX2_fill_116 (by first | rfl | decide +kernel) (Nat.le_of_ble_eq_true rfl) (Nat.le_of_ble_eq_true rfl) ?_
        rcases r2 with ⟨tab3, p1, p2, p3, p4⟩ | ⟨-, p2, -⟩
        · refine ⟨_, rfl, rfl, ⟨_, r1⟩, fun q z1 z2 => (r3 q (by omega) (by omega)).trans ((q3 q (by omega) (by omega)).trans (b3 q (by omega))), Or.inl ⟨tab3, ?_, rfl, p3, p4⟩⟩
          unfold nfn
          rw [if_neg (by decide), if_neg (by decide), if_neg (by decide), if_neg (by decide), if_pos rfl, m1]
          exact p1
        · exact absurd p2 c_108
  · obtain ⟨i1, ik, i2, i3⟩ := hi (by decide)
    have i4 := i1.eqv (h' := h_6) (fun q q1 q2 => b3 q (by omega))
    obtain ⟨j1, jk, j2, j3⟩ := hj (by decide)
    have j4 := j1.eqv (h' := h_6) (fun q q1 q2 => b3 q (by omega))
    obtain ⟨rfl, rfl⟩ := hok.2.2.2.2.2.2.2.2.2.1 (Or.inr rfl)
    refine o_tableIn (off := 104) (tgt := 117) hC dX2_fill_13 (by decide +kernel) (by decide +kernel) (by decide +kernel) (by decide) ?_
    refine o_aload_n hC dX2_fill_117 (by rfl) ?_
    refine o_aload_n hC dX2_fill_118 (by rfl) ?_
    refine o_aload hC dX2_fill_119 (by rfl) ?_
    refine o_aload hC dX2_fill_121 (by rfl) ?_
    refine o_callV3 hC rl_BW_good rl_Ns_nw (by exact hB.2.2.2.2.2) YX2_fillMinus IX2_fillMinus VX2_fillMinus (mX2_73 hC) (by rw [hB.1]; exact cp_X2_fillMinus l D ids H0 _ _ o so a a1 w gp [] tb a2 td ho2 ht2 (aok_nil _) i4 ik (by omega) (by omega) (by omega) j4 jk (by omega) (by omega)) (by exact o2) rfl rfl (Nat.le_of_ble_eq_true rfl) (by rw [hB.2.1]; first | exact Nat.le_of_ble_eq_true rfl | (dsimp only; omega)) (by rw [hB.2.1]; first | exact Nat.le_of_ble_eq_true rfl | (dsimp only; omega)) (by rw [hB.2.1]; first | exact Nat.le_of_ble_eq_true rfl | (dsimp only; omega)) (by rw [hB.2.1]; first | exact Nat.le_of_ble_eq_true rfl | (dsimp only; omega)) dX2_fill_123 (fun v h_123 n_123 p_123 => ?_)
    obtain ⟨x, rfl, rfl, ⟨gp3, q1⟩, q3, q2⟩ := p_123
    try dsimp only [Option.toList, List.cons_append, List.nil_append]
    refine o_zret hC hB dX2_fill_126 (by rcases q2 with ⟨-, -, q, -⟩ | ⟨-, q, -⟩ <;> (rw [q]; decide +kernel)) (Nat.le_of_ble_eq_true rfl) (Nat.le_of_ble_eq_true rfl) ?_
    refine ⟨_, rfl, rfl, ⟨_, q1⟩, (fun q z1 z2 => (q3 q (by omega) (by omega)).trans (b3 q (by omega))), ?_⟩
    show pres ids _ a _ (nfn sf cf rc 5 _ _ _ _ _ tb td) _
    unfold nfn
    rw [if_neg (by decide), if_neg (by decide), if_neg (by decide), if_neg (by decide), if_neg (by decide), if_pos rfl]
    exact q2
  · obtain ⟨i1, ik, i2, i3⟩ := hi (by decide)
    have i4 := i1.eqv (h' := h_6) (fun q q1 q2 => b3 q (by omega))
    obtain ⟨rfl, ⟨c4, h4, rfl⟩, ⟨c5, h5, rfl⟩, kd, h6, rfl⟩ := hok.2.2.2.2.2.2.2.2.2.2 rfl
    refine o_tableOut (tgt := 127) hC dX2_fill_13 (by decide +kernel) (by decide) ?_
    refine o_aload_n hC dX2_fill_127 (by rfl) ?_
    refine o_aload_n hC dX2_fill_128 (by rfl) ?_
    refine o_aload_n hC dX2_fill_129 (by rfl) ?_
    refine o_aload hC dX2_fill_130 (by rfl) ?_
    refine o_callV3 hC rl_BW_good rl_Ns_nw (by exact hB.2.2.2.2.2) YX2_fillFold IX2_fillFold VX2_fillFold (mX2_77 hC) (by rw [hB.1]; exact cp_X2_fillFold l D ids H0 _ _ o so a a1 2 wd1 gp [] tb nd c4 c5 kd _ _ _ _ _ _ ho2 ht2 (aok_nil _) i4 ik (by omega) (by omega) (by omega) rfl n2 h4 h5 w16 h6 (by omega) (by omega)) (by exact o2) rfl rfl (Nat.le_of_ble_eq_true rfl) (by rw [hB.2.1]; first | exact Nat.le_of_ble_eq_true rfl | (dsimp only; omega)) (by rw [hB.2.1]; first | exact Nat.le_of_ble_eq_true rfl | (dsimp only; omega)) (by rw [hB.2.1]; first | exact Nat.le_of_ble_eq_true rfl | (dsimp only; omega)) (by rw [hB.2.1]; first | exact Nat.le_of_ble_eq_true rfl | (dsimp only; omega)) dX2_fill_132 (fun v h_132 n_132 p_132 => ?_)
    obtain ⟨x, rfl, rfl, ⟨gp3, q1⟩, q3, q2⟩ := p_132
    try dsimp only [Option.toList, List.cons_append, List.nil_append]
    refine o_zret hC hB dX2_fill_135 (by rcases q2 with ⟨-, -, q, -⟩ | ⟨-, q, -⟩ <;> (rw [q]; decide +kernel)) (Nat.le_of_ble_eq_true rfl) (Nat.le_of_ble_eq_true rfl) ?_
    refine ⟨_, rfl, rfl, ⟨_, q1⟩, (fun q z1 z2 => (q3 q (by omega) (by omega)).trans (b3 q (by omega))), ?_⟩
    show pres ids _ a _ (nfn sf cf rc 6 _ _ _ _ _ tb td) _
    unfold nfn
    rw [if_neg (by decide), if_neg (by decide), if_neg (by decide), if_neg (by decide), if_neg (by decide), if_neg (by decide)]
    rw [iN_nI (by omega), iN_nI (by omega), iN_nI (by omega)]
    exact q2
end
