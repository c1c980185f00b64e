/-! TERMS have no bit of no ROW -/
/-- what EITHER, BOTH, NOT keep -/
def tcl (B : tT → Prop) : Prop := B (0, 0) ∧ (∀ a b : tT, B a → B b → B (a.1 ||| b.1, a.2 ||| b.2)) ∧ ∀ (W : tT) (c e : Int64) (r : Nat) (b : tT), r < 36 → B W → B (c, e) → tvar W c e r = some b → B b
abbrev tbs (B : tT → Prop) (L : List tT) : Prop := ∀ t ∈ L, B t
abbrev rbs (B : tT → Prop) (tab : List arow) : Prop := ∀ r ∈ tab, tbs B r.2
theorem tbs_nil {B : tT → Prop} : tbs B [] := fun t ht => absurd ht (by simp)
theorem rbs_nil {B : tT → Prop} : rbs B [] := fun t ht => absurd ht (by simp)
theorem wst_B {B : tT → Prop} {C L : List tT} (h : wst C = some L) (hC : tbs B C) : tbs B L := by
  unfold wst at h
  split at h
  · have e := Option.some.inj h
    subst e
    intro t ht
    exact hC t (tfl_mem ((tso_perm _).mem_iff.mp ht)).1
  · exact absurd h (by simp)
theorem tbo_B {B : tT → Prop} (hB : tcl B) {U W : List tT} (hU : tbs B U) (hW : tbs B W) : tbs B (tbo U W) := by
  intro t ht
  unfold tbo at ht
  obtain ⟨a, ha, ht⟩ := List.mem_flatMap.mp ht
  obtain ⟨b, hb, rfl⟩ := List.mem_map.mp ht
  exact hB.2.1 a b (hU a ha) (hW b hb)
theorem tfn_B {B : tT → Prop} (hB : tcl B) {W : List tT} (hW : tbs B W) (i : Nat) : B (tfn W i) := by
  unfold tfn
  rw [List.getD_eq_getElem?_getD]
  cases hq : W[i]? with
  | none => exact hB.1
  | some a => exact hW a (List.mem_of_getElem? hq)
theorem ark_B {B : tT → Prop} {tab : List arow} (h : rbs B tab) (i : Nat) : tbs B (ark tab i).2 := by
  unfold ark
  rw [List.getD_eq_getElem?_getD]
  cases hq : tab[i]? with
  | none => exact tbs_nil
  | some a => exact h a (List.mem_of_getElem? hq)
theorem tall_B {B : tT → Prop} (hB : tcl B) {W : Nat → tT} {c e : Int64} (hW : ∀ i : Nat, B (W i)) (hc : B (c, e)) : ∀ (m a : Nat), tbs B (tall W c e a m)
  | 0, _ => tbs_nil
  | m + 1, a => by
    intro t ht
    have ht : t ∈ tcs W c e a ++ tall W c e (a + 1) m := ht
    rcases List.mem_append.mp ht with ht | ht
    · unfold tcs at ht
      obtain ⟨r, hr, ht⟩ := List.mem_filterMap.mp ht
      exact hB.2.2 (W a) c e r t (List.mem_range.mp hr) (hW a) hc ht
    · exact tall_B hB hW hc m (a + 1) t ht
theorem wno_B {B : tT → Prop} (hB : tcl B) : ∀ (T W L : List tT), tbs B T → tbs B W → wno T W = some L → tbs B L
  | [], W, L, _, hW, h => by
    have e : W = L := Option.some.inj h
    rw [← e]
    exact hW
  | t :: T, W, L, hT, hW, h => by
    have h : (wst (tall (tfn W) t.1 t.2 0 W.length)).bind (wno T) = some L := h
    cases hw : wst (tall (tfn W) t.1 t.2 0 W.length) with
    | none =>
      rw [hw] at h
      exact absurd h (by simp)
    | some V =>
      rw [hw] at h
      exact wno_B hB T V L (fun x hx => hT x (List.mem_cons_of_mem _ hx)) (wst_B hw (tall_B hB (tfn_B hB hW) (hT t List.mem_cons_self) _ _)) h
theorem one_B {B : tT → Prop} (hB : tcl B) : tbs B [((0 : Int64), (0 : Int64))] := fun t ht => by
  rw [List.mem_singleton.mp ht]
  exact hB.1
theorem mno_B {B : tT → Prop} (hB : tcl B) {U L : List tT} {k : Option (List tT)} (hU : tbs B U) (hk : ∀ K : List tT, k = some K → tbs B K) (h : mno U k = some L) : tbs B L := by
  cases k with
  | none =>
    have e : U = L := Option.some.inj h
    rw [← e]
    exact hU
  | some K =>
    have h : (wno K [(0, 0)]).bind (fun W => wst (tbo U W)) = some L := h
    cases hw : wno K [(0, 0)] with
    | none =>
      rw [hw] at h
      exact absurd h (by simp)
    | some V =>
      rw [hw] at h
      exact wst_B h (tbo_B hB hU (wno_B hB K _ V (hk K rfl) (one_B hB) hw))
theorem aput_B {B : tT → Prop} {tab tab' : List arow} {key : List Int32} {ts : List tT} (hT : rbs B tab) (hts : tbs B ts) (h : aput tab key ts = some tab') : rbs B tab' := by
  unfold aput at h
  split at h
  · have e := Option.some.inj h
    rw [← e]
    exact hT
  · split at h
    · cases hw : wst ((ark tab (afb tab key - 1)).2 ++ ts) with
      | none =>
        rw [hw] at h
        exact absurd h (by simp)
      | some u =>
        rw [hw] at h
        have e : tab.set (afb tab key - 1) (key, u) = tab' := Option.some.inj h
        rw [← e]
        intro r hr
        rcases List.mem_or_eq_of_mem_set hr with hr | hr
        · exact hT r hr
        · rw [hr]
          refine wst_B hw (fun t ht => ?_)
          rcases List.mem_append.mp ht with ht | ht
          · exact ark_B hT _ t ht
          · exact hts t ht
    · split at h
      · exact absurd h (by simp)
      · have e := Option.some.inj h
        rw [← e]
        intro r hr
        rcases List.mem_append.mp hr with hr | hr
        · exact hT r (List.mem_of_mem_take hr)
        · rcases List.mem_cons.mp hr with hr | hr
          · rw [hr]
            exact hts
          · exact hT r (List.mem_of_mem_drop hr)
theorem aall_B {B : tT → Prop} : ∀ (R : List (List Int32 × Option (List tT))) (T T' : List arow), rbs B T → (∀ c ∈ R, ∀ ts : List tT, c.2 = some ts → tbs B ts) → aall T R = some T' → rbs B T'
  | [], T, T', hT, _, h => by
    have e : T = T' := Option.some.inj h
    rw [← e]
    exact hT
  | r :: R, T, T', hT, hR, h => by
    have h : (r.2.bind (aput T r.1)).bind (fun T' => aall T' R) = some T' := h
    cases hr : r.2 with
    | none =>
      rw [hr] at h
      exact absurd h (by simp)
    | some ts =>
      rw [hr] at h
      have h : (aput T r.1 ts).bind (fun T' => aall T' R) = some T' := h
      cases ha : aput T r.1 ts with
      | none =>
        rw [ha] at h
        exact absurd h (by simp)
      | some T2 =>
        rw [ha] at h
        exact aall_B R T2 T' (aput_B hT (hR r List.mem_cons_self ts hr) ha) (fun c hc => hR c (List.mem_cons_of_mem _ hc)) h
theorem fnf_B {B : tT → Prop} (hB : tcl B) {g : List arow} (hg : rbs B g) : ∀ (m j : Nat) (ns ns' : List (List tT)), (∀ W ∈ ns, tbs B W) → fnf g m j ns = some ns' → ∀ W ∈ ns', tbs B W
  | 0, j, ns, ns', hn, h => by
    have e : ns = ns' := Option.some.inj h
    rw [← e]
    exact hn
  | m + 1, j, ns, ns', hn, h => by
    have h : (wno (ark g j).2 [(0, 0)]).bind (fun W => fnf g m (j + 1) (ns ++ [W])) = some ns' := h
    cases hw : wno (ark g j).2 [(0, 0)] with
    | none =>
      rw [hw] at h
      exact absurd h (by simp)
    | some V =>
      rw [hw] at h
      refine fnf_B hB hg m (j + 1) _ ns' (fun W hW => ?_) h
      rcases List.mem_append.mp hW with hW | hW
      · exact hn W hW
      · rw [List.mem_singleton.mp hW]
        exact wno_B hB _ _ V (ark_B hg j) (one_B hB) hw
theorem fnw_B {B : tT → Prop} {g : List arow} {ns : List (List tT)} (hg : rbs B g) (hn : ∀ W ∈ ns, tbs B W) (s j : Nat) : tbs B (fnw s g ns j) := by
  unfold fnw
  split
  · exact ark_B hg j
  · rw [List.getD_eq_getElem?_getD]
    cases hq : ns[j]? with
    | none => exact tbs_nil
    | some a => exact hn a (List.mem_of_getElem? hq)
theorem fwf_B {B : tT → Prop} (hB : tcl B) {g : List arow} {ns : List (List tT)} (hg : rbs B g) (hn : ∀ W ∈ ns, tbs B W) (s : Nat) : ∀ (m j : Nat) (W L : List tT), tbs B W → fwf s g ns m j W = some L → tbs B L
  | 0, j, W, L, hW, h => by
    have e : W = L := Option.some.inj h
    rw [← e]
    exact hW
  | m + 1, j, W, L, hW, h => by
    have h : (wst (tbo W (fnw s g ns j))).bind (fwf s g ns m (j + 1)) = some L := h
    cases hw : wst (tbo W (fnw s g ns j)) with
    | none =>
      rw [hw] at h
      exact absurd h (by simp)
    | some V =>
      rw [hw] at h
      exact fwf_B hB hg hn s m (j + 1) V L (wst_B hw (tbo_B hB hW (fnw_B hg hn s j))) h
theorem fgr_B {B : tT → Prop} (hB : tcl B) {cb co kd : Nat} {T T' g : List arow} (hT : rbs B T) (hg : rbs B g) (h : fgr cb co kd T g = some T') : rbs B T' := by
  unfold fgr at h
  cases hn : fnn g with
  | none =>
    rw [hn] at h
    exact absurd h (by simp)
  | some ns =>
    rw [hn] at h
    have hns : ∀ W ∈ ns, tbs B W := by
      unfold fnn at hn
      split at hn
      · exact fnf_B hB hg _ _ [] ns (fun W hW => absurd hW (by simp)) hn
      · have e : [] = ns := Option.some.inj hn
        rw [← e]
        exact fun W hW => absurd hW (by simp)
    refine aall_B _ T T' hT (fun c hc ts hts => ?_) h
    obtain ⟨s, -, rfl⟩ := List.mem_map.mp hc
    exact fwf_B hB hg hns s _ _ _ ts (one_B hB) hts
theorem ffo_B {B : tT → Prop} (hB : tcl B) {cb co kd : Nat} {tb : List arow} (hb : rbs B tb) : ∀ (m t : Nat) (T T' : List arow), rbs B T → ffo tb cb co kd m t T = some T' → rbs B T'
  | 0, t, T, T', hT, h => by
    have e : T = T' := Option.some.inj h
    rw [← e]
    exact hT
  | m + 1, t, T, T', hT, h => by
    unfold ffo at h
    split at h
    · split at h
      · exact absurd h (by simp)
      · cases hg : fgr cb co kd T (fgp tb cb t) with
        | none =>
          rw [hg] at h
          exact absurd h (by simp)
        | some T2 =>
          rw [hg] at h
          exact ffo_B hB hb m (t + 1) T2 T' (fgr_B hB hT (fun r hr => hb r (List.mem_of_mem_drop (List.mem_filter.mp hr).1)) hg) h
    · exact ffo_B hB hb m (t + 1) T T' hT h
theorem nfn_B {B : tT → Prop} (hB : tcl B) {sf : Nat → Int32} {cf : Nat → Nat → Int32} {rc op w : Nat} {f4 f5 f6 f7 : Int32} {tb td tab : List arow} (hr : ∀ r : Nat, r < rc → B (tbt r, 0)) (h1 : rbs B tb) (h2 : rbs B td) (h : nfn sf cf rc op w f4 f5 f6 f7 tb td = some tab) : rbs B tab := by
  unfold nfn at h
  split at h
  · refine aall_B _ _ _ rbs_nil (fun c hc ts hts => ?_) h
    obtain ⟨r, hr2, rfl⟩ := List.mem_map.mp hc
    have e : [(tbt r, (0 : Int64))] = ts := Option.some.inj hts
    rw [← e]
    intro t ht
    rw [List.mem_singleton.mp ht]
    have := List.mem_range'_1.mp (List.mem_filter.mp hr2).1
    exact hr r (by omega)
  · split at h
    · refine aall_B _ _ _ rbs_nil (fun c hc ts hts => ?_) h
      obtain ⟨r, hr2, rfl⟩ := List.mem_map.mp hc
      have e : r.2 = ts := Option.some.inj hts
      rw [← e]
      exact h1 r (List.mem_filter.mp hr2).1
    · split at h
      · refine aall_B _ _ _ rbs_nil (fun c hc ts hts => ?_) h
        obtain ⟨r, hr2, rfl⟩ := List.mem_map.mp hc
        have e : r.2 = ts := Option.some.inj hts
        rw [← e]
        exact h1 r hr2
      · split at h
        · refine aall_B _ _ _ rbs_nil (fun c hc ts hts => ?_) h
          obtain ⟨r, hr2, hc⟩ := List.mem_flatMap.mp hc
          obtain ⟨s, hs2, rfl⟩ := List.mem_map.mp hc
          exact wst_B hts (tbo_B hB (h1 r hr2) (h2 s (List.mem_filter.mp hs2).1))
        · split at h
          · cases ha : aall [] (tb.map (fun r => (r.1, some r.2))) with
            | none =>
              rw [ha] at h
              exact absurd h (by simp)
            | some T2 =>
              rw [ha] at h
              have hT2 : rbs B T2 := aall_B _ _ _ rbs_nil (fun c hc ts hts => by
                obtain ⟨r, hr2, rfl⟩ := List.mem_map.mp hc
                have e : r.2 = ts := Option.some.inj hts
                rw [← e]
                exact h1 r hr2) ha
              refine aall_B _ _ _ hT2 (fun c hc ts hts => ?_) h
              obtain ⟨r, hr2, rfl⟩ := List.mem_map.mp hc
              have e : r.2 = ts := Option.some.inj hts
              rw [← e]
              exact h2 r hr2
          · split at h
            · refine aall_B _ _ _ rbs_nil (fun c hc ts hts => ?_) h
              obtain ⟨r, hr2, rfl⟩ := List.mem_map.mp hc
              refine mno_B hB (h1 r hr2) (fun K hK => ?_) hts
              unfold afd at hK
              split at hK
              · have e := Option.some.inj hK
                rw [← e]
                exact ark_B h2 _
              · exact absurd hK (by simp)
            · exact ffo_B hB h1 _ _ _ _ rbs_nil h
theorem smt_B {B : tT → Prop} (hB : tcl B) {sf : Nat → Int32} {cf : Nat → Nat → Int32} {rc : Nat} {N : Nat → Nat → Int32} (hr : ∀ r : Nat, r < rc → B (tbt r, 0)) : ∀ (m j : Nat) (tab : List arow), smt sf cf rc N m j = some tab → rbs B tab
  | 0, j, tab, h => absurd h (by simp [smt])
  | m + 1, j, tab, h => by
    have ih := smt_B hB (sf := sf) (cf := cf) (N := N) hr m
    have h : (if j = m then snd1 sf cf rc N m (smt sf cf rc N m) else smt sf cf rc N m j) = some tab := h
    split at h
    · unfold snd1 at h
      have hs : ∀ (b : Bool) (q : Int32) (t : List arow), spt (smt sf cf rc N m) b q = some t → rbs B t := fun b q t ht => by
        unfold spt at ht
        split at ht
        · exact ih _ t ht
        · have e : [] = t := Option.some.inj ht
          rw [← e]
          exact rbs_nil
      cases h1 : spt (smt sf cf rc N m) (decide (1 ≤ iN (N m 0))) (N m 2) with
      | none =>
        rw [h1] at h
        exact absurd h (by simp)
      | some tb =>
        rw [h1] at h
        have h : (spt (smt sf cf rc N m) (is2 (iN (N m 0))) (N m 3)).bind (fun td => nfn sf cf rc (iN (N m 0)) (iN (N m 1)) (N m 4) (N m 5) (N m 6) (N m 7) tb td) = some tab := h
        cases h2 : spt (smt sf cf rc N m) (is2 (iN (N m 0))) (N m 3) with
        | none =>
          rw [h2] at h
          exact absurd h (by simp)
        | some td =>
          rw [h2] at h
          exact nfn_B hB hr (hs _ _ _ h1) (hs _ _ _ h2) h
    · exact ih j tab h
/-- no bit at rc or above -/
def tbk (rc : Nat) (t : tT) : Prop := ∀ i : Nat, (t.1.toBitVec.getLsbD i = true ∨ t.2.toBitVec.getLsbD i = true) → i < rc
theorem bit_0 (i : Nat) : (0 : Int64).toBitVec.getLsbD i = false := by
  show (0#64).getLsbD i = false
  exact BitVec.getLsbD_zero
theorem and_tbt {c : Int64} {r : Nat} (hr : r < 36) (h : ¬ c &&& tbt r = 0) : c.toBitVec.getLsbD r = true := by
  cases hc : c.toBitVec.getLsbD r with
  | true => rfl
  | false =>
    refine absurd (Int64.toBitVec_inj.mp (BitVec.eq_of_getLsbD_eq (fun i hi => ?_))) h
    rw [Int64.toBitVec_and, BitVec.getLsbD_and, bit_0]
    cases ht : (tbt r).toBitVec.getLsbD i with
    | false => exact Bool.and_false _
    | true =>
      rw [(tbt_get r i hr).mp ht, hc]
      rfl
theorem tbk_cl (rc : Nat) : tcl (tbk rc) := by
  refine ⟨fun i h => ?_, fun a b ha hb i h => ?_, fun W c e r b hr hW hc h => ?_⟩
  · rw [bit_0] at h
    exact absurd h (by decide)
  · rw [ts_or, ts_or] at h
    rcases h with h | h
    · rcases (Bool.or_eq_true _ _).mp h with h | h
      · exact ha i (Or.inl h)
      · exact hb i (Or.inl h)
    · rcases (Bool.or_eq_true _ _).mp h with h | h
      · exact ha i (Or.inr h)
      · exact hb i (Or.inr h)
  · unfold tvar at h
    split at h
    · rename_i h0
      have e := Option.some.inj h
      rw [← e]
      intro i hi
      rcases hi with hi | hi
      · exact hW i (Or.inl hi)
      · have hi : (W.2 ||| tbt r).toBitVec.getLsbD i = true := hi
        rw [ts_or] at hi
        rcases (Bool.or_eq_true _ _).mp hi with hi | hi
        · exact hW i (Or.inr hi)
        · rw [(tbt_get r i hr).mp hi]
          exact hc r (Or.inl (and_tbt hr h0))
    · split at h
      · rename_i h0
        have e := Option.some.inj h
        rw [← e]
        intro i hi
        rcases hi with hi | hi
        · have hi : (W.1 ||| tbt r).toBitVec.getLsbD i = true := hi
          rw [ts_or] at hi
          rcases (Bool.or_eq_true _ _).mp hi with hi | hi
          · exact hW i (Or.inl hi)
          · rw [(tbt_get r i hr).mp hi]
            exact hc r (Or.inr (and_tbt hr h0))
        · exact hW i (Or.inr hi)
      · exact absurd h (by simp)
/-- what nodes give has no bit of no ROW -/
theorem sem_bits {sf : Nat → Int32} {cf : Nat → Nat → Int32} {rc : Nat} {N : Nat → Nat → Int32} {k : Nat} {tab : List arow} (h36 : rc ≤ 36) (h : sem sf cf rc N k = some tab) : rbs (tbk rc) tab :=
  smt_B (tbk_cl rc) (fun r hr i hi => by
    rcases hi with hi | hi
    · rw [(tbt_get r i (by omega)).mp hi]
      exact hr
    · have hi : (0 : Int64).toBitVec.getLsbD i = true := hi
      rw [bit_0] at hi
      exact absurd hi (by decide)) (k + 1) k tab h
theorem cl_rs.bits {s : cl_S} {c : cl_N} {res : List arow} {rw : Nat} (H : cl_rs s c res rw) (h36 : s.2.2.2.2 ≤ 36) : rbs (tbk s.2.2.2.2) res := by
  rcases H with ⟨-, e⟩ | ⟨j, -, -, -, h, -⟩
  · rw [e]
    exact rbs_nil
  · exact sem_bits h36 h
