/-! new T[n][m] and the script's own cell -/
theorem rl_outer (c : ClassId) (N h0 : Nat) : ∀ i : Nat, Jvm.Free.Multi.outerC c N h0 i = arrV c N (fun j => va_rf (if j < i then some (h0 + 1 + j) else none))
  | 0 => by
    show ({ cls := c, slots := Array.replicate N .null, vm := .none } : Cell) = _
    rw [arrV_new]
    refine congrArg (arrV c N) (funext fun j => ?_)
    simp [va_rf]
  | i + 1 => by
    show (Jvm.Free.Multi.outerC c N h0 i).setSlot i (.ref (h0 + 1 + i)) = _
    rw [rl_outer c N h0 i, arrV_store]
    refine congrArg (arrV c N) (funext fun j => ?_)
    by_cases e : j = i
    · subst e
      simp [updV, va_rf]
    · by_cases h : j < i
      · simp [updV, e, h, Nat.lt_succ_of_lt h]
      · simp [updV, e, h, show ¬ j < i + 1 by omega]
/-- N cells from a on -/
def rl_us (h : rl_H) (a N : Nat) (e : va_E) : rl_H := fun q => if a ≤ q ∧ q < a + N then some e else h q
theorem rl_us_s {h : rl_H} {a N q : Nat} {e : va_E} (hq : a ≤ q ∧ q < a + N) : rl_us h a N e q = some e := if_pos hq
theorem rl_us_n {h : rl_H} {a N q : Nat} {e : va_E} (hq : q < a ∨ a + N ≤ q) : rl_us h a N e q = h q := if_neg (by omega)
section RLM
variable {X : rl_X} {E : rl_E} {cc : ByteArray} {own : String} {Ts Ns : List Cond} {pc : Nat} {lo : List (Option Value)} {st : List Value} {h : rl_H} {n ce sl : Nat}
theorem o_mna (hC : rl_C X E cc own Ts Ns) {idx t0 t1 N' K' : Nat} {ty : FieldType} {cA cy : ClassId} {i k : Int32} {z : vp_A} (h1 : Cond.classLink own idx ("[" ++ (FieldType.array ty).toString) ∈ Ts) (h2 : Cond.arrayOver (.array ty) ∈ Ns) (h3 : Cond.arrayClass ty ∈ Ts) (ht : E.2.2.1[t0]? = some (cA, .array ty)) (ht1 : E.2.2.1[t1]? = some (cy, ty)) (hnr : ∀ C, ty ≠ .object C)
    (hn : ¬ i < 0) (hk : ¬ k < 0) (hN : i.toNatClampNeg = N') (hM : k.toNatClampNeg = K') (hb1 : N' * 4 ≤ 536870912) (hb2 : K' * componentBytes ty ≤ 536870912) (hb3 : K' ≤ 536870912) (hdf : fits ty (defaultValue ty) = true) (hdd : (defaultValue ty).isDefault = true) (hce : ce + (1 + N') ≤ X.1.2.2.2.1.cells) (hsl : sl + (N' + N' * K') ≤ X.1.2.2.2.1.slots) (hz : ∀ c : ClassId, Jvm.Free.Multi.innerC c K' (defaultValue ty) = vp_cell c z) (hd : decode cc pc = .ok (.multianewarray idx 2, 4))
    (kk : rl_G X E (pc + 4) lo (.ref n :: st) (rl_us (rl_u h n (.inl (cA, N', .inr (.inr (.inr (.inr (fun j => if j < N' then some (n + 1 + j) else none))))))) (n + 1) N' (.inl (cy, z))) (n + 1 + N') (ce + 1 + N') (sl + N' + N' * K')) : rl_G X E pc lo (.int k :: .int i :: st) h n ce sl := by
  subst hN
  subst hM
  intro H locs ls a1 b1 c1 T hT Xs
  have hts := hC.2.2.2.1
  have hK := hC.2.2.2.2.2.1
  have hov : (Cond.arrayOver (.array ty)).before X.2.1.2.1 X.1.2.2.2.2 = true := hC.2.2.2.2.1 _ h2
  obtain ⟨vm₁, cA2, comp, -, fA, fC, hO, -, X', step⟩ := Xs.multianewarray2F hC.1 hC.2.2.1 (hts _ h1) hov (hts _ h3) (g := F0 X.2.1.1 pc ls (.int k :: .int i :: st)) rfl (by rw [hC.2.1]; exact hd) rfl hn hk hb1 hb2 hb3 hdf hdd hce hsl
  have e1 : cA2 = cA := Option.some.inj (fA.symm.trans (hK.2 t0 _ ht).2)
  have e2 : comp = cy := by
    have h5 : X.1.2.2.2.2.vm.findClass ("[" ++ ty.toString) = some cy := by
      have h4 := (hK.2 t1 _ ht1).2
      cases ty <;> first | exact h4 | exact absurd rfl (hnr _)
    exact Option.some.inj (fC.symm.trans h5)
  subst e1
  subst e2
  generalize hF : Jvm.Free.Multi.fill (T.setVm vm₁) cA2 comp i.toNatClampNeg k.toNatClampNeg (defaultValue ty) i.toNatClampNeg = F at X' step
  have hTh : (T.setVm vm₁).heap = H := hT
  obtain ⟨f1, f2, -, -⟩ := Jvm.Free.Multi.fill_facts (T.setVm vm₁) cA2 comp i.toNatClampNeg k.toNatClampNeg (defaultValue ty) i.toNatClampNeg
  rw [hF, hTh] at f1 f2
  have hold : ∀ x : Nat, x < H.size → F.heap[x]? = H[x]? := fun x hx => by
    have := Jvm.Free.Multi.fill_old (T.setVm vm₁) cA2 comp i.toNatClampNeg k.toNatClampNeg (defaultValue ty) (a := x) (by rw [hTh]; exact hx) i.toNatClampNeg
    rw [hF, hTh] at this
    exact this
  have hrow : ∀ j : Nat, j < i.toNatClampNeg → F.heap[H.size + 1 + j]? = some (vp_cell comp z) := fun j hj => by
    have := Jvm.Free.Multi.fill_inner (T.setVm vm₁) cA2 comp i.toNatClampNeg k.toNatClampNeg (defaultValue ty) i.toNatClampNeg j hj
    rw [hF, hTh, hz] at this
    exact this
  have hout : Jvm.Free.Multi.outerC cA2 i.toNatClampNeg H.size i.toNatClampNeg = vp_cell cA2 (i.toNatClampNeg, .inr (.inr (.inr (.inr (fun j => if j < i.toNatClampNeg then some (H.size + 1 + j) else none))))) := by
    rw [vp_cell_q]
    exact rl_outer cA2 i.toNatClampNeg H.size i.toNatClampNeg
  rw [hout] at f2
  have zn : H.size = n := a1.1
  subst zn
  have hR : rl_R E (rl_us (rl_u h H.size (.inl (cA2, i.toNatClampNeg, .inr (.inr (.inr (.inr (fun j => if j < i.toNatClampNeg then some (H.size + 1 + j) else none))))))) (H.size + 1) i.toNatClampNeg (.inl (comp, z))) (H.size + 1 + i.toNatClampNeg) F.heap := by
    refine ⟨f1, by have := a1.2.1; omega, fun q hq => ?_, fun q x hx => ?_⟩
    · rw [hold q (Nat.lt_of_lt_of_le hq a1.2.1)]
      exact a1.2.2.1 q hq
    · have hb0 := a1.2.1
      by_cases h9 : H.size + 1 ≤ q ∧ q < H.size + 1 + i.toNatClampNeg
      · rw [rl_us_s h9] at hx
        cases hx
        refine ⟨by omega, ?_⟩
        have := hrow (q - (H.size + 1)) (by omega)
        rw [show H.size + 1 + (q - (H.size + 1)) = q by omega] at this
        exact this
      · rw [rl_us_n (by omega)] at hx
        by_cases h8 : q = H.size
        · subst h8
          rw [rl_u_s] at hx
          cases hx
          exact ⟨hb0, f2⟩
        · rw [rl_u_n h8] at hx
          exact ⟨(a1.2.2.2 q x hx).1, (a1.2.2.2 q x hx).2.kept (hold q (a1.lt hx))⟩
  obtain ⟨t, y1, y2⟩ := kk F.heap locs ls hR b1 c1 F rfl X'
  refine ⟨t, step t ?_, y2⟩
  have e : T.heap.size = H.size := by rw [hT]
  rw [e]
  exact y1
end RLM
