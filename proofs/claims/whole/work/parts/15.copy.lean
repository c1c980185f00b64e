theorem w_acN : Cond.native arraycopyName ∈ rl_BW := rl_bw 392 (by decide +kernel) (by decide +kernel)
theorem w_acS : Cond.static arraycopyName ∈ rl_BW := rl_bw 391 (by decide +kernel) (by decide +kernel)
theorem w_acI : Cond.initialized "java/lang/System" ∈ rl_BW := rl_bw 11 (by decide +kernel) (by decide +kernel)
theorem acX5_22 : Cond.methodLink RX5 22 arraycopyName ∈ rl_BW := rl_bw 390 (by decide +kernel) (by decide +kernel)
theorem acX2_133 : Cond.methodLink RX2 133 arraycopyName ∈ rl_BW := rl_bw 434 (by decide +kernel) (by decide +kernel)
section RLP
variable {X : rl_X} {E : rl_E} {cc : ByteArray} {own : String} {Ts Ns : List Cond} {pc : Nat} {lo : List (Option Value)} {st : List Value} {h : rl_H} {n ce sl : Nat}
theorem o_ldcw (hC : rl_C X E cc own Ts Ns) {idx : Nat} {v : Int32} (hw : Cond.constant own idx v ∈ Ts) (hd : decode cc pc = .ok (.ldc_w idx, 3)) (kk : rl_G X E (pc + 3) lo (.int v :: st) h n ce sl) : rl_G X E pc lo st h n ce sl := fun H locs ls a b c => lv_ldcw hC.1 hC.2.1 hC.2.2.1 (hC.2.2.2.1 _ hw) hd (kk H locs ls a b c)
/-- System.arraycopy of ints -/
theorem o_copyi (hC : rl_C X E cc own Ts Ns) (hml : X.2.1.2.2.2.2.maxLocals = lo.length) {idx a0 a t0 n0 n1 sp dp k : Nat} {c0 c1 : ClassId} {f g : Nat → Int32} (w1 : Cond.methodLink own idx arraycopyName ∈ Ts) (w2 : Cond.native arraycopyName ∈ Ts) (w3 : Cond.static arraycopyName ∈ Ts) (w4 : Cond.initialized "java/lang/System" ∈ Ts) (ht0 : E.2.2.1[t0]? = some (c0, .int)) (ht1 : E.2.2.1[t0]? = some (c1, .int)) (hd : decode cc pc = .ok (.invokestatic idx, 3)) (ha0 : h a0 = some (.inl (c0, n0, .inl f))) (ha1 : h a = some (.inl (c1, n1, .inl g))) (h4 : sp + k ≤ n0) (h5 : dp + k ≤ n1) (hb0 : n0 < 2147483648) (hb1 : n1 < 2147483648) (hr1 : 1 ≤ X.1.2.2.2.1.frames) (hr2 : (st.map fun v => v.category).sum + (nativeFrameWords "java/lang/System" "arraycopy" 5 + 11) ≤ X.1.2.2.2.1.locals)
    (kk : rl_G X E (pc + 3) lo st (rl_u h a (.inl (c1, n1, .inl (va_cpy f g sp dp k)))) n ce sl) : rl_G X E pc lo (.int (nI k) :: .int (nI dp) :: .ref a :: .int (nI sp) :: .ref a0 :: st) h n ce sl := by
  intro H locs ls a1 b1 c1' T hT Xs
  have hts := hC.2.2.2.1
  have hK := hC.2.2.2.2.2.1
  have es : (nI sp).toNatClampNeg = sp := nI_clamp (by omega)
  have ed : (nI dp).toNatClampNeg = dp := nI_clamp (by omega)
  have ek : (nI k).toNatClampNeg = k := nI_clamp (by omega)
  have is : (nI sp).toInt = (sp : Int) := nI_toInt (by omega)
  have id' : (nI dp).toInt = (dp : Int) := nI_toInt (by omega)
  have ik : (nI k).toInt = (k : Int) := nI_toInt (by omega)
  have hc0 : H[a0]? = some (vp_cell c0 (n0, .inl f)) := (a1.2.2.2 a0 _ ha0).2
  have hc1 : H[a]? = some (vp_cell c1 (n1, .inl g)) := (a1.2.2.2 a _ ha1).2
  have hb := (a1.2.2.2 a _ ha1).1
  obtain ⟨-, k0, hk0, cm0, hkk0⟩ := (hK.2 t0 _ ht0).1 n0 (fun j => .int (f j))
  obtain ⟨-, k1, hk1, cm1, hkk1⟩ := (hK.2 t0 _ ht1).1 n1 (fun j => .int (g j))
  obtain ⟨vm', X', step⟩ := Xs.arraycopy hC.1 hC.2.2.1 (hts _ w1) (hts _ w2) (hts _ w3) (hts _ w4) (src := a0) (dst := a) (cs := vp_cell c0 (n0, .inl f)) (cd := vp_cell c1 (n1, .inl g)) (srcPos := nI sp) (destPos := nI dp) (n := nI k) (by rw [hT]; exact hc0) (by rw [hT]; exact hc1)
    (fun _ h => by cases h) (fun _ h => by cases h) (fun h => by cases h) (fun h => by cases h) hk0 hk1 hkk0 hkk1 (by simp [refKind]) (nI_pos (by omega)) (nI_pos (by omega)) (nI_pos (by omega))
    (by rw [is, ik]; show ¬ _ > ((arrV c0 n0 (fun j => .int (f j))).slots.size : Int); rw [arrV_size]; omega)
    (by rw [id', ik]; show ¬ _ > ((arrV c1 n1 (fun j => .int (g j))).slots.size : Int); rw [arrV_size]; omega)
    (fun vm₁ _ i hi => by
      rw [ek] at hi
      have e : (vp_cell c0 (n0, .inl f)).slots.getD ((nI sp).toNatClampNeg + i) .null = .int (f (sp + i)) := by
        rw [es]
        show (arrV c0 n0 (fun j => .int (f j))).slots.getD _ _ = _
        rw [Array.getD_eq_getD_getElem?, arrV_read _ _ (by omega)]
        rfl
      refine ⟨?_, ?_⟩
      · rw [e]
        rfl
      · rw [e]
        exact trivial)
    (g := F0 X.2.1.1 pc ls (.int (nI k) :: .int (nI dp) :: .ref a :: .int (nI sp) :: .ref a0 :: st)) rfl (by rw [hml]; exact c1'.1) (rest := st) rfl (by rw [hC.2.1]; exact hd) hr1 (by show 2 * 0 + _ + _ ≤ _; omega)
  have e1 : copied (vp_cell c0 (n0, .inl f)) (vp_cell c1 (n1, .inl g)) (nI sp) (nI dp) (nI k) = vp_cell c1 (n1, .inl (va_cpy f g (nI sp).toNatClampNeg (nI dp).toNatClampNeg (nI k).toNatClampNeg)) := va_copied (fun z => .int z) c0 c1 f g (by rw [es, ek]; exact h4)
  rw [es, ed, ek] at e1
  rw [e1] at X' step
  have hl : a < H.size := (Array.getElem?_eq_some_iff.mp hc1).1
  have hheap : ((T.setVm vm').setCell a (vp_cell c1 (n1, .inl (va_cpy f g sp dp k)))).heap = H.setIfInBounds a (vp_cell c1 (n1, .inl (va_cpy f g sp dp k))) := by rw [← hT]; rfl
  have oq : ∀ q : Nat, q ≠ a → (H.setIfInBounds a (vp_cell c1 (n1, .inl (va_cpy f g sp dp k))))[q]? = H[q]? := fun q hq => by simp [Array.getElem?_setIfInBounds, Ne.symm hq]
  obtain ⟨t, y1, y2⟩ := kk _ _ ls (a1.put ha1 (by simp) oq (show (H.setIfInBounds a _)[a]? = some _ by simp [Array.getElem?_setIfInBounds, hl])) (fun q hq => by
      rcases List.mem_append.mp hq with h9 | h9
      · exact b1 q h9
      · obtain ⟨z, -, hz⟩ := List.mem_map.mp h9
        rw [← hz]
        exact hb) c1' _ hheap X'
  exact ⟨t, step t y1, y2⟩
end RLP
