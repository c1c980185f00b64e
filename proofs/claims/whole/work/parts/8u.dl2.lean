/-! answers of both sides -/
theorem cell_eq {res : List arow} {rw : Nat} {q kk r1 r2 cd : Int32} {f0 : Int64} (n80 : res.length ≤ 80) (rw6 : rw ≤ 6) (H1 : (¬ (∃ t0 k0 : Nat, t0 < res.length ∧ q = nI t0 ∧ k0 < rw ∧ kk = nI k0) ∧ r1 = nI 1) ∨ (r1 = nI 0 ∧ ∃ cv : Int32, f0 = cv.toInt64 ∧ ∃ t0 k0 : Nat, t0 < res.length ∧ q = nI t0 ∧ k0 < rw ∧ kk = nI k0 ∧ cv = (ark res t0).1.getD k0 0)) (H2 : (¬ (∃ t0 k0 : Nat, t0 < res.length ∧ q = nI t0 ∧ k0 < rw ∧ kk = nI k0) ∧ cd = nI 1) ∨ (cd = nI 0 ∧ ∃ t0 k0 : Nat, t0 < res.length ∧ q = nI t0 ∧ k0 < rw ∧ kk = nI k0 ∧ r2 = (ark res t0).1.getD k0 0)) : cd = r1 ∧ (r1 = nI 0 → f0 = r2.toInt64) := by
  rcases H1 with ⟨a1, a2⟩ | ⟨a2, cv, a3, t0, k0, a4, rfl, a6, rfl, a8⟩
  · rcases H2 with ⟨b1, b2⟩ | ⟨b2, t1, k1, b4, b5, b6, b7, b8⟩
    · exact ⟨b2.trans a2.symm, fun e => absurd (a2.symm.trans e) (by decide +kernel)⟩
    · exact absurd ⟨t1, k1, b4, b5, b6, b7⟩ a1
  · rcases H2 with ⟨b1, b2⟩ | ⟨b2, t1, k1, b4, b5, b6, b7, b8⟩
    · exact absurd ⟨t0, k0, a4, rfl, a6, rfl⟩ b1
    · have e1 := nI_inj2 (by omega) (by omega) b5
      have e2 := nI_inj2 (by omega) (by omega) b7
      subst e1
      subst e2
      exact ⟨b2.trans a2.symm, fun _ => by rw [a3, a8, b8]⟩
theorem way_eq {res : List arow} {q kk w r1 cd : Int32} {f0 r2 : Int64} (n80 : res.length ≤ 80) (hle : ∀ t0 : Nat, t0 < res.length → (ark res t0).2.length ≤ 12) (H1 : (¬ (∃ t0 k0 : Nat, t0 < res.length ∧ q = nI t0 ∧ k0 < (ark res t0).2.length ∧ kk = nI k0) ∧ r1 = nI 1) ∨ ((∃ t0 k0 : Nat, t0 < res.length ∧ q = nI t0 ∧ k0 < (ark res t0).2.length ∧ kk = nI k0) ∧ w ≠ nI 0 ∧ w ≠ nI 1 ∧ r1 = nI 2) ∨ (r1 = nI 0 ∧ ∃ t0 k0 : Nat, t0 < res.length ∧ q = nI t0 ∧ k0 < (ark res t0).2.length ∧ kk = nI k0 ∧ ((w = nI 0 ∧ f0 = (tfn (ark res t0).2 k0).1) ∨ (w = nI 1 ∧ f0 = (tfn (ark res t0).2 k0).2)))) (H2 : (¬ (∃ t0 k0 : Nat, t0 < res.length ∧ q = nI t0 ∧ k0 < (ark res t0).2.length ∧ kk = nI k0) ∧ cd = nI 1) ∨ ((∃ t0 k0 : Nat, t0 < res.length ∧ q = nI t0 ∧ k0 < (ark res t0).2.length ∧ kk = nI k0) ∧ w ≠ nI 0 ∧ w ≠ nI 1 ∧ cd = nI 2) ∨ (cd = nI 0 ∧ ∃ t0 k0 : Nat, t0 < res.length ∧ q = nI t0 ∧ k0 < (ark res t0).2.length ∧ kk = nI k0 ∧ ((w = nI 0 ∧ r2 = (tfn (ark res t0).2 k0).1) ∨ (w = nI 1 ∧ r2 = (tfn (ark res t0).2 k0).2)))) : cd = r1 ∧ (r1 = nI 0 → f0 = r2) := by
  have n10 : ¬ (nI 1 : Int32) = nI 0 := by decide +kernel
  have n20 : ¬ (nI 2 : Int32) = nI 0 := by decide +kernel
  rcases H1 with ⟨a1, a2⟩ | ⟨a1, a3, a4, a2⟩ | ⟨a2, t0, k0, a4, a5, a6, a7, a8⟩
  · rcases H2 with ⟨b1, b2⟩ | ⟨b1, -⟩ | ⟨b2, t1, k1, b4, b5, b6, b7, b8⟩
    · exact ⟨b2.trans a2.symm, fun e => absurd (a2.symm.trans e) n10⟩
    · exact absurd b1 a1
    · exact absurd ⟨t1, k1, b4, b5, b6, b7⟩ a1
  · rcases H2 with ⟨b1, b2⟩ | ⟨-, -, -, b2⟩ | ⟨b2, t1, k1, b4, b5, b6, b7, b8⟩
    · exact absurd a1 b1
    · exact ⟨b2.trans a2.symm, fun e => absurd (a2.symm.trans e) n20⟩
    · exact b8.elim (fun u => absurd u.1 a3) (fun u => absurd u.1 a4)
  · rcases H2 with ⟨b1, b2⟩ | ⟨-, b3, b4, b2⟩ | ⟨b2, t1, k1, b4, b5, b6, b7, b8⟩
    · exact absurd ⟨t0, k0, a4, a5, a6, a7⟩ b1
    · exact a8.elim (fun u => absurd u.1 b3) (fun u => absurd u.1 b4)
    · have l0 := hle t0 a4
      have l1 := hle t1 b4
      have e1 := nI_inj2 (by omega) (by omega) (a5.symm.trans b5)
      have e2 := nI_inj2 (by omega) (by omega) (a7.symm.trans b7)
      subst e1
      subst e2
      refine ⟨b2.trans a2.symm, fun _ => ?_⟩
      rcases a8 with ⟨c1, c2⟩ | ⟨c1, c2⟩
      · rcases b8 with ⟨d1, d2⟩ | ⟨d1, d2⟩
        · rw [c2, d2]
        · exact absurd (d1.symm.trans c1) n10
      · rcases b8 with ⟨d1, d2⟩ | ⟨d1, d2⟩
        · exact absurd (c1.symm.trans d1) n10
        · rw [c2, d2]
theorem fw_eq {P : Prop} {r1 r2 a b : Int32} (H1 : (P ∧ r1 = a) ∨ (¬ P ∧ r1 = b)) (H2 : (P ∧ r2 = a) ∨ (¬ P ∧ r2 = b)) : r1 = r2 := by
  rcases H1 with ⟨p, e⟩ | ⟨p, e⟩
  · rcases H2 with ⟨p2, e2⟩ | ⟨p2, e2⟩
    · rw [e, e2]
    · exact absurd p p2
  · rcases H2 with ⟨p2, e2⟩ | ⟨p2, e2⟩
    · exact absurd p2 p
    · rw [e, e2]
theorem us_k : ∀ k : Nat, k < 37 → ((nI k).toInt64 &&& 63).toBitVec.smod 64 = BitVec.ofNat 64 k ∧ ((nI k).toInt64.toUInt64 &&& Int64.toUInt64 63).toBitVec % 64 = BitVec.ofNat 64 k := by decide +kernel
theorem us_lem {k : Nat} (hk : k ≤ 36) (st : Int64) : (st < 0 ∨ ¬ st >>> ((nI k).toInt64 &&& 63) = 0) ↔ ¬ (st.toUInt64 >>> ((nI k).toInt64.toUInt64 &&& Int64.toUInt64 63)).toInt64 = 0 := by
  obtain ⟨k1, k2⟩ := us_k k (by omega)
  have kn : (BitVec.ofNat 64 k).toNat = k := by
    rw [BitVec.toNat_ofNat]
    exact Nat.mod_eq_of_lt (by omega)
  have e1 : (st >>> ((nI k).toInt64 &&& 63)).toBitVec = st.toBitVec.sshiftRight k := by
    rw [Int64.toBitVec_shiftRight, k1, BitVec.sshiftRight', kn]
  have e2 : (st.toUInt64 >>> ((nI k).toInt64.toUInt64 &&& Int64.toUInt64 63)).toInt64.toBitVec = st.toBitVec >>> k := by
    show (st.toUInt64 >>> ((nI k).toInt64.toUInt64 &&& Int64.toUInt64 63)).toBitVec = st.toBitVec >>> k
    rw [UInt64.toBitVec_shiftRight, k2]
    show st.toBitVec >>> (BitVec.ofNat 64 k) = st.toBitVec >>> k
    rw [BitVec.ushiftRight_eq', kn]
  have pw : (2 : Nat) ^ k ≤ 2 ^ 36 := Nat.pow_le_pow_right (by decide) hk
  have hlt : st < 0 ↔ 2 ^ 63 ≤ st.toBitVec.toNat := by
    rw [Int64.lt_iff_toInt_lt]
    show st.toBitVec.toInt < (0 : Int64).toInt ↔ _
    rw [show (0 : Int64).toInt = 0 from rfl, BitVec.toInt_eq_toNat_cond]
    have := st.toBitVec.isLt
    split <;> omega
  by_cases hn : st < 0
  · refine ⟨fun _ e => ?_, fun _ => Or.inl hn⟩
    have e3 : st.toBitVec >>> k = 0#64 := by
      rw [← e2, e]
      rfl
    have e4 : (st.toBitVec >>> k).toNat = 0 := by
      rw [e3]
      rfl
    rw [BitVec.toNat_ushiftRight, Nat.shiftRight_eq_div_pow] at e4
    have := hlt.mp hn
    have := Nat.lt_of_div_eq_zero (Nat.pow_pos (by decide)) e4
    omega
  · have ms : st.toBitVec.msb = false := by
      rw [BitVec.msb_eq_decide]
      exact decide_eq_false (fun e => hn (hlt.mpr e))
    have e5 : st >>> ((nI k).toInt64 &&& 63) = (st.toUInt64 >>> ((nI k).toInt64.toUInt64 &&& Int64.toUInt64 63)).toInt64 := by
      apply Int64.toBitVec_inj.mp
      rw [e1, e2, BitVec.sshiftRight_eq_of_msb_false ms]
    rw [e5]
    exact ⟨fun h => h.resolve_left hn, fun h => Or.inr h⟩
theorem us_if {A B : Prop} [Decidable A] [Decidable B] (h : A ↔ ¬ B) (x y : Int32) : (if A then y else x) = (if B then x else y) := by
  by_cases b : B
  · rw [if_pos b, if_neg (fun a => h.mp a b)]
  · rw [if_neg b, if_pos (h.mpr b)]

theorem und_eq {res : List arow} {q r1 r2 : Int32} {st : Int64} {k : Nat} (n80 : res.length ≤ 80) (hk : k ≤ 36) (H1 : (¬ (∃ t : Nat, t < res.length ∧ q = nI t) ∧ r1 = -1) ∨ ∃ t : Nat, t < res.length ∧ q = nI t ∧ r1 = (if (st.toUInt64 >>> ((nI k).toInt64.toUInt64 &&& Int64.toUInt64 63)).toInt64 = 0 then (if wfh st (ark res t).2 0 = -1 then nI 0 else nI 1) else (-2 : Int32))) (H2 : (¬ (∃ t : Nat, t < res.length ∧ q = nI t) ∧ r2 = -1) ∨ ∃ t : Nat, t < res.length ∧ q = nI t ∧ r2 = (if (st < 0 ∨ ¬ st >>> ((nI k).toInt64 &&& 63) = 0) then (-2 : Int32) else (if wfh st (ark res t).2 0 = -1 then nI 0 else nI 1))) : r1 = r2 :=
  lk_eq n80 H1 (H2.imp id (fun ⟨t, a, b, e⟩ => ⟨t, a, b, e.trans (us_if (us_lem hk st) _ _)⟩))
