/-! Long.bitCount of a number below 2 ^ 36 -/
def pcn : Nat → Nat → Nat
  | 0, _ => 0
  | n + 1, x => x % 2 + pcn n (x / 2)
/-- the digits' sum -/
def dsm (B : Nat) : Nat → Nat → Nat
  | 0, _ => 0
  | n + 1, y => y % B + dsm B n (y / B)
/-- n digits, each at most d -/
def dgs (B d : Nat) : Nat → Nat → Prop
  | 0, y => y = 0
  | n + 1, y => y % B ≤ d ∧ dgs B d n (y / B)
def bm1 : Nat → Nat
  | 0 => 0
  | n + 1 => 4 * bm1 n + 1
def bm2 : Nat → Nat
  | 0 => 0
  | n + 1 => 16 * bm2 n + 3
def bm3 : Nat → Nat
  | 0 => 0
  | n + 1 => 256 * bm3 n + 15
theorem and_b (x m p r : Nat) (h : r < 2 ^ p) : x &&& (2 ^ p * m + r) = (x % 2 ^ p &&& r) + 2 ^ p * (x / 2 ^ p &&& m) := by
  have e := Nat.div_add_mod (x &&& (2 ^ p * m + r)) (2 ^ p)
  have p0 : 0 < 2 ^ p := Nat.pow_pos (by decide)
  have e1 : (2 ^ p * m + r) / 2 ^ p = m := by
    rw [Nat.mul_add_div p0, Nat.div_eq_of_lt h, Nat.add_zero]
  have e2 : (2 ^ p * m + r) % 2 ^ p = r := by
    rw [Nat.mul_add_mod, Nat.mod_eq_of_lt h]
  rw [Nat.and_div_two_pow, Nat.and_mod_two_pow, e1, e2] at e
  omega
theorem and_4 (x m : Nat) : x &&& (4 * m + 1) = x % 2 + 4 * (x / 4 &&& m) := by
  have e := and_b x m 2 1 (by decide)
  rw [show (2 : Nat) ^ 2 = 4 from rfl, Nat.and_one_is_mod] at e
  omega
theorem and_16 (x m : Nat) : x &&& (16 * m + 3) = x % 4 + 16 * (x / 16 &&& m) := by
  have e := and_b x m 4 3 (by decide)
  have e2 := Nat.and_two_pow_sub_one_eq_mod (x % 16) 2
  rw [show (2 : Nat) ^ 2 - 1 = 3 from rfl, show (2 : Nat) ^ 2 = 4 from rfl] at e2
  rw [show (2 : Nat) ^ 4 = 16 from rfl, e2] at e
  omega
theorem and_256 (x m : Nat) : x &&& (256 * m + 15) = x % 16 + 256 * (x / 256 &&& m) := by
  have e := and_b x m 8 15 (by decide)
  have e2 := Nat.and_two_pow_sub_one_eq_mod (x % 256) 4
  rw [show (2 : Nat) ^ 4 - 1 = 15 from rfl, show (2 : Nat) ^ 4 = 16 from rfl] at e2
  rw [show (2 : Nat) ^ 8 = 256 from rfl, e2] at e
  omega
theorem bs1 : ∀ (n x : Nat), x < 4 ^ n → dgs 4 2 n (x - (x / 2 &&& bm1 n)) ∧ dsm 4 n (x - (x / 2 &&& bm1 n)) = pcn (2 * n) x
  | 0, x, h => by
    rw [Nat.pow_zero] at h
    have e : x = 0 := by omega
    subst e
    exact ⟨by show 0 - _ = 0; omega, rfl⟩
  | n + 1, x, h => by
    obtain ⟨i1, i2⟩ := bs1 n (x / 4) (by rw [Nat.pow_succ] at h; omega)
    have e : x / 2 &&& bm1 (n + 1) = x / 2 % 2 + 4 * (x / 4 / 2 &&& bm1 n) := by
      show x / 2 &&& (4 * bm1 n + 1) = _
      rw [and_4, show x / 2 / 4 = x / 4 / 2 by omega]
    have le : (x / 4 / 2 &&& bm1 n) ≤ x / 4 / 2 := Nat.and_le_left
    rw [e]
    have d0 : (x - (x / 2 % 2 + 4 * (x / 4 / 2 &&& bm1 n))) % 4 = x % 2 + x / 2 % 2 := by omega
    have d1 : (x - (x / 2 % 2 + 4 * (x / 4 / 2 &&& bm1 n))) / 4 = x / 4 - (x / 4 / 2 &&& bm1 n) := by omega
    refine ⟨⟨by omega, by rw [d1]; exact i1⟩, ?_⟩
    show _ % 4 + dsm 4 n (_ / 4) = pcn (2 * n + 1 + 1) x
    rw [d0, d1, i2]
    show _ = x % 2 + (x / 2 % 2 + pcn (2 * n) (x / 2 / 2))
    rw [show x / 2 / 2 = x / 4 by omega]
    omega
theorem bs2 : ∀ (n y : Nat), dgs 4 2 (2 * n) y → dgs 16 4 n ((y &&& bm2 n) + (y / 4 &&& bm2 n)) ∧ dsm 16 n ((y &&& bm2 n) + (y / 4 &&& bm2 n)) = dsm 4 (2 * n) y
  | 0, y, h => by
    have e : y = 0 := h
    subst e
    exact ⟨rfl, rfl⟩
  | n + 1, y, h => by
    have h : y % 4 ≤ 2 ∧ y / 4 % 4 ≤ 2 ∧ dgs 4 2 (2 * n) (y / 4 / 4) := h
    obtain ⟨h1, h2, h3⟩ := h
    rw [show y / 4 / 4 = y / 16 by omega] at h3
    obtain ⟨i1, i2⟩ := bs2 n (y / 16) h3
    have e1 : y &&& bm2 (n + 1) = y % 4 + 16 * (y / 16 &&& bm2 n) := and_16 y (bm2 n)
    have e2 : y / 4 &&& bm2 (n + 1) = y / 4 % 4 + 16 * (y / 16 / 4 &&& bm2 n) := by
      show y / 4 &&& (16 * bm2 n + 3) = _
      rw [and_16, show y / 4 / 16 = y / 16 / 4 by omega]
    rw [e1, e2]
    have d0 : (y % 4 + 16 * (y / 16 &&& bm2 n) + (y / 4 % 4 + 16 * (y / 16 / 4 &&& bm2 n))) % 16 = y % 4 + y / 4 % 4 := by omega
    have d1 : (y % 4 + 16 * (y / 16 &&& bm2 n) + (y / 4 % 4 + 16 * (y / 16 / 4 &&& bm2 n))) / 16 = (y / 16 &&& bm2 n) + (y / 16 / 4 &&& bm2 n) := by omega
    refine ⟨⟨by omega, by rw [d1]; exact i1⟩, ?_⟩
    show _ % 16 + dsm 16 n (_ / 16) = y % 4 + (y / 4 % 4 + dsm 4 (2 * n) (y / 4 / 4))
    rw [d0, d1, i2, show y / 4 / 4 = y / 16 by omega]
    omega
theorem bs3 : ∀ (n z : Nat), dgs 16 4 (2 * n) z → dgs 256 8 n ((z + z / 16) &&& bm3 n) ∧ dsm 256 n ((z + z / 16) &&& bm3 n) = dsm 16 (2 * n) z
  | 0, z, h => by
    have e : z = 0 := h
    subst e
    exact ⟨rfl, rfl⟩
  | n + 1, z, h => by
    have h : z % 16 ≤ 4 ∧ z / 16 % 16 ≤ 4 ∧ dgs 16 4 (2 * n) (z / 16 / 16) := h
    obtain ⟨h1, h2, h3⟩ := h
    rw [show z / 16 / 16 = z / 256 by omega] at h3
    have h4 : z / 256 % 16 ≤ 4 := by
      cases n with
      | zero =>
        have e : z / 256 = 0 := h3
        omega
      | succ n => exact (show z / 256 % 16 ≤ 4 ∧ _ from h3).1
    obtain ⟨i1, i2⟩ := bs3 n (z / 256) h3
    have e1 : (z + z / 16) &&& bm3 (n + 1) = (z % 16 + z / 16 % 16) + 256 * ((z / 256 + z / 256 / 16) &&& bm3 n) := by
      show (z + z / 16) &&& (256 * bm3 n + 15) = _
      have z1 : z = 256 * (z / 256) + 16 * (z / 16 % 16) + z % 16 := by omega
      have z2 : z / 16 = 16 * (z / 256) + z / 16 % 16 := by omega
      have z3 : z / 256 = 16 * (z / 256 / 16) + z / 256 % 16 := by omega
      have hN : z + z / 16 = 256 * (z / 256 + z / 256 / 16) + (16 * (z / 256 % 16) + 17 * (z / 16 % 16) + z % 16) := by omega
      have key : (z + z / 16) / 256 = z / 256 + z / 256 / 16 := by
        have lt : 16 * (z / 256 % 16) + 17 * (z / 16 % 16) + z % 16 < 256 := by omega
        rw [hN, Nat.mul_add_div (by decide), Nat.div_eq_of_lt lt, Nat.add_zero]
      rw [and_256, key, show (z + z / 16) % 16 = z % 16 + z / 16 % 16 by omega]
    rw [e1]
    have d0 : (z % 16 + z / 16 % 16 + 256 * ((z / 256 + z / 256 / 16) &&& bm3 n)) % 256 = z % 16 + z / 16 % 16 := by omega
    have d1 : (z % 16 + z / 16 % 16 + 256 * ((z / 256 + z / 256 / 16) &&& bm3 n)) / 256 = (z / 256 + z / 256 / 16) &&& bm3 n := by omega
    refine ⟨⟨by omega, by rw [d1]; exact i1⟩, ?_⟩
    show _ % 256 + dsm 256 n (_ / 256) = z % 16 + (z / 16 % 16 + dsm 16 (2 * n) (z / 16 / 16))
    rw [d0, d1, i2, show z / 16 / 16 = z / 256 by omega]
    omega
/-- the end: of numbers below 2 ^ 40 -/
theorem bs5 {a b c d f : Nat} (ha : a ≤ 8) (hb : b ≤ 8) (hc : c ≤ 8) (hd : d ≤ 8) (hf : f ≤ 8) {w : Nat} (ew : w = a + 256 * b + 65536 * c + 16777216 * d + 4294967296 * f) : (w + w / 256 + (w + w / 256) / 65536 + (w + w / 256 + (w + w / 256) / 65536) / 4294967296) % 128 = a + b + c + d + f := by
  have g1 : w / 256 = b + 256 * c + 65536 * d + 16777216 * f := by omega
  have g2 : w + w / 256 = (a + b) + 256 * (b + c) + 65536 * (c + d) + 16777216 * (d + f) + 4294967296 * f := by omega
  rw [g2]
  clear g1 g2 ew
  have g3 : ((a + b) + 256 * (b + c) + 65536 * (c + d) + 16777216 * (d + f) + 4294967296 * f) / 65536 = (c + d) + 256 * (d + f) + 65536 * f := by omega
  rw [g3]
  clear g3
  have g4 : (a + b) + 256 * (b + c) + 65536 * (c + d) + 16777216 * (d + f) + 4294967296 * f + ((c + d) + 256 * (d + f) + 65536 * f) = (a + b + c + d) + 256 * (b + c + d + f) + 65536 * (c + d + f) + 16777216 * (d + f) + 4294967296 * f := by omega
  rw [g4]
  clear g4
  have g5 : ((a + b + c + d) + 256 * (b + c + d + f) + 65536 * (c + d + f) + 16777216 * (d + f) + 4294967296 * f) / 4294967296 = f := by omega
  rw [g5]
  clear g5
  omega
theorem bs4 (w : Nat) (h : w < 2 ^ 40) (hd : dgs 256 8 8 w) : (w + w / 256 + (w + w / 256) / 65536 + (w + w / 256 + (w + w / 256) / 65536) / 4294967296) % 128 = dsm 256 8 w := by
  have hd : w % 256 ≤ 8 ∧ w / 256 % 256 ≤ 8 ∧ w / 256 / 256 % 256 ≤ 8 ∧ w / 256 / 256 / 256 % 256 ≤ 8 ∧ w / 256 / 256 / 256 / 256 % 256 ≤ 8 ∧ _ := hd
  obtain ⟨h0, h1, h2, h3, h4, -⟩ := hd
  have f2 : w / 256 / 256 = w / 65536 := Nat.div_div_eq_div_mul w 256 256
  have f3 : w / 65536 / 256 = w / 16777216 := Nat.div_div_eq_div_mul w 65536 256
  have f4 : w / 16777216 / 256 = w / 4294967296 := Nat.div_div_eq_div_mul w 16777216 256
  have f5 : w / 4294967296 / 256 = 0 := by
    rw [Nat.div_div_eq_div_mul]
    exact Nat.div_eq_of_lt (by omega)
  have e : dsm 256 8 w = w % 256 + (w / 256 % 256 + (w / 256 / 256 % 256 + (w / 256 / 256 / 256 % 256 + (w / 256 / 256 / 256 / 256 % 256 + dsm 256 3 (w / 256 / 256 / 256 / 256 / 256))))) := rfl
  rw [f2, f3, f4, f5] at e
  rw [f2] at h2 h3 h4
  rw [f3] at h3 h4
  rw [f4] at h4
  have e0 : dsm 256 3 0 = 0 := by decide
  rw [e0] at e
  have k1 : w = 256 * (w / 256) + w % 256 := (Nat.div_add_mod w 256).symm
  have k2 : w / 256 = 256 * (w / 65536) + w / 256 % 256 := by
    have := Nat.div_add_mod (w / 256) 256
    rw [f2] at this
    exact this.symm
  have k3 : w / 65536 = 256 * (w / 16777216) + w / 65536 % 256 := by
    have := Nat.div_add_mod (w / 65536) 256
    rw [f3] at this
    exact this.symm
  have k4 : w / 16777216 = 256 * (w / 4294967296) + w / 16777216 % 256 := by
    have := Nat.div_add_mod (w / 16777216) 256
    rw [f4] at this
    exact this.symm
  have k5 : w / 4294967296 = w / 4294967296 % 256 := by
    have := Nat.div_add_mod (w / 4294967296) 256
    rw [f5] at this
    omega
  rw [e, bs5 h0 h1 h2 h3 h4 (by omega)]
  omega
theorem pcn_0 : ∀ n : Nat, pcn n 0 = 0
  | 0 => rfl
  | n + 1 => by
    show 0 % 2 + pcn n (0 / 2) = 0
    rw [Nat.zero_div, pcn_0 n]
theorem pcn_hi : ∀ (n m x : Nat), x < 2 ^ n → pcn (n + m) x = pcn n x
  | 0, m, x, h => by
    rw [Nat.pow_zero] at h
    rw [show x = 0 by omega, pcn_0, pcn_0]
  | n + 1, m, x, h => by
    rw [show n + 1 + m = (n + m) + 1 by omega]
    show x % 2 + pcn (n + m) (x / 2) = x % 2 + pcn n (x / 2)
    rw [pcn_hi n m (x / 2) (by rw [Nat.pow_succ] at h; omega)]
/-! on Int64 -/
abbrev l64 (x : Int64) : Nat := x.toBitVec.toNat
theorem jsr {k : Nat} (hk : k ≤ 36) (x : Int64) : l64 (jd_sr x (nI k)) = l64 x / 2 ^ k := by
  obtain ⟨-, k2⟩ := us_k k (by omega)
  have kn : (BitVec.ofNat 64 k).toNat = k := by
    rw [BitVec.toNat_ofNat]
    exact Nat.mod_eq_of_lt (by omega)
  have e2 : (jd_sr x (nI k)).toBitVec = x.toBitVec >>> k := by
    show (x.toUInt64 >>> ((nI k).toInt64.toUInt64 &&& Int64.toUInt64 63)).toBitVec = x.toBitVec >>> k
    rw [UInt64.toBitVec_shiftRight, k2]
    show x.toBitVec >>> (BitVec.ofNat 64 k) = x.toBitVec >>> k
    rw [BitVec.ushiftRight_eq', kn]
  show (jd_sr x (nI k)).toBitVec.toNat = _
  rw [e2, BitVec.toNat_ushiftRight, Nat.shiftRight_eq_div_pow]
theorem l64_and (a b : Int64) : l64 (a &&& b) = (l64 a &&& l64 b) := by
  show (a &&& b).toBitVec.toNat = _
  rw [Int64.toBitVec_and, BitVec.toNat_and]
theorem l64_add {a b : Int64} (h : l64 a + l64 b < 2 ^ 64) : l64 (a + b) = l64 a + l64 b := by
  show (a + b).toBitVec.toNat = _
  rw [Int64.toBitVec_add, BitVec.toNat_add_of_lt h]
theorem l64_sub {a b : Int64} (h : l64 b ≤ l64 a) : l64 (a - b) = l64 a - l64 b := by
  show (a - b).toBitVec.toNat = _
  rw [Int64.toBitVec_sub, BitVec.toNat_sub_of_le (BitVec.le_def.mpr h)]
theorem bc_pcn {x : Int64} (h : l64 x < 2 ^ 36) : jd_bcL x = nI (pcn 36 (l64 x)) := by
  show (jd_6 (jd_5 (jd_4 (jd_3 (jd_2 (jd_1 x)))))).toInt32 &&& nI 127 = nI (pcn 36 (l64 x))
  have l1 : l64 6148914691236517205 = bm1 32 := by decide +kernel
  have l2 : l64 3689348814741910323 = bm2 16 := by decide +kernel
  have l3 : l64 1085102592571150095 = bm3 8 := by decide +kernel
  have r1 : l64 (jd_sr x (nI 1)) = l64 x / 2 := jsr (k := 1) (by decide) x
  have q1 : l64 (jd_sr x (nI 1) &&& 6148914691236517205) = (l64 x / 2 &&& bm1 32) := by rw [l64_and, r1, l1]
  have le1 : (l64 x / 2 &&& bm1 32) ≤ l64 x / 2 := Nat.and_le_left
  have g1 : l64 (jd_sr x (nI 1) &&& 6148914691236517205) ≤ l64 x := by rw [q1]; omega
  have n1 : l64 (jd_1 x) = l64 x - (l64 x / 2 &&& bm1 32) := (l64_sub g1).trans (by rw [q1])
  obtain ⟨s1, s2⟩ := bs1 32 (l64 x) (Nat.lt_trans h (by decide))
  rw [← n1] at s1 s2
  have b1 : l64 (jd_1 x) < 2 ^ 36 := by omega
  clear n1 g1 q1 r1 le1
  obtain ⟨y1, e1⟩ : ∃ y, y = jd_1 x := ⟨_, rfl⟩
  rw [← e1] at s1 s2 b1 ⊢
  clear e1
  have r2 : l64 (jd_sr y1 (nI 2)) = l64 y1 / 4 := jsr (k := 2) (by decide) y1
  have q2 : l64 (y1 &&& 3689348814741910323) = (l64 y1 &&& bm2 16) := by rw [l64_and, l2]
  have q3 : l64 (jd_sr y1 (nI 2) &&& 3689348814741910323) = (l64 y1 / 4 &&& bm2 16) := by rw [l64_and, r2, l2]
  have le2 : (l64 y1 &&& bm2 16) ≤ l64 y1 := Nat.and_le_left
  have le3 : (l64 y1 / 4 &&& bm2 16) ≤ l64 y1 / 4 := Nat.and_le_left
  have g2 : l64 (y1 &&& 3689348814741910323) + l64 (jd_sr y1 (nI 2) &&& 3689348814741910323) < 2 ^ 64 := by rw [q2, q3]; omega
  have n2 : l64 (jd_2 y1) = (l64 y1 &&& bm2 16) + (l64 y1 / 4 &&& bm2 16) := (l64_add g2).trans (by rw [q2, q3])
  obtain ⟨s3, s4⟩ := bs2 16 (l64 y1) s1
  rw [← n2] at s3 s4
  have b2 : l64 (jd_2 y1) < 2 ^ 37 := by omega
  rw [s2] at s4
  clear n2 g2 q2 q3 r2 le2 le3 s1 s2 b1
  obtain ⟨y2, e2⟩ : ∃ y, y = jd_2 y1 := ⟨_, rfl⟩
  rw [← e2] at s3 s4 b2 ⊢
  clear e2
  have r3 : l64 (jd_sr y2 (nI 4)) = l64 y2 / 16 := jsr (k := 4) (by decide) y2
  have g3 : l64 y2 + l64 (jd_sr y2 (nI 4)) < 2 ^ 64 := by rw [r3]; omega
  have a3 : l64 (y2 + jd_sr y2 (nI 4)) = l64 y2 + l64 y2 / 16 := (l64_add g3).trans (by rw [r3])
  have n3 : l64 (jd_3 y2) = ((l64 y2 + l64 y2 / 16) &&& bm3 8) := (l64_and _ _).trans (by rw [a3, l3])
  obtain ⟨s5, s6⟩ := bs3 8 (l64 y2) s3
  have le4 : ((l64 y2 + l64 y2 / 16) &&& bm3 8) ≤ l64 y2 + l64 y2 / 16 := Nat.and_le_left
  rw [← n3] at s5 s6
  have b3 : l64 (jd_3 y2) < 2 ^ 38 := by omega
  rw [s4] at s6
  clear n3 a3 g3 r3 le4 s3 s4 b2
  obtain ⟨y3, e3⟩ : ∃ y, y = jd_3 y2 := ⟨_, rfl⟩
  rw [← e3] at s5 s6 b3 ⊢
  clear e3
  have r4 : l64 (jd_sr y3 (nI 8)) = l64 y3 / 256 := jsr (k := 8) (by decide) y3
  have g4 : l64 y3 + l64 (jd_sr y3 (nI 8)) < 2 ^ 64 := by rw [r4]; omega
  have n4 : l64 (jd_4 y3) = l64 y3 + l64 y3 / 256 := (l64_add g4).trans (by rw [r4])
  have r5 : l64 (jd_sr (jd_4 y3) (nI 16)) = l64 (jd_4 y3) / 65536 := jsr (k := 16) (by decide) (jd_4 y3)
  have g5 : l64 (jd_4 y3) + l64 (jd_sr (jd_4 y3) (nI 16)) < 2 ^ 64 := by rw [r5]; omega
  have n5 : l64 (jd_5 (jd_4 y3)) = l64 (jd_4 y3) + l64 (jd_4 y3) / 65536 := (l64_add g5).trans (by rw [r5])
  have r6 : l64 (jd_sr (jd_5 (jd_4 y3)) (nI 32)) = l64 (jd_5 (jd_4 y3)) / 4294967296 := jsr (k := 32) (by decide) (jd_5 (jd_4 y3))
  have g6 : l64 (jd_5 (jd_4 y3)) + l64 (jd_sr (jd_5 (jd_4 y3)) (nI 32)) < 2 ^ 64 := by rw [r6]; omega
  have n6 : l64 (jd_6 (jd_5 (jd_4 y3))) = l64 (jd_5 (jd_4 y3)) + l64 (jd_5 (jd_4 y3)) / 4294967296 := (l64_add g6).trans (by rw [r6])
  have s7 := bs4 (l64 y3) (by omega) s5
  rw [← n4, ← n5, ← n6, s6] at s7
  have s8 : pcn (2 * 32) (l64 x) = pcn 36 (l64 x) := pcn_hi 36 28 (l64 x) h
  rw [s8] at s7
  apply Int32.toBitVec_inj.mp
  apply BitVec.eq_of_toNat_eq
  show ((jd_6 (jd_5 (jd_4 y3))).toBitVec.signExtend 32 &&& (nI 127).toBitVec).toNat = (BitVec.ofNat 32 (pcn 36 (l64 x))).toNat
  rw [BitVec.toNat_and, BitVec.signExtend_eq_setWidth_of_le _ (by decide), BitVec.toNat_setWidth, show (nI 127).toBitVec.toNat = 2 ^ 7 - 1 by decide +kernel, Nat.and_two_pow_sub_one_eq_mod, BitVec.toNat_ofNat, ← s7]
  show l64 (jd_6 (jd_5 (jd_4 y3))) % 2 ^ 32 % 2 ^ 7 = l64 (jd_6 (jd_5 (jd_4 y3))) % 128 % 2 ^ 32
  omega
theorem bit_i {x : Int64} (h : l64 x < 2 ^ 36) {i : Nat} (hi : i < 36) : ((x >>> ((nI i).toInt64 &&& 63)) &&& 1 = 1) ↔ l64 x / 2 ^ i % 2 = 1 := by
  obtain ⟨k1, -⟩ := us_k i (by omega)
  have kn : (BitVec.ofNat 64 i).toNat = i := by
    rw [BitVec.toNat_ofNat]
    exact Nat.mod_eq_of_lt (by omega)
  have ms : x.toBitVec.msb = false := by
    rw [BitVec.msb_eq_decide]
    exact decide_eq_false (by have : x.toBitVec.toNat < 2 ^ 36 := h; omega)
  have e1 : (x >>> ((nI i).toInt64 &&& 63)).toBitVec = x.toBitVec >>> i := by
    rw [Int64.toBitVec_shiftRight, k1, BitVec.sshiftRight', kn, BitVec.sshiftRight_eq_of_msb_false ms]
  have e2 : l64 ((x >>> ((nI i).toInt64 &&& 63)) &&& 1) = l64 x / 2 ^ i % 2 := by
    rw [l64_and]
    show (x >>> ((nI i).toInt64 &&& 63)).toBitVec.toNat &&& 1 = _
    rw [e1, BitVec.toNat_ushiftRight, Nat.shiftRight_eq_div_pow, Nat.and_one_is_mod]
  constructor
  · intro e
    rw [← e2, e]
    rfl
  · intro e
    apply Int64.toBitVec_inj.mp
    apply BitVec.eq_of_toNat_eq
    exact e2.trans e
theorem mon_pcn {x : Int64} (h : l64 x < 2 ^ 36) : ∀ (m i c : Nat), i + m ≤ 36 → mon x m i (nI c) = nI (c + pcn m (l64 x / 2 ^ i))
  | 0, i, c, _ => rfl
  | m + 1, i, c, hm => by
    rw [mon_s x m i (nI c)]
    have e3 : l64 x / 2 ^ (i + 1) = l64 x / 2 ^ i / 2 := by rw [Nat.pow_succ, Nat.div_div_eq_div_mul]
    show _ = nI (c + (l64 x / 2 ^ i % 2 + pcn m (l64 x / 2 ^ i / 2)))
    by_cases e : l64 x / 2 ^ i % 2 = 1
    · rw [if_pos ((bit_i h (by omega)).mpr e), nI_add, mon_pcn h m (i + 1) (c + 1) (by omega), e3, e]
      exact congrArg nI (by omega)
    · rw [if_neg (fun u => e ((bit_i h (by omega)).mp u)), mon_pcn h m (i + 1) c (by omega), e3]
      exact congrArg nI (by omega)
theorem bc_mon {x : Int64} (h : l64 x < 2 ^ 36) : jd_bcL x = mon x 36 0 (nI 0) := by
  rw [bc_pcn h, mon_pcn h 36 0 0 (by omega), Nat.pow_zero, Nat.div_one, Nat.zero_add]
/-! present has no bit of no ROW -/
abbrev pz (z : sh_S) : Prop := l64 z.2.2.2.2.2 < 2 ^ 36
theorem pz_bit : ∀ r : Nat, r < 36 → l64 ((1 : Int64) <<< ((nI r).toInt64 &&& 63)) < 2 ^ 36 := by decide +kernel
theorem l64_or (a b : Int64) : l64 (a ||| b) = (l64 a ||| l64 b) := by
  show (a ||| b).toBitVec.toNat = _
  rw [Int64.toBitVec_or, BitVec.toNat_or]
theorem pz_source {z : sh_S} {q : Int32} (h : pz z) : pz (sh_source z q).2 := by
  unfold pz
  rw [show (sh_source z q).2.2.2.2.2.2 = z.2.2.2.2.2 by rw [sh_source_r]]
  exact h
theorem pz_row {z : sh_S} {q : Int32} (h : pz z) : pz (sh_row z q).2 := by
  unfold sh_row
  split
  · exact h
  · split
    · exact h
    · show l64 (z.2.2.2.2.2 ||| (1 : Int64) <<< ((nI z.2.2.1).toInt64 &&& 63)) < 2 ^ 36
      rw [l64_or]
      exact Nat.or_lt_two_pow h (pz_bit _ (by omega))
theorem pz_drop {z : sh_S} {q on : Int32} (h : pz z) (h36 : z.2.2.1 ≤ 36) : pz (sh_drop z q on).2 := by
  unfold sh_drop
  split
  · exact h
  · rename_i hb
    obtain ⟨r, hr, rfl⟩ := nI_of_lt (k := z.2.2.1) (by omega) (fun e => hb (Or.inl e)) (fun e => hb (Or.inr e))
    show l64 (dp_pr z.2.2.2.2.2 (nI r) on) < 2 ^ 36
    unfold dp_pr
    split
    · rw [l64_or]
      exact Nat.or_lt_two_pow h (pz_bit _ (by omega))
    · rw [l64_and]
      exact Nat.lt_of_le_of_lt Nat.and_le_left h
theorem pz_node {z : sh_S} {w : Int32} (h : pz z) : pz (sh_node z w).2 := by
  unfold sh_node
  split <;> exact h
theorem pz_scan {z : sh_S} {q : Int32} (h : pz z) : pz (sh_scan z q).2 := by
  unfold sh_scan
  split
  · exact h
  · exact pz_node h
theorem pz_pick {z : sh_S} {q k sg ot : Int32} (h : pz z) : pz (sh_pick z q k sg ot).2 := by
  unfold sh_pick
  split
  · exact h
  · split
    · exact h
    · exact pz_node h
theorem pz_join {z : sh_S} {a b i j : Int32} (h : pz z) : pz (sh_join z a b i j).2 := by
  unfold sh_join
  split
  · exact h
  · split
    · exact h
    · exact pz_node h
theorem pz_pair {z : sh_S} {a b : Int32} (h : pz z) : pz (sh_pair z a b).2 := by
  unfold sh_pair
  split
  · exact h
  · split
    · exact h
    · exact pz_node h
theorem pz_fold {z : sh_S} {q k j kd : Int32} (h : pz z) : pz (sh_fold z q k j kd).2 := by
  unfold sh_fold
  split
  · exact h
  · split
    · exact h
    · exact pz_node h
theorem pz_cols {z : sh_S} {q d : Int32} (h : pz z) : pz (sh_cols z q d).2 := by
  unfold sh_cols
  split
  · exact h
  · split
    · exact h
    · split
      · exact h
      · exact pz_node h
theorem pz_columns {z : sh_S} {q : Int32} (h : pz z) : pz (sh_columns z q).2 := by
  unfold sh_columns
  split <;> exact h
theorem pz_clear {z : sh_S} : pz (sh_clear z) := by
  show l64 0 < 2 ^ 36
  decide +kernel
/-- what one round of the law leaves, present among it -/
def lgp_ok (ids : Nat → ClassId) (h : rl_H) (n x : Nat) : Prop := ∃ (s : cl_S) (c : cl_N) (z : sh_S) (res : List arow) (rw : Nat), cl_ok ids h n x (x + 94) s c ∧ sh_R s c z ∧ cl_dp ids h s c ∧ cl_rs s c res rw ∧ mdd ids h (x + 70) z s.2.1 s.2.2.1 c.2.2.2.1 res rw ∧ (∃ of : Nat → Int64, h (x + 93) = some (.inl (ids 1, 1, .inr (.inl of)))) ∧ pz z
theorem lgp_ok.of {ids : Nat → ClassId} {h h1 h2 : rl_H} {n1 x : Nat} {s : cl_S} {c : cl_N} {z : sh_S} {res : List arow} {rw : Nat} {of : Nat → Int64} (hou : h (x + 93) = some (.inl (ids 1, 1, .inr (.inl of)))) (f1 : cl_fr h h1 x (x + 94)) (hk : cl_ok ids h1 n1 x (x + 94) s c) (hR : sh_R s c z) (hd : cl_dp ids h1 s c) (hrs : cl_rs s c res rw) (hm : mdd ids h2 (x + 70) z s.2.1 s.2.2.1 c.2.2.2.1 res rw) (f2 : rl_fr h1 h2 (x + 70) (x + 70 + 23)) (hp : pz z) : lgp_ok ids h2 n1 x :=
  ⟨s, c, z, res, rw, hk.eqv (Nat.le_refl _) (fun q hq => f2 q (by omega)), hR, hd.eqv (cl_nc hk).1 (fun k hk9 q a b => f2 q (by have := hk.2.2.2.1 k hk9; omega)), hrs, hm, ⟨of, (f2 _ (by omega)).trans ((f1 _ (by omega) (by omega)).trans hou)⟩, hp⟩
theorem told_eq {w r1 r2 a0 a1 a2 a3 a4 a5 : Int32} (H1 : ((w < 0 ∨ nI 5 < w) ∧ r1 = -2) ∨ (w = nI 0 ∧ r1 = a0) ∨ (w = nI 1 ∧ r1 = a1) ∨ (w = nI 2 ∧ r1 = a2) ∨ (w = nI 3 ∧ r1 = a3) ∨ (w = nI 4 ∧ r1 = a4) ∨ (w = nI 5 ∧ r1 = a5)) (H2 : ((w < 0 ∨ nI 5 < w) ∧ r2 = -2) ∨ (w = nI 0 ∧ r2 = a0) ∨ (w = nI 1 ∧ r2 = a1) ∨ (w = nI 2 ∧ r2 = a2) ∨ (w = nI 3 ∧ r2 = a3) ∨ (w = nI 4 ∧ r2 = a4) ∨ (w = nI 5 ∧ r2 = a5)) : r1 = r2 := by
  rcases H1 with ⟨p, e⟩ | ⟨p, e⟩ | ⟨p, e⟩ | ⟨p, e⟩ | ⟨p, e⟩ | ⟨p, e⟩ | ⟨p, e⟩
  all_goals
    rcases H2 with ⟨p2, e2⟩ | ⟨p2, e2⟩ | ⟨p2, e2⟩ | ⟨p2, e2⟩ | ⟨p2, e2⟩ | ⟨p2, e2⟩ | ⟨p2, e2⟩
    all_goals
      first
      | exact e.trans e2.symm
      | exact absurd p (by rw [p2]; decide +kernel)
      | exact absurd p2 (by rw [p]; decide +kernel)
