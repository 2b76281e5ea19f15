/-! bits of ints and longs as arithmetic of Ints -/
theorem gb_c6 : ∀ k : Nat, k < 64 → (((np_i (k : Int)).toInt64 &&& 63).toBitVec.smod 64).toNat = k := by
  intro k hk
  have h : ∀ k, k < 64 → (((nI k).toInt64 &&& 63).toBitVec.smod 64).toNat = k := by decide +kernel
  rw [np_nat]; exact h k hk
theorem gb_cu6 : ∀ k : Nat, k < 64 → (((np_i (k : Int)).toInt64.toUInt64 &&& Int64.toUInt64 63).toBitVec % 64).toNat = k := by
  intro k hk
  have h : ∀ k, k < 64 → (((nI k).toInt64.toUInt64 &&& Int64.toUInt64 63).toBitVec % 64).toNat = k := by decide +kernel
  rw [np_nat]; exact h k hk
theorem gb_uN (x : Int) : (np_l x).toBitVec.toNat = (x % 18446744073709551616).toNat := by
  simp [np_l, Int64.toBitVec_ofInt, BitVec.toNat_ofInt]
theorem gb_uI (x : Int) : (np_i x).toBitVec.toNat = (x % 4294967296).toNat := by
  simp [np_i, Int32.toBitVec_ofInt, BitVec.toNat_ofInt]
theorem gb_val6 (v : Int64) : ∃ t : Int, v.toInt = (v.toBitVec.toNat : Int) + 18446744073709551616 * t := by
  have h : v.toInt = v.toBitVec.toInt := rfl
  rw [h, BitVec.toInt_eq_toNat_cond]
  split
  · exact ⟨0, by omega⟩
  · exact ⟨-1, by omega⟩
theorem gb_val6s {v : Int64} (h : v.toBitVec.toNat < 9223372036854775808) : v.toInt = (v.toBitVec.toNat : Int) := by
  have e : v.toInt = v.toBitVec.toInt := rfl
  rw [e, BitVec.toInt_eq_toNat_cond, if_pos (by omega)]
theorem gb_val5s {v : Int32} (h : v.toBitVec.toNat < 2147483648) : v.toInt = (v.toBitVec.toNat : Int) := by
  have e : v.toInt = v.toBitVec.toInt := rfl
  rw [e, BitVec.toInt_eq_toNat_cond, if_pos (by omega)]
theorem gb_pow {k n : Nat} (h : k ≤ n) : (2 : Nat) ^ k ≤ 2 ^ n := Nat.pow_le_pow_right (by decide) h
theorem gb_andl (y : Int) {k : Nat} (hk : k ≤ 62) : np_andl y ((2 ^ k - 1 : Nat) : Int) = ((y % 18446744073709551616).toNat % 2 ^ k : Nat) := by
  unfold np_andl
  have hp := gb_pow hk
  have hp0 : 0 < 2 ^ k := Nat.two_pow_pos k
  have e2 : (np_l ((2 ^ k - 1 : Nat) : Int)).toBitVec.toNat = 2 ^ k - 1 := by
    rw [gb_uN]
    have : (2 : Nat) ^ 62 = 4611686018427387904 := by decide
    omega
  have e : (np_l y &&& np_l ((2 ^ k - 1 : Nat) : Int)).toBitVec.toNat = (y % 18446744073709551616).toNat % 2 ^ k := by
    rw [Int64.toBitVec_and, BitVec.toNat_and, e2, gb_uN, Nat.and_two_pow_sub_one_eq_mod]
  have hl : (y % 18446744073709551616).toNat % 2 ^ k < 2 ^ k := Nat.mod_lt _ hp0
  rw [gb_val6s (by rw [e]; have : (2 : Nat) ^ 62 = 4611686018427387904 := by decide
                   omega), e]
theorem gb_andi (y : Int) {k : Nat} (hk : k ≤ 30) : np_andi y ((2 ^ k - 1 : Nat) : Int) = ((y % 4294967296).toNat % 2 ^ k : Nat) := by
  unfold np_andi
  have hp := gb_pow hk
  have hp0 : 0 < 2 ^ k := Nat.two_pow_pos k
  have e2 : (np_i ((2 ^ k - 1 : Nat) : Int)).toBitVec.toNat = 2 ^ k - 1 := by
    rw [gb_uI]
    have : (2 : Nat) ^ 30 = 1073741824 := by decide
    omega
  have e : (np_i y &&& np_i ((2 ^ k - 1 : Nat) : Int)).toBitVec.toNat = (y % 4294967296).toNat % 2 ^ k := by
    rw [Int32.toBitVec_and, BitVec.toNat_and, e2, gb_uI, Nat.and_two_pow_sub_one_eq_mod]
  have hl : (y % 4294967296).toNat % 2 ^ k < 2 ^ k := Nat.mod_lt _ hp0
  rw [gb_val5s (by rw [e]; have : (2 : Nat) ^ 30 = 1073741824 := by decide
                   omega), e]
theorem gb_andi255 (y : Int) : np_andi y 255 = y % 256 := by
  have h := gb_andi y (k := 8) (by decide)
  have e : (((2 ^ 8 - 1 : Nat) : Int)) = 255 := by decide
  rw [e] at h
  rw [h]; omega
theorem gb_andi1 (y : Int) : np_andi y 1 = y % 2 := by
  have h := gb_andi y (k := 1) (by decide)
  have e : (((2 ^ 1 - 1 : Nat) : Int)) = 1 := by decide
  rw [e] at h
  rw [h]; omega
theorem gb_andi15 (y : Int) : np_andi y 15 = y % 16 := by
  have h := gb_andi y (k := 4) (by decide)
  have e : (((2 ^ 4 - 1 : Nat) : Int)) = 15 := by decide
  rw [e] at h
  rw [h]; omega
theorem gb_andl255 (y : Int) : np_andl y 255 = y % 256 := by
  have h := gb_andl y (k := 8) (by decide)
  have e : (((2 ^ 8 - 1 : Nat) : Int)) = 255 := by decide
  rw [e] at h
  rw [h]; omega
theorem gb_ushrl (x : Int) {k : Nat} (hk : k < 64) : ∃ t : Int, np_ushrl x (k : Int) = ((x % 18446744073709551616).toNat / 2 ^ k : Nat) + 18446744073709551616 * t := by
  unfold np_ushrl
  obtain ⟨t, ht⟩ := gb_val6 ((np_l x).toUInt64 >>> ((np_i (k : Int)).toInt64.toUInt64 &&& Int64.toUInt64 63)).toInt64
  refine ⟨t, ?_⟩
  rw [ht]
  have e : ((np_l x).toUInt64 >>> ((np_i (k : Int)).toInt64.toUInt64 &&& Int64.toUInt64 63)).toInt64.toBitVec.toNat = (x % 18446744073709551616).toNat / 2 ^ k := by
    show (((np_l x).toUInt64 >>> ((np_i (k : Int)).toInt64.toUInt64 &&& Int64.toUInt64 63)).toBitVec).toNat = _
    rw [UInt64.toBitVec_shiftRight]
    show ((np_l x).toBitVec >>> (((np_i (k : Int)).toInt64.toUInt64 &&& Int64.toUInt64 63).toBitVec % 64)).toNat = _
    rw [BitVec.ushiftRight_eq', gb_cu6 k hk, BitVec.toNat_ushiftRight, gb_uN, Nat.shiftRight_eq_div_pow]
  rw [e]
theorem gb_shll (x : Int) {k : Nat} (hk : k < 64) : ∃ t : Int, np_shll x (k : Int) = x * ((2 ^ k : Nat) : Int) + 18446744073709551616 * t := by
  unfold np_shll
  obtain ⟨t, ht⟩ := gb_val6 (np_l x <<< ((np_i (k : Int)).toInt64 &&& 63))
  rw [ht]
  have e : (np_l x <<< ((np_i (k : Int)).toInt64 &&& 63)).toBitVec.toNat = (x % 18446744073709551616).toNat * 2 ^ k % 18446744073709551616 := by
    rw [Int64.toBitVec_shiftLeft, BitVec.shiftLeft_eq', gb_c6 k hk, BitVec.toNat_shiftLeft, gb_uN, Nat.shiftLeft_eq]
  rw [e]
  generalize 2 ^ k = p
  have h1 : (((x % 18446744073709551616).toNat * p % 18446744073709551616 : Nat) : Int) = (x % 18446744073709551616) * p % 18446744073709551616 := by
    rw [Int.natCast_emod, Int.natCast_mul, Int.toNat_of_nonneg (Int.emod_nonneg x (by decide))]; rfl
  have h2 : (x % 18446744073709551616) * p % 18446744073709551616 = (x * p) % 18446744073709551616 := by
    rw [Int.mul_emod, Int.emod_emod_of_dvd _ (Int.dvd_refl _), ← Int.mul_emod]
  rw [h1, h2]
  generalize x * (p : Int) = z
  exact ⟨t - z / 18446744073709551616, by omega⟩
theorem gb_shrl (x : Int) {k : Nat} (hk : k < 64) : ∃ t : Int, np_shrl x (k : Int) = (x + 18446744073709551616 * t) / ((2 ^ k : Nat) : Int) := by
  unfold np_shrl
  have e : (np_l x >>> ((np_i (k : Int)).toInt64 &&& 63)).toInt = (np_l x).toInt >>> k := by
    show (np_l x >>> ((np_i (k : Int)).toInt64 &&& 63)).toBitVec.toInt = (np_l x).toBitVec.toInt >>> k
    rw [Int64.toBitVec_shiftRight, BitVec.sshiftRight_eq', gb_c6 k hk, BitVec.toInt_sshiftRight]
  obtain ⟨t, ht⟩ := gb_val6 (np_l x)
  rw [e, ht, gb_uN, Int.shiftRight_eq_div_pow]
  refine ⟨t - x / 18446744073709551616, ?_⟩
  congr 1
  omega
theorem gb_orl (c : Int) {b : Int} (h0 : 0 ≤ b) (h1 : b < 256) : ∃ t : Int, np_orl (np_shll c 8) b = 256 * c + b + 18446744073709551616 * t := by
  obtain ⟨s, hs⟩ := gb_shll c (k := 8) (by decide)
  have hs : np_shll c 8 = c * 256 + 18446744073709551616 * s := hs
  rw [hs]
  unfold np_orl
  obtain ⟨t, ht⟩ := gb_val6 (np_l (c * 256 + 18446744073709551616 * s) ||| np_l b)
  rw [ht]
  have e : (np_l (c * 256 + 18446744073709551616 * s) ||| np_l b).toBitVec.toNat = ((c * 256) % 18446744073709551616).toNat + b.toNat := by
    rw [Int64.toBitVec_or, BitVec.toNat_or, gb_uN, gb_uN]
    have e1 : (c * 256 + 18446744073709551616 * s) % 18446744073709551616 = (c * 256) % 18446744073709551616 := by omega
    have e2 : b % 18446744073709551616 = b := by omega
    rw [e1, e2]
    obtain ⟨q, hq⟩ : ∃ q, ((c * 256) % 18446744073709551616).toNat = 2 ^ 8 * q := ⟨((c * 256) % 18446744073709551616).toNat / 256, by omega⟩
    rw [hq, ← Nat.two_pow_add_eq_or_of_lt (by omega : b.toNat < 2 ^ 8) q]
  rw [e]
  exact ⟨t - (c * 256) / 18446744073709551616, by omega⟩
/-- byte k from the lowest -/
def gb_by (x : Int) (k : Nat) : Int := x / ((256 ^ k : Nat) : Int) % 256
theorem gb_by_r (x : Int) (k : Nat) : 0 ≤ gb_by x k ∧ gb_by x k < 256 := by unfold gb_by; omega
/-- the class's byteOf -/
theorem gb_byN (x : Int) {k : Nat} (hk : k < 8) : np_andi (np_ushrl x (8 * (k : Int))) 255 = gb_by x k := by
  rw [gb_andi255]
  obtain ⟨t, ht⟩ := gb_ushrl x (k := 8 * k) (by omega)
  have e : (8 * (k : Int)) = ((8 * k : Nat) : Int) := by omega
  rw [e, ht]
  unfold gb_by
  match k, hk with
  | 0, _ => simp; omega
  | 1, _ => simp; omega
  | 2, _ => simp; omega
  | 3, _ => simp; omega
  | 4, _ => simp; omega
  | 5, _ => simp; omega
  | 6, _ => simp; omega
  | 7, _ => simp; omega
/-- the reference's byteOf -/
theorem gb_byM (x : Int) {k : Nat} (hk : k < 8) : np_andl (np_shrl x (8 * (k : Int))) 255 = gb_by x k := by
  rw [gb_andl255]
  obtain ⟨t, ht⟩ := gb_shrl x (k := 8 * k) (by omega)
  have e : (8 * (k : Int)) = ((8 * k : Nat) : Int) := by omega
  rw [e, ht]
  unfold gb_by
  match k, hk with
  | 0, _ => simp; omega
  | 1, _ => simp; omega
  | 2, _ => simp; omega
  | 3, _ => simp; omega
  | 4, _ => simp; omega
  | 5, _ => simp; omega
  | 6, _ => simp; omega
  | 7, _ => simp; omega
/-- lowest bytes -/
theorem gb_low (x : Int) {n : Nat} (h1 : 1 ≤ n) (h7 : n ≤ 7) : np_andl x (np_shll 1 (8 * (n : Int)) - 1) = x % ((256 ^ n : Nat) : Int) := by
  have e : np_shll 1 (8 * (n : Int)) - 1 = ((2 ^ (8 * n) - 1 : Nat) : Int) := by
    have h : ∀ n : Nat, n < 8 → 1 ≤ n → np_shll 1 (8 * (n : Int)) - 1 = ((2 ^ (8 * n) - 1 : Nat) : Int) := by decide +kernel
    exact h n (by omega) h1
  rw [e, gb_andl x (by omega)]
  match n, h1, h7 with
  | 1, _, _ => simp; omega
  | 2, _, _ => simp; omega
  | 3, _, _ => simp; omega
  | 4, _, _ => simp; omega
  | 5, _, _ => simp; omega
  | 6, _, _ => simp; omega
  | 7, _, _ => simp; omega
theorem gb_by_or0 (c : Int) {b : Int} (h0 : 0 ≤ b) (h1 : b < 256) : gb_by (np_orl (np_shll c 8) b) 0 = b := by
  obtain ⟨t, ht⟩ := gb_orl c h0 h1
  rw [ht]; unfold gb_by; simp; omega
theorem gb_by_or (c : Int) {b : Int} (h0 : 0 ≤ b) (h1 : b < 256) {k : Nat} (hk : k < 7) : gb_by (np_orl (np_shll c 8) b) (k + 1) = gb_by c k := by
  obtain ⟨t, ht⟩ := gb_orl c h0 h1
  rw [ht]; unfold gb_by
  match k, hk with
  | 0, _ => simp; omega
  | 1, _ => simp; omega
  | 2, _ => simp; omega
  | 3, _ => simp; omega
  | 4, _ => simp; omega
  | 5, _ => simp; omega
  | 6, _ => simp; omega
theorem gb_by_0 (k : Nat) : gb_by 0 k = 0 := by unfold gb_by; simp
theorem gb_R6 (v : Int64) : np_R6 v.toInt := by
  have h1 := Int64.le_toInt v
  have h2 := Int64.toInt_lt v
  exact ⟨by simpa using h1, by have := h2; simp at this; omega⟩
theorem gb_R5 (v : Int32) : np_R v.toInt := by
  have h1 := Int32.le_toInt v
  have h2 := Int32.toInt_lt v
  exact ⟨by simpa using h1, by have := h2; simp at this; omega⟩
