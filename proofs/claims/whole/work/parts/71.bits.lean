/-! bits of a long: one, and their number -/
theorem pr_bv (x : Nat) : (Int64.ofInt (x : Int)).toBitVec = BitVec.ofNat 64 x := by
  show BitVec.ofInt 64 (x : Int) = _
  exact BitVec.ofInt_natCast ..
theorem pr_land {x y : Nat} (hx : x < 2 ^ 62) (hy : y < 2 ^ 63) : ab_land (x : Int) (y : Int) = ((x &&& y : Nat) : Int) := by
  have hxy : x &&& y ≤ x := Nat.and_le_left
  unfold ab_land
  show ((Int64.ofInt x &&& Int64.ofInt y).toBitVec).toInt = _
  rw [Int64.toBitVec_and, pr_bv, pr_bv]
  have e : (BitVec.ofNat 64 x &&& BitVec.ofNat 64 y).toNat = x &&& y := by
    rw [BitVec.toNat_and, BitVec.toNat_ofNat, BitVec.toNat_ofNat, Nat.mod_eq_of_lt (by omega), Nat.mod_eq_of_lt (by omega)]
  rw [BitVec.toInt_eq_toNat_of_lt (by rw [e]; omega), e]
theorem pr_lsr {x k : Nat} (hx : x < 2 ^ 62) (hk : k < 64) {b : UInt64} (hb : b.toNat = k) : ((Int64.ofInt (x : Int)).toUInt64 >>> b).toInt64.toInt = ((x / 2 ^ k : Nat) : Int) := by
  have hd : x / 2 ^ k ≤ x := Nat.div_le_self _ _
  have e : (((Int64.ofInt (x : Int)).toUInt64 >>> b).toBitVec).toNat = x / 2 ^ k := by
    show ((Int64.ofInt (x : Int)).toUInt64 >>> b).toNat = _
    rw [UInt64.toNat_shiftRight, hb, Nat.mod_eq_of_lt hk, Nat.shiftRight_eq_div_pow]
    show (Int64.ofInt (x : Int)).toBitVec.toNat / 2 ^ k = _
    rw [pr_bv, BitVec.toNat_ofNat, Nat.mod_eq_of_lt (by omega)]
  show (((Int64.ofInt (x : Int)).toUInt64 >>> b).toBitVec).toInt = _
  rw [BitVec.toInt_eq_toNat_of_lt (by rw [e]; omega), e]
theorem pr_ls1 {x : Nat} (hx : x < 2 ^ 62) : ab_lushr (x : Int) 1 = ((x / 2 : Nat) : Int) := pr_lsr (k := 1) hx (by decide) (by decide)
theorem pr_ls2 {x : Nat} (hx : x < 2 ^ 62) : ab_lushr (x : Int) 2 = ((x / 4 : Nat) : Int) := pr_lsr (k := 2) hx (by decide) (by decide)
theorem pr_ls4 {x : Nat} (hx : x < 2 ^ 62) : ab_lushr (x : Int) 4 = ((x / 16 : Nat) : Int) := pr_lsr (k := 4) hx (by decide) (by decide)
theorem pr_ls8 {x : Nat} (hx : x < 2 ^ 62) : ab_lushr (x : Int) 8 = ((x / 256 : Nat) : Int) := pr_lsr (k := 8) hx (by decide) (by decide)
theorem pr_ls16 {x : Nat} (hx : x < 2 ^ 62) : ab_lushr (x : Int) 16 = ((x / 65536 : Nat) : Int) := pr_lsr (k := 16) hx (by decide) (by decide)
theorem pr_ls32 {x : Nat} (hx : x < 2 ^ 62) : ab_lushr (x : Int) 32 = ((x / 4294967296 : Nat) : Int) := pr_lsr (k := 32) hx (by decide) (by decide)
theorem pr_add {x y : Int} (h : ab_lok (x + y)) : ab_ladd x y = x + y := by
  unfold ab_ladd
  rw [← Int64.ofInt_add, ab_tl h]
theorem pr_sub {x y : Int} (h : ab_lok (x - y)) : ab_lsub x y = x - y := by
  unfold ab_lsub
  rw [← Int64.ofInt_sub, ab_tl h]
theorem pr_low {x : Nat} : ab_iand (ab_l2i (x : Int)) 127 = ((x % 128 : Nat) : Int) := by
  unfold ab_iand ab_l2i
  rw [Int32.ofInt_toInt]
  show (((Int64.ofInt (x : Int)).toInt32 &&& Int32.ofInt 127).toBitVec).toInt = _
  rw [Int32.toBitVec_and]
  have e : ((Int64.ofInt (x : Int)).toInt32.toBitVec &&& (Int32.ofInt 127).toBitVec).toNat = x % 128 := by
    rw [BitVec.toNat_and]
    have e1 : (Int64.ofInt (x : Int)).toInt32.toBitVec.toNat = x % 2 ^ 32 := by
      rw [Int64.toBitVec_toInt32, pr_bv, BitVec.signExtend_eq_setWidth_of_le _ (by decide), BitVec.toNat_setWidth, BitVec.toNat_ofNat]
      omega
    have e2 : (Int32.ofInt 127).toBitVec.toNat = 2 ^ 7 - 1 := by decide
    rw [e1, e2, Nat.and_two_pow_sub_one_eq_mod]
    omega
  rw [BitVec.toInt_eq_toNat_of_lt (by rw [e]; omega), e]
theorem pr_sh0 : ∀ s, s < 36 → (((Int32.ofInt (Int.ofNat s)).toInt64 &&& 63).toBitVec.smod 64#64).toNat = s := by decide +kernel
theorem pr_bit {x s : Nat} (hx : x < 2 ^ 36) (hs : s < 36) : ab_l2i (ab_land (ab_lshr (x : Int) (s : Int)) 1) = if x.testBit s then 1 else 0 := by
  have key : ((Int64.ofInt (x : Int) >>> ((Int32.ofInt (s : Int)).toInt64 &&& 63)) &&& Int64.ofInt 1) = if x.testBit s then 1 else 0 := by
    apply Int64.toBitVec_inj.mp
    rw [Int64.toBitVec_and, Int64.toBitVec_shiftRight, pr_bv]
    have e1 : (Int64.ofInt 1).toBitVec = 1#64 := by decide
    rw [e1, BitVec.and_one_eq_setWidth_ofBool_getLsbD]
    have h0 := pr_sh0 s hs
    have e2 : ((BitVec.ofNat 64 x).sshiftRight' (((Int32.ofInt (s : Int)).toInt64 &&& 63).toBitVec.smod 64#64)).getLsbD 0 = x.testBit s := by
      rw [BitVec.sshiftRight', show (((Int32.ofInt (s : Int)).toInt64 &&& 63).toBitVec.smod 64#64).toNat = s from h0, BitVec.getLsbD_sshiftRight, if_pos (show s + 0 < 64 by omega), BitVec.getLsbD_ofNat, decide_eq_true (show s + 0 < 64 by omega)]
      rfl
    have e3 : ((BitVec.ofNat 64 x).sshiftRight' (((Int32.ofInt (s : Int)).toInt64 &&& 63).toBitVec.smod 64)).getLsbD 0 = x.testBit s := e2
    rw [e3]
    cases x.testBit s <;> rfl
  unfold ab_land ab_lshr
  rw [Int64.ofInt_toInt, key]
  cases x.testBit s <;> decide
/-! the number of bits, byte by byte -/
theorem by_and {a b x y : Nat} (ha : a < 256) (hb : b < 256) : (a + 256 * x) &&& (b + 256 * y) = (a &&& b) + 256 * (x &&& y) := by
  have hab : a &&& b < 256 := Nat.lt_of_le_of_lt Nat.and_le_left ha
  apply Nat.eq_of_testBit_eq
  intro i
  rw [Nat.testBit_and, Nat.add_comm a, Nat.add_comm b, Nat.add_comm (a &&& b), show (256 : Nat) = 2 ^ 8 from rfl, Nat.testBit_two_pow_mul_add _ (by omega), Nat.testBit_two_pow_mul_add _ (by omega), Nat.testBit_two_pow_mul_add _ (by omega)]
  by_cases h : i < 8
  · rw [if_pos h, if_pos h, if_pos h, Nat.testBit_and]
  · rw [if_neg h, if_neg h, if_neg h, Nat.testBit_and]
def by_1 (m n : Nat) : Nat := n - (n / 2 &&& m)
def by_2 (m n : Nat) : Nat := (n &&& m) + (n / 4 &&& m)
def by_3 (m n : Nat) : Nat := (n + n / 16) &&& m
def by_b (a : Nat) : Nat := by_2 51 (by_1 85 a)
theorem by_a1 : ∀ a, a < 256 → ∀ e, e < 2 → (a / 2 + 128 * e) &&& 85 = a / 2 &&& 85 := by decide +kernel
theorem by_a2 : ∀ a, a < 256 → ∀ e, e < 4 → (a / 4 + 64 * e) &&& 51 = a / 4 &&& 51 := by decide +kernel
theorem by_a3 : ∀ a, a < 256 → by_1 85 a < 256 ∧ by_b a ≤ 68 ∧ by_b a % 16 ≤ 4 := by decide +kernel
theorem by_s1 {a n m : Nat} (ha : a < 256) : by_1 (85 + 256 * m) (a + 256 * n) = by_1 85 a + 256 * by_1 m n := by
  unfold by_1
  have e : (a + 256 * n) / 2 = (a / 2 + 128 * (n % 2)) + 256 * (n / 2) := by omega
  have h1 := by_a1 a ha (n % 2) (by omega)
  have h2 : a / 2 &&& 85 ≤ a / 2 := Nat.and_le_left
  have h3 : n / 2 &&& m ≤ n / 2 := Nat.and_le_left
  rw [e, by_and (by omega) (by omega), h1]
  omega
theorem by_s2 {a n m : Nat} (ha : a < 256) : by_2 (51 + 256 * m) (a + 256 * n) = by_2 51 a + 256 * by_2 m n := by
  unfold by_2
  have e : (a + 256 * n) / 4 = (a / 4 + 64 * (n % 4)) + 256 * (n / 4) := by omega
  have h1 := by_a2 a ha (n % 4) (by omega)
  rw [e, by_and (by omega) (by omega), by_and (by omega) (by omega), h1]
  omega
theorem by_s3 {a n m : Nat} (ha : a ≤ 68) (hn : n % 16 ≤ 4) : by_3 (15 + 256 * m) (a + 256 * n) = (a + a / 16) % 16 + 256 * by_3 m n := by
  unfold by_3
  have e : a + 256 * n + (a + 256 * n) / 16 = (a + a / 16 + 16 * (n % 16)) + 256 * (n + n / 16) := by omega
  rw [e, by_and (by omega) (by omega), show (15 : Nat) = 2 ^ 4 - 1 from rfl, Nat.and_two_pow_sub_one_eq_mod]
  omega
def by_T (m5 m3 mf n : Nat) : Nat := by_3 mf (by_2 m3 (by_1 m5 n))
theorem by_T_s {a n m5 m3 mf : Nat} (ha : a < 256) (hn : by_2 m3 (by_1 m5 n) % 16 ≤ 4) : by_T (85 + 256 * m5) (51 + 256 * m3) (15 + 256 * mf) (a + 256 * n) = (by_b a + by_b a / 16) % 16 + 256 * by_T m5 m3 mf n := by
  have h := by_a3 a ha
  unfold by_T
  rw [by_s1 ha, by_s2 h.1]
  exact by_s3 h.2.1 hn
theorem by_nib {a n m5 m3 : Nat} (ha : a < 256) : by_2 (51 + 256 * m3) (by_1 (85 + 256 * m5) (a + 256 * n)) % 16 ≤ 4 := by
  have h := by_a3 a ha
  rw [by_s1 ha, by_s2 h.1]
  have : by_2 51 (by_1 85 a) = by_b a := rfl
  omega
def by_c (a : Nat) : Nat := (by_b a + by_b a / 16) % 16
theorem by_T5 {a b c d e : Nat} (ha : a < 256) (hb : b < 256) (hc : c < 256) (hd : d < 256) (he : e < 16) : by_T 6148914691236517205 3689348814741910323 1085102592571150095 (a + 256 * (b + 256 * (c + 256 * (d + 256 * (e + 256 * 0))))) = by_c a + 256 * (by_c b + 256 * (by_c c + 256 * (by_c d + 256 * by_c e))) := by
  have z : by_T 21845 13107 3855 0 = 0 := by decide
  have z1 : by_2 13107 (by_1 21845 0) % 16 ≤ 4 := by decide
  rw [show 6148914691236517205 = 85 + 256 * (85 + 256 * (85 + 256 * (85 + 256 * (85 + 256 * 5592405)))) from rfl, show 3689348814741910323 = 51 + 256 * (51 + 256 * (51 + 256 * (51 + 256 * (51 + 256 * 3355443)))) from rfl, show 1085102592571150095 = 15 + 256 * (15 + 256 * (15 + 256 * (15 + 256 * (15 + 256 * 986895)))) from rfl]
  rw [by_T_s ha (by_nib hb), by_T_s hb (by_nib hc), by_T_s hc (by_nib hd), by_T_s hd (by_nib (by omega)), by_T_s (by omega) (by decide)]
  have z : by_T 5592405 3355443 986895 0 = 0 := by decide
  rw [z]
  rfl
