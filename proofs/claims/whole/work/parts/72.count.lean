/-! the number of a long's bits -/
def bt_c (n : Nat) : Nat → Nat
  | 0 => 0
  | k + 1 => bt_c n k + (if n.testBit k = true then 1 else 0)
theorem bt_congr {n n' : Nat} : ∀ k, (∀ i, i < k → n.testBit i = n'.testBit i) → bt_c n k = bt_c n' k
  | 0, _ => rfl
  | k + 1, h => by rw [bt_c, bt_c, bt_congr k (fun i hi => h i (by omega)), h k (by omega)]
theorem bt_split {a n : Nat} (ha : a < 256) : ∀ k, bt_c (a + 256 * n) (8 + k) = bt_c a 8 + bt_c n k
  | 0 => bt_congr 8 (fun i hi => by rw [Nat.add_comm a, show (256 : Nat) = 2 ^ 8 from rfl, Nat.testBit_two_pow_mul_add _ (by omega), if_pos hi])
  | k + 1 => by
    have e : (a + 256 * n).testBit (8 + k) = n.testBit k := by rw [Nat.add_comm a, show (256 : Nat) = 2 ^ 8 from rfl, Nat.testBit_two_pow_mul_add _ (by omega), if_neg (by omega), show 8 + k - 8 = k by omega]
    have e1 : bt_c (a + 256 * n) (8 + k + 1) = bt_c (a + 256 * n) (8 + k) + (if (a + 256 * n).testBit (8 + k) = true then 1 else 0) := rfl
    have e2 : bt_c n (k + 1) = bt_c n k + (if n.testBit k = true then 1 else 0) := rfl
    show bt_c (a + 256 * n) (8 + k + 1) = bt_c a 8 + bt_c n (k + 1)
    rw [e1, e2, bt_split ha k, e]
    omega
theorem by_end {y d0 d1 d2 d3 d4 : Nat} (h0 : d0 ≤ 8) (h1 : d1 ≤ 8) (h2 : d2 ≤ 8) (h3 : d3 ≤ 8) (h4 : d4 ≤ 8) (e : y = d0 + 256 * (d1 + 256 * (d2 + 256 * (d3 + 256 * d4)))) : (y + y / 256 + (y + y / 256) / 65536 + (y + y / 256 + (y + y / 256) / 65536) / 4294967296) % 128 = d0 + (d1 + (d2 + (d3 + d4))) := by
  have q1 : y / 256 = d1 + 256 * (d2 + 256 * (d3 + 256 * d4)) := by omega
  have q2 : y + y / 256 = (d0 + d1) + 256 * (d1 + d2) + 65536 * (d2 + d3) + 16777216 * (d3 + d4) + 4294967296 * d4 := by omega
  rw [q2]
  have q3 : ((d0 + d1) + 256 * (d1 + d2) + 65536 * (d2 + d3) + 16777216 * (d3 + d4) + 4294967296 * d4) / 65536 = (d2 + d3) + 256 * (d3 + d4) + 65536 * d4 := by omega
  rw [q3]
  have q4 : ((d0 + d1) + 256 * (d1 + d2) + 65536 * (d2 + d3) + 16777216 * (d3 + d4) + 4294967296 * d4 + ((d2 + d3) + 256 * (d3 + d4) + 65536 * d4)) / 4294967296 = d4 := by omega
  rw [q4]
  omega
theorem by_c8 : ∀ a, a < 256 → by_c a = bt_c a 8 ∧ by_c a ≤ 8 := by decide +kernel
theorem by_c4 : ∀ a, a < 16 → by_c a = bt_c a 4 ∧ by_c a ≤ 8 := by decide +kernel
def bl_1 (v : Int) : Int := ab_lsub v (ab_land (ab_lushr v 1) 6148914691236517205)
def bl_2 (v : Int) : Int := ab_ladd (ab_land (bl_1 v) 3689348814741910323) (ab_land (ab_lushr (bl_1 v) 2) 3689348814741910323)
def bl_3 (v : Int) : Int := ab_land (ab_ladd (bl_2 v) (ab_lushr (bl_2 v) 4)) 1085102592571150095
def bl_4 (v : Int) : Int := ab_ladd (bl_3 v) (ab_lushr (bl_3 v) 8)
def bl_5 (v : Int) : Int := ab_ladd (bl_4 v) (ab_lushr (bl_4 v) 16)
def bl_6 (v : Int) : Int := ab_ladd (bl_5 v) (ab_lushr (bl_5 v) 32)
theorem bl_n1 {x : Nat} (hx : x < 2 ^ 36) : bl_1 (x : Int) = (by_1 6148914691236517205 x : Nat) ∧ by_1 6148914691236517205 x < 2 ^ 36 := by
  have h : x / 2 &&& 6148914691236517205 ≤ x / 2 := Nat.and_le_left
  unfold bl_1 by_1
  rw [pr_ls1 (by omega), show (6148914691236517205 : Int) = ((6148914691236517205 : Nat) : Int) from rfl, pr_land (by omega) (by decide), pr_sub (by unfold ab_lok; omega)]
  exact ⟨by omega, by omega⟩
theorem bl_n2 {x : Nat} (hx : x < 2 ^ 36) : ∀ y : Nat, y < 2 ^ 36 → ab_ladd (ab_land (y : Int) 3689348814741910323) (ab_land (ab_lushr (y : Int) 2) 3689348814741910323) = (by_2 3689348814741910323 y : Nat) ∧ by_2 3689348814741910323 y < 2 ^ 37 := by
  intro y hy
  have h : y / 4 &&& 3689348814741910323 ≤ y / 4 := Nat.and_le_left
  have h' : y &&& 3689348814741910323 ≤ y := Nat.and_le_left
  unfold by_2
  rw [pr_ls2 (by omega), show (3689348814741910323 : Int) = ((3689348814741910323 : Nat) : Int) from rfl, pr_land (by omega) (by decide), pr_land (by omega) (by decide), pr_add (by unfold ab_lok; omega)]
  exact ⟨by omega, by omega⟩
theorem bl_n3 : ∀ y : Nat, y < 2 ^ 37 → ab_land (ab_ladd (y : Int) (ab_lushr (y : Int) 4)) 1085102592571150095 = (by_3 1085102592571150095 y : Nat) ∧ by_3 1085102592571150095 y < 2 ^ 38 := by
  intro y hy
  have h' : (y + y / 16) &&& 1085102592571150095 ≤ y + y / 16 := Nat.and_le_left
  unfold by_3
  rw [pr_ls4 (by omega), pr_add (by unfold ab_lok; omega), show (y : Int) + ((y / 16 : Nat) : Int) = ((y + y / 16 : Nat) : Int) by omega, show (1085102592571150095 : Int) = ((1085102592571150095 : Nat) : Int) from rfl, pr_land (by omega) (by decide)]
  exact ⟨rfl, by omega⟩
theorem bl_val {v : Int} (hv : 0 ≤ v ∧ v < 68719476736) : ab_iand (ab_l2i (bl_6 v)) 127 = (bt_c v.toNat 36 : Nat) := by
  obtain ⟨x, rfl⟩ := Int.eq_ofNat_of_zero_le hv.1
  have hx : x < 2 ^ 36 := by omega
  have n1 := bl_n1 hx
  have n2 := bl_n2 hx _ n1.2
  have n3 := bl_n3 _ n2.2
  have e2 : bl_2 (x : Int) = (by_2 3689348814741910323 (by_1 6148914691236517205 x) : Nat) := by unfold bl_2; rw [n1.1]; exact n2.1
  have e3 : bl_3 (x : Int) = (by_T 6148914691236517205 3689348814741910323 1085102592571150095 x : Nat) := by unfold bl_3; rw [e2]; exact n3.1
  have xe : x = x % 256 + 256 * (x / 256 % 256 + 256 * (x / 65536 % 256 + 256 * (x / 16777216 % 256 + 256 * (x / 4294967296 + 256 * 0)))) := by omega
  have t := by_T5 (a := x % 256) (b := x / 256 % 256) (c := x / 65536 % 256) (d := x / 16777216 % 256) (e := x / 4294967296) (by omega) (by omega) (by omega) (by omega) (by omega)
  rw [← xe] at t
  have c0 := by_c8 (x % 256) (by omega)
  have c1 := by_c8 (x / 256 % 256) (by omega)
  have c2 := by_c8 (x / 65536 % 256) (by omega)
  have c3 := by_c8 (x / 16777216 % 256) (by omega)
  have c4 := by_c4 (x / 4294967296) (by omega)
  have bc : bt_c x 36 = bt_c (x % 256) 8 + (bt_c (x / 256 % 256) 8 + (bt_c (x / 65536 % 256) 8 + (bt_c (x / 16777216 % 256) 8 + bt_c (x / 4294967296) 4))) := by
    have s0 : bt_c x 36 = bt_c (x % 256) 8 + bt_c (x / 256) 28 := by
      have := bt_split (a := x % 256) (n := x / 256) (by omega) 28
      rw [show x % 256 + 256 * (x / 256) = x by omega] at this
      exact this
    have s1 : bt_c (x / 256) 28 = bt_c (x / 256 % 256) 8 + bt_c (x / 65536) 20 := by
      have := bt_split (a := x / 256 % 256) (n := x / 65536) (by omega) 20
      rw [show x / 256 % 256 + 256 * (x / 65536) = x / 256 by omega] at this
      exact this
    have s2 : bt_c (x / 65536) 20 = bt_c (x / 65536 % 256) 8 + bt_c (x / 16777216) 12 := by
      have := bt_split (a := x / 65536 % 256) (n := x / 16777216) (by omega) 12
      rw [show x / 65536 % 256 + 256 * (x / 16777216) = x / 65536 by omega] at this
      exact this
    have s3 : bt_c (x / 16777216) 12 = bt_c (x / 16777216 % 256) 8 + bt_c (x / 4294967296) 4 := by
      have := bt_split (a := x / 16777216 % 256) (n := x / 4294967296) (by omega) 4
      rw [show x / 16777216 % 256 + 256 * (x / 4294967296) = x / 16777216 by omega] at this
      exact this
    rw [s0, s1, s2, s3]
  generalize by_T 6148914691236517205 3689348814741910323 1085102592571150095 x = y at *
  have hy : y < 2 ^ 38 := by have a0 := c0.2; have a1 := c1.2; have a2 := c2.2; have a3 := c3.2; have a4 := c4.2; omega
  clear xe n1 n2 n3 e2
  have e4 : bl_4 (x : Int) = ((y + y / 256 : Nat) : Int) := by unfold bl_4; rw [e3, pr_ls8 (by omega), pr_add (by unfold ab_lok; omega)]; omega
  have e5 : bl_5 (x : Int) = ((y + y / 256 + (y + y / 256) / 65536 : Nat) : Int) := by unfold bl_5; rw [e4, pr_ls16 (by omega), pr_add (by unfold ab_lok; omega)]; omega
  have e6 : bl_6 (x : Int) = ((y + y / 256 + (y + y / 256) / 65536 + (y + y / 256 + (y + y / 256) / 65536) / 4294967296 : Nat) : Int) := by unfold bl_6; rw [e5, pr_ls32 (by omega), pr_add (by unfold ab_lok; omega)]; omega
  rw [e6, pr_low, Int.toNat_natCast, bc]
  rw [by_end c0.2 c1.2 c2.2 c3.2 c4.2 t, c0.1, c1.1, c2.1, c3.1, c4.1]
set_option maxHeartbeats 4000000 in
set_option maxRecDepth 100000 in
theorem s_J13_bitCount_95d88 {g : ab_G} {h : ab_H} {v : Int} (hv : 0 ≤ v ∧ v < 68719476736) : MethI g 1 m_J13_bitCount_95d88 [a_L v] h (fun z h' => h = h' ∧ z = (bt_c v.toNat 36 : Nat)) := by
  refine Meth.of_go k_J13_bitCount_95d88 (Nat.le_of_ble_eq_true rfl) ?_
  show Go g _ m_J13_bitCount_95d88 _ 0 [some (a_L v), none] [] h
  refine go_lload_n rfl rfl ?_
  refine go_lload_n rfl rfl ?_
  refine go_iconst rfl ?_
  refine go_lushr rfl ?_
  refine go_ldc2 rfl (z := 6148914691236517205) c_J13_314 ?_
  refine go_land rfl ?_
  refine go_lsub rfl ?_
  refine go_lstore_n rfl (by decide) rfl ?_
  refine go_lload_n rfl rfl ?_
  refine go_ldc2 rfl (z := 3689348814741910323) c_J13_316 ?_
  refine go_land rfl ?_
  refine go_lload_n rfl rfl ?_
  refine go_iconst rfl ?_
  refine go_lushr rfl ?_
  refine go_ldc2 rfl (z := 3689348814741910323) c_J13_316 ?_
  refine go_land rfl ?_
  refine go_ladd rfl ?_
  refine go_lstore_n rfl (by decide) rfl ?_
  refine go_lload_n rfl rfl ?_
  refine go_lload_n rfl rfl ?_
  refine go_iconst rfl ?_
  refine go_lushr rfl ?_
  refine go_ladd rfl ?_
  refine go_ldc2 rfl (z := 1085102592571150095) c_J13_318 ?_
  refine go_land rfl ?_
  refine go_lstore_n rfl (by decide) rfl ?_
  refine go_lload_n rfl rfl ?_
  refine go_lload_n rfl rfl ?_
  refine go_bipush rfl ?_
  refine go_lushr rfl ?_
  refine go_ladd rfl ?_
  refine go_lstore_n rfl (by decide) rfl ?_
  refine go_lload_n rfl rfl ?_
  refine go_lload_n rfl rfl ?_
  refine go_bipush rfl ?_
  refine go_lushr rfl ?_
  refine go_ladd rfl ?_
  refine go_lstore_n rfl (by decide) rfl ?_
  refine go_lload_n rfl rfl ?_
  refine go_lload_n rfl rfl ?_
  refine go_bipush rfl ?_
  refine go_lushr rfl ?_
  refine go_ladd rfl ?_
  refine go_lstore_n rfl (by decide) rfl ?_
  refine go_lload_n rfl rfl ?_
  refine go_l2i rfl ?_
  refine go_bipush rfl ?_
  refine go_iand rfl ?_
  exact go_iret rfl (Or.inl rfl) ⟨_, rfl, rfl, bl_val hv⟩
