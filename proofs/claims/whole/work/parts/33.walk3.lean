/-! who met whom, as the bits of a long -/
theorem pr_lor {x y : Nat} (hx : x < 2 ^ 62) (hy : y < 2 ^ 62) : ab_lor (x : Int) (y : Int) = ((x ||| y : Nat) : Int) := by
  have hxy : x ||| y < 2 ^ 62 := Nat.or_lt_two_pow hx hy
  unfold ab_lor
  show ((Int64.ofInt x ||| Int64.ofInt y).toBitVec).toInt = _
  rw [Int64.toBitVec_or]
  show (BitVec.ofInt 64 (x : Int) ||| BitVec.ofInt 64 (y : Int)).toInt = _
  rw [BitVec.ofInt_natCast, BitVec.ofInt_natCast]
  have e : (BitVec.ofNat 64 x ||| BitVec.ofNat 64 y).toNat = x ||| y := by
    rw [BitVec.toNat_or, BitVec.toNat_ofNat, BitVec.toNat_ofNat, Nat.mod_eq_of_lt (by omega), Nat.mod_eq_of_lt (by omega)]
  rw [BitVec.toInt_eq_toNat_of_lt (by rw [e]; omega), e]
theorem pr_shl0 : ∀ o, o < 64 → ∀ i, i < 6 → ab_lshl (Int.ofNat o) (6 * Int.ofNat i) = Int.ofNat (o * 2 ^ (6 * i)) := by decide +kernel
def pr_tb (P a b : Int) : Bool := P.toNat.testBit (6 * a + b).toNat
theorem pr_or {P o i : Int} (hP : 0 ≤ P ∧ P < 68719476736) (ho : 0 ≤ o ∧ o < 64) (hi : 0 ≤ i ∧ i < 6) : 0 ≤ ab_lor P (ab_lshl o (6 * i)) ∧ ab_lor P (ab_lshl o (6 * i)) < 68719476736 ∧ ∀ a b, 0 ≤ a → a < 6 → 0 ≤ b → b < 6 → pr_tb (ab_lor P (ab_lshl o (6 * i))) a b = (pr_tb P a b || (decide (a = i) && wk_tb o b)) := by
  obtain ⟨x, rfl⟩ := Int.eq_ofNat_of_zero_le hP.1
  obtain ⟨y, rfl⟩ := Int.eq_ofNat_of_zero_le ho.1
  obtain ⟨k, rfl⟩ := Int.eq_ofNat_of_zero_le hi.1
  have h1 := pr_shl0 y (by omega) k (by omega)
  have hs : ab_lshl (y : Int) (6 * (k : Int)) = ((y * 2 ^ (6 * k) : Nat) : Int) := h1
  have hk : k < 6 := by omega
  have hy : y * 2 ^ (6 * k) < 2 ^ 36 := by
    have e1 : y < 2 ^ 6 := by omega
    calc y * 2 ^ (6 * k) < 2 ^ 6 * 2 ^ (6 * k) := Nat.mul_lt_mul_of_pos_right e1 (Nat.two_pow_pos _)
      _ = 2 ^ (6 + 6 * k) := (Nat.pow_add 2 6 (6 * k)).symm
      _ ≤ 2 ^ 36 := Nat.pow_le_pow_right (by decide) (by omega)
  have hx : x < 2 ^ 36 := by omega
  rw [hs, pr_lor (by omega) (by omega)]
  have hor : x ||| y * 2 ^ (6 * k) < 2 ^ 36 := Nat.or_lt_two_pow hx hy
  refine ⟨by omega, by omega, fun a b a0 a1 b0 b1 => ?_⟩
  obtain ⟨a, rfl⟩ := Int.eq_ofNat_of_zero_le a0
  obtain ⟨b, rfl⟩ := Int.eq_ofNat_of_zero_le b0
  unfold pr_tb wk_tb
  rw [Int.toNat_natCast, Int.toNat_natCast, Int.toNat_natCast, Nat.testBit_or, Nat.testBit_mul_two_pow, Int.toNat_natCast]
  congr 1
  have e6 : (6 * (a : Int) + (b : Int)).toNat = 6 * a + b := by omega
  rw [e6]
  by_cases e : a = k
  · subst e
    rw [decide_eq_true (by omega), decide_eq_true rfl, show 6 * a + b - 6 * a = b by omega]
  · rw [decide_eq_false (show ¬ ((a : Int) = (k : Int)) by omega)]
    by_cases e2 : 6 * k ≤ 6 * a + b
    · rw [decide_eq_true e2, Bool.true_and, Bool.false_and]
      exact Nat.testBit_lt_two_pow (Nat.lt_of_lt_of_le (show y < 2 ^ 6 by omega) (Nat.pow_le_pow_right (by decide) (by omega)))
    · rw [decide_eq_false e2, Bool.false_and, Bool.false_and]
/-- while a group meets -/
def mt_I (h0 : ab_H) (gr tv i : Int) (h : ab_H) : Prop := (∀ j, 0 ≤ j → (j < i ∧ wk_tb gr j = true → h 13 j = if tv = 0 then h0 13 j else -h0 13 j) ∧ (¬ (j < i ∧ wk_tb gr j = true) → h 13 j = h0 13 j)) ∧ (0 ≤ h 10 13 ∧ h 10 13 < 68719476736) ∧ (∀ a b, 0 ≤ a → a < 6 → 0 ≤ b → b < 6 → (pr_tb (h 10 13) a b = true ↔ pr_tb (h0 10 13) a b = true ∨ (a < i ∧ wk_tb gr a = true ∧ wk_tb gr b = true ∧ b ≠ a))) ∧ (∀ k, ¬ (k = 10 ∨ k = 13) → h k = h0 k) ∧ ∀ b, b ≠ 13 → h 10 b = h0 10 b
set_option maxHeartbeats 4000000 in
set_option maxRecDepth 100000 in
theorem lp_X5_meet {g : ab_G} {h0 : ab_H} {gr tv x2 x4 : Int} {Q : Option ab_V → ab_H → Prop} (hm : 0 ≤ h0 10 7 ∧ h0 10 7 ≤ 6) (hg : 0 ≤ gr ∧ gr < 64) (hf : ∀ i, 0 ≤ i → i < h0 10 7 → h0 13 i = 1 ∨ h0 13 i = -1) (hq : ∀ h, mt_I h0 gr tv (h0 10 7) h → Q none h) : ∀ (f : Nat) (i : Int) (h : ab_H), 0 ≤ i → i ≤ h0 10 7 → h0 10 7 - i < f → mt_I h0 gr tv i h → ∀ v, Go g (ab_rm 2, 0, 0) m_X5_meet Q 96 [some (a_R 10), some (a_I gr), some (a_I x2), some (a_I tv), some (a_I x4), some (a_I i), v, none] [] h := by
  intro f
  induction f with
  | zero => intro i h h0i h1 hf; omega
  | succ f ih =>
    intro i h h0i h1 hfu I v
    obtain ⟨I1, I2, I3, I4, I5⟩ := id I
    have e7 : h 10 7 = h0 10 7 := I5 7 (by decide)
    refine go_iload rfl rfl ?_
    refine go_aload_n rfl rfl ?_
    refine go_getI rfl f_X5_33 rfl rfl rfl ?_ -- men
    refine go_icmp_ge rfl (tgt := 178) (by decide) (fun c102 => ?_) (fun c102 => ?_)
    · exact go_ret rfl rfl (hq h (by rw [show h0 10 7 = i by omega]; exact ⟨I1, I2, I3, I4, I5⟩))
    · refine go_iload_n rfl rfl ?_
      refine go_iload rfl rfl ?_
      refine go_ishr rfl ?_
      refine go_iconst rfl ?_
      refine go_iand rfl ?_
      rw [wk_bit (by omega) (by omega)]
      refine go_if_eq rfl (tgt := 172) (by decide) (fun c111 => ?_) (fun c111 => ?_)
      · have tbi : ¬ wk_tb gr i = true := fun q => by rw [if_pos q] at c111; omega
        refine go_iinc rfl rfl (by decide) rfl (by unfold ab_iok; omega) ?_
        refine go_goto rfl (tgt := 96) (by decide) ?_
        refine ih (i + 1) h (by omega) (by omega) (by omega) ⟨fun j j0 => ⟨fun z => (I1 j j0).1 ⟨?_, z.2⟩, fun z => (I1 j j0).2 (fun y => z ⟨by omega, y.2⟩)⟩, I2, fun a b a0 a1 b0 b1 => (I3 a b a0 a1 b0 b1).trans (or_congr Iff.rfl ⟨fun z => ⟨by omega, z.2⟩, fun z => ⟨?_, z.2⟩⟩), I4, I5⟩ _
        · by_cases e : j = i
          · subst e; exact absurd z.2 tbi
          · omega
        · by_cases e : a = i
          · subst e; exact absurd z.2.1 tbi
          · omega
      · have tbi : wk_tb gr i = true := Classical.byContradiction fun q => c111 (if_neg q)
        have sh := wk_shl (j := i) (by omega)
        have dl := wk_del hg (g := ab_ishl 1 i) ⟨sh.1, sh.2.1⟩
        have po := pr_or I2 (o := ab_iand gr (ab_ixor (ab_ishl 1 i) (-1))) (i := i) ⟨dl.1, dl.2.1⟩ (by omega)
        have hfi : h 13 i = h0 13 i := (I1 i h0i).2 (by omega)
        have hf2 := hf i h0i (by omega)
        refine go_iload_n rfl rfl ?_
        refine go_iconst rfl ?_
        refine go_iload rfl rfl ?_
        refine go_ishl rfl ?_
        refine go_iconst rfl ?_
        refine go_ixor rfl ?_
        refine go_iand rfl ?_
        refine go_i2l rfl ?_
        refine go_lstore rfl (by decide) rfl ?_
        refine go_aload_n rfl rfl ?_
        refine go_dup rfl ?_
        refine go_getL rfl f_X5_52 rfl rfl rfl ?_ -- pairs
        refine go_lload rfl rfl ?_
        refine go_iload rfl rfl ?_
        refine go_iconst rfl ?_
        refine go_cS2I (M' := m_X6_pairShift) rfl l_X5_101 k_X6_pairShift (s_X6_pairShift (by omega) (by omega)) rfl (by decide) (Nat.le_of_ble_eq_true rfl) (fun z135 h135 q135 => ?_) -- X6_pairShift
        obtain ⟨rfl, rfl⟩ := q135
        rw [show 6 * i + 0 = 6 * i by omega]
        refine go_lshl rfl ?_
        refine go_lor rfl ?_
        refine go_putL rfl f_X5_52 rfl rfl rfl (Or.inl ⟨rfl, rfl⟩) ?_ -- pairs
        refine go_aload_n rfl rfl ?_
        refine go_getR rfl f_X5_18 rfl rfl ?_ -- facing
        refine go_iload rfl rfl ?_
        refine go_iload_n rfl rfl ?_
        refine go_if_eq rfl (tgt := 164) (by decide) (fun c150 => ?_) (fun c150 => ?_)
        · refine go_aload_n rfl rfl ?_
          refine go_getR rfl f_X5_18 rfl rfl ?_ -- facing
          refine go_iload rfl rfl ?_
          refine go_iald rfl rfl (by omega) (by omega) ?_
          simp only [ab_hs_f, ab_hs_i, ab_hs_eq, ne_eq, not_false_eq_true, Nat.reduceEqDiff, Int.reduceEq, reduceCtorEq]
          refine go_iast rfl rfl (by omega) (by omega) ?_
          refine go_iinc rfl rfl (by decide) rfl (by unfold ab_iok; omega) ?_
          refine go_goto rfl (tgt := 96) (by decide) ?_
          refine ih (i + 1) (ab_hs (ab_hs h 10 13 (ab_lor (h 10 13) (ab_lshl (ab_iand gr (ab_ixor (ab_ishl 1 i) (-1))) (6 * i)))) 13 i (h 13 i)) (by omega) (by omega) (by omega) ⟨fun j j0 => ⟨fun z => ?_, fun z => ?_⟩, ?_, ?_, fun k hk => by rw [ab_hs_f (by omega), ab_hs_f (by omega)]; exact I4 k hk, fun b hb => by rw [ab_hs_f (by decide), ab_hs_i hb]; exact I5 b hb⟩ _
          · by_cases e : j = i
            · subst e; rw [ab_hs_eq, if_pos c150, (I1 j j0).2 (by omega)]
            · rw [ab_hs_i e, ab_hs_f (by decide)]; exact (I1 j j0).1 ⟨by omega, z.2⟩
          · by_cases e : j = i
            · subst e; exact absurd ⟨by omega, tbi⟩ z
            · rw [ab_hs_i e, ab_hs_f (by decide)]; exact (I1 j j0).2 (fun y => z ⟨by omega, y.2⟩)
          · rw [ab_hs_f (by decide), ab_hs_eq]; exact ⟨po.1, po.2.1⟩
          · intro a b a0 a1 b0 b1
            rw [ab_hs_f (by decide), ab_hs_eq, po.2.2 a b a0 a1 b0 b1, dl.2.2 b b0 b1, sh.2.2 b b0 b1]
            simp only [Bool.or_eq_true, Bool.and_eq_true, decide_eq_true_eq, Bool.not_eq_true', decide_eq_false_iff_not]
            rw [I3 a b a0 a1 b0 b1]
            constructor
            · rintro ((q | q) | q)
              · exact Or.inl q
              · exact Or.inr ⟨by omega, q.2⟩
              · obtain ⟨rfl, q1, q2⟩ := q
                exact Or.inr ⟨by omega, tbi, q1, q2⟩
            · rintro (q | ⟨q1, q2, q3, q4⟩)
              · exact Or.inl (Or.inl q)
              · by_cases e : a = i
                · subst e; exact Or.inr ⟨rfl, q3, q4⟩
                · exact Or.inl (Or.inr ⟨by omega, q2, q3, q4⟩)
        · refine go_aload_n rfl rfl ?_
          refine go_getR rfl f_X5_18 rfl rfl ?_ -- facing
          refine go_iload rfl rfl ?_
          refine go_iald rfl rfl (by omega) (by omega) ?_
          simp only [ab_hs_f, ab_hs_i, ab_hs_eq, ne_eq, not_false_eq_true, Nat.reduceEqDiff, Int.reduceEq, reduceCtorEq]
          refine go_ineg rfl (by unfold ab_iok; omega) ?_
          refine go_goto rfl (tgt := 171) (by decide) ?_
          refine go_iast rfl rfl (by omega) (by omega) ?_
          refine go_iinc rfl rfl (by decide) rfl (by unfold ab_iok; omega) ?_
          refine go_goto rfl (tgt := 96) (by decide) ?_
          refine ih (i + 1) (ab_hs (ab_hs h 10 13 (ab_lor (h 10 13) (ab_lshl (ab_iand gr (ab_ixor (ab_ishl 1 i) (-1))) (6 * i)))) 13 i (-h 13 i)) (by omega) (by omega) (by omega) ⟨fun j j0 => ⟨fun z => ?_, fun z => ?_⟩, ?_, ?_, fun k hk => by rw [ab_hs_f (by omega), ab_hs_f (by omega)]; exact I4 k hk, fun b hb => by rw [ab_hs_f (by decide), ab_hs_i hb]; exact I5 b hb⟩ _
          · by_cases e : j = i
            · subst e; rw [ab_hs_eq, if_neg c150, (I1 j j0).2 (by omega)]
            · rw [ab_hs_i e, ab_hs_f (by decide)]; exact (I1 j j0).1 ⟨by omega, z.2⟩
          · by_cases e : j = i
            · subst e; exact absurd ⟨by omega, tbi⟩ z
            · rw [ab_hs_i e, ab_hs_f (by decide)]; exact (I1 j j0).2 (fun y => z ⟨by omega, y.2⟩)
          · rw [ab_hs_f (by decide), ab_hs_eq]; exact ⟨po.1, po.2.1⟩
          · intro a b a0 a1 b0 b1
            rw [ab_hs_f (by decide), ab_hs_eq, po.2.2 a b a0 a1 b0 b1, dl.2.2 b b0 b1, sh.2.2 b b0 b1]
            simp only [Bool.or_eq_true, Bool.and_eq_true, decide_eq_true_eq, Bool.not_eq_true', decide_eq_false_iff_not]
            rw [I3 a b a0 a1 b0 b1]
            constructor
            · rintro ((q | q) | q)
              · exact Or.inl q
              · exact Or.inr ⟨by omega, q.2⟩
              · obtain ⟨rfl, q1, q2⟩ := q
                exact Or.inr ⟨by omega, tbi, q1, q2⟩
            · rintro (q | ⟨q1, q2, q3, q4⟩)
              · exact Or.inl (Or.inl q)
              · by_cases e : a = i
                · subst e; exact Or.inr ⟨rfl, q3, q4⟩
                · exact Or.inl (Or.inr ⟨by omega, q2, q3, q4⟩)
