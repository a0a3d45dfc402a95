/-! bits of a mask counted; bags handed round -/
def bc_1 (a : Int) : Int := a - ab_iand (ab_iushr a 1) 1431655765
def bc_2 (a : Int) : Int := ab_iand (bc_1 a) 858993459 + ab_iand (ab_iushr (bc_1 a) 2) 858993459
def bc_3 (a : Int) : Int := ab_iand (bc_2 a + ab_iushr (bc_2 a) 4) 252645135
def bc_4 (a : Int) : Int := bc_3 a + ab_iushr (bc_3 a) 8
def bc_5 (a : Int) : Int := bc_4 a + ab_iushr (bc_4 a) 16
def bc_n (a : Nat) : Int := (if a.testBit 0 then 1 else 0) + (if a.testBit 1 then 1 else 0) + (if a.testBit 2 then 1 else 0) + (if a.testBit 3 then 1 else 0) + (if a.testBit 4 then 1 else 0) + (if a.testBit 5 then 1 else 0)
theorem bc_all : ∀ a, a < 64 → (0 ≤ bc_1 (Int.ofNat a) ∧ bc_1 (Int.ofNat a) < 64) ∧ (0 ≤ bc_2 (Int.ofNat a) ∧ bc_2 (Int.ofNat a) < 200) ∧ (0 ≤ bc_2 (Int.ofNat a) + ab_iushr (bc_2 (Int.ofNat a)) 4 ∧ bc_2 (Int.ofNat a) + ab_iushr (bc_2 (Int.ofNat a)) 4 < 1000) ∧ (0 ≤ bc_4 (Int.ofNat a) ∧ bc_4 (Int.ofNat a) < 1000) ∧ (0 ≤ bc_5 (Int.ofNat a) ∧ bc_5 (Int.ofNat a) < 1000) ∧ ab_iand (bc_5 (Int.ofNat a)) 63 = bc_n a := by decide +kernel
theorem bc_num {a : Int} (ha : 0 ≤ a ∧ a < 64) : wk_num (fun k => wk_tb a k = true) 6 = bc_n a.toNat := by
  have e : ∀ k : Nat, rd_bool (wk_tb a (k : Int) = true) = if a.toNat.testBit k then 1 else 0 := by
    intro k
    by_cases q : wk_tb a (k : Int) = true
    · rw [rd_t q, if_pos (by simpa [wk_tb] using q)]
    · rw [rd_f q, if_neg (by simpa [wk_tb] using q)]
  unfold bc_n
  simp only [wk_num, e]
  omega
set_option maxHeartbeats 4000000 in
set_option maxRecDepth 100000 in
theorem s_J6_bitCount_0f7a4 {g : ab_G} {h : ab_H} {v : Int} (hv : 0 ≤ v ∧ v < 64) : MethI g 1 m_J6_bitCount_0f7a4 [a_I v] h (fun z h' => h = h' ∧ z = wk_num (fun k => wk_tb v k = true) 6) := by
  refine Meth.of_go k_J6_bitCount_0f7a4 (Nat.le_of_ble_eq_true rfl) ?_
  show Go g _ m_J6_bitCount_0f7a4 _ 0 [some (a_I v)] [] h
  obtain ⟨q1, q2, q3, q4, q5, q6⟩ := bc_all v.toNat (by omega)
  rw [show Int.ofNat v.toNat = v by exact Int.toNat_of_nonneg hv.1] at q1 q2 q3 q4 q5 q6
  refine go_iload_n rfl rfl ?_
  refine go_iload_n rfl rfl ?_
  refine go_iconst rfl ?_
  refine go_iushr rfl ?_
  refine go_ldcw rfl (z := 1431655765) c_J6_265 ?_
  refine go_iand rfl ?_
  refine go_isub rfl (show ab_iok (bc_1 v) by unfold ab_iok; omega) ?_
  refine go_istore_n rfl (by decide) rfl ?_
  refine go_iload_n rfl rfl ?_
  refine go_ldcw rfl (z := 858993459) c_J6_266 ?_
  refine go_iand rfl ?_
  refine go_iload_n rfl rfl ?_
  refine go_iconst rfl ?_
  refine go_iushr rfl ?_
  refine go_ldcw rfl (z := 858993459) c_J6_266 ?_
  refine go_iand rfl ?_
  refine go_iadd rfl (show ab_iok (bc_2 v) by unfold ab_iok; omega) ?_
  refine go_istore_n rfl (by decide) rfl ?_
  refine go_iload_n rfl rfl ?_
  refine go_iload_n rfl rfl ?_
  refine go_iconst rfl ?_
  refine go_iushr rfl ?_
  refine go_iadd rfl (show ab_iok (bc_2 v + ab_iushr (bc_2 v) 4) by unfold ab_iok; omega) ?_
  refine go_ldcw rfl (z := 252645135) c_J6_267 ?_
  refine go_iand rfl ?_
  refine go_istore_n rfl (by decide) rfl ?_
  refine go_iload_n rfl rfl ?_
  refine go_iload_n rfl rfl ?_
  refine go_bipush rfl ?_
  refine go_iushr rfl ?_
  refine go_iadd rfl (show ab_iok (bc_4 v) by unfold ab_iok; omega) ?_
  refine go_istore_n rfl (by decide) rfl ?_
  refine go_iload_n rfl rfl ?_
  refine go_iload_n rfl rfl ?_
  refine go_bipush rfl ?_
  refine go_iushr rfl ?_
  refine go_iadd rfl (show ab_iok (bc_5 v) by unfold ab_iok; omega) ?_
  refine go_istore_n rfl (by decide) rfl ?_
  refine go_iload_n rfl rfl ?_
  refine go_bipush rfl ?_
  refine go_iand rfl ?_
  exact go_iret rfl (Or.inl rfl) ⟨_, rfl, rfl, (q6.trans (bc_num hv).symm)⟩
section WL
variable {q : Int → Prop}
theorem wk_last_t {i : Int} (h0 : 0 ≤ i) (h : q i) : wk_last q (i + 1).toNat = i := by
  rw [show (i + 1).toNat = i.toNat + 1 by omega, wk_last]
  have e : ((i.toNat : Nat) : Int) = i := Int.toNat_of_nonneg h0
  rw [e]
  exact if_pos h
theorem wk_last_f {i : Int} (h0 : 0 ≤ i) (h : ¬ q i) : wk_last q (i + 1).toNat = wk_last q i.toNat := by
  rw [show (i + 1).toNat = i.toNat + 1 by omega, wk_last]
  have e : ((i.toNat : Nat) : Int) = i := Int.toNat_of_nonneg h0
  rw [e]
  exact if_neg h
theorem wk_last_spec : ∀ k : Nat, (wk_last q k = -1 ∧ ∀ j : Int, 0 ≤ j → j < k → ¬ q j) ∨ (0 ≤ wk_last q k ∧ wk_last q k < k ∧ q (wk_last q k) ∧ ∀ j : Int, wk_last q k < j → j < k → ¬ q j)
  | 0 => Or.inl ⟨rfl, fun j j0 j1 => by omega⟩
  | k + 1 => by
    by_cases h : q (k : Int)
    · have e : wk_last q (k + 1) = k := by rw [wk_last]; exact if_pos h
      rw [e]
      exact Or.inr ⟨by omega, by omega, h, fun j j0 j1 => by omega⟩
    · have e : wk_last q (k + 1) = wk_last q k := by rw [wk_last]; exact if_neg h
      rw [e]
      have nx : ∀ j : Int, ¬ j < k → j < ((k + 1 : Nat) : Int) → ¬ q j := fun j j0 j1 z => h (by rw [show (k : Int) = j by omega]; exact z)
      rcases wk_last_spec k with ⟨a, b⟩ | ⟨a, b, c, d⟩
      · refine Or.inl ⟨a, fun j j0 j1 => ?_⟩
        by_cases z : j < k
        · exact b j j0 z
        · exact nx j z j1
      · refine Or.inr ⟨a, by omega, c, fun j j0 j1 => ?_⟩
        by_cases z : j < k
        · exact d j j0 z
        · exact nx j z j1
theorem wk_last_ext {a b : Nat} (hab : a ≤ b) (h : ∀ j : Int, a ≤ j → j < b → ¬ q j) : wk_last q b = wk_last q a := by
  rcases wk_last_spec (q := q) b with ⟨b1, b2⟩ | ⟨b1, b2, b3, b4⟩ <;> rcases wk_last_spec (q := q) a with ⟨a1, a2⟩ | ⟨a1, a2, a3, a4⟩
  · omega
  · exact absurd a3 (b2 _ a1 (by omega))
  · by_cases z : wk_last q b < a
    · exact absurd b3 (a2 _ b1 z)
    · exact absurd b3 (h _ (by omega) b2)
  · by_cases z : wk_last q b < a
    · rcases Int.lt_trichotomy (wk_last q a) (wk_last q b) with y | y | y
      · exact absurd b3 (a4 _ y z)
      · exact y.symm
      · exact absurd a3 (b4 _ y (by omega))
    · exact absurd b3 (h _ (by omega) b2)
end WL
/-- while bags are handed round: the first, what was handed -/
noncomputable def hr_H (h0 : ab_H) (q : Int → Prop) (k : Nat) : Int := if wk_last q k = -1 then -1 else h0 14 (wk_last q k)
def hr_I (h0 : ab_H) (g : Int) (i fst hd : Int) (h : ab_H) : Prop := hd = hr_H h0 (fun k => wk_tb g k = true) i.toNat ∧ ((fst = -1 ∧ ∀ j, 0 ≤ j → j < i → ¬ wk_tb g j = true) ∨ (0 ≤ fst ∧ fst < i ∧ wk_tb g fst = true ∧ ∀ j, 0 ≤ j → j < fst → ¬ wk_tb g j = true)) ∧ (∀ j, 0 ≤ j → (j < i ∧ wk_tb g j = true → h 14 j = hr_H h0 (fun k => wk_tb g k = true) j.toNat) ∧ (¬ (j < i ∧ wk_tb g j = true) → h 14 j = h0 14 j)) ∧ ∀ k, k ≠ 14 → h k = h0 k
set_option maxHeartbeats 4000000 in
set_option maxRecDepth 100000 in
theorem lp_X5_handRound {g : ab_G} {h0 : ab_H} {gr : Int} {Q : Option ab_V → ab_H → Prop} (hm : 0 ≤ h0 10 7 ∧ h0 10 7 ≤ 6) (hg : 0 ≤ gr ∧ gr < 64) (hq1 : ∀ {fst hd : Int} (h : ab_H), hr_I h0 gr (h0 10 7) fst hd h → fst = -1 → Q none h) (hq2 : ∀ (fst hd : Int) (h : ab_H), hr_I h0 gr (h0 10 7) fst hd h → ¬ fst = -1 → Q none (ab_hs h 14 fst hd)) : ∀ (f : Nat) (i fst hd : Int) (h : ab_H), 0 ≤ i → i ≤ h0 10 7 → h0 10 7 - i < f → hr_I h0 gr i fst hd h → ∀ v, Go g (ab_rm 1, 0, 0) m_X5_handRound Q 7 [some (a_R 10), some (a_I gr), some (a_I fst), some (a_I hd), some (a_I i), v] [] h := by
  intro f
  induction f with
  | zero => intro i fst hd h h0i h1 hf; omega
  | succ f ih =>
    intro i fst hd h h0i h1 hf I v
    obtain ⟨I1, I2, I3, I4⟩ := id I
    have e7 : h 10 7 = h0 10 7 := by rw [I4 10 (by decide)]
    refine go_iload rfl rfl ?_
    refine go_aload_n rfl rfl ?_
    refine go_getI rfl f_X5_33 rfl rfl rfl ?_ -- men
    refine go_icmp_ge rfl (tgt := 63) (by decide) (fun c13 => ?_) (fun c13 => ?_)
    · have eqi : i = h0 10 7 := by omega
      refine go_iload_n rfl rfl ?_
      refine go_iconst rfl ?_
      refine go_icmp_eq rfl (tgt := 75) (by decide) (fun c65 => ?_) (fun c65 => ?_)
      · exact go_ret rfl rfl (hq1 h (by rw [← eqi]; exact ⟨I1, I2, I3, I4⟩) c65)
      · refine go_aload_n rfl rfl ?_
        refine go_getR rfl f_X5_21 rfl rfl ?_ -- load
        refine go_iload_n rfl rfl ?_
        refine go_iload_n rfl rfl ?_
        refine go_iast rfl rfl (by omega) (by omega) ?_
        exact go_ret rfl rfl (hq2 fst hd h (by rw [← eqi]; exact ⟨I1, I2, I3, I4⟩) c65)
    · refine go_iload_n rfl rfl ?_
      refine go_iload rfl rfl ?_
      refine go_ishr rfl ?_
      refine go_iconst rfl ?_
      refine go_iand rfl ?_
      rw [wk_bit (by omega) (by omega)]
      refine go_if_eq rfl (tgt := 57) (by decide) (fun c22 => ?_) (fun c22 => ?_)
      · have tbi : ¬ wk_tb gr i = true := fun q => by rw [if_pos q] at c22; omega
        refine go_iinc rfl rfl (by decide) rfl (by unfold ab_iok; omega) ?_
        refine go_goto rfl (tgt := 7) (by decide) ?_
        refine ih (i + 1) fst hd h (by omega) (by omega) (by omega) ⟨?_, ?_, fun j j0 => ⟨fun z => ?_, fun z => ?_⟩, I4⟩ _
        · unfold hr_H; rw [wk_last_f h0i tbi]; exact I1
        · rcases I2 with ⟨a, b⟩ | ⟨a, b, c, d⟩
          · refine Or.inl ⟨a, fun j j0 j1 => ?_⟩
            by_cases e : j = i
            · subst e; exact tbi
            · exact b j j0 (by omega)
          · exact Or.inr ⟨a, by omega, c, d⟩
        · by_cases e : j = i
          · subst e; exact absurd z.2 tbi
          · exact (I3 j j0).1 ⟨by omega, z.2⟩
        · exact (I3 j j0).2 (fun y => z ⟨by omega, y.2⟩)
      · have tbi : wk_tb gr i = true := Classical.byContradiction fun q => c22 (if_neg q)
        refine go_aload_n rfl rfl ?_
        refine go_getR rfl f_X5_21 rfl rfl ?_ -- load
        refine go_iload rfl rfl ?_
        refine go_iald rfl rfl (by omega) (by omega) ?_
        refine go_istore rfl (by decide) rfl ?_
        refine go_aload_n rfl rfl ?_
        refine go_getR rfl f_X5_21 rfl rfl ?_ -- load
        refine go_iload rfl rfl ?_
        refine go_iload_n rfl rfl ?_
        refine go_iast rfl rfl (by omega) (by omega) ?_
        refine go_iload rfl rfl ?_
        refine go_istore_n rfl (by decide) rfl ?_
        refine go_iload_n rfl rfl ?_
        refine go_iconst rfl ?_
        refine go_icmp_ne rfl (tgt := 55) (by decide) (fun c47 => ?_) (fun c47 => ?_)
        · refine go_iload_n rfl rfl ?_
          refine go_istore_n rfl (by decide) rfl ?_
          refine go_iinc rfl rfl (by decide) rfl (by unfold ab_iok; omega) ?_
          refine go_goto rfl (tgt := 7) (by decide) ?_
          refine ih (i + 1) fst (h 14 i) (ab_hs h 14 i hd) (by omega) (by omega) (by omega) ⟨?_, Or.inr (by rcases I2 with ⟨a, b⟩ | ⟨a, b, c, d⟩; exact absurd a c47; exact ⟨a, by omega, c, d⟩), fun j j0 => ⟨fun z => ?_, fun z => ?_⟩, fun k hk => by rw [ab_hs_f hk]; exact I4 k hk⟩ _
          · unfold hr_H; rw [wk_last_t h0i tbi, if_neg (by omega)]; exact (I3 i h0i).2 (by omega)
          · by_cases e : j = i
            · subst e; rw [ab_hs_eq]; exact I1
            · rw [ab_hs_i e]; exact (I3 j j0).1 ⟨by omega, z.2⟩
          · by_cases e : j = i
            · subst e; exact absurd ⟨by omega, tbi⟩ z
            · rw [ab_hs_i e]; exact (I3 j j0).2 (fun y => z ⟨by omega, y.2⟩)
        · refine go_iload rfl rfl ?_
          refine go_goto rfl (tgt := 56) (by decide) ?_
          refine go_istore_n rfl (by decide) rfl ?_
          refine go_iinc rfl rfl (by decide) rfl (by unfold ab_iok; omega) ?_
          refine go_goto rfl (tgt := 7) (by decide) ?_
          refine ih (i + 1) i (h 14 i) (ab_hs h 14 i hd) (by omega) (by omega) (by omega) ⟨?_, Or.inr ⟨h0i, by omega, tbi, fun j j0 j1 => by rcases I2 with ⟨a, b⟩ | ⟨a, b, c, d⟩; exact b j j0 (by omega); omega⟩, fun j j0 => ⟨fun z => ?_, fun z => ?_⟩, fun k hk => by rw [ab_hs_f hk]; exact I4 k hk⟩ _
          · unfold hr_H; rw [wk_last_t h0i tbi, if_neg (by omega)]; exact (I3 i h0i).2 (by omega)
          · by_cases e : j = i
            · subst e; rw [ab_hs_eq]; exact I1
            · rw [ab_hs_i e]; exact (I3 j j0).1 ⟨by omega, z.2⟩
          · by_cases e : j = i
            · subst e; exact absurd ⟨by omega, tbi⟩ z
            · rw [ab_hs_i e]; exact (I3 j j0).2 (fun y => z ⟨by omega, y.2⟩)
/-- bags handed round in the group gr -/
def hr_Post (h0 : ab_H) (gr : Int) (h : ab_H) : Prop := (∀ j, 0 ≤ j → j < h0 10 7 → (wk_tb gr j = true → h 14 j = h0 14 (wk_prv (fun k => wk_tb gr k = true) j)) ∧ (¬ wk_tb gr j = true → h 14 j = h0 14 j)) ∧ ∀ k, k ≠ 14 → h k = h0 k
theorem hr_end1 {h0 h : ab_H} {gr fst hd : Int} (I : hr_I h0 gr (h0 10 7) fst hd h) (e : fst = -1) : hr_Post h0 gr h := by
  obtain ⟨I1, I2, I3, I4⟩ := I
  rcases I2 with ⟨a, b⟩ | ⟨a, b, c, d⟩
  · exact ⟨fun j j0 j1 => ⟨fun q => absurd q (b j j0 j1), fun q => (I3 j j0).2 (fun z => q z.2)⟩, I4⟩
  · omega
theorem hr_end2 {h0 h : ab_H} {gr fst hd : Int} (hm : 0 ≤ h0 10 7 ∧ h0 10 7 ≤ 6) (hb : ∀ k, h0 10 7 ≤ k → k < 6 → ¬ wk_tb gr k = true) (I : hr_I h0 gr (h0 10 7) fst hd h) (e : ¬ fst = -1) : hr_Post h0 gr (ab_hs h 14 fst hd) := by
  obtain ⟨I1, I2, I3, I4⟩ := I
  rcases I2 with ⟨a, b⟩ | ⟨a, b, c, d⟩
  · exact absurd a e
  · have el : wk_last (fun k => wk_tb gr k = true) 6 = wk_last (fun k => wk_tb gr k = true) (h0 10 7).toNat := wk_last_ext (by omega) (fun j j0 j1 => hb j (by omega) (by omega))
    refine ⟨fun j j0 j1 => ⟨fun q => ?_, fun q => ?_⟩, fun k hk => by rw [ab_hs_f hk]; exact I4 k hk⟩
    · by_cases ej : j = fst
      · subst ej
        rw [ab_hs_eq, I1]
        have e1 : wk_last (fun k => wk_tb gr k = true) j.toNat = -1 := by
          rcases wk_last_spec (q := fun k => wk_tb gr k = true) j.toNat with ⟨a1, -⟩ | ⟨a1, a2, a3, -⟩
          · exact a1
          · exact absurd a3 (d _ a1 (by omega))
        have e2 : wk_last (fun k => wk_tb gr k = true) (h0 10 7).toNat ≠ -1 := by
          rcases wk_last_spec (q := fun k => wk_tb gr k = true) (h0 10 7).toNat with ⟨a1, a2⟩ | ⟨a1, a2, a3, -⟩
          · exact absurd c (a2 j a (by omega))
          · omega
        unfold hr_H wk_prv
        rw [if_neg e2, if_pos e1, el]
      · rw [ab_hs_i ej, (I3 j j0).1 ⟨j1, q⟩]
        have e1 : wk_last (fun k => wk_tb gr k = true) j.toNat ≠ -1 := by
          rcases wk_last_spec (q := fun k => wk_tb gr k = true) j.toNat with ⟨a1, a2⟩ | ⟨a1, a2, a3, -⟩
          · rcases Int.lt_trichotomy fst j with z | z | z
            · exact absurd c (a2 fst a (by omega))
            · omega
            · exact absurd q (d j j0 z)
          · omega
        unfold hr_H wk_prv
        rw [if_neg e1, if_neg e1]
    · have ej : j ≠ fst := fun z => q (z ▸ c)
      rw [ab_hs_i ej]
      exact (I3 j j0).2 (fun z => q z.2)
set_option maxHeartbeats 4000000 in
set_option maxRecDepth 100000 in
theorem s_X5_handRound {g : ab_G} {h : ab_H} {gr : Int} (hm : 0 ≤ h 10 7 ∧ h 10 7 ≤ 6) (hg : 0 ≤ gr ∧ gr < 64) (hb : ∀ k, h 10 7 ≤ k → k < 6 → ¬ wk_tb gr k = true) : MethV g 1 m_X5_handRound [a_R 10, a_I gr] h (fun h' => hr_Post h gr h') := by
  refine Meth.of_go k_X5_handRound (Nat.le_of_ble_eq_true rfl) ?_
  show Go g _ m_X5_handRound _ 0 [some (a_R 10), some (a_I gr), none, none, none, none] [] h
  refine go_iconst rfl ?_
  refine go_istore_n rfl (by decide) rfl ?_
  refine go_iconst rfl ?_
  refine go_istore_n rfl (by decide) rfl ?_
  refine go_iconst rfl ?_
  refine go_istore rfl (by decide) rfl ?_
  exact lp_X5_handRound hm hg (fun h2 I e => ⟨rfl, hr_end1 I e⟩) (fun fst hd h2 I e => ⟨rfl, hr_end2 hm hb I e⟩) 8 0 (-1) (-1) h (by omega) (by omega) (by omega) ⟨rfl, Or.inl ⟨rfl, fun j j0 j1 => by omega⟩, fun j j0 => ⟨fun z => by omega, fun _ => rfl⟩, fun _ _ => rfl⟩ _
