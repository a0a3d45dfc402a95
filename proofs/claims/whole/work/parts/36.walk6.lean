/-! a half minute's step -/
def in_I (h0 : ab_H) (left i j gr fr : Int) : Prop := (0 ≤ gr ∧ gr < 64) ∧ (∀ k, 0 ≤ k → k < 6 → (wk_tb gr k = true ↔ k = i ∨ (i < k ∧ k < j ∧ wk_tb left k = true ∧ h0 11 k = h0 11 i))) ∧ fr = rd_bool (∃ k, i < k ∧ k < j ∧ wk_tb left k = true ∧ h0 11 k = h0 11 i ∧ h0 12 k ≠ h0 12 i)
set_option maxHeartbeats 4000000 in
set_option maxRecDepth 100000 in
theorem lp_X5_stepIn {g : ab_G} {h0 h : ab_H} {left i : Int} {Q : Option ab_V → ab_H → Prop} (hm : 0 ≤ (h0 10 7) ∧ (h0 10 7) ≤ 6) (hi : 0 ≤ i ∧ i < (h0 10 7)) (hL : 0 ≤ left ∧ left < 64) (e7 : h 10 7 = h0 10 7) (e11 : h 11 = h0 11) (e12 : h 12 = h0 12) (K : ∀ gr fr, in_I h0 left i (h0 10 7) gr fr → ∀ j, Go g (ab_rm 3, 0, 0) m_X5_step Q 122 [some (a_R 10), some (a_I left), some (a_I i), some (a_I gr), some (a_I fr), some (a_I j)] [] h) : ∀ (f : Nat) (j gr fr : Int), i < j → j ≤ (h0 10 7) → (h0 10 7) - j < f → in_I h0 left i j gr fr → Go g (ab_rm 3, 0, 0) m_X5_step Q 47 [some (a_R 10), some (a_I left), some (a_I i), some (a_I gr), some (a_I fr), some (a_I j)] [] h := by
  intro f
  induction f with
  | zero => intro j gr fr h0j h1 hf; omega
  | succ f ih =>
    intro j gr fr h0j h1 hf hA
    obtain ⟨A1, A2, A3⟩ := id hA
    refine go_iload rfl rfl ?_
    refine go_aload_n rfl rfl ?_
    refine go_getI rfl f_X5_33 rfl rfl rfl ?_ -- men
    refine go_icmp_ge rfl (tgt := 122) (by decide) (fun c53 => ?_) (fun c53 => ?_)
    · exact K gr fr (by rw [show h0 10 7 = j by omega]; exact ⟨A1, A2, A3⟩) j
    · refine go_iload_n rfl rfl ?_
      refine go_iload rfl rfl ?_
      refine go_ishr rfl ?_
      refine go_iconst rfl ?_
      refine go_iand rfl ?_
      rw [wk_bit (by omega) (by omega)]
      refine go_if_eq rfl (tgt := 116) (by decide) (fun c62 => ?_) (fun c62 => ?_)
      · have nj : ¬ (wk_tb left j = true ∧ h0 11 j = h0 11 i) := fun z => by rw [if_pos z.1] at c62; omega
        refine go_iinc rfl rfl (by decide) rfl (by unfold ab_iok; omega) ?_
        refine go_goto rfl (tgt := 47) (by decide) ?_
        refine ih (j + 1) gr fr (by omega) (by omega) (by omega) ⟨A1, fun k k0 k1 => (A2 k k0 k1).trans (or_congr Iff.rfl ⟨fun z => ⟨z.1, by omega, z.2.2⟩, fun z => ⟨z.1, ?_, z.2.2⟩⟩), A3.trans (rd_iff ⟨fun ⟨k, a, b, c, d, e⟩ => ⟨k, a, by omega, c, d, e⟩, fun ⟨k, a, b, c, d, e⟩ => ⟨k, a, ?_, c, d, e⟩⟩)⟩
        · by_cases e : k = j
          · subst e; exact absurd ⟨z.2.2.1, z.2.2.2⟩ nj
          · omega
        · by_cases e : k = j
          · subst e; exact absurd ⟨c, d⟩ nj
          · omega
      · have tj : wk_tb left j = true := Classical.byContradiction fun q => c62 (if_neg q)
        refine go_aload_n rfl rfl ?_
        refine go_getR rfl f_X5_9 rfl rfl ?_ -- place
        refine go_iload rfl rfl ?_
        refine go_iald rfl rfl (by omega) (by omega) ?_
        refine go_aload_n rfl rfl ?_
        refine go_getR rfl f_X5_9 rfl rfl ?_ -- place
        refine go_iload_n rfl rfl ?_
        refine go_iald rfl rfl (by omega) (by omega) ?_
        refine go_icmp_ne rfl (tgt := 116) (by decide) (fun c78 => ?_) (fun c78 => ?_)
        · have nj : ¬ (wk_tb left j = true ∧ h0 11 j = h0 11 i) := fun z => c78 (by rw [e11]; exact z.2)
          refine go_iinc rfl rfl (by decide) rfl (by unfold ab_iok; omega) ?_
          refine go_goto rfl (tgt := 47) (by decide) ?_
          refine ih (j + 1) gr fr (by omega) (by omega) (by omega) ⟨A1, fun k k0 k1 => (A2 k k0 k1).trans (or_congr Iff.rfl ⟨fun z => ⟨z.1, by omega, z.2.2⟩, fun z => ⟨z.1, ?_, z.2.2⟩⟩), A3.trans (rd_iff ⟨fun ⟨k, a, b, c, d, e⟩ => ⟨k, a, by omega, c, d, e⟩, fun ⟨k, a, b, c, d, e⟩ => ⟨k, a, ?_, c, d, e⟩⟩)⟩
          · by_cases e : k = j
            · subst e; exact absurd ⟨z.2.2.1, z.2.2.2⟩ nj
            · omega
          · by_cases e : k = j
            · subst e; exact absurd ⟨c, d⟩ nj
            · omega
        · rw [e11] at c78
          have or1 := wk_or A1 (j := j) (by omega)
          refine go_iload_n rfl rfl ?_
          refine go_iconst rfl ?_
          refine go_iload rfl rfl ?_
          refine go_ishl rfl ?_
          refine go_ior rfl ?_
          refine go_istore_n rfl (by decide) rfl ?_
          refine go_iload rfl rfl ?_
          refine go_if_ne rfl (tgt := 109) (by decide) (fun c90 => ?_) (fun c90 => ?_)
          · refine go_iconst rfl ?_
            refine go_goto rfl (tgt := 114) (by decide) ?_
            refine go_istore rfl (by decide) rfl ?_
            refine go_iinc rfl rfl (by decide) rfl (by unfold ab_iok; omega) ?_
            refine go_goto rfl (tgt := 47) (by decide) ?_
            refine ih (j + 1) (ab_ior gr (ab_ishl 1 j)) 1 (by omega) (by omega) (by omega) ⟨⟨or1.1, or1.2.1⟩, fun k k0 k1 => ?_, (rd_t (by obtain ⟨k, a, b, c, d, e⟩ := rd_n1 (by rw [← A3]; exact c90); exact ⟨k, a, by omega, c, d, e⟩)).symm⟩
            rw [or1.2.2 k k0 k1]
            simp only [Bool.or_eq_true, decide_eq_true_eq]
            rw [A2 k k0 k1]
            constructor
            · rintro ((z | z) | z)
              · exact Or.inl z
              · exact Or.inr ⟨z.1, by omega, z.2.2⟩
              · subst z; exact Or.inr ⟨by omega, by omega, tj, by omega⟩
            · rintro (z | z)
              · exact Or.inl (Or.inl z)
              · by_cases e : k = j
                · exact Or.inr e
                · exact Or.inl (Or.inr ⟨z.1, by omega, z.2.2⟩)
          · refine go_aload_n rfl rfl ?_
            refine go_getR rfl f_X5_15 rfl rfl ?_ -- before
            refine go_iload rfl rfl ?_
            refine go_iald rfl rfl (by omega) (by omega) ?_
            refine go_aload_n rfl rfl ?_
            refine go_getR rfl f_X5_15 rfl rfl ?_ -- before
            refine go_iload_n rfl rfl ?_
            refine go_iald rfl rfl (by omega) (by omega) ?_
            rw [e12]
            refine go_icmp_eq rfl (tgt := 113) (by decide) (fun c106 => ?_) (fun c106 => ?_)
            · refine go_iconst rfl ?_
              refine go_istore rfl (by decide) rfl ?_
              refine go_iinc rfl rfl (by decide) rfl (by unfold ab_iok; omega) ?_
              refine go_goto rfl (tgt := 47) (by decide) ?_
              refine ih (j + 1) (ab_ior gr (ab_ishl 1 j)) 0 (by omega) (by omega) (by omega) ⟨⟨or1.1, or1.2.1⟩, fun k k0 k1 => ?_, (rd_f (by rintro ⟨k, a, b, c, d, e⟩; by_cases z : k = j; exact e (by rw [z]; omega); exact absurd (show ∃ k, i < k ∧ k < j ∧ wk_tb left k = true ∧ h0 11 k = h0 11 i ∧ h0 12 k ≠ h0 12 i from ⟨k, a, by omega, c, d, e⟩) (rd_n0 (by rw [← A3]; exact c90)))).symm⟩
              rw [or1.2.2 k k0 k1]
              simp only [Bool.or_eq_true, decide_eq_true_eq]
              rw [A2 k k0 k1]
              constructor
              · rintro ((z | z) | z)
                · exact Or.inl z
                · exact Or.inr ⟨z.1, by omega, z.2.2⟩
                · subst z; exact Or.inr ⟨by omega, by omega, tj, by omega⟩
              · rintro (z | z)
                · exact Or.inl (Or.inl z)
                · by_cases e : k = j
                  · exact Or.inr e
                  · exact Or.inl (Or.inr ⟨z.1, by omega, z.2.2⟩)
            · refine go_iconst rfl ?_
              refine go_goto rfl (tgt := 114) (by decide) ?_
              refine go_istore rfl (by decide) rfl ?_
              refine go_iinc rfl rfl (by decide) rfl (by unfold ab_iok; omega) ?_
              refine go_goto rfl (tgt := 47) (by decide) ?_
              refine ih (j + 1) (ab_ior gr (ab_ishl 1 j)) 1 (by omega) (by omega) (by omega) ⟨⟨or1.1, or1.2.1⟩, fun k k0 k1 => ?_, (rd_t ⟨j, by omega, by omega, tj, by omega, by omega⟩).symm⟩
              rw [or1.2.2 k k0 k1]
              simp only [Bool.or_eq_true, decide_eq_true_eq]
              rw [A2 k k0 k1]
              constructor
              · rintro ((z | z) | z)
                · exact Or.inl z
                · exact Or.inr ⟨z.1, by omega, z.2.2⟩
                · subst z; exact Or.inr ⟨by omega, by omega, tj, by omega⟩
              · rintro (z | z)
                · exact Or.inl (Or.inl z)
                · by_cases e : k = j
                  · exact Or.inr e
                  · exact Or.inl (Or.inr ⟨z.1, by omega, z.2.2⟩)
theorem in_gr {h0 : ab_H} {i left gr fr : Int} (hm : 0 ≤ (h0 10 7) ∧ (h0 10 7) ≤ 6) (hi : 0 ≤ i ∧ i < (h0 10 7)) (I1 : ∀ k, 0 ≤ k → k < 6 → (wk_tb left k = true ↔ wk_tb (h0 10 8) k = true ∧ ¬ st_dn h0 i k)) (hl : wk_tb left i = true) (A : in_I h0 left i (h0 10 7) gr fr) : st_gr h0 i gr ∧ fr = rd_bool (wk_new (h0 10 7) (h0 10 8) (h0 11) (h0 12) i) := by
  obtain ⟨A1, A2, A3⟩ := A
  obtain ⟨hw, hd⟩ := (I1 i hi.1 (by omega)).mp hl
  have key : ∀ k, wk_G (h0 10 7) (h0 10 8) (h0 11) i k → k = i ∨ (i < k ∧ k < (h0 10 7) ∧ wk_tb left k = true ∧ h0 11 k = h0 11 i) := by
    rintro k ⟨k0, k1, k2, k3⟩
    rcases Int.lt_trichotomy k i with z | z | z
    · exact absurd ⟨hw, k, k0, z, k2, k3⟩ hd
    · exact Or.inl z
    · refine Or.inr ⟨z, k1, (I1 k k0 (by omega)).mpr ⟨k2, ?_⟩, k3⟩
      rintro ⟨-, j, j0, j1, j2, j3⟩
      exact hd ⟨hw, j, j0, j1, j2, j3.trans k3⟩
  have back : ∀ k, i < k → k < (h0 10 7) → wk_tb left k = true → h0 11 k = h0 11 i → wk_G (h0 10 7) (h0 10 8) (h0 11) i k := fun k a b c d => ⟨by omega, b, ((I1 k (by omega) (by omega)).mp c).1, d⟩
  refine ⟨⟨A1, fun k k0 k1 => (A2 k k0 k1).trans ⟨?_, key k⟩⟩, A3.trans (rd_iff ⟨?_, ?_⟩)⟩
  · rintro (z | ⟨a, b, c, d⟩)
    · subst z; exact ⟨hi.1, hi.2, hw, rfl⟩
    · exact back k a b c d
  · rintro ⟨k, a, b, c, d, e⟩
    exact ⟨k, back k a b c d, e⟩
  · rintro ⟨k, a, b⟩
    rcases key k a with z | ⟨z1, z2, z3, z4⟩
    · subst z; exact absurd rfl b
    · exact ⟨k, z1, z2, z3, z4, b⟩
set_option maxHeartbeats 4000000 in
set_option maxRecDepth 100000 in
theorem lp_X5_step {g : ab_G} {h0 : ab_H} {Q : Option ab_V → ab_H → Prop} (hm : 0 ≤ (h0 10 7) ∧ (h0 10 7) ≤ 6) (hb : ∀ k, (h0 10 7) ≤ k → k < 6 → ¬ wk_tb (h0 10 8) k = true) (hf : ∀ i, 0 ≤ i → i < (h0 10 7) → h0 13 i = 1 ∨ h0 13 i = -1) (hq : ∀ left h, st_I h0 (h0 10 7) left h → Q none h) : ∀ (f : Nat) (i left : Int) (h : ab_H), 0 ≤ i → i ≤ (h0 10 7) → (h0 10 7) - i < f → st_I h0 i left h → ∀ x3 x4 x5, Go g (ab_rm 3, 0, 0) m_X5_step Q 16 [some (a_R 10), some (a_I left), some (a_I i), x3, x4, x5] [] h := by
  intro f
  induction f with
  | zero => intro i left h h0i h1 hf; omega
  | succ f ih =>
    intro i left h h0i h1 hfu I x3 x4 x5
    obtain ⟨I0, I1, I2, I3, I4, I5, I6⟩ := id I
    have e7 : h 10 7 = h0 10 7 := I6 7 (by decide)
    have hfc : ∀ i, 0 ≤ i → i < h 10 7 → h 13 i = 1 ∨ h 13 i = -1 := by
      intro k k0 k1
      have hk := hf k k0 (by omega)
      by_cases z : st_dn h0 i k
      · rw [((I2 k k0 (by omega)).1 z).1]
        unfold wk_fcm
        split <;> dsimp only <;> omega
      · rw [((I2 k k0 (by omega)).2 z).1]; exact hk
    refine go_iload_n rfl rfl ?_
    refine go_aload_n rfl rfl ?_
    refine go_getI rfl f_X5_33 rfl rfl rfl ?_ -- men
    refine go_icmp_ge rfl (tgt := 144) (by decide) (fun c21 => ?_) (fun c21 => ?_)
    · exact go_ret rfl rfl (hq left h (by rw [show h0 10 7 = i by omega]; exact I))
    · refine go_iload_n rfl rfl ?_
      refine go_iload_n rfl rfl ?_
      refine go_ishr rfl ?_
      refine go_iconst rfl ?_
      refine go_iand rfl ?_
      rw [wk_bit (by omega) (by omega)]
      refine go_if_ne rfl (tgt := 35) (by decide) (fun c29 => ?_) (fun c29 => ?_)
      · have tl : wk_tb left i = true := Classical.byContradiction fun q => c29 (if_neg q)
        have sh := wk_shl (j := i) (by omega)
        refine go_iconst rfl ?_
        refine go_iload_n rfl rfl ?_
        refine go_ishl rfl ?_
        refine go_istore_n rfl (by decide) rfl ?_
        refine go_iconst rfl ?_
        refine go_istore rfl (by decide) rfl ?_
        refine go_iload_n rfl rfl ?_
        refine go_iconst rfl ?_
        refine go_iadd rfl (by unfold ab_iok; omega) ?_
        refine go_istore rfl (by decide) rfl ?_
        refine lp_X5_stepIn (h0 := h0) hm ⟨h0i, by omega⟩ I0 e7 (I5 11 (by decide)) (I5 12 (by decide)) (fun gr fr A j => ?_) 8 (i + 1) _ _ (by omega) (by omega) (by omega) ⟨⟨sh.1, sh.2.1⟩, fun k k0 k1 => ?_, (rd_f (by rintro ⟨k, a, b, c⟩; omega)).symm⟩
        · obtain ⟨g0, g1⟩ := in_gr hm ⟨h0i, by omega⟩ I1 tl A
          refine go_iload_n rfl rfl ?_
          refine go_iload_n rfl rfl ?_
          refine go_iconst rfl ?_
          refine go_ixor rfl ?_
          refine go_iand rfl ?_
          refine go_istore_n rfl (by decide) rfl ?_
          refine go_iload rfl rfl ?_
          refine go_if_eq rfl (tgt := 138) (by decide) (fun c130 => ?_) (fun c130 => ?_)
          · refine go_iinc rfl rfl (by decide) rfl (by unfold ab_iok; omega) ?_
            refine go_goto rfl (tgt := 16) (by decide) ?_
            exact ih (i + 1) (ab_iand left (ab_ixor gr (-1))) h (by omega) (by omega) (by omega) (st_none hm hb ⟨h0i, by omega⟩ I tl g0 (rd_n0 (by rw [← g1]; exact c130))) _ _ _
          · refine go_aload_n rfl rfl ?_
            refine go_iload_n rfl rfl ?_
            refine go_cV1V (M' := m_X5_meet) rfl l_X5_84 k_X5_meet (s_X5_meet (by omega) g0.1 (fun k k0 k1 z => hb k (by omega) k1 ((g0.2 k (by omega) k1).mp z).2.2.1) hfc I3) rfl rfl rfl rfl (by decide) (Nat.le_of_ble_eq_true rfl) (fun h135 q135 => ?_) -- X5_meet
            refine go_iinc rfl rfl (by decide) rfl (by unfold ab_iok; omega) ?_
            refine go_goto rfl (tgt := 16) (by decide) ?_
            exact ih (i + 1) (ab_iand left (ab_ixor gr (-1))) h135 (by omega) (by omega) (by omega) (st_meet hm hb ⟨h0i, by omega⟩ I tl g0 (rd_n1 (by rw [← g1]; exact c130)) q135) _ _ _
        · rw [sh.2.2 k k0 k1, decide_eq_true_eq]
          exact ⟨fun z => Or.inl z, fun z => z.elim id (fun y => by omega)⟩
      · refine go_goto rfl (tgt := 138) (by decide) ?_
        refine go_iinc rfl rfl (by decide) rfl (by unfold ab_iok; omega) ?_
        refine go_goto rfl (tgt := 16) (by decide) ?_
        exact ih (i + 1) left h (by omega) (by omega) (by omega) (st_skip I (by omega) (fun q => by rw [if_pos q] at c29; omega)) _ _ _
