/-! the reference walks -/
abbrev md_row (h : ab_H) (t : Int) : wk_S := (fun i => h 75 (6 * t + i), fun i => h 76 (6 * t + i), fun i => h 77 (6 * t + i))
def md_a (h : ab_H) : Int → Int := fun j => 2 * h 70 j
def md_b (h : ab_H) : Int → Int := fun j => 2 * h 73 j
def md_c (h : ab_H) : Int → Int := fun j => 2 * (h 73 j + h 74 j)
/-- men, length, minutes in their bounds -/
def mr_in (h : ab_H) : Prop := (0 ≤ h 62 9 ∧ h 62 9 ≤ 6) ∧ (1 ≤ h 62 8 ∧ h 62 8 ≤ 40) ∧ (∀ i, 0 ≤ i → i < h 62 9 → (0 ≤ h 68 i ∧ h 68 i ≤ h 62 8) ∧ (h 69 i = 1 ∨ h 69 i = -1) ∧ (0 ≤ h 70 i ∧ h 70 i ≤ 40)) ∧ (∀ i, 0 ≤ i → i < 6 → (0 ≤ h 73 i ∧ h 73 i ≤ 99) ∧ (0 ≤ h 74 i ∧ h 74 i ≤ 99))
/-- a row of places on the road, directions up or down -/
def md_ok (h : ab_H) (t : Int) : Prop := ∀ i, 0 ≤ i → i < h 62 9 → (0 ≤ h 75 (6 * t + i) ∧ h 75 (6 * t + i) ≤ 2 * h 62 8) ∧ (h 76 (6 * t + i) = 1 ∨ h 76 (6 * t + i) = -1)
set_option maxHeartbeats 4000000 in
set_option maxRecDepth 100000 in
theorem s_X7_isThere {g : ab_G} {h : ab_H} {i : Int} (hi : 0 ≤ i ∧ i < 6) (hw : 0 ≤ h 62 18 ∧ h 62 18 < 64) : MethI g 1 m_X7_isThere [a_R 62, a_I i] h (fun z h' => h = h' ∧ z = rd_bool (wk_tb (h 62 18) i = true)) := by
  refine Meth.of_go k_X7_isThere (Nat.le_of_ble_eq_true rfl) ?_
  show Go g _ m_X7_isThere _ 0 [some (a_R 62), some (a_I i)] [] h
  refine go_aload_n rfl rfl ?_
  refine go_getI rfl f_X7_156 rfl rfl rfl ?_ -- there
  refine go_iload_n rfl rfl ?_
  refine go_ishr rfl ?_
  refine go_iconst rfl ?_
  refine go_iand rfl ?_
  rw [wk_bit hw hi]
  refine go_iconst rfl ?_
  refine go_icmp_ne rfl (tgt := 16) (by decide) (fun c9 => ?_) (fun c9 => ?_)
  · refine go_iconst rfl ?_
    exact go_iret rfl (Or.inr ⟨rfl, by omega⟩) ⟨_, rfl, rfl, (rd_f (fun q => c9 (if_pos q))).symm⟩
  · refine go_iconst rfl ?_
    refine go_goto rfl (tgt := 17) (by decide) ?_
    exact go_iret rfl (Or.inr ⟨rfl, by omega⟩) ⟨_, rfl, rfl, (rd_t (Classical.byContradiction fun q => by rw [if_neg q] at c9; omega)).symm⟩
set_option maxHeartbeats 4000000 in
set_option maxRecDepth 100000 in
theorem s_X7_stands {g : ab_G} {h : ab_H} {i t : Int} (hi : 0 ≤ i ∧ i < h 62 9) (hr : mr_in h) : MethI g 1 m_X7_stands [a_R 62, a_I i, a_I t] h (fun z h' => h = h' ∧ z = rd_bool (wk_std (md_a h) (md_b h) (md_c h) i t)) := by
  refine Meth.of_go k_X7_stands (Nat.le_of_ble_eq_true rfl) ?_
  show Go g _ m_X7_stands _ 0 [some (a_R 62), some (a_I i), some (a_I t)] [] h
  have r1 := hr.1
  have r3 := (hr.2.2.1 i hi.1 hi.2).2.2
  have r4 := hr.2.2.2 i hi.1 (by omega)
  refine go_iload_n rfl rfl ?_
  refine go_iconst rfl ?_
  refine go_aload_n rfl rfl ?_
  refine go_getR rfl f_X7_31 rfl rfl ?_ -- sets
  refine go_iload_n rfl rfl ?_
  refine go_iald rfl rfl (by omega) (by omega) ?_
  refine go_imul rfl (by unfold ab_iok; omega) ?_
  refine go_icmp_lt rfl (tgt := 43) (by decide) (fun c9 => ?_) (fun c9 => ?_)
  · refine go_iconst rfl ?_
    refine go_goto rfl (tgt := 48) (by decide) ?_
    exact go_iret rfl (Or.inr ⟨rfl, by omega⟩) ⟨_, rfl, rfl, (rd_t (Or.inl c9)).symm⟩
  · refine go_iload_n rfl rfl ?_
    refine go_iconst rfl ?_
    refine go_aload_n rfl rfl ?_
    refine go_getR rfl f_X7_40 rfl rfl ?_ -- standFrom
    refine go_iload_n rfl rfl ?_
    refine go_iald rfl rfl (by omega) (by omega) ?_
    refine go_imul rfl (by unfold ab_iok; omega) ?_
    refine go_icmp_lt rfl (tgt := 47) (by decide) (fun c21 => ?_) (fun c21 => ?_)
    · refine go_iconst rfl ?_
      exact go_iret rfl (Or.inr ⟨rfl, by omega⟩) ⟨_, rfl, rfl, (rd_f (by rintro (q | q); exact c9 q; have := q.1; unfold md_b at this; omega)).symm⟩
    · refine go_iload_n rfl rfl ?_
      refine go_iconst rfl ?_
      refine go_aload_n rfl rfl ?_
      refine go_getR rfl f_X7_40 rfl rfl ?_ -- standFrom
      refine go_iload_n rfl rfl ?_
      refine go_iald rfl rfl (by omega) (by omega) ?_
      refine go_aload_n rfl rfl ?_
      refine go_getR rfl f_X7_43 rfl rfl ?_ -- standMany
      refine go_iload_n rfl rfl ?_
      refine go_iald rfl rfl (by omega) (by omega) ?_
      refine go_iadd rfl (by unfold ab_iok; omega) ?_
      refine go_imul rfl (by unfold ab_iok; omega) ?_
      refine go_icmp_ge rfl (tgt := 47) (by decide) (fun c40 => ?_) (fun c40 => ?_)
      · refine go_iconst rfl ?_
        exact go_iret rfl (Or.inr ⟨rfl, by omega⟩) ⟨_, rfl, rfl, (rd_f (by rintro (q | q); exact c9 q; have := q.2; unfold md_c at this; omega)).symm⟩
      · refine go_iconst rfl ?_
        refine go_goto rfl (tgt := 48) (by decide) ?_
        exact go_iret rfl (Or.inr ⟨rfl, by omega⟩) ⟨_, rfl, rfl, (rd_t (Or.inr ⟨show 2 * h 73 i ≤ t by omega, show t < 2 * (h 73 i + h 74 i) by omega⟩)).symm⟩
set_option maxHeartbeats 4000000 in
set_option maxRecDepth 100000 in
theorem s_X7_areTogether {g : ab_G} {h : ab_H} {i j t : Int} (hi : 0 ≤ i ∧ i < 6) (hj : 0 ≤ j ∧ j < 6) (ht : -1 ≤ t ∧ t ≤ 400) : MethI g 1 m_X7_areTogether [a_R 62, a_I i, a_I j, a_I t] h (fun z h' => h = h' ∧ z = rd_bool (0 ≤ t ∧ h 75 (6 * t + i) = h 75 (6 * t + j))) := by
  refine Meth.of_go k_X7_areTogether (Nat.le_of_ble_eq_true rfl) ?_
  show Go g _ m_X7_areTogether _ 0 [some (a_R 62), some (a_I i), some (a_I j), some (a_I t)] [] h
  refine go_iload_n rfl rfl ?_
  refine go_if_lt rfl (tgt := 33) (by decide) (fun c1 => ?_) (fun c1 => ?_)
  · refine go_iconst rfl ?_
    exact go_iret rfl (Or.inr ⟨rfl, by omega⟩) ⟨_, rfl, rfl, (rd_f (fun q => by omega)).symm⟩
  · refine go_aload_n rfl rfl ?_
    refine go_getR rfl f_X7_46 rfl rfl ?_ -- places
    refine go_bipush rfl ?_
    refine go_iload_n rfl rfl ?_
    refine go_imul rfl (by unfold ab_iok; omega) ?_
    refine go_iload_n rfl rfl ?_
    refine go_iadd rfl (by unfold ab_iok; omega) ?_
    refine go_iald rfl rfl (by omega) (by omega) ?_
    refine go_aload_n rfl rfl ?_
    refine go_getR rfl f_X7_46 rfl rfl ?_ -- places
    refine go_bipush rfl ?_
    refine go_iload_n rfl rfl ?_
    refine go_imul rfl (by unfold ab_iok; omega) ?_
    refine go_iload_n rfl rfl ?_
    refine go_iadd rfl (by unfold ab_iok; omega) ?_
    refine go_iald rfl rfl (by omega) (by omega) ?_
    refine go_icmp_ne rfl (tgt := 33) (by decide) (fun c26 => ?_) (fun c26 => ?_)
    · refine go_iconst rfl ?_
      exact go_iret rfl (Or.inr ⟨rfl, by omega⟩) ⟨_, rfl, rfl, (rd_f (fun q => c26 q.2)).symm⟩
    · refine go_iconst rfl ?_
      refine go_goto rfl (tgt := 34) (by decide) ?_
      exact go_iret rfl (Or.inr ⟨rfl, by omega⟩) ⟨_, rfl, rfl, (rd_t ⟨by omega, c26⟩).symm⟩
set_option maxHeartbeats 4000000 in
set_option maxRecDepth 100000 in
theorem s_X7_turns {g : ab_G} {h : ab_H} {i t : Int} (hi : 0 ≤ i ∧ i < 6) (ht : 0 ≤ t ∧ t ≤ 400) (hf : h 76 (6 * t + i) = 1 ∨ h 76 (6 * t + i) = -1) : MethV g 1 m_X7_turns [a_R 62, a_I i, a_I t] h (fun h' => h' = ab_hs h 76 (6 * t + i) (-h 76 (6 * t + i))) := by
  refine Meth.of_go k_X7_turns (Nat.le_of_ble_eq_true rfl) ?_
  show Go g _ m_X7_turns _ 0 [some (a_R 62), some (a_I i), some (a_I t)] [] h
  refine go_aload_n rfl rfl ?_
  refine go_getR rfl f_X7_49 rfl rfl ?_ -- facing
  refine go_bipush rfl ?_
  refine go_iload_n rfl rfl ?_
  refine go_imul rfl (by unfold ab_iok; omega) ?_
  refine go_iload_n rfl rfl ?_
  refine go_iadd rfl (by unfold ab_iok; omega) ?_
  refine go_aload_n rfl rfl ?_
  refine go_getR rfl f_X7_49 rfl rfl ?_ -- facing
  refine go_bipush rfl ?_
  refine go_iload_n rfl rfl ?_
  refine go_imul rfl (by unfold ab_iok; omega) ?_
  refine go_iload_n rfl rfl ?_
  refine go_iadd rfl (by unfold ab_iok; omega) ?_
  refine go_iald rfl rfl (by omega) (by omega) ?_
  refine go_ineg rfl (by unfold ab_iok; omega) ?_
  refine go_iast rfl rfl (by omega) (by omega) ?_
  exact go_ret rfl rfl ⟨rfl, rfl⟩
/-- one man goes on, there or not -/
def mg_f (h : ab_H) (i t : Int) : Int := if wk_std (md_a h) (md_b h) (md_c h) i (t - 1) then h 76 (6 * t + i - 6) else wk_fc (2 * h 62 8) (h 75 (6 * t + i - 6)) (h 76 (6 * t + i - 6))
def mg_p (h : ab_H) (i t : Int) : Int := if wk_std (md_a h) (md_b h) (md_c h) i (t - 1) then h 75 (6 * t + i - 6) else h 75 (6 * t + i - 6) + wk_fc (2 * h 62 8) (h 75 (6 * t + i - 6)) (h 76 (6 * t + i - 6))
def mg_Post (h : ab_H) (i t : Int) (h' : ab_H) : Prop := h' 75 (6 * t + i) = mg_p h i t ∧ h' 76 (6 * t + i) = mg_f h i t ∧ h' 77 (6 * t + i) = h 77 (6 * t + i - 6) ∧ ∀ k b, ¬ ((k = 75 ∨ k = 76 ∨ k = 77) ∧ b = 6 * t + i) → h' k b = h k b
set_option maxHeartbeats 4000000 in
set_option maxRecDepth 100000 in
theorem s_X7_goes {g : ab_G} {h : ab_H} {i t : Int} (hi : 0 ≤ i ∧ i < h 62 9) (ht : 1 ≤ t ∧ t ≤ 400) (hr : mr_in h) (ho : md_ok h (t - 1)) : MethV g 2 m_X7_goes [a_R 62, a_I i, a_I t] h (fun h' => mg_Post h i t h') := by
  refine Meth.of_go k_X7_goes (Nat.le_of_ble_eq_true rfl) ?_
  show Go g _ m_X7_goes _ 0 [some (a_R 62), some (a_I i), some (a_I t), none, none] [] h
  have r1 := hr.1
  have r2 := hr.2.1
  have o1 := ho i hi.1 hi.2
  rw [show 6 * (t - 1) + i = 6 * t + i - 6 by omega] at o1
  refine go_bipush rfl ?_
  refine go_iload_n rfl rfl ?_
  refine go_imul rfl (by unfold ab_iok; omega) ?_
  refine go_iload_n rfl rfl ?_
  refine go_iadd rfl (by unfold ab_iok; omega) ?_
  refine go_istore_n rfl (by decide) rfl ?_
  refine go_aload_n rfl rfl ?_
  refine go_getR rfl f_X7_46 rfl rfl ?_ -- places
  refine go_iload_n rfl rfl ?_
  refine go_aload_n rfl rfl ?_
  refine go_getR rfl f_X7_46 rfl rfl ?_ -- places
  refine go_iload_n rfl rfl ?_
  refine go_bipush rfl ?_
  refine go_isub rfl (by unfold ab_iok; omega) ?_
  refine go_iald rfl rfl (by omega) (by omega) ?_
  refine go_iast rfl rfl (by omega) (by omega) ?_
  refine go_aload_n rfl rfl ?_
  refine go_getR rfl f_X7_49 rfl rfl ?_ -- facing
  refine go_iload_n rfl rfl ?_
  refine go_aload_n rfl rfl ?_
  refine go_getR rfl f_X7_49 rfl rfl ?_ -- facing
  refine go_iload_n rfl rfl ?_
  refine go_bipush rfl ?_
  refine go_isub rfl (by unfold ab_iok; omega) ?_
  refine go_iald rfl rfl (by omega) (by omega) ?_
  rw [ab_hs_f (by decide)]
  refine go_iast rfl rfl (by omega) (by omega) ?_
  refine go_aload_n rfl rfl ?_
  refine go_getR rfl f_X7_52 rfl rfl ?_ -- bags
  refine go_iload_n rfl rfl ?_
  refine go_aload_n rfl rfl ?_
  refine go_getR rfl f_X7_52 rfl rfl ?_ -- bags
  refine go_iload_n rfl rfl ?_
  refine go_bipush rfl ?_
  refine go_isub rfl (by unfold ab_iok; omega) ?_
  refine go_iald rfl rfl (by omega) (by omega) ?_
  rw [ab_hs_f (by decide), ab_hs_f (by decide)]
  refine go_iast rfl rfl (by omega) (by omega) ?_
  refine go_aload_n rfl rfl ?_
  refine go_iload_n rfl rfl ?_
  refine go_iload_n rfl rfl ?_
  refine go_iconst rfl ?_
  refine go_isub rfl (by unfold ab_iok; omega) ?_
  refine go_cV2I (M' := m_X7_stands) rfl l_X7_159 k_X7_stands (s_X7_stands (h := ab_hs (ab_hs (ab_hs h 75 (6 * t + i) (h 75 (6 * t + i - 6))) 76 (6 * t + i) (h 76 (6 * t + i - 6))) 77 (6 * t + i) (h 77 (6 * t + i - 6))) (by simp only [ab_hs_f, ne_eq, Nat.reduceEqDiff, not_false_eq_true]; exact hi) (by unfold mr_in; simp only [ab_hs_f, ne_eq, Nat.reduceEqDiff, not_false_eq_true]; exact hr)) rfl rfl rfl rfl (by decide) (Nat.le_of_ble_eq_true rfl) (fun z57 h57 q57 => ?_) -- X7_stands
  have eS : wk_std (md_a (ab_hs (ab_hs (ab_hs h 75 (6 * t + i) (h 75 (6 * t + i - 6))) 76 (6 * t + i) (h 76 (6 * t + i - 6))) 77 (6 * t + i) (h 77 (6 * t + i - 6)))) (md_b (ab_hs (ab_hs (ab_hs h 75 (6 * t + i) (h 75 (6 * t + i - 6))) 76 (6 * t + i) (h 76 (6 * t + i - 6))) 77 (6 * t + i) (h 77 (6 * t + i - 6)))) (md_c (ab_hs (ab_hs (ab_hs h 75 (6 * t + i) (h 75 (6 * t + i - 6))) 76 (6 * t + i) (h 76 (6 * t + i - 6))) 77 (6 * t + i) (h 77 (6 * t + i - 6)))) i (t - 1) ↔ wk_std (md_a h) (md_b h) (md_c h) i (t - 1) := by unfold md_a md_b md_c; simp only [ab_hs_f, ne_eq, Nat.reduceEqDiff, not_false_eq_true]
  rw [rd_iff eS] at q57
  obtain ⟨rfl, rfl⟩ := q57
  refine go_if_ne rfl (tgt := 154) (by decide) (fun c60 => ?_) (fun c60 => ?_)
  · exact go_ret rfl rfl ⟨rfl, ⟨by rw [ab_hs_f (by decide), ab_hs_f (by decide), ab_hs_eq]; exact (if_pos (rd_n1 c60)).symm, by rw [ab_hs_f (by decide), ab_hs_eq]; exact (if_pos (rd_n1 c60)).symm, by rw [ab_hs_eq], fun k b hk => by rw [ ab_hs_ne (by omega), ab_hs_ne (by omega), ab_hs_ne (by omega)]⟩⟩
  · refine go_aload_n rfl rfl ?_
    refine go_getR rfl f_X7_49 rfl rfl ?_ -- facing
    refine go_iload_n rfl rfl ?_
    refine go_iald rfl rfl (by omega) (by omega) ?_
    simp only [ab_hs_f, ab_hs_eq, ne_eq, not_false_eq_true, Nat.reduceEqDiff, Int.reduceEq, reduceCtorEq]
    refine go_iconst rfl ?_
    refine go_icmp_ne rfl (tgt := 96) (by decide) (fun c70 => ?_) (fun c70 => ?_)
    · refine go_aload_n rfl rfl ?_
      refine go_getR rfl f_X7_46 rfl rfl ?_ -- places
      refine go_iload_n rfl rfl ?_
      refine go_iald rfl rfl (by omega) (by omega) ?_
      simp only [ab_hs_f, ab_hs_eq, ne_eq, not_false_eq_true, Nat.reduceEqDiff, Int.reduceEq, reduceCtorEq]
      refine go_if_ne rfl (tgt := 109) (by decide) (fun c102 => ?_) (fun c102 => ?_)
      · refine go_iconst rfl ?_
        refine go_istore rfl (by decide) rfl ?_
        have fcv : wk_fc (2 * h 62 8) (h 75 (6 * t + i - 6)) (h 76 (6 * t + i - 6)) = h 76 (6 * t + i - 6) := by unfold wk_fc; rw [if_neg (by omega)]
        refine go_aload_n rfl rfl ?_
        refine go_getR rfl f_X7_49 rfl rfl ?_ -- facing
        refine go_iload_n rfl rfl ?_
        refine go_iload rfl rfl ?_
        refine go_if_eq rfl (tgt := 132) (by decide) (fun c119 => ?_) (fun c119 => ?_)
        · refine go_aload_n rfl rfl ?_
          refine go_getR rfl f_X7_49 rfl rfl ?_ -- facing
          refine go_iload_n rfl rfl ?_
          refine go_iald rfl rfl (by omega) (by omega) ?_
          simp only [ab_hs_f, ab_hs_eq, ne_eq, not_false_eq_true, Nat.reduceEqDiff, Int.reduceEq, reduceCtorEq]
          refine go_iast rfl rfl (by omega) (by omega) ?_
          refine go_aload_n rfl rfl ?_
          refine go_getR rfl f_X7_46 rfl rfl ?_ -- places
          refine go_iload_n rfl rfl ?_
          refine go_dup2 rfl ?_
          refine go_iald rfl rfl (by omega) (by omega) ?_
          simp only [ab_hs_f, ab_hs_eq, ne_eq, not_false_eq_true, Nat.reduceEqDiff, Int.reduceEq, reduceCtorEq]
          refine go_aload_n rfl rfl ?_
          refine go_getR rfl f_X7_49 rfl rfl ?_ -- facing
          refine go_iload_n rfl rfl ?_
          refine go_iald rfl rfl (by omega) (by omega) ?_
          simp only [ab_hs_f, ab_hs_eq, ne_eq, not_false_eq_true, Nat.reduceEqDiff, Int.reduceEq, reduceCtorEq]
          refine go_iadd rfl (by unfold ab_iok; omega) ?_
          refine go_iast rfl rfl (by omega) (by omega) ?_
          exact go_ret rfl rfl ⟨rfl, ⟨by rw [ab_hs_eq]; unfold mg_p; rw [if_neg (rd_n0 c60), fcv], by rw [ab_hs_f (by decide), ab_hs_eq]; unfold mg_f; rw [if_neg (rd_n0 c60), fcv], by rw [ab_hs_f (by decide), ab_hs_f (by decide), ab_hs_eq], fun k b hk => by rw [ab_hs_ne (by omega), ab_hs_ne (by omega), ab_hs_ne (by omega), ab_hs_ne (by omega), ab_hs_ne (by omega)]⟩⟩
        · exact absurd rfl c119
      · refine go_iconst rfl ?_
        refine go_goto rfl (tgt := 110) (by decide) ?_
        refine go_istore rfl (by decide) rfl ?_
        have fcv : wk_fc (2 * h 62 8) (h 75 (6 * t + i - 6)) (h 76 (6 * t + i - 6)) = -h 76 (6 * t + i - 6) := by unfold wk_fc; rw [if_pos (by omega)]
        refine go_aload_n rfl rfl ?_
        refine go_getR rfl f_X7_49 rfl rfl ?_ -- facing
        refine go_iload_n rfl rfl ?_
        refine go_iload rfl rfl ?_
        refine go_if_eq rfl (tgt := 132) (by decide) (fun c119 => ?_) (fun c119 => ?_)
        · exact absurd c119 (by decide)
        · refine go_aload_n rfl rfl ?_
          refine go_getR rfl f_X7_49 rfl rfl ?_ -- facing
          refine go_iload_n rfl rfl ?_
          refine go_iald rfl rfl (by omega) (by omega) ?_
          simp only [ab_hs_f, ab_hs_eq, ne_eq, not_false_eq_true, Nat.reduceEqDiff, Int.reduceEq, reduceCtorEq]
          refine go_ineg rfl (by unfold ab_iok; omega) ?_
          refine go_goto rfl (tgt := 138) (by decide) ?_
          refine go_iast rfl rfl (by omega) (by omega) ?_
          refine go_aload_n rfl rfl ?_
          refine go_getR rfl f_X7_46 rfl rfl ?_ -- places
          refine go_iload_n rfl rfl ?_
          refine go_dup2 rfl ?_
          refine go_iald rfl rfl (by omega) (by omega) ?_
          simp only [ab_hs_f, ab_hs_eq, ne_eq, not_false_eq_true, Nat.reduceEqDiff, Int.reduceEq, reduceCtorEq]
          refine go_aload_n rfl rfl ?_
          refine go_getR rfl f_X7_49 rfl rfl ?_ -- facing
          refine go_iload_n rfl rfl ?_
          refine go_iald rfl rfl (by omega) (by omega) ?_
          simp only [ab_hs_f, ab_hs_eq, ne_eq, not_false_eq_true, Nat.reduceEqDiff, Int.reduceEq, reduceCtorEq]
          refine go_iadd rfl (by unfold ab_iok; omega) ?_
          refine go_iast rfl rfl (by omega) (by omega) ?_
          exact go_ret rfl rfl ⟨rfl, ⟨by rw [ab_hs_eq]; unfold mg_p; rw [if_neg (rd_n0 c60), fcv], by rw [ab_hs_f (by decide), ab_hs_eq]; unfold mg_f; rw [if_neg (rd_n0 c60), fcv], by rw [ab_hs_f (by decide), ab_hs_f (by decide), ab_hs_eq], fun k b hk => by rw [ab_hs_ne (by omega), ab_hs_ne (by omega), ab_hs_ne (by omega), ab_hs_ne (by omega), ab_hs_ne (by omega)]⟩⟩
    · refine go_aload_n rfl rfl ?_
      refine go_getR rfl f_X7_46 rfl rfl ?_ -- places
      refine go_iload_n rfl rfl ?_
      refine go_iald rfl rfl (by omega) (by omega) ?_
      simp only [ab_hs_f, ab_hs_eq, ne_eq, not_false_eq_true, Nat.reduceEqDiff, Int.reduceEq, reduceCtorEq]
      refine go_iconst rfl ?_
      refine go_aload_n rfl rfl ?_
      refine go_getI rfl f_X7_107 rfl rfl rfl ?_ -- length
      simp only [ab_hs_f, ab_hs_eq, ne_eq, not_false_eq_true, Nat.reduceEqDiff, Int.reduceEq, reduceCtorEq]
      refine go_imul rfl (by unfold ab_iok; omega) ?_
      refine go_icmp_ne rfl (tgt := 92) (by decide) (fun c85 => ?_) (fun c85 => ?_)
      · refine go_iconst rfl ?_
        refine go_goto rfl (tgt := 110) (by decide) ?_
        refine go_istore rfl (by decide) rfl ?_
        have fcv : wk_fc (2 * h 62 8) (h 75 (6 * t + i - 6)) (h 76 (6 * t + i - 6)) = h 76 (6 * t + i - 6) := by unfold wk_fc; rw [if_neg (by omega)]
        refine go_aload_n rfl rfl ?_
        refine go_getR rfl f_X7_49 rfl rfl ?_ -- facing
        refine go_iload_n rfl rfl ?_
        refine go_iload rfl rfl ?_
        refine go_if_eq rfl (tgt := 132) (by decide) (fun c119 => ?_) (fun c119 => ?_)
        · refine go_aload_n rfl rfl ?_
          refine go_getR rfl f_X7_49 rfl rfl ?_ -- facing
          refine go_iload_n rfl rfl ?_
          refine go_iald rfl rfl (by omega) (by omega) ?_
          simp only [ab_hs_f, ab_hs_eq, ne_eq, not_false_eq_true, Nat.reduceEqDiff, Int.reduceEq, reduceCtorEq]
          refine go_iast rfl rfl (by omega) (by omega) ?_
          refine go_aload_n rfl rfl ?_
          refine go_getR rfl f_X7_46 rfl rfl ?_ -- places
          refine go_iload_n rfl rfl ?_
          refine go_dup2 rfl ?_
          refine go_iald rfl rfl (by omega) (by omega) ?_
          simp only [ab_hs_f, ab_hs_eq, ne_eq, not_false_eq_true, Nat.reduceEqDiff, Int.reduceEq, reduceCtorEq]
          refine go_aload_n rfl rfl ?_
          refine go_getR rfl f_X7_49 rfl rfl ?_ -- facing
          refine go_iload_n rfl rfl ?_
          refine go_iald rfl rfl (by omega) (by omega) ?_
          simp only [ab_hs_f, ab_hs_eq, ne_eq, not_false_eq_true, Nat.reduceEqDiff, Int.reduceEq, reduceCtorEq]
          refine go_iadd rfl (by unfold ab_iok; omega) ?_
          refine go_iast rfl rfl (by omega) (by omega) ?_
          exact go_ret rfl rfl ⟨rfl, ⟨by rw [ab_hs_eq]; unfold mg_p; rw [if_neg (rd_n0 c60), fcv], by rw [ab_hs_f (by decide), ab_hs_eq]; unfold mg_f; rw [if_neg (rd_n0 c60), fcv], by rw [ab_hs_f (by decide), ab_hs_f (by decide), ab_hs_eq], fun k b hk => by rw [ab_hs_ne (by omega), ab_hs_ne (by omega), ab_hs_ne (by omega), ab_hs_ne (by omega), ab_hs_ne (by omega)]⟩⟩
        · exact absurd rfl c119
      · refine go_iconst rfl ?_
        refine go_goto rfl (tgt := 110) (by decide) ?_
        refine go_istore rfl (by decide) rfl ?_
        have fcv : wk_fc (2 * h 62 8) (h 75 (6 * t + i - 6)) (h 76 (6 * t + i - 6)) = -h 76 (6 * t + i - 6) := by unfold wk_fc; rw [if_pos (by omega)]
        refine go_aload_n rfl rfl ?_
        refine go_getR rfl f_X7_49 rfl rfl ?_ -- facing
        refine go_iload_n rfl rfl ?_
        refine go_iload rfl rfl ?_
        refine go_if_eq rfl (tgt := 132) (by decide) (fun c119 => ?_) (fun c119 => ?_)
        · exact absurd c119 (by decide)
        · refine go_aload_n rfl rfl ?_
          refine go_getR rfl f_X7_49 rfl rfl ?_ -- facing
          refine go_iload_n rfl rfl ?_
          refine go_iald rfl rfl (by omega) (by omega) ?_
          simp only [ab_hs_f, ab_hs_eq, ne_eq, not_false_eq_true, Nat.reduceEqDiff, Int.reduceEq, reduceCtorEq]
          refine go_ineg rfl (by unfold ab_iok; omega) ?_
          refine go_goto rfl (tgt := 138) (by decide) ?_
          refine go_iast rfl rfl (by omega) (by omega) ?_
          refine go_aload_n rfl rfl ?_
          refine go_getR rfl f_X7_46 rfl rfl ?_ -- places
          refine go_iload_n rfl rfl ?_
          refine go_dup2 rfl ?_
          refine go_iald rfl rfl (by omega) (by omega) ?_
          simp only [ab_hs_f, ab_hs_eq, ne_eq, not_false_eq_true, Nat.reduceEqDiff, Int.reduceEq, reduceCtorEq]
          refine go_aload_n rfl rfl ?_
          refine go_getR rfl f_X7_49 rfl rfl ?_ -- facing
          refine go_iload_n rfl rfl ?_
          refine go_iald rfl rfl (by omega) (by omega) ?_
          simp only [ab_hs_f, ab_hs_eq, ne_eq, not_false_eq_true, Nat.reduceEqDiff, Int.reduceEq, reduceCtorEq]
          refine go_iadd rfl (by unfold ab_iok; omega) ?_
          refine go_iast rfl rfl (by omega) (by omega) ?_
          exact go_ret rfl rfl ⟨rfl, ⟨by rw [ab_hs_eq]; unfold mg_p; rw [if_neg (rd_n0 c60), fcv], by rw [ab_hs_f (by decide), ab_hs_eq]; unfold mg_f; rw [if_neg (rd_n0 c60), fcv], by rw [ab_hs_f (by decide), ab_hs_f (by decide), ab_hs_eq], fun k b hk => by rw [ab_hs_ne (by omega), ab_hs_ne (by omega), ab_hs_ne (by omega), ab_hs_ne (by omega), ab_hs_ne (by omega)]⟩⟩
