set_option maxHeartbeats 4000000 in
set_option maxRecDepth 100000 in
theorem s_X7_isService {g : ab_G} {h : ab_H} {v w : Int}  : MethI g 2 m_X7_isService [a_I v, a_I w] h (fun z h' => h = h' ∧ z = rd_bool (1 ≤ v ∧ v ≤ 200 ∧ 1 ≤ w ∧ w ≤ 99)) := by
  refine Meth.of_go k_X7_isService (Nat.le_of_ble_eq_true rfl) ?_
  show Go g _ m_X7_isService _ 0 [some (a_I v), some (a_I w)] [] h
  refine go_iload_n rfl rfl ?_
  refine go_i2l rfl ?_
  refine go_lconst rfl ?_
  refine go_ldc2 rfl (z := 200) c_X7_250 ?_
  refine go_cS3I (M' := m_X7_in) rfl l_X7_68 k_X7_in (s_X7_in) rfl (by decide) (Nat.le_of_ble_eq_true rfl) (fun z6 h6 q6 => ?_) -- X7_in
  obtain ⟨rfl, rfl⟩ := q6
  refine go_if_eq rfl (tgt := 28) (by decide) (fun c9 => ?_) (fun c9 => ?_)
  · refine go_iconst rfl ?_
    exact go_iret rfl (Or.inr ⟨rfl, by omega⟩) ⟨_, rfl, rfl, (rd_f (fun q => rd_n0 c9 ⟨q.1, q.2.1⟩)).symm⟩
  · refine go_iload_n rfl rfl ?_
    refine go_i2l rfl ?_
    refine go_lconst rfl ?_
    refine go_ldc2 rfl (z := 99) c_X7_154 ?_
    refine go_cS3I (M' := m_X7_in) rfl l_X7_68 k_X7_in (s_X7_in) rfl (by decide) (Nat.le_of_ble_eq_true rfl) (fun z18 h18 q18 => ?_) -- X7_in
    obtain ⟨rfl, rfl⟩ := q18
    refine go_if_eq rfl (tgt := 28) (by decide) (fun c21 => ?_) (fun c21 => ?_)
    · refine go_iconst rfl ?_
      exact go_iret rfl (Or.inr ⟨rfl, by omega⟩) ⟨_, rfl, rfl, (rd_f (fun q => rd_n0 c21 ⟨q.2.2.1, q.2.2.2⟩)).symm⟩
    · refine go_iconst rfl ?_
      refine go_goto rfl (tgt := 29) (by decide) ?_
      exact go_iret rfl (Or.inr ⟨rfl, by omega⟩) ⟨_, rfl, rfl, (rd_t ⟨(rd_n1 c9).1, (rd_n1 c9).2, (rd_n1 c21).1, (rd_n1 c21).2⟩).symm⟩
theorem md_end {h : ab_H} {w z at1 : Int} {h2 : ab_H} (hw : 0 ≤ w) (e : h2 = ab_hs h 62 7 w) (hz : z = -1) : h2 = ab_hs h 62 7 (if w = -1 then at1 else w) ∧ z = (if w = -1 then rd_num (h 67) (h 62 7) else -1) := by
  rw [if_neg (by omega), if_neg (by omega)]
  exact ⟨e, hz⟩
theorem ab_hs_hs (h : ab_H) (k : Nat) (i v w : Int) : ab_hs (ab_hs h k i v) k i w = ab_hs h k i w := by
  funext a b
  unfold ab_hs
  split <;> rfl
set_option maxHeartbeats 4000000 in
set_option maxRecDepth 100000 in
theorem s_X7_number {g : ab_G} {h : ab_H} {lo hi : Int} (ha : 0 ≤ h 62 7 ∧ h 62 7 ≤ 500) (hn : h 62 6 ≤ 80) : MethI g 2 m_X7_number [a_R 62, a_I lo, a_I hi] h (fun z h' => h' = ab_hs h 62 7 (if rd_wr (h 67) (h 62 6) (h 62 7) lo hi = -1 then h 62 7 + 2 else rd_wr (h 67) (h 62 6) (h 62 7) lo hi) ∧ z = (if rd_wr (h 67) (h 62 6) (h 62 7) lo hi = -1 then rd_num (h 67) (h 62 7) else -1)) := by
  refine Meth.of_go k_X7_number (Nat.le_of_ble_eq_true rfl) ?_
  show Go g _ m_X7_number _ 0 [some (a_R 62), some (a_I lo), some (a_I hi), none, none, none] [] h
  refine go_aload_n rfl rfl ?_
  refine go_getI rfl f_X7_104 rfl rfl rfl ?_ -- at
  refine go_istore_n rfl (by decide) rfl ?_
  refine go_iconst rfl ?_
  refine go_istore rfl (by decide) rfl ?_
  refine go_iconst rfl ?_
  refine go_istore rfl (by decide) rfl ?_
  refine go_iload rfl rfl ?_
  refine go_iconst rfl ?_
  refine go_icmp_ge rfl (tgt := 67) (by decide) (fun c14 => ?_) (fun c14 => ?_)
  · exact absurd c14 (by omega)
  · refine go_aload_n rfl rfl ?_
    refine go_cV0I (M' := m_X7_here) rfl l_X7_116 k_X7_here (s_X7_here (by first | omega | (simp only [ab_hs_f, ab_hs_i, ab_hs_eq, ne_eq, not_false_eq_true, Nat.reduceEqDiff, Int.reduceEq, reduceCtorEq]; omega)) (by first | omega | (simp only [ab_hs_f, ab_hs_i, ab_hs_eq, ne_eq, not_false_eq_true, Nat.reduceEqDiff, Int.reduceEq, reduceCtorEq]; omega))) rfl rfl rfl rfl (by decide) (Nat.le_of_ble_eq_true rfl) (fun z18 h18 q18 => ?_) -- X7_here
    try simp only [ab_hs_f, ab_hs_i, ab_hs_eq, ne_eq, not_false_eq_true, Nat.reduceEqDiff, Int.reduceEq, reduceCtorEq] at q18
    obtain ⟨rfl, rfl⟩ := q18
    refine go_i2l rfl ?_
    refine go_ldc2 rfl (z := 48) c_X7_120 ?_
    refine go_ldc2 rfl (z := 57) c_X7_122 ?_
    refine go_cS3I (M' := m_X7_in) rfl l_X7_68 k_X7_in (s_X7_in) rfl (by decide) (Nat.le_of_ble_eq_true rfl) (fun z28 h28 q28 => ?_) -- X7_in
    obtain ⟨rfl, rfl⟩ := q28
    refine go_if_ne rfl (tgt := 36) (by decide) (fun c31 => ?_) (fun c31 => ?_)
    · have f1 := (md_fig (by omega)).mp (rd_n1 c31)
      refine go_bipush rfl ?_
      refine go_iload rfl rfl ?_
      refine go_imul rfl (by unfold ab_iok; omega) ?_
      refine go_aload_n rfl rfl ?_
      refine go_cV0I (M' := m_X7_here) rfl l_X7_116 k_X7_here (s_X7_here (by first | omega | (simp only [ab_hs_f, ab_hs_i, ab_hs_eq, ne_eq, not_false_eq_true, Nat.reduceEqDiff, Int.reduceEq, reduceCtorEq]; omega)) (by first | omega | (simp only [ab_hs_f, ab_hs_i, ab_hs_eq, ne_eq, not_false_eq_true, Nat.reduceEqDiff, Int.reduceEq, reduceCtorEq]; omega))) rfl rfl rfl rfl (by decide) (Nat.le_of_ble_eq_true rfl) (fun z42 h42 q42 => ?_) -- X7_here
      try simp only [ab_hs_f, ab_hs_i, ab_hs_eq, ne_eq, not_false_eq_true, Nat.reduceEqDiff, Int.reduceEq, reduceCtorEq] at q42
      obtain ⟨rfl, rfl⟩ := q42
      rw [md_val f1]
      refine go_iadd rfl (by unfold ab_iok; omega) ?_
      refine go_bipush rfl ?_
      refine go_isub rfl (by unfold ab_iok; omega) ?_
      refine go_istore rfl (by decide) rfl ?_
      refine go_aload_n rfl rfl ?_
      refine go_dup rfl ?_
      refine go_getI rfl f_X7_104 rfl rfl rfl ?_ -- at
      simp only [ab_hs_f, ab_hs_i, ab_hs_eq, ne_eq, not_false_eq_true, Nat.reduceEqDiff, Int.reduceEq, reduceCtorEq]
      refine go_iconst rfl ?_
      refine go_iadd rfl (by unfold ab_iok; omega) ?_
      refine go_putI rfl f_X7_104 rfl rfl rfl ?_ -- at
      refine go_iinc rfl rfl (by decide) rfl (by unfold ab_iok; omega) ?_
      refine go_goto rfl (tgt := 11) (by decide) ?_
      refine go_iload rfl rfl ?_
      refine go_iconst rfl ?_
      refine go_icmp_ge rfl (tgt := 67) (by decide) (fun c14 => ?_) (fun c14 => ?_)
      · exact absurd c14 (by omega)
      · refine go_aload_n rfl rfl ?_
        refine go_cV0I (M' := m_X7_here) rfl l_X7_116 k_X7_here (s_X7_here (by first | omega | (simp only [ab_hs_f, ab_hs_i, ab_hs_eq, ne_eq, not_false_eq_true, Nat.reduceEqDiff, Int.reduceEq, reduceCtorEq]; omega)) (by first | omega | (simp only [ab_hs_f, ab_hs_i, ab_hs_eq, ne_eq, not_false_eq_true, Nat.reduceEqDiff, Int.reduceEq, reduceCtorEq]; omega))) rfl rfl rfl rfl (by decide) (Nat.le_of_ble_eq_true rfl) (fun z18 h18 q18 => ?_) -- X7_here
        try simp only [ab_hs_f, ab_hs_i, ab_hs_eq, ne_eq, not_false_eq_true, Nat.reduceEqDiff, Int.reduceEq, reduceCtorEq] at q18
        obtain ⟨rfl, rfl⟩ := q18
        refine go_i2l rfl ?_
        refine go_ldc2 rfl (z := 48) c_X7_120 ?_
        refine go_ldc2 rfl (z := 57) c_X7_122 ?_
        refine go_cS3I (M' := m_X7_in) rfl l_X7_68 k_X7_in (s_X7_in) rfl (by decide) (Nat.le_of_ble_eq_true rfl) (fun z28 h28 q28 => ?_) -- X7_in
        obtain ⟨rfl, rfl⟩ := q28
        refine go_if_ne rfl (tgt := 36) (by decide) (fun c31 => ?_) (fun c31 => ?_)
        · have f2 := (md_fig (by omega)).mp (rd_n1 c31)
          refine go_bipush rfl ?_
          refine go_iload rfl rfl ?_
          refine go_imul rfl (by unfold ab_iok; omega) ?_
          refine go_aload_n rfl rfl ?_
          refine go_cV0I (M' := m_X7_here) rfl l_X7_116 k_X7_here (s_X7_here (by first | omega | (simp only [ab_hs_f, ab_hs_i, ab_hs_eq, ne_eq, not_false_eq_true, Nat.reduceEqDiff, Int.reduceEq, reduceCtorEq]; omega)) (by first | omega | (simp only [ab_hs_f, ab_hs_i, ab_hs_eq, ne_eq, not_false_eq_true, Nat.reduceEqDiff, Int.reduceEq, reduceCtorEq]; omega))) rfl rfl rfl rfl (by decide) (Nat.le_of_ble_eq_true rfl) (fun z42 h42 q42 => ?_) -- X7_here
          try simp only [ab_hs_f, ab_hs_i, ab_hs_eq, ne_eq, not_false_eq_true, Nat.reduceEqDiff, Int.reduceEq, reduceCtorEq] at q42
          obtain ⟨rfl, rfl⟩ := q42
          rw [md_val f2]
          refine go_iadd rfl (by unfold ab_iok; omega) ?_
          refine go_bipush rfl ?_
          refine go_isub rfl (by unfold ab_iok; omega) ?_
          refine go_istore rfl (by decide) rfl ?_
          refine go_aload_n rfl rfl ?_
          refine go_dup rfl ?_
          refine go_getI rfl f_X7_104 rfl rfl rfl ?_ -- at
          simp only [ab_hs_f, ab_hs_i, ab_hs_eq, ne_eq, not_false_eq_true, Nat.reduceEqDiff, Int.reduceEq, reduceCtorEq]
          refine go_iconst rfl ?_
          refine go_iadd rfl (by unfold ab_iok; omega) ?_
          refine go_putI rfl f_X7_104 rfl rfl rfl ?_ -- at
          refine go_iinc rfl rfl (by decide) rfl (by unfold ab_iok; omega) ?_
          refine go_goto rfl (tgt := 11) (by decide) ?_
          refine go_iload rfl rfl ?_
          refine go_iconst rfl ?_
          refine go_icmp_ge rfl (tgt := 67) (by decide) (fun c14 => ?_) (fun c14 => ?_)
          · have e1 : 10 * (10 * 0 + h 67 (h 62 7) - 48) + h 67 (h 62 7 + 1) - 48 = rd_num (h 67) (h 62 7) := by unfold rd_num; omega
            refine go_iload rfl rfl ?_
            refine go_i2l rfl ?_
            refine go_iload_n rfl rfl ?_
            refine go_i2l rfl ?_
            refine go_iload_n rfl rfl ?_
            refine go_i2l rfl ?_
            refine go_cS3I (M' := m_X7_in) rfl l_X7_68 k_X7_in (s_X7_in) rfl (by decide) (Nat.le_of_ble_eq_true rfl) (fun z74 h74 q74 => ?_) -- X7_in
            obtain ⟨rfl, rfl⟩ := q74
            refine go_if_eq rfl (tgt := 83) (by decide) (fun c77 => ?_) (fun c77 => ?_)
            · refine go_aload_n rfl rfl ?_
              refine go_iload_n rfl rfl ?_
              refine go_putI rfl f_X7_104 rfl rfl rfl ?_ -- at
              refine go_iconst rfl ?_
              exact go_iret rfl (Or.inl rfl) ⟨_, rfl, (by have e0 : rd_wr (h 67) (h 62 6) (h 62 7) lo hi = h 62 7 := (by unfold rd_wr; rw [if_pos f1, if_pos f2, if_neg (fun q => rd_n0 c77 (by rw [e1]; exact q))]); rw [e0]; exact md_end (by omega) (by rw [ab_hs_hs, ab_hs_hs]) rfl)⟩
            · refine go_iload rfl rfl ?_
              exact go_iret rfl (Or.inl rfl) ⟨_, rfl, (by have e0 : rd_wr (h 67) (h 62 6) (h 62 7) lo hi = -1 := (by unfold rd_wr; rw [if_pos f1, if_pos f2, if_pos (by rw [← e1]; exact rd_n1 c77)]); rw [e0, if_pos rfl, if_pos rfl]; exact ⟨by rw [ab_hs_hs, show h 62 7 + 1 + 1 = h 62 7 + 2 by omega], e1⟩)⟩
          · exact absurd (by omega) c14
        · refine go_iconst rfl ?_
          exact go_iret rfl (Or.inl rfl) ⟨_, rfl, (by have e0 : rd_wr (h 67) (h 62 6) (h 62 7) lo hi = h 62 7 + 1 := (by unfold rd_wr; rw [if_pos f1, if_neg (fun q => rd_n0 c31 ((md_fig (by omega)).mpr q))]); rw [e0]; exact md_end (by omega) rfl rfl)⟩
    · refine go_iconst rfl ?_
      exact go_iret rfl (Or.inl rfl) ⟨_, rfl, (by have e0 : rd_wr (h 67) (h 62 6) (h 62 7) lo hi = h 62 7 := (by unfold rd_wr; rw [if_neg (fun q => rd_n0 c31 ((md_fig (by omega)).mpr q))]); rw [e0]; exact md_end (by omega) (rd_hs_self h 62 7).symm rfl)⟩
set_option maxHeartbeats 4000000 in
set_option maxRecDepth 100000 in
theorem lp_X7_isTaken {g : ab_G} {h : ab_H} {v : Int} {Q : Option ab_V → ab_H → Prop} (hm : 0 ≤ h 62 9 ∧ h 62 9 ≤ 6) : ∀ (f : Nat) (i s : Int), 0 ≤ i → i ≤ h 62 9 → h 62 9 - i < f → s = rd_bool (∃ j, 0 ≤ j ∧ j < i ∧ h 68 j = v) → Q (some (a_I (rd_bool (∃ j, 0 ≤ j ∧ j < h 62 9 ∧ h 68 j = v)))) h → Go g (ab_rm 1, 0, 0) m_X7_isTaken Q 4 [some (a_R 62), some (a_I v), some (a_I s), some (a_I i)] [] h := by
  intro f
  induction f with
  | zero => intro i s h0 h1 hf; omega
  | succ f ih =>
    intro i s h0 h1 hf hI hq
    refine go_iload_n rfl rfl ?_
    refine go_aload_n rfl rfl ?_
    refine go_getI rfl f_X7_110 rfl rfl rfl ?_ -- men
    refine go_icmp_ge rfl (tgt := 38) (by decide) (fun c9 => ?_) (fun c9 => ?_)
    · refine go_iload_n rfl rfl ?_
      exact go_iret rfl (Or.inr ⟨rfl, by rw [hI]; exact rd_01 _⟩) (by rw [hI, show i = h 62 9 by omega]; exact hq)
    · refine go_iload_n rfl rfl ?_
      refine go_if_ne rfl (tgt := 26) (by decide) (fun c13 => ?_) (fun c13 => ?_)
      · have hJ : (1 : Int) = rd_bool (∃ j, 0 ≤ j ∧ j < i + 1 ∧ h 68 j = v) := (rd_t (by obtain ⟨j, j0, j1, j2⟩ := rd_n1 (c := ∃ j, 0 ≤ j ∧ j < i ∧ h 68 j = v) (by rw [← hI]; exact c13); exact ⟨j, j0, by omega, j2⟩)).symm
        refine go_iconst rfl ?_
        refine go_goto rfl (tgt := 31) (by decide) ?_
        refine go_istore_n rfl (by decide) rfl ?_
        refine go_iinc rfl rfl (by decide) rfl (by unfold ab_iok; omega) ?_
        refine go_goto rfl (tgt := 4) (by decide) ?_
        exact ih (i + 1) _ (by omega) (by omega) (by omega) hJ hq
      · refine go_aload_n rfl rfl ?_
        refine go_getR rfl f_X7_25 rfl rfl ?_ -- begin
        refine go_iload_n rfl rfl ?_
        refine go_iald rfl rfl (by omega) (by omega) ?_
        refine go_iload_n rfl rfl ?_
        refine go_icmp_ne rfl (tgt := 30) (by decide) (fun c23 => ?_) (fun c23 => ?_)
        · have hJ : (0 : Int) = rd_bool (∃ j, 0 ≤ j ∧ j < i + 1 ∧ h 68 j = v) := (rd_f (by rintro ⟨j, j0, j1, j2⟩; by_cases e : j = i; exact c23 (e ▸ j2); exact rd_n0 (c := ∃ j, 0 ≤ j ∧ j < i ∧ h 68 j = v) (by rw [← hI]; exact c13) ⟨j, j0, by omega, j2⟩)).symm
          refine go_iconst rfl ?_
          refine go_istore_n rfl (by decide) rfl ?_
          refine go_iinc rfl rfl (by decide) rfl (by unfold ab_iok; omega) ?_
          refine go_goto rfl (tgt := 4) (by decide) ?_
          exact ih (i + 1) _ (by omega) (by omega) (by omega) hJ hq
        · have hJ : (1 : Int) = rd_bool (∃ j, 0 ≤ j ∧ j < i + 1 ∧ h 68 j = v) := (rd_t ⟨i, h0, by omega, by omega⟩).symm
          refine go_iconst rfl ?_
          refine go_goto rfl (tgt := 31) (by decide) ?_
          refine go_istore_n rfl (by decide) rfl ?_
          refine go_iinc rfl rfl (by decide) rfl (by unfold ab_iok; omega) ?_
          refine go_goto rfl (tgt := 4) (by decide) ?_
          exact ih (i + 1) _ (by omega) (by omega) (by omega) hJ hq
/-- the reference's own cells for the text's answer -/
def md_ps (h : ab_H) : ps_T := (h 62 9, h 68, h 69, h 70, h 62 13, h 71)
def md_put (h : ab_H) (s : ps_T) : ab_H := fun a b => if a = 62 ∧ b = 9 then s.1 else if a = 68 then s.2.1 b else if a = 69 then s.2.2.1 b else if a = 70 then s.2.2.2.1 b else if a = 62 ∧ b = 13 then s.2.2.2.2.1 else if a = 71 then s.2.2.2.2.2 b else h a b
set_option maxHeartbeats 4000000 in
set_option maxRecDepth 100000 in
theorem s_X7_isTaken {g : ab_G} {h : ab_H} {v : Int} (hm : 0 ≤ h 62 9 ∧ h 62 9 ≤ 6) : MethI g 1 m_X7_isTaken [a_R 62, a_I v] h (fun z h' => h = h' ∧ z = rd_bool (ps_tkn (md_ps h) v)) := by
  refine Meth.of_go k_X7_isTaken (Nat.le_of_ble_eq_true rfl) ?_
  show Go g _ m_X7_isTaken _ 0 [some (a_R 62), some (a_I v), none, none] [] h
  refine go_iconst rfl ?_
  refine go_istore_n rfl (by decide) rfl ?_
  refine go_iconst rfl ?_
  refine go_istore_n rfl (by decide) rfl ?_
  exact lp_X7_isTaken hm 8 0 0 (by omega) (by omega) (by omega) (rd_f (by rintro ⟨j, j0, j1, -⟩; omega)).symm ⟨_, rfl, rfl, rfl⟩
