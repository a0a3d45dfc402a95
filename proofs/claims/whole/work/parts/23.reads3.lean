set_option maxHeartbeats 4000000 in
set_option maxRecDepth 100000 in
theorem lp_X7_reads0 {g : ab_G} {h : ab_H} {l1 : Option ab_V} {Q : Option ab_V → ab_H → Prop} (hq : Q (some (a_I (h 62 7))) (ab_hs (ab_hs (ab_hs (h) 62 8 1) 62 9 0) 62 13 0)) : Go g (ab_rm 4, 0, 0) m_X7_reads Q 41 [some (a_R 62), l1, some (a_I 0)] [] h := by
  refine go_iload_n rfl rfl ?_
  refine go_if_eq rfl (tgt := 109) (by decide) (fun c42 => ?_) (fun c42 => ?_)
  · refine go_iload_n rfl rfl ?_
    refine go_if_ne rfl (tgt := 122) (by decide) (fun c110 => ?_) (fun c110 => ?_)
    · exact absurd rfl c110
    · refine go_aload_n rfl rfl ?_
      refine go_cV0V (M' := m_X7_clears) rfl l_X7_130 k_X7_clears (s_X7_clears) rfl rfl rfl rfl (by decide) (Nat.le_of_ble_eq_true rfl) (fun h114 q114 => ?_) -- X7_clears
      subst q114
      refine go_aload_n rfl rfl ?_
      refine go_getI rfl f_X7_104 rfl rfl rfl ?_ -- at
      simp only [ab_hs_f, ab_hs_i, ab_hs_eq, ne_eq, not_false_eq_true, Nat.reduceEqDiff, Int.reduceEq, reduceCtorEq]
      exact go_iret rfl (Or.inl rfl) hq
  · exact absurd rfl c42
set_option maxHeartbeats 4000000 in
set_option maxRecDepth 100000 in
theorem lp_X7_reads {g : ab_G} {Q : Option ab_V → ab_H → Prop} : ∀ (f : Nat) (h : ab_H) (l1 : Int), h 62 6 - h 62 7 < f → 0 ≤ h 62 7 ∧ h 62 7 ≤ 90 → h 62 6 ≤ 80 → ps_in (md_ps h) → ((ps_run (h 67) (h 62 6) (h 62 8) f (h 62 7) (md_ps h)).1 = -1 → ∀ e, Q (some (a_I (-1))) (ab_hs (md_put h (ps_run (h 67) (h 62 6) (h 62 8) f (h 62 7) (md_ps h)).2) 62 7 e)) → ((ps_run (h 67) (h 62 6) (h 62 8) f (h 62 7) (md_ps h)).1 ≠ -1 → Q (some (a_I (ps_run (h 67) (h 62 6) (h 62 8) f (h 62 7) (md_ps h)).1)) (ab_hs (ab_hs (ab_hs (ab_hs (md_put h (ps_run (h 67) (h 62 6) (h 62 8) f (h 62 7) (md_ps h)).2) 62 7 (ps_run (h 67) (h 62 6) (h 62 8) f (h 62 7) (md_ps h)).1) 62 8 1) 62 9 0) 62 13 0)) → Go g (ab_rm 4, 0, 0) m_X7_reads Q 41 [some (a_R 62), some (a_I l1), some (a_I 1)] [] h := by
  intro f
  induction f with
  | zero =>
    intro h l1 hf ha hn hs hq1 hq2
    refine go_iload_n rfl rfl ?_
    refine go_if_eq rfl (tgt := 109) (by decide) (fun c42 => ?_) (fun c42 => ?_)
    · exact absurd c42 (by decide)
    · refine go_aload_n rfl rfl ?_
      refine go_getI rfl f_X7_104 rfl rfl rfl ?_ -- at
      refine go_aload_n rfl rfl ?_
      refine go_getI rfl f_X7_101 rfl rfl rfl ?_ -- typed
      refine go_icmp_ge rfl (tgt := 109) (by decide) (fun c53 => ?_) (fun c53 => ?_)
      · refine go_iload_n rfl rfl ?_
        refine go_if_ne rfl (tgt := 122) (by decide) (fun c110 => ?_) (fun c110 => ?_)
        · refine go_iconst rfl ?_
          exact go_iret rfl (Or.inl rfl) (by rw [ps_run] at hq1; have z := hq1 rfl (h 62 7); rw [md_put_self, rd_hs_self] at z; exact z)
        · exact absurd c110 (by decide)
      · exact absurd (by omega) c53
  | succ f ih =>
    intro h l1 hf ha hn hs hq1 hq2
    refine go_iload_n rfl rfl ?_
    refine go_if_eq rfl (tgt := 109) (by decide) (fun c42 => ?_) (fun c42 => ?_)
    · exact absurd c42 (by decide)
    · refine go_aload_n rfl rfl ?_
      refine go_getI rfl f_X7_104 rfl rfl rfl ?_ -- at
      refine go_aload_n rfl rfl ?_
      refine go_getI rfl f_X7_101 rfl rfl rfl ?_ -- typed
      refine go_icmp_ge rfl (tgt := 109) (by decide) (fun c53 => ?_) (fun c53 => ?_)
      · refine go_iload_n rfl rfl ?_
        refine go_if_ne rfl (tgt := 122) (by decide) (fun c110 => ?_) (fun c110 => ?_)
        · refine go_iconst rfl ?_
          exact go_iret rfl (Or.inl rfl) (by rw [ps_run, if_pos c53] at hq1; have z := hq1 rfl (h 62 7); rw [md_put_self, rd_hs_self] at z; exact z)
        · exact absurd c110 (by decide)
      · refine go_aload_n rfl rfl ?_
        refine go_cV0I (M' := m_X7_here) rfl l_X7_116 k_X7_here (s_X7_here (by first | omega | (simp only [ab_hs_f, ab_hs_i, ab_hs_eq, ne_eq, not_false_eq_true, Nat.reduceEqDiff, Int.reduceEq, reduceCtorEq]; omega)) (by first | omega | (simp only [ab_hs_f, ab_hs_i, ab_hs_eq, ne_eq, not_false_eq_true, Nat.reduceEqDiff, Int.reduceEq, reduceCtorEq]; omega))) rfl rfl rfl rfl (by decide) (Nat.le_of_ble_eq_true rfl) (fun z57 h57 q57 => ?_) -- X7_here
        try simp only [ab_hs_f, ab_hs_i, ab_hs_eq, ne_eq, not_false_eq_true, Nat.reduceEqDiff, Int.reduceEq, reduceCtorEq] at q57
        obtain ⟨rfl, rfl⟩ := q57
        refine go_bipush rfl ?_
        refine go_icmp_ne rfl (tgt := 69) (by decide) (fun c62 => ?_) (fun c62 => ?_)
        · refine go_iconst rfl ?_
          refine go_istore_n rfl (by decide) rfl ?_
          refine go_iload_n rfl rfl ?_
          refine go_if_eq rfl (tgt := 41) (by decide) (fun c72 => ?_) (fun c72 => ?_)
          · exact lp_X7_reads0 (by rw [ps_run, if_neg c53, if_pos (fun q => c62 ((md_isB (by omega) (by omega)).mpr q))] at hq2; have z := hq2 (by show h 62 7 ≠ -1; omega); rw [md_put_self, rd_hs_self] at z; exact z)
          · exact absurd rfl c72
        · have fS := (md_isB (by omega) (by omega)).mp c62
          refine go_iconst rfl ?_
          refine go_goto rfl (tgt := 70) (by decide) ?_
          refine go_istore_n rfl (by decide) rfl ?_
          refine go_iload_n rfl rfl ?_
          refine go_if_eq rfl (tgt := 41) (by decide) (fun c72 => ?_) (fun c72 => ?_)
          · exact absurd c72 (by decide)
          · refine go_aload_n rfl rfl ?_
            refine go_dup rfl ?_
            refine go_getI rfl f_X7_104 rfl rfl rfl ?_ -- at
            refine go_iconst rfl ?_
            refine go_iadd rfl (by unfold ab_iok; omega) ?_
            refine go_putI rfl f_X7_104 rfl rfl rfl ?_ -- at
            refine go_aload_n rfl rfl ?_
            refine go_cV0I (M' := m_X7_here) rfl l_X7_116 k_X7_here (s_X7_here (by first | omega | (simp only [ab_hs_f, ab_hs_i, ab_hs_eq, ne_eq, not_false_eq_true, Nat.reduceEqDiff, Int.reduceEq, reduceCtorEq]; omega)) (by first | omega | (simp only [ab_hs_f, ab_hs_i, ab_hs_eq, ne_eq, not_false_eq_true, Nat.reduceEqDiff, Int.reduceEq, reduceCtorEq]; omega))) rfl rfl rfl rfl (by decide) (Nat.le_of_ble_eq_true rfl) (fun z86 h86 q86 => ?_) -- X7_here
            try simp only [ab_hs_f, ab_hs_i, ab_hs_eq, ne_eq, not_false_eq_true, Nat.reduceEqDiff, Int.reduceEq, reduceCtorEq] at q86
            obtain ⟨rfl, rfl⟩ := q86
            refine go_bipush rfl ?_
            refine go_icmp_ne rfl (tgt := 101) (by decide) (fun c91 => ?_) (fun c91 => ?_)
            · have fH : ¬ rd_isB (h 67) (h 62 6) (h 62 7 + 1) 104 := fun q => c91 ((md_isB (by omega) (by omega)).mpr q)
              refine go_aload_n rfl rfl ?_
              refine go_cV0I (M' := m_X7_readsMan) rfl l_X7_137 k_X7_readsMan (s_X7_readsMan (by simp only [ab_hs_f, ab_hs_i, ab_hs_eq, ne_eq, not_false_eq_true, Nat.reduceEqDiff, Int.reduceEq, reduceCtorEq]; omega) (by simp only [ab_hs_f, ab_hs_i, ab_hs_eq, ne_eq, not_false_eq_true, Nat.reduceEqDiff, Int.reduceEq, reduceCtorEq]; omega) (by rw [md_ps_at _ _ _ (by decide)]; exact hs)) rfl rfl rfl rfl (by decide) (Nat.le_of_ble_eq_true rfl) (fun z102 h102 q102 => ?_) -- X7_readsMan
              obtain ⟨rfl, rfl⟩ := q102
              rw [md_ps_at _ _ _ (by decide), md_put_at _ _ _ _ (by decide), ab_hs_hs]
              simp only [ab_hs_f, ab_hs_i, ab_hs_eq, ne_eq, not_false_eq_true, Nat.reduceEqDiff, Int.reduceEq, reduceCtorEq]
              refine go_istore_n rfl (by decide) rfl ?_
              refine go_goto rfl (tgt := 41) (by decide) ?_
              have e0 : ps_one (h 67) (h 62 6) (h 62 8) (h 62 7) (md_ps h) = ps_man (h 67) (h 62 6) (h 62 8) (h 62 7 + 1) (md_ps h) := by unfold ps_one; rw [if_neg fH]
              rw [← e0]
              have e2 := ps_one_in (tx := h 67) (n := h 62 6) (len := h 62 8) hs (show 0 ≤ h 62 7 by omega)
              by_cases w : (ps_one (h 67) (h 62 6) (h 62 8) (h 62 7) (md_ps h)).1 = -1
              · rw [if_pos w, rd_t w, show h 62 7 + 1 + 5 = h 62 7 + 6 by omega]
                have e3 : ps_run (h 67) (h 62 6) (h 62 8) (f + 1) (h 62 7) (md_ps h) = ps_run (h 67) (h 62 6) (h 62 8) f (h 62 7 + 6) (ps_one (h 67) (h 62 6) (h 62 8) (h 62 7) (md_ps h)).2 := by rw [ps_run, if_neg c53, if_neg (fun q => q fS), if_neg (fun q => q w), if_neg fH]
                rw [e3] at hq1 hq2
                refine ih _ _ ?_ ?_ ?_ ?_ ?_ ?_
                · rw [ab_hs_i (by decide), ab_hs_eq, md_put_1 (by decide)]; omega
                · rw [ab_hs_eq]; omega
                · rw [ab_hs_i (by decide), md_put_1 (by decide)]; exact hn
                · rw [md_ps_at _ _ _ (by decide), md_ps_put]; exact e2
                · rw [ab_hs_f (by decide), md_put_f (by decide), ab_hs_i (by decide), ab_hs_i (by decide), ab_hs_eq, md_put_1 (by decide), md_put_1 (by decide), md_ps_at _ _ _ (by decide), md_ps_put]
                  intro z e; rw [md_put_at _ _ _ _ (by decide), md_put_put, ab_hs_hs]; exact hq1 z e
                · rw [ab_hs_f (by decide), md_put_f (by decide), ab_hs_i (by decide), ab_hs_i (by decide), ab_hs_eq, md_put_1 (by decide), md_put_1 (by decide), md_ps_at _ _ _ (by decide), md_ps_put]
                  intro z; rw [md_put_at _ _ _ _ (by decide), md_put_put, ab_hs_hs]; exact hq2 z
              · rw [if_neg w, rd_f w]
                have e3 : ps_run (h 67) (h 62 6) (h 62 8) (f + 1) (h 62 7) (md_ps h) = ps_one (h 67) (h 62 6) (h 62 8) (h 62 7) (md_ps h) := by rw [ps_run, if_neg c53, if_neg (fun q => q fS), if_pos w]
                rw [e3] at hq1 hq2
                exact lp_X7_reads0 (by rw [ab_hs_eq]; exact hq2 w)
            · have fH := (md_isB (by omega) (by omega)).mp c91
              refine go_aload_n rfl rfl ?_
              refine go_cV0I (M' := m_X7_readsHouse) rfl l_X7_133 k_X7_readsHouse (s_X7_readsHouse (by simp only [ab_hs_f, ab_hs_i, ab_hs_eq, ne_eq, not_false_eq_true, Nat.reduceEqDiff, Int.reduceEq, reduceCtorEq]; omega) (by simp only [ab_hs_f, ab_hs_i, ab_hs_eq, ne_eq, not_false_eq_true, Nat.reduceEqDiff, Int.reduceEq, reduceCtorEq]; omega) (by rw [md_ps_at _ _ _ (by decide)]; exact hs)) rfl rfl rfl rfl (by decide) (Nat.le_of_ble_eq_true rfl) (fun z95 h95 q95 => ?_) -- X7_readsHouse
              obtain ⟨rfl, rfl⟩ := q95
              rw [md_ps_at _ _ _ (by decide), md_put_at _ _ _ _ (by decide), ab_hs_hs]
              simp only [ab_hs_f, ab_hs_i, ab_hs_eq, ne_eq, not_false_eq_true, Nat.reduceEqDiff, Int.reduceEq, reduceCtorEq]
              refine go_goto rfl (tgt := 105) (by decide) ?_
              refine go_istore_n rfl (by decide) rfl ?_
              refine go_goto rfl (tgt := 41) (by decide) ?_
              have e0 : ps_one (h 67) (h 62 6) (h 62 8) (h 62 7) (md_ps h) = ps_house (h 67) (h 62 6) (h 62 8) (h 62 7 + 1) (md_ps h) := by unfold ps_one; rw [if_pos fH]
              rw [← e0]
              have e2 := ps_one_in (tx := h 67) (n := h 62 6) (len := h 62 8) hs (show 0 ≤ h 62 7 by omega)
              by_cases w : (ps_one (h 67) (h 62 6) (h 62 8) (h 62 7) (md_ps h)).1 = -1
              · rw [if_pos w, rd_t w, show h 62 7 + 1 + 3 = h 62 7 + 4 by omega]
                have e3 : ps_run (h 67) (h 62 6) (h 62 8) (f + 1) (h 62 7) (md_ps h) = ps_run (h 67) (h 62 6) (h 62 8) f (h 62 7 + 4) (ps_one (h 67) (h 62 6) (h 62 8) (h 62 7) (md_ps h)).2 := by rw [ps_run, if_neg c53, if_neg (fun q => q fS), if_neg (fun q => q w), if_pos fH]
                rw [e3] at hq1 hq2
                refine ih _ _ ?_ ?_ ?_ ?_ ?_ ?_
                · rw [ab_hs_i (by decide), ab_hs_eq, md_put_1 (by decide)]; omega
                · rw [ab_hs_eq]; omega
                · rw [ab_hs_i (by decide), md_put_1 (by decide)]; exact hn
                · rw [md_ps_at _ _ _ (by decide), md_ps_put]; exact e2
                · rw [ab_hs_f (by decide), md_put_f (by decide), ab_hs_i (by decide), ab_hs_i (by decide), ab_hs_eq, md_put_1 (by decide), md_put_1 (by decide), md_ps_at _ _ _ (by decide), md_ps_put]
                  intro z e; rw [md_put_at _ _ _ _ (by decide), md_put_put, ab_hs_hs]; exact hq1 z e
                · rw [ab_hs_f (by decide), md_put_f (by decide), ab_hs_i (by decide), ab_hs_i (by decide), ab_hs_eq, md_put_1 (by decide), md_put_1 (by decide), md_ps_at _ _ _ (by decide), md_ps_put]
                  intro z; rw [md_put_at _ _ _ _ (by decide), md_put_put, ab_hs_hs]; exact hq2 z
              · rw [if_neg w, rd_f w]
                have e3 : ps_run (h 67) (h 62 6) (h 62 8) (f + 1) (h 62 7) (md_ps h) = ps_one (h 67) (h 62 6) (h 62 8) (h 62 7) (md_ps h) := by rw [ps_run, if_neg c53, if_neg (fun q => q fS), if_pos w]
                rw [e3] at hq1 hq2
                exact lp_X7_reads0 (by rw [ab_hs_eq]; exact hq2 w)
noncomputable def md_R (h : ab_H) : Int × ps_T := ps_all (h 67) (h 62 6) (0, h 68, h 69, h 70, 0, h 71)
/-- behind the reading: the answer, the length, men and houses -/
def md_Post (h : ab_H) (z : Int) (h' : ab_H) : Prop := z = (md_R h).1 ∧ ((md_R h).1 = -1 → h' 62 8 = rd_num (h 67) 0 ∧ md_ps h' = (md_R h).2) ∧ ((md_R h).1 ≠ -1 → h' 62 8 = 1 ∧ h' 62 9 = 0 ∧ h' 62 13 = 0) ∧ (∀ k, ¬ (k = 62 ∨ k = 68 ∨ k = 69 ∨ k = 70 ∨ k = 71) → h' k = h k) ∧ ∀ b, ¬ (b = 7 ∨ b = 8 ∨ b = 9 ∨ b = 13) → h' 62 b = h 62 b
set_option maxHeartbeats 4000000 in
set_option maxRecDepth 100000 in
theorem s_X7_reads {g : ab_G} {h : ab_H} (hn : h 62 6 ≤ 80) : MethI g 4 m_X7_reads [a_R 62] h (fun z h' => md_Post h z h') := by
  refine Meth.of_go k_X7_reads (Nat.le_of_ble_eq_true rfl) ?_
  show Go g _ m_X7_reads _ 0 [some (a_R 62), none, none] [] h
  refine go_aload_n rfl rfl ?_
  refine go_iconst rfl ?_
  refine go_putI rfl f_X7_104 rfl rfl rfl ?_ -- at
  refine go_aload_n rfl rfl ?_
  refine go_cV0V (M' := m_X7_clears) rfl l_X7_130 k_X7_clears (s_X7_clears) rfl rfl rfl rfl (by decide) (Nat.le_of_ble_eq_true rfl) (fun h6 q6 => ?_) -- X7_clears
  subst q6
  refine go_aload_n rfl rfl ?_
  refine go_iconst rfl ?_
  refine go_bipush rfl ?_
  refine go_cV2I (M' := m_X7_number) rfl l_X7_124 k_X7_number (s_X7_number (by simp only [ab_hs_f, ab_hs_i, ab_hs_eq, ne_eq, not_false_eq_true, Nat.reduceEqDiff, Int.reduceEq, reduceCtorEq]; omega) (by simp only [ab_hs_f, ab_hs_i, ab_hs_eq, ne_eq, not_false_eq_true, Nat.reduceEqDiff, Int.reduceEq, reduceCtorEq]; omega)) rfl rfl rfl rfl (by decide) (Nat.le_of_ble_eq_true rfl) (fun z13 h13 q13 => ?_) -- X7_number
  obtain ⟨rfl, rfl⟩ := q13
  simp only [ab_hs_f, ab_hs_i, ab_hs_eq, ne_eq, not_false_eq_true, Nat.reduceEqDiff, Int.reduceEq, reduceCtorEq]
  refine go_istore_n rfl (by decide) rfl ?_
  refine go_iload_n rfl rfl ?_
  refine go_iconst rfl ?_
  refine go_icmp_eq rfl (tgt := 26) (by decide) (fun c19 => ?_) (fun c19 => ?_)
  · have w1 : ¬ rd_wr (h 67) (h 62 6) 0 1 40 = -1 := fun q => by rw [if_pos q] at c19; have := rd_wr_in q (by omega); omega
    rw [if_neg w1, if_neg w1]
    refine go_iconst rfl ?_
    refine go_istore_n rfl (by decide) rfl ?_
    refine go_aload_n rfl rfl ?_
    refine go_iload_n rfl rfl ?_
    refine go_if_eq rfl (tgt := 37) (by decide) (fun c30 => ?_) (fun c30 => ?_)
    · refine go_iconst rfl ?_
      refine go_putI rfl f_X7_107 rfl rfl rfl ?_ -- length
      have eR : (md_R h).1 = rd_wr (h 67) (h 62 6) 0 1 40 := by unfold md_R ps_all; rw [if_pos w1]
      refine lp_X7_reads0 ⟨_, rfl, ?_, fun q => absurd (eR.symm.trans q) w1, fun _ => ⟨?_, ?_, ?_⟩, fun k hk => ?_, fun b hb => ?_⟩
      · rw [eR]; simp only [ab_hs_f, ab_hs_i, ab_hs_eq, ne_eq, not_false_eq_true, Nat.reduceEqDiff, Int.reduceEq, reduceCtorEq]
      · rw [ab_hs_i (by decide), ab_hs_i (by decide), ab_hs_eq]
      · rw [ab_hs_i (by decide), ab_hs_eq]
      · rw [ab_hs_eq]
      · rw [ab_hs_f (by omega), ab_hs_f (by omega), ab_hs_f (by omega), ab_hs_f (by omega), ab_hs_f (by omega), ab_hs_f (by omega), ab_hs_f (by omega), ab_hs_f (by omega), ab_hs_f (by omega)]
      · rw [ab_hs_i (by omega), ab_hs_i (by omega), ab_hs_i (by omega), ab_hs_i (by omega), ab_hs_i (by omega), ab_hs_i (by omega), ab_hs_i (by omega), ab_hs_i (by omega), ab_hs_i (by omega)]
    · exact absurd rfl c30
  · have w1 : rd_wr (h 67) (h 62 6) 0 1 40 = -1 := Classical.byContradiction fun q => c19 (if_neg q)
    rw [if_pos w1, if_pos w1]
    refine go_iconst rfl ?_
    refine go_goto rfl (tgt := 27) (by decide) ?_
    refine go_istore_n rfl (by decide) rfl ?_
    refine go_aload_n rfl rfl ?_
    refine go_iload_n rfl rfl ?_
    refine go_if_eq rfl (tgt := 37) (by decide) (fun c30 => ?_) (fun c30 => ?_)
    · exact absurd c30 (by decide)
    · refine go_iload_n rfl rfl ?_
      refine go_goto rfl (tgt := 38) (by decide) ?_
      refine go_putI rfl f_X7_107 rfl rfl rfl ?_ -- length
      have eR : ps_run (h 67) (h 62 6) (rd_num (h 67) 0) 80 (0 + 2) (0, h 68, h 69, h 70, 0, h 71) = md_R h := by show _ = _; unfold md_R ps_all; rw [if_neg (fun q => q w1)]; rfl
      refine lp_X7_reads 80 _ _ ?_ ?_ ?_ ?_ ?_ ?_
      · simp only [ab_hs_f, ab_hs_i, ab_hs_eq, ne_eq, not_false_eq_true, Nat.reduceEqDiff, Int.reduceEq, reduceCtorEq]; omega
      · simp only [ab_hs_f, ab_hs_i, ab_hs_eq, ne_eq, not_false_eq_true, Nat.reduceEqDiff, Int.reduceEq, reduceCtorEq]; omega
      · simp only [ab_hs_f, ab_hs_i, ab_hs_eq, ne_eq, not_false_eq_true, Nat.reduceEqDiff, Int.reduceEq, reduceCtorEq]; omega
      · show (0 : Int) ≤ 0 ∧ (0 : Int) ≤ 6 ∧ (0 : Int) ≤ 0 ∧ (0 : Int) ≤ 6; decide
      · simp only [ab_hs_f, ab_hs_i, ab_hs_eq, ne_eq, not_false_eq_true, Nat.reduceEqDiff, Int.reduceEq, reduceCtorEq]
        rw [show md_ps (ab_hs (ab_hs (ab_hs (ab_hs (ab_hs (ab_hs h 62 7 0) 62 8 1) 62 9 0) 62 13 0) 62 7 (0 + 2)) 62 8 (rd_num (h 67) 0)) = (0, h 68, h 69, h 70, 0, h 71) from rfl, eR]
        intro z e
        refine ⟨_, rfl, z.symm, fun _ => ⟨?_, ?_⟩, fun q => absurd z q, fun k hk => ?_, fun b hb => ?_⟩
        · rw [ab_hs_i (by decide), md_put_1 (by decide), ab_hs_eq]
        · rw [md_ps_at _ _ _ (by decide), md_ps_put]
        · rw [ab_hs_f (by omega), md_put_f hk, ab_hs_f (by omega), ab_hs_f (by omega), ab_hs_f (by omega), ab_hs_f (by omega), ab_hs_f (by omega), ab_hs_f (by omega)]
        · rw [ab_hs_i (by omega), md_put_1 (by omega), ab_hs_i (by omega), ab_hs_i (by omega), ab_hs_i (by omega), ab_hs_i (by omega), ab_hs_i (by omega), ab_hs_i (by omega)]
      · simp only [ab_hs_f, ab_hs_i, ab_hs_eq, ne_eq, not_false_eq_true, Nat.reduceEqDiff, Int.reduceEq, reduceCtorEq]
        rw [show md_ps (ab_hs (ab_hs (ab_hs (ab_hs (ab_hs (ab_hs h 62 7 0) 62 8 1) 62 9 0) 62 13 0) 62 7 (0 + 2)) 62 8 (rd_num (h 67) 0)) = (0, h 68, h 69, h 70, 0, h 71) from rfl, eR]
        intro z
        refine ⟨_, rfl, rfl, fun q => absurd q z, fun _ => ⟨?_, ?_, ?_⟩, fun k hk => ?_, fun b hb => ?_⟩
        · rw [ab_hs_i (by decide), ab_hs_i (by decide), ab_hs_eq]
        · rw [ab_hs_i (by decide), ab_hs_eq]
        · rw [ab_hs_eq]
        · rw [ab_hs_f (by omega), ab_hs_f (by omega), ab_hs_f (by omega), ab_hs_f (by omega), md_put_f hk, ab_hs_f (by omega), ab_hs_f (by omega), ab_hs_f (by omega), ab_hs_f (by omega), ab_hs_f (by omega), ab_hs_f (by omega)]
        · rw [ab_hs_i (by omega), ab_hs_i (by omega), ab_hs_i (by omega), ab_hs_i (by omega), md_put_1 (by omega), ab_hs_i (by omega), ab_hs_i (by omega), ab_hs_i (by omega), ab_hs_i (by omega), ab_hs_i (by omega), ab_hs_i (by omega)]
