/-! the reference reads the text -/
theorem md_ps_put (h : ab_H) (s : ps_T) : md_ps (md_put h s) = s := rfl
theorem md_put_put (h : ab_H) (s s' : ps_T) : md_put (md_put h s) s' = md_put h s' := by
  funext a b
  unfold md_put
  repeat' split
  all_goals rfl
theorem md_put_self (h : ab_H) : md_put h (md_ps h) = h := by
  funext a b
  unfold md_put md_ps
  repeat' split
  all_goals first | rfl | (rename_i q; obtain ⟨rfl, rfl⟩ := q; rfl) | (rename_i q; subst q; rfl)
theorem md_put_house (h : ab_H) (v : Int) : ab_hs (ab_hs h 71 (h 62 13) v) 62 13 (h 62 13 + 1) = md_put h (h 62 9, h 68, h 69, h 70, h 62 13 + 1, ps_up (h 71) (h 62 13) v) := by
  funext a b
  unfold md_put ab_hs ps_up
  by_cases h1 : a = 62
  · subst h1
    by_cases h8 : b = 9
    · subst h8; simp
    · by_cases h9 : b = 13 <;> simp [h8, h9]
  · by_cases h3 : a = 68
    · subst h3; simp
    · by_cases h4 : a = 69
      · subst h4; simp
      · by_cases h5 : a = 70
        · subst h5; simp
        · by_cases h6 : a = 71
          · subst h6; simp
          · simp [h1, h3, h4, h5, h6]
theorem md_put_man (h : ab_H) (u v w : Int) : ab_hs (ab_hs (ab_hs (ab_hs h 68 (h 62 9) u) 69 (h 62 9) v) 70 (h 62 9) w) 62 9 (h 62 9 + 1) = md_put h (h 62 9 + 1, ps_up (h 68) (h 62 9) u, ps_up (h 69) (h 62 9) v, ps_up (h 70) (h 62 9) w, h 62 13, h 71) := by
  funext a b
  unfold md_put ab_hs ps_up
  by_cases h1 : a = 62
  · subst h1
    by_cases h8 : b = 9
    · subst h8; simp
    · by_cases h9 : b = 13 <;> simp [h8, h9]
  · by_cases h3 : a = 68
    · subst h3; simp
    · by_cases h4 : a = 69
      · subst h4; simp
      · by_cases h5 : a = 70
        · subst h5; simp
        · by_cases h6 : a = 71
          · subst h6; simp
          · simp [h1, h3, h4, h5, h6]
theorem md_put_f {h : ab_H} {s : ps_T} {a : Nat} (n : ¬ (a = 62 ∨ a = 68 ∨ a = 69 ∨ a = 70 ∨ a = 71)) : md_put h s a = h a := by
  funext b
  unfold md_put
  rw [if_neg (fun q => n (Or.inl q.1)), if_neg (fun q => n (by omega)), if_neg (fun q => n (by omega)), if_neg (fun q => n (by omega)), if_neg (fun q => n (Or.inl q.1)), if_neg (fun q => n (by omega))]
theorem md_put_1 {h : ab_H} {s : ps_T} {b : Int} (n : b ≠ 9 ∧ b ≠ 13) : md_put h s 62 b = h 62 b := by
  unfold md_put
  rw [if_neg (fun q => n.1 q.2), if_neg (by decide), if_neg (by decide), if_neg (by decide), if_neg (fun q => n.2 q.2), if_neg (by decide)]
theorem md_put_at (h : ab_H) (s : ps_T) (i z : Int) (n : i ≠ 9 ∧ i ≠ 13) : md_put (ab_hs h 62 i z) s = ab_hs (md_put h s) 62 i z := by
  funext a b
  unfold md_put ab_hs
  by_cases h1 : a = 62
  · subst h1
    by_cases h8 : b = 9
    · subst h8; simp [Ne.symm n.1]
    · by_cases h9 : b = 13
      · subst h9; simp [Ne.symm n.2]
      · simp [h8, h9]
  · simp [h1]
theorem md_ps_at (h : ab_H) (i z : Int) (n : i ≠ 9 ∧ i ≠ 13) : md_ps (ab_hs h 62 i z) = md_ps h := by
  unfold md_ps
  rw [ab_hs_i (Ne.symm n.1), ab_hs_i (Ne.symm n.2), ab_hs_f (by decide), ab_hs_f (by decide), ab_hs_f (by decide), ab_hs_f (by decide)]
theorem md_isB {tx : Int → Int} {n a b : Int} (ha : 0 ≤ a) (hb : 0 ≤ b) : md_at tx n a = b ↔ rd_isB tx n a b := by unfold md_at; split <;> omega
theorem ps_house_bad {tx : Int → Int} {n len a w : Int} {s : ps_T} (hw : ps_hw tx n len a s = w) (h : w ≠ -1) : ps_house tx n len a s = (w, s) := by unfold ps_house; rw [hw, if_neg h]
theorem ps_house_ok {tx : Int → Int} {n len a : Int} {s : ps_T} (hw : ps_hw tx n len a s = -1) : ps_house tx n len a s = (-1, (s.1, s.2.1, s.2.2.1, s.2.2.2.1, s.2.2.2.2.1 + 1, ps_up s.2.2.2.2.2 s.2.2.2.2.1 (rd_num tx (a + 1)))) := by unfold ps_house; rw [hw, if_pos rfl]
theorem ps_man_bad {tx : Int → Int} {n len a w : Int} {s : ps_T} (hw : ps_mw tx n len a s = w) (h : w ≠ -1) : ps_man tx n len a s = (w, s) := by unfold ps_man; rw [hw, if_neg h]
theorem ps_man_ok {tx : Int → Int} {n len a : Int} {s : ps_T} (hw : ps_mw tx n len a s = -1) : ps_man tx n len a s = (-1, (s.1 + 1, ps_up s.2.1 s.1 (rd_num tx a), ps_up s.2.2.1 s.1 (if rd_isB tx n (a + 2) 117 then 1 else -1), ps_up s.2.2.2.1 s.1 (rd_num tx (a + 3)), s.2.2.2.2)) := by unfold ps_man; rw [hw, if_pos rfl]
theorem md_house_end (h : ab_H) (e v : Int) : ab_hs (ab_hs (ab_hs h 62 7 e) 71 (h 62 13) v) 62 13 (h 62 13 + 1) = ab_hs (md_put h (h 62 9, h 68, h 69, h 70, h 62 13 + 1, ps_up (h 71) (h 62 13) v)) 62 7 e := by
  have q := md_put_house (ab_hs h 62 7 e) v
  simp only [ab_hs_f, ab_hs_i, ab_hs_eq, ne_eq, not_false_eq_true, Nat.reduceEqDiff, Int.reduceEq, reduceCtorEq] at q
  rw [q, md_put_at _ _ _ _ (by decide)]
theorem md_man_end (h : ab_H) (e u v w : Int) : ab_hs (ab_hs (ab_hs (ab_hs (ab_hs h 62 7 e) 68 (h 62 9) u) 69 (h 62 9) v) 70 (h 62 9) w) 62 9 (h 62 9 + 1) = ab_hs (md_put h (h 62 9 + 1, ps_up (h 68) (h 62 9) u, ps_up (h 69) (h 62 9) v, ps_up (h 70) (h 62 9) w, h 62 13, h 71)) 62 7 e := by
  have q := md_put_man (ab_hs h 62 7 e) u v w
  simp only [ab_hs_f, ab_hs_i, ab_hs_eq, ne_eq, not_false_eq_true, Nat.reduceEqDiff, Int.reduceEq, reduceCtorEq] at q
  rw [q, md_put_at _ _ _ _ (by decide)]
theorem md_fin {h h2 : ab_H} {r : Int × ps_T} {w z e : Int} (hr : r = (w, md_ps h)) (hw : w ≠ -1) (e1 : h2 = ab_hs h 62 7 w) (hz : z = 0) : h2 = ab_hs (md_put h r.2) 62 7 (if r.1 = -1 then e else r.1) ∧ z = rd_bool (r.1 = -1) := by
  subst hr
  dsimp only
  rw [md_put_self, if_neg hw, rd_f hw]
  exact ⟨e1, hz⟩
set_option maxHeartbeats 4000000 in
set_option maxRecDepth 100000 in
theorem s_X7_readsHouse {g : ab_G} {h : ab_H} (ha : 0 ≤ h 62 7 ∧ h 62 7 ≤ 400) (hn : h 62 6 ≤ 80) (hs : ps_in (md_ps h)) : MethI g 3 m_X7_readsHouse [a_R 62] h (fun z h' => h' = ab_hs (md_put h (ps_house (h 67) (h 62 6) (h 62 8) (h 62 7) (md_ps h)).2) 62 7 (if (ps_house (h 67) (h 62 6) (h 62 8) (h 62 7) (md_ps h)).1 = -1 then h 62 7 + 3 else (ps_house (h 67) (h 62 6) (h 62 8) (h 62 7) (md_ps h)).1) ∧ z = rd_bool ((ps_house (h 67) (h 62 6) (h 62 8) (h 62 7) (md_ps h)).1 = -1)) := by
  refine Meth.of_go k_X7_readsHouse (Nat.le_of_ble_eq_true rfl) ?_
  show Go g _ m_X7_readsHouse _ 0 [some (a_R 62), none] [] h
  have hh : 0 ≤ h 62 13 ∧ h 62 13 ≤ 6 := ⟨hs.2.2.1, hs.2.2.2⟩
  refine go_aload_n rfl rfl ?_
  refine go_getI rfl f_X7_113 rfl rfl rfl ?_ -- houses
  refine go_bipush rfl ?_
  refine go_icmp_ne rfl (tgt := 11) (by decide) (fun c6 => ?_) (fun c6 => ?_)
  · refine go_aload_n rfl rfl ?_
    refine go_dup rfl ?_
    refine go_getI rfl f_X7_104 rfl rfl rfl ?_ -- at
    refine go_iconst rfl ?_
    refine go_iadd rfl (by unfold ab_iok; omega) ?_
    refine go_putI rfl f_X7_104 rfl rfl rfl ?_ -- at
    refine go_aload_n rfl rfl ?_
    refine go_iconst rfl ?_
    refine go_aload_n rfl rfl ?_
    refine go_getI rfl f_X7_107 rfl rfl rfl ?_ -- length
    refine go_cV2I (M' := m_X7_number) rfl l_X7_124 k_X7_number (s_X7_number (by first | omega | (simp only [ab_hs_f, ab_hs_i, ab_hs_eq, ne_eq, not_false_eq_true, Nat.reduceEqDiff, Int.reduceEq, reduceCtorEq]; omega)) (by first | omega | (simp only [ab_hs_f, ab_hs_i, ab_hs_eq, ne_eq, not_false_eq_true, Nat.reduceEqDiff, Int.reduceEq, reduceCtorEq]; omega))) rfl rfl rfl rfl (by decide) (Nat.le_of_ble_eq_true rfl) (fun z27 h27 q27 => ?_) -- X7_number
    obtain ⟨rfl, rfl⟩ := q27
    try simp only [ab_hs_f, ab_hs_i, ab_hs_eq, ne_eq, not_false_eq_true, Nat.reduceEqDiff, Int.reduceEq, reduceCtorEq]
    refine go_istore_n rfl (by decide) rfl ?_
    refine go_iload_n rfl rfl ?_
    refine go_iconst rfl ?_
    refine go_icmp_ne rfl (tgt := 38) (by decide) (fun c33 => ?_) (fun c33 => ?_)
    · have w1 : rd_wr (h 67) (h 62 6) (h 62 7 + 1) 0 (h 62 8) = -1 := Classical.byContradiction fun q => c33 (if_neg q)
      rw [if_pos w1, if_pos w1]
      refine go_aload_n rfl rfl ?_
      refine go_getR rfl f_X7_34 rfl rfl ?_ -- housePace
      refine go_aload_n rfl rfl ?_
      refine go_getI rfl f_X7_113 rfl rfl rfl ?_ -- houses
      simp only [ab_hs_f, ab_hs_i, ab_hs_eq, ne_eq, not_false_eq_true, Nat.reduceEqDiff, Int.reduceEq, reduceCtorEq]
      refine go_iload_n rfl rfl ?_
      refine go_iast rfl rfl (by omega) (by omega) ?_
      refine go_aload_n rfl rfl ?_
      refine go_dup rfl ?_
      refine go_getI rfl f_X7_113 rfl rfl rfl ?_ -- houses
      simp only [ab_hs_f, ab_hs_i, ab_hs_eq, ne_eq, not_false_eq_true, Nat.reduceEqDiff, Int.reduceEq, reduceCtorEq]
      refine go_iconst rfl ?_
      refine go_iadd rfl (by unfold ab_iok; omega) ?_
      refine go_putI rfl f_X7_113 rfl rfl rfl ?_ -- houses
      refine go_iconst rfl ?_
      exact go_iret rfl (Or.inr ⟨rfl, by omega⟩) ⟨_, rfl, (by rw [ab_hs_hs, md_house_end, ps_house_ok (show ps_hw (h 67) (h 62 6) (h 62 8) (h 62 7) (md_ps h) = -1 by unfold ps_hw; rw [if_neg (by show ¬ 6 ≤ h 62 13; omega)]; exact w1)]; exact ⟨by rw [show h 62 7 + 1 + 2 = h 62 7 + 3 by omega]; rfl, (rd_t rfl).symm⟩)⟩
    · have w1 : ¬ rd_wr (h 67) (h 62 6) (h 62 7 + 1) 0 (h 62 8) = -1 := fun q => by rw [if_pos q] at c33; have := rd_wr_in q (by omega); omega
      rw [if_neg w1, if_neg w1]
      refine go_iconst rfl ?_
      exact go_iret rfl (Or.inr ⟨rfl, by omega⟩) ⟨_, rfl, (md_fin (ps_house_bad (by unfold ps_hw; rw [if_neg (by show ¬ 6 ≤ h 62 13; omega)]) w1) w1 (by rw [ab_hs_hs]) rfl)⟩
  · refine go_iconst rfl ?_
    exact go_iret rfl (Or.inr ⟨rfl, by omega⟩) ⟨_, rfl, (md_fin (w := h 62 7) (ps_house_bad (by unfold ps_hw; rw [if_pos (by show 6 ≤ h 62 13; omega)]) (by omega)) (by omega) (rd_hs_self h 62 7).symm rfl)⟩
section PSM
variable {tx : Int → Int} {n len a : Int} {s : ps_T}
theorem ps_mw_6 (h : 6 ≤ s.1) : ps_mw tx n len a s = a := by unfold ps_mw; rw [if_pos h]
theorem ps_mw_w (h : ¬ 6 ≤ s.1) (h1 : rd_wr tx n a 0 len ≠ -1) : ps_mw tx n len a s = rd_wr tx n a 0 len := by unfold ps_mw; rw [if_neg h, if_pos h1]
theorem ps_mw_t (h : ¬ 6 ≤ s.1) (h1 : rd_wr tx n a 0 len = -1) (h2 : ps_tkn s (rd_num tx a)) : ps_mw tx n len a s = a := by unfold ps_mw; rw [if_neg h, if_neg (fun q => q h1), if_pos (rd_t h2)]
theorem ps_mw_b (h : ¬ 6 ≤ s.1) (h1 : rd_wr tx n a 0 len = -1) (h2 : ¬ ps_tkn s (rd_num tx a)) (h3 : ¬ rd_isB tx n (a + 2) 117) (h4 : ¬ rd_isB tx n (a + 2) 100) : ps_mw tx n len a s = a + 2 := by unfold ps_mw; rw [if_neg h, if_neg (fun q => q h1), if_neg (by rw [rd_f h2]; omega), if_pos ⟨h3, h4⟩]
theorem ps_mw_3 (h : ¬ 6 ≤ s.1) (h1 : rd_wr tx n a 0 len = -1) (h2 : ¬ ps_tkn s (rd_num tx a)) (h3 : rd_isB tx n (a + 2) 117 ∨ rd_isB tx n (a + 2) 100) : ps_mw tx n len a s = rd_wr tx n (a + 3) 0 40 := by unfold ps_mw; rw [if_neg h, if_neg (fun q => q h1), if_neg (by rw [rd_f h2]; omega), if_neg (fun q => h3.elim q.1 q.2)]
end PSM
set_option maxHeartbeats 4000000 in
set_option maxRecDepth 100000 in
theorem s_X7_readsMan {g : ab_G} {h : ab_H} (ha : 0 ≤ h 62 7 ∧ h 62 7 ≤ 400) (hn : h 62 6 ≤ 80) (hs : ps_in (md_ps h)) : MethI g 3 m_X7_readsMan [a_R 62] h (fun z h' => h' = ab_hs (md_put h (ps_man (h 67) (h 62 6) (h 62 8) (h 62 7) (md_ps h)).2) 62 7 (if (ps_man (h 67) (h 62 6) (h 62 8) (h 62 7) (md_ps h)).1 = -1 then h 62 7 + 5 else (ps_man (h 67) (h 62 6) (h 62 8) (h 62 7) (md_ps h)).1) ∧ z = rd_bool ((ps_man (h 67) (h 62 6) (h 62 8) (h 62 7) (md_ps h)).1 = -1)) := by
  refine Meth.of_go k_X7_readsMan (Nat.le_of_ble_eq_true rfl) ?_
  show Go g _ m_X7_readsMan _ 0 [some (a_R 62), none, none, none, none] [] h
  have hm : 0 ≤ h 62 9 ∧ h 62 9 ≤ 6 := ⟨hs.1, hs.2.1⟩
  refine go_aload_n rfl rfl ?_
  refine go_getI rfl f_X7_110 rfl rfl rfl ?_ -- men
  refine go_bipush rfl ?_
  refine go_icmp_ne rfl (tgt := 11) (by decide) (fun c6 => ?_) (fun c6 => ?_)
  · refine go_aload_n rfl rfl ?_
    refine go_getI rfl f_X7_104 rfl rfl rfl ?_ -- at
    refine go_istore_n rfl (by decide) rfl ?_
    refine go_aload_n rfl rfl ?_
    refine go_iconst rfl ?_
    refine go_aload_n rfl rfl ?_
    refine go_getI rfl f_X7_107 rfl rfl rfl ?_ -- length
    refine go_cV2I (M' := m_X7_number) rfl l_X7_124 k_X7_number (s_X7_number (by first | omega | (simp only [ab_hs_f, ab_hs_i, ab_hs_eq, ne_eq, not_false_eq_true, Nat.reduceEqDiff, Int.reduceEq, reduceCtorEq]; omega)) (by first | omega | (simp only [ab_hs_f, ab_hs_i, ab_hs_eq, ne_eq, not_false_eq_true, Nat.reduceEqDiff, Int.reduceEq, reduceCtorEq]; omega))) rfl rfl rfl rfl (by decide) (Nat.le_of_ble_eq_true rfl) (fun z22 h22 q22 => ?_) -- X7_number
    obtain ⟨rfl, rfl⟩ := q22
    try simp only [ab_hs_f, ab_hs_i, ab_hs_eq, ne_eq, not_false_eq_true, Nat.reduceEqDiff, Int.reduceEq, reduceCtorEq]
    refine go_istore_n rfl (by decide) rfl ?_
    refine go_iload_n rfl rfl ?_
    refine go_iconst rfl ?_
    refine go_icmp_ne rfl (tgt := 33) (by decide) (fun c28 => ?_) (fun c28 => ?_)
    · have w1 : rd_wr (h 67) (h 62 6) (h 62 7) 0 (h 62 8) = -1 := Classical.byContradiction fun q => c28 (if_neg q)
      rw [if_pos w1, if_pos w1]
      refine go_aload_n rfl rfl ?_
      refine go_iload_n rfl rfl ?_
      refine go_cV1I (M' := m_X7_isTaken) rfl l_X7_127 k_X7_isTaken (s_X7_isTaken (by first | omega | (simp only [ab_hs_f, ab_hs_i, ab_hs_eq, ne_eq, not_false_eq_true, Nat.reduceEqDiff, Int.reduceEq, reduceCtorEq]; omega))) rfl rfl rfl rfl (by decide) (Nat.le_of_ble_eq_true rfl) (fun z35 h35 q35 => ?_) -- X7_isTaken
      rw [md_ps_at _ _ _ (by decide)] at q35
      obtain ⟨rfl, rfl⟩ := q35
      refine go_if_eq rfl (tgt := 48) (by decide) (fun c38 => ?_) (fun c38 => ?_)
      · have w2 := rd_n0 c38
        refine go_aload_n rfl rfl ?_
        refine go_cV0I (M' := m_X7_here) rfl l_X7_116 k_X7_here (s_X7_here (by first | omega | (simp only [ab_hs_f, ab_hs_i, ab_hs_eq, ne_eq, not_false_eq_true, Nat.reduceEqDiff, Int.reduceEq, reduceCtorEq]; omega)) (by first | omega | (simp only [ab_hs_f, ab_hs_i, ab_hs_eq, ne_eq, not_false_eq_true, Nat.reduceEqDiff, Int.reduceEq, reduceCtorEq]; omega))) rfl rfl rfl rfl (by decide) (Nat.le_of_ble_eq_true rfl) (fun z49 h49 q49 => ?_) -- X7_here
        try simp only [ab_hs_f, ab_hs_i, ab_hs_eq, ne_eq, not_false_eq_true, Nat.reduceEqDiff, Int.reduceEq, reduceCtorEq] at q49
        obtain ⟨rfl, rfl⟩ := q49
        refine go_bipush rfl ?_
        refine go_icmp_eq rfl (tgt := 68) (by decide) (fun c54 => ?_) (fun c54 => ?_)
        · refine go_aload_n rfl rfl ?_
          refine go_cV0I (M' := m_X7_here) rfl l_X7_116 k_X7_here (s_X7_here (by first | omega | (simp only [ab_hs_f, ab_hs_i, ab_hs_eq, ne_eq, not_false_eq_true, Nat.reduceEqDiff, Int.reduceEq, reduceCtorEq]; omega)) (by first | omega | (simp only [ab_hs_f, ab_hs_i, ab_hs_eq, ne_eq, not_false_eq_true, Nat.reduceEqDiff, Int.reduceEq, reduceCtorEq]; omega))) rfl rfl rfl rfl (by decide) (Nat.le_of_ble_eq_true rfl) (fun z69 h69 q69 => ?_) -- X7_here
          try simp only [ab_hs_f, ab_hs_i, ab_hs_eq, ne_eq, not_false_eq_true, Nat.reduceEqDiff, Int.reduceEq, reduceCtorEq] at q69
          obtain ⟨rfl, rfl⟩ := q69
          refine go_bipush rfl ?_
          refine go_icmp_ne rfl (tgt := 81) (by decide) (fun c74 => ?_) (fun c74 => ?_)
          · refine go_iconst rfl ?_
            refine go_istore_n rfl (by decide) rfl ?_
            refine go_aload_n rfl rfl ?_
            refine go_dup rfl ?_
            refine go_getI rfl f_X7_104 rfl rfl rfl ?_ -- at
            simp only [ab_hs_f, ab_hs_i, ab_hs_eq, ne_eq, not_false_eq_true, Nat.reduceEqDiff, Int.reduceEq, reduceCtorEq]
            refine go_iconst rfl ?_
            refine go_iadd rfl (by unfold ab_iok; omega) ?_
            refine go_putI rfl f_X7_104 rfl rfl rfl ?_ -- at
            rw [ab_hs_hs, show h 62 7 + 2 + 1 = h 62 7 + 3 by omega]
            refine go_aload_n rfl rfl ?_
            refine go_iconst rfl ?_
            refine go_bipush rfl ?_
            refine go_cV2I (M' := m_X7_number) rfl l_X7_124 k_X7_number (s_X7_number (by first | omega | (simp only [ab_hs_f, ab_hs_i, ab_hs_eq, ne_eq, not_false_eq_true, Nat.reduceEqDiff, Int.reduceEq, reduceCtorEq]; omega)) (by first | omega | (simp only [ab_hs_f, ab_hs_i, ab_hs_eq, ne_eq, not_false_eq_true, Nat.reduceEqDiff, Int.reduceEq, reduceCtorEq]; omega))) rfl rfl rfl rfl (by decide) (Nat.le_of_ble_eq_true rfl) (fun z97 h97 q97 => ?_) -- X7_number
            obtain ⟨rfl, rfl⟩ := q97
            try simp only [ab_hs_f, ab_hs_i, ab_hs_eq, ne_eq, not_false_eq_true, Nat.reduceEqDiff, Int.reduceEq, reduceCtorEq]
            refine go_istore rfl (by decide) rfl ?_
            refine go_iload rfl rfl ?_
            refine go_iconst rfl ?_
            refine go_icmp_ne rfl (tgt := 110) (by decide) (fun c105 => ?_) (fun c105 => ?_)
            · have w3 : rd_wr (h 67) (h 62 6) (h 62 7 + 3) 0 40 = -1 := Classical.byContradiction fun q => c105 (if_neg q)
              rw [if_pos w3, if_pos w3, ab_hs_hs]
              refine go_aload_n rfl rfl ?_
              refine go_getR rfl f_X7_25 rfl rfl ?_ -- begin
              refine go_aload_n rfl rfl ?_
              refine go_getI rfl f_X7_110 rfl rfl rfl ?_ -- men
              simp only [ab_hs_f, ab_hs_i, ab_hs_eq, ne_eq, not_false_eq_true, Nat.reduceEqDiff, Int.reduceEq, reduceCtorEq]
              refine go_iload_n rfl rfl ?_
              refine go_iast rfl rfl (by omega) (by omega) ?_
              refine go_aload_n rfl rfl ?_
              refine go_getR rfl f_X7_28 rfl rfl ?_ -- faces
              refine go_aload_n rfl rfl ?_
              refine go_getI rfl f_X7_110 rfl rfl rfl ?_ -- men
              simp only [ab_hs_f, ab_hs_i, ab_hs_eq, ne_eq, not_false_eq_true, Nat.reduceEqDiff, Int.reduceEq, reduceCtorEq]
              refine go_iload_n rfl rfl ?_
              refine go_iast rfl rfl (by omega) (by omega) ?_
              refine go_aload_n rfl rfl ?_
              refine go_getR rfl f_X7_31 rfl rfl ?_ -- sets
              refine go_aload_n rfl rfl ?_
              refine go_getI rfl f_X7_110 rfl rfl rfl ?_ -- men
              simp only [ab_hs_f, ab_hs_i, ab_hs_eq, ne_eq, not_false_eq_true, Nat.reduceEqDiff, Int.reduceEq, reduceCtorEq]
              refine go_iload rfl rfl ?_
              refine go_iast rfl rfl (by omega) (by omega) ?_
              refine go_aload_n rfl rfl ?_
              refine go_dup rfl ?_
              refine go_getI rfl f_X7_110 rfl rfl rfl ?_ -- men
              simp only [ab_hs_f, ab_hs_i, ab_hs_eq, ne_eq, not_false_eq_true, Nat.reduceEqDiff, Int.reduceEq, reduceCtorEq]
              refine go_iconst rfl ?_
              refine go_iadd rfl (by unfold ab_iok; omega) ?_
              refine go_putI rfl f_X7_110 rfl rfl rfl ?_ -- men
              refine go_iconst rfl ?_
              exact go_iret rfl (Or.inr ⟨rfl, by omega⟩) ⟨_, rfl, (absurd c54 c74)⟩
            · have w3 : ¬ rd_wr (h 67) (h 62 6) (h 62 7 + 3) 0 40 = -1 := fun q => by rw [if_pos q] at c105; have := rd_wr_in q (by omega); omega
              rw [if_neg w3, if_neg w3, ab_hs_hs]
              refine go_iconst rfl ?_
              exact go_iret rfl (Or.inr ⟨rfl, by omega⟩) ⟨_, rfl, (absurd c54 c74)⟩
          · refine go_iconst rfl ?_
            refine go_goto rfl (tgt := 82) (by decide) ?_
            refine go_istore_n rfl (by decide) rfl ?_
            refine go_aload_n rfl rfl ?_
            refine go_dup rfl ?_
            refine go_getI rfl f_X7_104 rfl rfl rfl ?_ -- at
            simp only [ab_hs_f, ab_hs_i, ab_hs_eq, ne_eq, not_false_eq_true, Nat.reduceEqDiff, Int.reduceEq, reduceCtorEq]
            refine go_iconst rfl ?_
            refine go_iadd rfl (by unfold ab_iok; omega) ?_
            refine go_putI rfl f_X7_104 rfl rfl rfl ?_ -- at
            rw [ab_hs_hs, show h 62 7 + 2 + 1 = h 62 7 + 3 by omega]
            refine go_aload_n rfl rfl ?_
            refine go_iconst rfl ?_
            refine go_bipush rfl ?_
            refine go_cV2I (M' := m_X7_number) rfl l_X7_124 k_X7_number (s_X7_number (by first | omega | (simp only [ab_hs_f, ab_hs_i, ab_hs_eq, ne_eq, not_false_eq_true, Nat.reduceEqDiff, Int.reduceEq, reduceCtorEq]; omega)) (by first | omega | (simp only [ab_hs_f, ab_hs_i, ab_hs_eq, ne_eq, not_false_eq_true, Nat.reduceEqDiff, Int.reduceEq, reduceCtorEq]; omega))) rfl rfl rfl rfl (by decide) (Nat.le_of_ble_eq_true rfl) (fun z97 h97 q97 => ?_) -- X7_number
            obtain ⟨rfl, rfl⟩ := q97
            try simp only [ab_hs_f, ab_hs_i, ab_hs_eq, ne_eq, not_false_eq_true, Nat.reduceEqDiff, Int.reduceEq, reduceCtorEq]
            refine go_istore rfl (by decide) rfl ?_
            refine go_iload rfl rfl ?_
            refine go_iconst rfl ?_
            refine go_icmp_ne rfl (tgt := 110) (by decide) (fun c105 => ?_) (fun c105 => ?_)
            · have w3 : rd_wr (h 67) (h 62 6) (h 62 7 + 3) 0 40 = -1 := Classical.byContradiction fun q => c105 (if_neg q)
              rw [if_pos w3, if_pos w3, ab_hs_hs]
              refine go_aload_n rfl rfl ?_
              refine go_getR rfl f_X7_25 rfl rfl ?_ -- begin
              refine go_aload_n rfl rfl ?_
              refine go_getI rfl f_X7_110 rfl rfl rfl ?_ -- men
              simp only [ab_hs_f, ab_hs_i, ab_hs_eq, ne_eq, not_false_eq_true, Nat.reduceEqDiff, Int.reduceEq, reduceCtorEq]
              refine go_iload_n rfl rfl ?_
              refine go_iast rfl rfl (by omega) (by omega) ?_
              refine go_aload_n rfl rfl ?_
              refine go_getR rfl f_X7_28 rfl rfl ?_ -- faces
              refine go_aload_n rfl rfl ?_
              refine go_getI rfl f_X7_110 rfl rfl rfl ?_ -- men
              simp only [ab_hs_f, ab_hs_i, ab_hs_eq, ne_eq, not_false_eq_true, Nat.reduceEqDiff, Int.reduceEq, reduceCtorEq]
              refine go_iload_n rfl rfl ?_
              refine go_iast rfl rfl (by omega) (by omega) ?_
              refine go_aload_n rfl rfl ?_
              refine go_getR rfl f_X7_31 rfl rfl ?_ -- sets
              refine go_aload_n rfl rfl ?_
              refine go_getI rfl f_X7_110 rfl rfl rfl ?_ -- men
              simp only [ab_hs_f, ab_hs_i, ab_hs_eq, ne_eq, not_false_eq_true, Nat.reduceEqDiff, Int.reduceEq, reduceCtorEq]
              refine go_iload rfl rfl ?_
              refine go_iast rfl rfl (by omega) (by omega) ?_
              refine go_aload_n rfl rfl ?_
              refine go_dup rfl ?_
              refine go_getI rfl f_X7_110 rfl rfl rfl ?_ -- men
              simp only [ab_hs_f, ab_hs_i, ab_hs_eq, ne_eq, not_false_eq_true, Nat.reduceEqDiff, Int.reduceEq, reduceCtorEq]
              refine go_iconst rfl ?_
              refine go_iadd rfl (by unfold ab_iok; omega) ?_
              refine go_putI rfl f_X7_110 rfl rfl rfl ?_ -- men
              refine go_iconst rfl ?_
              exact go_iret rfl (Or.inr ⟨rfl, by omega⟩) ⟨_, rfl, (by rw [md_man_end, ps_man_ok ((ps_mw_3 (show ¬ 6 ≤ (md_ps h).1 by show ¬ 6 ≤ h 62 9; omega) w1 w2 (Or.inl ((md_isB (by omega) (by omega)).mp c54))).trans w3), if_pos ((md_isB (by omega) (by omega)).mp c54)]; exact ⟨by rw [show h 62 7 + 3 + 2 = h 62 7 + 5 by omega]; rfl, (rd_t rfl).symm⟩)⟩
            · have w3 : ¬ rd_wr (h 67) (h 62 6) (h 62 7 + 3) 0 40 = -1 := fun q => by rw [if_pos q] at c105; have := rd_wr_in q (by omega); omega
              rw [if_neg w3, if_neg w3, ab_hs_hs]
              refine go_iconst rfl ?_
              exact go_iret rfl (Or.inr ⟨rfl, by omega⟩) ⟨_, rfl, (md_fin (ps_man_bad (ps_mw_3 (show ¬ 6 ≤ (md_ps h).1 by show ¬ 6 ≤ h 62 9; omega) w1 w2 (Or.inl ((md_isB (by omega) (by omega)).mp c54))) w3) w3 rfl rfl)⟩
        · refine go_aload_n rfl rfl ?_
          refine go_cV0I (M' := m_X7_here) rfl l_X7_116 k_X7_here (s_X7_here (by first | omega | (simp only [ab_hs_f, ab_hs_i, ab_hs_eq, ne_eq, not_false_eq_true, Nat.reduceEqDiff, Int.reduceEq, reduceCtorEq]; omega)) (by first | omega | (simp only [ab_hs_f, ab_hs_i, ab_hs_eq, ne_eq, not_false_eq_true, Nat.reduceEqDiff, Int.reduceEq, reduceCtorEq]; omega))) rfl rfl rfl rfl (by decide) (Nat.le_of_ble_eq_true rfl) (fun z58 h58 q58 => ?_) -- X7_here
          try simp only [ab_hs_f, ab_hs_i, ab_hs_eq, ne_eq, not_false_eq_true, Nat.reduceEqDiff, Int.reduceEq, reduceCtorEq] at q58
          obtain ⟨rfl, rfl⟩ := q58
          refine go_bipush rfl ?_
          refine go_icmp_eq rfl (tgt := 68) (by decide) (fun c63 => ?_) (fun c63 => ?_)
          · refine go_aload_n rfl rfl ?_
            refine go_cV0I (M' := m_X7_here) rfl l_X7_116 k_X7_here (s_X7_here (by first | omega | (simp only [ab_hs_f, ab_hs_i, ab_hs_eq, ne_eq, not_false_eq_true, Nat.reduceEqDiff, Int.reduceEq, reduceCtorEq]; omega)) (by first | omega | (simp only [ab_hs_f, ab_hs_i, ab_hs_eq, ne_eq, not_false_eq_true, Nat.reduceEqDiff, Int.reduceEq, reduceCtorEq]; omega))) rfl rfl rfl rfl (by decide) (Nat.le_of_ble_eq_true rfl) (fun z69 h69 q69 => ?_) -- X7_here
            try simp only [ab_hs_f, ab_hs_i, ab_hs_eq, ne_eq, not_false_eq_true, Nat.reduceEqDiff, Int.reduceEq, reduceCtorEq] at q69
            obtain ⟨rfl, rfl⟩ := q69
            refine go_bipush rfl ?_
            refine go_icmp_ne rfl (tgt := 81) (by decide) (fun c74 => ?_) (fun c74 => ?_)
            · refine go_iconst rfl ?_
              refine go_istore_n rfl (by decide) rfl ?_
              refine go_aload_n rfl rfl ?_
              refine go_dup rfl ?_
              refine go_getI rfl f_X7_104 rfl rfl rfl ?_ -- at
              simp only [ab_hs_f, ab_hs_i, ab_hs_eq, ne_eq, not_false_eq_true, Nat.reduceEqDiff, Int.reduceEq, reduceCtorEq]
              refine go_iconst rfl ?_
              refine go_iadd rfl (by unfold ab_iok; omega) ?_
              refine go_putI rfl f_X7_104 rfl rfl rfl ?_ -- at
              rw [ab_hs_hs, show h 62 7 + 2 + 1 = h 62 7 + 3 by omega]
              refine go_aload_n rfl rfl ?_
              refine go_iconst rfl ?_
              refine go_bipush rfl ?_
              refine go_cV2I (M' := m_X7_number) rfl l_X7_124 k_X7_number (s_X7_number (by first | omega | (simp only [ab_hs_f, ab_hs_i, ab_hs_eq, ne_eq, not_false_eq_true, Nat.reduceEqDiff, Int.reduceEq, reduceCtorEq]; omega)) (by first | omega | (simp only [ab_hs_f, ab_hs_i, ab_hs_eq, ne_eq, not_false_eq_true, Nat.reduceEqDiff, Int.reduceEq, reduceCtorEq]; omega))) rfl rfl rfl rfl (by decide) (Nat.le_of_ble_eq_true rfl) (fun z97 h97 q97 => ?_) -- X7_number
              obtain ⟨rfl, rfl⟩ := q97
              try simp only [ab_hs_f, ab_hs_i, ab_hs_eq, ne_eq, not_false_eq_true, Nat.reduceEqDiff, Int.reduceEq, reduceCtorEq]
              refine go_istore rfl (by decide) rfl ?_
              refine go_iload rfl rfl ?_
              refine go_iconst rfl ?_
              refine go_icmp_ne rfl (tgt := 110) (by decide) (fun c105 => ?_) (fun c105 => ?_)
              · have w3 : rd_wr (h 67) (h 62 6) (h 62 7 + 3) 0 40 = -1 := Classical.byContradiction fun q => c105 (if_neg q)
                rw [if_pos w3, if_pos w3, ab_hs_hs]
                refine go_aload_n rfl rfl ?_
                refine go_getR rfl f_X7_25 rfl rfl ?_ -- begin
                refine go_aload_n rfl rfl ?_
                refine go_getI rfl f_X7_110 rfl rfl rfl ?_ -- men
                simp only [ab_hs_f, ab_hs_i, ab_hs_eq, ne_eq, not_false_eq_true, Nat.reduceEqDiff, Int.reduceEq, reduceCtorEq]
                refine go_iload_n rfl rfl ?_
                refine go_iast rfl rfl (by omega) (by omega) ?_
                refine go_aload_n rfl rfl ?_
                refine go_getR rfl f_X7_28 rfl rfl ?_ -- faces
                refine go_aload_n rfl rfl ?_
                refine go_getI rfl f_X7_110 rfl rfl rfl ?_ -- men
                simp only [ab_hs_f, ab_hs_i, ab_hs_eq, ne_eq, not_false_eq_true, Nat.reduceEqDiff, Int.reduceEq, reduceCtorEq]
                refine go_iload_n rfl rfl ?_
                refine go_iast rfl rfl (by omega) (by omega) ?_
                refine go_aload_n rfl rfl ?_
                refine go_getR rfl f_X7_31 rfl rfl ?_ -- sets
                refine go_aload_n rfl rfl ?_
                refine go_getI rfl f_X7_110 rfl rfl rfl ?_ -- men
                simp only [ab_hs_f, ab_hs_i, ab_hs_eq, ne_eq, not_false_eq_true, Nat.reduceEqDiff, Int.reduceEq, reduceCtorEq]
                refine go_iload rfl rfl ?_
                refine go_iast rfl rfl (by omega) (by omega) ?_
                refine go_aload_n rfl rfl ?_
                refine go_dup rfl ?_
                refine go_getI rfl f_X7_110 rfl rfl rfl ?_ -- men
                simp only [ab_hs_f, ab_hs_i, ab_hs_eq, ne_eq, not_false_eq_true, Nat.reduceEqDiff, Int.reduceEq, reduceCtorEq]
                refine go_iconst rfl ?_
                refine go_iadd rfl (by unfold ab_iok; omega) ?_
                refine go_putI rfl f_X7_110 rfl rfl rfl ?_ -- men
                refine go_iconst rfl ?_
                exact go_iret rfl (Or.inr ⟨rfl, by omega⟩) ⟨_, rfl, (by rw [md_man_end, ps_man_ok ((ps_mw_3 (show ¬ 6 ≤ (md_ps h).1 by show ¬ 6 ≤ h 62 9; omega) w1 w2 (Or.inr ((md_isB (by omega) (by omega)).mp c63))).trans w3), if_neg (fun q => c54 ((md_isB (by omega) (by omega)).mpr q))]; exact ⟨by rw [show h 62 7 + 3 + 2 = h 62 7 + 5 by omega]; rfl, (rd_t rfl).symm⟩)⟩
              · have w3 : ¬ rd_wr (h 67) (h 62 6) (h 62 7 + 3) 0 40 = -1 := fun q => by rw [if_pos q] at c105; have := rd_wr_in q (by omega); omega
                rw [if_neg w3, if_neg w3, ab_hs_hs]
                refine go_iconst rfl ?_
                exact go_iret rfl (Or.inr ⟨rfl, by omega⟩) ⟨_, rfl, (md_fin (ps_man_bad (ps_mw_3 (show ¬ 6 ≤ (md_ps h).1 by show ¬ 6 ≤ h 62 9; omega) w1 w2 (Or.inr ((md_isB (by omega) (by omega)).mp c63))) w3) w3 rfl rfl)⟩
            · refine go_iconst rfl ?_
              refine go_goto rfl (tgt := 82) (by decide) ?_
              refine go_istore_n rfl (by decide) rfl ?_
              refine go_aload_n rfl rfl ?_
              refine go_dup rfl ?_
              refine go_getI rfl f_X7_104 rfl rfl rfl ?_ -- at
              simp only [ab_hs_f, ab_hs_i, ab_hs_eq, ne_eq, not_false_eq_true, Nat.reduceEqDiff, Int.reduceEq, reduceCtorEq]
              refine go_iconst rfl ?_
              refine go_iadd rfl (by unfold ab_iok; omega) ?_
              refine go_putI rfl f_X7_104 rfl rfl rfl ?_ -- at
              rw [ab_hs_hs, show h 62 7 + 2 + 1 = h 62 7 + 3 by omega]
              refine go_aload_n rfl rfl ?_
              refine go_iconst rfl ?_
              refine go_bipush rfl ?_
              refine go_cV2I (M' := m_X7_number) rfl l_X7_124 k_X7_number (s_X7_number (by first | omega | (simp only [ab_hs_f, ab_hs_i, ab_hs_eq, ne_eq, not_false_eq_true, Nat.reduceEqDiff, Int.reduceEq, reduceCtorEq]; omega)) (by first | omega | (simp only [ab_hs_f, ab_hs_i, ab_hs_eq, ne_eq, not_false_eq_true, Nat.reduceEqDiff, Int.reduceEq, reduceCtorEq]; omega))) rfl rfl rfl rfl (by decide) (Nat.le_of_ble_eq_true rfl) (fun z97 h97 q97 => ?_) -- X7_number
              obtain ⟨rfl, rfl⟩ := q97
              try simp only [ab_hs_f, ab_hs_i, ab_hs_eq, ne_eq, not_false_eq_true, Nat.reduceEqDiff, Int.reduceEq, reduceCtorEq]
              refine go_istore rfl (by decide) rfl ?_
              refine go_iload rfl rfl ?_
              refine go_iconst rfl ?_
              refine go_icmp_ne rfl (tgt := 110) (by decide) (fun c105 => ?_) (fun c105 => ?_)
              · have w3 : rd_wr (h 67) (h 62 6) (h 62 7 + 3) 0 40 = -1 := Classical.byContradiction fun q => c105 (if_neg q)
                rw [if_pos w3, if_pos w3, ab_hs_hs]
                refine go_aload_n rfl rfl ?_
                refine go_getR rfl f_X7_25 rfl rfl ?_ -- begin
                refine go_aload_n rfl rfl ?_
                refine go_getI rfl f_X7_110 rfl rfl rfl ?_ -- men
                simp only [ab_hs_f, ab_hs_i, ab_hs_eq, ne_eq, not_false_eq_true, Nat.reduceEqDiff, Int.reduceEq, reduceCtorEq]
                refine go_iload_n rfl rfl ?_
                refine go_iast rfl rfl (by omega) (by omega) ?_
                refine go_aload_n rfl rfl ?_
                refine go_getR rfl f_X7_28 rfl rfl ?_ -- faces
                refine go_aload_n rfl rfl ?_
                refine go_getI rfl f_X7_110 rfl rfl rfl ?_ -- men
                simp only [ab_hs_f, ab_hs_i, ab_hs_eq, ne_eq, not_false_eq_true, Nat.reduceEqDiff, Int.reduceEq, reduceCtorEq]
                refine go_iload_n rfl rfl ?_
                refine go_iast rfl rfl (by omega) (by omega) ?_
                refine go_aload_n rfl rfl ?_
                refine go_getR rfl f_X7_31 rfl rfl ?_ -- sets
                refine go_aload_n rfl rfl ?_
                refine go_getI rfl f_X7_110 rfl rfl rfl ?_ -- men
                simp only [ab_hs_f, ab_hs_i, ab_hs_eq, ne_eq, not_false_eq_true, Nat.reduceEqDiff, Int.reduceEq, reduceCtorEq]
                refine go_iload rfl rfl ?_
                refine go_iast rfl rfl (by omega) (by omega) ?_
                refine go_aload_n rfl rfl ?_
                refine go_dup rfl ?_
                refine go_getI rfl f_X7_110 rfl rfl rfl ?_ -- men
                simp only [ab_hs_f, ab_hs_i, ab_hs_eq, ne_eq, not_false_eq_true, Nat.reduceEqDiff, Int.reduceEq, reduceCtorEq]
                refine go_iconst rfl ?_
                refine go_iadd rfl (by unfold ab_iok; omega) ?_
                refine go_putI rfl f_X7_110 rfl rfl rfl ?_ -- men
                refine go_iconst rfl ?_
                exact go_iret rfl (Or.inr ⟨rfl, by omega⟩) ⟨_, rfl, (absurd c74 c54)⟩
              · have w3 : ¬ rd_wr (h 67) (h 62 6) (h 62 7 + 3) 0 40 = -1 := fun q => by rw [if_pos q] at c105; have := rd_wr_in q (by omega); omega
                rw [if_neg w3, if_neg w3, ab_hs_hs]
                refine go_iconst rfl ?_
                exact go_iret rfl (Or.inr ⟨rfl, by omega⟩) ⟨_, rfl, (absurd c74 c54)⟩
          · refine go_iconst rfl ?_
            exact go_iret rfl (Or.inr ⟨rfl, by omega⟩) ⟨_, rfl, (md_fin (w := h 62 7 + 2) (ps_man_bad (ps_mw_b (show ¬ 6 ≤ (md_ps h).1 by show ¬ 6 ≤ h 62 9; omega) w1 w2 (fun q => c54 ((md_isB (by omega) (by omega)).mpr q)) (fun q => c63 ((md_isB (by omega) (by omega)).mpr q))) (by omega)) (by omega) rfl rfl)⟩
      · refine go_aload_n rfl rfl ?_
        refine go_iload_n rfl rfl ?_
        refine go_putI rfl f_X7_104 rfl rfl rfl ?_ -- at
        refine go_iconst rfl ?_
        exact go_iret rfl (Or.inr ⟨rfl, by omega⟩) ⟨_, rfl, (md_fin (w := h 62 7) (ps_man_bad (ps_mw_t (show ¬ 6 ≤ (md_ps h).1 by show ¬ 6 ≤ h 62 9; omega) w1 (rd_n1 c38)) (by omega)) (by omega) (by rw [ab_hs_hs]) rfl)⟩
    · have w1 : ¬ rd_wr (h 67) (h 62 6) (h 62 7) 0 (h 62 8) = -1 := fun q => by rw [if_pos q] at c28; have := rd_wr_in q (by omega); omega
      rw [if_neg w1, if_neg w1]
      refine go_iconst rfl ?_
      exact go_iret rfl (Or.inr ⟨rfl, by omega⟩) ⟨_, rfl, (md_fin (ps_man_bad (ps_mw_w (show ¬ 6 ≤ (md_ps h).1 by show ¬ 6 ≤ h 62 9; omega) w1) w1) w1 rfl rfl)⟩
  · refine go_iconst rfl ?_
    exact go_iret rfl (Or.inr ⟨rfl, by omega⟩) ⟨_, rfl, (md_fin (w := h 62 7) (ps_man_bad (ps_mw_6 (show 6 ≤ (md_ps h).1 by show 6 ≤ h 62 9; omega)) (by omega)) (by omega) (rd_hs_self h 62 7).symm rfl)⟩
