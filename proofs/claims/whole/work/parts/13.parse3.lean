/-! Road: the whole text -/
def ps_in (s : ps_T) : Prop := 0 ≤ s.1 ∧ s.1 ≤ 6 ∧ 0 ≤ s.2.2.2.2.1 ∧ s.2.2.2.2.1 ≤ 6
theorem ps_house_in {tx : Int → Int} {n len a : Int} {s : ps_T} (h : ps_in s) (ha : 0 ≤ a) : ps_in (ps_house tx n len a s).2 := by
  unfold ps_house
  by_cases q : ps_hw tx n len a s = -1
  · rw [if_pos q]
    have : ¬ 6 ≤ s.2.2.2.2.1 := fun z => by unfold ps_hw at q; rw [if_pos z] at q; omega
    unfold ps_in at h ⊢
    dsimp only
    omega
  · rw [if_neg q]; exact h
theorem ps_man_in {tx : Int → Int} {n len a : Int} {s : ps_T} (h : ps_in s) (ha : 0 ≤ a) : ps_in (ps_man tx n len a s).2 := by
  unfold ps_man
  by_cases q : ps_mw tx n len a s = -1
  · rw [if_pos q]
    have : ¬ 6 ≤ s.1 := fun z => by unfold ps_mw at q; rw [if_pos z] at q; omega
    unfold ps_in at h ⊢
    dsimp only
    omega
  · rw [if_neg q]; exact h
theorem ps_one_in {tx : Int → Int} {n len a : Int} {s : ps_T} (h : ps_in s) (ha : 0 ≤ a) : ps_in (ps_one tx n len a s).2 := by
  unfold ps_one
  split
  · exact ps_house_in h (by omega)
  · exact ps_man_in h (by omega)
set_option maxHeartbeats 4000000 in
set_option maxRecDepth 100000 in
theorem lp_X2_firstFault {g : ab_G} {Q : Option ab_V → ab_H → Prop} : ∀ (f : Nat) (part a : Int) (w v : Option ab_V) (h : ab_H), part = 80 - (f : Int) → 0 ≤ a ∧ a ≤ 90 ∧ (f : Int) ≤ 80 → h 1 5 ≤ 80 → ps_in (rd_ps h) → Q (some (a_I (ps_run (h 2) (h 1 5) (h 1 7) f a (rd_ps h)).1)) (rd_put h (ps_run (h 2) (h 1 5) (h 1 7) f a (rd_ps h)).2) → Go g (ab_rm 5, 0, 0) m_X2_firstFault Q 29 [some (a_R 1), w, some (a_I a), some (a_I part), v] [] h := by
  intro f
  induction f with
  | zero =>
    intro part a w v h hp ha hb hs hq
    refine go_iload_n rfl rfl ?_
    refine go_bipush rfl ?_
    refine go_icmp_ge rfl (tgt := 116) (by decide) (fun c32 => ?_) (fun c32 => ?_)
    · refine go_iconst rfl ?_
      exact go_iret rfl (Or.inl rfl) (by rw [ps_run, rd_put_self] at hq; exact hq)
    · exact absurd (by omega) c32
  | succ f ih =>
    intro part a w v h hp ha hb hs hq
    refine go_iload_n rfl rfl ?_
    refine go_bipush rfl ?_
    refine go_icmp_ge rfl (tgt := 116) (by decide) (fun c32 => ?_) (fun c32 => ?_)
    · refine go_iconst rfl ?_
      exact go_iret rfl (Or.inl rfl) (absurd c32 (by omega))
    · refine go_iload_n rfl rfl ?_
      refine go_aload_n rfl rfl ?_
      refine go_getI rfl f_X2_27 rfl rfl rfl ?_ -- bytes
      refine go_icmp_ge rfl (tgt := 116) (by decide) (fun c40 => ?_) (fun c40 => ?_)
      · refine go_iconst rfl ?_
        exact go_iret rfl (Or.inl rfl) (by rw [ps_run, if_pos c40, rd_put_self] at hq; exact hq)
      · refine go_aload_n rfl rfl ?_
        refine go_iload_n rfl rfl ?_
        refine go_bipush rfl ?_
        refine go_cV2I (M' := m_X2_isByte) rfl l_X2_55 k_X2_isByte (s_X2_isByte hb) rfl rfl rfl rfl (by decide) (Nat.le_of_ble_eq_true rfl) (fun z47 h47 q47 => ?_) -- X2_isByte
        obtain ⟨rfl, rfl⟩ := q47
        refine go_if_ne rfl (tgt := 55) (by decide) (fun c50 => ?_) (fun c50 => ?_)
        · have f1 := rd_n1 c50
          refine go_aload_n rfl rfl ?_
          refine go_iload_n rfl rfl ?_
          refine go_iconst rfl ?_
          refine go_iadd rfl (by unfold ab_iok; omega) ?_
          refine go_bipush rfl ?_
          refine go_cV2I (M' := m_X2_isByte) rfl l_X2_55 k_X2_isByte (s_X2_isByte hb) rfl rfl rfl rfl (by decide) (Nat.le_of_ble_eq_true rfl) (fun z61 h61 q61 => ?_) -- X2_isByte
          obtain ⟨rfl, rfl⟩ := q61
          refine go_istore rfl (by decide) rfl ?_
          refine go_iload rfl rfl ?_
          refine go_if_eq rfl (tgt := 81) (by decide) (fun c68 => ?_) (fun c68 => ?_)
          · have fH := rd_n0 c68
            refine go_aload_n rfl rfl ?_
            refine go_iload_n rfl rfl ?_
            refine go_iconst rfl ?_
            refine go_iadd rfl (by unfold ab_iok; omega) ?_
            refine go_cV1I (M' := m_X2_takeMan) rfl l_X2_62 k_X2_takeMan (s_X2_takeMan hb ⟨hs.1, hs.2.1⟩ (by omega)) rfl rfl rfl rfl (by decide) (Nat.le_of_ble_eq_true rfl) (fun z85 h85 q85 => ?_) -- X2_takeMan
            obtain ⟨rfl, rfl⟩ := q85
            have e0 : ps_one (h 2) (h 1 5) (h 1 7) a (rd_ps h) = ps_man (h 2) (h 1 5) (h 1 7) (a + 1) (rd_ps h) := by unfold ps_one; rw [if_neg fH]
            rw [← e0]
            refine go_istore_n rfl (by decide) rfl ?_
            refine go_iload_n rfl rfl ?_
            refine go_iconst rfl ?_
            refine go_icmp_eq rfl (tgt := 96) (by decide) (fun c91 => ?_) (fun c91 => ?_)
            · have e2 := ps_one_in (tx := h 2) (n := h 1 5) (len := h 1 7) hs (show 0 ≤ a by omega)
              rw [show ps_run (h 2) (h 1 5) (h 1 7) (f + 1) a (rd_ps h) = ps_run (h 2) (h 1 5) (h 1 7) f (a + if rd_isB (h 2) (h 1 5) (a + 1) 104 then 4 else 6) (ps_one (h 2) (h 1 5) (h 1 7) a (rd_ps h)).2 by rw [ps_run, if_neg c40, if_neg (fun q => q f1), if_neg (fun q => q c91)], if_neg fH] at hq
              refine go_iload_n rfl rfl ?_
              refine go_iload rfl rfl ?_
              refine go_if_eq rfl (tgt := 106) (by decide) (fun c99 => ?_) (fun c99 => ?_)
              · have bad := rd_n0 c99
                refine go_bipush rfl ?_
                refine go_iadd rfl (by unfold ab_iok; omega) ?_
                refine go_istore_n rfl (by decide) rfl ?_
                refine go_iinc rfl rfl (by decide) rfl (by unfold ab_iok; omega) ?_
                refine go_goto rfl (tgt := 29) (by decide) ?_
                first | exact absurd bad fH | exact absurd fH bad | exact ih (part + 1) _ _ _ _ (by omega) (by omega) (by rw [rd_put_1 (by decide)]; exact hb) (by rw [rd_ps_put]; exact e2) (by rw [rd_put_f (by decide), rd_put_1 (by decide), rd_put_1 (by decide), rd_ps_put, rd_put_put]; exact hq)
              · have bad := rd_n1 c99
                refine go_iconst rfl ?_
                refine go_goto rfl (tgt := 108) (by decide) ?_
                refine go_iadd rfl (by unfold ab_iok; omega) ?_
                refine go_istore_n rfl (by decide) rfl ?_
                refine go_iinc rfl rfl (by decide) rfl (by unfold ab_iok; omega) ?_
                refine go_goto rfl (tgt := 29) (by decide) ?_
                first | exact absurd bad fH | exact absurd fH bad | exact ih (part + 1) _ _ _ _ (by omega) (by omega) (by rw [rd_put_1 (by decide)]; exact hb) (by rw [rd_ps_put]; exact e2) (by rw [rd_put_f (by decide), rd_put_1 (by decide), rd_put_1 (by decide), rd_ps_put, rd_put_put]; exact hq)
            · refine go_iload_n rfl rfl ?_
              exact go_iret rfl (Or.inl rfl) (by rw [ps_run, if_neg c40, if_neg (fun q => q f1), if_pos c91] at hq; exact hq)
          · have fH := rd_n1 c68
            refine go_aload_n rfl rfl ?_
            refine go_iload_n rfl rfl ?_
            refine go_iconst rfl ?_
            refine go_iadd rfl (by unfold ab_iok; omega) ?_
            refine go_cV1I (M' := m_X2_takeHouse) rfl l_X2_59 k_X2_takeHouse (s_X2_takeHouse hb ⟨hs.2.2.1, hs.2.2.2⟩ (by omega)) rfl rfl rfl rfl (by decide) (Nat.le_of_ble_eq_true rfl) (fun z75 h75 q75 => ?_) -- X2_takeHouse
            obtain ⟨rfl, rfl⟩ := q75
            refine go_goto rfl (tgt := 88) (by decide) ?_
            have e0 : ps_one (h 2) (h 1 5) (h 1 7) a (rd_ps h) = ps_house (h 2) (h 1 5) (h 1 7) (a + 1) (rd_ps h) := by unfold ps_one; rw [if_pos fH]
            rw [← e0]
            refine go_istore_n rfl (by decide) rfl ?_
            refine go_iload_n rfl rfl ?_
            refine go_iconst rfl ?_
            refine go_icmp_eq rfl (tgt := 96) (by decide) (fun c91 => ?_) (fun c91 => ?_)
            · have e2 := ps_one_in (tx := h 2) (n := h 1 5) (len := h 1 7) hs (show 0 ≤ a by omega)
              rw [show ps_run (h 2) (h 1 5) (h 1 7) (f + 1) a (rd_ps h) = ps_run (h 2) (h 1 5) (h 1 7) f (a + if rd_isB (h 2) (h 1 5) (a + 1) 104 then 4 else 6) (ps_one (h 2) (h 1 5) (h 1 7) a (rd_ps h)).2 by rw [ps_run, if_neg c40, if_neg (fun q => q f1), if_neg (fun q => q c91)], if_pos fH] at hq
              refine go_iload_n rfl rfl ?_
              refine go_iload rfl rfl ?_
              refine go_if_eq rfl (tgt := 106) (by decide) (fun c99 => ?_) (fun c99 => ?_)
              · have bad := rd_n0 c99
                refine go_bipush rfl ?_
                refine go_iadd rfl (by unfold ab_iok; omega) ?_
                refine go_istore_n rfl (by decide) rfl ?_
                refine go_iinc rfl rfl (by decide) rfl (by unfold ab_iok; omega) ?_
                refine go_goto rfl (tgt := 29) (by decide) ?_
                first | exact absurd bad fH | exact absurd fH bad | exact ih (part + 1) _ _ _ _ (by omega) (by omega) (by rw [rd_put_1 (by decide)]; exact hb) (by rw [rd_ps_put]; exact e2) (by rw [rd_put_f (by decide), rd_put_1 (by decide), rd_put_1 (by decide), rd_ps_put, rd_put_put]; exact hq)
              · have bad := rd_n1 c99
                refine go_iconst rfl ?_
                refine go_goto rfl (tgt := 108) (by decide) ?_
                refine go_iadd rfl (by unfold ab_iok; omega) ?_
                refine go_istore_n rfl (by decide) rfl ?_
                refine go_iinc rfl rfl (by decide) rfl (by unfold ab_iok; omega) ?_
                refine go_goto rfl (tgt := 29) (by decide) ?_
                first | exact absurd bad fH | exact absurd fH bad | exact ih (part + 1) _ _ _ _ (by omega) (by omega) (by rw [rd_put_1 (by decide)]; exact hb) (by rw [rd_ps_put]; exact e2) (by rw [rd_put_f (by decide), rd_put_1 (by decide), rd_put_1 (by decide), rd_ps_put, rd_put_put]; exact hq)
            · refine go_iload_n rfl rfl ?_
              exact go_iret rfl (Or.inl rfl) (by rw [ps_run, if_neg c40, if_neg (fun q => q f1), if_pos c91] at hq; exact hq)
        · refine go_iload_n rfl rfl ?_
          exact go_iret rfl (Or.inl rfl) (by rw [ps_run, if_neg c40, if_pos (rd_n0 c50), rd_put_self] at hq; exact hq)
/-- what the text is: the fault, the length (as it was where the first number is wrong), men and houses -/
noncomputable def ps_all (tx : Int → Int) (n : Int) (s : ps_T) : Int × ps_T := if rd_wr tx n 0 1 40 ≠ -1 then (rd_wr tx n 0 1 40, s) else ps_run tx n (rd_num tx 0) 80 2 s
def ps_len (tx : Int → Int) (n len : Int) : Int := if rd_wr tx n 0 1 40 ≠ -1 then len else rd_num tx 0
theorem rd_put_len (h : ab_H) (s : ps_T) (z : Int) : rd_put (ab_hs h 1 7 z) s = ab_hs (rd_put h s) 1 7 z := by
  funext a b
  unfold rd_put ab_hs
  by_cases h1 : a = 1
  · subst h1
    by_cases h8 : b = 8
    · subst h8; simp
    · by_cases h9 : b = 9
      · subst h9; simp
      · simp [h8, h9]
  · simp [h1]
theorem rd_ps_len (h : ab_H) (z : Int) : rd_ps (ab_hs h 1 7 z) = rd_ps h := rfl
theorem rd_hs_self (h : ab_H) (k : Nat) (i : Int) : ab_hs h k i (h k i) = h := by
  funext a b
  unfold ab_hs
  split
  · rename_i q; rw [q.1, q.2]
  · rfl
set_option maxHeartbeats 4000000 in
set_option maxRecDepth 100000 in
theorem s_X2_firstFault {g : ab_G} {h : ab_H} (hb : h 1 5 ≤ 80) (hs : ps_in (rd_ps h)) : MethI g 5 m_X2_firstFault [a_R 1] h (fun z h' => z = (ps_all (h 2) (h 1 5) (rd_ps h)).1 ∧ h' = ab_hs (rd_put h (ps_all (h 2) (h 1 5) (rd_ps h)).2) 1 7 (ps_len (h 2) (h 1 5) (h 1 7))) := by
  refine Meth.of_go k_X2_firstFault (Nat.le_of_ble_eq_true rfl) ?_
  show Go g _ m_X2_firstFault _ 0 [some (a_R 1), none, none, none, none] [] h
  refine go_aload_n rfl rfl ?_
  refine go_iconst rfl ?_
  refine go_iconst rfl ?_
  refine go_bipush rfl ?_
  refine go_cV3I (M' := m_X2_wrongNumber) rfl l_X2_47 k_X2_wrongNumber (s_X2_wrongNumber hb (by omega)) rfl rfl rfl rfl (by decide) (Nat.le_of_ble_eq_true rfl) (fun z5 h5 q5 => ?_) -- X2_wrongNumber
  obtain ⟨rfl, rfl⟩ := q5
  refine go_istore_n rfl (by decide) rfl ?_
  refine go_iload_n rfl rfl ?_
  refine go_iconst rfl ?_
  refine go_icmp_eq rfl (tgt := 16) (by decide) (fun c11 => ?_) (fun c11 => ?_)
  · have f1 := rd_wr_ok c11
    refine go_aload_n rfl rfl ?_
    refine go_aload_n rfl rfl ?_
    refine go_iconst rfl ?_
    refine go_cV1I (M' := m_X2_number) rfl l_X2_51 k_X2_number (s_X2_number hb (by omega)) rfl rfl rfl rfl (by decide) (Nat.le_of_ble_eq_true rfl) (fun z19 h19 q19 => ?_) -- X2_number
    obtain ⟨rfl, rfl⟩ := q19
    rw [if_pos f1]
    refine go_putI rfl f_X2_34 rfl rfl rfl ?_ -- length
    refine go_iconst rfl ?_
    refine go_istore_n rfl (by decide) rfl ?_
    refine go_iconst rfl ?_
    refine go_istore_n rfl (by decide) rfl ?_
    refine lp_X2_firstFault 80 _ _ _ _ _ rfl (by omega) (by rw [ab_hs_i (by decide)]; exact hb) (by rw [rd_ps_len]; exact hs) ⟨_, rfl, ?_⟩
    rw [ab_hs_f (by decide), ab_hs_i (by decide), ab_hs_eq, rd_ps_len]
    unfold ps_all ps_len
    rw [if_neg (fun q => q c11), if_neg (fun q => q c11)]
    exact ⟨rfl, rd_put_len h _ _⟩
  · refine go_iload_n rfl rfl ?_
    exact go_iret rfl (Or.inl rfl) ⟨_, rfl, by unfold ps_all ps_len; rw [if_pos c11, if_pos c11]; exact ⟨rfl, by rw [rd_put_self]; exact (rd_hs_self h 1 7).symm⟩⟩
set_option maxHeartbeats 4000000 in
set_option maxRecDepth 100000 in
theorem s_X2_append {g : ab_G} {h : ab_H} {v : Int} (hb : 0 ≤ h 1 5) : MethV g 1 m_X2_append [a_R 1, a_I v] h (fun h' => h' = if h 1 5 < 80 then ab_hs (ab_hs h 2 (h 1 5) v) 1 5 (h 1 5 + 1) else h) := by
  refine Meth.of_go k_X2_append (Nat.le_of_ble_eq_true rfl) ?_
  show Go g _ m_X2_append _ 0 [some (a_R 1), some (a_I v)] [] h
  refine go_aload_n rfl rfl ?_
  refine go_getI rfl f_X2_27 rfl rfl rfl ?_ -- bytes
  refine go_bipush rfl ?_
  refine go_icmp_ge rfl (tgt := 29) (by decide) (fun c6 => ?_) (fun c6 => ?_)
  · exact go_ret rfl rfl ⟨rfl, by rw [if_neg (by omega)]⟩
  · refine go_aload_n rfl rfl ?_
    refine go_getR rfl f_X2_9 rfl rfl ?_ -- text
    refine go_aload_n rfl rfl ?_
    refine go_getI rfl f_X2_27 rfl rfl rfl ?_ -- bytes
    refine go_iload_n rfl rfl ?_
    refine go_iast rfl rfl (by omega) (by omega) ?_
    refine go_aload_n rfl rfl ?_
    refine go_dup rfl ?_
    refine go_getI rfl f_X2_27 rfl rfl rfl ?_ -- bytes
    simp only [ab_hs_f, ne_eq, Nat.reduceEqDiff, not_false_eq_true]
    refine go_iconst rfl ?_
    refine go_iadd rfl (by unfold ab_iok; omega) ?_
    refine go_putI rfl f_X2_27 rfl rfl rfl ?_ -- bytes
    exact go_ret rfl rfl ⟨rfl, by rw [if_pos (by omega)]⟩
/-- the text's own answer: fault, length, men and houses (from rows that hold anything) -/
noncomputable def ps_R (h : ab_H) : Int × ps_T := ps_all (h 2) (h 1 5) (0, h 3, h 4, h 5, 0, h 6)
theorem ps_all_len {tx : Int → Int} {n : Int} {s : ps_T} (h : (ps_all tx n s).1 = -1) (len : Int) : ps_len tx n len = rd_num tx 0 := by
  unfold ps_len
  unfold ps_all at h
  by_cases q : rd_wr tx n 0 1 40 ≠ -1
  · rw [if_pos q] at h; exact absurd h q
  · rw [if_neg q]
def ps_Post (h h' : ab_H) : Prop := h' 1 6 = (ps_R h).1 ∧ ((ps_R h).1 = -1 → h' 1 7 = rd_num (h 2) 0 ∧ rd_ps h' = (ps_R h).2) ∧ ((ps_R h).1 ≠ -1 → h' 1 7 = 1 ∧ h' 1 8 = 0 ∧ h' 1 9 = 0) ∧ (∀ k, ¬ (k = 1 ∨ k = 3 ∨ k = 4 ∨ k = 5 ∨ k = 6) → h' k = h k) ∧ h' 1 5 = h 1 5
set_option maxHeartbeats 4000000 in
set_option maxRecDepth 100000 in
theorem s_X2_parse {g : ab_G} {h : ab_H} (hb : h 1 5 ≤ 80) : MethV g 6 m_X2_parse [a_R 1] h (fun h' => ps_Post h h') := by
  refine Meth.of_go k_X2_parse (Nat.le_of_ble_eq_true rfl) ?_
  show Go g _ m_X2_parse _ 0 [some (a_R 1)] [] h
  refine go_aload_n rfl rfl ?_
  refine go_iconst rfl ?_
  refine go_putI rfl f_X2_37 rfl rfl rfl ?_ -- men
  refine go_aload_n rfl rfl ?_
  refine go_iconst rfl ?_
  refine go_putI rfl f_X2_40 rfl rfl rfl ?_ -- houses
  refine go_aload_n rfl rfl ?_
  refine go_aload_n rfl rfl ?_
  refine go_cV0I (M' := m_X2_firstFault) rfl l_X2_43 k_X2_firstFault (s_X2_firstFault (h := ab_hs (ab_hs h 1 8 0) 1 9 0) (by rw [ab_hs_i (by decide), ab_hs_i (by decide)]; exact hb) (show ps_in (rd_ps (ab_hs (ab_hs h 1 8 0) 1 9 0)) from ⟨(by show (0 : Int) ≤ 0; decide), (by show (0 : Int) ≤ 6; decide), (by show (0 : Int) ≤ 0; decide), (by show (0 : Int) ≤ 6; decide)⟩)) rfl rfl rfl rfl (by decide) (Nat.le_of_ble_eq_true rfl) (fun z12 h12 q12 => ?_) -- X2_firstFault
  obtain ⟨rfl, rfl⟩ := q12
  rw [ab_hs_f (show 2 ≠ 1 by decide), ab_hs_f (show 2 ≠ 1 by decide), ab_hs_i (show (5 : Int) ≠ 9 by decide), ab_hs_i (show (5 : Int) ≠ 8 by decide), ab_hs_i (show (7 : Int) ≠ 9 by decide), ab_hs_i (show (7 : Int) ≠ 8 by decide), show rd_ps (ab_hs (ab_hs h 1 8 0) 1 9 0) = (0, h 3, h 4, h 5, 0, h 6) from rfl]
  change Go g _ _ _ _ _ (a_I (ps_R h).1 :: _) (ab_hs (rd_put _ (ps_R h).2) _ _ _)
  refine go_putI rfl f_X2_31 rfl rfl rfl ?_ -- fault
  refine go_aload_n rfl rfl ?_
  refine go_getI rfl f_X2_31 rfl rfl rfl ?_ -- fault
  rw [ab_hs_eq]
  refine go_iconst rfl ?_
  refine go_icmp_eq rfl (tgt := 41) (by decide) (fun c23 => ?_) (fun c23 => ?_)
  · refine go_ret rfl rfl ⟨rfl, ?_, fun _ => ⟨?_, ?_⟩, fun q => absurd c23 q, fun k hk => ?_, ?_⟩
    · rw [ab_hs_eq]
    · rw [ab_hs_i (by decide), ab_hs_eq]; exact ps_all_len c23 _
    · rfl
    · rw [ab_hs_f (by omega), ab_hs_f (by omega), rd_put_f hk, ab_hs_f (by omega), ab_hs_f (by omega)]
    · rw [ab_hs_i (by decide), ab_hs_i (by decide), rd_put_1 (by decide), ab_hs_i (by decide), ab_hs_i (by decide)]
  · refine go_aload_n rfl rfl ?_
    refine go_iconst rfl ?_
    refine go_putI rfl f_X2_34 rfl rfl rfl ?_ -- length
    refine go_aload_n rfl rfl ?_
    refine go_iconst rfl ?_
    refine go_putI rfl f_X2_37 rfl rfl rfl ?_ -- men
    refine go_aload_n rfl rfl ?_
    refine go_iconst rfl ?_
    refine go_putI rfl f_X2_40 rfl rfl rfl ?_ -- houses
    refine go_ret rfl rfl ⟨rfl, ?_, fun q => absurd q c23, fun _ => ⟨?_, ?_, ?_⟩, fun k hk => ?_, ?_⟩
    · rw [ab_hs_i (by decide), ab_hs_i (by decide), ab_hs_i (by decide), ab_hs_eq]
    · rw [ab_hs_i (by decide), ab_hs_i (by decide), ab_hs_eq]
    · rw [ab_hs_i (by decide), ab_hs_eq]
    · rw [ab_hs_eq]
    · rw [ab_hs_f (by omega), ab_hs_f (by omega), ab_hs_f (by omega), ab_hs_f (by omega), ab_hs_f (by omega), rd_put_f hk, ab_hs_f (by omega), ab_hs_f (by omega)]
    · rw [ab_hs_i (by decide), ab_hs_i (by decide), ab_hs_i (by decide), ab_hs_i (by decide), ab_hs_i (by decide), rd_put_1 (by decide), ab_hs_i (by decide), ab_hs_i (by decide)]
