/-! Road: the text and its numbers -/
/-- the text of n bytes: is a figure at i; the number of two figures at i; where a number from lo to hi at i is wrong (-1: nowhere) -/
abbrev rd_fig (tx : Int → Int) (n i : Int) : Prop := 0 ≤ i ∧ i < n ∧ 48 ≤ tx i ∧ tx i ≤ 57
abbrev rd_isB (tx : Int → Int) (n i b : Int) : Prop := 0 ≤ i ∧ i < n ∧ tx i = b
def rd_num (tx : Int → Int) (i : Int) : Int := 10 * (tx i - 48) + tx (i + 1) - 48
def rd_wr (tx : Int → Int) (n i lo hi : Int) : Int := if rd_fig tx n i then (if rd_fig tx n (i + 1) then (if lo ≤ rd_num tx i ∧ rd_num tx i ≤ hi then -1 else i) else i + 1) else i
noncomputable def rd_bool (c : Prop) : Int := haveI := Classical.propDecidable c; if c then 1 else 0
theorem rd_t {c : Prop} (h : c) : rd_bool c = 1 := by unfold rd_bool; exact if_pos h
theorem rd_f {c : Prop} (h : ¬ c) : rd_bool c = 0 := by unfold rd_bool; exact if_neg h
theorem rd_01 (c : Prop) : rd_bool c = 0 ∨ rd_bool c = 1 := by
  by_cases h : c
  · exact Or.inr (rd_t h)
  · exact Or.inl (rd_f h)
theorem rd_n0 {c : Prop} (q : rd_bool c = 0) : ¬ c := fun h => by rw [rd_t h] at q; cases q
theorem rd_n1 {c : Prop} (q : ¬ rd_bool c = 0) : c := Classical.byContradiction fun h => q (rd_f h)
theorem rd_iff {c d : Prop} (h : c ↔ d) : rd_bool c = rd_bool d := by rw [propext h]
theorem rd_num_in {tx : Int → Int} {n i : Int} (h1 : rd_fig tx n i) (h2 : rd_fig tx n (i + 1)) : 0 ≤ rd_num tx i ∧ rd_num tx i ≤ 99 := by unfold rd_num; omega
set_option maxHeartbeats 4000000 in
set_option maxRecDepth 100000 in
theorem s_X2_isFigure {g : ab_G} {h : ab_H} {a : Int} (hb : h 1 5 ≤ 80) : MethI g 1 m_X2_isFigure [a_R 1, a_I a] h (fun z h' => h = h' ∧ z = rd_bool (rd_fig (h 2) (h 1 5) a)) := by
  refine Meth.of_go k_X2_isFigure (Nat.le_of_ble_eq_true rfl) ?_
  show Go g _ m_X2_isFigure _ 0 [some (a_R 1), some (a_I a)] [] h
  refine go_iload_n rfl rfl ?_
  refine go_if_lt rfl (tgt := 38) (by decide) (fun c1 => ?_) (fun c1 => ?_)
  · refine go_iconst rfl ?_
    exact go_iret rfl (Or.inr ⟨rfl, by omega⟩) ⟨_, rfl, rfl, (rd_f (by omega)).symm⟩
  · refine go_iload_n rfl rfl ?_
    refine go_aload_n rfl rfl ?_
    refine go_getI rfl f_X2_27 rfl rfl rfl ?_ -- bytes
    refine go_icmp_ge rfl (tgt := 38) (by decide) (fun c9 => ?_) (fun c9 => ?_)
    · refine go_iconst rfl ?_
      exact go_iret rfl (Or.inr ⟨rfl, by omega⟩) ⟨_, rfl, rfl, (rd_f (by omega)).symm⟩
    · refine go_aload_n rfl rfl ?_
      refine go_getR rfl f_X2_9 rfl rfl ?_ -- text
      refine go_iload_n rfl rfl ?_
      refine go_iald rfl rfl (by omega) (by omega) ?_
      refine go_bipush rfl ?_
      refine go_icmp_lt rfl (tgt := 38) (by decide) (fun c20 => ?_) (fun c20 => ?_)
      · refine go_iconst rfl ?_
        exact go_iret rfl (Or.inr ⟨rfl, by omega⟩) ⟨_, rfl, rfl, (rd_f (by omega)).symm⟩
      · refine go_aload_n rfl rfl ?_
        refine go_getR rfl f_X2_9 rfl rfl ?_ -- text
        refine go_iload_n rfl rfl ?_
        refine go_iald rfl rfl (by omega) (by omega) ?_
        refine go_bipush rfl ?_
        refine go_icmp_gt rfl (tgt := 38) (by decide) (fun c31 => ?_) (fun c31 => ?_)
        · refine go_iconst rfl ?_
          exact go_iret rfl (Or.inr ⟨rfl, by omega⟩) ⟨_, rfl, rfl, (rd_f (by omega)).symm⟩
        · refine go_iconst rfl ?_
          refine go_goto rfl (tgt := 39) (by decide) ?_
          exact go_iret rfl (Or.inr ⟨rfl, by omega⟩) ⟨_, rfl, rfl, (rd_t (by omega)).symm⟩
set_option maxHeartbeats 4000000 in
set_option maxRecDepth 100000 in
theorem s_X2_isByte {g : ab_G} {h : ab_H} {a b : Int} (hb : h 1 5 ≤ 80) : MethI g 1 m_X2_isByte [a_R 1, a_I a, a_I b] h (fun z h' => h = h' ∧ z = rd_bool (rd_isB (h 2) (h 1 5) a b)) := by
  refine Meth.of_go k_X2_isByte (Nat.le_of_ble_eq_true rfl) ?_
  show Go g _ m_X2_isByte _ 0 [some (a_R 1), some (a_I a), some (a_I b)] [] h
  refine go_iload_n rfl rfl ?_
  refine go_if_lt rfl (tgt := 26) (by decide) (fun c1 => ?_) (fun c1 => ?_)
  · refine go_iconst rfl ?_
    exact go_iret rfl (Or.inr ⟨rfl, by omega⟩) ⟨_, rfl, rfl, (rd_f (by omega)).symm⟩
  · refine go_iload_n rfl rfl ?_
    refine go_aload_n rfl rfl ?_
    refine go_getI rfl f_X2_27 rfl rfl rfl ?_ -- bytes
    refine go_icmp_ge rfl (tgt := 26) (by decide) (fun c9 => ?_) (fun c9 => ?_)
    · refine go_iconst rfl ?_
      exact go_iret rfl (Or.inr ⟨rfl, by omega⟩) ⟨_, rfl, rfl, (rd_f (by omega)).symm⟩
    · refine go_aload_n rfl rfl ?_
      refine go_getR rfl f_X2_9 rfl rfl ?_ -- text
      refine go_iload_n rfl rfl ?_
      refine go_iald rfl rfl (by omega) (by omega) ?_
      refine go_iload_n rfl rfl ?_
      refine go_icmp_ne rfl (tgt := 26) (by decide) (fun c19 => ?_) (fun c19 => ?_)
      · refine go_iconst rfl ?_
        exact go_iret rfl (Or.inr ⟨rfl, by omega⟩) ⟨_, rfl, rfl, (rd_f (by omega)).symm⟩
      · refine go_iconst rfl ?_
        refine go_goto rfl (tgt := 27) (by decide) ?_
        exact go_iret rfl (Or.inr ⟨rfl, by omega⟩) ⟨_, rfl, rfl, (rd_t (by omega)).symm⟩
set_option maxHeartbeats 4000000 in
set_option maxRecDepth 100000 in
theorem s_X2_number {g : ab_G} {h : ab_H} {a : Int} (hb : h 1 5 ≤ 80) (ha : 0 ≤ a ∧ a ≤ 1000) : MethI g 2 m_X2_number [a_R 1, a_I a] h (fun z h' => h = h' ∧ z = if rd_fig (h 2) (h 1 5) a ∧ rd_fig (h 2) (h 1 5) (a + 1) then rd_num (h 2) a else 0) := by
  refine Meth.of_go k_X2_number (Nat.le_of_ble_eq_true rfl) ?_
  show Go g _ m_X2_number _ 0 [some (a_R 1), some (a_I a)] [] h
  refine go_aload_n rfl rfl ?_
  refine go_iload_n rfl rfl ?_
  refine go_cV1I (M' := m_X2_isFigure) rfl l_X2_69 k_X2_isFigure (s_X2_isFigure hb) rfl rfl rfl rfl (by decide) (Nat.le_of_ble_eq_true rfl) (fun z2 h2 q2 => ?_) -- X2_isFigure
  obtain ⟨rfl, rfl⟩ := q2
  refine go_if_eq rfl (tgt := 18) (by decide) (fun c5 => ?_) (fun c5 => ?_)
  · refine go_iconst rfl ?_
    exact go_iret rfl (Or.inl rfl) ⟨_, rfl, rfl, (if_neg (fun q => rd_n0 c5 q.1)).symm⟩
  · have f1 := rd_n1 c5
    refine go_aload_n rfl rfl ?_
    refine go_iload_n rfl rfl ?_
    refine go_iconst rfl ?_
    refine go_iadd rfl (by unfold ab_iok; omega) ?_
    refine go_cV1I (M' := m_X2_isFigure) rfl l_X2_69 k_X2_isFigure (s_X2_isFigure hb) rfl rfl rfl rfl (by decide) (Nat.le_of_ble_eq_true rfl) (fun z12 h12 q12 => ?_) -- X2_isFigure
    obtain ⟨rfl, rfl⟩ := q12
    refine go_if_ne rfl (tgt := 20) (by decide) (fun c15 => ?_) (fun c15 => ?_)
    · have f2 := rd_n1 c15
      refine go_bipush rfl ?_
      refine go_aload_n rfl rfl ?_
      refine go_getR rfl f_X2_9 rfl rfl ?_ -- text
      refine go_iload_n rfl rfl ?_
      refine go_iald rfl rfl (by omega) (by omega) ?_
      refine go_bipush rfl ?_
      refine go_isub rfl (by unfold ab_iok; omega) ?_
      refine go_imul rfl (by unfold ab_iok; omega) ?_
      refine go_aload_n rfl rfl ?_
      refine go_getR rfl f_X2_9 rfl rfl ?_ -- text
      refine go_iload_n rfl rfl ?_
      refine go_iconst rfl ?_
      refine go_iadd rfl (by unfold ab_iok; omega) ?_
      refine go_iald rfl rfl (by omega) (by omega) ?_
      refine go_iadd rfl (by unfold ab_iok; omega) ?_
      refine go_bipush rfl ?_
      refine go_isub rfl (by unfold ab_iok; omega) ?_
      exact go_iret rfl (Or.inl rfl) ⟨_, rfl, rfl, (if_pos ⟨f1, f2⟩).symm⟩
    · refine go_iconst rfl ?_
      exact go_iret rfl (Or.inl rfl) ⟨_, rfl, rfl, (if_neg (fun q => rd_n0 c15 q.2)).symm⟩
set_option maxHeartbeats 4000000 in
set_option maxRecDepth 100000 in
theorem s_X2_wrongNumber {g : ab_G} {h : ab_H} {a lo hi : Int} (hb : h 1 5 ≤ 80) (ha : 0 ≤ a ∧ a ≤ 1000) : MethI g 3 m_X2_wrongNumber [a_R 1, a_I a, a_I lo, a_I hi] h (fun z h' => h = h' ∧ z = rd_wr (h 2) (h 1 5) a lo hi) := by
  refine Meth.of_go k_X2_wrongNumber (Nat.le_of_ble_eq_true rfl) ?_
  show Go g _ m_X2_wrongNumber _ 0 [some (a_R 1), some (a_I a), some (a_I lo), some (a_I hi), none] [] h
  refine go_aload_n rfl rfl ?_
  refine go_iload_n rfl rfl ?_
  refine go_cV1I (M' := m_X2_isFigure) rfl l_X2_69 k_X2_isFigure (s_X2_isFigure hb) rfl rfl rfl rfl (by decide) (Nat.le_of_ble_eq_true rfl) (fun z2 h2 q2 => ?_) -- X2_isFigure
  obtain ⟨rfl, rfl⟩ := q2
  refine go_if_ne rfl (tgt := 10) (by decide) (fun c5 => ?_) (fun c5 => ?_)
  · have f1 := rd_n1 c5
    refine go_aload_n rfl rfl ?_
    refine go_iload_n rfl rfl ?_
    refine go_iconst rfl ?_
    refine go_iadd rfl (by unfold ab_iok; omega) ?_
    refine go_cV1I (M' := m_X2_isFigure) rfl l_X2_69 k_X2_isFigure (s_X2_isFigure hb) rfl rfl rfl rfl (by decide) (Nat.le_of_ble_eq_true rfl) (fun z14 h14 q14 => ?_) -- X2_isFigure
    obtain ⟨rfl, rfl⟩ := q14
    refine go_if_ne rfl (tgt := 24) (by decide) (fun c17 => ?_) (fun c17 => ?_)
    · have f2 := rd_n1 c17
      refine go_aload_n rfl rfl ?_
      refine go_iload_n rfl rfl ?_
      refine go_cV1I (M' := m_X2_number) rfl l_X2_51 k_X2_number (s_X2_number hb ha) rfl rfl rfl rfl (by decide) (Nat.le_of_ble_eq_true rfl) (fun z26 h26 q26 => ?_) -- X2_number
      obtain ⟨rfl, rfl⟩ := q26
      rw [if_pos ⟨f1, f2⟩]
      refine go_istore rfl (by decide) rfl ?_
      refine go_iload rfl rfl ?_
      refine go_iload_n rfl rfl ?_
      refine go_icmp_lt rfl (tgt := 43) (by decide) (fun c34 => ?_) (fun c34 => ?_)
      · refine go_iload_n rfl rfl ?_
        refine go_goto rfl (tgt := 48) (by decide) ?_
        exact go_iret rfl (Or.inl rfl) ⟨_, rfl, rfl, by unfold rd_wr; rw [if_pos f1, if_pos f2, if_neg (by omega)]⟩
      · refine go_iload rfl rfl ?_
        refine go_iload_n rfl rfl ?_
        refine go_icmp_le rfl (tgt := 47) (by decide) (fun c40 => ?_) (fun c40 => ?_)
        · refine go_iconst rfl ?_
          exact go_iret rfl (Or.inl rfl) ⟨_, rfl, rfl, by unfold rd_wr; rw [if_pos f1, if_pos f2, if_pos (by omega)]⟩
        · refine go_iload_n rfl rfl ?_
          refine go_goto rfl (tgt := 48) (by decide) ?_
          exact go_iret rfl (Or.inl rfl) ⟨_, rfl, rfl, by unfold rd_wr; rw [if_pos f1, if_pos f2, if_neg (by omega)]⟩
    · refine go_iload_n rfl rfl ?_
      refine go_iconst rfl ?_
      refine go_iadd rfl (by unfold ab_iok; omega) ?_
      exact go_iret rfl (Or.inl rfl) ⟨_, rfl, rfl, by unfold rd_wr; rw [if_pos f1, if_neg (rd_n0 c17)]⟩
  · refine go_iload_n rfl rfl ?_
    exact go_iret rfl (Or.inl rfl) ⟨_, rfl, rfl, by unfold rd_wr; rw [if_neg (rd_n0 c5)]⟩
