/-! Road: houses, men, the whole text -/
/-- men, their paces, directions, minutes; houses, their paces -/
abbrev ps_T : Type := Int × (Int → Int) × (Int → Int) × (Int → Int) × Int × (Int → Int)
def ps_up (f : Int → Int) (i v : Int) : Int → Int := fun j => if j = i then v else f j
def ps_tkn (s : ps_T) (v : Int) : Prop := ∃ i, 0 ≤ i ∧ i < s.1 ∧ s.2.1 i = v
def ps_hw (tx : Int → Int) (n len a : Int) (s : ps_T) : Int := if 6 ≤ s.2.2.2.2.1 then a else rd_wr tx n (a + 1) 0 len
def ps_house (tx : Int → Int) (n len a : Int) (s : ps_T) : Int × ps_T := (ps_hw tx n len a s, if ps_hw tx n len a s = -1 then (s.1, s.2.1, s.2.2.1, s.2.2.2.1, s.2.2.2.2.1 + 1, ps_up s.2.2.2.2.2 s.2.2.2.2.1 (rd_num tx (a + 1))) else s)
noncomputable def ps_mw (tx : Int → Int) (n len a : Int) (s : ps_T) : Int := if 6 ≤ s.1 then a else if rd_wr tx n a 0 len ≠ -1 then rd_wr tx n a 0 len else if rd_bool (ps_tkn s (rd_num tx a)) = 1 then a else if ¬ rd_isB tx n (a + 2) 117 ∧ ¬ rd_isB tx n (a + 2) 100 then a + 2 else rd_wr tx n (a + 3) 0 40
noncomputable def ps_man (tx : Int → Int) (n len a : Int) (s : ps_T) : Int × ps_T := (ps_mw tx n len a s, if ps_mw tx n len a s = -1 then (s.1 + 1, ps_up s.2.1 s.1 (rd_num tx a), ps_up s.2.2.1 s.1 (if rd_isB tx n (a + 2) 117 then 1 else -1), ps_up s.2.2.2.1 s.1 (rd_num tx (a + 3)), s.2.2.2.2) else s)
noncomputable def ps_one (tx : Int → Int) (n len a : Int) (s : ps_T) : Int × ps_T := if rd_isB tx n (a + 1) 104 then ps_house tx n len (a + 1) s else ps_man tx n len (a + 1) s
noncomputable def ps_run (tx : Int → Int) (n len : Int) : Nat → Int → ps_T → Int × ps_T
  | 0, _, s => (-1, s)
  | f + 1, a, s => if n ≤ a then (-1, s) else if ¬ rd_isB tx n a 59 then (a, s) else if (ps_one tx n len a s).1 ≠ -1 then ps_one tx n len a s else ps_run tx n len f (a + if rd_isB tx n (a + 1) 104 then 4 else 6) (ps_one tx n len a s).2
/-- the class's own cells for it -/
def rd_ps (h : ab_H) : ps_T := (h 1 8, h 3, h 4, h 5, h 1 9, h 6)
def rd_put (h : ab_H) (s : ps_T) : ab_H := fun a b => if a = 1 ∧ b = 8 then s.1 else if a = 3 then s.2.1 b else if a = 4 then s.2.2.1 b else if a = 5 then s.2.2.2.1 b else if a = 1 ∧ b = 9 then s.2.2.2.2.1 else if a = 6 then s.2.2.2.2.2 b else h a b
theorem rd_ps_put (h : ab_H) (s : ps_T) : rd_ps (rd_put h s) = s := rfl
theorem rd_put_put (h : ab_H) (s s' : ps_T) : rd_put (rd_put h s) s' = rd_put h s' := by
  funext a b
  unfold rd_put
  repeat' split
  all_goals rfl
theorem rd_put_self (h : ab_H) : rd_put h (rd_ps h) = h := by
  funext a b
  unfold rd_put rd_ps
  repeat' split
  all_goals first | rfl | (rename_i q; obtain ⟨rfl, rfl⟩ := q; rfl) | (rename_i q; subst q; rfl)
theorem rd_put_house (h : ab_H) (v : Int) : ab_hs (ab_hs h 6 (h 1 9) v) 1 9 (h 1 9 + 1) = rd_put h (h 1 8, h 3, h 4, h 5, h 1 9 + 1, ps_up (h 6) (h 1 9) v) := by
  funext a b
  unfold rd_put ab_hs ps_up
  by_cases h1 : a = 1
  · subst h1
    by_cases h8 : b = 8
    · subst h8; simp
    · by_cases h9 : b = 9 <;> simp [h8, h9]
  · by_cases h3 : a = 3
    · subst h3; simp
    · by_cases h4 : a = 4
      · subst h4; simp
      · by_cases h5 : a = 5
        · subst h5; simp
        · by_cases h6 : a = 6
          · subst h6; simp
          · simp [h1, h3, h4, h5, h6]
theorem rd_put_man (h : ab_H) (u v w : Int) : ab_hs (ab_hs (ab_hs (ab_hs h 3 (h 1 8) u) 4 (h 1 8) v) 5 (h 1 8) w) 1 8 (h 1 8 + 1) = rd_put h (h 1 8 + 1, ps_up (h 3) (h 1 8) u, ps_up (h 4) (h 1 8) v, ps_up (h 5) (h 1 8) w, h 1 9, h 6) := by
  funext a b
  unfold rd_put ab_hs ps_up
  by_cases h1 : a = 1
  · subst h1
    by_cases h8 : b = 8
    · subst h8; simp
    · by_cases h9 : b = 9 <;> simp [h8, h9]
  · by_cases h3 : a = 3
    · subst h3; simp
    · by_cases h4 : a = 4
      · subst h4; simp
      · by_cases h5 : a = 5
        · subst h5; simp
        · by_cases h6 : a = 6
          · subst h6; simp
          · simp [h1, h3, h4, h5, h6]
set_option maxHeartbeats 4000000 in
set_option maxRecDepth 100000 in
theorem lp_X2_isTaken {g : ab_G} {h : ab_H} {v : Int} {Q : Option ab_V → ab_H → Prop} (hm : 0 ≤ h 1 8 ∧ h 1 8 ≤ 6) (hq : Q (some (a_I (rd_bool (∃ j, 0 ≤ j ∧ j < h 1 8 ∧ h 3 j = v)))) h) : ∀ (f : Nat) (i : Int), 0 ≤ i → i ≤ h 1 8 → h 1 8 - i < f → (∀ j, 0 ≤ j → j < i → ¬ h 3 j = v) → Go g (ab_rm 1, 0, 0) m_X2_isTaken Q 2 [some (a_R 1), some (a_I v), some (a_I i)] [] h := by
  intro f
  induction f with
  | zero => intro i h0 h1 hf; omega
  | succ f ih =>
    intro i h0 h1 hf hI
    refine go_iload_n rfl rfl ?_
    refine go_aload_n rfl rfl ?_
    refine go_getI rfl f_X2_37 rfl rfl rfl ?_ -- men
    refine go_icmp_ge rfl (tgt := 28) (by decide) (fun c7 => ?_) (fun c7 => ?_)
    · refine go_iconst rfl ?_
      exact go_iret rfl (Or.inr ⟨rfl, by omega⟩) (by rw [rd_f (by rintro ⟨j, j0, j1, j2⟩; exact hI j j0 (by omega) j2)] at hq; exact hq)
    · refine go_aload_n rfl rfl ?_
      refine go_getR rfl f_X2_15 rfl rfl ?_ -- pace
      refine go_iload_n rfl rfl ?_
      refine go_iald rfl rfl (by omega) (by omega) ?_
      refine go_iload_n rfl rfl ?_
      refine go_icmp_ne rfl (tgt := 22) (by decide) (fun c17 => ?_) (fun c17 => ?_)
      · refine go_iinc rfl rfl (by decide) rfl (by unfold ab_iok; omega) ?_
        refine go_goto rfl (tgt := 2) (by decide) ?_
        exact ih (i + 1) (by omega) (by omega) (by omega) (fun j j0 j1 => by by_cases e : j = i; exact e ▸ c17; exact hI j j0 (by omega))
      · refine go_iconst rfl ?_
        exact go_iret rfl (Or.inr ⟨rfl, by omega⟩) (by rw [rd_t ⟨i, h0, by omega, by omega⟩] at hq; exact hq)
set_option maxHeartbeats 4000000 in
set_option maxRecDepth 100000 in
theorem s_X2_isTaken {g : ab_G} {h : ab_H} {v : Int} (hm : 0 ≤ h 1 8 ∧ h 1 8 ≤ 6) : MethI g 1 m_X2_isTaken [a_R 1, a_I v] h (fun z h' => h = h' ∧ z = rd_bool (ps_tkn (rd_ps h) v)) := by
  refine Meth.of_go k_X2_isTaken (Nat.le_of_ble_eq_true rfl) ?_
  show Go g _ m_X2_isTaken _ 0 [some (a_R 1), some (a_I v), none] [] h
  refine go_iconst rfl ?_
  refine go_istore_n rfl (by decide) rfl ?_
  exact lp_X2_isTaken hm ⟨_, rfl, rfl, rfl⟩ 8 0 (by omega) (by omega) (by omega) (fun j j0 j1 => by omega)
theorem rd_wr_ok {tx : Int → Int} {n i lo hi : Int} (h : rd_wr tx n i lo hi = -1) (hi0 : 0 ≤ i := by omega) : rd_fig tx n i ∧ rd_fig tx n (i + 1) := by
  unfold rd_wr at h
  split at h
  · split at h
    · rename_i h1 h2; exact ⟨h1, h2⟩
    · omega
  · omega
theorem rd_wr_in {tx : Int → Int} {n i lo hi : Int} (h : rd_wr tx n i lo hi = -1) (hi0 : 0 ≤ i := by omega) : lo ≤ rd_num tx i ∧ rd_num tx i ≤ hi := by
  unfold rd_wr at h
  split at h
  · split at h
    · split at h
      · rename_i h1; exact h1
      · omega
    · omega
  · omega
set_option maxHeartbeats 4000000 in
set_option maxRecDepth 100000 in
theorem s_X2_takeHouse {g : ab_G} {h : ab_H} {a : Int} (hb : h 1 5 ≤ 80) (hh : 0 ≤ h 1 9 ∧ h 1 9 ≤ 6) (ha : 0 ≤ a ∧ a ≤ 500) : MethI g 4 m_X2_takeHouse [a_R 1, a_I a] h (fun z h' => z = (ps_house (h 2) (h 1 5) (h 1 7) a (rd_ps h)).1 ∧ h' = rd_put h (ps_house (h 2) (h 1 5) (h 1 7) a (rd_ps h)).2) := by
  refine Meth.of_go k_X2_takeHouse (Nat.le_of_ble_eq_true rfl) ?_
  show Go g _ m_X2_takeHouse _ 0 [some (a_R 1), some (a_I a), none] [] h
  refine go_aload_n rfl rfl ?_
  refine go_getI rfl f_X2_40 rfl rfl rfl ?_ -- houses
  refine go_bipush rfl ?_
  refine go_icmp_lt rfl (tgt := 11) (by decide) (fun c6 => ?_) (fun c6 => ?_)
  · refine go_aload_n rfl rfl ?_
    refine go_iload_n rfl rfl ?_
    refine go_iconst rfl ?_
    refine go_iadd rfl (by unfold ab_iok; omega) ?_
    refine go_iconst rfl ?_
    refine go_aload_n rfl rfl ?_
    refine go_getI rfl f_X2_34 rfl rfl rfl ?_ -- length
    refine go_cV3I (M' := m_X2_wrongNumber) rfl l_X2_47 k_X2_wrongNumber (s_X2_wrongNumber hb (by omega)) rfl rfl rfl rfl (by decide) (Nat.le_of_ble_eq_true rfl) (fun z20 h20 q20 => ?_) -- X2_wrongNumber
    obtain ⟨rfl, rfl⟩ := q20
    refine go_istore_n rfl (by decide) rfl ?_
    refine go_iload_n rfl rfl ?_
    refine go_iconst rfl ?_
    refine go_icmp_eq rfl (tgt := 31) (by decide) (fun c26 => ?_) (fun c26 => ?_)
    · have f3 := rd_wr_ok c26
      refine go_aload_n rfl rfl ?_
      refine go_getR rfl f_X2_24 rfl rfl ?_ -- housePace
      refine go_aload_n rfl rfl ?_
      refine go_getI rfl f_X2_40 rfl rfl rfl ?_ -- houses
      refine go_aload_n rfl rfl ?_
      refine go_iload_n rfl rfl ?_
      refine go_iconst rfl ?_
      refine go_iadd rfl (by unfold ab_iok; omega) ?_
      refine go_cV1I (M' := m_X2_number) rfl l_X2_51 k_X2_number (s_X2_number hb (by omega)) rfl rfl rfl rfl (by decide) (Nat.le_of_ble_eq_true rfl) (fun z43 h43 q43 => ?_) -- X2_number
      obtain ⟨rfl, rfl⟩ := q43
      rw [if_pos f3]
      refine go_iast rfl rfl (by omega) (by omega) ?_
      refine go_aload_n rfl rfl ?_
      refine go_dup rfl ?_
      refine go_getI rfl f_X2_40 rfl rfl rfl ?_ -- houses
      simp only [ab_hs_k, ne_eq, Nat.reduceEqDiff, not_false_eq_true]
      refine go_iconst rfl ?_
      refine go_iadd rfl (by unfold ab_iok; omega) ?_
      refine go_putI rfl f_X2_40 rfl rfl rfl ?_ -- houses
      refine go_iconst rfl ?_
      exact go_iret rfl (Or.inl rfl) ⟨_, rfl, by rw [rd_put_house]; unfold ps_house; rw [show ps_hw (h 2) (h 1 5) (h 1 7) a (rd_ps h) = -1 by unfold ps_hw; rw [if_neg (by show ¬ 6 ≤ h 1 9; omega)]; exact c26]; exact ⟨rfl, rfl⟩⟩
    · refine go_iload_n rfl rfl ?_
      exact go_iret rfl (Or.inl rfl) ⟨_, rfl, by unfold ps_house; rw [show ps_hw (h 2) (h 1 5) (h 1 7) a (rd_ps h) = rd_wr (h 2) (h 1 5) (a + 1) 0 (h 1 7) by unfold ps_hw; rw [if_neg (by show ¬ 6 ≤ h 1 9; omega)]]; rw [if_neg c26]; exact ⟨rfl, (rd_put_self h).symm⟩⟩
  · refine go_iload_n rfl rfl ?_
    exact go_iret rfl (Or.inl rfl) ⟨_, rfl, by unfold ps_house; rw [show ps_hw (h 2) (h 1 5) (h 1 7) a (rd_ps h) = a by unfold ps_hw; rw [if_pos (by show 6 ≤ h 1 9; omega)]]; rw [if_neg (by omega)]; exact ⟨rfl, (rd_put_self h).symm⟩⟩
