/-! the reference: its small functions -/
theorem lc_lt {x y : Int} : ab_lcmp x y < 0 ↔ x < y := by unfold ab_lcmp; split <;> (try split) <;> omega
theorem lc_gt {x y : Int} : 0 < ab_lcmp x y ↔ y < x := by unfold ab_lcmp; split <;> (try split) <;> omega
set_option maxHeartbeats 4000000 in
set_option maxRecDepth 100000 in
theorem s_X7_in {g : ab_G} {h : ab_H} {v lo hi : Int} : MethI g 1 m_X7_in [a_L v, a_L lo, a_L hi] h (fun z h' => h = h' ∧ z = rd_bool (lo ≤ v ∧ v ≤ hi)) := by
  refine Meth.of_go k_X7_in (Nat.le_of_ble_eq_true rfl) ?_
  show Go g _ m_X7_in _ 0 [some (a_L v), none, some (a_L lo), none, some (a_L hi), none] [] h
  refine go_lload_n rfl rfl ?_
  refine go_lload_n rfl rfl ?_
  refine go_lcmp rfl ?_
  refine go_if_lt rfl (tgt := 17) (by decide) (fun c3 => ?_) (fun c3 => ?_)
  · refine go_iconst rfl ?_
    exact go_iret rfl (Or.inr ⟨rfl, by omega⟩) ⟨_, rfl, rfl, (rd_f (fun q => by have := lc_lt.mp c3; omega)).symm⟩
  · refine go_lload_n rfl rfl ?_
    refine go_lload rfl rfl ?_
    refine go_lcmp rfl ?_
    refine go_if_gt rfl (tgt := 17) (by decide) (fun c10 => ?_) (fun c10 => ?_)
    · refine go_iconst rfl ?_
      exact go_iret rfl (Or.inr ⟨rfl, by omega⟩) ⟨_, rfl, rfl, (rd_f (fun q => by have := lc_gt.mp c10; omega)).symm⟩
    · refine go_iconst rfl ?_
      refine go_goto rfl (tgt := 18) (by decide) ?_
      exact go_iret rfl (Or.inr ⟨rfl, by omega⟩) ⟨_, rfl, rfl, (rd_t ⟨by have := mt lc_lt.mpr c3; omega, by have := mt lc_gt.mpr c10; omega⟩).symm⟩
set_option maxHeartbeats 4000000 in
set_option maxRecDepth 100000 in
theorem s_X7_isTwo {g : ab_G} {h : ab_H} {v : Int}  : MethI g 2 m_X7_isTwo [a_I v] h (fun z h' => h = h' ∧ z = rd_bool (0 ≤ v ∧ v ≤ 1)) := by
  refine Meth.of_go k_X7_isTwo (Nat.le_of_ble_eq_true rfl) ?_
  show Go g _ m_X7_isTwo _ 0 [some (a_I v)] [] h
  refine go_iload_n rfl rfl ?_
  refine go_i2l rfl ?_
  refine go_lconst rfl ?_
  refine go_lconst rfl ?_
  refine go_cS3I (M' := m_X7_in) rfl l_X7_68 k_X7_in (s_X7_in) rfl (by decide) (Nat.le_of_ble_eq_true rfl) (fun z4 h4 q4 => ?_) -- X7_in
  obtain ⟨rfl, rfl⟩ := q4
  exact go_iret rfl (Or.inr ⟨rfl, rd_01 _⟩) ⟨_, rfl, rfl, rfl⟩
set_option maxHeartbeats 4000000 in
set_option maxRecDepth 100000 in
theorem s_X7_isTime {g : ab_G} {h : ab_H} {v : Int}  : MethI g 2 m_X7_isTime [a_I v] h (fun z h' => h = h' ∧ z = rd_bool (0 ≤ v ∧ v ≤ 400)) := by
  refine Meth.of_go k_X7_isTime (Nat.le_of_ble_eq_true rfl) ?_
  show Go g _ m_X7_isTime _ 0 [some (a_I v)] [] h
  refine go_iload_n rfl rfl ?_
  refine go_i2l rfl ?_
  refine go_lconst rfl ?_
  refine go_ldc2 rfl (z := 400) c_X7_72 ?_
  refine go_cS3I (M' := m_X7_in) rfl l_X7_68 k_X7_in (s_X7_in) rfl (by decide) (Nat.le_of_ble_eq_true rfl) (fun z6 h6 q6 => ?_) -- X7_in
  obtain ⟨rfl, rfl⟩ := q6
  exact go_iret rfl (Or.inr ⟨rfl, rd_01 _⟩) ⟨_, rfl, rfl, rfl⟩
set_option maxHeartbeats 4000000 in
set_option maxRecDepth 100000 in
theorem s_X7_isSheet {g : ab_G} {h : ab_H} {v : Int}  : MethI g 2 m_X7_isSheet [a_I v] h (fun z h' => h = h' ∧ z = rd_bool (0 ≤ v ∧ v ≤ 3)) := by
  refine Meth.of_go k_X7_isSheet (Nat.le_of_ble_eq_true rfl) ?_
  show Go g _ m_X7_isSheet _ 0 [some (a_I v)] [] h
  refine go_iload_n rfl rfl ?_
  refine go_i2l rfl ?_
  refine go_lconst rfl ?_
  refine go_ldc2 rfl (z := 3) c_X7_78 ?_
  refine go_cS3I (M' := m_X7_in) rfl l_X7_68 k_X7_in (s_X7_in) rfl (by decide) (Nat.le_of_ble_eq_true rfl) (fun z6 h6 q6 => ?_) -- X7_in
  obtain ⟨rfl, rfl⟩ := q6
  exact go_iret rfl (Or.inr ⟨rfl, rd_01 _⟩) ⟨_, rfl, rfl, rfl⟩
set_option maxHeartbeats 4000000 in
set_option maxRecDepth 100000 in
theorem s_X7_isMinute {g : ab_G} {h : ab_H} {v : Int}  : MethI g 2 m_X7_isMinute [a_I v] h (fun z h' => h = h' ∧ z = rd_bool (0 ≤ v ∧ v ≤ 199)) := by
  refine Meth.of_go k_X7_isMinute (Nat.le_of_ble_eq_true rfl) ?_
  show Go g _ m_X7_isMinute _ 0 [some (a_I v)] [] h
  refine go_iload_n rfl rfl ?_
  refine go_i2l rfl ?_
  refine go_lconst rfl ?_
  refine go_ldc2 rfl (z := 199) c_X7_235 ?_
  refine go_cS3I (M' := m_X7_in) rfl l_X7_68 k_X7_in (s_X7_in) rfl (by decide) (Nat.le_of_ble_eq_true rfl) (fun z6 h6 q6 => ?_) -- X7_in
  obtain ⟨rfl, rfl⟩ := q6
  exact go_iret rfl (Or.inr ⟨rfl, rd_01 _⟩) ⟨_, rfl, rfl, rfl⟩
set_option maxHeartbeats 4000000 in
set_option maxRecDepth 100000 in
theorem s_X7_finds {g : ab_G} {h : ab_H} {v : Int} (hv : 0 ≤ v ∧ v ≤ 100) : MethI g 1 m_X7_finds [a_R 62, a_I v] h (fun z h' => h' = ab_hs h 62 4 v ∧ z = -10 - v) := by
  refine Meth.of_go k_X7_finds (Nat.le_of_ble_eq_true rfl) ?_
  show Go g _ m_X7_finds _ 0 [some (a_R 62), some (a_I v)] [] h
  refine go_aload_n rfl rfl ?_
  refine go_iload_n rfl rfl ?_
  refine go_putI rfl f_X7_74 rfl rfl rfl ?_ -- latest
  refine go_bipush rfl ?_
  refine go_iload_n rfl rfl ?_
  refine go_isub rfl (by unfold ab_iok; omega) ?_
  exact go_iret rfl (Or.inl rfl) ⟨_, rfl, rfl, rfl⟩
/-- the byte at a, -1 behind the end -/
def md_at (tx : Int → Int) (n a : Int) : Int := if a < n then tx a else -1
theorem md_fig {tx : Int → Int} {n a : Int} (ha : 0 ≤ a) : (48 ≤ md_at tx n a ∧ md_at tx n a ≤ 57) ↔ rd_fig tx n a := by unfold md_at; split <;> omega
theorem md_val {tx : Int → Int} {n a : Int} (h : rd_fig tx n a) : md_at tx n a = tx a := by unfold md_at; rw [if_pos h.2.1]
set_option maxHeartbeats 4000000 in
set_option maxRecDepth 100000 in
theorem s_X7_here {g : ab_G} {h : ab_H} (ha : 0 ≤ h 62 7) (hn : h 62 6 ≤ 80) : MethI g 1 m_X7_here [a_R 62] h (fun z h' => h = h' ∧ z = md_at (h 67) (h 62 6) (h 62 7)) := by
  refine Meth.of_go k_X7_here (Nat.le_of_ble_eq_true rfl) ?_
  show Go g _ m_X7_here _ 0 [some (a_R 62)] [] h
  refine go_aload_n rfl rfl ?_
  refine go_getI rfl f_X7_104 rfl rfl rfl ?_ -- at
  refine go_aload_n rfl rfl ?_
  refine go_getI rfl f_X7_101 rfl rfl rfl ?_ -- typed
  refine go_icmp_ge rfl (tgt := 23) (by decide) (fun c8 => ?_) (fun c8 => ?_)
  · refine go_iconst rfl ?_
    exact go_iret rfl (Or.inl rfl) ⟨_, rfl, rfl, (if_neg (by omega)).symm⟩
  · refine go_aload_n rfl rfl ?_
    refine go_getR rfl f_X7_22 rfl rfl ?_ -- text
    refine go_aload_n rfl rfl ?_
    refine go_getI rfl f_X7_104 rfl rfl rfl ?_ -- at
    refine go_iald rfl rfl (by omega) (by omega) ?_
    refine go_goto rfl (tgt := 24) (by decide) ?_
    exact go_iret rfl (Or.inl rfl) ⟨_, rfl, rfl, (if_pos (by omega)).symm⟩
set_option maxHeartbeats 4000000 in
set_option maxRecDepth 100000 in
theorem s_X7_clears {g : ab_G} {h : ab_H}  : MethV g 1 m_X7_clears [a_R 62] h (fun h' => h' = ab_hs (ab_hs (ab_hs h 62 8 1) 62 9 0) 62 13 0) := by
  refine Meth.of_go k_X7_clears (Nat.le_of_ble_eq_true rfl) ?_
  show Go g _ m_X7_clears _ 0 [some (a_R 62)] [] h
  refine go_aload_n rfl rfl ?_
  refine go_iconst rfl ?_
  refine go_putI rfl f_X7_107 rfl rfl rfl ?_ -- length
  refine go_aload_n rfl rfl ?_
  refine go_iconst rfl ?_
  refine go_putI rfl f_X7_110 rfl rfl rfl ?_ -- men
  refine go_aload_n rfl rfl ?_
  refine go_iconst rfl ?_
  refine go_putI rfl f_X7_113 rfl rfl rfl ?_ -- houses
  exact go_ret rfl rfl ⟨rfl, rfl⟩
