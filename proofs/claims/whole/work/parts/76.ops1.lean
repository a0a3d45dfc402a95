/-! calls of both: man, bag, met, meetings, carried -/
theorem RF.trans {h h' h'' : ab_H} (a : RF h h') (b : RF h' h'') : RF h h'' := ⟨fun k hk => (b.1 k hk).trans (a.1 k hk), fun k hk => (b.2 k hk).trans (a.2 k hk)⟩
set_option maxHeartbeats 4000000 in
set_option maxRecDepth 100000 in
theorem j_man {g : ab_G} {h : ab_H} {i t w : Int} (I : Inv h) : MethI g 8 m_X7_man [a_R 62, a_I i, a_I t, a_I w] h (fun z h' => z = mn_F h i t w ∧ MF h h' ∧ Inv h') := by
  have r1 := I.ro.1
  refine Meth.of_go k_X7_man (Nat.le_of_ble_eq_true rfl) ?_
  show Go g _ m_X7_man _ 0 [some (a_R 62), some (a_I i), some (a_I t), some (a_I w)] [] h
  refine go_aload_n rfl rfl ?_
  refine go_iload_n rfl rfl ?_
  refine go_cV1I (M' := m_X7_isMan) rfl l_X7_143 k_X7_isMan (j_isMan I) rfl rfl rfl rfl (by decide) (Nat.le_of_ble_eq_true rfl) (fun z2 h2 q2 => ?_) -- X7_isMan
  obtain ⟨y1, F1, R1, I1⟩ := q2
  refine go_if_eq rfl (tgt := 27) (by decide) (fun c5 => ?_) (fun c5 => ?_)
  · refine go_bipush rfl ?_
    exact go_iret rfl (Or.inl rfl) ⟨_, rfl, by unfold mn_F; rw [if_neg (by have := rd_n0 (y1 ▸ c5); omega)], F1.mf, I1⟩
  · have x1 := rd_n1 (y1 ▸ c5)
    refine go_iload_n rfl rfl ?_
    refine go_cS1I (M' := m_X7_isTime) rfl l_X7_193 k_X7_isTime (s_X7_isTime) rfl (by decide) (Nat.le_of_ble_eq_true rfl) (fun z9 h9 q9 => ?_) -- X7_isTime
    obtain ⟨rfl, rfl⟩ := q9
    refine go_if_eq rfl (tgt := 27) (by decide) (fun c12 => ?_) (fun c12 => ?_)
    · refine go_bipush rfl ?_
      exact go_iret rfl (Or.inl rfl) ⟨_, rfl, by unfold mn_F; rw [if_neg (by have := rd_n0 c12; omega)], F1.mf, I1⟩
    · have x2 := rd_n1 c12
      refine go_iload_n rfl rfl ?_
      refine go_i2l rfl ?_
      refine go_lconst (z := 0) rfl ?_
      refine go_ldc2 rfl (z := 2) c_X7_84 ?_
      refine go_cS3I (M' := m_X7_in) rfl l_X7_68 k_X7_in (s_X7_in) rfl (by decide) (Nat.le_of_ble_eq_true rfl) (fun z21 h21 q21 => ?_) -- X7_in
      obtain ⟨rfl, rfl⟩ := q21
      refine go_if_ne rfl (tgt := 30) (by decide) (fun c24 => ?_) (fun c24 => ?_)
      · have x3 := rd_n1 c24
        refine go_aload_n rfl rfl ?_
        refine go_cV0V (M' := m_X7_find) rfl l_X7_196 k_X7_find (j_find I1) rfl rfl rfl rfl (by decide) (Nat.le_of_ble_eq_true rfl) (fun h31 q31 => ?_) -- X7_find
        obtain ⟨F2, T2, I2⟩ := q31
        have T2 := MT_same F1.mf.k9 T2
        refine go_aload_n rfl rfl ?_
        refine go_iload_n rfl rfl ?_
        refine go_iload_n rfl rfl ?_
        refine go_iload_n rfl rfl ?_
        refine go_cV3I (M' := m_X7_manOf) rfl l_X7_199 k_X7_manOf (s_X7_manOf T2.1 (by omega) (by omega)) rfl rfl rfl rfl (by decide) (Nat.le_of_ble_eq_true rfl) (fun z38 h38 q38 => ?_) -- X7_manOf
        obtain ⟨rfl, rfl⟩ := q38
        exact go_iret rfl (Or.inl rfl) ⟨_, rfl, by show mn_n h i t w = mn_F h i t w; unfold mn_F; rw [if_pos ⟨x1, x2, x3⟩], F1.mf.trans F2, I2⟩
      · refine go_bipush rfl ?_
        exact go_iret rfl (Or.inl rfl) ⟨_, rfl, by unfold mn_F; rw [if_neg (by have := rd_n0 c24; omega)], F1.mf, I1⟩
theorem op_man {g : ab_G} {h : ab_H} {i t w : Int} (I : Inv h) : opI g 6 8 m_X6_man m_X7_man [a_I i, a_I t, a_I w] h := op_q (F := fun h => mn_F h i t w) I (c_man I) (fun h I => j_man I) (fun h' F => by unfold mn_F mn_n TW; simp only [tW_same F.k9, tM_same F.k9, F.k9 1 (by decide)])
set_option maxHeartbeats 4000000 in
set_option maxRecDepth 100000 in
theorem j_bag {g : ab_G} {h : ab_H} {i t w : Int} (I : Inv h) : MethI g 8 m_X7_bag [a_R 62, a_I i, a_I t, a_I w] h (fun z h' => z = bg2_F h i t w ∧ MF h h' ∧ Inv h') := by
  have r1 := I.ro.1
  refine Meth.of_go k_X7_bag (Nat.le_of_ble_eq_true rfl) ?_
  show Go g _ m_X7_bag _ 0 [some (a_R 62), some (a_I i), some (a_I t), some (a_I w)] [] h
  refine go_aload_n rfl rfl ?_
  refine go_iload_n rfl rfl ?_
  refine go_cV1I (M' := m_X7_isMan) rfl l_X7_143 k_X7_isMan (j_isMan I) rfl rfl rfl rfl (by decide) (Nat.le_of_ble_eq_true rfl) (fun z2 h2 q2 => ?_) -- X7_isMan
  obtain ⟨y1, F1, R1, I1⟩ := q2
  refine go_if_eq rfl (tgt := 22) (by decide) (fun c5 => ?_) (fun c5 => ?_)
  · refine go_bipush rfl ?_
    exact go_iret rfl (Or.inl rfl) ⟨_, rfl, by unfold bg2_F; rw [if_neg (by have := rd_n0 (y1 ▸ c5); omega)], F1.mf, I1⟩
  · have x1 := rd_n1 (y1 ▸ c5)
    refine go_iload_n rfl rfl ?_
    refine go_cS1I (M' := m_X7_isTime) rfl l_X7_193 k_X7_isTime (s_X7_isTime) rfl (by decide) (Nat.le_of_ble_eq_true rfl) (fun z9 h9 q9 => ?_) -- X7_isTime
    obtain ⟨rfl, rfl⟩ := q9
    refine go_if_eq rfl (tgt := 22) (by decide) (fun c12 => ?_) (fun c12 => ?_)
    · refine go_bipush rfl ?_
      exact go_iret rfl (Or.inl rfl) ⟨_, rfl, by unfold bg2_F; rw [if_neg (by have := rd_n0 c12; omega)], F1.mf, I1⟩
    · have x2 := rd_n1 c12
      refine go_iload_n rfl rfl ?_
      refine go_cS1I (M' := m_X7_isTwo) rfl l_X7_149 k_X7_isTwo (s_X7_isTwo) rfl (by decide) (Nat.le_of_ble_eq_true rfl) (fun z16 h16 q16 => ?_) -- X7_isTwo
      obtain ⟨rfl, rfl⟩ := q16
      refine go_if_ne rfl (tgt := 25) (by decide) (fun c19 => ?_) (fun c19 => ?_)
      · have x3 := rd_n1 c19
        refine go_aload_n rfl rfl ?_
        refine go_cV0V (M' := m_X7_find) rfl l_X7_196 k_X7_find (j_find I1) rfl rfl rfl rfl (by decide) (Nat.le_of_ble_eq_true rfl) (fun h26 q26 => ?_) -- X7_find
        obtain ⟨F2, T2, I2⟩ := q26
        have T2 := MT_same F1.mf.k9 T2
        refine go_iload_n rfl rfl ?_
        refine go_if_ne rfl (tgt := 42) (by decide) (fun c30 => ?_) (fun c30 => ?_)
        · refine go_aload_n rfl rfl ?_
          refine go_iload_n rfl rfl ?_
          refine go_iload_n rfl rfl ?_
          refine go_cV2I (M' := m_X7_holder) rfl l_X7_202 k_X7_holder (s_X7_holder T2.1 (by omega) (TW_pm I t x2.1 x2.2)) rfl rfl rfl rfl (by decide) (Nat.le_of_ble_eq_true rfl) (fun z45 h45 q45 => ?_) -- X7_holder
          obtain ⟨rfl, rfl⟩ := q45
          exact go_iret rfl (Or.inl rfl) ⟨_, rfl, by unfold bg2_F; rw [if_pos (by omega), if_neg c30], F1.mf.trans F2, I2⟩
        · refine go_aload_n rfl rfl ?_
          refine go_iload_n rfl rfl ?_
          refine go_iload_n rfl rfl ?_
          refine go_cV2I (M' := m_X7_bagPlace) rfl l_X7_205 k_X7_bagPlace (s_X7_bagPlace T2.1 (by omega) (TW_pm I t x2.1 x2.2) (by omega)) rfl rfl rfl rfl (by decide) (Nat.le_of_ble_eq_true rfl) (fun z36 h36 q36 => ?_) -- X7_bagPlace
          obtain ⟨rfl, rfl⟩ := q36
          refine go_goto rfl (tgt := 48) (by decide) ?_
          exact go_iret rfl (Or.inl rfl) ⟨_, rfl, by unfold bg2_F; rw [if_pos (by omega), if_pos c30], F1.mf.trans F2, I2⟩
      · refine go_bipush rfl ?_
        exact go_iret rfl (Or.inl rfl) ⟨_, rfl, by unfold bg2_F; rw [if_neg (by have := rd_n0 c19; omega)], F1.mf, I1⟩
theorem op_bag {g : ab_G} {h : ab_H} {i t w : Int} (I : Inv h) : opI g 6 8 m_X6_bag m_X7_bag [a_I i, a_I t, a_I w] h := op_q (F := fun h => bg2_F h i t w) I (c_bag I) (fun h I => j_bag I) (fun h' F => by unfold bg2_F TW; simp only [tW_same F.k9, tM_same F.k9, F.k9 1 (by decide)])
set_option maxHeartbeats 4000000 in
set_option maxRecDepth 100000 in
theorem j_met {g : ab_G} {h : ab_H} {a b T : Int} (I : Inv h) : MethI g 8 m_X7_met [a_R 62, a_I a, a_I b, a_I T] h (fun z h' => z = mt_F h a b T ∧ MF h h' ∧ Inv h') := by
  have r1 := I.ro.1
  refine Meth.of_go k_X7_met (Nat.le_of_ble_eq_true rfl) ?_
  show Go g _ m_X7_met _ 0 [some (a_R 62), some (a_I a), some (a_I b), some (a_I T)] [] h
  refine go_aload_n rfl rfl ?_
  refine go_iload_n rfl rfl ?_
  refine go_cV1I (M' := m_X7_isMan) rfl l_X7_143 k_X7_isMan (j_isMan I) rfl rfl rfl rfl (by decide) (Nat.le_of_ble_eq_true rfl) (fun z2 h2 q2 => ?_) -- X7_isMan
  obtain ⟨y1, F1, R1, I1⟩ := q2
  refine go_if_eq rfl (tgt := 28) (by decide) (fun c5 => ?_) (fun c5 => ?_)
  · refine go_bipush rfl ?_
    exact go_iret rfl (Or.inl rfl) ⟨_, rfl, by unfold mt_F; rw [if_neg (by have := rd_n0 (y1 ▸ c5); omega)], F1.mf, I1⟩
  · have x1 := rd_n1 (y1 ▸ c5)
    refine go_aload_n rfl rfl ?_
    refine go_iload_n rfl rfl ?_
    refine go_cV1I (M' := m_X7_isMan) rfl l_X7_143 k_X7_isMan (j_isMan I1) rfl rfl rfl rfl (by decide) (Nat.le_of_ble_eq_true rfl) (fun z10 h10 q10 => ?_) -- X7_isMan
    obtain ⟨y2, F1b, R1b, I1b⟩ := q10
    rw [F1.1 1 (by decide)] at y2
    have F1 := F1.trans F1b
    have I1 := I1b
    refine go_if_eq rfl (tgt := 28) (by decide) (fun c13 => ?_) (fun c13 => ?_)
    · refine go_bipush rfl ?_
      exact go_iret rfl (Or.inl rfl) ⟨_, rfl, by unfold mt_F; rw [if_neg (by have := rd_n0 (y2 ▸ c13); omega)], F1.mf, I1⟩
    · have x2 := rd_n1 (y2 ▸ c13)
      refine go_iload_n rfl rfl ?_
      refine go_iload_n rfl rfl ?_
      refine go_icmp_eq rfl (tgt := 28) (by decide) (fun c18 => ?_) (fun c18 => ?_)
      · refine go_bipush rfl ?_
        exact go_iret rfl (Or.inl rfl) ⟨_, rfl, by unfold mt_F; rw [if_neg (by skip; omega)], F1.mf, I1⟩
      · refine go_iload_n rfl rfl ?_
        refine go_cS1I (M' := m_X7_isTime) rfl l_X7_193 k_X7_isTime (s_X7_isTime) rfl (by decide) (Nat.le_of_ble_eq_true rfl) (fun z22 h22 q22 => ?_) -- X7_isTime
        obtain ⟨rfl, rfl⟩ := q22
        refine go_if_ne rfl (tgt := 31) (by decide) (fun c25 => ?_) (fun c25 => ?_)
        · have x3 := rd_n1 c25
          refine go_aload_n rfl rfl ?_
          refine go_cV0V (M' := m_X7_find) rfl l_X7_196 k_X7_find (j_find I1) rfl rfl rfl rfl (by decide) (Nat.le_of_ble_eq_true rfl) (fun h32 q32 => ?_) -- X7_find
          obtain ⟨F2, T2, I2⟩ := q32
          have T2 := MT_same F1.mf.k9 T2
          refine go_aload_n rfl rfl ?_
          refine go_iload_n rfl rfl ?_
          refine go_iload_n rfl rfl ?_
          refine go_iload_n rfl rfl ?_
          refine go_cV3I (M' := m_X7_metOf) rfl l_X7_208 k_X7_metOf (s_X7_metOf r1.2 T2.2.1 (by omega) (by omega) (by omega)) rfl rfl rfl rfl (by decide) (Nat.le_of_ble_eq_true rfl) (fun z39 h39 q39 => ?_) -- X7_metOf
          obtain ⟨rfl, rfl⟩ := q39
          exact go_iret rfl (Or.inl rfl) ⟨_, rfl, by unfold mt_F mt_n; rw [if_pos (by omega)], F1.mf.trans F2, I2⟩
        · refine go_bipush rfl ?_
          exact go_iret rfl (Or.inl rfl) ⟨_, rfl, by unfold mt_F; rw [if_neg (by have := rd_n0 c25; omega)], F1.mf, I1⟩
theorem op_met {g : ab_G} {h : ab_H} {a b T : Int} (I : Inv h) : opI g 6 8 m_X6_met m_X7_met [a_I a, a_I b, a_I T] h := op_q (F := fun h => mt_F h a b T) I (c_met I) (fun h I => j_met I) (fun h' F => by unfold mt_F mt_n TM; simp only [tW_same F.k9, tM_same F.k9, F.k9 1 (by decide)])
set_option maxHeartbeats 4000000 in
set_option maxRecDepth 100000 in
theorem j_carried {g : ab_G} {h : ab_H} {i b T : Int} (I : Inv h) : MethI g 8 m_X7_carried [a_R 62, a_I i, a_I b, a_I T] h (fun z h' => z = cd_F h i b T ∧ MF h h' ∧ Inv h') := by
  have r1 := I.ro.1
  refine Meth.of_go k_X7_carried (Nat.le_of_ble_eq_true rfl) ?_
  show Go g _ m_X7_carried _ 0 [some (a_R 62), some (a_I i), some (a_I b), some (a_I T)] [] h
  refine go_aload_n rfl rfl ?_
  refine go_iload_n rfl rfl ?_
  refine go_cV1I (M' := m_X7_isMan) rfl l_X7_143 k_X7_isMan (j_isMan I) rfl rfl rfl rfl (by decide) (Nat.le_of_ble_eq_true rfl) (fun z2 h2 q2 => ?_) -- X7_isMan
  obtain ⟨y1, F1, R1, I1⟩ := q2
  refine go_if_eq rfl (tgt := 23) (by decide) (fun c5 => ?_) (fun c5 => ?_)
  · refine go_bipush rfl ?_
    exact go_iret rfl (Or.inl rfl) ⟨_, rfl, by unfold cd_F; rw [if_neg (by have := rd_n0 (y1 ▸ c5); omega)], F1.mf, I1⟩
  · have x1 := rd_n1 (y1 ▸ c5)
    refine go_aload_n rfl rfl ?_
    refine go_iload_n rfl rfl ?_
    refine go_cV1I (M' := m_X7_isMan) rfl l_X7_143 k_X7_isMan (j_isMan I1) rfl rfl rfl rfl (by decide) (Nat.le_of_ble_eq_true rfl) (fun z10 h10 q10 => ?_) -- X7_isMan
    obtain ⟨y2, F1b, R1b, I1b⟩ := q10
    rw [F1.1 1 (by decide)] at y2
    have F1 := F1.trans F1b
    have I1 := I1b
    refine go_if_eq rfl (tgt := 23) (by decide) (fun c13 => ?_) (fun c13 => ?_)
    · refine go_bipush rfl ?_
      exact go_iret rfl (Or.inl rfl) ⟨_, rfl, by unfold cd_F; rw [if_neg (by have := rd_n0 (y2 ▸ c13); omega)], F1.mf, I1⟩
    · have x2 := rd_n1 (y2 ▸ c13)
      refine go_iload_n rfl rfl ?_
      refine go_cS1I (M' := m_X7_isTime) rfl l_X7_193 k_X7_isTime (s_X7_isTime) rfl (by decide) (Nat.le_of_ble_eq_true rfl) (fun z17 h17 q17 => ?_) -- X7_isTime
      obtain ⟨rfl, rfl⟩ := q17
      refine go_if_ne rfl (tgt := 26) (by decide) (fun c20 => ?_) (fun c20 => ?_)
      · have x3 := rd_n1 c20
        refine go_aload_n rfl rfl ?_
        refine go_cV0V (M' := m_X7_find) rfl l_X7_196 k_X7_find (j_find I1) rfl rfl rfl rfl (by decide) (Nat.le_of_ble_eq_true rfl) (fun h27 q27 => ?_) -- X7_find
        obtain ⟨F2, T2, I2⟩ := q27
        have T2 := MT_same F1.mf.k9 T2
        refine go_aload_n rfl rfl ?_
        refine go_iload_n rfl rfl ?_
        refine go_iload_n rfl rfl ?_
        refine go_iload_n rfl rfl ?_
        refine go_cV3I (M' := m_X7_carriedOf) rfl l_X7_214 k_X7_carriedOf (s_X7_carriedOf T2.1 (by omega) (by omega)) rfl rfl rfl rfl (by decide) (Nat.le_of_ble_eq_true rfl) (fun z34 h34 q34 => ?_) -- X7_carriedOf
        obtain ⟨rfl, rfl⟩ := q34
        exact go_iret rfl (Or.inl rfl) ⟨_, rfl, by unfold cd_F cd_n; rw [if_pos (by omega)], F1.mf.trans F2, I2⟩
      · refine go_bipush rfl ?_
        exact go_iret rfl (Or.inl rfl) ⟨_, rfl, by unfold cd_F; rw [if_neg (by have := rd_n0 c20; omega)], F1.mf, I1⟩
theorem op_carried {g : ab_G} {h : ab_H} {i b T : Int} (I : Inv h) : opI g 6 8 m_X6_carried m_X7_carried [a_I i, a_I b, a_I T] h := op_q (F := fun h => cd_F h i b T) I (c_carried I) (fun h I => j_carried I) (fun h' F => by unfold cd_F cd_n TW; simp only [tW_same F.k9, tM_same F.k9, F.k9 1 (by decide)])
set_option maxHeartbeats 4000000 in
set_option maxRecDepth 100000 in
theorem j_meetings {g : ab_G} {h : ab_H} {T : Int} (I : Inv h) : MethI g 8 m_X7_meetings [a_R 62, a_I T] h (fun z h' => z = ms_F h T ∧ MF h h' ∧ Inv h') := by
  have r1 := I.ro.1
  refine Meth.of_go k_X7_meetings (Nat.le_of_ble_eq_true rfl) ?_
  show Go g _ m_X7_meetings _ 0 [some (a_R 62), some (a_I T)] [] h
  refine go_iload_n rfl rfl ?_
  refine go_cS1I (M' := m_X7_isTime) rfl l_X7_193 k_X7_isTime (s_X7_isTime) rfl (by decide) (Nat.le_of_ble_eq_true rfl) (fun z1 h1 q1 => ?_) -- X7_isTime
  obtain ⟨rfl, rfl⟩ := q1
  refine go_if_ne rfl (tgt := 10) (by decide) (fun c4 => ?_) (fun c4 => ?_)
  · have x3 := rd_n1 c4
    refine go_aload_n rfl rfl ?_
    refine go_cV0V (M' := m_X7_find) rfl l_X7_196 k_X7_find (j_find I) rfl rfl rfl rfl (by decide) (Nat.le_of_ble_eq_true rfl) (fun h11 q11 => ?_) -- X7_find
    obtain ⟨F2, T2, I2⟩ := q11
    refine go_aload_n rfl rfl ?_
    refine go_iload_n rfl rfl ?_
    refine go_cV1I (M' := m_X7_meetingsOf) rfl l_X7_211 k_X7_meetingsOf (s_X7_meetingsOf r1 T2.1.1.1 T2.2.1 (by omega)) rfl rfl rfl rfl (by decide) (Nat.le_of_ble_eq_true rfl) (fun z16 h16 q16 => ?_) -- X7_meetingsOf
    obtain ⟨rfl, rfl⟩ := q16
    exact go_iret rfl (Or.inl rfl) ⟨_, rfl, by unfold ms_F; rw [if_pos (by omega), ms_swap]; rfl, F2, I2⟩
  · refine go_bipush rfl ?_
    exact go_iret rfl (Or.inl rfl) ⟨_, rfl, by unfold ms_F; rw [if_neg (by have := rd_n0 c4; omega)], MF.refl h, I⟩
theorem op_meetings {g : ab_G} {h : ab_H} {T : Int} (I : Inv h) : opI g 6 8 m_X6_meetings m_X7_meetings [a_I T] h := op_q (F := fun h => ms_F h T) I (c_meetings I) (fun h I => j_meetings I) (fun h' F => by unfold ms_F ms_n TM; simp only [tW_same F.k9, tM_same F.k9, F.k9 1 (by decide)])
