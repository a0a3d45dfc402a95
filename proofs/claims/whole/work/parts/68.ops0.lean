/-! calls of both: type, wipe, fault, begins, house, law, stand -/
def mty_P (h : ab_H) (v z : Int) (h' : ab_H) : Prop := (¬ (0 ≤ v ∧ v ≤ 255) ∧ z = -2 ∧ h' = h) ∨ ((0 ≤ v ∧ v ≤ 255) ∧ h 62 6 = 80 ∧ z = -4 ∧ h' = h) ∨ ((0 ≤ v ∧ v ≤ 255) ∧ ¬ h 62 6 = 80 ∧ z = h 62 6 + 1 ∧ h' = ab_hs (ab_hs h 67 (h 62 6) v) 62 6 (h 62 6 + 1))
set_option maxHeartbeats 4000000 in
set_option maxRecDepth 100000 in
theorem s_X7_type {g : ab_G} {h : ab_H} {v : Int} (hb : 0 ≤ h 62 6 ∧ h 62 6 ≤ 80) : MethI g 8 m_X7_type [a_R 62, a_I v] h (fun z h' => mty_P h v z h') := by
  refine Meth.of_go k_X7_type (Nat.le_of_ble_eq_true rfl) ?_
  show Go g _ m_X7_type _ 0 [some (a_R 62), some (a_I v)] [] h
  refine go_iload_n rfl rfl ?_
  refine go_i2l rfl ?_
  refine go_lconst rfl ?_
  refine go_ldc2 rfl (z := 255) c_X7_99 ?_
  refine go_cS3I (M' := m_X7_in) rfl l_X7_68 k_X7_in (s_X7_in) rfl (by decide) (Nat.le_of_ble_eq_true rfl) (fun z6 h6 q6 => ?_) -- X7_in
  obtain ⟨rfl, rfl⟩ := q6
  refine go_if_ne rfl (tgt := 15) (by decide) (fun c9 => ?_) (fun c9 => ?_)
  · refine go_aload_n rfl rfl ?_
    refine go_getI rfl f_X7_101 rfl rfl rfl ?_ -- typed
    refine go_bipush rfl ?_
    refine go_icmp_ne rfl (tgt := 27) (by decide) (fun c21 => ?_) (fun c21 => ?_)
    · refine go_aload_n rfl rfl ?_
      refine go_getR rfl f_X7_22 rfl rfl ?_ -- text
      refine go_aload_n rfl rfl ?_
      refine go_getI rfl f_X7_101 rfl rfl rfl ?_ -- typed
      refine go_iload_n rfl rfl ?_
      refine go_iast rfl rfl (by omega) (by omega) ?_
      refine go_aload_n rfl rfl ?_
      refine go_dup rfl ?_
      refine go_getI rfl f_X7_101 rfl rfl rfl ?_ -- typed
      rw [ab_hs_f (by decide)]
      refine go_iconst rfl ?_
      refine go_iadd rfl (by unfold ab_iok; omega) ?_
      refine go_putI rfl f_X7_101 rfl rfl rfl ?_ -- typed
      refine go_aload_n rfl rfl ?_
      refine go_getI rfl f_X7_101 rfl rfl rfl ?_ -- typed
      exact go_iret rfl (Or.inl rfl) ⟨_, rfl, Or.inr (Or.inr ⟨rd_n1 c9, c21, ab_hs_eq, rfl⟩)⟩
    · refine go_bipush rfl ?_
      exact go_iret rfl (Or.inl rfl) ⟨_, rfl, Or.inr (Or.inl ⟨rd_n1 c9, c21, rfl, rfl⟩)⟩
  · refine go_bipush rfl ?_
    exact go_iret rfl (Or.inl rfl) ⟨_, rfl, Or.inl ⟨rd_n0 c9, rfl, rfl⟩⟩
theorem op_type {g : ab_G} {h : ab_H} {v : Int} (I : Inv h) : opI g 8 8 m_X6_type m_X7_type [a_I v] h := by
  have T : iv_T h := I.1
  refine (s_X6_type I).mono (fun r h1 ⟨z, ez, P⟩ => ⟨z, ez, ?_⟩)
  have e6 : h1 62 6 = h 1 5 := by
    rcases P with ⟨-, -, rfl⟩ | ⟨-, -, -, rfl⟩ | ⟨-, -, -, -, -, -, -, k, -⟩
    · exact T.2.1
    · exact T.2.1
    · rw [k 62 (by decide)]; exact T.2.1
  refine (s_X7_type (by rw [e6]; exact T.1)).mono (fun r' h2 ⟨z', ez', P'⟩ => ⟨z', ez', ?_⟩)
  have T1 := T.1
  unfold mty_P at P'
  rw [e6] at P'
  rcases P with ⟨a, b, rfl⟩ | ⟨a, b, c, rfl⟩ | ⟨a, b, c, d, e, f, k0, k, l⟩
  · rcases P' with ⟨a', b', rfl⟩ | ⟨a', -⟩ | ⟨a', -⟩
    · exact ⟨by omega, I⟩
    · exact absurd a' a
    · exact absurd a' a
  · rcases P' with ⟨a', -⟩ | ⟨a', b', c', rfl⟩ | ⟨a', b', -⟩
    · exact absurd a a'
    · exact ⟨by omega, I⟩
    · exact absurd b b'
  · rcases P' with ⟨a', -⟩ | ⟨a', b', -⟩ | ⟨a', b', c', rfl⟩
    · exact absurd a a'
    · omega
    · refine ⟨by omega, ⟨?_, ?_, ?_, ?_, ?_, ?_, ?_⟩⟩
      · refine ⟨?_, ?_, fun i i0 i1 => ?_⟩
        · rw [ab_hs_f (by decide), ab_hs_f (by decide), d]; omega
        · rw [ab_hs_eq, ab_hs_f (by decide), ab_hs_f (by decide), d]
        · rw [ab_hs_f (by decide), ab_hs_f (by decide), d] at i1
          rw [ab_hs_f (by decide), ab_hs_f (by decide), ab_hs_f (by decide), up_eq, e, k 67 (by decide)]
          unfold ps_up
          by_cases y : i = h 1 5
          · rw [if_pos y, if_pos y]
          · rw [if_neg y, if_neg y]; exact T.2.2 i i0 (by omega)
      · exact f.of (fun k k0 k1 => by rw [ab_hs_f (by omega), ab_hs_f (by omega)])
      · exact I.2.2.1.of (by rw [ab_hs_f (by decide), ab_hs_f (by decide), k 7 (by decide)]) (by rw [ab_hs_f (by decide), ab_hs_f (by decide), k 8 (by decide)]) (by rw [ab_hs_f (by decide), ab_hs_f (by decide), k 9 (by decide)]) (by rw [ab_hs_f (by decide), ab_hs_f (by decide), k 72 (by decide)]) (by rw [ab_hs_f (by decide), ab_hs_f (by decide), k 73 (by decide)]) (by rw [ab_hs_f (by decide), ab_hs_f (by decide), k 74 (by decide)])
      · exact I.2.2.2.1.of (by rw [ab_hs_f (by decide), ab_hs_f (by decide), k 24 (by decide)]) (by rw [ab_hs_i (by decide), ab_hs_f (by decide), k 62 (by decide)]) (by rw [ab_hs_f (by decide), ab_hs_f (by decide), k 25 (by decide)]) (by rw [ab_hs_f (by decide), ab_hs_f (by decide), k 26 (by decide)]) (by rw [ab_hs_f (by decide), ab_hs_f (by decide), k 27 (by decide)]) (by rw [ab_hs_f (by decide), ab_hs_f (by decide), k 28 (by decide)]) (by rw [ab_hs_f (by decide), ab_hs_f (by decide), k 81 (by decide)])
      · exact I.2.2.2.2.1.of (by rw [ab_hs_f (by decide), ab_hs_f (by decide), k 32 (by decide)]) (by rw [ab_hs_f (by decide), ab_hs_f (by decide), k 33 (by decide)]) (by rw [ab_hs_f (by decide), ab_hs_f (by decide), k 63 (by decide)]) (by rw [ab_hs_f (by decide), ab_hs_f (by decide), k 64 (by decide)]) (by rw [ab_hs_f (by decide), ab_hs_f (by decide), k 65 (by decide)]) (fun j j0 j1 => by rw [ab_hs_f (by omega), ab_hs_f (by omega), k j (by omega)])
      · exact I.2.2.2.2.2.1.of (by rw [ab_hs_i (by decide), ab_hs_f (by decide), k 62 (by decide)]) (by rw [ab_hs_f (by decide), ab_hs_f (by decide), l 7 (by decide)])
      · exact iv_C.st (by rw [ab_hs_f (by decide), ab_hs_f (by decide)]; exact k0)
set_option maxHeartbeats 4000000 in
set_option maxRecDepth 100000 in
theorem s_X7_wipe {g : ab_G} {h : ab_H}  : MethI g 8 m_X7_wipe [a_R 62] h (fun z h' => z = h 62 6 ∧ h' = ab_hs h 62 6 0) := by
  refine Meth.of_go k_X7_wipe (Nat.le_of_ble_eq_true rfl) ?_
  show Go g _ m_X7_wipe _ 0 [some (a_R 62), none] [] h
  refine go_aload_n rfl rfl ?_
  refine go_getI rfl f_X7_101 rfl rfl rfl ?_ -- typed
  refine go_istore_n rfl (by decide) rfl ?_
  refine go_aload_n rfl rfl ?_
  refine go_iconst rfl ?_
  refine go_putI rfl f_X7_101 rfl rfl rfl ?_ -- typed
  refine go_iload_n rfl rfl ?_
  exact go_iret rfl (Or.inl rfl) ⟨_, rfl, rfl, rfl⟩
theorem op_wipe {g : ab_G} {h : ab_H} (I : Inv h) : opI g 8 8 m_X6_wipe m_X7_wipe [] h := by
  have T : iv_T h := I.1
  refine s_X6_wipe.mono (fun r h1 ⟨z, ez, P⟩ => ⟨z, ez, ?_⟩)
  obtain ⟨a, b, c, d, e, k, l⟩ := P
  refine s_X7_wipe.mono (fun r' h2 ⟨z', ez', a', e2⟩ => ⟨z', ez', ?_⟩)
  subst e2
  refine ⟨?_, ?_, ?_, ?_, ?_, ?_, ?_, ?_⟩
  · rw [a', k 62 (by decide), a]; exact T.2.1
  · refine ⟨?_, ?_, fun i i0 i1 => ?_⟩
    · rw [ab_hs_f (by decide), b]; omega
    · rw [ab_hs_eq, ab_hs_f (by decide), b]
    · rw [ab_hs_f (by decide), b] at i1; omega
  · exact d.of (fun k k0 k1 => by rw [ab_hs_f (by omega)])
  · exact I.2.2.1.of (by rw [ab_hs_f (by decide), k 7 (by decide)]) (by rw [ab_hs_f (by decide), k 8 (by decide)]) (by rw [ab_hs_f (by decide), k 9 (by decide)]) (by rw [ab_hs_f (by decide), k 72 (by decide)]) (by rw [ab_hs_f (by decide), k 73 (by decide)]) (by rw [ab_hs_f (by decide), k 74 (by decide)])
  · exact I.2.2.2.1.of (by rw [ab_hs_f (by decide), k 24 (by decide)]) (by rw [ab_hs_i (by decide), k 62 (by decide)]) (by rw [ab_hs_f (by decide), k 25 (by decide)]) (by rw [ab_hs_f (by decide), k 26 (by decide)]) (by rw [ab_hs_f (by decide), k 27 (by decide)]) (by rw [ab_hs_f (by decide), k 28 (by decide)]) (by rw [ab_hs_f (by decide), k 81 (by decide)])
  · exact I.2.2.2.2.1.of (by rw [ab_hs_f (by decide), k 32 (by decide)]) (by rw [ab_hs_f (by decide), k 33 (by decide)]) (by rw [ab_hs_f (by decide), k 63 (by decide)]) (by rw [ab_hs_f (by decide), k 64 (by decide)]) (by rw [ab_hs_f (by decide), k 65 (by decide)]) (fun j j0 j1 => by rw [ab_hs_f (by omega), k j (by omega)])
  · exact I.2.2.2.2.2.1.of (by rw [ab_hs_i (by decide), k 62 (by decide)]) (by rw [ab_hs_f (by decide), l 7 (by decide)])
  · exact iv_C.st (by rw [ab_hs_f (by decide)]; exact e)
set_option maxHeartbeats 4000000 in
set_option maxRecDepth 100000 in
theorem j_fault {g : ab_G} {h : ab_H} (I : Inv h) : MethI g 8 m_X7_fault [a_R 62] h (fun z h' => z = h 1 6 ∧ MF h h' ∧ Inv h') := by
  refine Meth.of_go k_X7_fault (Nat.le_of_ble_eq_true rfl) ?_
  show Go g _ m_X7_fault _ 0 [some (a_R 62)] [] h
  refine go_aload_n rfl rfl ?_
  refine go_cV0I (M' := m_X7_reads) rfl l_X7_140 k_X7_reads (j_reads I) rfl rfl rfl rfl (by decide) (Nat.le_of_ble_eq_true rfl) (fun z1 h1 q1 => ?_) -- X7_reads
  exact go_iret rfl (Or.inl rfl) ⟨_, rfl, q1.1, q1.2.1.mf, q1.2.2.2⟩
theorem op_fault {g : ab_G} {h : ab_H} (I : Inv h) : opI g 1 8 m_X6_fault m_X7_fault [] h := op_q (F := fun h => h 1 6) I (s_X6_fault.mono (fun r h' ⟨z, e, e1, e2⟩ => ⟨z, e, e2, e1 ▸ CF.refl h, e1 ▸ I⟩)) (fun h I => j_fault I) (fun h' F => by rw [F.1 1 (by decide)])
def bm_n (h : ab_H) (i w : Int) : Int := if w = 0 then h 68 i else if w = 1 then h 69 i else h 70 i
set_option maxHeartbeats 4000000 in
set_option maxRecDepth 100000 in
theorem s_X7_beginsOf {g : ab_G} {h : ab_H} {i w : Int} (hi : 0 ≤ i ∧ i < 6) : MethI g 1 m_X7_beginsOf [a_R 62, a_I i, a_I w] h (fun z h' => h = h' ∧ z = bm_n h i w) := by
  refine Meth.of_go k_X7_beginsOf (Nat.le_of_ble_eq_true rfl) ?_
  show Go g _ m_X7_beginsOf _ 0 [some (a_R 62), some (a_I i), some (a_I w)] [] h
  refine go_iload_n rfl rfl ?_
  refine go_if_ne rfl (tgt := 13) (by decide) (fun c1 => ?_) (fun c1 => ?_)
  · refine go_iload_n rfl rfl ?_
    refine go_iconst rfl ?_
    refine go_icmp_ne rfl (tgt := 27) (by decide) (fun c15 => ?_) (fun c15 => ?_)
    · refine go_aload_n rfl rfl ?_
      refine go_getR rfl f_X7_31 rfl rfl ?_ -- sets
      refine go_iload_n rfl rfl ?_
      refine go_iald rfl rfl (by omega) (by omega) ?_
      exact go_iret rfl (Or.inl rfl) ⟨_, rfl, rfl, by unfold bm_n; rw [if_neg c1, if_neg c15]⟩
    · refine go_aload_n rfl rfl ?_
      refine go_getR rfl f_X7_28 rfl rfl ?_ -- faces
      refine go_iload_n rfl rfl ?_
      refine go_iald rfl rfl (by omega) (by omega) ?_
      refine go_goto rfl (tgt := 33) (by decide) ?_
      exact go_iret rfl (Or.inl rfl) ⟨_, rfl, rfl, by unfold bm_n; rw [if_neg c1, if_pos c15]⟩
  · refine go_aload_n rfl rfl ?_
    refine go_getR rfl f_X7_25 rfl rfl ?_ -- begin
    refine go_iload_n rfl rfl ?_
    refine go_iald rfl rfl (by omega) (by omega) ?_
    refine go_goto rfl (tgt := 33) (by decide) ?_
    exact go_iret rfl (Or.inl rfl) ⟨_, rfl, rfl, by unfold bm_n; rw [if_pos c1]⟩
theorem bm_eq {h : ab_H} {i w : Int} (R : MR h) (hi : 0 ≤ i ∧ i < h 1 8) : bm_n h i w = bg_n h i w := by
  obtain ⟨a, b, c⟩ := R.2.2.2.1 i hi.1 (by rw [R.2.1]; exact hi.2)
  have a : h 68 i = h 3 i := a
  have b : h 69 i = h 4 i := b
  have c : h 70 i = h 5 i := c
  unfold bm_n bg_n
  rw [a, b, c]
theorem bg_same {h h' : ab_H} (e : ∀ k, (1 ≤ k ∧ k ≤ 9) → h' k = h k) (i w : Int) : bg_n h' i w = bg_n h i w := by
  unfold bg_n
  rw [e 3 (by omega), e 4 (by omega), e 5 (by omega)]
theorem bgF_same {h h' : ab_H} (e : ∀ k, (1 ≤ k ∧ k ≤ 9) → h' k = h k) (i w : Int) : bg_F h' i w = bg_F h i w := by
  unfold bg_F
  rw [bg_same e, e 1 (by omega)]
set_option maxHeartbeats 4000000 in
set_option maxRecDepth 100000 in
theorem j_begins {g : ab_G} {h : ab_H} {v w : Int} (I : Inv h) : MethI g 8 m_X7_begins [a_R 62, a_I v, a_I w] h (fun z h' => z = bg_F h v w ∧ MF h h' ∧ Inv h') := by
  refine Meth.of_go k_X7_begins (Nat.le_of_ble_eq_true rfl) ?_
  show Go g _ m_X7_begins _ 0 [some (a_R 62), some (a_I v), some (a_I w)] [] h
  have r1 := I.ro.1
  refine go_aload_n rfl rfl ?_
  refine go_iload_n rfl rfl ?_
  refine go_cV1I (M' := m_X7_isMan) rfl l_X7_143 k_X7_isMan (j_isMan I) rfl rfl rfl rfl (by decide) (Nat.le_of_ble_eq_true rfl) (fun z2 h2 q2 => ?_) -- X7_isMan
  refine go_if_eq rfl (tgt := 29) (by decide) (fun c5 => ?_) (fun c5 => ?_)
  · refine go_bipush rfl ?_
    exact go_iret rfl (Or.inl rfl) ⟨_, rfl, by unfold bg_F; rw [if_neg (fun z => rd_n0 (q2.1 ▸ c5) z.1)], q2.2.1.mf, q2.2.2.2⟩
  · refine go_iload_n rfl rfl ?_
    refine go_i2l rfl ?_
    refine go_lconst rfl ?_
    refine go_ldc2 rfl (z := 2) c_X7_84 ?_
    refine go_cS3I (M' := m_X7_in) rfl l_X7_68 k_X7_in (s_X7_in) rfl (by decide) (Nat.le_of_ble_eq_true rfl) (fun z14 h14 q14 => ?_) -- X7_in
    obtain ⟨rfl, rfl⟩ := q14
    refine go_if_eq rfl (tgt := 29) (by decide) (fun c17 => ?_) (fun c17 => ?_)
    · refine go_bipush rfl ?_
      exact go_iret rfl (Or.inl rfl) ⟨_, rfl, by unfold bg_F; rw [if_neg (fun z => rd_n0 c17 z.2)], q2.2.1.mf, q2.2.2.2⟩
    · refine go_aload_n rfl rfl ?_
      refine go_iload_n rfl rfl ?_
      refine go_iload_n rfl rfl ?_
      refine go_cV2I (M' := m_X7_beginsOf) rfl l_X7_146 k_X7_beginsOf (s_X7_beginsOf (by have := rd_n1 (q2.1 ▸ c5); omega)) rfl rfl rfl rfl (by decide) (Nat.le_of_ble_eq_true rfl) (fun z23 h23 q23 => ?_) -- X7_beginsOf
      obtain ⟨rfl, rfl⟩ := q23
      refine go_goto rfl (tgt := 31) (by decide) ?_
      exact go_iret rfl (Or.inl rfl) ⟨_, rfl, by have y := rd_n1 (q2.1 ▸ c5); unfold bg_F; rw [if_pos ⟨y, rd_n1 c17⟩, bm_eq q2.2.2.1 (by rw [q2.2.1.1 1 (by decide)]; exact y), bg_same q2.2.1.mf.k9], q2.2.1.mf, q2.2.2.2⟩
theorem op_begins {g : ab_G} {h : ab_H} {v w : Int} (I : Inv h) : opI g 2 8 m_X6_begins m_X7_begins [a_I v, a_I w] h := op_q (F := fun h => bg_F h v w) I ((s_X6_begins I).mono (fun r h' ⟨z, e, e1, e2⟩ => ⟨z, e, e2, e1 ▸ CF.refl h, e1 ▸ I⟩)) (fun h I => j_begins I) (fun h' F => bgF_same F.k9 v w)
set_option maxHeartbeats 4000000 in
set_option maxRecDepth 100000 in
theorem j_house {g : ab_G} {h : ab_H} {v : Int} (I : Inv h) : MethI g 8 m_X7_house [a_R 62, a_I v] h (fun z h' => z = hs_F h v ∧ MF h h' ∧ Inv h') := by
  refine Meth.of_go k_X7_house (Nat.le_of_ble_eq_true rfl) ?_
  show Go g _ m_X7_house _ 0 [some (a_R 62), some (a_I v)] [] h
  refine go_aload_n rfl rfl ?_
  refine go_cV0I (M' := m_X7_reads) rfl l_X7_140 k_X7_reads (j_reads I) rfl rfl rfl rfl (by decide) (Nat.le_of_ble_eq_true rfl) (fun z1 h1 q1 => ?_) -- X7_reads
  obtain ⟨-, F1, R1, I1⟩ := q1
  have e13 : h1 62 13 = h 1 9 := by have z := R1.2.2.1; rw [show (rd_ps h1).2.2.2.2.1 = h1 1 9 from rfl, F1.1 1 (by decide)] at z; exact z
  have r1 := I.hs.1
  refine go_pop rfl ?_
  refine go_iload_n rfl rfl ?_
  refine go_i2l rfl ?_
  refine go_lconst rfl ?_
  refine go_aload_n rfl rfl ?_
  refine go_getI rfl f_X7_113 rfl rfl rfl ?_ -- houses
  refine go_iconst rfl ?_
  refine go_isub rfl (by unfold ab_iok; omega) ?_
  refine go_i2l rfl ?_
  refine go_cS3I (M' := m_X7_in) rfl l_X7_68 k_X7_in (s_X7_in) rfl (by decide) (Nat.le_of_ble_eq_true rfl) (fun z15 h15 q15 => ?_) -- X7_in
  obtain ⟨rfl, rfl⟩ := q15
  refine go_if_eq rfl (tgt := 30) (by decide) (fun c18 => ?_) (fun c18 => ?_)
  · refine go_bipush rfl ?_
    exact go_iret rfl (Or.inl rfl) ⟨_, rfl, by unfold hs_F; rw [if_neg (fun z => rd_n0 c18 (by omega))], F1.mf, I1⟩
  · refine go_aload_n rfl rfl ?_
    refine go_getR rfl f_X7_34 rfl rfl ?_ -- housePace
    refine go_iload_n rfl rfl ?_
    refine go_iald rfl rfl (by have := rd_n1 c18; omega) (by have := rd_n1 c18; omega) ?_
    refine go_goto rfl (tgt := 32) (by decide) ?_
    exact go_iret rfl (Or.inl rfl) ⟨_, rfl, by have y := rd_n1 c18; unfold hs_F; rw [if_pos (by omega)]; have z := R1.2.2.2.2 v (by omega) (by show v < h1 62 13; omega); have z : h1 71 v = h1 6 v := z; rw [z, F1.1 6 (by decide)], F1.mf, I1⟩
theorem hsF_same {h h' : ab_H} (e : ∀ k, (1 ≤ k ∧ k ≤ 9) → h' k = h k) (i : Int) : hs_F h' i = hs_F h i := by
  unfold hs_F
  rw [e 6 (by omega), e 1 (by omega)]
theorem op_house {g : ab_G} {h : ab_H} {v : Int} (I : Inv h) : opI g 1 8 m_X6_house m_X7_house [a_I v] h := op_q (F := fun h => hs_F h v) I ((s_X6_house I).mono (fun r h' ⟨z, e, e1, e2⟩ => ⟨z, e, e2, e1 ▸ CF.refl h, e1 ▸ I⟩)) (fun h I => j_house I) (fun h' F => hsF_same F.k9 v)
def mlw_P (h : ab_H) (k v z : Int) (h' : ab_H) : Prop := (¬ ((k = 0 ∧ 0 ≤ v ∧ v ≤ 2) ∨ (k = 1 ∧ 0 ≤ v ∧ v ≤ 1)) ∧ z = -2 ∧ h' = h) ∨ (((k = 0 ∧ 0 ≤ v ∧ v ≤ 2) ∨ (k = 1 ∧ 0 ≤ v ∧ v ≤ 1)) ∧ z = h 72 k ∧ h' = ab_hs h 72 k v)
set_option maxHeartbeats 4000000 in
set_option maxRecDepth 100000 in
theorem s_X7_law {g : ab_G} {h : ab_H} {k v : Int}  : MethI g 8 m_X7_law [a_R 62, a_I k, a_I v] h (fun z h' => mlw_P h k v z h') := by
  refine Meth.of_go k_X7_law (Nat.le_of_ble_eq_true rfl) ?_
  show Go g _ m_X7_law _ 0 [some (a_R 62), some (a_I k), some (a_I v), none] [] h
  refine go_iload_n rfl rfl ?_
  refine go_cS1I (M' := m_X7_isTwo) rfl l_X7_149 k_X7_isTwo (s_X7_isTwo) rfl (by decide) (Nat.le_of_ble_eq_true rfl) (fun z1 h1 q1 => ?_) -- X7_isTwo
  obtain ⟨rfl, rfl⟩ := q1
  refine go_if_eq rfl (tgt := 27) (by decide) (fun c4 => ?_) (fun c4 => ?_)
  · refine go_bipush rfl ?_
    exact go_iret rfl (Or.inl rfl) ⟨_, rfl, Or.inl ⟨by have := rd_n0 c4; omega, rfl, rfl⟩⟩
  · refine go_iload_n rfl rfl ?_
    refine go_i2l rfl ?_
    refine go_lconst rfl ?_
    refine go_iload_n rfl rfl ?_
    refine go_if_ne rfl (tgt := 20) (by decide) (fun c11 => ?_) (fun c11 => ?_)
    · refine go_lconst rfl ?_
      refine go_cS3I (M' := m_X7_in) rfl l_X7_68 k_X7_in (s_X7_in) rfl (by decide) (Nat.le_of_ble_eq_true rfl) (fun z21 h21 q21 => ?_) -- X7_in
      obtain ⟨rfl, rfl⟩ := q21
      refine go_if_ne rfl (tgt := 30) (by decide) (fun c24 => ?_) (fun c24 => ?_)
      · refine go_aload_n rfl rfl ?_
        refine go_getR rfl f_X7_37 rfl rfl ?_ -- laws
        refine go_iload_n rfl rfl ?_
        refine go_iald rfl rfl (by have := rd_n1 c4; omega) (by have := rd_n1 c4; omega) ?_
        refine go_istore_n rfl (by decide) rfl ?_
        refine go_aload_n rfl rfl ?_
        refine go_getR rfl f_X7_37 rfl rfl ?_ -- laws
        refine go_iload_n rfl rfl ?_
        refine go_iload_n rfl rfl ?_
        refine go_iast rfl rfl (by have := rd_n1 c4; omega) (by have := rd_n1 c4; omega) ?_
        refine go_iload_n rfl rfl ?_
        exact go_iret rfl (Or.inl rfl) ⟨_, rfl, Or.inr ⟨by have := rd_n1 c4; have := rd_n1 c24; omega, rfl, rfl⟩⟩
      · refine go_bipush rfl ?_
        exact go_iret rfl (Or.inl rfl) ⟨_, rfl, Or.inl ⟨by have := rd_n1 c4; have := rd_n0 c24; omega, rfl, rfl⟩⟩
    · refine go_ldc2 rfl (z := 2) c_X7_84 ?_
      refine go_goto rfl (tgt := 21) (by decide) ?_
      refine go_cS3I (M' := m_X7_in) rfl l_X7_68 k_X7_in (s_X7_in) rfl (by decide) (Nat.le_of_ble_eq_true rfl) (fun z21 h21 q21 => ?_) -- X7_in
      obtain ⟨rfl, rfl⟩ := q21
      refine go_if_ne rfl (tgt := 30) (by decide) (fun c24 => ?_) (fun c24 => ?_)
      · refine go_aload_n rfl rfl ?_
        refine go_getR rfl f_X7_37 rfl rfl ?_ -- laws
        refine go_iload_n rfl rfl ?_
        refine go_iald rfl rfl (by have := rd_n1 c4; omega) (by have := rd_n1 c4; omega) ?_
        refine go_istore_n rfl (by decide) rfl ?_
        refine go_aload_n rfl rfl ?_
        refine go_getR rfl f_X7_37 rfl rfl ?_ -- laws
        refine go_iload_n rfl rfl ?_
        refine go_iload_n rfl rfl ?_
        refine go_iast rfl rfl (by have := rd_n1 c4; omega) (by have := rd_n1 c4; omega) ?_
        refine go_iload_n rfl rfl ?_
        exact go_iret rfl (Or.inl rfl) ⟨_, rfl, Or.inr ⟨by have := rd_n1 c4; have := rd_n1 c24; omega, rfl, rfl⟩⟩
      · refine go_bipush rfl ?_
        exact go_iret rfl (Or.inl rfl) ⟨_, rfl, Or.inl ⟨by have := rd_n1 c4; have := rd_n0 c24; omega, rfl, rfl⟩⟩
theorem op_law {g : ab_G} {h : ab_H} {k v : Int} (I : Inv h) : opI g 8 8 m_X6_law m_X7_law [a_I k, a_I v] h := by
  have U : iv_U h := I.2.2.1
  refine s_X6_law.mono (fun r h1 ⟨z, ez, P⟩ => ⟨z, ez, ?_⟩)
  refine s_X7_law.mono (fun r' h2 ⟨z', ez', P'⟩ => ⟨z', ez', ?_⟩)
  rcases P with ⟨a, b, rfl⟩ | ⟨a, b, rfl⟩
  · rcases P' with ⟨a', b', rfl⟩ | ⟨a', b', rfl⟩
    · exact ⟨by omega, I⟩
    · exact absurd a' a
  · rcases P' with ⟨a', b', rfl⟩ | ⟨a', b', rfl⟩
    · exact absurd a a'
    · obtain ⟨⟨u1, u2, u3, u4⟩, u5⟩ := U
      refine ⟨?_, ?_, ?_, ?_, ?_, ?_, ?_, ?_⟩
      · rw [b', ab_hs_f (by decide), ab_hs_f (by decide), b]
        rcases a with ⟨rfl, -⟩ | ⟨rfl, -⟩
        · exact u3
        · exact u4
      · exact I.1.of (by rw [ab_hs_f (by decide), ab_hs_f (by decide), ab_hs_f (by decide)]) (by rw [ab_hs_f (by decide), ab_hs_f (by decide), ab_hs_f (by decide)]) (by rw [ab_hs_f (by decide), ab_hs_f (by decide), ab_hs_f (by decide)]) (by rw [ab_hs_f (by decide), ab_hs_f (by decide), ab_hs_f (by decide)])
      · exact I.2.1.of (fun k k0 k1 => by rw [ab_hs_f (by omega), ab_hs_f (by omega), ab_hs_f (by omega)])
      · refine ⟨?_, fun i i0 i1 => ?_⟩
        · rw [ab_hs_f (k := 72) (by decide), ab_hs_f (k := 0) (by decide)]
          have e72 : ab_hs (ab_hs (ab_hs h 7 (2 + k) v) 0 6 1) 72 k v 72 = ps_up (h 72) k v := by rw [up_eq, ab_hs_f (by decide), ab_hs_f (by decide)]
          rw [e72, up_eq]
          unfold ps_up
          rcases a with ⟨rfl, a⟩ | ⟨rfl, a⟩
          · simp only [Int.add_zero, if_true, Int.reduceEq, if_false]; exact ⟨a, u2, trivial, u4⟩
          · simp only [Int.reduceAdd, if_true, Int.reduceEq, if_false]; exact ⟨u1, a, u3, trivial⟩
        · have := u5 i i0 i1
          rw [ab_hs_f (by decide), ab_hs_f (by decide), ab_hs_f (by decide), ab_hs_f (by decide), ab_hs_f (by decide), ab_hs_f (by decide), ab_hs_f (by decide), ab_hs_f (by decide), ab_hs_f (by decide), ab_hs_f (by decide), ab_hs_f (by decide), ab_hs_f (by decide)]
          exact this
      · exact I.2.2.2.1.of (by rw [ab_hs_f (by decide), ab_hs_f (by decide), ab_hs_f (by decide)]) (by rw [ab_hs_f (by decide), ab_hs_f (by decide), ab_hs_f (by decide)]) (by rw [ab_hs_f (by decide), ab_hs_f (by decide), ab_hs_f (by decide)]) (by rw [ab_hs_f (by decide), ab_hs_f (by decide), ab_hs_f (by decide)]) (by rw [ab_hs_f (by decide), ab_hs_f (by decide), ab_hs_f (by decide)]) (by rw [ab_hs_f (by decide), ab_hs_f (by decide), ab_hs_f (by decide)]) (by rw [ab_hs_f (by decide), ab_hs_f (by decide), ab_hs_f (by decide)])
      · exact I.2.2.2.2.1.of (by rw [ab_hs_f (by decide), ab_hs_f (by decide), ab_hs_f (by decide)]) (by rw [ab_hs_f (by decide), ab_hs_f (by decide), ab_hs_f (by decide)]) (by rw [ab_hs_f (by decide), ab_hs_f (by decide), ab_hs_f (by decide)]) (by rw [ab_hs_f (by decide), ab_hs_f (by decide), ab_hs_f (by decide)]) (by rw [ab_hs_f (by decide), ab_hs_f (by decide), ab_hs_f (by decide)]) (fun j j0 j1 => by rw [ab_hs_f (by omega), ab_hs_f (by omega), ab_hs_f (by omega)])
      · exact I.2.2.2.2.2.1.of (by rw [ab_hs_f (by decide), ab_hs_f (by decide), ab_hs_f (by decide)]) (by rw [ab_hs_f (by decide), ab_hs_i (by decide), ab_hs_f (by decide)])
      · exact iv_C.st (by rw [ab_hs_f (by decide)]; exact ab_hs_eq)
