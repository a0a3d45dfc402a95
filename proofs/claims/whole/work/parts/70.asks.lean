/-! the class's answers over the fresh course -/
noncomputable def mn_n (h : ab_H) (i t w : Int) : Int := if w = 0 then (TW h t).1 i else if w = 1 then (TW h t).2.1 i else (TW h t).2.2 i
noncomputable def mn_F (h : ab_H) (i t w : Int) : Int := if (0 ≤ i ∧ i < h 1 8) ∧ (0 ≤ t ∧ t ≤ 400) ∧ 0 ≤ w ∧ w ≤ 2 then mn_n h i t w else -2
noncomputable def bg2_F (h : ab_H) (i t w : Int) : Int := if (0 ≤ i ∧ i < h 1 8) ∧ (0 ≤ t ∧ t ≤ 400) ∧ 0 ≤ w ∧ w ≤ 1 then (if w = 0 then tb_bp (h 1 8) (TW h) t i else tb_H (h 1 8) (TW h) t i) else -2
noncomputable def cd_n (h : ab_H) (i b T : Int) : Int := wk_num (fun t => (TW h t).2.2 i = b) T.toNat
noncomputable def cd_F (h : ab_H) (i b T : Int) : Int := if (0 ≤ i ∧ i < h 1 8) ∧ (0 ≤ b ∧ b < h 1 8) ∧ 0 ≤ T ∧ T ≤ 400 then cd_n h i b T else -2
def no_F (h : ab_H) (b t : Int) : Int := if (0 ≤ b ∧ b < h 1 8) ∧ 0 ≤ t ∧ t ≤ 400 then TA h t b else -2
def tr_P (h : ab_H) (T : Int) : Prop := ∀ t, 0 ≤ t → t ≤ T → ∀ b, 0 ≤ b → b < h 1 8 → tb_bp (h 1 8) (TW h) t b = TA h t b
noncomputable def tr_F (h : ab_H) (T : Int) : Int := if 0 ≤ T ∧ T ≤ 400 then rd_bool (tr_P h T) else -2
def ag_P (h : ab_H) (t : Int) : Prop := ∀ i, 0 ≤ i → i < h 1 8 → (TW h t).1 i = (TW h 0).1 i ∧ (TW h t).2.1 i = (TW h 0).2.1 i ∧ (TW h t).2.2 i = (TW h 0).2.2 i
noncomputable def ag_F (h : ab_H) : Int := fs 1 401 (ag_P h)
noncomputable def mt_n (h : ab_H) (a b T : Int) : Int := wk_num (fun t => TM h t a b) (T + 1).toNat
noncomputable def mt_F (h : ab_H) (a b T : Int) : Int := if (0 ≤ a ∧ a < h 1 8) ∧ (0 ≤ b ∧ b < h 1 8) ∧ a ≠ b ∧ 0 ≤ T ∧ T ≤ 400 then mt_n h a b T else -2
theorem wn_nx {q : Int → Prop} {i : Int} (hi : 0 ≤ i) : wk_num q (i + 1).toNat = wk_num q i.toNat + rd_bool (q i) := gl_num hi
theorem wn_in {q : Int → Prop} : ∀ k : Nat, 0 ≤ wk_num q k ∧ wk_num q k ≤ k
  | 0 => ⟨Int.le_refl 0, Int.le_refl 0⟩
  | k + 1 => by
    have := wn_in (q := q) k
    rw [wk_num]
    rcases rd_01 (q k) with e | e <;> rw [e] <;> omega
set_option maxHeartbeats 4000000 in
set_option maxRecDepth 100000 in
theorem c_man {g : ab_G} {h : ab_H} {v t w : Int} (I : Inv h) : MethI g 6 m_X6_man [a_R 0, a_I v, a_I t, a_I w] h (fun z h' => z = mn_F h v t w ∧ CF h h' ∧ Inv h') := by
  have r1 := I.ro.1
  refine Meth.of_go k_X6_man (Nat.le_of_ble_eq_true rfl) ?_
  show Go g _ m_X6_man _ 0 [some (a_R 0), some (a_I v), some (a_I t), some (a_I w)] [] h
  refine go_aload_n rfl rfl ?_
  refine go_iload_n rfl rfl ?_
  refine go_cV1I (M' := m_X6_isMan) rfl l_X6_72 k_X6_isMan (s_X6_isMan) rfl rfl rfl rfl (by decide) (Nat.le_of_ble_eq_true rfl) (fun z2 h2 q2 => ?_) -- X6_isMan
  obtain ⟨rfl, rfl⟩ := q2
  refine go_if_eq rfl (tgt := 24) (by decide) (fun c5 => ?_) (fun c5 => ?_)
  · refine go_bipush rfl ?_
    exact go_iret rfl (Or.inl rfl) ⟨_, rfl, by unfold mn_F; rw [if_neg (by have := rd_n0 c5; omega)], CF.refl h, I⟩
  · refine go_iload_n rfl rfl ?_
    refine go_cS1I (M' := m_X6_isTime) rfl l_X6_104 k_X6_isTime (s_X6_isTime) rfl (by decide) (Nat.le_of_ble_eq_true rfl) (fun z9 h9 q9 => ?_) -- X6_isTime
    obtain ⟨rfl, rfl⟩ := q9
    refine go_if_eq rfl (tgt := 24) (by decide) (fun c12 => ?_) (fun c12 => ?_)
    · refine go_bipush rfl ?_
      exact go_iret rfl (Or.inl rfl) ⟨_, rfl, by unfold mn_F; rw [if_neg (by have := rd_n0 c12; omega)], CF.refl h, I⟩
    · refine go_iload_n rfl rfl ?_
      refine go_if_lt rfl (tgt := 24) (by decide) (fun c16 => ?_) (fun c16 => ?_)
      · refine go_bipush rfl ?_
        exact go_iret rfl (Or.inl rfl) ⟨_, rfl, by unfold mn_F; rw [if_neg (by skip; omega)], CF.refl h, I⟩
      · refine go_iload_n rfl rfl ?_
        refine go_iconst rfl ?_
        refine go_icmp_le rfl (tgt := 27) (by decide) (fun c21 => ?_) (fun c21 => ?_)
        · have y1 := rd_n1 c5
          have y2 := rd_n1 c12
          refine go_aload_n rfl rfl ?_
          refine go_cV0V (M' := m_X6_refresh) rfl l_X6_107 k_X6_refresh (j_refresh I) rfl rfl rfl rfl (by decide) (Nat.le_of_ble_eq_true rfl) (fun h28 q28 => ?_) -- X6_refresh
          obtain ⟨F1, I1, T1⟩ := q28
          refine go_iload_n rfl rfl ?_
          refine go_if_ne rfl (tgt := 47) (by decide) (fun c32 => ?_) (fun c32 => ?_)
          · refine go_iload_n rfl rfl ?_
            refine go_iconst rfl ?_
            refine go_icmp_ne rfl (tgt := 66) (by decide) (fun c49 => ?_) (fun c49 => ?_)
            · refine go_aload_n rfl rfl ?_
              refine go_getR rfl f_X6_33 rfl rfl ?_ -- course
              refine go_getR rfl f_X6_116 rfl rfl ?_ -- load
              refine go_iload_n rfl rfl ?_
              refine go_aald rfl rfl (by omega) (by omega) (rf_21 v.toNat (by omega)) ?_
              refine go_iload_n rfl rfl ?_
              refine go_iald rfl (kd_bg (by omega)) (by omega) (by omega) ?_
              exact go_iret rfl (Or.inl rfl) ⟨_, rfl, by unfold mn_F mn_n; rw [if_pos (by omega), if_neg c32, if_neg c49]; exact ((T1.1.2.2 t v (by omega) (by omega) (by omega) (by omega)).2.2), F1, I1⟩
            · refine go_aload_n rfl rfl ?_
              refine go_getR rfl f_X6_33 rfl rfl ?_ -- course
              refine go_getR rfl f_X6_114 rfl rfl ?_ -- facing
              refine go_iload_n rfl rfl ?_
              refine go_aald rfl rfl (by omega) (by omega) (rf_20 v.toNat (by omega)) ?_
              refine go_iload_n rfl rfl ?_
              refine go_iald rfl (kd_fc (by omega)) (by omega) (by omega) ?_
              refine go_goto rfl (tgt := 77) (by decide) ?_
              exact go_iret rfl (Or.inl rfl) ⟨_, rfl, by unfold mn_F mn_n; rw [if_pos (by omega), if_neg c32, if_pos c49]; exact ((T1.1.2.2 t v (by omega) (by omega) (by omega) (by omega)).2.1), F1, I1⟩
          · refine go_aload_n rfl rfl ?_
            refine go_getR rfl f_X6_33 rfl rfl ?_ -- course
            refine go_getR rfl f_X6_110 rfl rfl ?_ -- place
            refine go_iload_n rfl rfl ?_
            refine go_aald rfl rfl (by omega) (by omega) (rf_19 v.toNat (by omega)) ?_
            refine go_iload_n rfl rfl ?_
            refine go_iald rfl (kd_pl (by omega)) (by omega) (by omega) ?_
            exact go_iret rfl (Or.inl rfl) ⟨_, rfl, by unfold mn_F mn_n; rw [if_pos (by omega), if_pos c32]; exact ((T1.1.2.2 t v (by omega) (by omega) (by omega) (by omega)).1), F1, I1⟩
        · refine go_bipush rfl ?_
          exact go_iret rfl (Or.inl rfl) ⟨_, rfl, by unfold mn_F; rw [if_neg (by skip; omega)], CF.refl h, I⟩
set_option maxHeartbeats 4000000 in
set_option maxRecDepth 100000 in
theorem c_bag {g : ab_G} {h : ab_H} {v t w : Int} (I : Inv h) : MethI g 6 m_X6_bag [a_R 0, a_I v, a_I t, a_I w] h (fun z h' => z = bg2_F h v t w ∧ CF h h' ∧ Inv h') := by
  have r1 := I.ro.1
  refine Meth.of_go k_X6_bag (Nat.le_of_ble_eq_true rfl) ?_
  show Go g _ m_X6_bag _ 0 [some (a_R 0), some (a_I v), some (a_I t), some (a_I w)] [] h
  refine go_aload_n rfl rfl ?_
  refine go_iload_n rfl rfl ?_
  refine go_cV1I (M' := m_X6_isMan) rfl l_X6_72 k_X6_isMan (s_X6_isMan) rfl rfl rfl rfl (by decide) (Nat.le_of_ble_eq_true rfl) (fun z2 h2 q2 => ?_) -- X6_isMan
  obtain ⟨rfl, rfl⟩ := q2
  refine go_if_eq rfl (tgt := 24) (by decide) (fun c5 => ?_) (fun c5 => ?_)
  · refine go_bipush rfl ?_
    exact go_iret rfl (Or.inl rfl) ⟨_, rfl, by unfold bg2_F; rw [if_neg (by have := rd_n0 c5; omega)], CF.refl h, I⟩
  · refine go_iload_n rfl rfl ?_
    refine go_cS1I (M' := m_X6_isTime) rfl l_X6_104 k_X6_isTime (s_X6_isTime) rfl (by decide) (Nat.le_of_ble_eq_true rfl) (fun z9 h9 q9 => ?_) -- X6_isTime
    obtain ⟨rfl, rfl⟩ := q9
    refine go_if_eq rfl (tgt := 24) (by decide) (fun c12 => ?_) (fun c12 => ?_)
    · refine go_bipush rfl ?_
      exact go_iret rfl (Or.inl rfl) ⟨_, rfl, by unfold bg2_F; rw [if_neg (by have := rd_n0 c12; omega)], CF.refl h, I⟩
    · refine go_iload_n rfl rfl ?_
      refine go_if_lt rfl (tgt := 24) (by decide) (fun c16 => ?_) (fun c16 => ?_)
      · refine go_bipush rfl ?_
        exact go_iret rfl (Or.inl rfl) ⟨_, rfl, by unfold bg2_F; rw [if_neg (by skip; omega)], CF.refl h, I⟩
      · refine go_iload_n rfl rfl ?_
        refine go_iconst rfl ?_
        refine go_icmp_le rfl (tgt := 27) (by decide) (fun c21 => ?_) (fun c21 => ?_)
        · have y1 := rd_n1 c5
          have y2 := rd_n1 c12
          refine go_aload_n rfl rfl ?_
          refine go_cV0V (M' := m_X6_refresh) rfl l_X6_107 k_X6_refresh (j_refresh I) rfl rfl rfl rfl (by decide) (Nat.le_of_ble_eq_true rfl) (fun h28 q28 => ?_) -- X6_refresh
          obtain ⟨F1, I1, T1⟩ := q28
          refine go_iload_n rfl rfl ?_
          refine go_if_ne rfl (tgt := 47) (by decide) (fun c32 => ?_) (fun c32 => ?_)
          · refine go_aload_n rfl rfl ?_
            refine go_getR rfl f_X6_33 rfl rfl ?_ -- course
            refine go_iload_n rfl rfl ?_
            refine go_iload_n rfl rfl ?_
            refine go_cV2I (M' := m_X0_holder) rfl l_X6_123 k_X0_holder (s_X0_holder T1.1 (by omega)) rfl rfl rfl rfl (by decide) (Nat.le_of_ble_eq_true rfl) (fun z53 h53 q53 => ?_) -- X0_holder
            obtain ⟨rfl, rfl⟩ := q53
            exact go_iret rfl (Or.inl rfl) ⟨_, rfl, by unfold bg2_F; rw [if_pos (by omega), if_neg c32], F1, I1⟩
          · refine go_aload_n rfl rfl ?_
            refine go_getR rfl f_X6_33 rfl rfl ?_ -- course
            refine go_iload_n rfl rfl ?_
            refine go_iload_n rfl rfl ?_
            refine go_cV2I (M' := m_X0_bagPlace) rfl l_X6_119 k_X0_bagPlace (s_X0_bagPlace T1.1 (by omega)) rfl rfl rfl rfl (by decide) (Nat.le_of_ble_eq_true rfl) (fun z41 h41 q41 => ?_) -- X0_bagPlace
            obtain ⟨rfl, rfl⟩ := q41
            refine go_goto rfl (tgt := 56) (by decide) ?_
            exact go_iret rfl (Or.inl rfl) ⟨_, rfl, by unfold bg2_F; rw [if_pos (by omega), if_pos c32], F1, I1⟩
        · refine go_bipush rfl ?_
          exact go_iret rfl (Or.inl rfl) ⟨_, rfl, by unfold bg2_F; rw [if_neg (by skip; omega)], CF.refl h, I⟩
set_option maxHeartbeats 4000000 in
set_option maxRecDepth 100000 in
theorem c_namesOff {g : ab_G} {h : ab_H} {v t : Int} (I : Inv h) : MethI g 6 m_X6_namesOff [a_R 0, a_I v, a_I t] h (fun z h' => z = no_F h v t ∧ CF h h' ∧ Inv h') := by
  have r1 := I.ro.1
  refine Meth.of_go k_X6_namesOff (Nat.le_of_ble_eq_true rfl) ?_
  show Go g _ m_X6_namesOff _ 0 [some (a_R 0), some (a_I v), some (a_I t)] [] h
  refine go_aload_n rfl rfl ?_
  refine go_iload_n rfl rfl ?_
  refine go_cV1I (M' := m_X6_isMan) rfl l_X6_72 k_X6_isMan (s_X6_isMan) rfl rfl rfl rfl (by decide) (Nat.le_of_ble_eq_true rfl) (fun z2 h2 q2 => ?_) -- X6_isMan
  obtain ⟨rfl, rfl⟩ := q2
  refine go_if_eq rfl (tgt := 15) (by decide) (fun c5 => ?_) (fun c5 => ?_)
  · refine go_bipush rfl ?_
    exact go_iret rfl (Or.inl rfl) ⟨_, rfl, by unfold no_F; rw [if_neg (by have := rd_n0 c5; omega)], CF.refl h, I⟩
  · refine go_iload_n rfl rfl ?_
    refine go_cS1I (M' := m_X6_isTime) rfl l_X6_104 k_X6_isTime (s_X6_isTime) rfl (by decide) (Nat.le_of_ble_eq_true rfl) (fun z9 h9 q9 => ?_) -- X6_isTime
    obtain ⟨rfl, rfl⟩ := q9
    refine go_if_ne rfl (tgt := 18) (by decide) (fun c12 => ?_) (fun c12 => ?_)
    · have y1 := rd_n1 c5
      have y2 := rd_n1 c12
      refine go_aload_n rfl rfl ?_
      refine go_cV0V (M' := m_X6_refresh) rfl l_X6_107 k_X6_refresh (j_refresh I) rfl rfl rfl rfl (by decide) (Nat.le_of_ble_eq_true rfl) (fun h19 q19 => ?_) -- X6_refresh
      obtain ⟨F1, I1, T1⟩ := q19
      refine go_aload_n rfl rfl ?_
      refine go_getR rfl f_X6_33 rfl rfl ?_ -- course
      refine go_getR rfl f_X6_139 rfl rfl ?_ -- alone
      refine go_iload_n rfl rfl ?_
      refine go_aald rfl rfl (by omega) (by omega) (rf_22 v.toNat (by omega)) ?_
      refine go_iload_n rfl rfl ?_
      refine go_iald rfl (kd_al (by omega)) (by omega) (by omega) ?_
      exact go_iret rfl (Or.inl rfl) ⟨_, rfl, by unfold no_F; rw [if_pos (by omega)]; exact T1.2.1 t v (by omega) (by omega) (by omega) (by omega), F1, I1⟩
    · refine go_bipush rfl ?_
      exact go_iret rfl (Or.inl rfl) ⟨_, rfl, by unfold no_F; rw [if_neg (by have := rd_n0 c12; omega)], CF.refl h, I⟩
set_option maxHeartbeats 4000000 in
set_option maxRecDepth 100000 in
theorem lp_X6_carried {g : ab_G} {h : ab_H} {W : tb_W} {m i b T : Int} {Q : Option ab_V → ab_H → Prop} (C : ct m W h) (hi : 0 ≤ i ∧ i < m) (hT : 0 ≤ T ∧ T ≤ 400) (hq : ∀ z, z = wk_num (fun t => (W t).2.2 i = b) T.toNat → Q (some (a_I z)) h) : ∀ (f : Nat) (t s : Int), 0 ≤ t → t ≤ T → T - t < f → s = wk_num (fun t => (W t).2.2 i = b) t.toNat → Go g (ab_rm 6, 0, 0) m_X6_carried Q 36 [some (a_R 0), some (a_I i), some (a_I b), some (a_I T), some (a_I s), some (a_I t)] [] h := by
  have e6 := C.2.1
  intro f
  induction f with
  | zero => intro t s h0t h1 hf; omega
  | succ f ih =>
    intro t s h0t h1 hf J
    have b1 := wn_in (q := fun t => (W t).2.2 i = b) t.toNat
    rw [← J] at b1
    refine go_iload rfl rfl ?_
    refine go_iload_n rfl rfl ?_
    refine go_icmp_ge rfl (tgt := 67) (by decide) (fun c39 => ?_) (fun c39 => ?_)
    · refine go_iload rfl rfl ?_
      exact go_iret rfl (Or.inl rfl) (hq _ (by rw [show t = T by omega] at J; exact J))
    · refine go_aload_n rfl rfl ?_
      refine go_getR rfl f_X6_33 rfl rfl ?_ -- course
      refine go_getR rfl f_X6_116 rfl rfl ?_ -- load
      refine go_iload_n rfl rfl ?_
      refine go_aald rfl rfl (by omega) (by omega) (rf_21 i.toNat (by omega)) ?_
      refine go_iload rfl rfl ?_
      refine go_iald rfl (kd_bg (by omega)) (by omega) (by omega) ?_
      rw [(C.2.2 t i (by omega) (by omega) hi.1 hi.2).2.2]
      refine go_iload_n rfl rfl ?_
      refine go_icmp_ne rfl (tgt := 61) (by decide) (fun c55 => ?_) (fun c55 => ?_)
      · refine go_iinc rfl rfl (by decide) rfl (by unfold ab_iok; omega) ?_
        refine go_goto rfl (tgt := 36) (by decide) ?_
        exact ih (t + 1) _ (by omega) (by omega) (by omega) (by rw [wn_nx h0t, ← J, rd_f c55]; omega)
      · refine go_iinc rfl rfl (by decide) rfl (by unfold ab_iok; omega) ?_
        refine go_iinc rfl rfl (by decide) rfl (by unfold ab_iok; omega) ?_
        refine go_goto rfl (tgt := 36) (by decide) ?_
        exact ih (t + 1) _ (by omega) (by omega) (by omega) (by rw [wn_nx h0t, ← J, rd_t c55])
set_option maxHeartbeats 4000000 in
set_option maxRecDepth 100000 in
theorem c_carried {g : ab_G} {h : ab_H} {i b T : Int} (I : Inv h) : MethI g 6 m_X6_carried [a_R 0, a_I i, a_I b, a_I T] h (fun z h' => z = cd_F h i b T ∧ CF h h' ∧ Inv h') := by
  have r1 := I.ro.1
  refine Meth.of_go k_X6_carried (Nat.le_of_ble_eq_true rfl) ?_
  show Go g _ m_X6_carried _ 0 [some (a_R 0), some (a_I i), some (a_I b), some (a_I T), none, none] [] h
  refine go_aload_n rfl rfl ?_
  refine go_iload_n rfl rfl ?_
  refine go_cV1I (M' := m_X6_isMan) rfl l_X6_72 k_X6_isMan (s_X6_isMan) rfl rfl rfl rfl (by decide) (Nat.le_of_ble_eq_true rfl) (fun z2 h2 q2 => ?_) -- X6_isMan
  obtain ⟨rfl, rfl⟩ := q2
  refine go_if_eq rfl (tgt := 23) (by decide) (fun c5 => ?_) (fun c5 => ?_)
  · refine go_bipush rfl ?_
    exact go_iret rfl (Or.inl rfl) ⟨_, rfl, by unfold cd_F; rw [if_neg (by have := rd_n0 c5; omega)], CF.refl h, I⟩
  · refine go_aload_n rfl rfl ?_
    refine go_iload_n rfl rfl ?_
    refine go_cV1I (M' := m_X6_isMan) rfl l_X6_72 k_X6_isMan (s_X6_isMan) rfl rfl rfl rfl (by decide) (Nat.le_of_ble_eq_true rfl) (fun z10 h10 q10 => ?_) -- X6_isMan
    obtain ⟨rfl, rfl⟩ := q10
    refine go_if_eq rfl (tgt := 23) (by decide) (fun c13 => ?_) (fun c13 => ?_)
    · refine go_bipush rfl ?_
      exact go_iret rfl (Or.inl rfl) ⟨_, rfl, by unfold cd_F; rw [if_neg (by have := rd_n0 c13; omega)], CF.refl h, I⟩
    · refine go_iload_n rfl rfl ?_
      refine go_cS1I (M' := m_X6_isTime) rfl l_X6_104 k_X6_isTime (s_X6_isTime) rfl (by decide) (Nat.le_of_ble_eq_true rfl) (fun z17 h17 q17 => ?_) -- X6_isTime
      obtain ⟨rfl, rfl⟩ := q17
      refine go_if_ne rfl (tgt := 26) (by decide) (fun c20 => ?_) (fun c20 => ?_)
      · have y1 := rd_n1 c5
        have y2 := rd_n1 c13
        have y3 := rd_n1 c20
        refine go_aload_n rfl rfl ?_
        refine go_cV0V (M' := m_X6_refresh) rfl l_X6_107 k_X6_refresh (j_refresh I) rfl rfl rfl rfl (by decide) (Nat.le_of_ble_eq_true rfl) (fun h27 q27 => ?_) -- X6_refresh
        obtain ⟨F1, I1, T1⟩ := q27
        refine go_iconst rfl ?_
        refine go_istore rfl (by decide) rfl ?_
        refine go_iconst rfl ?_
        refine go_istore rfl (by decide) rfl ?_
        exact lp_X6_carried T1.1 (by omega) (by omega) (fun z e => ⟨_, rfl, by unfold cd_F cd_n; rw [if_pos (by omega)]; exact e, F1, I1⟩) 500 0 0 (by omega) (by omega) (by omega) rfl
      · refine go_bipush rfl ?_
        exact go_iret rfl (Or.inl rfl) ⟨_, rfl, by unfold cd_F; rw [if_neg (by have := rd_n0 c20; omega)], CF.refl h, I⟩
set_option maxHeartbeats 4000000 in
set_option maxRecDepth 100000 in
theorem lp_X6_isTrue {g : ab_G} {h : ab_H} {W : tb_W} {A : Int → Int → Int} {m T : Int} {Q : Option ab_V → ab_H → Prop} (C : ct m W h) (hA : ∀ t i, 0 ≤ t → t ≤ 400 → 0 ≤ i → i < m → h (52 + i.toNat) t = A t i) (hT : 0 ≤ T ∧ T ≤ 400) (hq : ∀ z, z = rd_bool (∀ t, 0 ≤ t → t ≤ T → ∀ b, 0 ≤ b → b < m → tb_bp m W t b = A t b) → Q (some (a_I z)) h) : ∀ (f : Nat) (t : Int), 0 ≤ t → t ≤ T + 1 → T + 1 - t < f → (∀ t0, 0 ≤ t0 → t0 < t → ∀ b, 0 ≤ b → b < m → tb_bp m W t0 b = A t0 b) → Go g (ab_rm 6, 0, 0) m_X6_isTrue Q 16 [some (a_R 0), some (a_I T), some (a_I t)] [] h := by
  have e6 := C.2.1
  intro f
  induction f with
  | zero => intro t h0t h1 hf; omega
  | succ f ih =>
    intro t h0t h1 hf J
    refine go_iload_n rfl rfl ?_
    refine go_iload_n rfl rfl ?_
    refine go_icmp_gt rfl (tgt := 40) (by decide) (fun c18 => ?_) (fun c18 => ?_)
    · refine go_iconst rfl ?_
      exact go_iret rfl (Or.inl rfl) (hq _ (rd_t (fun t0 a c => J t0 a (by omega))).symm)
    · refine go_aload_n rfl rfl ?_
      refine go_getR rfl f_X6_33 rfl rfl ?_ -- course
      refine go_iload_n rfl rfl ?_
      refine go_cV1I (M' := m_X0_asNamesOff) rfl l_X6_142 k_X0_asNamesOff (s_X0_asNamesOff (A := A) C (by omega) (fun i i0 i1 => hA t i (by omega) (by omega) i0 i1)) rfl rfl rfl rfl (by decide) (Nat.le_of_ble_eq_true rfl) (fun z26 h26 q26 => ?_) -- X0_asNamesOff
      obtain ⟨rfl, rfl⟩ := q26
      refine go_if_ne rfl (tgt := 34) (by decide) (fun c29 => ?_) (fun c29 => ?_)
      · refine go_iinc rfl rfl (by decide) rfl (by unfold ab_iok; omega) ?_
        refine go_goto rfl (tgt := 16) (by decide) ?_
        exact ih (t + 1) (by omega) (by omega) (by omega) (fun t0 a c => by
          by_cases e : t0 = t
          · subst e; exact rd_n1 c29
          · exact J t0 a (by omega))
      · refine go_iconst rfl ?_
        exact go_iret rfl (Or.inl rfl) (hq _ (rd_f (fun z => rd_n0 c29 (z t h0t (by omega)))).symm)
set_option maxHeartbeats 4000000 in
set_option maxRecDepth 100000 in
theorem c_isTrue {g : ab_G} {h : ab_H} {T : Int} (I : Inv h) : MethI g 6 m_X6_isTrue [a_R 0, a_I T] h (fun z h' => z = tr_F h T ∧ CF h h' ∧ Inv h') := by
  have r1 := I.ro.1
  refine Meth.of_go k_X6_isTrue (Nat.le_of_ble_eq_true rfl) ?_
  show Go g _ m_X6_isTrue _ 0 [some (a_R 0), some (a_I T), none] [] h
  refine go_iload_n rfl rfl ?_
  refine go_cS1I (M' := m_X6_isTime) rfl l_X6_104 k_X6_isTime (s_X6_isTime) rfl (by decide) (Nat.le_of_ble_eq_true rfl) (fun z1 h1 q1 => ?_) -- X6_isTime
  obtain ⟨rfl, rfl⟩ := q1
  refine go_if_ne rfl (tgt := 10) (by decide) (fun c4 => ?_) (fun c4 => ?_)
  · have y1 := rd_n1 c4
    refine go_aload_n rfl rfl ?_
    refine go_cV0V (M' := m_X6_refresh) rfl l_X6_107 k_X6_refresh (j_refresh I) rfl rfl rfl rfl (by decide) (Nat.le_of_ble_eq_true rfl) (fun h11 q11 => ?_) -- X6_refresh
    obtain ⟨F1, I1, T1⟩ := q11
    refine go_iconst rfl ?_
    refine go_istore_n rfl (by decide) rfl ?_
    exact lp_X6_isTrue T1.1 T1.2.1 (by omega) (fun z e => ⟨_, rfl, by unfold tr_F; rw [if_pos (by omega)]; exact e, F1, I1⟩) 500 0 (by omega) (by omega) (by omega) (fun t a c => by omega)
  · refine go_bipush rfl ?_
    exact go_iret rfl (Or.inl rfl) ⟨_, rfl, by unfold tr_F; rw [if_neg (by have := rd_n0 c4; omega)], CF.refl h, I⟩
set_option maxHeartbeats 4000000 in
set_option maxRecDepth 100000 in
theorem lp_X6_again {g : ab_G} {h : ab_H} {W : tb_W} {m : Int} {Q : Option ab_V → ab_H → Prop} (C : ct m W h) (hq : ∀ z, Fst 1 401 (fun t => ∀ i, 0 ≤ i → i < m → (W t).1 i = (W 0).1 i ∧ (W t).2.1 i = (W 0).2.1 i ∧ (W t).2.2 i = (W 0).2.2 i) z → Q (some (a_I z)) h) : ∀ (f : Nat) (t : Int), 1 ≤ t → t ≤ 401 → 401 - t < f → (∀ j, 1 ≤ j → j < t → ¬ (fun t => ∀ i, 0 ≤ i → i < m → (W t).1 i = (W 0).1 i ∧ (W t).2.1 i = (W 0).2.1 i ∧ (W t).2.2 i = (W 0).2.2 i) j) → Go g (ab_rm 6, 0, 0) m_X6_again Q 6 [some (a_R 0), some (a_I t)] [] h := by
  intro f
  induction f with
  | zero => intro t h0t h1 hf; omega
  | succ f ih =>
    intro t h0t h1 hf hI
    refine go_iload_n rfl rfl ?_
    refine go_sipush rfl ?_
    refine go_icmp_gt rfl (tgt := 32) (by decide) (fun c10 => ?_) (fun c10 => ?_)
    · refine go_iconst rfl ?_
      exact go_iret rfl (Or.inl rfl) (hq _ (Or.inl ⟨rfl, fun j j0 j1 => hI j j0 (by omega)⟩))
    · refine go_aload_n rfl rfl ?_
      refine go_getR rfl f_X6_33 rfl rfl ?_ -- course
      refine go_iload_n rfl rfl ?_
      refine go_cV1I (M' := m_X0_asAtFirst) rfl l_X6_145 k_X0_asAtFirst (s_X0_asAtFirst C (by omega)) rfl rfl rfl rfl (by decide) (Nat.le_of_ble_eq_true rfl) (fun z18 h18 q18 => ?_) -- X0_asAtFirst
      obtain ⟨rfl, rfl⟩ := q18
      refine go_if_eq rfl (tgt := 26) (by decide) (fun c21 => ?_) (fun c21 => ?_)
      · refine go_iinc rfl rfl (by decide) rfl (by unfold ab_iok; omega) ?_
        refine go_goto rfl (tgt := 6) (by decide) ?_
        exact ih (t + 1) (by omega) (by omega) (by omega) (fun j j0 j1 => by
          by_cases e : j = t
          · subst e; exact rd_n0 c21
          · exact hI j j0 (by omega))
      · refine go_iload_n rfl rfl ?_
        exact go_iret rfl (Or.inl rfl) (hq _ (Or.inr ⟨h0t, by omega, rd_n1 c21, hI⟩))
set_option maxHeartbeats 4000000 in
set_option maxRecDepth 100000 in
theorem c_again {g : ab_G} {h : ab_H} (I : Inv h) : MethI g 6 m_X6_again [a_R 0] h (fun z h' => z = ag_F h ∧ CF h h' ∧ Inv h') := by
  have r1 := I.ro.1
  refine Meth.of_go k_X6_again (Nat.le_of_ble_eq_true rfl) ?_
  show Go g _ m_X6_again _ 0 [some (a_R 0), none] [] h
  refine go_aload_n rfl rfl ?_
  refine go_cV0V (M' := m_X6_refresh) rfl l_X6_107 k_X6_refresh (j_refresh I) rfl rfl rfl rfl (by decide) (Nat.le_of_ble_eq_true rfl) (fun h1 q1 => ?_) -- X6_refresh
  obtain ⟨F1, I1, T1⟩ := q1
  refine go_iconst rfl ?_
  refine go_istore_n rfl (by decide) rfl ?_
  exact lp_X6_again T1.1 (fun z e => ⟨_, rfl, fs_eq (by omega) e, F1, I1⟩) 500 1 (by omega) (by omega) (by omega) (fun t a c => by omega)
