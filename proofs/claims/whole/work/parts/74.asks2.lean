/-! met, meetings -/
theorem pr_val {P a b : Int} (hP : 0 ≤ P ∧ P < 68719476736) (ha : 0 ≤ a ∧ a < 6) (hb : 0 ≤ b ∧ b < 6) : ab_l2i (ab_land (ab_lshr P (6 * a + b)) 1) = rd_bool (pr_tb P a b = true) := by
  have := pr_bit (x := P.toNat) (s := (6 * a + b).toNat) (by omega) (by omega)
  rw [Int.toNat_of_nonneg hP.1, Int.toNat_of_nonneg (by omega)] at this
  rw [this, pr_Z]
  by_cases z : P.toNat.testBit (6 * a + b).toNat = true
  · rw [if_pos z, rd_t z]
  · rw [if_neg z, rd_f z]
theorem pn_in {m : Int} {M : Int → Int → Prop} (hm : m ≤ 6) : 0 ≤ pn m M ∧ pn m M ≤ 36 := by
  have h := sm_in (f := fun a => sm (fun b => rd_bool (M a b)) a.toNat) (c := 6) m.toNat (fun j j0 j1 => by
    have := sm_in (f := fun b => rd_bool (M j b)) (c := 1) j.toNat (fun k k0 k1 => by rcases rd_01 (M j k) with e | e <;> rw [e] <;> omega)
    omega)
  unfold pn
  omega
theorem pn_6 {m P : Int} {M : Int → Int → Prop} (hm : 0 ≤ m ∧ m ≤ 6) (e : ∀ i j, 0 ≤ i → i < 6 → 0 ≤ j → j < 6 → (pr_tb P i j = true ↔ i < m ∧ M i j)) : pn 6 (fun a b => pr_tb P a b = true) = pn m M := by
  unfold pn
  have h1 := sm_zero (f := fun a => sm (fun b => rd_bool (pr_tb P a b = true)) a.toNat) (m := m.toNat) (6 - m.toNat) (fun j j0 j1 => by
    have : sm (fun b => rd_bool (pr_tb P j b = true)) j.toNat = sm (fun _ => 0) j.toNat := sm_congr _ (fun b b0 b1 => rd_f (fun z => by have := ((e j b (by omega) (by omega) b0 (by omega)).mp z).1; omega))
    rw [this, sm_0])
  rw [show m.toNat + (6 - m.toNat) = 6 by omega] at h1
  show sm _ 6 = _
  rw [h1]
  exact sm_congr _ (fun a a0 a1 => sm_congr _ (fun b b0 b1 => rd_iff ((e a b a0 (by omega) b0 (by omega)).trans ⟨fun z => z.2, fun z => ⟨by omega, z⟩⟩)))
noncomputable def ms_n (h : ab_H) (T : Int) : Int := sm (fun t => pn (h 1 8) (TM h t)) (T + 1).toNat
noncomputable def ms_F (h : ab_H) (T : Int) : Int := if 0 ≤ T ∧ T ≤ 400 then ms_n h T else -2
theorem ms_swap {h : ab_H} {T : Int} : ms_n h T = sm (fun a => sm (fun b => mt_n h a b T) a.toNat) (h 1 8).toNat := by
  unfold ms_n pn mt_n
  rw [sm_swap]
  refine sm_congr _ (fun a a0 a1 => ?_)
  rw [sm_swap]
  exact sm_congr _ (fun b b0 b1 => (wn_sm _).symm)
set_option maxHeartbeats 4000000 in
set_option maxRecDepth 100000 in
theorem lp_X6_met {g : ab_G} {h : ab_H} {M : Int → Int → Int → Prop} {m a b T : Int} {Q : Option ab_V → ab_H → Prop} (hm : m ≤ 6) (C : ∀ t, 0 ≤ t → t ≤ 400 → (0 ≤ h 23 t ∧ h 23 t < 68719476736) ∧ ∀ i j, 0 ≤ i → i < 6 → 0 ≤ j → j < 6 → (pr_tb (h 23 t) i j = true ↔ i < m ∧ M t i j)) (ha : 0 ≤ a ∧ a < m) (hb : 0 ≤ b ∧ b < m) (hT : 0 ≤ T ∧ T ≤ 400) (hq : ∀ z, z = wk_num (fun t => M t a b) (T + 1).toNat → Q (some (a_I z)) h) : ∀ (f : Nat) (t s : Int), 0 ≤ t → t ≤ T + 1 → T + 1 - t < f → s = wk_num (fun t => M t a b) t.toNat → Go g (ab_rm 6, 0, 0) m_X6_met Q 41 [some (a_R 0), some (a_I a), some (a_I b), some (a_I T), some (a_I s), some (a_I t)] [] h := by
  intro f
  induction f with
  | zero => intro t s h0t h1 hf; omega
  | succ f ih =>
    intro t s h0t h1 hf J
    have b1 := wn_in (q := fun t => M t a b) t.toNat
    rw [← J] at b1
    refine go_iload rfl rfl ?_
    refine go_iload_n rfl rfl ?_
    refine go_icmp_gt rfl (tgt := 77) (by decide) (fun c44 => ?_) (fun c44 => ?_)
    · refine go_iload rfl rfl ?_
      exact go_iret rfl (Or.inl rfl) (hq _ (by rw [show t = T + 1 by omega] at J; exact J))
    · refine go_iload rfl rfl ?_
      refine go_aload_n rfl rfl ?_
      refine go_getR rfl f_X6_33 rfl rfl ?_ -- course
      refine go_getR rfl f_X6_126 rfl rfl ?_ -- pairs
      refine go_iload rfl rfl ?_
      refine go_lald rfl rfl (by omega) (by omega) ?_
      refine go_iload_n rfl rfl ?_
      refine go_iload_n rfl rfl ?_
      refine go_cS2I (M' := m_X6_pairShift) rfl l_X6_130 k_X6_pairShift (s_X6_pairShift (by omega) (by omega)) rfl (by decide) (Nat.le_of_ble_eq_true rfl) (fun z61 h61 q61 => ?_) -- X6_pairShift
      obtain ⟨rfl, rfl⟩ := q61
      refine go_lshr rfl ?_
      refine go_lconst (z := 1) rfl ?_
      refine go_land rfl ?_
      refine go_l2i rfl ?_
      rw [pr_val (C t h0t (by omega)).1 (by omega) (by omega), rd_iff (((C t h0t (by omega)).2 a b (by omega) (by omega) (by omega) (by omega)).trans ⟨fun z => z.2, fun z => ⟨ha.2, z⟩⟩)]
      have y := rd_01 (M t a b)
      refine go_iadd rfl (by unfold ab_iok; omega) ?_
      refine go_istore rfl (by decide) rfl ?_
      refine go_iinc rfl rfl (by decide) rfl (by unfold ab_iok; omega) ?_
      refine go_goto rfl (tgt := 41) (by decide) ?_
      exact ih (t + 1) _ (by omega) (by omega) (by omega) (by rw [wn_nx h0t, ← J])
set_option maxHeartbeats 4000000 in
set_option maxRecDepth 100000 in
theorem c_met {g : ab_G} {h : ab_H} {a b T : Int} (I : Inv h) : MethI g 6 m_X6_met [a_R 0, a_I a, a_I b, a_I T] h (fun z h' => z = mt_F h a b T ∧ CF h h' ∧ Inv h') := by
  have r1 := I.ro.1
  refine Meth.of_go k_X6_met (Nat.le_of_ble_eq_true rfl) ?_
  show Go g _ m_X6_met _ 0 [some (a_R 0), some (a_I a), some (a_I b), some (a_I T), none, none] [] h
  refine go_aload_n rfl rfl ?_
  refine go_iload_n rfl rfl ?_
  refine go_cV1I (M' := m_X6_isMan) rfl l_X6_72 k_X6_isMan (s_X6_isMan) rfl rfl rfl rfl (by decide) (Nat.le_of_ble_eq_true rfl) (fun z2 h2 q2 => ?_) -- X6_isMan
  obtain ⟨rfl, rfl⟩ := q2
  refine go_if_eq rfl (tgt := 28) (by decide) (fun c5 => ?_) (fun c5 => ?_)
  · refine go_bipush rfl ?_
    exact go_iret rfl (Or.inl rfl) ⟨_, rfl, by unfold mt_F; rw [if_neg (by have := rd_n0 c5; omega)], CF.refl h, I⟩
  · refine go_aload_n rfl rfl ?_
    refine go_iload_n rfl rfl ?_
    refine go_cV1I (M' := m_X6_isMan) rfl l_X6_72 k_X6_isMan (s_X6_isMan) rfl rfl rfl rfl (by decide) (Nat.le_of_ble_eq_true rfl) (fun z10 h10 q10 => ?_) -- X6_isMan
    obtain ⟨rfl, rfl⟩ := q10
    refine go_if_eq rfl (tgt := 28) (by decide) (fun c13 => ?_) (fun c13 => ?_)
    · refine go_bipush rfl ?_
      exact go_iret rfl (Or.inl rfl) ⟨_, rfl, by unfold mt_F; rw [if_neg (by have := rd_n0 c13; omega)], CF.refl h, I⟩
    · refine go_iload_n rfl rfl ?_
      refine go_iload_n rfl rfl ?_
      refine go_icmp_eq rfl (tgt := 28) (by decide) (fun c18 => ?_) (fun c18 => ?_)
      · refine go_bipush rfl ?_
        exact go_iret rfl (Or.inl rfl) ⟨_, rfl, by unfold mt_F; rw [if_neg (by skip; omega)], CF.refl h, I⟩
      · refine go_iload_n rfl rfl ?_
        refine go_cS1I (M' := m_X6_isTime) rfl l_X6_104 k_X6_isTime (s_X6_isTime) rfl (by decide) (Nat.le_of_ble_eq_true rfl) (fun z22 h22 q22 => ?_) -- X6_isTime
        obtain ⟨rfl, rfl⟩ := q22
        refine go_if_ne rfl (tgt := 31) (by decide) (fun c25 => ?_) (fun c25 => ?_)
        · have y1 := rd_n1 c5
          have y2 := rd_n1 c13
          have y3 := rd_n1 c25
          refine go_aload_n rfl rfl ?_
          refine go_cV0V (M' := m_X6_refresh) rfl l_X6_107 k_X6_refresh (j_refresh I) rfl rfl rfl rfl (by decide) (Nat.le_of_ble_eq_true rfl) (fun h32 q32 => ?_) -- X6_refresh
          obtain ⟨F1, I1, T1⟩ := q32
          refine go_iconst rfl ?_
          refine go_istore rfl (by decide) rfl ?_
          refine go_iconst rfl ?_
          refine go_istore rfl (by decide) rfl ?_
          exact lp_X6_met r1.2 T1.2.2 (by omega) (by omega) (by omega) (fun z e => ⟨_, rfl, by unfold mt_F mt_n; rw [if_pos (by omega)]; exact e, F1, I1⟩) 500 0 0 (by omega) (by omega) (by omega) rfl
        · refine go_bipush rfl ?_
          exact go_iret rfl (Or.inl rfl) ⟨_, rfl, by unfold mt_F; rw [if_neg (by have := rd_n0 c25; omega)], CF.refl h, I⟩
set_option maxHeartbeats 4000000 in
set_option maxRecDepth 100000 in
theorem lp_X6_meetings {g : ab_G} {h : ab_H} {M : Int → Int → Int → Prop} {m T : Int} {Q : Option ab_V → ab_H → Prop} (hm : 0 ≤ m ∧ m ≤ 6) (C : ∀ t, 0 ≤ t → t ≤ 400 → (0 ≤ h 23 t ∧ h 23 t < 68719476736) ∧ ∀ i j, 0 ≤ i → i < 6 → 0 ≤ j → j < 6 → (pr_tb (h 23 t) i j = true ↔ i < m ∧ M t i j)) (hM : ∀ t i j, 0 ≤ i → i < m → M t i j → M t j i ∧ (0 ≤ j ∧ j < m) ∧ j ≠ i) (hT : 0 ≤ T ∧ T ≤ 400) (hq : ∀ z, z = sm (fun t => pn m (M t)) (T + 1).toNat → Q (some (a_I z)) h) : ∀ (f : Nat) (t s : Int), 0 ≤ t → t ≤ T + 1 → T + 1 - t < f → s = sm (fun t => pn m (M t)) t.toNat → Go g (ab_rm 6, 0, 0) m_X6_meetings Q 18 [some (a_R 0), some (a_I T), some (a_I s), some (a_I t)] [] h := by
  have SY : ∀ t, 0 ≤ t → t ≤ 400 → ∀ a b, 0 ≤ a → a < 6 → 0 ≤ b → b < 6 → pr_tb (h 23 t) a b = true → pr_tb (h 23 t) b a = true ∧ b ≠ a := fun t t0 t1 a b a0 a1 b0 b1 z => by
    have y := ((C t t0 t1).2 a b a0 a1 b0 b1).mp z
    have x := hM t a b a0 y.1 y.2
    exact ⟨((C t t0 t1).2 b a b0 b1 a0 a1).mpr ⟨x.2.1.2, x.1⟩, x.2.2⟩
  intro f
  induction f with
  | zero => intro t s h0t h1 hf; omega
  | succ f ih =>
    intro t s h0t h1 hf J
    have b1 := sm_in (f := fun t => pn m (M t)) (c := 36) t.toNat (fun j j0 j1 => pn_in hm.2)
    rw [← J] at b1
    refine go_iload_n rfl rfl ?_
    refine go_iload_n rfl rfl ?_
    refine go_icmp_gt rfl (tgt := 46) (by decide) (fun c20 => ?_) (fun c20 => ?_)
    · refine go_iload_n rfl rfl ?_
      exact go_iret rfl (Or.inl rfl) (hq _ (by rw [show t = T + 1 by omega] at J; exact J))
    · refine go_iload_n rfl rfl ?_
      refine go_aload_n rfl rfl ?_
      refine go_getR rfl f_X6_33 rfl rfl ?_ -- course
      refine go_getR rfl f_X6_126 rfl rfl ?_ -- pairs
      refine go_iload_n rfl rfl ?_
      refine go_lald rfl rfl (by omega) (by omega) ?_
      refine go_cS1I (M' := m_J13_bitCount_95d88) rfl l_X6_133 k_J13_bitCount_95d88 (s_J13_bitCount_95d88 (C t h0t (by omega)).1) rfl (by decide) (Nat.le_of_ble_eq_true rfl) (fun z33 h33 q33 => ?_) -- J13_bitCount_95d88
      obtain ⟨rfl, rfl⟩ := q33
      have y := pn_in (m := m) (M := M t) hm.2
      refine go_iconst rfl ?_
      refine go_idiv rfl (by omega) ?_
      rw [bt_pairs (SY t h0t (by omega)), pn_6 hm (C t h0t (by omega)).2, ab_idv (by omega) (by omega), show 2 * pn m (M t) / 2 = pn m (M t) by omega]
      refine go_iadd rfl (by unfold ab_iok; omega) ?_
      refine go_istore_n rfl (by decide) rfl ?_
      refine go_iinc rfl rfl (by decide) rfl (by unfold ab_iok; omega) ?_
      refine go_goto rfl (tgt := 18) (by decide) ?_
      exact ih (t + 1) _ (by omega) (by omega) (by omega) (by rw [sm_nx h0t, ← J])
set_option maxHeartbeats 4000000 in
set_option maxRecDepth 100000 in
theorem c_meetings {g : ab_G} {h : ab_H} {T : Int} (I : Inv h) : MethI g 6 m_X6_meetings [a_R 0, a_I T] h (fun z h' => z = ms_F h T ∧ CF h h' ∧ Inv h') := by
  have r1 := I.ro.1
  refine Meth.of_go k_X6_meetings (Nat.le_of_ble_eq_true rfl) ?_
  show Go g _ m_X6_meetings _ 0 [some (a_R 0), some (a_I T), none, none] [] h
  refine go_iload_n rfl rfl ?_
  refine go_cS1I (M' := m_X6_isTime) rfl l_X6_104 k_X6_isTime (s_X6_isTime) rfl (by decide) (Nat.le_of_ble_eq_true rfl) (fun z1 h1 q1 => ?_) -- X6_isTime
  obtain ⟨rfl, rfl⟩ := q1
  refine go_if_ne rfl (tgt := 10) (by decide) (fun c4 => ?_) (fun c4 => ?_)
  · have y1 := rd_n1 c4
    refine go_aload_n rfl rfl ?_
    refine go_cV0V (M' := m_X6_refresh) rfl l_X6_107 k_X6_refresh (j_refresh I) rfl rfl rfl rfl (by decide) (Nat.le_of_ble_eq_true rfl) (fun h11 q11 => ?_) -- X6_refresh
    obtain ⟨F1, I1, T1⟩ := q11
    refine go_iconst rfl ?_
    refine go_istore_n rfl (by decide) rfl ?_
    refine go_iconst rfl ?_
    refine go_istore_n rfl (by decide) rfl ?_
    exact lp_X6_meetings r1 T1.2.2 (fun t i j i0 i1 z => TM_sym ⟨i0, i1⟩ z) (by omega) (fun z e => ⟨_, rfl, by unfold ms_F ms_n; rw [if_pos (by omega)]; exact e, F1, I1⟩) 500 0 0 (by omega) (by omega) (by omega) rfl
  · refine go_bipush rfl ?_
    exact go_iret rfl (Or.inl rfl) ⟨_, rfl, by unfold ms_F; rw [if_neg (by have := rd_n0 c4; omega)], CF.refl h, I⟩
