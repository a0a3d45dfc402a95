/-! stand; the course made fresh -/
def msd_P (h : ab_H) (i u v z : Int) (h' : ab_H) : Prop := (¬ ((0 ≤ i ∧ i < 6) ∧ (0 ≤ u ∧ u ≤ 99) ∧ 0 ≤ v ∧ v ≤ 99) ∧ z = -2 ∧ h' = h) ∨ (((0 ≤ i ∧ i < 6) ∧ (0 ≤ u ∧ u ≤ 99) ∧ 0 ≤ v ∧ v ≤ 99) ∧ z = 100 * h 73 i + h 74 i ∧ h' = ab_hs (ab_hs h 73 i u) 74 i v)
set_option maxHeartbeats 4000000 in
set_option maxRecDepth 100000 in
theorem s_X7_stand {g : ab_G} {h : ab_H} {i u v : Int} (hU : ∀ i, 0 ≤ i → i < 6 → (0 ≤ h 73 i ∧ h 73 i ≤ 99) ∧ (0 ≤ h 74 i ∧ h 74 i ≤ 99)) : MethI g 8 m_X7_stand [a_R 62, a_I i, a_I u, a_I v] h (fun z h' => msd_P h i u v z h') := by
  refine Meth.of_go k_X7_stand (Nat.le_of_ble_eq_true rfl) ?_
  show Go g _ m_X7_stand _ 0 [some (a_R 62), some (a_I i), some (a_I u), some (a_I v), none] [] h
  refine go_iload_n rfl rfl ?_
  refine go_i2l rfl ?_
  refine go_lconst rfl ?_
  refine go_ldc2 rfl (z := 5) c_X7_152 ?_
  refine go_cS3I (M' := m_X7_in) rfl l_X7_68 k_X7_in (s_X7_in) rfl (by decide) (Nat.le_of_ble_eq_true rfl) (fun z6 h6 q6 => ?_) -- X7_in
  obtain ⟨rfl, rfl⟩ := q6
  refine go_if_eq rfl (tgt := 36) (by decide) (fun c9 => ?_) (fun c9 => ?_)
  · refine go_bipush rfl ?_
    exact go_iret rfl (Or.inl rfl) ⟨_, rfl, Or.inl ⟨by have := rd_n0 c9; omega, rfl, rfl⟩⟩
  · refine go_iload_n rfl rfl ?_
    refine go_i2l rfl ?_
    refine go_lconst rfl ?_
    refine go_ldc2 rfl (z := 99) c_X7_154 ?_
    refine go_cS3I (M' := m_X7_in) rfl l_X7_68 k_X7_in (s_X7_in) rfl (by decide) (Nat.le_of_ble_eq_true rfl) (fun z18 h18 q18 => ?_) -- X7_in
    obtain ⟨rfl, rfl⟩ := q18
    refine go_if_eq rfl (tgt := 36) (by decide) (fun c21 => ?_) (fun c21 => ?_)
    · refine go_bipush rfl ?_
      exact go_iret rfl (Or.inl rfl) ⟨_, rfl, Or.inl ⟨by have := rd_n0 c21; omega, rfl, rfl⟩⟩
    · refine go_iload_n rfl rfl ?_
      refine go_i2l rfl ?_
      refine go_lconst rfl ?_
      refine go_ldc2 rfl (z := 99) c_X7_154 ?_
      refine go_cS3I (M' := m_X7_in) rfl l_X7_68 k_X7_in (s_X7_in) rfl (by decide) (Nat.le_of_ble_eq_true rfl) (fun z30 h30 q30 => ?_) -- X7_in
      obtain ⟨rfl, rfl⟩ := q30
      refine go_if_ne rfl (tgt := 39) (by decide) (fun c33 => ?_) (fun c33 => ?_)
      · have y1 := rd_n1 c9
        have y2 := rd_n1 c21
        have y3 := rd_n1 c33
        have u1 := hU i (by omega) (by omega)
        refine go_bipush rfl ?_
        refine go_aload_n rfl rfl ?_
        refine go_getR rfl f_X7_40 rfl rfl ?_ -- standFrom
        refine go_iload_n rfl rfl ?_
        refine go_iald rfl rfl (by omega) (by omega) ?_
        refine go_imul rfl (by unfold ab_iok; omega) ?_
        refine go_aload_n rfl rfl ?_
        refine go_getR rfl f_X7_43 rfl rfl ?_ -- standMany
        refine go_iload_n rfl rfl ?_
        refine go_iald rfl rfl (by omega) (by omega) ?_
        refine go_iadd rfl (by unfold ab_iok; omega) ?_
        refine go_istore rfl (by decide) rfl ?_
        refine go_aload_n rfl rfl ?_
        refine go_getR rfl f_X7_40 rfl rfl ?_ -- standFrom
        refine go_iload_n rfl rfl ?_
        refine go_iload_n rfl rfl ?_
        refine go_iast rfl rfl (by omega) (by omega) ?_
        refine go_aload_n rfl rfl ?_
        refine go_getR rfl f_X7_43 rfl rfl ?_ -- standMany
        refine go_iload_n rfl rfl ?_
        refine go_iload_n rfl rfl ?_
        refine go_iast rfl rfl (by omega) (by omega) ?_
        refine go_iload rfl rfl ?_
        exact go_iret rfl (Or.inl rfl) ⟨_, rfl, Or.inr ⟨by omega, rfl, rfl⟩⟩
      · refine go_bipush rfl ?_
        exact go_iret rfl (Or.inl rfl) ⟨_, rfl, Or.inl ⟨by have := rd_n0 c33; omega, rfl, rfl⟩⟩
theorem op_stand {g : ab_G} {h : ab_H} {i u v : Int} (I : Inv h) : opI g 8 8 m_X6_stand m_X7_stand [a_I i, a_I u, a_I v] h := by
  have U : iv_U h := I.2.2.1
  refine (s_X6_stand I).mono (fun r h1 ⟨z, ez, P⟩ => ⟨z, ez, ?_⟩)
  have k73 : h1 73 = h 73 ∧ h1 74 = h 74 := by
    rcases P with ⟨-, -, rfl⟩ | ⟨-, -, rfl⟩
    · exact ⟨rfl, rfl⟩
    · exact ⟨(by simp only [ab_hs_f, ab_hs_i, ab_hs_eq, ne_eq, not_false_eq_true, Nat.reduceEqDiff, Int.reduceEq, reduceCtorEq]), (by simp only [ab_hs_f, ab_hs_i, ab_hs_eq, ne_eq, not_false_eq_true, Nat.reduceEqDiff, Int.reduceEq, reduceCtorEq])⟩
  refine (s_X7_stand (fun j j0 j1 => by rw [k73.1, k73.2]; have := U.2 j j0 j1; rw [this.2.1, this.2.2]; exact this.1)).mono (fun r' h2 ⟨z', ez', P'⟩ => ⟨z', ez', ?_⟩)
  unfold msd_P at P'
  rw [k73.1, k73.2] at P'
  rcases P with ⟨a, b, rfl⟩ | ⟨a, b, rfl⟩
  · rcases P' with ⟨a', b', rfl⟩ | ⟨a', b', rfl⟩
    · exact ⟨by omega, I⟩
    · exact absurd a' a
  · rcases P' with ⟨a', b', rfl⟩ | ⟨a', b', rfl⟩
    · exact absurd a a'
    · refine ⟨?_, ?_, ?_, ?_, ?_, ?_, ?_, ?_⟩
      · have := U.2 i a.1.1 a.1.2; rw [b', b, this.2.1, this.2.2]
      · exact I.1.of (by simp only [ab_hs_f, ab_hs_i, ab_hs_eq, ne_eq, not_false_eq_true, Nat.reduceEqDiff, Int.reduceEq, reduceCtorEq]) (by simp only [ab_hs_f, ab_hs_i, ab_hs_eq, ne_eq, not_false_eq_true, Nat.reduceEqDiff, Int.reduceEq, reduceCtorEq]) (by simp only [ab_hs_f, ab_hs_i, ab_hs_eq, ne_eq, not_false_eq_true, Nat.reduceEqDiff, Int.reduceEq, reduceCtorEq]) (by simp only [ab_hs_f, ab_hs_i, ab_hs_eq, ne_eq, not_false_eq_true, Nat.reduceEqDiff, Int.reduceEq, reduceCtorEq])
      · exact I.2.1.of (fun k k0 k1 => by rw [ab_hs_f (by omega), ab_hs_f (by omega), ab_hs_f (by omega), ab_hs_f (by omega), ab_hs_f (by omega)])
      · refine ⟨?_, fun j j0 j1 => ?_⟩
        · simp only [ab_hs_f, ab_hs_i, ab_hs_eq, ne_eq, not_false_eq_true, Nat.reduceEqDiff, Int.reduceEq, reduceCtorEq]; exact U.1
        · have := U.2 j j0 j1
          have E73 : ab_hs (ab_hs (ab_hs (ab_hs (ab_hs h 8 i u) 9 i v) 0 6 1) 73 i u) 74 i v 73 = ps_up (h 73) i u := by rw [ab_hs_f (by decide), up_eq]; simp only [ab_hs_f, ab_hs_i, ab_hs_eq, ne_eq, not_false_eq_true, Nat.reduceEqDiff, Int.reduceEq, reduceCtorEq]
          have E74 : ab_hs (ab_hs (ab_hs (ab_hs (ab_hs h 8 i u) 9 i v) 0 6 1) 73 i u) 74 i v 74 = ps_up (h 74) i v := by rw [up_eq]; simp only [ab_hs_f, ab_hs_i, ab_hs_eq, ne_eq, not_false_eq_true, Nat.reduceEqDiff, Int.reduceEq, reduceCtorEq]
          have E8 : ab_hs (ab_hs (ab_hs (ab_hs (ab_hs h 8 i u) 9 i v) 0 6 1) 73 i u) 74 i v 8 = ps_up (h 8) i u := by rw [ab_hs_f (by decide), ab_hs_f (by decide), ab_hs_f (by decide), ab_hs_f (by decide), up_eq]
          have E9 : ab_hs (ab_hs (ab_hs (ab_hs (ab_hs h 8 i u) 9 i v) 0 6 1) 73 i u) 74 i v 9 = ps_up (h 9) i v := by rw [ab_hs_f (by decide), ab_hs_f (by decide), ab_hs_f (by decide), up_eq]; simp only [ab_hs_f, ab_hs_i, ab_hs_eq, ne_eq, not_false_eq_true, Nat.reduceEqDiff, Int.reduceEq, reduceCtorEq]
          rw [E73, E74, E8, E9]
          unfold ps_up
          by_cases e : j = i
          · rw [if_pos e, if_pos e, if_pos e, if_pos e]; exact ⟨⟨a.2.1, a.2.2⟩, rfl, rfl⟩
          · rw [if_neg e, if_neg e, if_neg e, if_neg e]; exact this
      · exact I.2.2.2.1.of (by simp only [ab_hs_f, ab_hs_i, ab_hs_eq, ne_eq, not_false_eq_true, Nat.reduceEqDiff, Int.reduceEq, reduceCtorEq]) (by simp only [ab_hs_f, ab_hs_i, ab_hs_eq, ne_eq, not_false_eq_true, Nat.reduceEqDiff, Int.reduceEq, reduceCtorEq]) (by simp only [ab_hs_f, ab_hs_i, ab_hs_eq, ne_eq, not_false_eq_true, Nat.reduceEqDiff, Int.reduceEq, reduceCtorEq]) (by simp only [ab_hs_f, ab_hs_i, ab_hs_eq, ne_eq, not_false_eq_true, Nat.reduceEqDiff, Int.reduceEq, reduceCtorEq]) (by simp only [ab_hs_f, ab_hs_i, ab_hs_eq, ne_eq, not_false_eq_true, Nat.reduceEqDiff, Int.reduceEq, reduceCtorEq]) (by simp only [ab_hs_f, ab_hs_i, ab_hs_eq, ne_eq, not_false_eq_true, Nat.reduceEqDiff, Int.reduceEq, reduceCtorEq]) (by simp only [ab_hs_f, ab_hs_i, ab_hs_eq, ne_eq, not_false_eq_true, Nat.reduceEqDiff, Int.reduceEq, reduceCtorEq])
      · exact I.2.2.2.2.1.of (by simp only [ab_hs_f, ab_hs_i, ab_hs_eq, ne_eq, not_false_eq_true, Nat.reduceEqDiff, Int.reduceEq, reduceCtorEq]) (by simp only [ab_hs_f, ab_hs_i, ab_hs_eq, ne_eq, not_false_eq_true, Nat.reduceEqDiff, Int.reduceEq, reduceCtorEq]) (by simp only [ab_hs_f, ab_hs_i, ab_hs_eq, ne_eq, not_false_eq_true, Nat.reduceEqDiff, Int.reduceEq, reduceCtorEq]) (by simp only [ab_hs_f, ab_hs_i, ab_hs_eq, ne_eq, not_false_eq_true, Nat.reduceEqDiff, Int.reduceEq, reduceCtorEq]) (by simp only [ab_hs_f, ab_hs_i, ab_hs_eq, ne_eq, not_false_eq_true, Nat.reduceEqDiff, Int.reduceEq, reduceCtorEq]) (fun j j0 j1 => by rw [ab_hs_f (by omega), ab_hs_f (by omega), ab_hs_f (by omega), ab_hs_f (by omega), ab_hs_f (by omega)])
      · exact I.2.2.2.2.2.1.of (by simp only [ab_hs_f, ab_hs_i, ab_hs_eq, ne_eq, not_false_eq_true, Nat.reduceEqDiff, Int.reduceEq, reduceCtorEq]) (by simp only [ab_hs_f, ab_hs_i, ab_hs_eq, ne_eq, not_false_eq_true, Nat.reduceEqDiff, Int.reduceEq, reduceCtorEq])
      · exact iv_C.st (by simp only [ab_hs_f, ab_hs_i, ab_hs_eq, ne_eq, not_false_eq_true, Nat.reduceEqDiff, Int.reduceEq, reduceCtorEq])
def TA (h : ab_H) (t i : Int) : Int := (cr_A h t.toNat).1 i
/-- the class's course, fresh -/
def CT (h0 h : ab_H) : Prop := ct (h0 1 8) (TW h0) h ∧ (∀ t i, 0 ≤ t → t ≤ 400 → 0 ≤ i → i < h0 1 8 → h (52 + i.toNat) t = TA h0 t i) ∧ ∀ t, 0 ≤ t → t ≤ 400 → (0 ≤ h 23 t ∧ h 23 t < 68719476736) ∧ ∀ i j, 0 ≤ i → i < 6 → 0 ≤ j → j < 6 → (pr_tb (h 23 t) i j = true ↔ i < h0 1 8 ∧ TM h0 t i j)
theorem wk_63 : ∀ k, k < 6 → wk_tb 63 (Int.ofNat k) = true := by decide
theorem wk_all {i : Int} (h : 0 ≤ i ∧ i < 6) : wk_tb 63 i = true := by
  have := wk_63 i.toNat (by omega)
  rw [show Int.ofNat i.toNat = i by exact Int.toNat_of_nonneg h.1] at this
  exact this
theorem am_63 {m : Int} (hm : 0 ≤ m ∧ m ≤ 6) : ∀ j, 0 ≤ j → j < m → wk_tb (am_n m) j = wk_tb 63 j := fun j j0 j1 => by rw [wk_all ⟨j0, by omega⟩]; exact ((am_in hm).2 j j0 (by omega)).mpr j1
theorem cr_CT {h : ab_H} (hm : 0 ≤ h 1 8 ∧ h 1 8 ≤ 6) (c : cr_OK h) : CT h h := by
  refine ⟨⟨c.1, hm, fun t i t0 t1 i0 i1 => ?_⟩, fun t i t0 t1 i0 i1 => ?_, fun t t0 t1 => ?_⟩
  · have a := (c.2 t.toNat (by omega)).1 i i0 i1
    rw [Int.toNat_of_nonneg t0] at a
    have b := wk_at_mask (E := 2 * h 1 7) (l0 := h 7 2) (l1 := h 7 3) (a := cr_a h) (b := cr_b h) (c := cr_c h) (S0 := cr_S h) hm.2 (am_63 hm) t.toNat i i0 i1
    exact ⟨a.1.trans b.1, a.2.1.trans b.2.1, a.2.2.1.trans b.2.2⟩
  · have a := (c.2 t.toNat (by omega)).1 i i0 i1
    rw [Int.toNat_of_nonneg t0] at a
    exact a.2.2.2
  · have a := (c.2 t.toNat (by omega)).2
    rw [Int.toNat_of_nonneg t0] at a
    refine ⟨a.1, fun i j i0 i1 j0 j1 => (a.2 i j i0 i1 j0 j1).trans ?_⟩
    by_cases z : i < h 1 8
    · have b := wk_mt_mask (E := 2 * h 1 7) (l0 := h 7 2) (l1 := h 7 3) (a := cr_a h) (b := cr_b h) (c := cr_c h) (S0 := cr_S h) hm.2 (am_63 hm) t.toNat ⟨i0, z⟩ j
      exact ⟨fun y => ⟨z, b.mp y⟩, fun y => b.mpr y.2⟩
    · refine ⟨fun y => ?_, fun y => absurd y.1 z⟩
      unfold cr_M at y
      cases e : t.toNat with
      | zero => rw [e] at y; exact y.elim
      | succ s => rw [e] at y; exact absurd (((am_in hm).2 i i0 i1).mp y.1.1) z
theorem CT_same {h0 h0' h : ab_H} (e : ∀ k, (1 ≤ k ∧ k ≤ 9) → h0' k = h0 k) (c : CT h0' h) : CT h0 h := by
  unfold CT at c
  have e2 : TA h0' = TA h0 := by
    obtain ⟨-, -, -, -, -, s1, -⟩ := cr_same e
    unfold TA; rw [s1]
  rw [e 1 (by omega), e2] at c
  unfold TW TM at c
  rw [tW_same e, tM_same e] at c
  exact c
theorem j_refresh {g : ab_G} {h : ab_H} (I : Inv h) : MethV g 5 m_X6_refresh [a_R 0] h (fun h' => CF h h' ∧ Inv h' ∧ CT h h') := by
  refine (s_X6_refresh I.ro I.2.2.2.2.2.2).mono (fun r h' ⟨e, P⟩ => ⟨e, ?_⟩)
  obtain ⟨P1, P2, P3, P4⟩ := P
  have F : CF h h' := ⟨fun k hk => P3 k (by omega), P4, fun b _ => by rw [P3 24 (by decide)]⟩
  have I' := I.cf F (fun _ => P2)
  exact ⟨F, I', CT_same F.k9 (cr_CT I'.ro.1 P2)⟩
