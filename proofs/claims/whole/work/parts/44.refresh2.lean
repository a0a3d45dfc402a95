theorem ro_same {h h' : ab_H} (e : ∀ k, (1 ≤ k ∧ k ≤ 9) → h' k = h k) (r : ro_in h) : ro_in h' := by
  unfold ro_in at r ⊢
  rw [e 1 (by decide), e 3 (by decide), e 4 (by decide), e 5 (by decide), e 8 (by decide), e 9 (by decide)]
  exact r
def rf_Post (h h' : ab_H) : Prop := h' 0 6 = 0 ∧ cr_OK h' ∧ (∀ k, ¬ (k = 0 ∨ (10 ≤ k ∧ k ≤ 18) ∨ k = 23 ∨ (34 ≤ k ∧ k < 58)) → h' k = h k) ∧ ∀ b, b ≠ 6 → h' 0 b = h 0 b
theorem rf_end {h h1 h2 h3 h4 h5 : ab_H} (hr : ro_in h) (e1 : h1 = ab_hs h 18 5 (h 1 8)) (I2 : sw_I h1 (am_n (h1 1 8)) (h1 1 8) h2) (C : rc_R h2 401 h3) (I4 : sw_I h3 (am_n (h3 1 8)) (h3 1 8) h4) (L : rl_R h4 401 h5) : rf_Post h (ab_hs h5 0 6 0) := by
  have k1 : ∀ k, k ≠ 18 → h1 k = h k := fun k hk => by rw [e1, ab_hs_f hk]
  have r1 : ro_in h1 := ro_same (fun k hk => k1 k (by omega)) hr
  have k2 : ∀ k, ¬ (10 ≤ k ∧ k ≤ 18) → h2 k = h k := fun k hk => (I2.2.2 k (by omega)).trans (k1 k (by omega))
  have k3 : ∀ k, ¬ ((10 ≤ k ∧ k ≤ 18) ∨ k = 23 ∨ (34 ≤ k ∧ k < 52)) → h3 k = h k := fun k hk => (C.2.2 k (by omega)).trans (k2 k (by omega))
  have r3 : ro_in h3 := ro_same (fun k hk => k3 k (by omega)) hr
  have k4 : ∀ k, ¬ (10 ≤ k ∧ k ≤ 17) → h4 k = h3 k := fun k hk => I4.2.2 k (by omega)
  have k5 : ∀ k, ¬ ((10 ≤ k ∧ k ≤ 17) ∨ (52 ≤ k ∧ k < 58)) → h5 k = h3 k := fun k hk => (L.2 k (by omega)).trans (k4 k (by omega))
  have kf : ∀ k, ¬ (k = 0 ∨ (10 ≤ k ∧ k ≤ 18) ∨ k = 23 ∨ (34 ≤ k ∧ k < 58)) → (ab_hs h5 0 6 0) k = h k := fun k hk => by rw [ab_hs_f (by omega), k5 k (by omega)]; exact k3 k (by omega)
  obtain ⟨s1, s2, s3, s4, s5, s6, s7⟩ := cr_same (h := h) (h' := ab_hs h5 0 6 0) (fun k hk => kf k (by omega))
  have w1 := am_in (m := h 1 8) hr.1
  have hm6 := hr.1
  have e18 : h1 1 8 = h 1 8 := by rw [k1 1 (by decide)]
  have e38 : h3 1 8 = h 1 8 := by rw [k3 1 (by decide)]
  have m2 : h2 10 7 = h 1 8 := I2.1.1.trans e18
  have m4 : h4 10 7 = h 1 8 := I4.1.1.trans e38
  have a1 := cr_same (h := h) (h' := h1) (fun k hk => k1 k (by omega))
  have a3 := cr_same (h := h) (h' := h3) (fun k hk => k3 k (by omega))
  have hb1 : ∀ k, h1 1 8 ≤ k → k < 6 → ¬ wk_tb (am_n (h1 1 8)) k = true := fun k z0 z1 z => by
    rw [e18] at z0 z
    have := (w1.2 k (by omega) z1).mp z
    omega
  refine ⟨ab_hs_eq, ⟨?_, fun s hs => ⟨fun i i0 i1 => ?_, ?_, fun i j i0 i1 j0 j1 => ?_⟩⟩, kf, fun b hb => ?_⟩
  · rw [kf 1 (by omega), ab_hs_f (by decide), k5 18 (by decide), C.2.2 18 (by decide), I2.2.2 18 (by decide), e1, ab_hs_eq]
  · rw [kf 1 (by omega)] at i1 ⊢
    rw [s5, s6, ab_hs_f (by omega), ab_hs_f (by omega), ab_hs_f (by omega), ab_hs_f (by omega), k5 _ (by omega), k5 _ (by omega), k5 _ (by omega)]
    obtain ⟨c1, c2, c3⟩ := C.1 s (by omega) i i0 (by rw [m2]; exact i1)
    have eW := sw_W r1 (by rw [e18]; exact w1.1) I2 s i i0 (by rw [e18]; exact i1)
    rw [a1.2.2.2.2.1, e18] at eW
    have eA := sw_A r3 (by rw [e38]; exact w1.1) I4 s i i0 (by rw [e38]; exact i1)
    have c4 := L.1 s (by omega) i i0 (by rw [m4]; exact i1)
    refine ⟨c1.trans eW.1, c2.trans eW.2.1, c3.trans eW.2.2, c4.trans (eA.1.trans ?_)⟩
    have z : al_at (2 * h3 1 7) (cr_a h3) (cr_b h3) (cr_c h3) (am_n (h3 1 8)) (cr_S h3) = cr_A h := a3.2.2.2.2.2.1
    rw [z]
  · rw [ab_hs_f (by decide), k5 23 (by decide)]; exact (C.2.1 s (by omega)).1
  · rw [ab_hs_f (by decide), k5 23 (by decide), kf 1 (by omega), s7, (C.2.1 s (by omega)).2 i j i0 i1 j0 j1, sw_M r1 (by rw [e18]; exact w1.1) hb1 I2 s i j ⟨i0, i1⟩, a1.2.2.2.2.2.2, e18]
  · rw [ab_hs_i hb, k5 0 (by decide), k3 0 (by decide)]
theorem rf_self {h : ab_H} (h0 : h 0 6 = 0) (c : cr_OK h) : rf_Post h h := ⟨h0, c, fun _ _ => rfl, fun _ _ => rfl⟩
set_option maxHeartbeats 4000000 in
set_option maxRecDepth 100000 in
theorem s_X6_refresh {g : ab_G} {h : ab_H} (hr : ro_in h) (hs : h 0 6 = 0 → cr_OK h) : MethV g 5 m_X6_refresh [a_R 0] h (fun h' => rf_Post h h') := by
  refine Meth.of_go k_X6_refresh (Nat.le_of_ble_eq_true rfl) ?_
  show Go g _ m_X6_refresh _ 0 [some (a_R 0)] [] h
  refine go_aload_n rfl rfl ?_
  refine go_getI rfl f_X6_51 rfl rfl rfl ?_ -- stale
  refine go_if_eq rfl (tgt := 86) (by decide) (fun c4 => ?_) (fun c4 => ?_)
  · exact go_ret rfl rfl ⟨rfl, (rf_self c4 (hs c4))⟩
  · refine go_aload_n rfl rfl ?_
    refine go_getR rfl f_X6_33 rfl rfl ?_ -- course
    refine go_aload_n rfl rfl ?_
    refine go_getR rfl f_X6_10 rfl rfl ?_ -- road
    refine go_getI rfl f_X6_176 rfl rfl rfl ?_ -- men
    refine go_putI rfl f_X6_320 rfl rfl rfl ?_ -- men
    have k1 : ∀ k, k ≠ 18 → (ab_hs h 18 5 (h 1 8)) k = h k := fun k hk => ab_hs_f hk
    refine go_aload_n rfl rfl ?_
    refine go_getR rfl f_X6_26 rfl rfl ?_ -- walk
    refine go_aload_n rfl rfl ?_
    refine go_getR rfl f_X6_10 rfl rfl ?_ -- road
    refine go_aload_n rfl rfl ?_
    refine go_getR rfl f_X6_19 rfl rfl ?_ -- use
    refine go_aload_n rfl rfl ?_
    refine go_cV0I (M' := m_X6_allMen) rfl l_X6_168 k_X6_allMen (s_X6_allMen (by rw [k1 1 (by decide)]; exact hr.1)) rfl rfl rfl rfl (by decide) (Nat.le_of_ble_eq_true rfl) (fun z34 h34 q34 => ?_) -- X6_allMen
    obtain ⟨rfl, rfl⟩ := q34
    refine go_cV3V (M' := m_X5_start) rfl l_X6_321 k_X5_start (s_X5_start (ro_same (fun k hk => k1 k (by omega)) hr)) rfl rfl rfl rfl (by decide) (Nat.le_of_ble_eq_true rfl) (fun h37 q37 => ?_) -- X5_start
    have m2 : h37 10 7 = h 1 8 := q37.1.1.trans (by rw [k1 1 (by decide)])
    have hb2 : ∀ k, h37 10 7 ≤ k → k < 6 → ¬ wk_tb (h37 10 8) k = true := fun k z0 z1 z => by rw [q37.1.2.1, k1 1 (by decide)] at z; have := ((am_in hr.1).2 k (by have := hr.1; omega) z1).mp z; omega
    refine go_aload_n rfl rfl ?_
    refine go_getR rfl f_X6_33 rfl rfl ?_ -- course
    refine go_aload_n rfl rfl ?_
    refine go_getR rfl f_X6_26 rfl rfl ?_ -- walk
    refine go_cV1V (M' := m_X0_recordTogether) rfl l_X6_325 k_X0_recordTogether (s_X0_recordTogether (by rw [m2]; exact hr.1) (by rw [q37.1.2.2.1, k1 1 (by decide)]; have := hr.2.1; omega) hb2 (by rw [m2, q37.2.2 18 (by decide), ab_hs_eq]) (sw_R (ro_same (fun k hk => k1 k (by omega)) hr) (by rw [k1 1 (by decide)]; exact (am_in hr.1).1) q37).1) rfl rfl rfl rfl (by decide) (Nat.le_of_ble_eq_true rfl) (fun h48 q48 => ?_) -- X0_recordTogether
    have k3 : ∀ k, ¬ ((10 ≤ k ∧ k ≤ 18) ∨ k = 23 ∨ (34 ≤ k ∧ k < 52)) → h48 k = h k := fun k hk => (q48.1.2.2 k (by omega)).trans ((q37.2.2 k (by omega)).trans (k1 k (by omega)))
    refine go_aload_n rfl rfl ?_
    refine go_getR rfl f_X6_26 rfl rfl ?_ -- walk
    refine go_aload_n rfl rfl ?_
    refine go_getR rfl f_X6_10 rfl rfl ?_ -- road
    refine go_aload_n rfl rfl ?_
    refine go_getR rfl f_X6_19 rfl rfl ?_ -- use
    refine go_aload_n rfl rfl ?_
    refine go_cV0I (M' := m_X6_allMen) rfl l_X6_168 k_X6_allMen (s_X6_allMen (by rw [k3 1 (by decide)]; exact hr.1)) rfl rfl rfl rfl (by decide) (Nat.le_of_ble_eq_true rfl) (fun z64 h64 q64 => ?_) -- X6_allMen
    obtain ⟨rfl, rfl⟩ := q64
    refine go_cV3V (M' := m_X5_start) rfl l_X6_321 k_X5_start (s_X5_start (ro_same (fun k hk => k3 k (by omega)) hr)) rfl rfl rfl rfl (by decide) (Nat.le_of_ble_eq_true rfl) (fun h67 q67 => ?_) -- X5_start
    have m4 : h67 10 7 = h 1 8 := q67.1.1.trans (by rw [k3 1 (by decide)])
    refine go_aload_n rfl rfl ?_
    refine go_getR rfl f_X6_33 rfl rfl ?_ -- course
    refine go_aload_n rfl rfl ?_
    refine go_getR rfl f_X6_26 rfl rfl ?_ -- walk
    refine go_cV1V (M' := m_X0_recordAlone) rfl l_X6_329 k_X0_recordAlone (s_X0_recordAlone (by rw [m4]; exact hr.1) (by rw [q67.1.2.2.1, k3 1 (by decide)]; have := hr.2.1; omega) (by rw [m4, q67.2.2 18 (by decide), q48.1.2.2 18 (by decide), q37.2.2 18 (by decide), ab_hs_eq]) (sw_R (ro_same (fun k hk => k3 k (by omega)) hr) (by rw [k3 1 (by decide)]; exact (am_in hr.1).1) q67).2) rfl rfl rfl rfl (by decide) (Nat.le_of_ble_eq_true rfl) (fun h78 q78 => ?_) -- X0_recordAlone
    refine go_aload_n rfl rfl ?_
    refine go_iconst rfl ?_
    refine go_putZ rfl f_X6_51 rfl rfl rfl (by decide) ?_ -- stale
    exact go_ret rfl rfl ⟨rfl, (rf_end hr rfl q37 q48.1 q67 q78)⟩
