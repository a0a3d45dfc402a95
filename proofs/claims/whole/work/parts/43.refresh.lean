/-! the class: its course is walked anew where it is stale -/
def am_n (m : Int) : Int := ab_ishl 1 m - 1
theorem am_0 : ∀ m, m < 7 → (0 ≤ am_n (Int.ofNat m) ∧ am_n (Int.ofNat m) < 64) ∧ ∀ k, k < 6 → wk_tb (am_n (Int.ofNat m)) (Int.ofNat k) = decide (k < m) := by decide +kernel
theorem am_in {m : Int} (hm : 0 ≤ m ∧ m ≤ 6) : (0 ≤ am_n m ∧ am_n m < 64) ∧ ∀ k, 0 ≤ k → k < 6 → (wk_tb (am_n m) k = true ↔ k < m) := by
  have h := am_0 m.toNat (by omega)
  rw [show Int.ofNat m.toNat = m by exact Int.toNat_of_nonneg hm.1] at h
  refine ⟨h.1, fun k k0 k1 => ?_⟩
  have z := h.2 k.toNat (by omega)
  rw [show Int.ofNat k.toNat = k by exact Int.toNat_of_nonneg k0] at z
  rw [z, decide_eq_true_eq]
  omega
/-- the beginning, what stands, as the road and the use tell -/
def cr_S (h : ab_H) : wk_S := (fun j => 2 * h 3 j, h 4, fun j => j)
def cr_a (h : ab_H) : Int → Int := fun j => 2 * h 5 j
def cr_b (h : ab_H) : Int → Int := fun j => 2 * h 8 j
def cr_c (h : ab_H) : Int → Int := fun j => 2 * (h 8 j + h 9 j)
noncomputable def cr_W (h : ab_H) (w : Int) : Nat → wk_S := wk_at (2 * h 1 7) (cr_a h) (cr_b h) (cr_c h) (h 1 8) (h 7 2) (h 7 3) w (cr_S h)
def cr_A (h : ab_H) : Nat → wk_S := al_at (2 * h 1 7) (cr_a h) (cr_b h) (cr_c h) (am_n (h 1 8)) (cr_S h)
def cr_M (h : ab_H) (w : Int) : Nat → Int → Int → Prop := wk_mt (2 * h 1 7) (cr_a h) (cr_b h) (cr_c h) (h 1 8) (h 7 2) (h 7 3) w (cr_S h)
/-- the course is the walk of all men -/
def cr_OK (h : ab_H) : Prop := h 18 5 = h 1 8 ∧ ∀ s : Nat, s ≤ 400 → (∀ i, 0 ≤ i → i < h 1 8 → h (34 + i.toNat) s = (cr_W h (am_n (h 1 8)) s).1 i ∧ h (40 + i.toNat) s = (cr_W h (am_n (h 1 8)) s).2.1 i ∧ h (46 + i.toNat) s = (cr_W h (am_n (h 1 8)) s).2.2 i ∧ h (52 + i.toNat) s = (cr_A h s).1 i) ∧ (0 ≤ h 23 s ∧ h 23 s < 68719476736) ∧ ∀ i j, 0 ≤ i → i < 6 → 0 ≤ j → j < 6 → (pr_tb (h 23 s) i j = true ↔ cr_M h (am_n (h 1 8)) s i j)
theorem cr_same {h h' : ab_H} (e : ∀ k, (1 ≤ k ∧ k ≤ 9) → h' k = h k) : cr_S h' = cr_S h ∧ cr_a h' = cr_a h ∧ cr_b h' = cr_b h ∧ cr_c h' = cr_c h ∧ (∀ w, cr_W h' w = cr_W h w) ∧ cr_A h' = cr_A h ∧ ∀ w, cr_M h' w = cr_M h w := by
  have e1 := e 1 (by decide)
  have e3 := e 3 (by decide)
  have e4 := e 4 (by decide)
  have e5 := e 5 (by decide)
  have e7 := e 7 (by decide)
  have e8 := e 8 (by decide)
  have e9 := e 9 (by decide)
  have a1 : cr_S h' = cr_S h := by unfold cr_S; rw [e3, e4]
  have a2 : cr_a h' = cr_a h := by unfold cr_a; rw [e5]
  have a3 : cr_b h' = cr_b h := by unfold cr_b; rw [e8]
  have a4 : cr_c h' = cr_c h := by unfold cr_c; rw [e8, e9]
  refine ⟨a1, a2, a3, a4, fun w => ?_, ?_, fun w => ?_⟩
  · unfold cr_W; rw [a1, a2, a3, a4, e1, e7]
  · unfold cr_A; rw [a1, a2, a3, a4, e1]
  · unfold cr_M; rw [a1, a2, a3, a4, e1, e7]
/-- behind a walk's beginning -/
theorem sw_rw {h h1 : ab_H} {w : Int} (hr : ro_in h) (hw : 0 ≤ w ∧ w < 64) (I : sw_I h w (h 1 8) h1) : wk_in h1 ∧ wk_eq (h1 10 7) (wk_row h1) (cr_S h) ∧ (∀ j, 0 ≤ j → j < h1 10 7 → h1 15 j = cr_a h j ∧ h1 16 j = cr_b h j ∧ h1 17 j = cr_c h j) := by
  obtain ⟨⟨a1, a2, a3, a4, a5, a6, a7⟩, I2, I3⟩ := I
  obtain ⟨r1, r2, r3, r4⟩ := hr
  refine ⟨⟨by rw [a1]; exact r1, by rw [a2]; exact hw, by rw [a3]; omega, by rw [a6]; omega, fun i i0 i1 => ?_⟩, fun j j0 j1 => ?_, fun j j0 j1 => ?_⟩
  · rw [a1] at i1
    obtain ⟨b1, b2, b3, b4, b5, b6⟩ := I2 i i0 i1
    rw [b1, b2, a3]
    have := r3 i i0 i1
    exact ⟨by omega, this.2.1⟩
  · rw [a1] at j1
    obtain ⟨b1, b2, b3, b4, b5, b6⟩ := I2 j j0 j1
    exact ⟨b1, b2, b3⟩
  · rw [a1] at j1
    obtain ⟨b1, b2, b3, b4, b5, b6⟩ := I2 j j0 j1
    exact ⟨b4, b5, b6⟩
theorem sw_W {h h1 : ab_H} {w : Int} (hr : ro_in h) (hw : 0 ≤ w ∧ w < 64) (I : sw_I h w (h 1 8) h1) (s : Nat) : wk_eq (h 1 8) (wk_at (h1 10 9) (h1 15) (h1 16) (h1 17) (h1 10 7) (h1 10 10) (h1 10 11) (h1 10 8) (wk_row h1) s) (cr_W h w s) := by
  obtain ⟨w1, w2, w3⟩ := sw_rw hr hw I
  obtain ⟨⟨a1, a2, a3, a4, a5, a6, a7⟩, I2, I3⟩ := I
  rw [a1] at w2 w3
  rw [a3, a1, a4, a5, a2]
  exact wk_at_congr hr.1.2 w2 w3 s
theorem sw_A {h h1 : ab_H} {w : Int} (hr : ro_in h) (hw : 0 ≤ w ∧ w < 64) (I : sw_I h w (h 1 8) h1) (s : Nat) : wk_eq (h 1 8) (al_at (h1 10 9) (h1 15) (h1 16) (h1 17) (h1 10 8) (wk_row h1) s) (al_at (2 * h 1 7) (cr_a h) (cr_b h) (cr_c h) w (cr_S h) s) := by
  obtain ⟨w1, w2, w3⟩ := sw_rw hr hw I
  obtain ⟨⟨a1, a2, a3, a4, a5, a6, a7⟩, I2, I3⟩ := I
  rw [a1] at w2 w3
  rw [a3, a2]
  exact al_congr w2 w3 s
theorem sw_M {h h1 : ab_H} {w : Int} (hr : ro_in h) (hw : 0 ≤ w ∧ w < 64) (hb : ∀ k, h 1 8 ≤ k → k < 6 → ¬ wk_tb w k = true) (I : sw_I h w (h 1 8) h1) (s : Nat) (i j : Int) (hi : 0 ≤ i ∧ i < 6) : wk_mt (h1 10 9) (h1 15) (h1 16) (h1 17) (h1 10 7) (h1 10 10) (h1 10 11) (h1 10 8) (wk_row h1) s i j ↔ cr_M h w s i j := by
  cases s with
  | zero => exact Iff.rfl
  | succ s =>
    have eW := sw_W hr hw I s
    obtain ⟨w1, w2, w3⟩ := sw_rw hr hw I
    obtain ⟨⟨a1, a2, a3, a4, a5, a6, a7⟩, I2, I3⟩ := I
    rw [a1] at w2 w3
    rw [a3, a1, a4, a5, a2] at eW
    show wk_mets _ _ _ _ _ _ _ _ _ _ ↔ wk_mets _ _ _ _ _ _ _ _ _ _
    rw [a3, a1, a4, a5, a2]
    by_cases z : i < h 1 8
    · exact wk_met_congr (wk_go_congr eW w3) (fun j j0 j1 => (eW j j0 j1).1) ⟨hi.1, z⟩
    · unfold wk_mets wk_met wk_act
      exact ⟨fun y => absurd y.1.1 (hb i (by omega) hi.2), fun y => absurd y.1.1 (hb i (by omega) hi.2)⟩
theorem sw_R {h h1 : ab_H} {w : Int} (hr : ro_in h) (hw : 0 ≤ w ∧ w < 64) (I : sw_I h w (h 1 8) h1) : rw_at h1 0 h1 ∧ ra_at h1 0 h1 := by
  obtain ⟨w1, -, -⟩ := sw_rw hr hw I
  obtain ⟨⟨a1, a2, a3, a4, a5, a6, a7⟩, I2, I3⟩ := I
  refine ⟨⟨fun _ _ _ => ⟨rfl, rfl, rfl⟩, by rw [a6]; rfl, by rw [a7]; decide, fun i j _ _ _ _ => ⟨fun z => ?_, fun z => z.elim⟩, fun _ _ => rfl, fun _ _ => rfl, w1⟩, ⟨fun _ _ _ => ⟨rfl, rfl, rfl⟩, by rw [a6]; rfl, fun _ _ => rfl, fun _ _ => rfl, w1⟩⟩
  rw [a7] at z
  exact absurd z (by show ¬ ((0 : Int).toNat.testBit _ = true); simp)
set_option maxHeartbeats 4000000 in
set_option maxRecDepth 100000 in
theorem s_X6_allMen {g : ab_G} {h : ab_H} (hm : 0 ≤ h 1 8 ∧ h 1 8 ≤ 6) : MethI g 1 m_X6_allMen [a_R 0] h (fun z h' => h = h' ∧ z = am_n (h 1 8)) := by
  refine Meth.of_go k_X6_allMen (Nat.le_of_ble_eq_true rfl) ?_
  show Go g _ m_X6_allMen _ 0 [some (a_R 0)] [] h
  refine go_iconst rfl ?_
  refine go_aload_n rfl rfl ?_
  refine go_getR rfl f_X6_10 rfl rfl ?_ -- road
  refine go_getI rfl f_X6_176 rfl rfl rfl ?_ -- men
  refine go_ishl rfl ?_
  refine go_iconst rfl ?_
  refine go_isub rfl (show ab_iok (am_n (h 1 8)) by have := (am_in hm).1; unfold ab_iok; omega) ?_
  exact go_iret rfl (Or.inl rfl) ⟨_, rfl, rfl, rfl⟩
