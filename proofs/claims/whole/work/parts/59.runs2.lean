set_option maxHeartbeats 4000000 in
set_option maxRecDepth 100000 in
theorem lp_X7_runs0 {g : ab_G} {h0 : ab_H} {w : Int} {Q : Option ab_V → ab_H → Prop} (hr : mr_in h0) (K : ∀ h, r0_I h0 (h0 62 9) h → ∀ i : Int, Go g (ab_rm 4, 0, 0) m_X7_runs Q 54 [some (a_R 62), some (a_I w), some (a_I i), none] [] h) : ∀ (f : Nat) (i : Int) (h : ab_H), 0 ≤ i → i ≤ h0 62 9 → h0 62 9 - i < f → r0_I h0 i h → Go g (ab_rm 4, 0, 0) m_X7_runs Q 7 [some (a_R 62), some (a_I w), some (a_I i), none] [] h := by
  intro f
  induction f with
  | zero => intro i h h0i h1 hf; omega
  | succ f ih =>
    intro i h h0i h1 hf I
    obtain ⟨I1, I2⟩ := id I
    have e9 : h 62 9 = h0 62 9 := I2 62 9 (by omega)
    have r1 := hr.1
    refine go_iload_n rfl rfl ?_
    refine go_aload_n rfl rfl ?_
    refine go_getI rfl f_X7_110 rfl rfl rfl ?_ -- men
    refine go_icmp_ge rfl (tgt := 54) (by decide) (fun c12 => ?_) (fun c12 => ?_)
    · exact K h (by rw [show h0 62 9 = i by omega]; exact ⟨I1, I2⟩) i
    · have r := hr.2.2.1 i h0i (by omega)
      have r2 := hr.2.1
      refine go_aload_n rfl rfl ?_
      refine go_getR rfl f_X7_46 rfl rfl ?_ -- places
      refine go_iload_n rfl rfl ?_
      refine go_iconst rfl ?_
      refine go_aload_n rfl rfl ?_
      refine go_getR rfl f_X7_25 rfl rfl ?_ -- begin
      refine go_iload_n rfl rfl ?_
      refine go_iald rfl rfl (by omega) (by omega) ?_
      rw [I2 68 i (by omega)]
      refine go_imul rfl (by unfold ab_iok; omega) ?_
      refine go_iast rfl rfl (by omega) (by omega) ?_
      refine go_aload_n rfl rfl ?_
      refine go_getR rfl f_X7_49 rfl rfl ?_ -- facing
      refine go_iload_n rfl rfl ?_
      refine go_aload_n rfl rfl ?_
      refine go_getR rfl f_X7_28 rfl rfl ?_ -- faces
      refine go_iload_n rfl rfl ?_
      refine go_iald rfl rfl (by omega) (by omega) ?_
      rw [ab_hs_f (by decide), I2 69 i (by omega)]
      refine go_iast rfl rfl (by omega) (by omega) ?_
      refine go_aload_n rfl rfl ?_
      refine go_getR rfl f_X7_52 rfl rfl ?_ -- bags
      refine go_iload_n rfl rfl ?_
      refine go_iload_n rfl rfl ?_
      refine go_iast rfl rfl (by omega) (by omega) ?_
      refine go_iinc rfl rfl (by decide) rfl (by unfold ab_iok; omega) ?_
      refine go_goto rfl (tgt := 7) (by decide) ?_
      refine ih (i + 1) _ (by omega) (by omega) (by omega) ⟨fun j j0 j1 => ?_, fun k b hk => ?_⟩
      · by_cases e : j = i
        · subst e
          rw [ab_hs_k (by decide), ab_hs_k (by decide), ab_hs_eq, ab_hs_k (by decide), ab_hs_eq, ab_hs_eq]
          exact ⟨rfl, rfl, rfl⟩
        · rw [ab_hs_i e, ab_hs_i e, ab_hs_i e, ab_hs_i e, ab_hs_i e, ab_hs_i e, ab_hs_i e, ab_hs_i e, ab_hs_i e]
          exact I1 j j0 (by omega)
      · rw [ab_hs_ne (by omega), ab_hs_ne (by omega), ab_hs_ne (by omega)]; exact I2 k b (by omega)
set_option maxHeartbeats 4000000 in
set_option maxRecDepth 100000 in
theorem lp_X7_runs1 {g : ab_G} {h1 : ab_H} {w t : Int} {Q : Option ab_V → ab_H → Prop} (hr : mr_in h1) (ht : 1 ≤ t ∧ t ≤ 400) (ho : md_ok h1 (t - 1)) (K : ∀ h, ig_I h1 t (h1 62 9) h → ∀ i : Int, Go g (ab_rm 4, 0, 0) m_X7_runs Q 90 [some (a_R 62), some (a_I w), some (a_I t), some (a_I i)] [] h) : ∀ (f : Nat) (i : Int) (h : ab_H), 0 ≤ i → i ≤ h1 62 9 → h1 62 9 - i < f → ig_I h1 t i h → Go g (ab_rm 4, 0, 0) m_X7_runs Q 70 [some (a_R 62), some (a_I w), some (a_I t), some (a_I i)] [] h := by
  intro f
  induction f with
  | zero => intro i h h0i h1 hf; omega
  | succ f ih =>
    intro i h h0i h1i hf I
    have e : ∀ k, ¬ (k = 75 ∨ k = 76 ∨ k = 77) → h k = h1 k := fun k hk => funext fun b => I.2 k b (fun z => hk z.1)
    have e9 : h 62 9 = h1 62 9 := by rw [e 62 (by decide)]
    have r1 := hr.1
    refine go_iload_n rfl rfl ?_
    refine go_aload_n rfl rfl ?_
    refine go_getI rfl f_X7_110 rfl rfl rfl ?_ -- men
    refine go_icmp_ge rfl (tgt := 90) (by decide) (fun c75 => ?_) (fun c75 => ?_)
    · exact K h (by rw [show h1 62 9 = i by omega]; exact I) i
    · refine go_aload_n rfl rfl ?_
      refine go_iload_n rfl rfl ?_
      refine go_iload_n rfl rfl ?_
      refine go_cV2V (M' := m_X7_goes) rfl l_X7_187 k_X7_goes (s_X7_goes (by rw [e9]; exact ⟨h0i, by omega⟩) (by omega) (by unfold mr_in at hr ⊢; rw [e 62 (by decide), e 68 (by decide), e 69 (by decide), e 70 (by decide), e 73 (by decide), e 74 (by decide)]; exact hr) (fun j j0 j1 => by rw [e 62 (by decide)] at j1 ⊢; rw [I.2 75 _ (by omega), I.2 76 _ (by omega)]; exact ho j j0 j1)) rfl rfl rfl rfl (by decide) (Nat.le_of_ble_eq_true rfl) (fun h81 q81 => ?_) -- X7_goes
      refine go_iinc rfl rfl (by decide) rfl (by unfold ab_iok; omega) ?_
      refine go_goto rfl (tgt := 70) (by decide) ?_
      exact ih (i + 1) _ (by omega) (by omega) (by omega) (ig_next hr.1.2 ⟨h0i, by omega⟩ I q81)
set_option maxHeartbeats 4000000 in
set_option maxRecDepth 100000 in
theorem lp_X7_runs {g : ab_G} {h0 : ab_H} {w : Int} {Q : Option ab_V → ab_H → Prop} (hr : mr_in h0) (hw : 0 ≤ h0 62 18 ∧ h0 62 18 < 64) (hq : ∀ h, rn_I h0 401 h → Q none h) : ∀ (f : Nat) (t : Int) (h : ab_H), 1 ≤ t → t ≤ 401 → 401 - t < f → rn_I h0 t h → ∀ v, Go g (ab_rm 4, 0, 0) m_X7_runs Q 61 [some (a_R 62), some (a_I w), some (a_I t), v] [] h := by
  intro f
  induction f with
  | zero => intro t h h0t h1 hf; omega
  | succ f ih =>
    intro t h h0t h1 hf R v
    have hm := hr.1
    refine go_iload_n rfl rfl ?_
    refine go_sipush rfl ?_
    refine go_icmp_ge rfl (tgt := 101) (by decide) (fun c65 => ?_) (fun c65 => ?_)
    · exact go_ret rfl rfl (hq h (by rw [show t = 401 by omega] at R; exact R))
    · refine go_iconst rfl ?_
      refine go_istore_n rfl (by decide) rfl ?_
      have x62 := R.2 62 (by decide)
      have tt : (((t - 1).toNat : Nat) : Int) = t - 1 := Int.toNat_of_nonneg (by omega)
      have prev := R.1 (t - 1).toNat (by omega)
      unfold rn_at at prev
      rw [tt] at prev
      refine lp_X7_runs1 (h1 := h) (by unfold mr_in at hr ⊢; rw [R.2 62 (by decide), R.2 68 (by decide), R.2 69 (by decide), R.2 70 (by decide), R.2 73 (by decide), R.2 74 (by decide)]; exact hr) ⟨h0t, by omega⟩ prev.2.1 (fun h2 I' i => ?_) 8 0 h (by omega) (by rw [x62]; omega) (by rw [x62]; omega) ⟨fun j j0 j1 => by omega, fun _ _ _ => rfl⟩
      have I2 : ig_I h t (h0 62 9) h2 := by rw [← x62]; exact I'
      have y62 : h2 62 = h0 62 := (funext fun b => I2.2 62 b (by omega)).trans x62
      refine go_aload_n rfl rfl ?_
      refine go_iload_n rfl rfl ?_
      refine go_cV1V (M' := m_X7_meet) rfl l_X7_183 k_X7_meet (s_X7_meet (by rw [y62]; exact hm) (by rw [y62]; exact hw) (by omega) (fun k k0 k1 => (ig_ok (by rw [x62]; exact hr.2.1.1) prev.2.1 I' k k0 k1).2) (Or.inl (by omega))) rfl rfl rfl rfl (by decide) (Nat.le_of_ble_eq_true rfl) (fun h92 q92 => ?_) -- X7_meet
      refine go_iinc rfl rfl (by decide) rfl (by unfold ab_iok; omega) ?_
      refine go_goto rfl (tgt := 61) (by decide) ?_
      exact ih (t + 1) _ (by omega) (by omega) (by omega) (rn_next hm hr.2.1.1 h0t R I2 q92) _
/-- behind a run: all half minutes up to 400, for those of the mask w -/
def ru_Post (h : ab_H) (w : Int) (h' : ab_H) : Prop := rn_I (ab_hs h 62 18 w) 401 h' 
set_option maxHeartbeats 4000000 in
set_option maxRecDepth 100000 in
theorem s_X7_runs {g : ab_G} {h : ab_H} {w : Int} (hr : mr_in h) (hw : 0 ≤ w ∧ w < 64) (hd : ∀ a b, 0 ≤ a → a < h 62 9 → 0 ≤ b → b < h 62 9 → h 68 a = h 68 b → a = b) : MethV g 4 m_X7_runs [a_R 62, a_I w] h (fun h' => ru_Post h w h') := by
  refine Meth.of_go k_X7_runs (Nat.le_of_ble_eq_true rfl) ?_
  show Go g _ m_X7_runs _ 0 [some (a_R 62), some (a_I w), none, none] [] h
  refine go_aload_n rfl rfl ?_
  refine go_iload_n rfl rfl ?_
  refine go_putI rfl f_X7_156 rfl rfl rfl ?_ -- there
  refine go_iconst rfl ?_
  refine go_istore_n rfl (by decide) rfl ?_
  have hr0 : mr_in (ab_hs h 62 18 w) := by unfold mr_in at hr ⊢; rw [ab_hs_i (by decide), ab_hs_i (by decide), ab_hs_f (by decide), ab_hs_f (by decide), ab_hs_f (by decide), ab_hs_f (by decide), ab_hs_f (by decide)]; exact hr
  refine lp_X7_runs0 (h0 := ab_hs h 62 18 w) hr0 (fun h1 I1 i => ?_) 8 0 _ (by omega) hr0.1.1 (by have := hr0.1; omega) ⟨fun j j0 j1 => by omega, fun _ _ _ => rfl⟩
  have y62 : h1 62 = (ab_hs h 62 18 w) 62 := funext fun b => I1.2 62 b (by omega)
  refine go_aload_n rfl rfl ?_
  refine go_iconst rfl ?_
  refine go_cV1V (M' := m_X7_meet) rfl l_X7_183 k_X7_meet (s_X7_meet (by rw [y62, ab_hs_i (by decide)]; exact hr.1) (by rw [y62, ab_hs_eq]; exact hw) (by omega) (fun k k0 k1 => by rw [y62, ab_hs_i (by decide)] at k1; have z := (I1.1 k k0 (by rw [ab_hs_i (by decide)]; exact k1)).2.1; rw [show 6 * 0 + k = k by omega, z, ab_hs_f (by decide)]; exact (hr.2.2.1 k k0 k1).2.1) (Or.inr (fun a b a0 a1 b0 b1 _ _ z => by rw [y62, ab_hs_i (by decide)] at a1 b1; rw [show 6 * 0 + a = a by omega, show 6 * 0 + b = b by omega, (I1.1 a a0 (by rw [ab_hs_i (by decide)]; exact a1)).1, (I1.1 b b0 (by rw [ab_hs_i (by decide)]; exact b1)).1, ab_hs_f (by decide)] at z; exact hd a b a0 a1 b0 b1 (by omega)))) rfl rfl rfl rfl (by decide) (Nat.le_of_ble_eq_true rfl) (fun h56 q56 => ?_) -- X7_meet
  refine go_iconst rfl ?_
  refine go_istore_n rfl (by decide) rfl ?_
  exact lp_X7_runs (h0 := ab_hs h 62 18 w) hr0 (by rw [ab_hs_eq]; exact hw) (fun h3 R => ⟨rfl, R⟩) 500 1 _ (by omega) (by omega) (by omega) (rn_first hr0.1 hr0 (by rw [ab_hs_i (by decide), ab_hs_f (by decide)]; exact hd) I1 q56) none
