theorem rw_frame {h0 h h' : ab_H} {s : Nat} (R : rw_at h0 s h) (e : ∀ k, 10 ≤ k → k ≤ 17 → h' k = h k) : rw_at h0 s h' := by
  unfold rw_at wk_in wk_row at R ⊢
  rw [e 10 (by decide) (by decide), e 11 (by decide) (by decide), e 13 (by decide) (by decide), e 14 (by decide) (by decide)]
  obtain ⟨R1, R2, R3, R4, R5, R6, R7⟩ := R
  exact ⟨R1, R2, R3, R4, fun k hk => (e k (by omega) (by omega)).trans (R5 k hk), R6, R7⟩
/-- the times ahead of t are recorded -/
def rc_R (h0 : ab_H) (t : Int) (h : ab_H) : Prop := (∀ s : Nat, (s : Int) < t → ∀ i, 0 ≤ i → i < h0 10 7 → h (34 + i.toNat) s = (wk_at (h0 10 9) (h0 15) (h0 16) (h0 17) (h0 10 7) (h0 10 10) (h0 10 11) (h0 10 8) (wk_row h0) s).1 i ∧ h (40 + i.toNat) s = (wk_at (h0 10 9) (h0 15) (h0 16) (h0 17) (h0 10 7) (h0 10 10) (h0 10 11) (h0 10 8) (wk_row h0) s).2.1 i ∧ h (46 + i.toNat) s = (wk_at (h0 10 9) (h0 15) (h0 16) (h0 17) (h0 10 7) (h0 10 10) (h0 10 11) (h0 10 8) (wk_row h0) s).2.2 i) ∧ (∀ s : Nat, (s : Int) < t → (0 ≤ h 23 s ∧ h 23 s < 68719476736) ∧ ∀ i j, 0 ≤ i → i < 6 → 0 ≤ j → j < 6 → (pr_tb (h 23 s) i j = true ↔ wk_mt (h0 10 9) (h0 15) (h0 16) (h0 17) (h0 10 7) (h0 10 10) (h0 10 11) (h0 10 8) (wk_row h0) s i j)) ∧ ∀ k, ¬ ((10 ≤ k ∧ k ≤ 14) ∨ k = 23 ∨ (34 ≤ k ∧ k < 52)) → h k = h0 k
theorem rc_next {h0 h h1 h2 : ab_H} {t : Int} (ht : 0 ≤ t) (hm : 0 ≤ h0 10 7 ∧ h0 10 7 ≤ 6) (C : rc_R h0 t h) (e1 : ∀ k, ¬ (10 ≤ k ∧ k ≤ 14) → h1 k = h k) (R : rw_at h0 t.toNat h1) (I : ir_I h1 t (h0 10 7) h2) : rc_R h0 (t + 1) (ab_hs h2 23 t (h2 10 13)) ∧ rw_at h0 t.toNat (ab_hs h2 23 t (h2 10 13)) := by
  obtain ⟨C1, C2, C3⟩ := C
  obtain ⟨I1, I2⟩ := I
  have tt : ((t.toNat : Nat) : Int) = t := Int.toNat_of_nonneg ht
  have fk : ∀ k, ¬ (34 ≤ k ∧ k < 52) → h2 k = h1 k := fun k hk => funext fun b => I2 k b (fun z => hk ⟨z.1, z.2.1⟩)
  refine ⟨⟨fun s hs i i0 i1 => ?_, fun s hs => ?_, fun k hk => ?_⟩, ?_⟩
  · rw [ab_hs_k (by omega), ab_hs_k (by omega), ab_hs_k (by omega)]
    by_cases e : (s : Int) = t
    · obtain ⟨a1, a2, a3⟩ := I1 i i0 i1
      obtain ⟨b1, b2, b3⟩ := R.1 i i0 i1
      rw [e, a1, a2, a3, show s = t.toNat by omega]
      exact ⟨b1, b2, b3⟩
    · rw [I2 _ _ (by omega), I2 _ _ (by omega), I2 _ _ (by omega), e1 _ (by omega), e1 _ (by omega), e1 _ (by omega)]
      exact C1 s (by omega) i i0 i1
  · by_cases e : (s : Int) = t
    · rw [e, ab_hs_eq, fk 10 (by omega), show s = t.toNat by omega]
      exact ⟨R.2.2.1, R.2.2.2.1⟩
    · rw [ab_hs_i e, fk 23 (by omega), e1 23 (by omega)]
      exact C2 s (by omega)
  · rw [ab_hs_f (by omega), fk k (by omega), e1 k (by omega)]; exact C3 k hk
  · exact rw_frame R (fun k a b => by rw [ab_hs_f (by omega), fk k (by omega)])
set_option maxHeartbeats 4000000 in
set_option maxRecDepth 100000 in
theorem lp_X0_recordTogether {g : ab_G} {h0 : ab_H} {Q : Option ab_V → ab_H → Prop} (hm : 0 ≤ h0 10 7 ∧ h0 10 7 ≤ 6) (hE : 1 ≤ h0 10 9) (hb : ∀ k, h0 10 7 ≤ k → k < 6 → ¬ wk_tb (h0 10 8) k = true) (em : h0 18 5 = h0 10 7) (hq : ∀ h, rc_R h0 401 h → rw_at h0 400 h → Q none h) : ∀ (f : Nat) (t : Int) (h : ab_H), 0 ≤ t → t ≤ 401 → 401 - t < f → rc_R h0 t h → rw_at h0 (t - 1).toNat h → ∀ v, Go g (ab_rm 4, 0, 0) m_X0_recordTogether Q 2 [some (a_R 18), some (a_R 10), some (a_I t), v] [] h := by
  intro f
  induction f with
  | zero => intro t h h0t h1 hf; omega
  | succ f ih =>
    intro t h h0t h1 hf C R v
    have e5 : h 18 5 = h0 18 5 := by rw [C.2.2 18 (by decide)]
    refine go_iload_n rfl rfl ?_
    refine go_sipush rfl ?_
    refine go_icmp_gt rfl (tgt := 91) (by decide) (fun c6 => ?_) (fun c6 => ?_)
    · exact go_ret rfl rfl (hq h (by rw [show t = 401 by omega] at C; exact C) (by rw [show (t - 1).toNat = 400 by omega] at R; exact R))
    · refine go_iload_n rfl rfl ?_
      refine go_if_le rfl (tgt := 17) (by decide) (fun c10 => ?_) (fun c10 => ?_)
      · have EH : ∀ k, ¬ (10 ≤ k ∧ k ≤ 14) → h k = h k := fun _ _ => rfl
        have RR : rw_at h0 t.toNat h := by rw [show t.toNat = (t - 1).toNat by omega]; exact R
        refine go_iconst rfl ?_
        refine go_istore_n rfl (by decide) rfl ?_
        refine lp_X0_recIn (h1 := h) (by rw [EH 18 (by decide)]; omega) (by omega) (fun h2 I2 i => ?_) 8 0 h (by omega) (by rw [EH 18 (by decide)]; omega) (by rw [EH 18 (by decide)]; omega) ⟨fun j j0 j1 => by omega, fun _ _ _ => rfl⟩
        rw [EH 18 (by decide), e5, em] at I2
        obtain ⟨C2, R2⟩ := rc_next h0t hm C EH RR I2
        refine go_aload_n rfl rfl ?_
        refine go_getR rfl f_X0_25 rfl rfl ?_ -- pairs
        refine go_iload_n rfl rfl ?_
        refine go_aload_n rfl rfl ?_
        refine go_getL rfl f_X0_45 rfl rfl rfl ?_ -- pairs
        refine go_last rfl rfl (by omega) (by omega) ?_
        refine go_iinc rfl rfl (by decide) rfl (by unfold ab_iok; omega) ?_
        refine go_goto rfl (tgt := 2) (by decide) ?_
        exact ih (t + 1) _ (by omega) (by omega) (by omega) C2 (by rw [show (t + 1 - 1).toNat = t.toNat by omega]; exact R2) _
      · refine go_aload_n rfl rfl ?_
        refine go_cV0V (M' := m_X5_step) rfl l_X0_33 k_X5_step (s_X5_step R.2.2.2.2.2.2 (by rw [R.2.2.2.2.2.1 7 (by decide), R.2.2.2.2.2.1 8 (by decide)]; exact hb)) rfl rfl rfl rfl (by decide) (Nat.le_of_ble_eq_true rfl) (fun h14 q14 => ?_) -- X5_step
        have EH : ∀ k, ¬ (10 ≤ k ∧ k ≤ 14) → h14 k = h k := fun k hk => q14.2.2.2.2.1 k (by omega)
        have RR : rw_at h0 t.toNat h14 := by have z := rw_next hE (by omega) hb R q14; rw [show (t - 1).toNat + 1 = t.toNat by omega] at z; exact z
        refine go_iconst rfl ?_
        refine go_istore_n rfl (by decide) rfl ?_
        refine lp_X0_recIn (h1 := h14) (by rw [EH 18 (by decide)]; omega) (by omega) (fun h2 I2 i => ?_) 8 0 h14 (by omega) (by rw [EH 18 (by decide)]; omega) (by rw [EH 18 (by decide)]; omega) ⟨fun j j0 j1 => by omega, fun _ _ _ => rfl⟩
        rw [EH 18 (by decide), e5, em] at I2
        obtain ⟨C2, R2⟩ := rc_next h0t hm C EH RR I2
        refine go_aload_n rfl rfl ?_
        refine go_getR rfl f_X0_25 rfl rfl ?_ -- pairs
        refine go_iload_n rfl rfl ?_
        refine go_aload_n rfl rfl ?_
        refine go_getL rfl f_X0_45 rfl rfl rfl ?_ -- pairs
        refine go_last rfl rfl (by omega) (by omega) ?_
        refine go_iinc rfl rfl (by decide) rfl (by unfold ab_iok; omega) ?_
        refine go_goto rfl (tgt := 2) (by decide) ?_
        exact ih (t + 1) _ (by omega) (by omega) (by omega) C2 (by rw [show (t + 1 - 1).toNat = t.toNat by omega]; exact R2) _
set_option maxHeartbeats 4000000 in
set_option maxRecDepth 100000 in
theorem s_X0_recordTogether {g : ab_G} {h : ab_H} (hm : 0 ≤ h 10 7 ∧ h 10 7 ≤ 6) (hE : 1 ≤ h 10 9) (hb : ∀ k, h 10 7 ≤ k → k < 6 → ¬ wk_tb (h 10 8) k = true) (em : h 18 5 = h 10 7) (R : rw_at h 0 h) : MethV g 4 m_X0_recordTogether [a_R 18, a_R 10] h (fun h' => rc_R h 401 h' ∧ rw_at h 400 h') := by
  refine Meth.of_go k_X0_recordTogether (Nat.le_of_ble_eq_true rfl) ?_
  show Go g _ m_X0_recordTogether _ 0 [some (a_R 18), some (a_R 10), none, none] [] h
  refine go_iconst rfl ?_
  refine go_istore_n rfl (by decide) rfl ?_
  exact lp_X0_recordTogether hm hE hb em (fun h2 C R => ⟨rfl, C, R⟩) 500 0 h (by omega) (by omega) (by omega) ⟨fun s hs => by omega, fun s hs => by omega, fun _ _ => rfl⟩ R none
