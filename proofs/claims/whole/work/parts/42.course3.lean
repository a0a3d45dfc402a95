/-! Course: names off -/
def al_at (E : Int) (a b c : Int → Int) (w : Int) (S0 : wk_S) : Nat → wk_S
  | 0 => S0
  | t + 1 => wk_go E a b c w t (al_at E a b c w S0 t)
theorem al_congr {E m w : Int} {a b c a' b' c' : Int → Int} {S S' : wk_S} (h : wk_eq m S S') (hp : ∀ j, 0 ≤ j → j < m → a j = a' j ∧ b j = b' j ∧ c j = c' j) : ∀ t, wk_eq m (al_at E a b c w S t) (al_at E a' b' c' w S' t)
  | 0 => h
  | t + 1 => wk_go_congr (al_congr h hp t) hp
def ra_at (h0 : ab_H) (s : Nat) (h : ab_H) : Prop := wk_eq (h0 10 7) (wk_row h) (al_at (h0 10 9) (h0 15) (h0 16) (h0 17) (h0 10 8) (wk_row h0) s) ∧ h 10 12 = s ∧ (∀ k, k = 15 ∨ k = 16 ∨ k = 17 → h k = h0 k) ∧ (∀ b, ¬ b = 12 → h 10 b = h0 10 b) ∧ wk_in h
theorem gn_in {h h2 : ab_H} (hin : wk_in h) (hE : 1 ≤ h 10 9) (I : gn_I h (h 10 7) h2) (ht : h 10 12 + 1 ≤ 1000) : wk_in (ab_hs h2 10 12 (h 10 12 + 1)) := by
  obtain ⟨n1, n2, n3, n4, n5⟩ := hin
  have e10 : ∀ b, ¬ b = 12 → (ab_hs h2 10 12 (h 10 12 + 1)) 10 b = h 10 b := fun b hb => by rw [ab_hs_i hb, I.2.2 10 (by decide)]
  refine ⟨by rw [e10 7 (by decide)]; exact n1, by rw [e10 8 (by decide)]; exact n2, by rw [e10 9 (by decide)]; exact n3, by rw [ab_hs_eq]; omega, fun i i0 i1 => ?_⟩
  rw [e10 7 (by decide)] at i1
  rw [e10 9 (by decide), ab_hs_f (by decide), ab_hs_f (by decide), (I.1 i i0 i1).2.1, (I.1 i i0 i1).2.2]
  obtain ⟨m1, m2⟩ := n5 i i0 i1
  refine ⟨?_, wk_pm m2 _⟩
  have k : 0 ≤ h 11 i + wk_fc (h 10 9) (h 11 i) (h 13 i) ∧ h 11 i + wk_fc (h 10 9) (h 11 i) (h 13 i) ≤ h 10 9 := by
    unfold wk_fc
    by_cases z : (h 13 i = 1 ∧ h 11 i = h 10 9) ∨ (¬ h 13 i = 1 ∧ h 11 i = 0)
    · rw [if_pos z]; omega
    · rw [if_neg z]; omega
  show 0 ≤ (if _ then h 11 i + wk_fc (h 10 9) (h 11 i) (h 13 i) else h 11 i) ∧ (if _ then h 11 i + wk_fc (h 10 9) (h 11 i) (h 13 i) else h 11 i) ≤ _
  by_cases z : wk_tb (h 10 8) i = true ∧ ¬ wk_std (h 15) (h 16) (h 17) i (h 10 12)
  · rw [if_pos z]; exact k
  · rw [if_neg z]; exact m1
theorem ra_next {h0 h h2 : ab_H} {s : Nat} (hE : 1 ≤ h0 10 9) (hs : s < 999) (R : ra_at h0 s h) (I : gn_I h (h 10 7) h2) : ra_at h0 (s + 1) (ab_hs h2 10 12 (h 10 12 + 1)) := by
  obtain ⟨R1, R2, R3, R4, R5⟩ := R
  have i2 := gn_in R5 (by rw [R4 9 (by decide)]; exact hE) I (by rw [R2]; omega)
  have e7 := R4 7 (by decide)
  refine ⟨fun j j0 j1 => ?_, by rw [ab_hs_eq, R2]; omega, fun k hk => by rw [ab_hs_f (by omega), I.2.2 k (by omega)]; exact R3 k hk, fun b hb => by rw [ab_hs_i hb, I.2.2 10 (by decide)]; exact R4 b hb, i2⟩
  obtain ⟨a1, a2, a3⟩ := I.1 j j0 (by rw [e7]; exact j1)
  have g := wk_go_congr (E := h0 10 9) (w := h0 10 8) (t := s) R1 (fun _ _ _ => ⟨rfl, rfl, rfl⟩) (a := h0 15) (b := h0 16) (c := h0 17) j j0 j1
  rw [R4 9 (by decide), R4 8 (by decide), R2, R3 15 (by decide), R3 16 (by decide), R3 17 (by decide)] at a2 a3
  refine ⟨?_, ?_, ?_⟩
  · show (ab_hs h2 10 12 (h 10 12 + 1)) 11 j = _; rw [ab_hs_f (by decide), a2]; exact g.1
  · show (ab_hs h2 10 12 (h 10 12 + 1)) 13 j = _; rw [ab_hs_f (by decide), a3]; exact g.2.1
  · show (ab_hs h2 10 12 (h 10 12 + 1)) 14 j = _; rw [ab_hs_f (by decide), I.2.2 14 (by decide)]; exact g.2.2
theorem ra_frame {h0 h h' : ab_H} {s : Nat} (R : ra_at h0 s h) (e : ∀ k, 10 ≤ k → k ≤ 17 → h' k = h k) : ra_at h0 s h' := by
  unfold ra_at wk_in wk_row at R ⊢
  rw [e 10 (by decide) (by decide), e 11 (by decide) (by decide), e 13 (by decide) (by decide), e 14 (by decide) (by decide)]
  obtain ⟨R1, R2, R3, R4, R5⟩ := R
  exact ⟨R1, R2, fun k hk => (e k (by omega) (by omega)).trans (R3 k hk), R4, R5⟩
def ia_I (h1 : ab_H) (t i : Int) (h : ab_H) : Prop := (∀ j, 0 ≤ j → j < i → h (52 + j.toNat) t = h1 11 j) ∧ ∀ (k : Nat) (b : Int), ¬ (52 ≤ k ∧ k < 58 ∧ b = t) → h k b = h1 k b
def rl_R (h0 : ab_H) (t : Int) (h : ab_H) : Prop := (∀ s : Nat, (s : Int) < t → ∀ i, 0 ≤ i → i < h0 10 7 → h (52 + i.toNat) s = (al_at (h0 10 9) (h0 15) (h0 16) (h0 17) (h0 10 8) (wk_row h0) s).1 i) ∧ ∀ k, ¬ ((10 ≤ k ∧ k ≤ 14) ∨ (52 ≤ k ∧ k < 58)) → h k = h0 k
theorem rl_next {h0 h h1 h2 : ab_H} {t : Int} (ht : 0 ≤ t) (hm : 0 ≤ h0 10 7 ∧ h0 10 7 ≤ 6) (C : rl_R h0 t h) (e1 : ∀ k, ¬ (10 ≤ k ∧ k ≤ 14) → h1 k = h k) (R : ra_at h0 t.toNat h1) (I : ia_I h1 t (h0 10 7) h2) : rl_R h0 (t + 1) h2 ∧ ra_at h0 t.toNat h2 := by
  obtain ⟨C1, C3⟩ := C
  obtain ⟨I1, I2⟩ := I
  have tt : ((t.toNat : Nat) : Int) = t := Int.toNat_of_nonneg ht
  have fk : ∀ k, ¬ (52 ≤ k ∧ k < 58) → h2 k = h1 k := fun k hk => funext fun b => I2 k b (fun z => hk ⟨z.1, z.2.1⟩)
  refine ⟨⟨fun s hs i i0 i1 => ?_, fun k hk => ?_⟩, ?_⟩
  · by_cases e : (s : Int) = t
    · rw [e, I1 i i0 i1, show s = t.toNat by omega]
      exact (R.1 i i0 i1).1
    · rw [I2 _ _ (by omega), e1 _ (by omega)]
      exact C1 s (by omega) i i0 i1
  · rw [fk k (by omega), e1 k (by omega)]; exact C3 k hk
  · exact ra_frame R (fun k a b => fk k (by omega))
set_option maxHeartbeats 4000000 in
set_option maxRecDepth 100000 in
theorem lp_X0_alIn {g : ab_G} {h1 : ab_H} {t : Int} {Q : Option ab_V → ab_H → Prop} (hm : 0 ≤ h1 18 5 ∧ h1 18 5 ≤ 6) (ht : 0 ≤ t ∧ t ≤ 400) (K : ∀ h, ia_I h1 t (h1 18 5) h → ∀ i, Go g (ab_rm 3, 0, 0) m_X0_recordAlone Q 47 [some (a_R 18), some (a_R 10), some (a_I t), some (a_I i)] [] h) : ∀ (f : Nat) (i : Int) (h : ab_H), 0 ≤ i → i ≤ h1 18 5 → h1 18 5 - i < f → ia_I h1 t i h → Go g (ab_rm 3, 0, 0) m_X0_recordAlone Q 19 [some (a_R 18), some (a_R 10), some (a_I t), some (a_I i)] [] h := by
  intro f
  induction f with
  | zero => intro i h h0i h1 hf; omega
  | succ f ih =>
    intro i h h0i h1i hf I
    obtain ⟨I1, I2⟩ := id I
    have e5 : h 18 5 = h1 18 5 := I2 18 5 (by omega)
    refine go_iload_n rfl rfl ?_
    refine go_aload_n rfl rfl ?_
    refine go_getI rfl f_X0_29 rfl rfl rfl ?_ -- men
    refine go_icmp_ge rfl (tgt := 47) (by decide) (fun c24 => ?_) (fun c24 => ?_)
    · exact K h (by rw [show h1 18 5 = i by omega]; exact ⟨I1, I2⟩) i
    · refine go_aload_n rfl rfl ?_
      refine go_getR rfl f_X0_22 rfl rfl ?_ -- alone
      refine go_iload_n rfl rfl ?_
      refine go_aald rfl rfl (by omega) (by omega) (rf_22 _ (by omega)) ?_
      refine go_iload_n rfl rfl ?_
      refine go_aload_n rfl rfl ?_
      refine go_getR rfl f_X0_38 rfl rfl ?_ -- place
      refine go_iload_n rfl rfl ?_
      refine go_iald rfl rfl (by omega) (by omega) ?_
      rw [I2 11 i (by omega)]
      refine go_iast rfl (kd_al (by omega)) (by omega) (by omega) ?_
      refine go_iinc rfl rfl (by decide) rfl (by unfold ab_iok; omega) ?_
      refine go_goto rfl (tgt := 19) (by decide) ?_
      refine ih (i + 1) _ (by omega) (by omega) (by omega) ⟨fun j j0 j1 => ?_, fun k b hk => ?_⟩
      · by_cases e : j = i
        · subst e; rw [ab_hs_eq]
        · rw [ab_hs_k (by omega)]; exact I1 j j0 (by omega)
      · rw [ab_hs_ne (by omega)]; exact I2 k b hk
set_option maxHeartbeats 4000000 in
set_option maxRecDepth 100000 in
theorem lp_X0_recordAlone {g : ab_G} {h0 : ab_H} {Q : Option ab_V → ab_H → Prop} (hm : 0 ≤ h0 10 7 ∧ h0 10 7 ≤ 6) (hE : 1 ≤ h0 10 9) (em : h0 18 5 = h0 10 7) (hq : ∀ h, rl_R h0 401 h → Q none h) : ∀ (f : Nat) (t : Int) (h : ab_H), 0 ≤ t → t ≤ 401 → 401 - t < f → rl_R h0 t h → ra_at h0 (t - 1).toNat h → ∀ v, Go g (ab_rm 3, 0, 0) m_X0_recordAlone Q 2 [some (a_R 18), some (a_R 10), some (a_I t), v] [] h := by
  intro f
  induction f with
  | zero => intro t h h0t h1 hf; omega
  | succ f ih =>
    intro t h h0t h1 hf C R v
    have e5 : h 18 5 = h0 18 5 := by rw [C.2 18 (by decide)]
    refine go_iload_n rfl rfl ?_
    refine go_sipush rfl ?_
    refine go_icmp_gt rfl (tgt := 53) (by decide) (fun c6 => ?_) (fun c6 => ?_)
    · exact go_ret rfl rfl (hq h (by rw [show t = 401 by omega] at C; exact C))
    · refine go_iload_n rfl rfl ?_
      refine go_if_le rfl (tgt := 17) (by decide) (fun c10 => ?_) (fun c10 => ?_)
      · have EH : ∀ k, ¬ (10 ≤ k ∧ k ≤ 14) → h k = h k := fun _ _ => rfl
        have RR : ra_at h0 t.toNat h := by rw [show t.toNat = (t - 1).toNat by omega]; exact R
        refine go_iconst rfl ?_
        refine go_istore_n rfl (by decide) rfl ?_
        refine lp_X0_alIn (h1 := h) (by rw [EH 18 (by decide)]; omega) (by omega) (fun h2 I2 i => ?_) 8 0 _ (by omega) (by rw [EH 18 (by decide)]; omega) (by rw [EH 18 (by decide)]; omega) ⟨fun j j0 j1 => by omega, fun _ _ _ => rfl⟩
        rw [EH 18 (by decide), e5, em] at I2
        obtain ⟨C2, R2⟩ := rl_next h0t hm C EH RR I2
        refine go_iinc rfl rfl (by decide) rfl (by unfold ab_iok; omega) ?_
        refine go_goto rfl (tgt := 2) (by decide) ?_
        exact ih (t + 1) _ (by omega) (by omega) (by omega) C2 (by rw [show (t + 1 - 1).toNat = t.toNat by omega]; exact R2) _
      · refine go_aload_n rfl rfl ?_
        refine go_cV0V (M' := m_X5_goOn) rfl l_X0_48 k_X5_goOn (s_X5_goOn R.2.2.2.2) rfl rfl rfl rfl (by decide) (Nat.le_of_ble_eq_true rfl) (fun h14 q14 => ?_) -- X5_goOn
        obtain ⟨h9, I9, rfl⟩ := q14
        have EH : ∀ k, ¬ (10 ≤ k ∧ k ≤ 14) → (ab_hs h9 10 12 (h 10 12 + 1)) k = h k := fun k hk => by rw [ab_hs_f (by omega)]; exact I9.2.2 k (by omega)
        have RR : ra_at h0 t.toNat (ab_hs h9 10 12 (h 10 12 + 1)) := by have z := ra_next hE (by omega) R I9; rw [show (t - 1).toNat + 1 = t.toNat by omega] at z; exact z
        refine go_iconst rfl ?_
        refine go_istore_n rfl (by decide) rfl ?_
        refine lp_X0_alIn (h1 := ab_hs h9 10 12 (h 10 12 + 1)) (by rw [EH 18 (by decide)]; omega) (by omega) (fun h2 I2 i => ?_) 8 0 _ (by omega) (by rw [EH 18 (by decide)]; omega) (by rw [EH 18 (by decide)]; omega) ⟨fun j j0 j1 => by omega, fun _ _ _ => rfl⟩
        rw [EH 18 (by decide), e5, em] at I2
        obtain ⟨C2, R2⟩ := rl_next h0t hm C EH RR I2
        refine go_iinc rfl rfl (by decide) rfl (by unfold ab_iok; omega) ?_
        refine go_goto rfl (tgt := 2) (by decide) ?_
        exact ih (t + 1) _ (by omega) (by omega) (by omega) C2 (by rw [show (t + 1 - 1).toNat = t.toNat by omega]; exact R2) _
set_option maxHeartbeats 4000000 in
set_option maxRecDepth 100000 in
theorem s_X0_recordAlone {g : ab_G} {h : ab_H} (hm : 0 ≤ h 10 7 ∧ h 10 7 ≤ 6) (hE : 1 ≤ h 10 9) (em : h 18 5 = h 10 7) (R : ra_at h 0 h) : MethV g 3 m_X0_recordAlone [a_R 18, a_R 10] h (fun h' => rl_R h 401 h') := by
  refine Meth.of_go k_X0_recordAlone (Nat.le_of_ble_eq_true rfl) ?_
  show Go g _ m_X0_recordAlone _ 0 [some (a_R 18), some (a_R 10), none, none] [] h
  refine go_iconst rfl ?_
  refine go_istore_n rfl (by decide) rfl ?_
  exact lp_X0_recordAlone hm hE em (fun h2 C => ⟨rfl, C⟩) 500 0 h (by omega) (by omega) (by omega) ⟨fun s hs => by omega, fun _ _ => rfl⟩ R none
