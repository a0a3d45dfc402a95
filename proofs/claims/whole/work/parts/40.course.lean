/-! Course: all half minutes of a walk -/
theorem rf_19 : ∀ n, n < 6 → ab_rf 19 n = some (34 + n) := by decide
theorem rf_20 : ∀ n, n < 6 → ab_rf 20 n = some (40 + n) := by decide
theorem rf_21 : ∀ n, n < 6 → ab_rf 21 n = some (46 + n) := by decide
theorem rf_22 : ∀ n, n < 6 → ab_rf 22 n = some (52 + n) := by decide
theorem rf_31 : ∀ n, n < 4 → ab_rf 31 n = some (58 + n) := by decide
theorem kd_rw : ∀ n, n < 24 → ab_kd (34 + n) = some (.inr (0, 401)) := by decide
theorem kd_pl {n : Nat} (h : n < 6) : ab_kd (34 + n) = some (.inr (0, 401)) := kd_rw n (by omega)
theorem kd_fc {n : Nat} (h : n < 6) : ab_kd (40 + n) = some (.inr (0, 401)) := by have := kd_rw (6 + n) (by omega); rw [show 34 + (6 + n) = 40 + n by omega] at this; exact this
theorem kd_bg {n : Nat} (h : n < 6) : ab_kd (46 + n) = some (.inr (0, 401)) := by have := kd_rw (12 + n) (by omega); rw [show 34 + (12 + n) = 46 + n by omega] at this; exact this
theorem kd_al {n : Nat} (h : n < 6) : ab_kd (52 + n) = some (.inr (0, 401)) := by have := kd_rw (18 + n) (by omega); rw [show 34 + (18 + n) = 52 + n by omega] at this; exact this
theorem kd_sh : ∀ n, n < 4 → ab_kd (58 + n) = some (.inr (0, 60)) := by decide
/-- one time's column is written, for the men ahead of i -/
def ir_I (h1 : ab_H) (t i : Int) (h : ab_H) : Prop := (∀ j, 0 ≤ j → j < i → h (34 + j.toNat) t = h1 11 j ∧ h (40 + j.toNat) t = h1 13 j ∧ h (46 + j.toNat) t = h1 14 j) ∧ ∀ (k : Nat) (b : Int), ¬ (34 ≤ k ∧ k < 52 ∧ b = t) → h k b = h1 k b
set_option maxHeartbeats 4000000 in
set_option maxRecDepth 100000 in
theorem lp_X0_recIn {g : ab_G} {h1 : ab_H} {t : Int} {Q : Option ab_V → ab_H → Prop} (hm : 0 ≤ h1 18 5 ∧ h1 18 5 ≤ 6) (ht : 0 ≤ t ∧ t ≤ 400) (K : ∀ h, ir_I h1 t (h1 18 5) h → ∀ i, Go g (ab_rm 4, 0, 0) m_X0_recordTogether Q 75 [some (a_R 18), some (a_R 10), some (a_I t), some (a_I i)] [] h) : ∀ (f : Nat) (i : Int) (h : ab_H), 0 ≤ i → i ≤ h1 18 5 → h1 18 5 - i < f → ir_I h1 t i h → Go g (ab_rm 4, 0, 0) m_X0_recordTogether Q 19 [some (a_R 18), some (a_R 10), some (a_I t), some (a_I i)] [] h := by
  intro f
  induction f with
  | zero => intro i h h0i h1 hf; omega
  | succ f ih =>
    intro i h h0i h1i hf I
    obtain ⟨I1, I2⟩ := id I
    have e5 : h 18 5 = h1 18 5 := I2 18 5 (by omega)
    refine go_iload_n rfl rfl ?_
    refine go_aload_n rfl rfl ?_
    refine go_getI rfl f_X0_29 rfl rfl rfl ?_ -- men
    refine go_icmp_ge rfl (tgt := 75) (by decide) (fun c24 => ?_) (fun c24 => ?_)
    · exact K h (by rw [show h1 18 5 = i by omega]; exact ⟨I1, I2⟩) i
    · refine go_aload_n rfl rfl ?_
      refine go_getR rfl f_X0_11 rfl rfl ?_ -- place
      refine go_iload_n rfl rfl ?_
      refine go_aald rfl rfl (by omega) (by omega) (rf_19 _ (by omega)) ?_
      refine go_iload_n rfl rfl ?_
      refine go_aload_n rfl rfl ?_
      refine go_getR rfl f_X0_38 rfl rfl ?_ -- place
      refine go_iload_n rfl rfl ?_
      refine go_iald rfl rfl (by omega) (by omega) ?_
      rw [I2 11 i (by omega)]
      refine go_iast rfl (kd_pl (by omega)) (by omega) (by omega) ?_
      refine go_aload_n rfl rfl ?_
      refine go_getR rfl f_X0_16 rfl rfl ?_ -- facing
      refine go_iload_n rfl rfl ?_
      refine go_aald rfl rfl (by omega) (by omega) (rf_20 _ (by omega)) ?_
      refine go_iload_n rfl rfl ?_
      refine go_aload_n rfl rfl ?_
      refine go_getR rfl f_X0_41 rfl rfl ?_ -- facing
      refine go_iload_n rfl rfl ?_
      refine go_iald rfl rfl (by omega) (by omega) ?_
      rw [ab_hs_k (by omega), I2 13 i (by omega)]
      refine go_iast rfl (kd_fc (by omega)) (by omega) (by omega) ?_
      refine go_aload_n rfl rfl ?_
      refine go_getR rfl f_X0_19 rfl rfl ?_ -- load
      refine go_iload_n rfl rfl ?_
      refine go_aald rfl rfl (by omega) (by omega) (rf_21 _ (by omega)) ?_
      refine go_iload_n rfl rfl ?_
      refine go_aload_n rfl rfl ?_
      refine go_getR rfl f_X0_43 rfl rfl ?_ -- load
      refine go_iload_n rfl rfl ?_
      refine go_iald rfl rfl (by omega) (by omega) ?_
      rw [ab_hs_k (by omega), ab_hs_k (by omega), I2 14 i (by omega)]
      refine go_iast rfl (kd_bg (by omega)) (by omega) (by omega) ?_
      refine go_iinc rfl rfl (by decide) rfl (by unfold ab_iok; omega) ?_
      refine go_goto rfl (tgt := 19) (by decide) ?_
      refine ih (i + 1) _ (by omega) (by omega) (by omega) ⟨fun j j0 j1 => ?_, fun k b hk => ?_⟩
      · by_cases e : j = i
        · subst e
          rw [ab_hs_k (by omega), ab_hs_k (by omega), ab_hs_eq, ab_hs_k (by omega), ab_hs_eq, ab_hs_eq]
          exact ⟨rfl, rfl, rfl⟩
        · rw [ab_hs_k (by omega), ab_hs_k (by omega), ab_hs_k (by omega), ab_hs_k (by omega), ab_hs_k (by omega), ab_hs_k (by omega), ab_hs_k (by omega), ab_hs_k (by omega), ab_hs_k (by omega)]
          exact I1 j j0 (by omega)
      · rw [ab_hs_ne (by omega), ab_hs_ne (by omega), ab_hs_ne (by omega)]; exact I2 k b hk
/-- who met whom at half minute s (nobody at 0) -/
def wk_mt (E : Int) (a b c : Int → Int) (m l0 l1 w : Int) (S0 : wk_S) : Nat → Int → Int → Prop
  | 0, _, _ => False
  | s + 1, i, j => wk_mets E a b c m w s (wk_at E a b c m l0 l1 w S0 s) i j
/-- the walk has come to half minute s, its own cells but for that as they were -/
def rw_at (h0 : ab_H) (s : Nat) (h : ab_H) : Prop := wk_eq (h0 10 7) (wk_row h) (wk_at (h0 10 9) (h0 15) (h0 16) (h0 17) (h0 10 7) (h0 10 10) (h0 10 11) (h0 10 8) (wk_row h0) s) ∧ h 10 12 = s ∧ (0 ≤ h 10 13 ∧ h 10 13 < 68719476736) ∧ (∀ i j, 0 ≤ i → i < 6 → 0 ≤ j → j < 6 → (pr_tb (h 10 13) i j = true ↔ wk_mt (h0 10 9) (h0 15) (h0 16) (h0 17) (h0 10 7) (h0 10 10) (h0 10 11) (h0 10 8) (wk_row h0) s i j)) ∧ (∀ k, k = 15 ∨ k = 16 ∨ k = 17 → h k = h0 k) ∧ (∀ b, ¬ (b = 12 ∨ b = 13) → h 10 b = h0 10 b) ∧ wk_in h
theorem rw_next {h0 h h' : ab_H} {s : Nat} (hE : 1 ≤ h0 10 9) (hs : s < 999) (hbb : ∀ k, h0 10 7 ≤ k → k < 6 → ¬ wk_tb (h0 10 8) k = true) (R : rw_at h0 s h) (P : sp_Post h h') : rw_at h0 (s + 1) h' := by
  obtain ⟨R1, R2, R3, R4, R5, R6, R7⟩ := R
  have i2 := sp_in R7 (by rw [R6 9 (by decide)]; exact hE) P (by rw [R2]; omega)
  obtain ⟨P1, P2, P3, P4, P5, P6⟩ := P
  unfold sp_S at P1
  have e6 := R6 7 (by decide)
  rw [R6 7 (by decide), R6 8 (by decide), R6 9 (by decide), R6 10 (by decide), R6 11 (by decide), R2, R5 15 (by decide), R5 16 (by decide), R5 17 (by decide)] at P1
  rw [R6 7 (by decide), R6 8 (by decide), R6 9 (by decide), R2, R5 15 (by decide), R5 16 (by decide), R5 17 (by decide)] at P4
  have m6 : h0 10 7 ≤ 6 := by rw [← e6]; exact R7.1.2
  refine ⟨P1.trans (wk_step_congr m6 R1 (fun _ _ _ => ⟨rfl, rfl, rfl⟩)), by rw [P2, R2]; omega, P3, fun i j i0 i1 j0 j1 => (P4 i j i0 i1 j0 j1).trans ?_, fun k hk => (P5 k (by omega)).trans (R5 k hk), fun b hb => (P6 b hb).trans (R6 b hb), i2⟩
  by_cases z : i < h0 10 7
  · exact wk_met_congr (wk_go_congr R1 (fun _ _ _ => ⟨rfl, rfl, rfl⟩)) (fun j j0 j1 => (R1 j j0 j1).1) ⟨i0, z⟩
  · show wk_mets _ _ _ _ _ _ _ _ _ _ ↔ wk_mets _ _ _ _ _ _ _ _ _ _
    unfold wk_mets wk_met wk_act
    constructor
    · rintro ⟨⟨y, x, x1, x2⟩, -⟩; exact absurd y (hbb i (by omega) i1)
    · rintro ⟨⟨y, x, x1, x2⟩, -⟩; exact absurd y (hbb i (by omega) i1)
