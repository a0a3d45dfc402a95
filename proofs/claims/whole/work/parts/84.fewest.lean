/-! the fewest -/
def fc (w : Int) : Int := bc_n w.toNat
theorem on_0 : ∀ a, a < 64 → a ≠ 0 → (0 ≤ ab_iand (Int.ofNat a) (Int.ofNat a - 1) ∧ ab_iand (Int.ofNat a) (Int.ofNat a - 1) < Int.ofNat a) ∧ bc_n (ab_iand (Int.ofNat a) (Int.ofNat a - 1)).toNat + 1 = bc_n a := by decide +kernel
theorem on_1 {a : Int} (ha : 0 ≤ a ∧ a < 64) (hn : a ≠ 0) : (0 ≤ ab_iand a (a - 1) ∧ ab_iand a (a - 1) < a) ∧ fc (ab_iand a (a - 1)) + 1 = fc a := by
  have := on_0 a.toNat (by omega) (by omega)
  rw [show Int.ofNat a.toNat = a from Int.toNat_of_nonneg ha.1] at this
  exact this
theorem fc_b0 : ∀ a, a < 64 → 0 ≤ bc_n a ∧ bc_n a ≤ 6 := by decide +kernel
theorem fc_b {a : Int} (ha : 0 ≤ a ∧ a < 64) : 0 ≤ fc a ∧ fc a ≤ 6 := fc_b0 a.toNat (by omega)
theorem fm_0 : ∀ m, m < 7 → ∀ a, a < 64 → Int.ofNat a ≤ am_n (Int.ofNat m) → bc_n a ≤ Int.ofNat m ∧ ∀ k, k < 6 → m ≤ k → Nat.testBit a k = false := by decide +kernel
theorem fm_1 {m a : Int} (hm : 0 ≤ m ∧ m ≤ 6) (ha : 0 ≤ a ∧ a ≤ am_n m) : fc a ≤ m ∧ ∀ k, m ≤ k → k < 6 → ¬ wk_tb a k = true := by
  have h0 := (am_in hm).1
  have := fm_0 m.toNat (by omega) a.toNat (by omega) (by rw [show Int.ofNat a.toNat = a from Int.toNat_of_nonneg ha.1, show Int.ofNat m.toNat = m from Int.toNat_of_nonneg hm.1]; exact ha.2)
  rw [show Int.ofNat m.toNat = m from Int.toNat_of_nonneg hm.1] at this
  refine ⟨this.1, fun k k0 k1 z => ?_⟩
  have y := this.2 k.toNat (by omega) (by omega)
  unfold wk_tb at z
  rw [z] at y
  cases y
/-- the least of those below N: by how many, then as bits -/
def fw_J (S : Int → Prop) (N z : Int) : Prop := (z = -1 ∧ ∀ w, 0 ≤ w → w < N → ¬ S w) ∨ ((0 ≤ z ∧ z < N) ∧ S z ∧ ∀ w, 0 ≤ w → w < N → S w → fc z < fc w ∨ (fc z = fc w ∧ z ≤ w))
theorem fw_uniq {S : Int → Prop} {N z z' : Int} (a : fw_J S N z) (b : fw_J S N z') : z = z' := by
  rcases a with ⟨a1, a2⟩ | ⟨a1, a2, a3⟩ <;> rcases b with ⟨b1, b2⟩ | ⟨b1, b2, b3⟩
  · omega
  · exact absurd b2 (a2 _ b1.1 b1.2)
  · exact absurd a2 (b2 _ a1.1 a1.2)
  · have x := a3 _ b1.1 b1.2 b2
    have y := b3 _ a1.1 a1.2 a2
    omega
noncomputable def fw_n (S : Int → Prop) (N : Int) : Int := Classical.epsilon (fw_J S N)
theorem fw_eq {S : Int → Prop} {N z : Int} (J : fw_J S N z) : z = fw_n S N := fw_uniq J (Classical.epsilon_spec (p := fw_J S N) ⟨z, J⟩)
theorem fw_nx {S : Int → Prop} {N z : Int} (hN : 0 ≤ N) (J : fw_J S N z) (h : z = -1 ∨ fc N < fc z) : (S N → fw_J S (N + 1) N) ∧ (¬ S N → fw_J S (N + 1) z) := by
  constructor
  · intro y
    refine Or.inr ⟨by omega, y, fun w w0 w1 ws => ?_⟩
    by_cases e : w = N
    · subst e; exact Or.inr ⟨rfl, Int.le_refl _⟩
    · rcases J with ⟨a1, a2⟩ | ⟨a1, a2, a3⟩
      · exact absurd ws (a2 w w0 (by omega))
      · have := a3 w w0 (by omega) ws
        omega
  · intro y
    rcases J with ⟨a1, a2⟩ | ⟨a1, a2, a3⟩
    · refine Or.inl ⟨a1, fun w w0 w1 => ?_⟩
      by_cases e : w = N
      · subst e; exact y
      · exact a2 w w0 (by omega)
    · refine Or.inr ⟨by omega, a2, fun w w0 w1 ws => ?_⟩
      by_cases e : w = N
      · subst e; exact absurd ws y
      · exact a3 w w0 (by omega) ws
theorem fw_kp {S : Int → Prop} {N z : Int} (J : fw_J S N z) (h : z ≠ -1) (hf : fc z ≤ fc N) : fw_J S (N + 1) z := by
  rcases J with ⟨a1, a2⟩ | ⟨a1, a2, a3⟩
  · exact absurd a1 h
  · refine Or.inr ⟨by omega, a2, fun w w0 w1 ws => ?_⟩
    by_cases e : w = N
    · subst e; omega
    · exact a3 w w0 (by omega) ws
noncomputable def fe_n (h : ab_H) (n g : Int) : Int := fw_n (fun w => sv h w n g) (am_n (h 1 8) + 1)
noncomputable def fe_F (h : ab_H) (n g : Int) : Int := if (1 ≤ n ∧ n ≤ 200) ∧ 1 ≤ g ∧ g ≤ 99 then fe_n h n g else -2
theorem fe_same {h h' : ab_H} (e : ∀ k, (1 ≤ k ∧ k ≤ 9) → h' k = h k) (n g : Int) : fe_n h' n g = fe_n h n g := by
  unfold fe_n
  rw [e 1 (by omega), funext (fun w => sv_same e w n g)]
set_option maxHeartbeats 4000000 in
set_option maxRecDepth 100000 in
theorem lp_X7_ones {g : ab_G} {h : ab_H} {v : Int} {Q : Option ab_V → ab_H → Prop} (hv : 0 ≤ v ∧ v < 64) (hq : ∀ z, z = fc v → Q (some (a_I z)) h) : ∀ (f : Nat) (n l : Int), l < f → 0 ≤ l ∧ l < 64 → n + fc l = fc v → Go g (ab_rm 1, 0, 0) m_X7_ones Q 4 [some (a_I v), some (a_I n), some (a_I l)] [] h := by
  intro f
  induction f with
  | zero => intro n l hf hl; omega
  | succ f ih =>
    intro n l hf hl J
    refine go_iload_n rfl rfl ?_
    refine go_if_eq rfl (tgt := 20) (by decide) (fun c5 => ?_) (fun c5 => ?_)
    · refine go_iload_n rfl rfl ?_
      exact go_iret rfl (Or.inl rfl) (hq _ (by subst c5; have e0 : fc 0 = 0 := (by decide); omega))
    · have o := on_1 hl c5
      have ob := fc_b hl
      have ov := fc_b hv
      refine go_iinc rfl rfl (by decide) rfl (by unfold ab_iok; omega) ?_
      refine go_iload_n rfl rfl ?_
      refine go_iload_n rfl rfl ?_
      refine go_iconst rfl ?_
      refine go_isub rfl (by unfold ab_iok; omega) ?_
      refine go_iand rfl ?_
      refine go_istore_n rfl (by decide) rfl ?_
      refine go_goto rfl (tgt := 4) (by decide) ?_
      exact ih _ _ (by omega) (by have := o.1; omega) (by have := o.2; omega)
set_option maxHeartbeats 4000000 in
set_option maxRecDepth 100000 in
theorem s_X7_ones {g : ab_G} {h : ab_H} {v : Int} (hv : 0 ≤ v ∧ v < 64) : MethI g 1 m_X7_ones [a_I v] h (fun z h' => h = h' ∧ z = fc v) := by
  refine Meth.of_go k_X7_ones (Nat.le_of_ble_eq_true rfl) ?_
  show Go g _ m_X7_ones _ 0 [some (a_I v), none, none] [] h
  refine go_iconst rfl ?_
  refine go_istore_n rfl (by decide) rfl ?_
  refine go_iload_n rfl rfl ?_
  refine go_istore_n rfl (by decide) rfl ?_
  exact lp_X7_ones hv (fun z e => ⟨_, rfl, rfl, e⟩) 100 0 v (by omega) hv (by omega)
set_option maxHeartbeats 4000000 in
set_option maxRecDepth 100000 in
theorem lp_X7_fewestOf {g : ab_G} {h0 : ab_H} {n gg : Int} {Q : Option ab_V → ab_H → Prop} (hm : 0 ≤ h0 1 8 ∧ h0 1 8 ≤ 6) (hg : 1 ≤ gg ∧ gg ≤ 99) (hn : 1 ≤ n ∧ n ≤ 200) (hq : ∀ z h, fw_J (fun w => sv h0 w n gg) (am_n (h0 1 8) + 1) z → MF h0 h → MR h → Inv h → Q (some (a_I z)) h) : ∀ (f : Nat) (w z : Int) (h : ab_H), 0 ≤ w → w ≤ am_n (h0 1 8) + 1 → am_n (h0 1 8) + 1 - w < f → fw_J (fun w => sv h0 w n gg) w z → MF h0 h → MR h → Inv h → Go g (ab_rm 6, 0, 0) m_X7_fewestOf Q 10 [some (a_R 62), some (a_I n), some (a_I gg), some (a_I z), some (a_I w)] [] h := by
  have am := (am_in hm).1
  intro f
  induction f with
  | zero => intro w z h h0w h1 hf; omega
  | succ f ih =>
    intro w z h h0w h1 hf J F MR1 II
    have e9 : h 62 9 = h0 1 8 := by have y : h 62 9 = h 1 8 := MR1.2.1; rw [y, F.1 1 (by decide)]
    refine go_iload rfl rfl ?_
    refine go_iconst rfl ?_
    refine go_aload_n rfl rfl ?_
    refine go_getI rfl f_X7_110 rfl rfl rfl ?_ -- men
    refine go_ishl rfl ?_
    have ew : ab_ishl 1 (h 62 9) = am_n (h0 1 8) + 1 := by rw [e9]; unfold am_n; omega
    rw [ew]
    refine go_icmp_ge rfl (tgt := 66) (by decide) (fun c18 => ?_) (fun c18 => ?_)
    · refine go_iload_n rfl rfl ?_
      exact go_iret rfl (Or.inl rfl) (hq _ h (by rw [show w = am_n (h0 1 8) + 1 by omega] at J; exact J) F MR1 II)
    · refine go_iload_n rfl rfl ?_
      refine go_iconst rfl ?_
      refine go_icmp_eq rfl (tgt := 38) (by decide) (fun c23 => ?_) (fun c23 => ?_)
      · refine go_aload_n rfl rfl ?_
        refine go_iload rfl rfl ?_
        refine go_cV1V (M' := m_X7_runs) rfl l_X7_190 k_X7_runs (j_runs II MR1 (w := w) (by omega)) rfl rfl rfl rfl (by decide) (Nat.le_of_ble_eq_true rfl) (fun h41 q41 => ?_) -- X7_runs
        obtain ⟨F2, R2, TT, -, I2⟩ := q41
        rw [← tW_same F2.k9, ← F2.1 1 (by decide)] at TT
        refine go_aload_n rfl rfl ?_
        refine go_iload_n rfl rfl ?_
        refine go_iload_n rfl rfl ?_
        refine go_cV2I (M' := m_X7_isServed) rfl l_X7_252 k_X7_isServed (j_isServed I2 R2 TT hg hn) rfl rfl rfl rfl (by decide) (Nat.le_of_ble_eq_true rfl) (fun z47 h47 q47 => ?_) -- X7_isServed
        obtain ⟨rfl, rfl⟩ := q47
        refine go_if_eq rfl (tgt := 58) (by decide) (fun c50 => ?_) (fun c50 => ?_)
        · refine go_iload_n rfl rfl ?_
          refine go_istore_n rfl (by decide) rfl ?_
          refine go_iinc rfl rfl (by decide) rfl (by unfold ab_iok; omega) ?_
          refine go_goto rfl (tgt := 10) (by decide) ?_
          exact ih (w + 1) _ _ (by omega) (by omega) (by omega) ((fw_nx h0w J (Or.inl c23)).2 (by rw [sv_same (F.trans F2).k9] at c50; exact rd_n0 c50)) (F.trans F2) R2 I2
        · refine go_iload rfl rfl ?_
          refine go_goto rfl (tgt := 59) (by decide) ?_
          refine go_istore_n rfl (by decide) rfl ?_
          refine go_iinc rfl rfl (by decide) rfl (by unfold ab_iok; omega) ?_
          refine go_goto rfl (tgt := 10) (by decide) ?_
          exact ih (w + 1) _ _ (by omega) (by omega) (by omega) ((fw_nx h0w J (Or.inl c23)).1 (by rw [sv_same (F.trans F2).k9] at c50; exact rd_n1 c50)) (F.trans F2) R2 I2
      · have jb : 0 ≤ z ∧ z < w := by rcases J with y | y; exact absurd y.1 c23; exact y.1
        refine go_iload rfl rfl ?_
        refine go_cS1I (M' := m_X7_ones) rfl l_X7_261 k_X7_ones (s_X7_ones (by omega)) rfl (by decide) (Nat.le_of_ble_eq_true rfl) (fun z28 h28 q28 => ?_) -- X7_ones
        obtain ⟨rfl, rfl⟩ := q28
        refine go_iload_n rfl rfl ?_
        refine go_cS1I (M' := m_X7_ones) rfl l_X7_261 k_X7_ones (s_X7_ones (by omega)) rfl (by decide) (Nat.le_of_ble_eq_true rfl) (fun z32 h32 q32 => ?_) -- X7_ones
        obtain ⟨rfl, rfl⟩ := q32
        refine go_icmp_ge rfl (tgt := 60) (by decide) (fun c35 => ?_) (fun c35 => ?_)
        · refine go_iinc rfl rfl (by decide) rfl (by unfold ab_iok; omega) ?_
          refine go_goto rfl (tgt := 10) (by decide) ?_
          exact ih (w + 1) _ _ (by omega) (by omega) (by omega) (fw_kp J c23 (by omega)) F MR1 II
        · refine go_aload_n rfl rfl ?_
          refine go_iload rfl rfl ?_
          refine go_cV1V (M' := m_X7_runs) rfl l_X7_190 k_X7_runs (j_runs II MR1 (w := w) (by omega)) rfl rfl rfl rfl (by decide) (Nat.le_of_ble_eq_true rfl) (fun h41 q41 => ?_) -- X7_runs
          obtain ⟨F2, R2, TT, -, I2⟩ := q41
          rw [← tW_same F2.k9, ← F2.1 1 (by decide)] at TT
          refine go_aload_n rfl rfl ?_
          refine go_iload_n rfl rfl ?_
          refine go_iload_n rfl rfl ?_
          refine go_cV2I (M' := m_X7_isServed) rfl l_X7_252 k_X7_isServed (j_isServed I2 R2 TT hg hn) rfl rfl rfl rfl (by decide) (Nat.le_of_ble_eq_true rfl) (fun z47 h47 q47 => ?_) -- X7_isServed
          obtain ⟨rfl, rfl⟩ := q47
          refine go_if_eq rfl (tgt := 58) (by decide) (fun c50 => ?_) (fun c50 => ?_)
          · refine go_iload_n rfl rfl ?_
            refine go_istore_n rfl (by decide) rfl ?_
            refine go_iinc rfl rfl (by decide) rfl (by unfold ab_iok; omega) ?_
            refine go_goto rfl (tgt := 10) (by decide) ?_
            exact ih (w + 1) _ _ (by omega) (by omega) (by omega) ((fw_nx h0w J (Or.inr (by omega))).2 (by rw [sv_same (F.trans F2).k9] at c50; exact rd_n0 c50)) (F.trans F2) R2 I2
          · refine go_iload rfl rfl ?_
            refine go_goto rfl (tgt := 59) (by decide) ?_
            refine go_istore_n rfl (by decide) rfl ?_
            refine go_iinc rfl rfl (by decide) rfl (by unfold ab_iok; omega) ?_
            refine go_goto rfl (tgt := 10) (by decide) ?_
            exact ih (w + 1) _ _ (by omega) (by omega) (by omega) ((fw_nx h0w J (Or.inr (by omega))).1 (by rw [sv_same (F.trans F2).k9] at c50; exact rd_n1 c50)) (F.trans F2) R2 I2
set_option maxHeartbeats 4000000 in
set_option maxRecDepth 100000 in
theorem j_fewestOf {g : ab_G} {h : ab_H} {n gg : Int} (I : Inv h) (hg : 1 ≤ gg ∧ gg ≤ 99) (hn : 1 ≤ n ∧ n ≤ 200) : MethI g 6 m_X7_fewestOf [a_R 62, a_I n, a_I gg] h (fun z h' => z = fe_n h n gg ∧ MF h h' ∧ MR h' ∧ Inv h') := by
  refine Meth.of_go k_X7_fewestOf (Nat.le_of_ble_eq_true rfl) ?_
  show Go g _ m_X7_fewestOf _ 0 [some (a_R 62), some (a_I n), some (a_I gg), none, none] [] h
  refine go_aload_n rfl rfl ?_
  refine go_cV0I (M' := m_X7_reads) rfl l_X7_140 k_X7_reads (j_reads I) rfl rfl rfl rfl (by decide) (Nat.le_of_ble_eq_true rfl) (fun z1 h1 q1 => ?_) -- X7_reads
  obtain ⟨-, F1, R1, I1⟩ := q1
  refine go_pop rfl ?_
  refine go_iconst rfl ?_
  refine go_istore_n rfl (by decide) rfl ?_
  refine go_iconst rfl ?_
  refine go_istore rfl (by decide) rfl ?_
  exact lp_X7_fewestOf (h0 := h) I.ro.1 hg hn (fun z h2 J F R I2 => ⟨_, rfl, fw_eq J, F, R, I2⟩) 100 0 (-1) _ (by omega) (by have := (am_in I.ro.1).1; omega) (by have := (am_in I.ro.1).1; omega) (Or.inl ⟨rfl, fun w w0 w1 => by omega⟩) F1.mf R1 I1
set_option maxHeartbeats 4000000 in
set_option maxRecDepth 100000 in
theorem j_fewest {g : ab_G} {h : ab_H} {n gg : Int} (I : Inv h) : MethI g 8 m_X7_fewest [a_R 62, a_I n, a_I gg] h (fun z h' => z = fe_F h n gg ∧ MF h h' ∧ Inv h') := by
  have r1 := I.ro.1
  refine Meth.of_go k_X7_fewest (Nat.le_of_ble_eq_true rfl) ?_
  show Go g _ m_X7_fewest _ 0 [some (a_R 62), some (a_I n), some (a_I gg)] [] h
  refine go_iload_n rfl rfl ?_
  refine go_iload_n rfl rfl ?_
  refine go_cS2I (M' := m_X7_isService) rfl l_X7_255 k_X7_isService (s_X7_isService) rfl (by decide) (Nat.le_of_ble_eq_true rfl) (fun z2 h2 q2 => ?_) -- X7_isService
  obtain ⟨rfl, rfl⟩ := q2
  refine go_if_eq rfl (tgt := 17) (by decide) (fun c5 => ?_) (fun c5 => ?_)
  · refine go_bipush rfl ?_
    exact go_iret rfl (Or.inl rfl) ⟨_, rfl, by unfold fe_F; rw [if_neg (by have := rd_n0 c5; omega)], MF.refl h, I⟩
  · refine go_aload_n rfl rfl ?_
    refine go_iload_n rfl rfl ?_
    refine go_iload_n rfl rfl ?_
    refine go_cV2I (M' := m_X7_fewestOf) rfl l_X7_264 k_X7_fewestOf (j_fewestOf I (by have := rd_n1 c5; omega) (by have := rd_n1 c5; omega)) rfl rfl rfl rfl (by decide) (Nat.le_of_ble_eq_true rfl) (fun z11 h11 q11 => ?_) -- X7_fewestOf
    obtain ⟨rfl, F1, -, I1⟩ := q11
    refine go_goto rfl (tgt := 19) (by decide) ?_
    exact go_iret rfl (Or.inl rfl) ⟨_, rfl, by have := rd_n1 c5; unfold fe_F; rw [if_pos (by omega)], F1, I1⟩
def fz_J (S : Int → Prop) (N s w : Int) : Prop := ∀ v, 0 ≤ v → v < N → S v → s < fc v ∨ (fc v = s ∧ w ≤ v)
set_option maxHeartbeats 4000000 in
set_option maxRecDepth 100000 in
theorem lp_X6_fewestIn {g : ab_G} {h0 : ab_H} {n gg s : Int} {Q : Option ab_V → ab_H → Prop} (I : Inv h0) (hm : 0 ≤ h0 1 8 ∧ h0 1 8 ≤ 6) (hg : 1 ≤ gg ∧ gg ≤ 99) (hn : 1 ≤ n ∧ n ≤ 200) (hq : ∀ z h, fw_J (fun w => sv h0 w n gg) (am_n (h0 1 8) + 1) z → WF h0 h → Q (some (a_I z)) h) (K : ∀ h, fz_J (fun w => sv h0 w n gg) (am_n (h0 1 8) + 1) (s + 1) 0 → WF h0 h → ∀ v, Go g (ab_rm 6, 0, 0) m_X6_fewest Q 70 [some (a_R 0), some (a_I n), some (a_I gg), some (a_I (am_n (h0 1 8))), some (a_I s), v] [] h) : ∀ (f : Nat) (w : Int) (h : ab_H), 0 ≤ w → w ≤ am_n (h0 1 8) + 1 → am_n (h0 1 8) + 1 - w < f → fz_J (fun w => sv h0 w n gg) (am_n (h0 1 8) + 1) s w → WF h0 h → Go g (ab_rm 6, 0, 0) m_X6_fewest Q 34 [some (a_R 0), some (a_I n), some (a_I gg), some (a_I (am_n (h0 1 8))), some (a_I s), some (a_I w)] [] h := by
  have am := (am_in hm).1
  intro f
  induction f with
  | zero => intro w h h0w h1 hf; omega
  | succ f ih =>
    intro w h h0w h1 hf J F
    refine go_iload rfl rfl ?_
    refine go_iload_n rfl rfl ?_
    refine go_icmp_gt rfl (tgt := 70) (by decide) (fun c37 => ?_) (fun c37 => ?_)
    · exact K h (fun v v0 v1 vs => by rcases J v v0 v1 vs with y | ⟨y, y2⟩; by_cases e : fc v = s + 1; exact Or.inr ⟨e, v0⟩; exact Or.inl (by omega); omega) F _
    · have hw : 0 ≤ w ∧ w < 64 := by omega
      refine go_iload rfl rfl ?_
      refine go_cS1I (M' := m_J6_bitCount_0f7a4) rfl l_X6_179 k_J6_bitCount_0f7a4 (s_J6_bitCount_0f7a4 hw) rfl (by decide) (Nat.le_of_ble_eq_true rfl) (fun z42 h42 q42 => ?_) -- J6_bitCount_0f7a4
      obtain ⟨rfl, rfl⟩ := q42
      refine go_iload rfl rfl ?_
      refine go_icmp_ne rfl (tgt := 64) (by decide) (fun c47 => ?_) (fun c47 => ?_)
      · refine go_iinc rfl rfl (by decide) rfl (by unfold ab_iok; omega) ?_
        refine go_goto rfl (tgt := 34) (by decide) ?_
        exact ih (w + 1) h (by omega) (by omega) (by omega) (fun v v0 v1 vs => by rcases J v v0 v1 vs with y | ⟨y, y2⟩; exact Or.inl y; by_cases e : v = w; subst e; exact absurd y (fun z => c47 (by rw [bc_num hw]; exact z)); exact Or.inr ⟨y, by omega⟩) F
      · refine go_aload_n rfl rfl ?_
        refine go_iload rfl rfl ?_
        refine go_iload_n rfl rfl ?_
        refine go_iload_n rfl rfl ?_
        refine go_cV3I (M' := m_X6_serve) rfl l_X6_172 k_X6_serve (c_serve (I.wf F) hw (by rw [F 1 (by decide)]; exact (fm_1 hm ⟨h0w, by omega⟩).2) hn hg) rfl rfl rfl rfl (by decide) (Nat.le_of_ble_eq_true rfl) (fun z55 h55 q55 => ?_) -- X6_serve
        obtain ⟨rfl, q55⟩ := q55
        refine go_if_eq rfl (tgt := 64) (by decide) (fun c58 => ?_) (fun c58 => ?_)
        · refine go_iinc rfl rfl (by decide) rfl (by unfold ab_iok; omega) ?_
          refine go_goto rfl (tgt := 34) (by decide) ?_
          exact ih (w + 1) h55 (by omega) (by omega) (by omega) (fun v v0 v1 vs => by rcases J v v0 v1 vs with y | ⟨y, y2⟩; exact Or.inl y; by_cases e : v = w; subst e; exact absurd ((sv_same F.k9 v n gg).mpr vs) (rd_n0 c58); exact Or.inr ⟨y, by omega⟩) (F.trans q55)
        · refine go_iload rfl rfl ?_
          exact go_iret rfl (Or.inl rfl) (hq _ _ (by rw [bc_num hw] at c47; have y := rd_n1 c58; have y : sv h w n gg := y; rw [sv_same F.k9] at y; exact Or.inr ⟨by omega, y, fun v v0 v1 vs => by have := J v v0 v1 vs; unfold fc at this ⊢; omega⟩) (F.trans q55))
set_option maxHeartbeats 4000000 in
set_option maxRecDepth 100000 in
theorem lp_X6_fewest {g : ab_G} {h0 : ab_H} {n gg : Int} {Q : Option ab_V → ab_H → Prop} (I : Inv h0) (hm : 0 ≤ h0 1 8 ∧ h0 1 8 ≤ 6) (hg : 1 ≤ gg ∧ gg ≤ 99) (hn : 1 ≤ n ∧ n ≤ 200) (hq : ∀ z h, fw_J (fun w => sv h0 w n gg) (am_n (h0 1 8) + 1) z → WF h0 h → Q (some (a_I z)) h) : ∀ (f : Nat) (s : Int) (h : ab_H), 0 ≤ s → s ≤ h0 1 8 + 1 → h0 1 8 + 1 - s < f → fz_J (fun w => sv h0 w n gg) (am_n (h0 1 8) + 1) s 0 → WF h0 h → ∀ v, Go g (ab_rm 6, 0, 0) m_X6_fewest Q 19 [some (a_R 0), some (a_I n), some (a_I gg), some (a_I (am_n (h0 1 8))), some (a_I s), v] [] h := by
  have am := (am_in hm).1
  intro f
  induction f with
  | zero => intro s h h0w h1 hf; omega
  | succ f ih =>
    intro s h h0w h1 hf J F v
    refine go_iload rfl rfl ?_
    refine go_aload_n rfl rfl ?_
    refine go_getR rfl f_X6_10 rfl rfl ?_ -- road
    refine go_getI rfl f_X6_176 rfl rfl rfl ?_ -- men
    rw [F 1 (by decide)]
    refine go_icmp_gt rfl (tgt := 76) (by decide) (fun c28 => ?_) (fun c28 => ?_)
    · refine go_iconst rfl ?_
      exact go_iret rfl (Or.inl rfl) (hq _ _ (Or.inl ⟨rfl, fun v v0 v1 vs => by have y := J v v0 v1 vs; have y2 := (fm_1 hm ⟨v0, by omega⟩).1; omega⟩) F)
    · refine go_iconst rfl ?_
      refine go_istore rfl (by decide) rfl ?_
      refine lp_X6_fewestIn I hm hg hn hq (fun h2 J2 F2 v2 => ?_) 100 0 h (by omega) (by omega) (by omega) J F
      refine go_iinc rfl rfl (by decide) rfl (by unfold ab_iok; omega) ?_
      refine go_goto rfl (tgt := 19) (by decide) ?_
      exact ih (s + 1) h2 (by omega) (by omega) (by omega) J2 F2 _
set_option maxHeartbeats 4000000 in
set_option maxRecDepth 100000 in
theorem c_fewest {g : ab_G} {h : ab_H} {n gg : Int} (I : Inv h) : MethI g 6 m_X6_fewest [a_R 0, a_I n, a_I gg] h (fun z h' => z = fe_F h n gg ∧ CF h h' ∧ Inv h') := by
  have r1 := I.ro.1
  refine Meth.of_go k_X6_fewest (Nat.le_of_ble_eq_true rfl) ?_
  show Go g _ m_X6_fewest _ 0 [some (a_R 0), some (a_I n), some (a_I gg), none, none, none] [] h
  refine go_iload_n rfl rfl ?_
  refine go_iload_n rfl rfl ?_
  refine go_cS2I (M' := m_X6_isSpan) rfl l_X6_164 k_X6_isSpan (s_X6_isSpan) rfl (by decide) (Nat.le_of_ble_eq_true rfl) (fun z2 h2 q2 => ?_) -- X6_isSpan
  obtain ⟨rfl, rfl⟩ := q2
  refine go_if_ne rfl (tgt := 11) (by decide) (fun c5 => ?_) (fun c5 => ?_)
  · have y1 := rd_n1 c5
    refine go_aload_n rfl rfl ?_
    refine go_cV0I (M' := m_X6_allMen) rfl l_X6_168 k_X6_allMen (s_X6_allMen r1) rfl rfl rfl rfl (by decide) (Nat.le_of_ble_eq_true rfl) (fun z12 h12 q12 => ?_) -- X6_allMen
    obtain ⟨rfl, rfl⟩ := q12
    refine go_istore_n rfl (by decide) rfl ?_
    refine go_iconst rfl ?_
    refine go_istore rfl (by decide) rfl ?_
    exact lp_X6_fewest I r1 (by omega) (by omega) (fun z h2 J F => ⟨_, rfl, by unfold fe_F fe_n; rw [if_pos (by omega)]; exact fw_eq J, F.cf, I.wf F⟩) 20 0 h (by omega) (by omega) (by omega) (fun v v0 v1 vs => by have y := fc_b (a := v) (by have := (am_in r1).1; omega); omega) (fun _ _ => rfl) _
  · refine go_bipush rfl ?_
    exact go_iret rfl (Or.inl rfl) ⟨_, rfl, by unfold fe_F; rw [if_neg (by have := rd_n0 c5; omega)], CF.refl h, I⟩
theorem op_fewest {g : ab_G} {h : ab_H} {n gg : Int} (I : Inv h) : opI g 6 8 m_X6_fewest m_X7_fewest [a_I n, a_I gg] h := op_q (F := fun h => fe_F h n gg) I (c_fewest I) (fun h I => j_fewest I) (fun h' F => by unfold fe_F; rw [fe_same F.k9])
