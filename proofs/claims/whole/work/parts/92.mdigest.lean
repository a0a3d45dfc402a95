/-! the reference's digest -/
def DM (h0 h : ab_H) : Prop := MF h0 h ∧ MT h0 h ∧ Inv h
theorem DM.k80 {h0 h h' : ab_H} (D : DM h0 h) (e : ∀ k, k ≠ 80 → h' k = h k) : DM h0 h' := by
  have F : MF h h' := ⟨fun k hk => e k (by omega), fun b hb => by rw [e 62 (by decide)]⟩
  refine ⟨D.1.trans F, ⟨?_, ?_, ?_⟩, D.2.2.mf F⟩
  · refine ⟨by rw [e 62 (by decide)]; exact D.2.1.1.1, ?_⟩
    rw [e 75 (by decide), e 76 (by decide), e 77 (by decide)]; exact D.2.1.1.2
  · unfold mtm; rw [e 78 (by decide)]; exact D.2.1.2.1
  · have R := D.2.1.2.2
    refine ⟨by rw [e 62 (by decide), e 1 (by decide)]; exact R.1, ?_⟩
    have e1 : md_ps h' = md_ps h := by unfold md_ps; rw [e 62 (by decide), e 68 (by decide), e 69 (by decide), e 70 (by decide), e 71 (by decide)]
    have e2 : rd_ps h' = rd_ps h := by unfold rd_ps; rw [e 1 (by decide), e 3 (by decide), e 4 (by decide), e 5 (by decide), e 6 (by decide)]
    rw [e1, e2]; exact R.2
theorem DM.lf {h0 h h' : ab_H} (D : DM h0 h) (F : LF h h') : DM h0 h' := ⟨D.1.trans F.mf, F.MT D.2.1, D.2.2.mf F.mf⟩
theorem DM.e9 {h0 h : ab_H} (D : DM h0 h) : h 62 9 = h0 1 8 := D.2.1.1.1.1
theorem DM.e13 {h0 h : ab_H} (D : DM h0 h) : h 62 13 = h0 1 9 := by
  have y : h 62 13 = h 1 9 := D.2.1.2.2.2.2.1
  rw [y, D.1.1 1 (by decide)]
theorem DM.e71 {h0 h : ab_H} (D : DM h0 h) {j : Int} (hj : 0 ≤ j ∧ j < h0 1 9) : h 71 j = h0 6 j := by
  have y : h 71 j = h 6 j := D.2.1.2.2.2.2.2.2 j hj.1 (by show j < h 62 13; rw [D.e13]; exact hj.2)
  rw [y, D.1.1 6 (by decide)]
theorem DM.bm {h0 h : ab_H} (D : DM h0 h) {i k : Int} (hi : 0 ≤ i ∧ i < h0 1 8) : bm_n h i k = bg_n h0 i k := by
  rw [bm_eq D.2.1.2.2 (by rw [D.1.1 1 (by decide)]; exact hi), bg_same D.1.k9]
set_option maxHeartbeats 4000000 in
set_option maxRecDepth 100000 in
theorem lp_X7_d1 {g : ab_G} {h0 : ab_H}  {a0 : Int} {v4 : Option ab_V} {Q : Option ab_V → ab_H → Prop}  (K : ∀ h x, x = fo (S_c h0) 8 a0 → (MF h0 h ∧ Inv h) → ∀ v, Go g (ab_rm 8, 0, 0) m_X7_digest Q 31 [some (a_R 62), some (a_L (x)), none, v, v4] [] h) : ∀ (f : Nat) (k x : Int) (h : ab_H), 0 ≤ k → k ≤ 8 → 8 - k < f → x = fo (S_c h0) k.toNat a0 → (MF h0 h ∧ Inv h) → Go g (ab_rm 8, 0, 0) m_X7_digest Q 6 [some (a_R 62), some (a_L (x)), none, some (a_I k), v4] [] h := by
  intro f
  induction f with
  | zero => intro k x h h0k h1 hf; omega
  | succ f ih =>
    intro k x h h0k h1 hf J D
    refine go_iload_n rfl rfl ?_
    refine go_bipush rfl ?_
    refine go_icmp_ge rfl (tgt := 31) (by decide) (fun c9 => ?_) (fun c9 => ?_)
    · have e : k = 8 := by omega
      subst e
      exact K h x J D _
    · refine go_ldc2 rfl (z := 31) c_X7_283 ?_
      refine go_lload_n rfl rfl ?_
      refine go_lmul rfl ?_
      refine go_aload_n rfl rfl ?_
      refine go_iload_n rfl rfl ?_
      refine go_cV1I (M' := m_X7_count) rfl l_X7_285 k_X7_count (j_count D.2) rfl rfl rfl rfl (by decide) (Nat.le_of_ble_eq_true rfl) (fun z19 h19 q19 => ?_) -- X7_count
      obtain ⟨e_, F2, I2⟩ := q19
      rw [D.1.co] at e_
      subst e_
      have D : MF h0 h19 ∧ Inv h19 := ⟨D.1.trans F2, I2⟩
      refine go_i2l rfl ?_
      refine go_ladd rfl ?_
      refine go_lstore_n rfl (by decide) rfl ?_
      refine go_iinc rfl rfl (by decide) rfl (by unfold ab_iok; omega) ?_
      refine go_goto rfl (tgt := 6) (by decide) ?_
      exact ih (k + 1) _ _ (by omega) (by omega) (by omega) (by rw [fo_nx h0k, ← J]; rfl) D
set_option maxHeartbeats 4000000 in
set_option maxRecDepth 100000 in
theorem lp_X7_d2 {g : ab_G} {h0 : ab_H} {i : Int} {a0 : Int} {Q : Option ab_V → ab_H → Prop} (hi : 0 ≤ i ∧ i < h0 1 8) (hm : h0 1 8 ≤ 6) (K : ∀ h x, x = fo (S_b h0 i) 3 a0 → DM h0 h → ∀ v, Go g (ab_rm 8, 0, 0) m_X7_digest Q 89 [some (a_R 62), some (a_L (x)), none, some (a_I i), v] [] h) : ∀ (f : Nat) (k x : Int) (h : ab_H), 0 ≤ k → k ≤ 3 → 3 - k < f → x = fo (S_b h0 i) k.toNat a0 → DM h0 h → Go g (ab_rm 8, 0, 0) m_X7_digest Q 62 [some (a_R 62), some (a_L (x)), none, some (a_I i), some (a_I k)] [] h := by
  intro f
  induction f with
  | zero => intro k x h h0k h1 hf; omega
  | succ f ih =>
    intro k x h h0k h1 hf J D
    refine go_iload rfl rfl ?_
    refine go_iconst rfl ?_
    refine go_icmp_ge rfl (tgt := 89) (by decide) (fun c65 => ?_) (fun c65 => ?_)
    · have e : k = 3 := by omega
      subst e
      exact K h x J D _
    · refine go_ldc2 rfl (z := 31) c_X7_283 ?_
      refine go_lload_n rfl rfl ?_
      refine go_lmul rfl ?_
      refine go_aload_n rfl rfl ?_
      refine go_iload_n rfl rfl ?_
      refine go_iload rfl rfl ?_
      refine go_cV2I (M' := m_X7_beginsOf) rfl l_X7_146 k_X7_beginsOf (s_X7_beginsOf (by omega)) rfl rfl rfl rfl (by decide) (Nat.le_of_ble_eq_true rfl) (fun z77 h77 q77 => ?_) -- X7_beginsOf
      obtain ⟨e0_, e_⟩ := q77
      subst e0_
      have e_ : _ = bg_n h0 i k := e_.trans (D.bm hi)
      subst e_
      refine go_i2l rfl ?_
      refine go_ladd rfl ?_
      refine go_lstore_n rfl (by decide) rfl ?_
      refine go_iinc rfl rfl (by decide) rfl (by unfold ab_iok; omega) ?_
      refine go_goto rfl (tgt := 62) (by decide) ?_
      exact ih (k + 1) _ _ (by omega) (by omega) (by omega) (by rw [fo_nx h0k, ← J]; rfl) D
set_option maxHeartbeats 4000000 in
set_option maxRecDepth 100000 in
theorem lp_X7_d3 {g : ab_G} {h0 : ab_H} {i : Int} {a0 : Int} {Q : Option ab_V → ab_H → Prop} (hi : 0 ≤ i ∧ i < h0 1 8) (hm : h0 1 8 ≤ 6) (K : ∀ h x, x = fo (S_m h0 i 50) 3 a0 → DM h0 h → ∀ v, Go g (ab_rm 8, 0, 0) m_X7_digest Q 121 [some (a_R 62), some (a_L (x)), none, some (a_I i), v] [] h) : ∀ (f : Nat) (k x : Int) (h : ab_H), 0 ≤ k → k ≤ 3 → 3 - k < f → x = fo (S_m h0 i 50) k.toNat a0 → DM h0 h → Go g (ab_rm 8, 0, 0) m_X7_digest Q 92 [some (a_R 62), some (a_L (x)), none, some (a_I i), some (a_I k)] [] h := by
  intro f
  induction f with
  | zero => intro k x h h0k h1 hf; omega
  | succ f ih =>
    intro k x h h0k h1 hf J D
    refine go_iload rfl rfl ?_
    refine go_iconst rfl ?_
    refine go_icmp_ge rfl (tgt := 121) (by decide) (fun c95 => ?_) (fun c95 => ?_)
    · have e : k = 3 := by omega
      subst e
      exact K h x J D _
    · refine go_ldc2 rfl (z := 31) c_X7_283 ?_
      refine go_lload_n rfl rfl ?_
      refine go_lmul rfl ?_
      refine go_aload_n rfl rfl ?_
      refine go_iload_n rfl rfl ?_
      refine go_bipush rfl ?_
      refine go_iload rfl rfl ?_
      refine go_cV3I (M' := m_X7_manOf) rfl l_X7_199 k_X7_manOf (s_X7_manOf D.2.1.1 (by omega) hi) rfl rfl rfl rfl (by decide) (Nat.le_of_ble_eq_true rfl) (fun z109 h109 q109 => ?_) -- X7_manOf
      obtain ⟨e0_, e_⟩ := q109
      subst e0_
      have e_ : _ = mn_n h0 i 50 k := e_
      subst e_
      refine go_i2l rfl ?_
      refine go_ladd rfl ?_
      refine go_lstore_n rfl (by decide) rfl ?_
      refine go_iinc rfl rfl (by decide) rfl (by unfold ab_iok; omega) ?_
      refine go_goto rfl (tgt := 92) (by decide) ?_
      exact ih (k + 1) _ _ (by omega) (by omega) (by omega) (by rw [fo_nx h0k, ← J]; rfl) D
set_option maxHeartbeats 4000000 in
set_option maxRecDepth 100000 in
theorem lp_X7_d4 {g : ab_G} {h0 : ab_H} {i : Int} {a0 : Int} {Q : Option ab_V → ab_H → Prop} (hi : 0 ≤ i ∧ i < h0 1 8) (hm : h0 1 8 ≤ 6) (K : ∀ h x, x = fo (S_m h0 i 400) 3 a0 → DM h0 h → ∀ v, Go g (ab_rm 8, 0, 0) m_X7_digest Q 154 [some (a_R 62), some (a_L (x)), none, some (a_I i), v] [] h) : ∀ (f : Nat) (k x : Int) (h : ab_H), 0 ≤ k → k ≤ 3 → 3 - k < f → x = fo (S_m h0 i 400) k.toNat a0 → DM h0 h → Go g (ab_rm 8, 0, 0) m_X7_digest Q 124 [some (a_R 62), some (a_L (x)), none, some (a_I i), some (a_I k)] [] h := by
  intro f
  induction f with
  | zero => intro k x h h0k h1 hf; omega
  | succ f ih =>
    intro k x h h0k h1 hf J D
    refine go_iload rfl rfl ?_
    refine go_iconst rfl ?_
    refine go_icmp_ge rfl (tgt := 154) (by decide) (fun c127 => ?_) (fun c127 => ?_)
    · have e : k = 3 := by omega
      subst e
      exact K h x J D _
    · refine go_ldc2 rfl (z := 31) c_X7_283 ?_
      refine go_lload_n rfl rfl ?_
      refine go_lmul rfl ?_
      refine go_aload_n rfl rfl ?_
      refine go_iload_n rfl rfl ?_
      refine go_sipush rfl ?_
      refine go_iload rfl rfl ?_
      refine go_cV3I (M' := m_X7_manOf) rfl l_X7_199 k_X7_manOf (s_X7_manOf D.2.1.1 (by omega) hi) rfl rfl rfl rfl (by decide) (Nat.le_of_ble_eq_true rfl) (fun z142 h142 q142 => ?_) -- X7_manOf
      obtain ⟨e0_, e_⟩ := q142
      subst e0_
      have e_ : _ = mn_n h0 i 400 k := e_
      subst e_
      refine go_i2l rfl ?_
      refine go_ladd rfl ?_
      refine go_lstore_n rfl (by decide) rfl ?_
      refine go_iinc rfl rfl (by decide) rfl (by unfold ab_iok; omega) ?_
      refine go_goto rfl (tgt := 124) (by decide) ?_
      exact ih (k + 1) _ _ (by omega) (by omega) (by omega) (by rw [fo_nx h0k, ← J]; rfl) D
set_option maxHeartbeats 4000000 in
set_option maxRecDepth 100000 in
theorem lp_X7_dm {g : ab_G} {h0 : ab_H} {a0 : Int} {Q : Option ab_V → ab_H → Prop} (h0m : 0 ≤ h0 1 8) (hm : h0 1 8 ≤ 6) (K : ∀ h x, x = fo (S_n h0) (h0 1 8).toNat a0 → DM h0 h → ∀ v v4, Go g (ab_rm 8, 0, 0) m_X7_digest Q 224 [some (a_R 62), some (a_L (x)), none, v, v4] [] h) : ∀ (f : Nat) (i x : Int) (h : ab_H), 0 ≤ i → i ≤ h0 1 8 → h0 1 8 - i < f → x = fo (S_n h0) i.toNat a0 → DM h0 h → ∀ v4, Go g (ab_rm 8, 0, 0) m_X7_digest Q 51 [some (a_R 62), some (a_L (x)), none, some (a_I i), v4] [] h := by
  intro f
  induction f with
  | zero => intro i x h h0i h1 hf; omega
  | succ f ih =>
    intro i x h h0i h1 hf J D v4
    refine go_iload_n rfl rfl ?_
    refine go_aload_n rfl rfl ?_
    refine go_getI rfl f_X7_110 rfl rfl rfl ?_ -- men
    rw [D.e9]
    refine go_icmp_ge rfl (tgt := 224) (by decide) (fun c56 => ?_) (fun c56 => ?_)
    · have e : i = h0 1 8 := by omega
      subst e
      exact K h x J D _ _
    · refine go_iconst rfl ?_
      refine go_istore rfl (by decide) rfl ?_
      have hi : 0 ≤ i ∧ i < h0 1 8 := ⟨h0i, by omega⟩
      refine lp_X7_d2 hi hm (a0 := x) (fun h x2 J2 D v => ?_) 5 0 x h (by omega) (by omega) (by omega) rfl D
      refine go_iconst rfl ?_
      refine go_istore rfl (by decide) rfl ?_
      refine lp_X7_d3 hi hm (a0 := x2) (fun h x3 J3 D v => ?_) 5 0 x2 h (by omega) (by omega) (by omega) rfl D
      refine go_iconst rfl ?_
      refine go_istore rfl (by decide) rfl ?_
      refine lp_X7_d4 hi hm (a0 := x3) (fun h x4 J4 D v => ?_) 5 0 x3 h (by omega) (by omega) (by omega) rfl D
      refine go_ldc2 rfl (z := 31) c_X7_283 ?_
      refine go_lload_n rfl rfl ?_
      refine go_lmul rfl ?_
      refine go_aload_n rfl rfl ?_
      refine go_iload_n rfl rfl ?_
      refine go_bipush rfl ?_
      refine go_cV2I (M' := m_X7_namesOffOf) rfl l_X7_220 k_X7_namesOffOf (j_namesOffOf D.2.2 D.2.1.2.2 (by rw [D.1.1 1 (by decide)]; exact hi) (by omega)) rfl rfl rfl rfl (by decide) (Nat.le_of_ble_eq_true rfl) (fun z163 h163 q163 => ?_) -- X7_namesOffOf
      obtain ⟨e_, E80⟩ := q163
      rw [TA_same D.1.k9] at e_
      subst e_
      have D := D.k80 E80
      refine go_i2l rfl ?_
      refine go_ladd rfl ?_
      refine go_lstore_n rfl (by decide) rfl ?_
      refine go_aload_n rfl rfl ?_
      refine go_getI rfl f_X7_110 rfl rfl rfl ?_ -- men
      rw [D.e9]
      refine go_iconst rfl ?_
      refine go_icmp_le rfl (tgt := 201) (by decide) (fun c174 => ?_) (fun c174 => ?_)
      · refine go_ldc2 rfl (z := 31) c_X7_283 ?_
        refine go_lload_n rfl rfl ?_
        refine go_lmul rfl ?_
        refine go_aload_n rfl rfl ?_
        refine go_iload_n rfl rfl ?_
        refine go_iload_n rfl rfl ?_
        refine go_sipush rfl ?_
        refine go_cV3I (M' := m_X7_carriedOf) rfl l_X7_214 k_X7_carriedOf (s_X7_carriedOf D.2.1.1 hi (by omega)) rfl rfl rfl rfl (by decide) (Nat.le_of_ble_eq_true rfl) (fun z212 h212 q212 => ?_) -- X7_carriedOf
        obtain ⟨e0_, e_⟩ := q212
        subst e0_
        have e_ : _ = cd_n h0 i i 400 := e_
        subst e_
        refine go_i2l rfl ?_
        refine go_ladd rfl ?_
        refine go_lstore_n rfl (by decide) rfl ?_
        refine go_iinc rfl rfl (by decide) rfl (by unfold ab_iok; omega) ?_
        refine go_goto rfl (tgt := 51) (by decide) ?_
        have e3 : S_a3 h0 i x = x4 := by unfold S_a3; rw [← J2, ← J3, ← J4]
        have e5 : S_a5 h0 i x = S_a4 h0 i x := if_neg (by omega)
        exact ih (i + 1) _ _ (by omega) (by omega) (by omega) (by rw [fo_nx h0i, ← J]; unfold S_n; rw [e5]; unfold S_a4; rw [e3]; rfl) D _
      · refine go_ldc2 rfl (z := 31) c_X7_283 ?_
        refine go_lload_n rfl rfl ?_
        refine go_lmul rfl ?_
        refine go_aload_n rfl rfl ?_
        refine go_iload_n rfl rfl ?_
        refine go_iload_n rfl rfl ?_
        refine go_iconst rfl ?_
        refine go_iadd rfl (by unfold ab_iok; omega) ?_
        refine go_aload_n rfl rfl ?_
        refine go_getI rfl f_X7_110 rfl rfl rfl ?_ -- men
        rw [D.e9]
        have en : ab_irem (i + 1) (h0 1 8) = nx_i h0 i := by
          rw [ab_irm (by omega) (by omega)]; unfold nx_i
          split
          · exact Int.emod_eq_of_lt (by omega) (by omega)
          · rw [show i + 1 = h0 1 8 by omega]; exact Int.emod_self
        refine go_irem rfl (by omega) ?_
        rw [en]
        refine go_sipush rfl ?_
        refine go_cV3I (M' := m_X7_metOf) rfl l_X7_208 k_X7_metOf (s_X7_metOf hm D.2.1.2.1 hi (by unfold nx_i; split <;> omega) (by omega)) rfl rfl rfl rfl (by decide) (Nat.le_of_ble_eq_true rfl) (fun z195 h195 q195 => ?_) -- X7_metOf
        obtain ⟨e0_, e_⟩ := q195
        subst e0_
        have e_ : _ = mt_n h0 i (nx_i h0 i) 400 := e_
        subst e_
        refine go_i2l rfl ?_
        refine go_ladd rfl ?_
        refine go_lstore_n rfl (by decide) rfl ?_
        refine go_ldc2 rfl (z := 31) c_X7_283 ?_
        refine go_lload_n rfl rfl ?_
        refine go_lmul rfl ?_
        refine go_aload_n rfl rfl ?_
        refine go_iload_n rfl rfl ?_
        refine go_iload_n rfl rfl ?_
        refine go_sipush rfl ?_
        refine go_cV3I (M' := m_X7_carriedOf) rfl l_X7_214 k_X7_carriedOf (s_X7_carriedOf D.2.1.1 hi (by omega)) rfl rfl rfl rfl (by decide) (Nat.le_of_ble_eq_true rfl) (fun z212 h212 q212 => ?_) -- X7_carriedOf
        obtain ⟨e0_, e_⟩ := q212
        subst e0_
        have e_ : _ = cd_n h0 i i 400 := e_
        subst e_
        refine go_i2l rfl ?_
        refine go_ladd rfl ?_
        refine go_lstore_n rfl (by decide) rfl ?_
        refine go_iinc rfl rfl (by decide) rfl (by unfold ab_iok; omega) ?_
        refine go_goto rfl (tgt := 51) (by decide) ?_
        have e3 : S_a3 h0 i x = x4 := by unfold S_a3; rw [← J2, ← J3, ← J4]
        have e5 : S_a5 h0 i x = dg (S_a4 h0 i x) (mt_n h0 i (nx_i h0 i) 400) := if_pos (by omega)
        exact ih (i + 1) _ _ (by omega) (by omega) (by omega) (by rw [fo_nx h0i, ← J]; unfold S_n; rw [e5]; unfold S_a4; rw [e3]; rfl) D _
set_option maxHeartbeats 4000000 in
set_option maxRecDepth 100000 in
theorem lp_X7_dh {g : ab_G} {h0 : ab_H} {a0 : Int} {v4 : Option ab_V} {Q : Option ab_V → ab_H → Prop} (hm : 0 ≤ h0 1 9 ∧ h0 1 9 ≤ 6) (hl : h0 1 7 ≤ 40) (hH : ∀ i, 0 ≤ i → i < h0 1 9 → 0 ≤ h0 6 i ∧ h0 6 i ≤ h0 1 7) (hP : tb_pm (h0 1 8) (TW h0)) (K : ∀ h x, x = fo (S_h h0) (h0 1 9).toNat a0 → DM h0 h → ∀ v, Go g (ab_rm 8, 0, 0) m_X7_digest Q 291 [some (a_R 62), some (a_L (x)), none, v, v4] [] h) : ∀ (f : Nat) (j x : Int) (h : ab_H), 0 ≤ j → j ≤ h0 1 9 → h0 1 9 - j < f → x = fo (S_h h0) j.toNat a0 → DM h0 h → Go g (ab_rm 8, 0, 0) m_X7_digest Q 226 [some (a_R 62), some (a_L (x)), none, some (a_I j), v4] [] h := by
  intro f
  induction f with
  | zero => intro j x h h0j h1 hf; omega
  | succ f ih =>
    intro j x h h0j h1 hf J D
    refine go_iload_n rfl rfl ?_
    refine go_aload_n rfl rfl ?_
    refine go_getI rfl f_X7_113 rfl rfl rfl ?_ -- houses
    rw [D.e13]
    refine go_icmp_ge rfl (tgt := 291) (by decide) (fun c231 => ?_) (fun c231 => ?_)
    · have e : j = h0 1 9 := by omega
      subst e
      exact K h x J D _
    · have hj : 0 ≤ j ∧ j < h0 1 9 := ⟨h0j, by omega⟩
      refine go_ldc2 rfl (z := 31) c_X7_283 ?_
      refine go_lload_n rfl rfl ?_
      refine go_lmul rfl ?_
      refine go_aload_n rfl rfl ?_
      refine go_getR rfl f_X7_34 rfl rfl ?_ -- housePace
      refine go_iload_n rfl rfl ?_
      refine go_iald rfl rfl (by omega) (by omega) ?_
      rw [D.e71 hj]
      refine go_i2l rfl ?_
      refine go_ladd rfl ?_
      refine go_lstore_n rfl (by decide) rfl ?_
      refine go_aload_n rfl rfl ?_
      refine go_iconst rfl ?_
      refine go_bipush rfl ?_
      refine go_aload_n rfl rfl ?_
      refine go_getR rfl f_X7_34 rfl rfl ?_ -- housePace
      refine go_iload_n rfl rfl ?_
      refine go_iald rfl rfl (by omega) (by omega) ?_
      rw [D.e71 hj]
      refine go_cV3V (M' := m_X7_findLetter) rfl l_X7_243 k_X7_findLetter (s_X7_findLetter (p := 0) (u := 9) (q := h0 6 j) D.2.1.1 hP (by omega) (by omega) (by have := hH j hj.1 hj.2; omega)) rfl rfl rfl rfl (by decide) (Nat.le_of_ble_eq_true rfl) (fun h258 q258 => ?_) -- X7_findLetter
      obtain ⟨k1, k2, F3⟩ := q258
      have D := D.lf F3
      refine go_ldc2 rfl (z := 31) c_X7_283 ?_
      refine go_lload_n rfl rfl ?_
      refine go_lmul rfl ?_
      refine go_aload_n rfl rfl ?_
      refine go_getI rfl f_X7_229 rfl rfl rfl ?_ -- letterBag
      rw [k1]
      refine go_i2l rfl ?_
      refine go_ladd rfl ?_
      refine go_lstore_n rfl (by decide) rfl ?_
      refine go_ldc2 rfl (z := 31) c_X7_283 ?_
      refine go_lload_n rfl rfl ?_
      refine go_lmul rfl ?_
      refine go_aload_n rfl rfl ?_
      refine go_getI rfl f_X7_232 rfl rfl rfl ?_ -- letterTime
      rw [k2]
      refine go_i2l rfl ?_
      refine go_ladd rfl ?_
      refine go_lstore_n rfl (by decide) rfl ?_
      refine go_iinc rfl rfl (by decide) rfl (by unfold ab_iok; omega) ?_
      refine go_goto rfl (tgt := 226) (by decide) ?_
      exact ih (j + 1) _ _ (by omega) (by omega) (by omega) (by rw [fo_nx h0j, ← J]; rfl) D
set_option maxHeartbeats 4000000 in
set_option maxRecDepth 100000 in
theorem j_digest {g : ab_G} {h0 : ab_H} (I0 : Inv h0) : MethL g 8 m_X7_digest [a_R 62] h0 (fun z h' => z = D_F h0 ∧ MF h0 h' ∧ Inv h') := by
  have r1 := I0.ro.1
  have l1 := I0.ro.2.1
  refine Meth.of_go k_X7_digest (Nat.le_of_ble_eq_true rfl) ?_
  show Go g _ m_X7_digest _ 0 [some (a_R 62), none, none, none, none] [] h0
  refine go_ldc2 rfl (z := 17) c_X7_281 ?_
  refine go_lstore_n rfl (by decide) rfl ?_
  refine go_iconst rfl ?_
  refine go_istore_n rfl (by decide) rfl ?_
  refine lp_X7_d1 (h0 := h0) (a0 := 17) (fun h x1 J1 D v => ?_) 10 0 17 h0 (by omega) (by omega) (by omega) rfl ⟨MF.refl h0, I0⟩
  refine go_ldc2 rfl (z := 31) c_X7_283 ?_
  refine go_lload_n rfl rfl ?_
  refine go_lmul rfl ?_
  refine go_aload_n rfl rfl ?_
  refine go_cV0I (M' := m_X7_reads) rfl l_X7_140 k_X7_reads (j_reads D.2) rfl rfl rfl rfl (by decide) (Nat.le_of_ble_eq_true rfl) (fun z37 h37 q37 => ?_) -- X7_reads
  obtain ⟨e_, F1, R1, I1⟩ := q37
  rw [D.1.k9 1 (by omega)] at e_
  subst e_
  have F1 := D.1.trans F1.mf
  refine go_i2l rfl ?_
  refine go_ladd rfl ?_
  refine go_lstore_n rfl (by decide) rfl ?_
  refine go_aload_n rfl rfl ?_
  refine go_bipush rfl ?_
  refine go_cV1V (M' := m_X7_runs) rfl l_X7_190 k_X7_runs (j_runs I1 R1 (w := 63) (by decide)) rfl rfl rfl rfl (by decide) (Nat.le_of_ble_eq_true rfl) (fun h46 q46 => ?_) -- X7_runs
  obtain ⟨F2, R2, T1, T2, I2⟩ := q46
  have D : DM h0 h46 := ⟨F1.trans F2, MT_same F1.k9 ⟨T1, T2, R2⟩, I2⟩
  refine go_iconst rfl ?_
  refine go_istore_n rfl (by decide) rfl ?_
  refine lp_X7_dm r1.1 r1.2 (a0 := D_1 h0) (fun h x2 J2 D v v4 => ?_) 8 0 _ _ (by omega) r1.1 (by omega) (show _ = D_1 h0 by unfold D_1; rw [← J1]; rfl) D _
  refine go_iconst rfl ?_
  refine go_istore_n rfl (by decide) rfl ?_
  refine lp_X7_dh I0.hs.1 l1.2 I0.hs.2 (TW_pm I0) (a0 := D_2 h0) (fun h x3 J3 D v => ?_) 8 0 x2 h (by omega) I0.hs.1.1 (by have := I0.hs.1; omega) J2 D
  refine go_ldc2 rfl (z := 31) c_X7_283 ?_
  refine go_lload_n rfl rfl ?_
  refine go_lmul rfl ?_
  refine go_aload_n rfl rfl ?_
  refine go_sipush rfl ?_
  refine go_cV1I (M' := m_X7_meetingsOf) rfl l_X7_211 k_X7_meetingsOf (s_X7_meetingsOf r1 D.e9 D.2.1.2.1 (by omega)) rfl rfl rfl rfl (by decide) (Nat.le_of_ble_eq_true rfl) (fun z300 h300 q300 => ?_) -- X7_meetingsOf
  obtain ⟨e0_, e_⟩ := q300
  subst e0_
  have e_ : _ = ms_n h0 400 := e_.trans ms_swap.symm
  subst e_
  refine go_i2l rfl ?_
  refine go_ladd rfl ?_
  refine go_lstore_n rfl (by decide) rfl ?_
  refine go_ldc2 rfl (z := 31) c_X7_283 ?_
  refine go_lload_n rfl rfl ?_
  refine go_lmul rfl ?_
  refine go_aload_n rfl rfl ?_
  refine go_sipush rfl ?_
  refine go_cV1I (M' := m_X7_isTrueOf) rfl l_X7_223 k_X7_isTrueOf (j_isTrueOf D.2.2 (D.2.1.self D.1) (by omega)) rfl rfl rfl rfl (by decide) (Nat.le_of_ble_eq_true rfl) (fun z315 h315 q315 => ?_) -- X7_isTrueOf
  obtain ⟨e_, E80⟩ := q315
  rw [tr_same D.1.k9] at e_
  subst e_
  have D := D.k80 E80
  refine go_i2l rfl ?_
  refine go_ladd rfl ?_
  refine go_lstore_n rfl (by decide) rfl ?_
  refine go_ldc2 rfl (z := 31) c_X7_283 ?_
  refine go_lload_n rfl rfl ?_
  refine go_lmul rfl ?_
  refine go_aload_n rfl rfl ?_
  refine go_cV0I (M' := m_X7_againNow) rfl l_X7_226 k_X7_againNow (s_X7_againNow D.2.1.1) rfl rfl rfl rfl (by decide) (Nat.le_of_ble_eq_true rfl) (fun z327 h327 q327 => ?_) -- X7_againNow
  obtain ⟨e0_, e_⟩ := q327
  subst e0_
  have e_ : _ = ag_F h0 := e_
  subst e_
  refine go_i2l rfl ?_
  refine go_ladd rfl ?_
  refine go_lstore_n rfl (by decide) rfl ?_
  refine go_ldc2 rfl (z := 31) c_X7_283 ?_
  refine go_lload_n rfl rfl ?_
  refine go_lmul rfl ?_
  refine go_aload_n rfl rfl ?_
  refine go_iconst rfl ?_
  refine go_sipush rfl ?_
  refine go_iconst rfl ?_
  refine go_cV3I (M' := m_X7_giveInOf) rfl l_X7_247 k_X7_giveInOf (j_giveInOf D.2.2 (D.2.1.self D.1) (by omega) (by omega)) rfl rfl rfl rfl (by decide) (Nat.le_of_ble_eq_true rfl) (fun z344 h344 q344 => ?_) -- X7_giveInOf
  obtain ⟨e_, F3⟩ := q344
  rw [gvr_same D.1.k9] at e_
  subst e_
  have D := D.lf F3
  refine go_i2l rfl ?_
  refine go_ladd rfl ?_
  refine go_lstore_n rfl (by decide) rfl ?_
  refine go_ldc2 rfl (z := 31) c_X7_283 ?_
  refine go_lload_n rfl rfl ?_
  refine go_lmul rfl ?_
  refine go_aload_n rfl rfl ?_
  refine go_iconst rfl ?_
  refine go_sipush rfl ?_
  refine go_iconst rfl ?_
  refine go_cV3I (M' := m_X7_giveInOf) rfl l_X7_247 k_X7_giveInOf (j_giveInOf D.2.2 (D.2.1.self D.1) (by omega) (by omega)) rfl rfl rfl rfl (by decide) (Nat.le_of_ble_eq_true rfl) (fun z361 h361 q361 => ?_) -- X7_giveInOf
  obtain ⟨e_, F3⟩ := q361
  rw [gvr_same D.1.k9] at e_
  subst e_
  have D := D.lf F3
  refine go_i2l rfl ?_
  refine go_ladd rfl ?_
  refine go_lstore_n rfl (by decide) rfl ?_
  refine go_ldc2 rfl (z := 31) c_X7_283 ?_
  refine go_lload_n rfl rfl ?_
  refine go_lmul rfl ?_
  refine go_aload_n rfl rfl ?_
  refine go_bipush rfl ?_
  refine go_bipush rfl ?_
  refine go_cV2I (M' := m_X7_servedOf) rfl l_X7_258 k_X7_servedOf (j_servedOf D.2.2 (by omega) (by omega)) rfl rfl rfl rfl (by decide) (Nat.le_of_ble_eq_true rfl) (fun z377 h377 q377 => ?_) -- X7_servedOf
  obtain ⟨e_, F4, T4, I4⟩ := q377
  rw [sv_same D.1.k9] at e_
  subst e_
  have D : DM h0 h377 := ⟨D.1.trans F4, MT_same D.1.k9 T4, I4⟩
  refine go_i2l rfl ?_
  refine go_ladd rfl ?_
  refine go_lstore_n rfl (by decide) rfl ?_
  refine go_ldc2 rfl (z := 31) c_X7_283 ?_
  refine go_lload_n rfl rfl ?_
  refine go_lmul rfl ?_
  refine go_aload_n rfl rfl ?_
  refine go_bipush rfl ?_
  refine go_bipush rfl ?_
  refine go_cV2I (M' := m_X7_fewestOf) rfl l_X7_264 k_X7_fewestOf (j_fewestOf D.2.2 (by omega) (by omega)) rfl rfl rfl rfl (by decide) (Nat.le_of_ble_eq_true rfl) (fun z393 h393 q393 => ?_) -- X7_fewestOf
  obtain ⟨e_, F5, R5, I5⟩ := q393
  rw [fe_same D.1.k9] at e_
  subst e_
  have D2 : MF h0 h393 ∧ Inv h393 := ⟨D.1.trans F5, I5⟩
  refine go_i2l rfl ?_
  refine go_ladd rfl ?_
  refine go_lstore_n rfl (by decide) rfl ?_
  refine go_aload_n rfl rfl ?_
  refine go_cV0V (M' := m_X7_find) rfl l_X7_196 k_X7_find (j_find D2.2) rfl rfl rfl rfl (by decide) (Nat.le_of_ble_eq_true rfl) (fun h400 q400 => ?_) -- X7_find
  obtain ⟨F3, T3, I3⟩ := q400
  have T3 := MT_same D2.1.k9 T3
  have FF := D2.1.trans F3
  refine go_ldc2 rfl (z := 31) c_X7_283 ?_
  refine go_lload_n rfl rfl ?_
  refine go_lmul rfl ?_
  refine go_aload_n rfl rfl ?_
  refine go_cV0I (M' := m_X7_lateOf) rfl l_X7_278 k_X7_lateOf (s_X7_lateOf T3.1 (TW_pm I0) I3.2.2.2.1) rfl rfl rfl rfl (by decide) (Nat.le_of_ble_eq_true rfl) (fun z409 h409 q409 => ?_) -- X7_lateOf
  obtain ⟨e_, F6⟩ := q409
  have e_ : _ = la_F h0 := e_.trans (by unfold la_F; rw [FF.1 25 (by decide), FF.1 26 (by decide), FF.1 27 (by decide), FF.1 28 (by decide), FF.1 24 (by decide)])
  subst e_
  refine go_i2l rfl ?_
  refine go_ladd rfl ?_
  exact go_lret rfl rfl ⟨_, rfl, by unfold D_F D_3; rw [← J3]; rfl, FF.trans F6.mf, I3.mf F6.mf⟩
