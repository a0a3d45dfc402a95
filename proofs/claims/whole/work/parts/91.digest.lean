/-! digest -/
def dg (a x : Int) : Int := ab_ladd (ab_lmul 31 a) x
def fo (S : Int → Int → Int) : Nat → Int → Int
  | 0, a => a
  | n + 1, a => S n (fo S n a)
theorem fo_nx {S : Int → Int → Int} {i a : Int} (hi : 0 ≤ i) : fo S (i + 1).toNat a = S i (fo S i.toNat a) := by
  rw [show (i + 1).toNat = i.toNat + 1 by omega, fo, Int.toNat_of_nonneg hi]
def S_c (h : ab_H) (k a : Int) : Int := dg a (co_F h k)
def S_b (h : ab_H) (i k a : Int) : Int := dg a (bg_n h i k)
noncomputable def S_m (h : ab_H) (i t k a : Int) : Int := dg a (mn_n h i t k)
def nx_i (h : ab_H) (i : Int) : Int := if i + 1 < h 1 8 then i + 1 else 0
noncomputable def S_a3 (h : ab_H) (i a : Int) : Int := fo (S_m h i 400) 3 (fo (S_m h i 50) 3 (fo (S_b h i) 3 a))
noncomputable def S_a4 (h : ab_H) (i a : Int) : Int := dg (S_a3 h i a) (TA h 77 i)
noncomputable def S_a5 (h : ab_H) (i a : Int) : Int := if 2 ≤ h 1 8 then dg (S_a4 h i a) (mt_n h i (nx_i h i) 400) else S_a4 h i a
noncomputable def S_n (h : ab_H) (i a : Int) : Int := dg (S_a5 h i a) (cd_n h i i 400)
noncomputable def S_h (h : ab_H) (j a : Int) : Int := dg (dg (dg a (h 6 j)) (tb_lb (h 1 8) (TW h) 0 9)) (tb_lt (h 1 8) (TW h) 0 9 (h 6 j))
noncomputable def D_1 (h : ab_H) : Int := dg (fo (S_c h) 8 17) (h 1 6)
noncomputable def D_2 (h : ab_H) : Int := fo (S_n h) (h 1 8).toNat (D_1 h)
noncomputable def D_3 (h : ab_H) : Int := fo (S_h h) (h 1 9).toNat (D_2 h)
noncomputable def D_F (h : ab_H) : Int := dg (dg (dg (dg (dg (dg (dg (dg (D_3 h) (ms_n h 400)) (rd_bool (tr_P h 400))) (ag_F h)) (gv_r h 0 200 0)) (gv_r h 0 200 1)) (rd_bool (sv h 63 60 20))) (fe_n h 60 20)) (la_F h)
section DS
variable {h h' : ab_H}
theorem mn_same (e : ∀ k, (1 ≤ k ∧ k ≤ 9) → h' k = h k) (i t w : Int) : mn_n h' i t w = mn_n h i t w := by unfold mn_n TW; rw [tW_same e]
theorem mt_same (e : ∀ k, (1 ≤ k ∧ k ≤ 9) → h' k = h k) (a b T : Int) : mt_n h' a b T = mt_n h a b T := by unfold mt_n TM; rw [tM_same e]
theorem cd_same (e : ∀ k, (1 ≤ k ∧ k ≤ 9) → h' k = h k) (i b T : Int) : cd_n h' i b T = cd_n h i b T := by unfold cd_n TW; rw [tW_same e]
theorem ms_same (e : ∀ k, (1 ≤ k ∧ k ≤ 9) → h' k = h k) (T : Int) : ms_n h' T = ms_n h T := by unfold ms_n TM; rw [tM_same e, e 1 (by omega)]
theorem tr_same (e : ∀ k, (1 ≤ k ∧ k ≤ 9) → h' k = h k) (T : Int) : tr_P h' T = tr_P h T := by unfold tr_P TW; simp only [TA_same e, tW_same e, e 1 (by omega)]
theorem ag_same (e : ∀ k, (1 ≤ k ∧ k ≤ 9) → h' k = h k) : ag_F h' = ag_F h := by
  have : ag_P h' = ag_P h := by funext t; unfold ag_P TW; rw [tW_same e, e 1 (by omega)]
  unfold ag_F
  rw [this]
theorem la_same (e : ∀ k, (1 ≤ k ∧ k ≤ 9) → h' k = h k) (e2 : ∀ k, (25 ≤ k ∧ k ≤ 28) → h' k = h k) (e5 : h' 24 5 = h 24 5) : la_F h' = la_F h := by
  unfold la_F TW
  rw [tW_same e, e 1 (by omega), e2 25 (by omega), e2 26 (by omega), e2 27 (by omega), e2 28 (by omega), e5]
theorem CF.la (F : CF h h') : la_F h' = la_F h := la_same F.k9 (fun k hk => F.1 k (by omega)) (F.2.2 5 (by decide))
theorem MF.la (F : MF h h') : la_F h' = la_F h := la_same F.k9 (fun k hk => F.1 k (by omega)) (by rw [F.1 24 (by decide)])
theorem CF.co (F : CF h h') (w : Int) : co_F h' w = co_F h w := co_same F.k9 (F.2.1 7 (by decide)) (F.2.2 5 (by decide)) w
theorem MF.co (F : MF h h') (w : Int) : co_F h' w = co_F h w := co_same F.k9 (by rw [F.1 0 (by decide)]) (by rw [F.1 24 (by decide)]) w
-- the class's answers as they stand in it
theorem x_bg (F : CF h h') {i k : Int} (hi : 0 ≤ i ∧ i < h 1 8) (hk : 0 ≤ k ∧ k ≤ 2) : bg_F h' i k = bg_n h i k := by rw [bgF_same F.k9]; unfold bg_F; rw [if_pos ⟨hi, hk⟩]
theorem x_mn (F : CF h h') {i t k : Int} (hi : 0 ≤ i ∧ i < h 1 8) (ht : 0 ≤ t ∧ t ≤ 400) (hk : 0 ≤ k ∧ k ≤ 2) : mn_F h' i t k = mn_n h i t k := by unfold mn_F; rw [F.k9 1 (by omega), if_pos ⟨hi, ht, hk⟩, mn_same F.k9]
theorem x_no (F : CF h h') {i t : Int} (hi : 0 ≤ i ∧ i < h 1 8) (ht : 0 ≤ t ∧ t ≤ 400) : no_F h' i t = TA h t i := by unfold no_F; rw [F.k9 1 (by omega), if_pos ⟨hi, ht⟩, TA_same F.k9]
theorem x_mt (F : CF h h') {a b : Int} (ha : 0 ≤ a ∧ a < h 1 8) (hb : 0 ≤ b ∧ b < h 1 8) (hn : a ≠ b) : mt_F h' a b 400 = mt_n h a b 400 := by unfold mt_F; rw [F.k9 1 (by omega), if_pos ⟨ha, hb, hn, by omega⟩, mt_same F.k9]
theorem x_cd (F : CF h h') {a b : Int} (ha : 0 ≤ a ∧ a < h 1 8) (hb : 0 ≤ b ∧ b < h 1 8) : cd_F h' a b 400 = cd_n h a b 400 := by unfold cd_F; rw [F.k9 1 (by omega), if_pos ⟨ha, hb, by omega⟩, cd_same F.k9]
theorem x_hs (F : CF h h') {j : Int} (hj : 0 ≤ j ∧ j < h 1 9) : hs_F h' j = h 6 j := by rw [hsF_same F.k9]; unfold hs_F; rw [if_pos hj]
theorem x_lb (F : CF h h') {q : Int} (hq : 0 ≤ q ∧ q ≤ h 1 7) : le_F h' 0 9 q 0 = tb_lb (h 1 8) (TW h) 0 9 := by unfold le_F TW; rw [tW_same F.k9, F.k9 1 (by omega), if_pos (by omega), if_pos rfl]
theorem x_lt (F : CF h h') {q : Int} (hq : 0 ≤ q ∧ q ≤ h 1 7) : le_F h' 0 9 q 1 = tb_lt (h 1 8) (TW h) 0 9 q := by unfold le_F TW; rw [tW_same F.k9, F.k9 1 (by omega), if_pos (by omega), if_neg (by decide)]
theorem x_ms (F : CF h h') : ms_F h' 400 = ms_n h 400 := by unfold ms_F; rw [if_pos (by omega), ms_same F.k9]
theorem x_tr (F : CF h h') : tr_F h' 400 = rd_bool (tr_P h 400) := by unfold tr_F; rw [if_pos (by omega), tr_same F.k9]
theorem x_gv (F : CF h h') (hl : 1 ≤ h 1 7) {w : Int} (hw : 0 ≤ w ∧ w ≤ 1) : gv_F h' 0 200 w = gv_r h 0 200 w := by unfold gv_F; rw [F.k9 1 (by omega), if_pos (by omega), gvr_same F.k9]
theorem x_sv (F : CF h h') : sv_F h' 60 20 = rd_bool (sv h 63 60 20) := by unfold sv_F; rw [if_pos (by omega), sv_same F.k9]
theorem x_fe (F : CF h h') : fe_F h' 60 20 = fe_n h 60 20 := by unfold fe_F; rw [if_pos (by omega), fe_same F.k9]
end DS
set_option maxHeartbeats 4000000 in
set_option maxRecDepth 100000 in
theorem lp_X6_d1 {g : ab_G} {h0 : ab_H}  {a0 : Int} {v4 : Option ab_V} {Q : Option ab_V → ab_H → Prop}  (K : ∀ h x, x = fo (S_c h0) 8 a0 → CF h0 h → Inv h → ∀ v, Go g (ab_rm 8, 0, 0) m_X6_digest Q 31 [some (a_R 0), some (a_L (x)), none, v, v4] [] h) : ∀ (f : Nat) (k x : Int) (h : ab_H), 0 ≤ k → k ≤ 8 → 8 - k < f → x = fo (S_c h0) k.toNat a0 → CF h0 h → Inv h → Go g (ab_rm 8, 0, 0) m_X6_digest Q 6 [some (a_R 0), some (a_L (x)), none, some (a_I k), v4] [] h := by
  intro f
  induction f with
  | zero => intro k x h h0k h1 hf; omega
  | succ f ih =>
    intro k x h h0k h1 hf J F I
    refine go_iload_n rfl rfl ?_
    refine go_bipush rfl ?_
    refine go_icmp_gt rfl (tgt := 31) (by decide) (fun c9 => ?_) (fun c9 => ?_)
    · have e : k = 8 := by omega
      subst e
      exact K h x J F I _
    · refine go_ldc2 rfl (z := 31) c_X6_270 ?_
      refine go_lload_n rfl rfl ?_
      refine go_lmul rfl ?_
      refine go_aload_n rfl rfl ?_
      refine go_iload_n rfl rfl ?_
      refine go_cV1I (M' := m_X6_count) rfl l_X6_272 k_X6_count (c_count I) rfl rfl rfl rfl (by decide) (Nat.le_of_ble_eq_true rfl) (fun z19 h19 q19 => ?_) -- X6_count
      obtain ⟨e_, F2, I2⟩ := q19
      rw [F.co] at e_
      subst e_
      have F := F.trans F2
      have I := I2
      refine go_i2l rfl ?_
      refine go_ladd rfl ?_
      refine go_lstore_n rfl (by decide) rfl ?_
      refine go_iinc rfl rfl (by decide) rfl (by unfold ab_iok; omega) ?_
      refine go_goto rfl (tgt := 6) (by decide) ?_
      exact ih (k + 1) _ _ (by omega) (by omega) (by omega) (by rw [fo_nx h0k, ← J]; rfl) F I
set_option maxHeartbeats 4000000 in
set_option maxRecDepth 100000 in
theorem lp_X6_d2 {g : ab_G} {h0 : ab_H} {i : Int} {a0 : Int} {Q : Option ab_V → ab_H → Prop} (hi : 0 ≤ i ∧ i < h0 1 8) (K : ∀ h x, x = fo (S_b h0 i) 3 a0 → CF h0 h → Inv h → ∀ v, Go g (ab_rm 8, 0, 0) m_X6_digest Q 86 [some (a_R 0), some (a_L (x)), none, some (a_I i), v] [] h) : ∀ (f : Nat) (k x : Int) (h : ab_H), 0 ≤ k → k ≤ 3 → 3 - k < f → x = fo (S_b h0 i) k.toNat a0 → CF h0 h → Inv h → Go g (ab_rm 8, 0, 0) m_X6_digest Q 59 [some (a_R 0), some (a_L (x)), none, some (a_I i), some (a_I k)] [] h := by
  intro f
  induction f with
  | zero => intro k x h h0k h1 hf; omega
  | succ f ih =>
    intro k x h h0k h1 hf J F I
    refine go_iload rfl rfl ?_
    refine go_iconst rfl ?_
    refine go_icmp_gt rfl (tgt := 86) (by decide) (fun c62 => ?_) (fun c62 => ?_)
    · have e : k = 3 := by omega
      subst e
      exact K h x J F I _
    · refine go_ldc2 rfl (z := 31) c_X6_270 ?_
      refine go_lload_n rfl rfl ?_
      refine go_lmul rfl ?_
      refine go_aload_n rfl rfl ?_
      refine go_iload_n rfl rfl ?_
      refine go_iload rfl rfl ?_
      refine go_cV2I (M' := m_X6_begins) rfl l_X6_277 k_X6_begins (s_X6_begins I) rfl rfl rfl rfl (by decide) (Nat.le_of_ble_eq_true rfl) (fun z74 h74 q74 => ?_) -- X6_begins
      obtain ⟨e0_, e_⟩ := q74
      subst e0_
      rw [x_bg F hi (by omega)] at e_
      subst e_
      refine go_i2l rfl ?_
      refine go_ladd rfl ?_
      refine go_lstore_n rfl (by decide) rfl ?_
      refine go_iinc rfl rfl (by decide) rfl (by unfold ab_iok; omega) ?_
      refine go_goto rfl (tgt := 59) (by decide) ?_
      exact ih (k + 1) _ _ (by omega) (by omega) (by omega) (by rw [fo_nx h0k, ← J]; rfl) F I
set_option maxHeartbeats 4000000 in
set_option maxRecDepth 100000 in
theorem lp_X6_d3 {g : ab_G} {h0 : ab_H} {i : Int} {a0 : Int} {Q : Option ab_V → ab_H → Prop} (hi : 0 ≤ i ∧ i < h0 1 8) (K : ∀ h x, x = fo (S_m h0 i 50) 3 a0 → CF h0 h → Inv h → ∀ v, Go g (ab_rm 8, 0, 0) m_X6_digest Q 118 [some (a_R 0), some (a_L (x)), none, some (a_I i), v] [] h) : ∀ (f : Nat) (k x : Int) (h : ab_H), 0 ≤ k → k ≤ 3 → 3 - k < f → x = fo (S_m h0 i 50) k.toNat a0 → CF h0 h → Inv h → Go g (ab_rm 8, 0, 0) m_X6_digest Q 89 [some (a_R 0), some (a_L (x)), none, some (a_I i), some (a_I k)] [] h := by
  intro f
  induction f with
  | zero => intro k x h h0k h1 hf; omega
  | succ f ih =>
    intro k x h h0k h1 hf J F I
    refine go_iload rfl rfl ?_
    refine go_iconst rfl ?_
    refine go_icmp_gt rfl (tgt := 118) (by decide) (fun c92 => ?_) (fun c92 => ?_)
    · have e : k = 3 := by omega
      subst e
      exact K h x J F I _
    · refine go_ldc2 rfl (z := 31) c_X6_270 ?_
      refine go_lload_n rfl rfl ?_
      refine go_lmul rfl ?_
      refine go_aload_n rfl rfl ?_
      refine go_iload_n rfl rfl ?_
      refine go_bipush rfl ?_
      refine go_iload rfl rfl ?_
      refine go_cV3I (M' := m_X6_man) rfl l_X6_280 k_X6_man (c_man I) rfl rfl rfl rfl (by decide) (Nat.le_of_ble_eq_true rfl) (fun z106 h106 q106 => ?_) -- X6_man
      obtain ⟨e_, F2, I2⟩ := q106
      rw [x_mn F hi (by omega) (by omega)] at e_
      subst e_
      have F := F.trans F2
      have I := I2
      refine go_i2l rfl ?_
      refine go_ladd rfl ?_
      refine go_lstore_n rfl (by decide) rfl ?_
      refine go_iinc rfl rfl (by decide) rfl (by unfold ab_iok; omega) ?_
      refine go_goto rfl (tgt := 89) (by decide) ?_
      exact ih (k + 1) _ _ (by omega) (by omega) (by omega) (by rw [fo_nx h0k, ← J]; rfl) F I
set_option maxHeartbeats 4000000 in
set_option maxRecDepth 100000 in
theorem lp_X6_d4 {g : ab_G} {h0 : ab_H} {i : Int} {a0 : Int} {Q : Option ab_V → ab_H → Prop} (hi : 0 ≤ i ∧ i < h0 1 8) (K : ∀ h x, x = fo (S_m h0 i 400) 3 a0 → CF h0 h → Inv h → ∀ v, Go g (ab_rm 8, 0, 0) m_X6_digest Q 151 [some (a_R 0), some (a_L (x)), none, some (a_I i), v] [] h) : ∀ (f : Nat) (k x : Int) (h : ab_H), 0 ≤ k → k ≤ 3 → 3 - k < f → x = fo (S_m h0 i 400) k.toNat a0 → CF h0 h → Inv h → Go g (ab_rm 8, 0, 0) m_X6_digest Q 121 [some (a_R 0), some (a_L (x)), none, some (a_I i), some (a_I k)] [] h := by
  intro f
  induction f with
  | zero => intro k x h h0k h1 hf; omega
  | succ f ih =>
    intro k x h h0k h1 hf J F I
    refine go_iload rfl rfl ?_
    refine go_iconst rfl ?_
    refine go_icmp_gt rfl (tgt := 151) (by decide) (fun c124 => ?_) (fun c124 => ?_)
    · have e : k = 3 := by omega
      subst e
      exact K h x J F I _
    · refine go_ldc2 rfl (z := 31) c_X6_270 ?_
      refine go_lload_n rfl rfl ?_
      refine go_lmul rfl ?_
      refine go_aload_n rfl rfl ?_
      refine go_iload_n rfl rfl ?_
      refine go_sipush rfl ?_
      refine go_iload rfl rfl ?_
      refine go_cV3I (M' := m_X6_man) rfl l_X6_280 k_X6_man (c_man I) rfl rfl rfl rfl (by decide) (Nat.le_of_ble_eq_true rfl) (fun z139 h139 q139 => ?_) -- X6_man
      obtain ⟨e_, F2, I2⟩ := q139
      rw [x_mn F hi (by omega) (by omega)] at e_
      subst e_
      have F := F.trans F2
      have I := I2
      refine go_i2l rfl ?_
      refine go_ladd rfl ?_
      refine go_lstore_n rfl (by decide) rfl ?_
      refine go_iinc rfl rfl (by decide) rfl (by unfold ab_iok; omega) ?_
      refine go_goto rfl (tgt := 121) (by decide) ?_
      exact ih (k + 1) _ _ (by omega) (by omega) (by omega) (by rw [fo_nx h0k, ← J]; rfl) F I
set_option maxHeartbeats 4000000 in
set_option maxRecDepth 100000 in
theorem lp_X6_dm {g : ab_G} {h0 : ab_H} {a0 : Int} {Q : Option ab_V → ab_H → Prop} (hm : 0 ≤ h0 1 8 ∧ h0 1 8 ≤ 6) (K : ∀ h x, x = fo (S_n h0) (h0 1 8).toNat a0 → CF h0 h → Inv h → ∀ v v4, Go g (ab_rm 8, 0, 0) m_X6_digest Q 236 [some (a_R 0), some (a_L (x)), none, v, v4] [] h) : ∀ (f : Nat) (i x : Int) (h : ab_H), 0 ≤ i → i ≤ h0 1 8 → h0 1 8 - i < f → x = fo (S_n h0) i.toNat a0 → CF h0 h → Inv h → ∀ v4, Go g (ab_rm 8, 0, 0) m_X6_digest Q 45 [some (a_R 0), some (a_L (x)), none, some (a_I i), v4] [] h := by
  intro f
  induction f with
  | zero => intro i x h h0i h1 hf; omega
  | succ f ih =>
    intro i x h h0i h1 hf J F I v4
    refine go_iload_n rfl rfl ?_
    refine go_aload_n rfl rfl ?_
    refine go_getR rfl f_X6_10 rfl rfl ?_ -- road
    refine go_getI rfl f_X6_176 rfl rfl rfl ?_ -- men
    rw [F.k9 1 (by omega)]
    refine go_icmp_ge rfl (tgt := 236) (by decide) (fun c53 => ?_) (fun c53 => ?_)
    · have e : i = h0 1 8 := by omega
      subst e
      exact K h x J F I _ _
    · refine go_iconst rfl ?_
      refine go_istore rfl (by decide) rfl ?_
      have hi : 0 ≤ i ∧ i < h0 1 8 := ⟨h0i, by omega⟩
      refine lp_X6_d2 hi (a0 := x) (fun h x2 J2 F I v => ?_) 5 0 x h (by omega) (by omega) (by omega) rfl F I
      refine go_iconst rfl ?_
      refine go_istore rfl (by decide) rfl ?_
      refine lp_X6_d3 hi (a0 := x2) (fun h x3 J3 F I v => ?_) 5 0 x2 h (by omega) (by omega) (by omega) rfl F I
      refine go_iconst rfl ?_
      refine go_istore rfl (by decide) rfl ?_
      refine lp_X6_d4 hi (a0 := x3) (fun h x4 J4 F I v => ?_) 5 0 x3 h (by omega) (by omega) (by omega) rfl F I
      refine go_ldc2 rfl (z := 31) c_X6_270 ?_
      refine go_lload_n rfl rfl ?_
      refine go_lmul rfl ?_
      refine go_aload_n rfl rfl ?_
      refine go_iload_n rfl rfl ?_
      refine go_bipush rfl ?_
      refine go_cV2I (M' := m_X6_namesOff) rfl l_X6_283 k_X6_namesOff (c_namesOff I) rfl rfl rfl rfl (by decide) (Nat.le_of_ble_eq_true rfl) (fun z160 h160 q160 => ?_) -- X6_namesOff
      obtain ⟨e_, F2, I2⟩ := q160
      rw [x_no F hi (by omega)] at e_
      subst e_
      have F := F.trans F2
      have I := I2
      refine go_i2l rfl ?_
      refine go_ladd rfl ?_
      refine go_lstore_n rfl (by decide) rfl ?_
      refine go_aload_n rfl rfl ?_
      refine go_getR rfl f_X6_10 rfl rfl ?_ -- road
      refine go_getI rfl f_X6_176 rfl rfl rfl ?_ -- men
      refine go_iconst rfl ?_
      rw [F.k9 1 (by omega)]
      refine go_icmp_lt rfl (tgt := 213) (by decide) (fun c174 => ?_) (fun c174 => ?_)
      · refine go_ldc2 rfl (z := 31) c_X6_270 ?_
        refine go_lload_n rfl rfl ?_
        refine go_lmul rfl ?_
        refine go_aload_n rfl rfl ?_
        refine go_iload_n rfl rfl ?_
        refine go_iload_n rfl rfl ?_
        refine go_sipush rfl ?_
        refine go_cV3I (M' := m_X6_carried) rfl l_X6_289 k_X6_carried (c_carried I) rfl rfl rfl rfl (by decide) (Nat.le_of_ble_eq_true rfl) (fun z224 h224 q224 => ?_) -- X6_carried
        obtain ⟨e_, F2, I2⟩ := q224
        rw [x_cd F hi hi] at e_
        subst e_
        have F := F.trans F2
        have I := I2
        refine go_i2l rfl ?_
        refine go_ladd rfl ?_
        refine go_lstore_n rfl (by decide) rfl ?_
        refine go_iinc rfl rfl (by decide) rfl (by unfold ab_iok; omega) ?_
        refine go_goto rfl (tgt := 45) (by decide) ?_
        have e3 : S_a3 h0 i x = x4 := by unfold S_a3; rw [← J2, ← J3, ← J4]
        have e5 : S_a5 h0 i x = S_a4 h0 i x := if_neg (by omega)
        exact ih (i + 1) _ _ (by omega) (by omega) (by omega) (by rw [fo_nx h0i, ← J]; unfold S_n; rw [e5]; unfold S_a4; rw [e3]; rfl) F I _
      · refine go_ldc2 rfl (z := 31) c_X6_270 ?_
        refine go_lload_n rfl rfl ?_
        refine go_lmul rfl ?_
        refine go_aload_n rfl rfl ?_
        refine go_iload_n rfl rfl ?_
        refine go_iload_n rfl rfl ?_
        refine go_iconst rfl ?_
        refine go_iadd rfl (by unfold ab_iok; omega) ?_
        refine go_aload_n rfl rfl ?_
        refine go_getR rfl f_X6_10 rfl rfl ?_ -- road
        refine go_getI rfl f_X6_176 rfl rfl rfl ?_ -- men
        rw [F.k9 1 (by omega)]
        refine go_icmp_ge rfl (tgt := 203) (by decide) (fun c194 => ?_) (fun c194 => ?_)
        · refine go_iconst rfl ?_
          refine go_sipush rfl ?_
          refine go_cV3I (M' := m_X6_met) rfl l_X6_286 k_X6_met (c_met I) rfl rfl rfl rfl (by decide) (Nat.le_of_ble_eq_true rfl) (fun z207 h207 q207 => ?_) -- X6_met
          obtain ⟨e_, F2, I2⟩ := q207
          have en : nx_i h0 i = 0 := if_neg (by omega)
          rw [x_mt F hi (by omega) (by omega), ← en] at e_
          subst e_
          have F := F.trans F2
          have I := I2
          refine go_i2l rfl ?_
          refine go_ladd rfl ?_
          refine go_lstore_n rfl (by decide) rfl ?_
          refine go_ldc2 rfl (z := 31) c_X6_270 ?_
          refine go_lload_n rfl rfl ?_
          refine go_lmul rfl ?_
          refine go_aload_n rfl rfl ?_
          refine go_iload_n rfl rfl ?_
          refine go_iload_n rfl rfl ?_
          refine go_sipush rfl ?_
          refine go_cV3I (M' := m_X6_carried) rfl l_X6_289 k_X6_carried (c_carried I) rfl rfl rfl rfl (by decide) (Nat.le_of_ble_eq_true rfl) (fun z224 h224 q224 => ?_) -- X6_carried
          obtain ⟨e_, F2, I2⟩ := q224
          rw [x_cd F hi hi] at e_
          subst e_
          have F := F.trans F2
          have I := I2
          refine go_i2l rfl ?_
          refine go_ladd rfl ?_
          refine go_lstore_n rfl (by decide) rfl ?_
          refine go_iinc rfl rfl (by decide) rfl (by unfold ab_iok; omega) ?_
          refine go_goto rfl (tgt := 45) (by decide) ?_
          have e3 : S_a3 h0 i x = x4 := by unfold S_a3; rw [← J2, ← J3, ← J4]
          have e5 : S_a5 h0 i x = dg (S_a4 h0 i x) (mt_n h0 i (nx_i h0 i) 400) := if_pos (by omega)
          exact ih (i + 1) _ _ (by omega) (by omega) (by omega) (by rw [fo_nx h0i, ← J]; unfold S_n; rw [e5]; unfold S_a4; rw [e3]; rfl) F I _
        · refine go_iload_n rfl rfl ?_
          refine go_iconst rfl ?_
          refine go_iadd rfl (by unfold ab_iok; omega) ?_
          refine go_goto rfl (tgt := 204) (by decide) ?_
          refine go_sipush rfl ?_
          refine go_cV3I (M' := m_X6_met) rfl l_X6_286 k_X6_met (c_met I) rfl rfl rfl rfl (by decide) (Nat.le_of_ble_eq_true rfl) (fun z207 h207 q207 => ?_) -- X6_met
          obtain ⟨e_, F2, I2⟩ := q207
          have en : nx_i h0 i = i + 1 := if_pos (by omega)
          rw [x_mt F hi (by omega) (by omega), ← en] at e_
          subst e_
          have F := F.trans F2
          have I := I2
          refine go_i2l rfl ?_
          refine go_ladd rfl ?_
          refine go_lstore_n rfl (by decide) rfl ?_
          refine go_ldc2 rfl (z := 31) c_X6_270 ?_
          refine go_lload_n rfl rfl ?_
          refine go_lmul rfl ?_
          refine go_aload_n rfl rfl ?_
          refine go_iload_n rfl rfl ?_
          refine go_iload_n rfl rfl ?_
          refine go_sipush rfl ?_
          refine go_cV3I (M' := m_X6_carried) rfl l_X6_289 k_X6_carried (c_carried I) rfl rfl rfl rfl (by decide) (Nat.le_of_ble_eq_true rfl) (fun z224 h224 q224 => ?_) -- X6_carried
          obtain ⟨e_, F2, I2⟩ := q224
          rw [x_cd F hi hi] at e_
          subst e_
          have F := F.trans F2
          have I := I2
          refine go_i2l rfl ?_
          refine go_ladd rfl ?_
          refine go_lstore_n rfl (by decide) rfl ?_
          refine go_iinc rfl rfl (by decide) rfl (by unfold ab_iok; omega) ?_
          refine go_goto rfl (tgt := 45) (by decide) ?_
          have e3 : S_a3 h0 i x = x4 := by unfold S_a3; rw [← J2, ← J3, ← J4]
          have e5 : S_a5 h0 i x = dg (S_a4 h0 i x) (mt_n h0 i (nx_i h0 i) 400) := if_pos (by omega)
          exact ih (i + 1) _ _ (by omega) (by omega) (by omega) (by rw [fo_nx h0i, ← J]; unfold S_n; rw [e5]; unfold S_a4; rw [e3]; rfl) F I _
set_option maxHeartbeats 4000000 in
set_option maxRecDepth 100000 in
theorem lp_X6_dh {g : ab_G} {h0 : ab_H} {a0 : Int} {v4 : Option ab_V} {Q : Option ab_V → ab_H → Prop} (hm : 0 ≤ h0 1 9 ∧ h0 1 9 ≤ 6) (hH : ∀ i, 0 ≤ i → i < h0 1 9 → 0 ≤ h0 6 i ∧ h0 6 i ≤ h0 1 7) (K : ∀ h x, x = fo (S_h h0) (h0 1 9).toNat a0 → CF h0 h → Inv h → ∀ v, Go g (ab_rm 8, 0, 0) m_X6_digest Q 310 [some (a_R 0), some (a_L (x)), none, v, v4] [] h) : ∀ (f : Nat) (j x : Int) (h : ab_H), 0 ≤ j → j ≤ h0 1 9 → h0 1 9 - j < f → x = fo (S_h h0) j.toNat a0 → CF h0 h → Inv h → Go g (ab_rm 8, 0, 0) m_X6_digest Q 238 [some (a_R 0), some (a_L (x)), none, some (a_I j), v4] [] h := by
  intro f
  induction f with
  | zero => intro j x h h0j h1 hf; omega
  | succ f ih =>
    intro j x h h0j h1 hf J F I
    refine go_iload_n rfl rfl ?_
    refine go_aload_n rfl rfl ?_
    refine go_getR rfl f_X6_10 rfl rfl ?_ -- road
    refine go_getI rfl f_X6_86 rfl rfl rfl ?_ -- houses
    rw [F.k9 1 (by omega)]
    refine go_icmp_ge rfl (tgt := 310) (by decide) (fun c246 => ?_) (fun c246 => ?_)
    · have e : j = h0 1 9 := by omega
      subst e
      exact K h x J F I _
    · have hj : 0 ≤ j ∧ j < h0 1 9 := ⟨h0j, by omega⟩
      refine go_ldc2 rfl (z := 31) c_X6_270 ?_
      refine go_lload_n rfl rfl ?_
      refine go_lmul rfl ?_
      refine go_aload_n rfl rfl ?_
      refine go_iload_n rfl rfl ?_
      refine go_cV1I (M' := m_X6_house) rfl l_X6_292 k_X6_house (s_X6_house I) rfl rfl rfl rfl (by decide) (Nat.le_of_ble_eq_true rfl) (fun z256 h256 q256 => ?_) -- X6_house
      obtain ⟨e0_, e_⟩ := q256
      subst e0_
      rw [x_hs F hj] at e_
      subst e_
      refine go_i2l rfl ?_
      refine go_ladd rfl ?_
      refine go_lstore_n rfl (by decide) rfl ?_
      refine go_ldc2 rfl (z := 31) c_X6_270 ?_
      refine go_lload_n rfl rfl ?_
      refine go_lmul rfl ?_
      refine go_aload_n rfl rfl ?_
      refine go_iconst rfl ?_
      refine go_bipush rfl ?_
      refine go_aload_n rfl rfl ?_
      refine go_iload_n rfl rfl ?_
      refine go_cV1I (M' := m_X6_house) rfl l_X6_292 k_X6_house (s_X6_house I) rfl rfl rfl rfl (by decide) (Nat.le_of_ble_eq_true rfl) (fun z273 h273 q273 => ?_) -- X6_house
      obtain ⟨e0_, e_⟩ := q273
      subst e0_
      rw [x_hs F hj] at e_
      subst e_
      refine go_iconst rfl ?_
      refine go_cV4I (M' := m_X6_letter) rfl l_X6_295 k_X6_letter (c_letter I) rfl rfl rfl rfl (by decide) (Nat.le_of_ble_eq_true rfl) (fun z277 h277 q277 => ?_) -- X6_letter
      obtain ⟨e_, F2, I2⟩ := q277
      rw [x_lb F (hH j hj.1 hj.2)] at e_
      subst e_
      have F := F.trans F2
      have I := I2
      refine go_i2l rfl ?_
      refine go_ladd rfl ?_
      refine go_lstore_n rfl (by decide) rfl ?_
      refine go_ldc2 rfl (z := 31) c_X6_270 ?_
      refine go_lload_n rfl rfl ?_
      refine go_lmul rfl ?_
      refine go_aload_n rfl rfl ?_
      refine go_iconst rfl ?_
      refine go_bipush rfl ?_
      refine go_aload_n rfl rfl ?_
      refine go_iload_n rfl rfl ?_
      refine go_cV1I (M' := m_X6_house) rfl l_X6_292 k_X6_house (s_X6_house I) rfl rfl rfl rfl (by decide) (Nat.le_of_ble_eq_true rfl) (fun z294 h294 q294 => ?_) -- X6_house
      obtain ⟨e0_, e_⟩ := q294
      subst e0_
      rw [x_hs F hj] at e_
      subst e_
      refine go_iconst rfl ?_
      refine go_cV4I (M' := m_X6_letter) rfl l_X6_295 k_X6_letter (c_letter I) rfl rfl rfl rfl (by decide) (Nat.le_of_ble_eq_true rfl) (fun z298 h298 q298 => ?_) -- X6_letter
      obtain ⟨e_, F2, I2⟩ := q298
      rw [x_lt F (hH j hj.1 hj.2)] at e_
      subst e_
      have F := F.trans F2
      have I := I2
      refine go_i2l rfl ?_
      refine go_ladd rfl ?_
      refine go_lstore_n rfl (by decide) rfl ?_
      refine go_iinc rfl rfl (by decide) rfl (by unfold ab_iok; omega) ?_
      refine go_goto rfl (tgt := 238) (by decide) ?_
      exact ih (j + 1) _ _ (by omega) (by omega) (by omega) (by rw [fo_nx h0j, ← J]; rfl) F I
set_option maxHeartbeats 4000000 in
set_option maxRecDepth 100000 in
theorem c_digest {g : ab_G} {h0 : ab_H} (I0 : Inv h0) : MethL g 8 m_X6_digest [a_R 0] h0 (fun z h' => z = D_F h0 ∧ CF h0 h' ∧ Inv h') := by
  have r1 := I0.ro.1
  have l1 := I0.ro.2.1
  refine Meth.of_go k_X6_digest (Nat.le_of_ble_eq_true rfl) ?_
  show Go g _ m_X6_digest _ 0 [some (a_R 0), none, none, none, none] [] h0
  refine go_ldc2 rfl (z := 17) c_X6_268 ?_
  refine go_lstore_n rfl (by decide) rfl ?_
  refine go_iconst rfl ?_
  refine go_istore_n rfl (by decide) rfl ?_
  refine lp_X6_d1 (h0 := h0) (a0 := 17) (fun h x1 J1 F I v => ?_) 10 0 17 h0 (by omega) (by omega) (by omega) rfl (CF.refl h0) I0
  refine go_ldc2 rfl (z := 31) c_X6_270 ?_
  refine go_lload_n rfl rfl ?_
  refine go_lmul rfl ?_
  refine go_aload_n rfl rfl ?_
  refine go_cV0I (M' := m_X6_fault) rfl l_X6_275 k_X6_fault (s_X6_fault) rfl rfl rfl rfl (by decide) (Nat.le_of_ble_eq_true rfl) (fun z37 h37 q37 => ?_) -- X6_fault
  obtain ⟨e0_, e_⟩ := q37
  subst e0_
  rw [F.k9 1 (by omega)] at e_
  subst e_
  refine go_i2l rfl ?_
  refine go_ladd rfl ?_
  refine go_lstore_n rfl (by decide) rfl ?_
  refine go_iconst rfl ?_
  refine go_istore_n rfl (by decide) rfl ?_
  refine lp_X6_dm r1 (a0 := D_1 h0) (fun h x2 J2 F I v v4 => ?_) 8 0 _ h (by omega) r1.1 (by omega) (show _ = D_1 h0 by unfold D_1; rw [← J1]; rfl) F I _
  refine go_iconst rfl ?_
  refine go_istore_n rfl (by decide) rfl ?_
  refine lp_X6_dh I0.hs.1 I0.hs.2 (a0 := D_2 h0) (fun h x3 J3 F I v => ?_) 8 0 x2 h (by omega) I0.hs.1.1 (by have := I0.hs.1; omega) J2 F I
  refine go_ldc2 rfl (z := 31) c_X6_270 ?_
  refine go_lload_n rfl rfl ?_
  refine go_lmul rfl ?_
  refine go_aload_n rfl rfl ?_
  refine go_sipush rfl ?_
  refine go_cV1I (M' := m_X6_meetings) rfl l_X6_299 k_X6_meetings (c_meetings I) rfl rfl rfl rfl (by decide) (Nat.le_of_ble_eq_true rfl) (fun z319 h319 q319 => ?_) -- X6_meetings
  obtain ⟨e_, F2, I2⟩ := q319
  rw [x_ms F] at e_
  subst e_
  have F := F.trans F2
  have I := I2
  refine go_i2l rfl ?_
  refine go_ladd rfl ?_
  refine go_lstore_n rfl (by decide) rfl ?_
  refine go_ldc2 rfl (z := 31) c_X6_270 ?_
  refine go_lload_n rfl rfl ?_
  refine go_lmul rfl ?_
  refine go_aload_n rfl rfl ?_
  refine go_sipush rfl ?_
  refine go_cV1I (M' := m_X6_isTrue) rfl l_X6_302 k_X6_isTrue (c_isTrue I) rfl rfl rfl rfl (by decide) (Nat.le_of_ble_eq_true rfl) (fun z334 h334 q334 => ?_) -- X6_isTrue
  obtain ⟨e_, F2, I2⟩ := q334
  rw [x_tr F] at e_
  subst e_
  have F := F.trans F2
  have I := I2
  refine go_i2l rfl ?_
  refine go_ladd rfl ?_
  refine go_lstore_n rfl (by decide) rfl ?_
  refine go_ldc2 rfl (z := 31) c_X6_270 ?_
  refine go_lload_n rfl rfl ?_
  refine go_lmul rfl ?_
  refine go_aload_n rfl rfl ?_
  refine go_cV0I (M' := m_X6_again) rfl l_X6_305 k_X6_again (c_again I) rfl rfl rfl rfl (by decide) (Nat.le_of_ble_eq_true rfl) (fun z346 h346 q346 => ?_) -- X6_again
  obtain ⟨e_, F2, I2⟩ := q346
  rw [ag_same F.k9] at e_
  subst e_
  have F := F.trans F2
  have I := I2
  refine go_i2l rfl ?_
  refine go_ladd rfl ?_
  refine go_lstore_n rfl (by decide) rfl ?_
  refine go_ldc2 rfl (z := 31) c_X6_270 ?_
  refine go_lload_n rfl rfl ?_
  refine go_lmul rfl ?_
  refine go_aload_n rfl rfl ?_
  refine go_iconst rfl ?_
  refine go_sipush rfl ?_
  refine go_iconst rfl ?_
  refine go_cV3I (M' := m_X6_giveIn) rfl l_X6_308 k_X6_giveIn (c_giveIn I) rfl rfl rfl rfl (by decide) (Nat.le_of_ble_eq_true rfl) (fun z363 h363 q363 => ?_) -- X6_giveIn
  obtain ⟨e_, F2, I2⟩ := q363
  rw [x_gv F l1.1 (by omega)] at e_
  subst e_
  have F := F.trans F2
  have I := I2
  refine go_i2l rfl ?_
  refine go_ladd rfl ?_
  refine go_lstore_n rfl (by decide) rfl ?_
  refine go_ldc2 rfl (z := 31) c_X6_270 ?_
  refine go_lload_n rfl rfl ?_
  refine go_lmul rfl ?_
  refine go_aload_n rfl rfl ?_
  refine go_iconst rfl ?_
  refine go_sipush rfl ?_
  refine go_iconst rfl ?_
  refine go_cV3I (M' := m_X6_giveIn) rfl l_X6_308 k_X6_giveIn (c_giveIn I) rfl rfl rfl rfl (by decide) (Nat.le_of_ble_eq_true rfl) (fun z380 h380 q380 => ?_) -- X6_giveIn
  obtain ⟨e_, F2, I2⟩ := q380
  rw [x_gv F l1.1 (by omega)] at e_
  subst e_
  have F := F.trans F2
  have I := I2
  refine go_i2l rfl ?_
  refine go_ladd rfl ?_
  refine go_lstore_n rfl (by decide) rfl ?_
  refine go_ldc2 rfl (z := 31) c_X6_270 ?_
  refine go_lload_n rfl rfl ?_
  refine go_lmul rfl ?_
  refine go_aload_n rfl rfl ?_
  refine go_bipush rfl ?_
  refine go_bipush rfl ?_
  refine go_cV2I (M' := m_X6_served) rfl l_X6_311 k_X6_served (c_served I) rfl rfl rfl rfl (by decide) (Nat.le_of_ble_eq_true rfl) (fun z396 h396 q396 => ?_) -- X6_served
  obtain ⟨e_, F2, I2⟩ := q396
  rw [x_sv F] at e_
  subst e_
  have F := F.trans F2
  have I := I2
  refine go_i2l rfl ?_
  refine go_ladd rfl ?_
  refine go_lstore_n rfl (by decide) rfl ?_
  refine go_ldc2 rfl (z := 31) c_X6_270 ?_
  refine go_lload_n rfl rfl ?_
  refine go_lmul rfl ?_
  refine go_aload_n rfl rfl ?_
  refine go_bipush rfl ?_
  refine go_bipush rfl ?_
  refine go_cV2I (M' := m_X6_fewest) rfl l_X6_314 k_X6_fewest (c_fewest I) rfl rfl rfl rfl (by decide) (Nat.le_of_ble_eq_true rfl) (fun z412 h412 q412 => ?_) -- X6_fewest
  obtain ⟨e_, F2, I2⟩ := q412
  rw [x_fe F] at e_
  subst e_
  have F := F.trans F2
  have I := I2
  refine go_i2l rfl ?_
  refine go_ladd rfl ?_
  refine go_lstore_n rfl (by decide) rfl ?_
  refine go_ldc2 rfl (z := 31) c_X6_270 ?_
  refine go_lload_n rfl rfl ?_
  refine go_lmul rfl ?_
  refine go_aload_n rfl rfl ?_
  refine go_cV0I (M' := m_X6_late) rfl l_X6_317 k_X6_late (c_late I) rfl rfl rfl rfl (by decide) (Nat.le_of_ble_eq_true rfl) (fun z424 h424 q424 => ?_) -- X6_late
  obtain ⟨e_, F2, I2⟩ := q424
  rw [F.la] at e_
  subst e_
  have F := F.trans F2
  have I := I2
  refine go_i2l rfl ?_
  refine go_ladd rfl ?_
  refine go_lstore_n rfl (by decide) rfl ?_
  refine go_lload_n rfl rfl ?_
  exact go_lret rfl rfl ⟨_, rfl, by unfold D_F D_3; rw [← J3]; rfl, F, I⟩
