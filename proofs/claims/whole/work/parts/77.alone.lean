/-! names taken off, the reference's way -/
theorem crA_s {h : ab_H} {i t : Int} (hm : 0 ≤ h 1 8 ∧ h 1 8 ≤ 6) (hi : 0 ≤ i ∧ i < h 1 8) (ht : 1 ≤ t) : (wk_std (cr_a h) (cr_b h) (cr_c h) i (t - 1) → (cr_A h t.toNat).1 i = (cr_A h (t - 1).toNat).1 i ∧ (cr_A h t.toNat).2.1 i = (cr_A h (t - 1).toNat).2.1 i) ∧ (¬ wk_std (cr_a h) (cr_b h) (cr_c h) i (t - 1) → (cr_A h t.toNat).1 i = (cr_A h (t - 1).toNat).1 i + wk_fc (2 * h 1 7) ((cr_A h (t - 1).toNat).1 i) ((cr_A h (t - 1).toNat).2.1 i) ∧ (cr_A h t.toNat).2.1 i = wk_fc (2 * h 1 7) ((cr_A h (t - 1).toNat).1 i) ((cr_A h (t - 1).toNat).2.1 i)) := by
  obtain ⟨n, e⟩ : ∃ n : Nat, t.toNat = n + 1 := ⟨t.toNat - 1, by omega⟩
  have e1 : (t - 1).toNat = n := by omega
  have e2 : t - 1 = (n : Int) := by omega
  have hb : wk_tb (am_n (h 1 8)) i = true := ((am_in hm).2 i hi.1 (by omega)).mpr hi.2
  rw [e, e1, e2]
  unfold cr_A
  rw [al_at]
  unfold wk_go
  dsimp only
  constructor
  · intro z; rw [if_neg (fun y => y.2 z), if_neg (fun y => y.2 z)]; exact ⟨rfl, rfl⟩
  · intro z; rw [if_pos ⟨hb, z⟩, if_pos ⟨hb, z⟩]; exact ⟨rfl, rfl⟩
def fa_I (h0 : ab_H) (i t pl fc : Int) (h : ab_H) : Prop := (pl = (cr_A h0 (t - 1).toNat).1 i ∧ fc = (cr_A h0 (t - 1).toNat).2.1 i) ∧ ((0 ≤ pl ∧ pl ≤ 2 * h0 1 7) ∧ (fc = 1 ∨ fc = -1)) ∧ (∀ s, 0 ≤ s → s < t → h 80 s = TA h0 s i) ∧ ∀ k, k ≠ 80 → h k = h0 k
theorem fa_nx {h0 h : ab_H} {i t pl fc pl' fc' : Int} (J : fa_I h0 i t pl fc h) (ht : 1 ≤ t) (e1 : pl' = (cr_A h0 t.toNat).1 i) (e2 : fc' = (cr_A h0 t.toNat).2.1 i) (b : (0 ≤ pl' ∧ pl' ≤ 2 * h0 1 7) ∧ (fc' = 1 ∨ fc' = -1)) : fa_I h0 i (t + 1) pl' fc' (ab_hs h 80 t pl') := by
  refine ⟨by rw [show t + 1 - 1 = t by omega]; exact ⟨e1, e2⟩, b, fun s s0 s1 => ?_, fun k hk => by rw [ab_hs_f hk]; exact J.2.2.2 k hk⟩
  by_cases e : s = t
  · subst e; rw [ab_hs_eq, e1]; rfl
  · rw [ab_hs_i e]; exact J.2.2.1 s s0 (by omega)
theorem md_std {h : ab_H} {i t : Int} (I : Inv h) (R : MR h) (hi : 0 ≤ i ∧ i < h 1 8) : wk_std (md_a h) (md_b h) (md_c h) i t ↔ wk_std (cr_a h) (cr_b h) (cr_c h) i t := by
  have c : h 70 i = h 5 i := (R.2.2.2.1 i hi.1 (by rw [R.2.1]; exact hi.2)).2.2
  have u := I.2.2.1.2 i hi.1 (by have := I.ro.1; omega)
  unfold md_a md_b md_c cr_a cr_b cr_c
  dsimp only [wk_std]
  rw [c, u.2.1, u.2.2]
theorem mr_80 {h h0 : ab_H} (e : ∀ k, k ≠ 80 → h k = h0 k) (r : mr_in h0) : mr_in h := by unfold mr_in; rw [e 62 (by decide), e 68 (by decide), e 69 (by decide), e 70 (by decide), e 73 (by decide), e 74 (by decide)]; exact r
theorem md_80 {h h0 : ab_H} (e : ∀ k, k ≠ 80 → h k = h0 k) : md_a h = md_a h0 ∧ md_b h = md_b h0 ∧ md_c h = md_c h0 := by unfold md_a md_b md_c; rw [e 70 (by decide), e 73 (by decide), e 74 (by decide)]; exact ⟨rfl, rfl, rfl⟩
set_option maxHeartbeats 4000000 in
set_option maxRecDepth 100000 in
theorem lp_X7_findAlone {g : ab_G} {h0 : ab_H} {i : Int} {Q : Option ab_V → ab_H → Prop} (I : Inv h0) (R : MR h0) (hi : 0 ≤ i ∧ i < h0 1 8) (hq : ∀ h, (∀ s, 0 ≤ s → s ≤ 400 → h 80 s = TA h0 s i) → (∀ k, k ≠ 80 → h k = h0 k) → Q none h) : ∀ (f : Nat) (t pl fc : Int) (h : ab_H), 1 ≤ t → t ≤ 401 → 401 - t < f → fa_I h0 i t pl fc h → ∀ v, Go g (ab_rm 2, 0, 0) m_X7_findAlone Q 26 [some (a_R 62), some (a_I i), some (a_I pl), some (a_I fc), some (a_I t), v] [] h := by
  have hm := I.ro.1
  have mr := (MR.in I R).1
  have e9 : h0 62 9 = h0 1 8 := R.2.1
  have e8 : h0 62 8 = h0 1 7 := R.1
  have l1 := I.ro.2.1
  intro f
  induction f with
  | zero => intro t pl fc h h0t h1 hf; omega
  | succ f ih =>
    intro t pl fc h h0t h1 hf J v
    have e62 : h 62 = h0 62 := J.2.2.2 62 (by decide)
    obtain ⟨d1, d2, d3⟩ := md_80 J.2.2.2
    have e8' : h 62 8 = h0 1 7 := by rw [e62]; exact e8
    have cs := crA_s hm hi h0t
    have bd := J.2.1
    refine go_iload rfl rfl ?_
    refine go_sipush rfl ?_
    refine go_icmp_ge rfl (tgt := 110) (by decide) (fun c31 => ?_) (fun c31 => ?_)
    · exact go_ret rfl rfl (hq _ (fun s s0 s1 => J.2.2.1 s s0 (by omega)) J.2.2.2)
    · refine go_aload_n rfl rfl ?_
      refine go_iload_n rfl rfl ?_
      refine go_iload rfl rfl ?_
      refine go_iconst rfl ?_
      refine go_isub rfl (by unfold ab_iok; omega) ?_
      refine go_cV2I (M' := m_X7_stands) rfl l_X7_159 k_X7_stands (s_X7_stands (by rw [e62]; omega) (mr_80 J.2.2.2 mr)) rfl rfl rfl rfl (by decide) (Nat.le_of_ble_eq_true rfl) (fun z40 h40 q40 => ?_) -- X7_stands
      obtain ⟨rfl, q⟩ := q40
      rw [d1, d2, d3, rd_iff (md_std I R hi)] at q
      subst q
      refine go_if_ne rfl (tgt := 96) (by decide) (fun c43 => ?_) (fun c43 => ?_)
      · refine go_aload_n rfl rfl ?_
        refine go_getR rfl f_X7_62 rfl rfl ?_ -- alone
        refine go_iload rfl rfl ?_
        refine go_iload_n rfl rfl ?_
        refine go_iast rfl rfl (by omega) (by omega) ?_
        refine go_iinc rfl rfl (by decide) rfl (by unfold ab_iok; omega) ?_
        refine go_goto rfl (tgt := 26) (by decide) ?_
        exact ih (t + 1) _ _ _ (by omega) (by omega) (by omega) (fa_nx J h0t (J.1.1.trans ((cs.1 (rd_n1 c43)).1).symm) (J.1.2.trans ((cs.1 (rd_n1 c43)).2).symm) J.2.1) _
      · refine go_iload_n rfl rfl ?_
        refine go_iconst rfl ?_
        refine go_icmp_ne rfl (tgt := 69) (by decide) (fun c48 => ?_) (fun c48 => ?_)
        · refine go_iload_n rfl rfl ?_
          refine go_if_ne rfl (tgt := 77) (by decide) (fun c70 => ?_) (fun c70 => ?_)
          · refine go_iconst rfl ?_
            have fcv : wk_fc (2 * h0 1 7) pl fc = fc := by unfold wk_fc; rw [if_neg (by omega)]
            refine go_istore rfl (by decide) rfl ?_
            refine go_iload rfl rfl ?_
            refine go_if_eq rfl (tgt := 90) (by decide) (fun c82 => ?_) (fun c82 => ?_)
            · refine go_iload_n rfl rfl ?_
              refine go_istore_n rfl (by decide) rfl ?_
              refine go_iload_n rfl rfl ?_
              refine go_iload_n rfl rfl ?_
              refine go_iadd rfl (by unfold ab_iok; omega) ?_
              refine go_istore_n rfl (by decide) rfl ?_
              refine go_aload_n rfl rfl ?_
              refine go_getR rfl f_X7_62 rfl rfl ?_ -- alone
              refine go_iload rfl rfl ?_
              refine go_iload_n rfl rfl ?_
              refine go_iast rfl rfl (by omega) (by omega) ?_
              refine go_iinc rfl rfl (by decide) rfl (by unfold ab_iok; omega) ?_
              refine go_goto rfl (tgt := 26) (by decide) ?_
              exact ih (t + 1) _ _ _ (by omega) (by omega) (by omega) (fa_nx J h0t (by rw [(cs.2 (rd_n0 c43)).1, ← J.1.1, ← J.1.2, fcv]) (by rw [(cs.2 (rd_n0 c43)).2, ← J.1.1, ← J.1.2, fcv]) (by omega)) _
            · exact absurd rfl c82
          · refine go_iconst rfl ?_
            refine go_goto rfl (tgt := 78) (by decide) ?_
            have fcv : wk_fc (2 * h0 1 7) pl fc = -fc := by unfold wk_fc; rw [if_pos (by omega)]
            refine go_istore rfl (by decide) rfl ?_
            refine go_iload rfl rfl ?_
            refine go_if_eq rfl (tgt := 90) (by decide) (fun c82 => ?_) (fun c82 => ?_)
            · exact absurd c82 (by decide)
            · refine go_iload_n rfl rfl ?_
              refine go_ineg rfl (by unfold ab_iok; omega) ?_
              refine go_goto rfl (tgt := 91) (by decide) ?_
              refine go_istore_n rfl (by decide) rfl ?_
              refine go_iload_n rfl rfl ?_
              refine go_iload_n rfl rfl ?_
              refine go_iadd rfl (by unfold ab_iok; omega) ?_
              refine go_istore_n rfl (by decide) rfl ?_
              refine go_aload_n rfl rfl ?_
              refine go_getR rfl f_X7_62 rfl rfl ?_ -- alone
              refine go_iload rfl rfl ?_
              refine go_iload_n rfl rfl ?_
              refine go_iast rfl rfl (by omega) (by omega) ?_
              refine go_iinc rfl rfl (by decide) rfl (by unfold ab_iok; omega) ?_
              refine go_goto rfl (tgt := 26) (by decide) ?_
              exact ih (t + 1) _ _ _ (by omega) (by omega) (by omega) (fa_nx J h0t (by rw [(cs.2 (rd_n0 c43)).1, ← J.1.1, ← J.1.2, fcv]) (by rw [(cs.2 (rd_n0 c43)).2, ← J.1.1, ← J.1.2, fcv]) (by omega)) _
        · refine go_iload_n rfl rfl ?_
          refine go_iconst rfl ?_
          refine go_aload_n rfl rfl ?_
          refine go_getI rfl f_X7_107 rfl rfl rfl ?_ -- length
          refine go_imul rfl (by unfold ab_iok; omega) ?_
          refine go_icmp_ne rfl (tgt := 65) (by decide) (fun c58 => ?_) (fun c58 => ?_)
          · refine go_iconst rfl ?_
            refine go_goto rfl (tgt := 78) (by decide) ?_
            have fcv : wk_fc (2 * h0 1 7) pl fc = fc := by unfold wk_fc; rw [if_neg (by omega)]
            refine go_istore rfl (by decide) rfl ?_
            refine go_iload rfl rfl ?_
            refine go_if_eq rfl (tgt := 90) (by decide) (fun c82 => ?_) (fun c82 => ?_)
            · refine go_iload_n rfl rfl ?_
              refine go_istore_n rfl (by decide) rfl ?_
              refine go_iload_n rfl rfl ?_
              refine go_iload_n rfl rfl ?_
              refine go_iadd rfl (by unfold ab_iok; omega) ?_
              refine go_istore_n rfl (by decide) rfl ?_
              refine go_aload_n rfl rfl ?_
              refine go_getR rfl f_X7_62 rfl rfl ?_ -- alone
              refine go_iload rfl rfl ?_
              refine go_iload_n rfl rfl ?_
              refine go_iast rfl rfl (by omega) (by omega) ?_
              refine go_iinc rfl rfl (by decide) rfl (by unfold ab_iok; omega) ?_
              refine go_goto rfl (tgt := 26) (by decide) ?_
              exact ih (t + 1) _ _ _ (by omega) (by omega) (by omega) (fa_nx J h0t (by rw [(cs.2 (rd_n0 c43)).1, ← J.1.1, ← J.1.2, fcv]) (by rw [(cs.2 (rd_n0 c43)).2, ← J.1.1, ← J.1.2, fcv]) (by omega)) _
            · exact absurd rfl c82
          · refine go_iconst rfl ?_
            refine go_goto rfl (tgt := 78) (by decide) ?_
            have fcv : wk_fc (2 * h0 1 7) pl fc = -fc := by unfold wk_fc; rw [if_pos (by omega)]
            refine go_istore rfl (by decide) rfl ?_
            refine go_iload rfl rfl ?_
            refine go_if_eq rfl (tgt := 90) (by decide) (fun c82 => ?_) (fun c82 => ?_)
            · exact absurd c82 (by decide)
            · refine go_iload_n rfl rfl ?_
              refine go_ineg rfl (by unfold ab_iok; omega) ?_
              refine go_goto rfl (tgt := 91) (by decide) ?_
              refine go_istore_n rfl (by decide) rfl ?_
              refine go_iload_n rfl rfl ?_
              refine go_iload_n rfl rfl ?_
              refine go_iadd rfl (by unfold ab_iok; omega) ?_
              refine go_istore_n rfl (by decide) rfl ?_
              refine go_aload_n rfl rfl ?_
              refine go_getR rfl f_X7_62 rfl rfl ?_ -- alone
              refine go_iload rfl rfl ?_
              refine go_iload_n rfl rfl ?_
              refine go_iast rfl rfl (by omega) (by omega) ?_
              refine go_iinc rfl rfl (by decide) rfl (by unfold ab_iok; omega) ?_
              refine go_goto rfl (tgt := 26) (by decide) ?_
              exact ih (t + 1) _ _ _ (by omega) (by omega) (by omega) (fa_nx J h0t (by rw [(cs.2 (rd_n0 c43)).1, ← J.1.1, ← J.1.2, fcv]) (by rw [(cs.2 (rd_n0 c43)).2, ← J.1.1, ← J.1.2, fcv]) (by omega)) _
set_option maxHeartbeats 4000000 in
set_option maxRecDepth 100000 in
theorem j_findAlone {g : ab_G} {h : ab_H} {i : Int} (I : Inv h) (R : MR h) (hi : 0 ≤ i ∧ i < h 1 8) : MethV g 2 m_X7_findAlone [a_R 62, a_I i] h (fun h' => (∀ s, 0 ≤ s → s ≤ 400 → h' 80 s = TA h s i) ∧ ∀ k, k ≠ 80 → h' k = h k) := by
  refine Meth.of_go k_X7_findAlone (Nat.le_of_ble_eq_true rfl) ?_
  show Go g _ m_X7_findAlone _ 0 [some (a_R 62), some (a_I i), none, none, none, none] [] h
  have hm := I.ro.1
  refine go_iconst rfl ?_
  refine go_aload_n rfl rfl ?_
  refine go_getR rfl f_X7_25 rfl rfl ?_ -- begin
  refine go_iload_n rfl rfl ?_
  refine go_iald rfl rfl (by omega) (by omega) ?_
  have y := I.ro.2.2.1 i hi.1 hi.2
  have l1 := I.ro.2.1
  have a1 : h 68 i = h 3 i := (R.2.2.2.1 i hi.1 (by rw [R.2.1]; exact hi.2)).1
  have a2 : h 69 i = h 4 i := (R.2.2.2.1 i hi.1 (by rw [R.2.1]; exact hi.2)).2.1
  rw [a1]
  refine go_imul rfl (by unfold ab_iok; omega) ?_
  refine go_istore_n rfl (by decide) rfl ?_
  refine go_aload_n rfl rfl ?_
  refine go_getR rfl f_X7_28 rfl rfl ?_ -- faces
  refine go_iload_n rfl rfl ?_
  refine go_iald rfl rfl (by omega) (by omega) ?_
  rw [a2]
  refine go_istore_n rfl (by decide) rfl ?_
  refine go_aload_n rfl rfl ?_
  refine go_getR rfl f_X7_62 rfl rfl ?_ -- alone
  refine go_iconst rfl ?_
  refine go_iload_n rfl rfl ?_
  refine go_iast rfl rfl (by omega) (by omega) ?_
  refine go_iconst rfl ?_
  refine go_istore rfl (by decide) rfl ?_
  exact lp_X7_findAlone I R hi (fun h2 a c => ⟨rfl, a, c⟩) 500 1 (2 * h 3 i) (h 4 i) _ (by omega) (by omega) (by omega) ⟨⟨rfl, rfl⟩, by omega, fun s s0 s1 => by rw [show s = 0 by omega, ab_hs_eq]; rfl, fun k hk => by rw [ab_hs_f hk]⟩ _
theorem mf_80 {h h' : ab_H} (e : ∀ k, k ≠ 80 → h' k = h k) : MF h h' := ⟨fun k hk => e k (by omega), fun b hb => by rw [e 62 (by decide)]⟩
theorem MR_80 {h h' : ab_H} (e : ∀ k, k ≠ 80 → h' k = h k) (R : MR h) : MR h' := by
  unfold MR md_ps rd_ps
  rw [e 62 (by decide), e 1 (by decide), e 68 (by decide), e 69 (by decide), e 70 (by decide), e 71 (by decide), e 3 (by decide), e 4 (by decide), e 5 (by decide), e 6 (by decide)]
  exact R
theorem MT_80 {h0 h h' : ab_H} (e : ∀ k, k ≠ 80 → h' k = h k) (T : MT h0 h) : MT h0 h' := by
  refine ⟨?_, ?_, MR_80 e T.2.2⟩
  · unfold mtw; rw [e 62 (by decide), e 75 (by decide), e 76 (by decide), e 77 (by decide)]; exact T.1
  · unfold mtm; rw [e 78 (by decide)]; exact T.2.1
theorem TA_same {h h' : ab_H} (e : ∀ k, (1 ≤ k ∧ k ≤ 9) → h' k = h k) : TA h' = TA h := by
  obtain ⟨-, -, -, -, -, s1, -⟩ := cr_same e
  unfold TA; rw [s1]
set_option maxHeartbeats 4000000 in
set_option maxRecDepth 100000 in
theorem j_namesOffOf {g : ab_G} {h : ab_H} {i t : Int} (I : Inv h) (R : MR h) (hi : 0 ≤ i ∧ i < h 1 8) (ht : 0 ≤ t ∧ t ≤ 400) : MethI g 3 m_X7_namesOffOf [a_R 62, a_I i, a_I t] h (fun z h' => z = TA h t i ∧ ∀ k, k ≠ 80 → h' k = h k) := by
  refine Meth.of_go k_X7_namesOffOf (Nat.le_of_ble_eq_true rfl) ?_
  show Go g _ m_X7_namesOffOf _ 0 [some (a_R 62), some (a_I i), some (a_I t)] [] h
  refine go_aload_n rfl rfl ?_
  refine go_iload_n rfl rfl ?_
  refine go_cV1V (M' := m_X7_findAlone) rfl l_X7_217 k_X7_findAlone (j_findAlone I R hi) rfl rfl rfl rfl (by decide) (Nat.le_of_ble_eq_true rfl) (fun h2 q2 => ?_) -- X7_findAlone
  refine go_aload_n rfl rfl ?_
  refine go_getR rfl f_X7_62 rfl rfl ?_ -- alone
  refine go_iload_n rfl rfl ?_
  refine go_iald rfl rfl (by omega) (by omega) ?_
  exact go_iret rfl (Or.inl rfl) ⟨_, rfl, q2.1 t ht.1 ht.2, q2.2⟩
set_option maxHeartbeats 4000000 in
set_option maxRecDepth 100000 in
theorem j_namesOff {g : ab_G} {h : ab_H} {i t : Int} (I : Inv h) : MethI g 8 m_X7_namesOff [a_R 62, a_I i, a_I t] h (fun z h' => z = no_F h i t ∧ MF h h' ∧ Inv h') := by
  have r1 := I.ro.1
  refine Meth.of_go k_X7_namesOff (Nat.le_of_ble_eq_true rfl) ?_
  show Go g _ m_X7_namesOff _ 0 [some (a_R 62), some (a_I i), some (a_I t)] [] h
  refine go_aload_n rfl rfl ?_
  refine go_iload_n rfl rfl ?_
  refine go_cV1I (M' := m_X7_isMan) rfl l_X7_143 k_X7_isMan (j_isMan I) rfl rfl rfl rfl (by decide) (Nat.le_of_ble_eq_true rfl) (fun z2 h2 q2 => ?_) -- X7_isMan
  obtain ⟨y1, F1, R1, I1⟩ := q2
  refine go_if_eq rfl (tgt := 24) (by decide) (fun c5 => ?_) (fun c5 => ?_)
  · refine go_bipush rfl ?_
    exact go_iret rfl (Or.inl rfl) ⟨_, rfl, by unfold no_F; rw [if_neg (by have := rd_n0 (y1 ▸ c5); omega)], F1.mf, I1⟩
  · have x1 := rd_n1 (y1 ▸ c5)
    refine go_iload_n rfl rfl ?_
    refine go_cS1I (M' := m_X7_isTime) rfl l_X7_193 k_X7_isTime (s_X7_isTime) rfl (by decide) (Nat.le_of_ble_eq_true rfl) (fun z9 h9 q9 => ?_) -- X7_isTime
    obtain ⟨rfl, rfl⟩ := q9
    refine go_if_eq rfl (tgt := 24) (by decide) (fun c12 => ?_) (fun c12 => ?_)
    · refine go_bipush rfl ?_
      exact go_iret rfl (Or.inl rfl) ⟨_, rfl, by unfold no_F; rw [if_neg (by have := rd_n0 c12; omega)], F1.mf, I1⟩
    · have x2 := rd_n1 c12
      refine go_aload_n rfl rfl ?_
      refine go_iload_n rfl rfl ?_
      refine go_iload_n rfl rfl ?_
      refine go_cV2I (M' := m_X7_namesOffOf) rfl l_X7_220 k_X7_namesOffOf (j_namesOffOf I1 R1 (by rw [F1.1 1 (by decide)]; exact x1) x2) rfl rfl rfl rfl (by decide) (Nat.le_of_ble_eq_true rfl) (fun z18 h18 q18 => ?_) -- X7_namesOffOf
      obtain ⟨rfl, F2⟩ := q18
      refine go_goto rfl (tgt := 26) (by decide) ?_
      exact go_iret rfl (Or.inl rfl) ⟨_, rfl, by unfold no_F; rw [if_pos ⟨x1, x2⟩, TA_same F1.mf.k9], F1.mf.trans (mf_80 F2), I1.mf (mf_80 F2)⟩
theorem op_namesOff {g : ab_G} {h : ab_H} {i t : Int} (I : Inv h) : opI g 6 8 m_X6_namesOff m_X7_namesOff [a_I i, a_I t] h := op_q (F := fun h => no_F h i t) I (c_namesOff I) (fun h I => j_namesOff I) (fun h' F => by unfold no_F; simp only [TA_same F.k9, F.k9 1 (by decide)])
