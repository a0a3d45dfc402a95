/-! calls of both: letter, late -/
noncomputable def le_F (h : ab_H) (p u q w : Int) : Int := if (0 ≤ p ∧ p ≤ h 1 7) ∧ (0 ≤ u ∧ u ≤ 199) ∧ (0 ≤ q ∧ q ≤ h 1 7) ∧ 0 ≤ w ∧ w ≤ 1 then (if w = 0 then tb_lb (h 1 8) (TW h) p u else tb_lt (h 1 8) (TW h) p u q) else -2
noncomputable def la_F (h : ab_H) : Int := wk_num (fun l => ¬ tb_lt (h 1 8) (TW h) (h 25 l) (h 26 l) (h 27 l) = h 28 l) (h 24 5).toNat
set_option maxHeartbeats 4000000 in
set_option maxRecDepth 100000 in
theorem c_letter {g : ab_G} {h : ab_H} {p u q w : Int} (I : Inv h) : MethI g 6 m_X6_letter [a_R 0, a_I p, a_I u, a_I q, a_I w] h (fun z h' => z = le_F h p u q w ∧ CF h h' ∧ Inv h') := by
  have r1 := I.ro.1
  refine Meth.of_go k_X6_letter (Nat.le_of_ble_eq_true rfl) ?_
  show Go g _ m_X6_letter _ 0 [some (a_R 0), some (a_I p), some (a_I u), some (a_I q), some (a_I w), none, none] [] h
  refine go_aload_n rfl rfl ?_
  refine go_iload_n rfl rfl ?_
  refine go_cV1I (M' := m_X6_isPace) rfl l_X6_148 k_X6_isPace (s_X6_isPace) rfl rfl rfl rfl (by decide) (Nat.le_of_ble_eq_true rfl) (fun z2 h2 q2 => ?_) -- X6_isPace
  obtain ⟨rfl, rfl⟩ := q2
  refine go_if_eq rfl (tgt := 38) (by decide) (fun c5 => ?_) (fun c5 => ?_)
  · refine go_bipush rfl ?_
    exact go_iret rfl (Or.inl rfl) ⟨_, rfl, by unfold le_F; rw [if_neg (by have := rd_n0 c5; omega)], CF.refl h, I⟩
  · refine go_iload_n rfl rfl ?_
    refine go_if_lt rfl (tgt := 38) (by decide) (fun c9 => ?_) (fun c9 => ?_)
    · refine go_bipush rfl ?_
      exact go_iret rfl (Or.inl rfl) ⟨_, rfl, by unfold le_F; rw [if_neg (by skip; omega)], CF.refl h, I⟩
    · refine go_iload_n rfl rfl ?_
      refine go_sipush rfl ?_
      refine go_icmp_gt rfl (tgt := 38) (by decide) (fun c16 => ?_) (fun c16 => ?_)
      · refine go_bipush rfl ?_
        exact go_iret rfl (Or.inl rfl) ⟨_, rfl, by unfold le_F; rw [if_neg (by skip; omega)], CF.refl h, I⟩
      · refine go_aload_n rfl rfl ?_
        refine go_iload_n rfl rfl ?_
        refine go_cV1I (M' := m_X6_isPace) rfl l_X6_148 k_X6_isPace (s_X6_isPace) rfl rfl rfl rfl (by decide) (Nat.le_of_ble_eq_true rfl) (fun z21 h21 q21 => ?_) -- X6_isPace
        obtain ⟨rfl, rfl⟩ := q21
        refine go_if_eq rfl (tgt := 38) (by decide) (fun c24 => ?_) (fun c24 => ?_)
        · refine go_bipush rfl ?_
          exact go_iret rfl (Or.inl rfl) ⟨_, rfl, by unfold le_F; rw [if_neg (by have := rd_n0 c24; omega)], CF.refl h, I⟩
        · refine go_iload rfl rfl ?_
          refine go_if_lt rfl (tgt := 38) (by decide) (fun c29 => ?_) (fun c29 => ?_)
          · refine go_bipush rfl ?_
            exact go_iret rfl (Or.inl rfl) ⟨_, rfl, by unfold le_F; rw [if_neg (by skip; omega)], CF.refl h, I⟩
          · refine go_iload rfl rfl ?_
            refine go_iconst rfl ?_
            refine go_icmp_le rfl (tgt := 41) (by decide) (fun c35 => ?_) (fun c35 => ?_)
            · have y1 := rd_n1 c5
              have y2 := rd_n1 c24
              have l1 := I.ro.2.1
              refine go_aload_n rfl rfl ?_
              refine go_cV0V (M' := m_X6_refresh) rfl l_X6_107 k_X6_refresh (j_refresh I) rfl rfl rfl rfl (by decide) (Nat.le_of_ble_eq_true rfl) (fun h42 q42 => ?_) -- X6_refresh
              obtain ⟨F1, I1, T1⟩ := q42
              refine go_aload_n rfl rfl ?_
              refine go_getR rfl f_X6_33 rfl rfl ?_ -- course
              refine go_iload_n rfl rfl ?_
              refine go_iload_n rfl rfl ?_
              refine go_cV2I (M' := m_X0_taken) rfl l_X6_151 k_X0_taken (s_X0_taken T1.1 (by omega) (by omega)) rfl rfl rfl rfl (by decide) (Nat.le_of_ble_eq_true rfl) (fun z51 h51 q51 => ?_) -- X0_taken
              obtain ⟨rfl, rfl⟩ := q51
              refine go_istore rfl (by decide) rfl ?_
              refine go_iload rfl rfl ?_
              refine go_iconst rfl ?_
              refine go_icmp_ne rfl (tgt := 64) (by decide) (fun c59 => ?_) (fun c59 => ?_)
              · refine go_aload_n rfl rfl ?_
                refine go_getR rfl f_X6_33 rfl rfl ?_ -- course
                refine go_iload_n rfl rfl ?_
                refine go_iload rfl rfl ?_
                refine go_cV2I (M' := m_X0_bagThere) rfl l_X6_154 k_X0_bagThere (s_X0_bagThere T1.1 (by have := tb_tk_in (by omega) c59; omega) (by omega)) rfl rfl rfl rfl (by decide) (Nat.le_of_ble_eq_true rfl) (fun z71 h71 q71 => ?_) -- X0_bagThere
                obtain ⟨rfl, rfl⟩ := q71
                refine go_istore rfl (by decide) rfl ?_
                refine go_iload rfl rfl ?_
                refine go_if_ne rfl (tgt := 86) (by decide) (fun c78 => ?_) (fun c78 => ?_)
                · refine go_aload_n rfl rfl ?_
                  refine go_getR rfl f_X6_33 rfl rfl ?_ -- course
                  refine go_iload rfl rfl ?_
                  refine go_iload rfl rfl ?_
                  refine go_iload_n rfl rfl ?_
                  refine go_cV3I (M' := m_X0_bagComes) rfl l_X6_157 k_X0_bagComes (s_X0_bagComes T1.1 (by omega) (by have := tb_tk_in (by omega) c59; omega)) rfl rfl rfl rfl (by decide) (Nat.le_of_ble_eq_true rfl) (fun z95 h95 q95 => ?_) -- X0_bagComes
                  obtain ⟨rfl, rfl⟩ := q95
                  exact go_iret rfl (Or.inl rfl) ⟨_, rfl, by unfold le_F; rw [if_pos (by omega)]; unfold tb_lt tb_lb; rw [if_neg c78, if_neg c59, if_neg c59], F1, I1⟩
                · refine go_iload rfl rfl ?_
                  refine go_goto rfl (tgt := 98) (by decide) ?_
                  exact go_iret rfl (Or.inl rfl) ⟨_, rfl, by unfold le_F; rw [if_pos (by omega)]; unfold tb_lb; rw [if_pos c78, if_neg c59], F1, I1⟩
              · refine go_iconst rfl ?_
                exact go_iret rfl (Or.inl rfl) ⟨_, rfl, by unfold le_F; rw [if_pos (by omega)]; unfold tb_lt tb_lb; rw [if_pos c59, if_pos c59]; split <;> rfl, F1, I1⟩
            · refine go_bipush rfl ?_
              exact go_iret rfl (Or.inl rfl) ⟨_, rfl, by unfold le_F; rw [if_neg (by skip; omega)], CF.refl h, I⟩
set_option maxHeartbeats 4000000 in
set_option maxRecDepth 100000 in
theorem j_letter {g : ab_G} {h : ab_H} {p u q w : Int} (I : Inv h) : MethI g 8 m_X7_letter [a_R 62, a_I p, a_I u, a_I q, a_I w] h (fun z h' => z = le_F h p u q w ∧ MF h h' ∧ Inv h') := by
  have r1 := I.ro.1
  refine Meth.of_go k_X7_letter (Nat.le_of_ble_eq_true rfl) ?_
  show Go g _ m_X7_letter _ 0 [some (a_R 62), some (a_I p), some (a_I u), some (a_I q), some (a_I w)] [] h
  refine go_aload_n rfl rfl ?_
  refine go_cV0I (M' := m_X7_reads) rfl l_X7_140 k_X7_reads (j_reads I) rfl rfl rfl rfl (by decide) (Nat.le_of_ble_eq_true rfl) (fun z1 h1 q1 => ?_) -- X7_reads
  obtain ⟨-, F1, R1, I1⟩ := q1
  have e8 : h1 62 8 = h 1 7 := by rw [R1.1, F1.1 1 (by decide)]
  refine go_pop rfl ?_
  refine go_aload_n rfl rfl ?_
  refine go_iload_n rfl rfl ?_
  refine go_cV1I (M' := m_X7_isPace) rfl l_X7_237 k_X7_isPace (s_X7_isPace) rfl rfl rfl rfl (by decide) (Nat.le_of_ble_eq_true rfl) (fun z7 h7 q7 => ?_) -- X7_isPace
  obtain ⟨rfl, rfl⟩ := q7
  refine go_if_eq rfl (tgt := 36) (by decide) (fun c10 => ?_) (fun c10 => ?_)
  · refine go_bipush rfl ?_
    exact go_iret rfl (Or.inl rfl) ⟨_, rfl, by unfold le_F; rw [if_neg (by have := rd_n0 c10; omega)], F1.mf, I1⟩
  · refine go_iload_n rfl rfl ?_
    refine go_cS1I (M' := m_X7_isMinute) rfl l_X7_240 k_X7_isMinute (s_X7_isMinute) rfl (by decide) (Nat.le_of_ble_eq_true rfl) (fun z14 h14 q14 => ?_) -- X7_isMinute
    obtain ⟨rfl, rfl⟩ := q14
    refine go_if_eq rfl (tgt := 36) (by decide) (fun c17 => ?_) (fun c17 => ?_)
    · refine go_bipush rfl ?_
      exact go_iret rfl (Or.inl rfl) ⟨_, rfl, by unfold le_F; rw [if_neg (by have := rd_n0 c17; omega)], F1.mf, I1⟩
    · refine go_aload_n rfl rfl ?_
      refine go_iload_n rfl rfl ?_
      refine go_cV1I (M' := m_X7_isPace) rfl l_X7_237 k_X7_isPace (s_X7_isPace) rfl rfl rfl rfl (by decide) (Nat.le_of_ble_eq_true rfl) (fun z22 h22 q22 => ?_) -- X7_isPace
      obtain ⟨rfl, rfl⟩ := q22
      refine go_if_eq rfl (tgt := 36) (by decide) (fun c25 => ?_) (fun c25 => ?_)
      · refine go_bipush rfl ?_
        exact go_iret rfl (Or.inl rfl) ⟨_, rfl, by unfold le_F; rw [if_neg (by have := rd_n0 c25; omega)], F1.mf, I1⟩
      · refine go_iload rfl rfl ?_
        refine go_cS1I (M' := m_X7_isTwo) rfl l_X7_149 k_X7_isTwo (s_X7_isTwo) rfl (by decide) (Nat.le_of_ble_eq_true rfl) (fun z30 h30 q30 => ?_) -- X7_isTwo
        obtain ⟨rfl, rfl⟩ := q30
        refine go_if_ne rfl (tgt := 39) (by decide) (fun c33 => ?_) (fun c33 => ?_)
        · have x1 := rd_n1 c10
          have x2 := rd_n1 c17
          have x3 := rd_n1 c25
          have x4 := rd_n1 c33
          have l1 := I.ro.2.1
          refine go_aload_n rfl rfl ?_
          refine go_cV0V (M' := m_X7_find) rfl l_X7_196 k_X7_find (j_find I1) rfl rfl rfl rfl (by decide) (Nat.le_of_ble_eq_true rfl) (fun h40 q40 => ?_) -- X7_find
          obtain ⟨F2, T2, I2⟩ := q40
          have T2 := MT_same F1.mf.k9 T2
          refine go_aload_n rfl rfl ?_
          refine go_iload_n rfl rfl ?_
          refine go_iload_n rfl rfl ?_
          refine go_iload_n rfl rfl ?_
          refine go_cV3V (M' := m_X7_findLetter) rfl l_X7_243 k_X7_findLetter (s_X7_findLetter T2.1 (TW_pm I) (by omega) (by omega) (by omega)) rfl rfl rfl rfl (by decide) (Nat.le_of_ble_eq_true rfl) (fun h47 q47 => ?_) -- X7_findLetter
          obtain ⟨k1, k2, F3⟩ := q47
          refine go_iload rfl rfl ?_
          refine go_if_ne rfl (tgt := 62) (by decide) (fun c52 => ?_) (fun c52 => ?_)
          · refine go_aload_n rfl rfl ?_
            refine go_getI rfl f_X7_232 rfl rfl rfl ?_ -- letterTime
            exact go_iret rfl (Or.inl rfl) ⟨_, rfl, by unfold le_F; rw [if_pos (by omega), if_neg c52]; exact k2, (F1.mf.trans F2).trans F3.mf, I2.mf F3.mf⟩
          · refine go_aload_n rfl rfl ?_
            refine go_getI rfl f_X7_229 rfl rfl rfl ?_ -- letterBag
            refine go_goto rfl (tgt := 66) (by decide) ?_
            exact go_iret rfl (Or.inl rfl) ⟨_, rfl, by unfold le_F; rw [if_pos (by omega), if_pos c52]; exact k1, (F1.mf.trans F2).trans F3.mf, I2.mf F3.mf⟩
        · refine go_bipush rfl ?_
          exact go_iret rfl (Or.inl rfl) ⟨_, rfl, by unfold le_F; rw [if_neg (by have := rd_n0 c33; omega)], F1.mf, I1⟩
theorem op_letter {g : ab_G} {h : ab_H} {p u q w : Int} (I : Inv h) : opI g 6 8 m_X6_letter m_X7_letter [a_I p, a_I u, a_I q, a_I w] h := op_q (F := fun h => le_F h p u q w) I (c_letter I) (fun h I => j_letter I) (fun h' F => by unfold le_F TW; simp only [tW_same F.k9, tM_same F.k9, F.k9 1 (by decide)])
set_option maxHeartbeats 4000000 in
set_option maxRecDepth 100000 in
theorem lp_X6_late {g : ab_G} {h : ab_H} {W : tb_W} {m : Int} {Q : Option ab_V → ab_H → Prop} (C : ct m W h) (L : iv_L h) (hq : ∀ z, z = wk_num (fun l => ¬ tb_lt m W (h 25 l) (h 26 l) (h 27 l) = h 28 l) (h 24 5).toNat → Q (some (a_I z)) h) : ∀ (f : Nat) (l s : Int), 0 ≤ l → l ≤ h 24 5 → h 24 5 - l < f → s = wk_num (fun l => ¬ tb_lt m W (h 25 l) (h 26 l) (h 27 l) = h 28 l) l.toNat → ∀ v, Go g (ab_rm 6, 0, 0) m_X6_late Q 8 [some (a_R 0), some (a_I s), some (a_I l), v] [] h := by
  have L1 := L.1
  intro f
  induction f with
  | zero => intro l s h0l h1 hf; omega
  | succ f ih =>
    intro l s h0l h1 hf J v
    have b1 := wn_in (q := (fun l => ¬ tb_lt m W (h 25 l) (h 26 l) (h 27 l) = h 28 l)) l.toNat
    rw [← J] at b1
    refine go_iload_n rfl rfl ?_
    refine go_aload_n rfl rfl ?_
    refine go_getR rfl f_X6_40 rfl rfl ?_ -- letters
    refine go_getI rfl f_X6_188 rfl rfl rfl ?_ -- size
    refine go_icmp_ge rfl (tgt := 76) (by decide) (fun c16 => ?_) (fun c16 => ?_)
    · refine go_iload_n rfl rfl ?_
      exact go_iret rfl (Or.inl rfl) (hq _ (by rw [show l = h 24 5 by omega] at J; exact J))
    · have y := (L.2.2 l h0l (by omega)).1
      refine go_aload_n rfl rfl ?_
      refine go_getR rfl f_X6_33 rfl rfl ?_ -- course
      refine go_aload_n rfl rfl ?_
      refine go_getR rfl f_X6_40 rfl rfl ?_ -- letters
      refine go_getR rfl f_X6_209 rfl rfl ?_ -- from
      refine go_iload_n rfl rfl ?_
      refine go_iald rfl rfl (by omega) (by omega) ?_
      refine go_aload_n rfl rfl ?_
      refine go_getR rfl f_X6_40 rfl rfl ?_ -- letters
      refine go_getR rfl f_X6_212 rfl rfl ?_ -- minute
      refine go_iload_n rfl rfl ?_
      refine go_iald rfl rfl (by omega) (by omega) ?_
      refine go_aload_n rfl rfl ?_
      refine go_getR rfl f_X6_40 rfl rfl ?_ -- letters
      refine go_getR rfl f_X6_215 rfl rfl ?_ -- to
      refine go_iload_n rfl rfl ?_
      refine go_iald rfl rfl (by omega) (by omega) ?_
      refine go_cV3I (M' := m_X0_comes) rfl l_X6_218 k_X0_comes (s_X0_comes C y.1 y.2.1 y.2.2.1) rfl rfl rfl rfl (by decide) (Nat.le_of_ble_eq_true rfl) (fun z50 h50 q50 => ?_) -- X0_comes
      obtain ⟨rfl, rfl⟩ := q50
      refine go_istore_n rfl (by decide) rfl ?_
      refine go_iload_n rfl rfl ?_
      refine go_aload_n rfl rfl ?_
      refine go_getR rfl f_X6_40 rfl rfl ?_ -- letters
      refine go_getR rfl f_X6_221 rfl rfl ?_ -- told
      refine go_iload_n rfl rfl ?_
      refine go_iald rfl rfl (by omega) (by omega) ?_
      refine go_icmp_eq rfl (tgt := 70) (by decide) (fun c64 => ?_) (fun c64 => ?_)
      · refine go_iinc rfl rfl (by decide) rfl (by unfold ab_iok; omega) ?_
        refine go_goto rfl (tgt := 8) (by decide) ?_
        exact ih (l + 1) _ (by omega) (by omega) (by omega) (by rw [wn_nx h0l, ← J, rd_f (fun z => z c64)]; omega) _
      · refine go_iinc rfl rfl (by decide) rfl (by unfold ab_iok; omega) ?_
        refine go_iinc rfl rfl (by decide) rfl (by unfold ab_iok; omega) ?_
        refine go_goto rfl (tgt := 8) (by decide) ?_
        exact ih (l + 1) _ (by omega) (by omega) (by omega) (by rw [wn_nx h0l, ← J, rd_t c64]) _
set_option maxHeartbeats 4000000 in
set_option maxRecDepth 100000 in
theorem c_late {g : ab_G} {h : ab_H} (I : Inv h) : MethI g 6 m_X6_late [a_R 0] h (fun z h' => z = la_F h ∧ CF h h' ∧ Inv h') := by
  have r1 := I.ro.1
  refine Meth.of_go k_X6_late (Nat.le_of_ble_eq_true rfl) ?_
  show Go g _ m_X6_late _ 0 [some (a_R 0), none, none, none] [] h
  refine go_aload_n rfl rfl ?_
  refine go_cV0V (M' := m_X6_refresh) rfl l_X6_107 k_X6_refresh (j_refresh I) rfl rfl rfl rfl (by decide) (Nat.le_of_ble_eq_true rfl) (fun h1 q1 => ?_) -- X6_refresh
  obtain ⟨F1, I1, T1⟩ := q1
  refine go_iconst rfl ?_
  refine go_istore_n rfl (by decide) rfl ?_
  refine go_iconst rfl ?_
  refine go_istore_n rfl (by decide) rfl ?_
  exact lp_X6_late T1.1 I1.2.2.2.1 (fun z e => ⟨_, rfl, by rw [e]; unfold la_F; rw [F1.1 25 (by decide), F1.1 26 (by decide), F1.1 27 (by decide), F1.1 28 (by decide), F1.2.2 5 (by decide)], F1, I1⟩) 20 0 0 (by omega) I1.2.2.2.1.1.1 (by have := I1.2.2.2.1.1; omega) rfl _
set_option maxHeartbeats 4000000 in
set_option maxRecDepth 100000 in
theorem lp_X7_lateOf {g : ab_G} {h0 : ab_H} {W : tb_W} {m : Int} {Q : Option ab_V → ab_H → Prop} (T : mtw m 63 W h0) (hP : tb_pm m W) (L : iv_L h0) (hq : ∀ z h, z = wk_num (fun l => ¬ tb_lt m W (h0 25 l) (h0 26 l) (h0 27 l) = h0 28 l) (h0 24 5).toNat → LF h0 h → Q (some (a_I z)) h) : ∀ (f : Nat) (l s : Int) (h : ab_H), 0 ≤ l → l ≤ h0 24 5 → h0 24 5 - l < f → s = wk_num (fun l => ¬ tb_lt m W (h0 25 l) (h0 26 l) (h0 27 l) = h0 28 l) l.toNat → LF h0 h → Go g (ab_rm 5, 0, 0) m_X7_lateOf Q 4 [some (a_R 62), some (a_I s), some (a_I l)] [] h := by
  have L1 := L.1
  have L2 := L.2.1
  intro f
  induction f with
  | zero => intro l s h h0l h1 hf; omega
  | succ f ih =>
    intro l s h h0l h1 hf J F
    have e81 : h 81 = h0 81 := F.1 81 (by decide)
    have e27 : h 62 27 = h0 24 5 := by rw [F.2 27 (by decide)]; exact L2
    have b1 := wn_in (q := (fun l => ¬ tb_lt m W (h0 25 l) (h0 26 l) (h0 27 l) = h0 28 l)) l.toNat
    rw [← J] at b1
    refine go_iload_n rfl rfl ?_
    refine go_aload_n rfl rfl ?_
    refine go_getI rfl f_X7_271 rfl rfl rfl ?_ -- letters
    refine go_icmp_ge rfl (tgt := 75) (by decide) (fun c9 => ?_) (fun c9 => ?_)
    · refine go_iload_n rfl rfl ?_
      exact go_iret rfl (Or.inl rfl) (hq _ h (by rw [show l = h0 24 5 by omega] at J; exact J) F)
    · have y := L.2.2 l h0l (by omega)
      refine go_aload_n rfl rfl ?_
      refine go_aload_n rfl rfl ?_
      refine go_getR rfl f_X7_65 rfl rfl ?_ -- told
      refine go_iconst rfl ?_
      refine go_iload_n rfl rfl ?_
      refine go_imul rfl (by unfold ab_iok; omega) ?_
      refine go_iald rfl rfl (by omega) (by omega) ?_
      refine go_aload_n rfl rfl ?_
      refine go_getR rfl f_X7_65 rfl rfl ?_ -- told
      refine go_iconst rfl ?_
      refine go_iload_n rfl rfl ?_
      refine go_imul rfl (by unfold ab_iok; omega) ?_
      refine go_iconst rfl ?_
      refine go_iadd rfl (by unfold ab_iok; omega) ?_
      refine go_iald rfl rfl (by omega) (by omega) ?_
      refine go_aload_n rfl rfl ?_
      refine go_getR rfl f_X7_65 rfl rfl ?_ -- told
      refine go_iconst rfl ?_
      refine go_iload_n rfl rfl ?_
      refine go_imul rfl (by unfold ab_iok; omega) ?_
      refine go_iconst rfl ?_
      refine go_iadd rfl (by unfold ab_iok; omega) ?_
      refine go_iald rfl rfl (by omega) (by omega) ?_
      refine go_cV3V (M' := m_X7_findLetter) rfl l_X7_243 k_X7_findLetter (s_X7_findLetter (p := h 81 (4 * l)) (u := h 81 (4 * l + 1)) (q := h 81 (4 * l + 2)) (F.mtw T) hP (by rw [e81, y.2.1]; exact y.1.1) (by rw [e81, y.2.2.1]; exact y.1.2.1) (by rw [e81, y.2.2.2.1]; exact y.1.2.2.1)) rfl rfl rfl rfl (by decide) (Nat.le_of_ble_eq_true rfl) (fun h41 q41 => ?_) -- X7_findLetter
      obtain ⟨k1, k2, F3⟩ := q41
      rw [e81, y.2.1, y.2.2.1, y.2.2.2.1] at k2
      have E : h41 62 26 = h41 81 (4 * l + 3) → tb_lt m W (h0 25 l) (h0 26 l) (h0 27 l) = h0 28 l := fun z => by rw [← k2, z, F3.1 81 (by decide), e81]; exact y.2.2.2.2
      have E2 : tb_lt m W (h0 25 l) (h0 26 l) (h0 27 l) = h0 28 l → h41 62 26 = h41 81 (4 * l + 3) := fun z => by rw [k2, z, F3.1 81 (by decide), e81]; exact y.2.2.2.2.symm
      refine go_iload_n rfl rfl ?_
      refine go_aload_n rfl rfl ?_
      refine go_getI rfl f_X7_232 rfl rfl rfl ?_ -- letterTime
      refine go_aload_n rfl rfl ?_
      refine go_getR rfl f_X7_65 rfl rfl ?_ -- told
      refine go_iconst rfl ?_
      refine go_iload_n rfl rfl ?_
      refine go_imul rfl (by unfold ab_iok; omega) ?_
      refine go_iconst rfl ?_
      refine go_iadd rfl (by unfold ab_iok; omega) ?_
      refine go_iald rfl rfl (by omega) (by omega) ?_
      refine go_icmp_ne rfl (tgt := 66) (by decide) (fun c59 => ?_) (fun c59 => ?_)
      · refine go_iconst rfl ?_
        refine go_iadd rfl (by unfold ab_iok; omega) ?_
        refine go_istore_n rfl (by decide) rfl ?_
        refine go_iinc rfl rfl (by decide) rfl (by unfold ab_iok; omega) ?_
        refine go_goto rfl (tgt := 4) (by decide) ?_
        exact ih (l + 1) _ _ (by omega) (by omega) (by omega) (by rw [wn_nx h0l, ← J, rd_t (fun z => c59 (E2 z))]) (F.trans F3)
      · refine go_iconst rfl ?_
        refine go_goto rfl (tgt := 67) (by decide) ?_
        refine go_iadd rfl (by unfold ab_iok; omega) ?_
        refine go_istore_n rfl (by decide) rfl ?_
        refine go_iinc rfl rfl (by decide) rfl (by unfold ab_iok; omega) ?_
        refine go_goto rfl (tgt := 4) (by decide) ?_
        exact ih (l + 1) _ _ (by omega) (by omega) (by omega) (by rw [wn_nx h0l, ← J, rd_f (fun z => z (E c59))]) (F.trans F3)
set_option maxHeartbeats 4000000 in
set_option maxRecDepth 100000 in
theorem s_X7_lateOf {g : ab_G} {h : ab_H} {W : tb_W} {m : Int} (T : mtw m 63 W h) (hP : tb_pm m W) (L : iv_L h) : MethI g 5 m_X7_lateOf [a_R 62] h (fun z h' => z = wk_num (fun l => ¬ tb_lt m W (h 25 l) (h 26 l) (h 27 l) = h 28 l) (h 24 5).toNat ∧ LF h h') := by
  refine Meth.of_go k_X7_lateOf (Nat.le_of_ble_eq_true rfl) ?_
  show Go g _ m_X7_lateOf _ 0 [some (a_R 62), none, none] [] h
  refine go_iconst rfl ?_
  refine go_istore_n rfl (by decide) rfl ?_
  refine go_iconst rfl ?_
  refine go_istore_n rfl (by decide) rfl ?_
  exact lp_X7_lateOf T hP L (fun z h2 e F => ⟨_, rfl, e, F⟩) 20 0 0 h (by omega) L.1.1 (by have := L.1; omega) rfl (LF.refl h)
set_option maxHeartbeats 4000000 in
set_option maxRecDepth 100000 in
theorem j_late {g : ab_G} {h : ab_H} (I : Inv h) : MethI g 8 m_X7_late [a_R 62] h (fun z h' => z = la_F h ∧ MF h h' ∧ Inv h') := by
  have r1 := I.ro.1
  refine Meth.of_go k_X7_late (Nat.le_of_ble_eq_true rfl) ?_
  show Go g _ m_X7_late _ 0 [some (a_R 62)] [] h
  refine go_aload_n rfl rfl ?_
  refine go_cV0V (M' := m_X7_find) rfl l_X7_196 k_X7_find (j_find I) rfl rfl rfl rfl (by decide) (Nat.le_of_ble_eq_true rfl) (fun h1 q1 => ?_) -- X7_find
  obtain ⟨F2, T2, I2⟩ := q1
  refine go_aload_n rfl rfl ?_
  refine go_cV0I (M' := m_X7_lateOf) rfl l_X7_278 k_X7_lateOf (s_X7_lateOf T2.1 (TW_pm I) I2.2.2.2.1) rfl rfl rfl rfl (by decide) (Nat.le_of_ble_eq_true rfl) (fun z5 h5 q5 => ?_) -- X7_lateOf
  obtain ⟨rfl, F3⟩ := q5
  exact go_iret rfl (Or.inl rfl) ⟨_, rfl, by unfold la_F; rw [F2.1 25 (by decide), F2.1 26 (by decide), F2.1 27 (by decide), F2.1 28 (by decide), F2.1 24 (by decide)], F2.trans F3.mf, I2.mf F3.mf⟩
theorem op_late {g : ab_G} {h : ab_H} (I : Inv h) : opI g 6 8 m_X6_late m_X7_late [] h := op_q (F := fun h => la_F h) I (c_late I) (fun h I => j_late I) (fun h' F => by unfold la_F TW; simp only [tW_same F.k9, F.k9 1 (by decide), F.1 25 (by decide), F.1 26 (by decide), F.1 27 (by decide), F.1 28 (by decide), F.2.2 5 (by decide)])
