/-! again, isTrue -/
def aq (W : tb_W) (t i : Int) : Prop := (W t).1 i = (W 0).1 i ∧ (W t).2.1 i = (W 0).2.1 i ∧ (W t).2.2 i = (W 0).2.2 i
def all_P (q : Int → Prop) (i : Int) : Prop := ∀ j, 0 ≤ j → j < i → q j
theorem al_t {q : Int → Prop} {i : Int} (A : all_P q i) (h : q i) : all_P q (i + 1) := fun j j0 j1 => by
  by_cases e : j = i
  · subst e; exact h
  · exact A j j0 (by omega)
theorem al_f {q : Int → Prop} {i m : Int} (hi : 0 ≤ i) (him : i < m) (h : ¬ q i) : ¬ all_P q m := fun A => h (A i hi him)
set_option maxHeartbeats 4000000 in
set_option maxRecDepth 100000 in
theorem lp_X7_againIn {g : ab_G} {h : ab_H} {W : tb_W} {m t : Int} {Q : Option ab_V → ab_H → Prop} (T : mtw m 63 W h) (ht : 1 ≤ t ∧ t ≤ 400) (K : ∀ s, s = rd_bool (all_P (aq W t) m) → ∀ i v, Go g (ab_rm 2, 0, 0) m_X7_againNow Q 93 [some (a_R 62), some (a_I t), some (a_I s), some (a_I i), v] [] h) : ∀ (f : Nat) (i s : Int), 0 ≤ i → i ≤ m → m - i < f → s = rd_bool (all_P (aq W t) i) → ∀ v, Go g (ab_rm 2, 0, 0) m_X7_againNow Q 13 [some (a_R 62), some (a_I t), some (a_I s), some (a_I i), v] [] h := by
  obtain ⟨⟨e9, e18, hm, hw⟩, -⟩ := id T
  intro f
  induction f with
  | zero => intro i s h0i h1 hf; omega
  | succ f ih =>
    intro i s h0i h1 hf J v
    refine go_iload_n rfl rfl ?_
    refine go_aload_n rfl rfl ?_
    refine go_getI rfl f_X7_110 rfl rfl rfl ?_ -- men
    refine go_icmp_ge rfl (tgt := 93) (by decide) (fun c18 => ?_) (fun c18 => ?_)
    · exact K s (by rw [show i = m by omega] at J; exact J) _ _
    · refine go_iload_n rfl rfl ?_
      refine go_if_eq rfl (tgt := 93) (by decide) (fun c22 => ?_) (fun c22 => ?_)
      · exact K s (by rw [c22]; exact (rd_f (fun z => rd_n0 (J.symm.trans c22) (fun j j0 j1 => z j j0 (by omega)))).symm) _ _
      · have bt := wk_all (show 0 ≤ i ∧ i < 6 by omega)
        have z0 := T.2 0 i (by omega) (by omega) h0i (by omega) bt
        rw [show 6 * (0 : Int) + i = i by omega] at z0
        refine go_bipush rfl ?_
        refine go_iload_n rfl rfl ?_
        refine go_imul rfl (by unfold ab_iok; omega) ?_
        refine go_iload_n rfl rfl ?_
        refine go_iadd rfl (by unfold ab_iok; omega) ?_
        refine go_istore rfl (by decide) rfl ?_
        refine go_aload_n rfl rfl ?_
        refine go_getR rfl f_X7_46 rfl rfl ?_ -- places
        refine go_iload rfl rfl ?_
        refine go_iald rfl rfl (by omega) (by omega) ?_
        rw [(T.2 t i (by omega) (by omega) h0i (by omega) bt).1]
        refine go_aload_n rfl rfl ?_
        refine go_getR rfl f_X7_46 rfl rfl ?_ -- places
        refine go_iload_n rfl rfl ?_
        refine go_iald rfl rfl (by omega) (by omega) ?_
        rw [z0.1]
        refine go_icmp_ne rfl (tgt := 85) (by decide) (fun c46 => ?_) (fun c46 => ?_)
        · refine go_iconst rfl ?_
          refine go_istore_n rfl (by decide) rfl ?_
          refine go_iinc rfl rfl (by decide) rfl (by unfold ab_iok; omega) ?_
          refine go_goto rfl (tgt := 13) (by decide) ?_
          exact ih (i + 1) 0 (by omega) (by omega) (by omega) (rd_f (al_f h0i (by omega) (fun z => c46 z.1))).symm _
        · refine go_aload_n rfl rfl ?_
          refine go_getR rfl f_X7_49 rfl rfl ?_ -- facing
          refine go_iload rfl rfl ?_
          refine go_iald rfl rfl (by omega) (by omega) ?_
          rw [(T.2 t i (by omega) (by omega) h0i (by omega) bt).2.1]
          refine go_aload_n rfl rfl ?_
          refine go_getR rfl f_X7_49 rfl rfl ?_ -- facing
          refine go_iload_n rfl rfl ?_
          refine go_iald rfl rfl (by omega) (by omega) ?_
          rw [z0.2.1]
          refine go_icmp_ne rfl (tgt := 85) (by decide) (fun c62 => ?_) (fun c62 => ?_)
          · refine go_iconst rfl ?_
            refine go_istore_n rfl (by decide) rfl ?_
            refine go_iinc rfl rfl (by decide) rfl (by unfold ab_iok; omega) ?_
            refine go_goto rfl (tgt := 13) (by decide) ?_
            exact ih (i + 1) 0 (by omega) (by omega) (by omega) (rd_f (al_f h0i (by omega) (fun z => c62 z.2.1))).symm _
          · refine go_aload_n rfl rfl ?_
            refine go_getR rfl f_X7_52 rfl rfl ?_ -- bags
            refine go_iload rfl rfl ?_
            refine go_iald rfl rfl (by omega) (by omega) ?_
            rw [(T.2 t i (by omega) (by omega) h0i (by omega) bt).2.2]
            refine go_aload_n rfl rfl ?_
            refine go_getR rfl f_X7_52 rfl rfl ?_ -- bags
            refine go_iload_n rfl rfl ?_
            refine go_iald rfl rfl (by omega) (by omega) ?_
            rw [z0.2.2]
            refine go_icmp_ne rfl (tgt := 85) (by decide) (fun c78 => ?_) (fun c78 => ?_)
            · refine go_iconst rfl ?_
              refine go_istore_n rfl (by decide) rfl ?_
              refine go_iinc rfl rfl (by decide) rfl (by unfold ab_iok; omega) ?_
              refine go_goto rfl (tgt := 13) (by decide) ?_
              exact ih (i + 1) 0 (by omega) (by omega) (by omega) (rd_f (al_f h0i (by omega) (fun z => c78 z.2.2))).symm _
            · refine go_iconst rfl ?_
              refine go_goto rfl (tgt := 86) (by decide) ?_
              refine go_istore_n rfl (by decide) rfl ?_
              refine go_iinc rfl rfl (by decide) rfl (by unfold ab_iok; omega) ?_
              refine go_goto rfl (tgt := 13) (by decide) ?_
              exact ih (i + 1) 1 (by omega) (by omega) (by omega) (rd_t (al_t (rd_n1 (J ▸ c22)) ⟨c46, c62, c78⟩)).symm _
set_option maxHeartbeats 4000000 in
set_option maxRecDepth 100000 in
theorem lp_X7_againNow {g : ab_G} {h : ab_H} {W : tb_W} {m : Int} {Q : Option ab_V → ab_H → Prop} (T : mtw m 63 W h) (hq : ∀ z, Fst 1 401 (fun t => all_P (aq W t) m) z → Q (some (a_I z)) h) : ∀ (f : Nat) (t : Int), 1 ≤ t → t ≤ 401 → 401 - t < f → (∀ j, 1 ≤ j → j < t → ¬ (fun t => all_P (aq W t) m) j) → ∀ v1 v2 v3, Go g (ab_rm 2, 0, 0) m_X7_againNow Q 2 [some (a_R 62), some (a_I t), v1, v2, v3] [] h := by
  intro f
  induction f with
  | zero => intro t h0t h1 hf; omega
  | succ f ih =>
    intro t h0t h1 hf hI v1 v2 v3
    refine go_iload_n rfl rfl ?_
    refine go_sipush rfl ?_
    refine go_icmp_ge rfl (tgt := 105) (by decide) (fun c6 => ?_) (fun c6 => ?_)
    · refine go_iconst rfl ?_
      exact go_iret rfl (Or.inl rfl) (hq _ (Or.inl ⟨rfl, fun j j0 j1 => hI j j0 (by omega)⟩))
    · refine go_iconst rfl ?_
      refine go_istore_n rfl (by decide) rfl ?_
      refine go_iconst rfl ?_
      refine go_istore_n rfl (by decide) rfl ?_
      refine lp_X7_againIn T (by omega) (fun s2 e2 i v => ?_) 8 0 1 (by omega) T.1.2.2.1.1 (by have := T.1.2.2.1; omega) (rd_t (fun j j0 j1 => by omega)).symm _
      refine go_iload_n rfl rfl ?_
      refine go_if_eq rfl (tgt := 99) (by decide) (fun c94 => ?_) (fun c94 => ?_)
      · refine go_iinc rfl rfl (by decide) rfl (by unfold ab_iok; omega) ?_
        refine go_goto rfl (tgt := 2) (by decide) ?_
        exact ih (t + 1) (by omega) (by omega) (by omega) (fun j j0 j1 => by
          by_cases e : j = t
          · subst e; exact rd_n0 (e2.symm.trans c94)
          · exact hI j j0 (by omega)) _ _ _
      · refine go_iload_n rfl rfl ?_
        exact go_iret rfl (Or.inl rfl) (hq _ (Or.inr ⟨h0t, by omega, rd_n1 (fun y => c94 (e2.trans y)), hI⟩))
set_option maxHeartbeats 4000000 in
set_option maxRecDepth 100000 in
theorem s_X7_againNow {g : ab_G} {h : ab_H} {W : tb_W} {m : Int} (T : mtw m 63 W h) : MethI g 2 m_X7_againNow [a_R 62] h (fun z h' => h = h' ∧ z = fs 1 401 (fun t => all_P (aq W t) m)) := by
  refine Meth.of_go k_X7_againNow (Nat.le_of_ble_eq_true rfl) ?_
  show Go g _ m_X7_againNow _ 0 [some (a_R 62), none, none, none, none] [] h
  refine go_iconst rfl ?_
  refine go_istore_n rfl (by decide) rfl ?_
  exact lp_X7_againNow T (fun z e => ⟨_, rfl, rfl, fs_eq (by omega) e⟩) 500 1 (by omega) (by omega) (by omega) (fun j j0 j1 => by omega) _ _ _
set_option maxHeartbeats 4000000 in
set_option maxRecDepth 100000 in
theorem j_again {g : ab_G} {h : ab_H} (I : Inv h) : MethI g 8 m_X7_again [a_R 62] h (fun z h' => z = ag_F h ∧ MF h h' ∧ Inv h') := by
  have r1 := I.ro.1
  refine Meth.of_go k_X7_again (Nat.le_of_ble_eq_true rfl) ?_
  show Go g _ m_X7_again _ 0 [some (a_R 62)] [] h
  refine go_aload_n rfl rfl ?_
  refine go_cV0V (M' := m_X7_find) rfl l_X7_196 k_X7_find (j_find I) rfl rfl rfl rfl (by decide) (Nat.le_of_ble_eq_true rfl) (fun h1 q1 => ?_) -- X7_find
  obtain ⟨F2, T2, I2⟩ := q1
  refine go_aload_n rfl rfl ?_
  refine go_cV0I (M' := m_X7_againNow) rfl l_X7_226 k_X7_againNow (s_X7_againNow T2.1) rfl rfl rfl rfl (by decide) (Nat.le_of_ble_eq_true rfl) (fun z5 h5 q5 => ?_) -- X7_againNow
  obtain ⟨rfl, rfl⟩ := q5
  exact go_iret rfl (Or.inl rfl) ⟨_, rfl, rfl, F2, I2⟩
theorem op_again {g : ab_G} {h : ab_H} (I : Inv h) : opI g 6 8 m_X6_again m_X7_again [] h := op_q (F := fun h => ag_F h) I (c_again I) (fun h I => j_again I) (fun h' F => by unfold ag_F ag_P; simp only [tW_same F.k9, F.k9 1 (by decide)])
def tq (m : Int) (W : tb_W) (A : Int → Int → Int) (T b : Int) : Prop := ∀ t, 0 ≤ t → t ≤ T → tb_bp m W t b = A t b
theorem tq_end {m : Int} {W : tb_W} {A : Int → Int → Int} {T : Int} : all_P (tq m W A T) m ↔ ∀ t, 0 ≤ t → t ≤ T → ∀ b, 0 ≤ b → b < m → tb_bp m W t b = A t b := ⟨fun z t t0 t1 b b0 b1 => z b b0 b1 t t0 t1, fun z b b0 b1 t t0 t1 => z t t0 t1 b b0 b1⟩
set_option maxHeartbeats 4000000 in
set_option maxRecDepth 100000 in
theorem lp_X7_trueIn {g : ab_G} {h : ab_H} {W : tb_W} {A : Int → Int → Int} {m b T0 : Int} {Q : Option ab_V → ab_H → Prop} (T : mtw m 63 W h) (hP : tb_pm m W) (hb : 0 ≤ b ∧ b < m) (hT : 0 ≤ T0 ∧ T0 ≤ 400) (hA : ∀ s, 0 ≤ s → s ≤ 400 → h 80 s = A s b) (K : ∀ s, s = rd_bool (all_P (fun t => tb_bp m W t b = A t b) (T0 + 1)) → ∀ t, Go g (ab_rm 4, 0, 0) m_X7_isTrueOf Q 63 [some (a_R 62), some (a_I T0), some (a_I s), some (a_I b), some (a_I t)] [] h) : ∀ (f : Nat) (t s : Int), 0 ≤ t → t ≤ T0 + 1 → T0 + 1 - t < f → s = rd_bool (all_P (fun t => tb_bp m W t b = A t b) t) → Go g (ab_rm 4, 0, 0) m_X7_isTrueOf Q 24 [some (a_R 62), some (a_I T0), some (a_I s), some (a_I b), some (a_I t)] [] h := by
  intro f
  induction f with
  | zero => intro t s h0t h1 hf; omega
  | succ f ih =>
    intro t s h0t h1 hf J
    refine go_iload rfl rfl ?_
    refine go_iload_n rfl rfl ?_
    refine go_icmp_gt rfl (tgt := 63) (by decide) (fun c27 => ?_) (fun c27 => ?_)
    · exact K s (by rw [J]; exact rd_iff ⟨fun z j j0 j1 => z j j0 (by omega), fun z j j0 j1 => z j j0 (by omega)⟩) _
    · refine go_iload_n rfl rfl ?_
      refine go_if_eq rfl (tgt := 63) (by decide) (fun c31 => ?_) (fun c31 => ?_)
      · exact K s (by rw [c31]; exact (rd_f (fun z => rd_n0 (J.symm.trans c31) (fun j j0 j1 => z j j0 (by omega)))).symm) _
      · refine go_aload_n rfl rfl ?_
        refine go_iload_n rfl rfl ?_
        refine go_iload rfl rfl ?_
        refine go_cV2I (M' := m_X7_bagPlace) rfl l_X7_205 k_X7_bagPlace (s_X7_bagPlace T (by omega) (hP t h0t (by omega)) hb) rfl rfl rfl rfl (by decide) (Nat.le_of_ble_eq_true rfl) (fun z38 h38 q38 => ?_) -- X7_bagPlace
        obtain ⟨rfl, rfl⟩ := q38
        refine go_aload_n rfl rfl ?_
        refine go_getR rfl f_X7_62 rfl rfl ?_ -- alone
        refine go_iload rfl rfl ?_
        refine go_iald rfl rfl (by omega) (by omega) ?_
        rw [hA t h0t (by omega)]
        refine go_icmp_ne rfl (tgt := 55) (by decide) (fun c48 => ?_) (fun c48 => ?_)
        · refine go_iconst rfl ?_
          refine go_istore_n rfl (by decide) rfl ?_
          refine go_iinc rfl rfl (by decide) rfl (by unfold ab_iok; omega) ?_
          refine go_goto rfl (tgt := 24) (by decide) ?_
          exact ih (t + 1) 0 (by omega) (by omega) (by omega) (rd_f (al_f (q := fun t => tb_bp m W t b = A t b) h0t (by omega) c48)).symm
        · refine go_iconst rfl ?_
          refine go_goto rfl (tgt := 56) (by decide) ?_
          refine go_istore_n rfl (by decide) rfl ?_
          refine go_iinc rfl rfl (by decide) rfl (by unfold ab_iok; omega) ?_
          refine go_goto rfl (tgt := 24) (by decide) ?_
          exact ih (t + 1) 1 (by omega) (by omega) (by omega) (rd_t (al_t (q := fun t => tb_bp m W t b = A t b) (rd_n1 (fun y => c31 (J.trans y))) c48)).symm
set_option maxHeartbeats 4000000 in
set_option maxRecDepth 100000 in
theorem lp_X7_isTrueOf {g : ab_G} {h0 : ab_H} {T0 : Int} {Q : Option ab_V → ab_H → Prop} (I : Inv h0) (T : MT h0 h0) (hT : 0 ≤ T0 ∧ T0 ≤ 400) (hq : ∀ h z, z = rd_bool (tr_P h0 T0) → (∀ k, k ≠ 80 → h k = h0 k) → Q (some (a_I z)) h) : ∀ (f : Nat) (b s : Int) (h : ab_H), 0 ≤ b → b ≤ h0 1 8 → h0 1 8 - b < f → s = rd_bool (all_P (tq (h0 1 8) (TW h0) (TA h0) T0) b) → (∀ k, k ≠ 80 → h k = h0 k) → ∀ v, Go g (ab_rm 4, 0, 0) m_X7_isTrueOf Q 4 [some (a_R 62), some (a_I T0), some (a_I s), some (a_I b), v] [] h := by
  have r1 := I.ro.1
  intro f
  induction f with
  | zero => intro b s h h0b h1 hf; omega
  | succ f ih =>
    intro b s h h0b h1 hf J hF v
    have e9 : h 62 9 = h0 1 8 := by rw [hF 62 (by decide)]; exact T.1.1.1
    refine go_iload_n rfl rfl ?_
    refine go_aload_n rfl rfl ?_
    refine go_getI rfl f_X7_110 rfl rfl rfl ?_ -- men
    refine go_icmp_ge rfl (tgt := 69) (by decide) (fun c9 => ?_) (fun c9 => ?_)
    · refine go_iload_n rfl rfl ?_
      refine go_if_eq rfl (tgt := 77) (by decide) (fun c70 => ?_) (fun c70 => ?_)
      · refine go_iconst rfl ?_
        exact go_iret rfl (Or.inl rfl) (hq h _ (rd_f (fun z => rd_n0 (J.symm.trans c70) (by rw [show b = h0 1 8 by omega]; exact tq_end.mpr z))).symm hF)
      · refine go_iconst rfl ?_
        refine go_goto rfl (tgt := 78) (by decide) ?_
        exact go_iret rfl (Or.inl rfl) (hq h _ (rd_t (tq_end.mp (by have z := rd_n1 (fun y => c70 (J.trans y)); rw [show b = h0 1 8 by omega] at z; exact z))).symm hF)
    · refine go_iload_n rfl rfl ?_
      refine go_if_eq rfl (tgt := 69) (by decide) (fun c13 => ?_) (fun c13 => ?_)
      · refine go_iload_n rfl rfl ?_
        refine go_if_eq rfl (tgt := 77) (by decide) (fun c70 => ?_) (fun c70 => ?_)
        · refine go_iconst rfl ?_
          exact go_iret rfl (Or.inl rfl) (hq h _ (rd_f (fun z => rd_n0 (J.symm.trans c13) (fun j j0 j1 => tq_end.mpr z j j0 (by omega)))).symm hF)
        · refine go_iconst rfl ?_
          refine go_goto rfl (tgt := 78) (by decide) ?_
          exact go_iret rfl (Or.inl rfl) (absurd c13 c70)
      · refine go_aload_n rfl rfl ?_
        refine go_iload_n rfl rfl ?_
        refine go_cV1V (M' := m_X7_findAlone) rfl l_X7_217 k_X7_findAlone (j_findAlone (I.mf (mf_80 hF)) (MR_80 hF T.2.2) (by rw [hF 1 (by decide)]; omega)) rfl rfl rfl rfl (by decide) (Nat.le_of_ble_eq_true rfl) (fun h18 q18 => ?_) -- X7_findAlone
        refine go_iconst rfl ?_
        refine go_istore rfl (by decide) rfl ?_
        refine lp_X7_trueIn (A := TA h0) (b := b) (MT_80 (h0 := h0) (fun k hk => (q18.2 k hk).trans (hF k hk)) T).1 (TW_pm I) (by omega) hT (fun s s0 s1 => by rw [q18.1 s s0 s1, TA_same (fun k hk => hF k (by omega))]) (fun s2 e2 t => ?_) 500 0 _ (by omega) (by omega) (by omega) (by rcases rd_01 (all_P (tq (h0 1 8) (TW h0) (TA h0) T0) b) with y | y; exact absurd (J.trans y) c13; rw [J, y]; exact (rd_t (fun j j0 j1 => by omega)).symm)
        refine go_iinc rfl rfl (by decide) rfl (by unfold ab_iok; omega) ?_
        refine go_goto rfl (tgt := 4) (by decide) ?_
        exact ih (b + 1) s2 h18 (by omega) (by omega) (by omega) (by
          rw [e2]
          refine rd_iff ⟨fun z => al_t (rd_n1 (fun y => c13 (J.trans y))) (fun t t0 t1 => z t t0 (by omega)), fun z t t0 t1 => z b h0b (by omega) t t0 (by omega)⟩) (fun k hk => (q18.2 k hk).trans (hF k hk)) _
set_option maxHeartbeats 4000000 in
set_option maxRecDepth 100000 in
theorem j_isTrueOf {g : ab_G} {h : ab_H} {T0 : Int} (I : Inv h) (T : MT h h) (hT : 0 ≤ T0 ∧ T0 ≤ 400) : MethI g 4 m_X7_isTrueOf [a_R 62, a_I T0] h (fun z h' => z = rd_bool (tr_P h T0) ∧ ∀ k, k ≠ 80 → h' k = h k) := by
  refine Meth.of_go k_X7_isTrueOf (Nat.le_of_ble_eq_true rfl) ?_
  show Go g _ m_X7_isTrueOf _ 0 [some (a_R 62), some (a_I T0), none, none, none] [] h
  refine go_iconst rfl ?_
  refine go_istore_n rfl (by decide) rfl ?_
  refine go_iconst rfl ?_
  refine go_istore_n rfl (by decide) rfl ?_
  exact lp_X7_isTrueOf I T hT (fun h2 z e F => ⟨_, rfl, e, F⟩) 8 0 1 h (by omega) I.ro.1.1 (by have := I.ro.1; omega) (rd_t (fun j j0 j1 => by omega)).symm (fun _ _ => rfl) _
theorem MT.self {h0 h : ab_H} (F : MF h0 h) (T : MT h0 h) : MT h h := by
  have e := F.k9
  unfold MT TW TM
  rw [e 1 (by omega), tW_same e, tM_same e]
  exact T
set_option maxHeartbeats 4000000 in
set_option maxRecDepth 100000 in
theorem j_isTrue {g : ab_G} {h : ab_H} {T : Int} (I : Inv h) : MethI g 8 m_X7_isTrue [a_R 62, a_I T] h (fun z h' => z = tr_F h T ∧ MF h h' ∧ Inv h') := by
  have r1 := I.ro.1
  refine Meth.of_go k_X7_isTrue (Nat.le_of_ble_eq_true rfl) ?_
  show Go g _ m_X7_isTrue _ 0 [some (a_R 62), some (a_I T)] [] h
  refine go_iload_n rfl rfl ?_
  refine go_cS1I (M' := m_X7_isTime) rfl l_X7_193 k_X7_isTime (s_X7_isTime) rfl (by decide) (Nat.le_of_ble_eq_true rfl) (fun z1 h1 q1 => ?_) -- X7_isTime
  obtain ⟨rfl, rfl⟩ := q1
  refine go_if_ne rfl (tgt := 10) (by decide) (fun c4 => ?_) (fun c4 => ?_)
  · have x1 := rd_n1 c4
    refine go_aload_n rfl rfl ?_
    refine go_cV0V (M' := m_X7_find) rfl l_X7_196 k_X7_find (j_find I) rfl rfl rfl rfl (by decide) (Nat.le_of_ble_eq_true rfl) (fun h11 q11 => ?_) -- X7_find
    obtain ⟨F2, T2, I2⟩ := q11
    refine go_aload_n rfl rfl ?_
    refine go_iload_n rfl rfl ?_
    refine go_cV1I (M' := m_X7_isTrueOf) rfl l_X7_223 k_X7_isTrueOf (j_isTrueOf I2 (T2.self F2) x1) rfl rfl rfl rfl (by decide) (Nat.le_of_ble_eq_true rfl) (fun z16 h16 q16 => ?_) -- X7_isTrueOf
    obtain ⟨rfl, F3⟩ := q16
    exact go_iret rfl (Or.inl rfl) ⟨_, rfl, by unfold tr_F tr_P; rw [if_pos x1]; simp only [tW_same F2.k9, TA_same F2.k9, F2.k9 1 (by decide)], F2.trans (mf_80 F3), I2.mf (mf_80 F3)⟩
  · refine go_bipush rfl ?_
    exact go_iret rfl (Or.inl rfl) ⟨_, rfl, by unfold tr_F; rw [if_neg (by have := rd_n0 c4; omega)], MF.refl h, I⟩
theorem op_isTrue {g : ab_G} {h : ab_H} {T : Int} (I : Inv h) : opI g 6 8 m_X6_isTrue m_X7_isTrue [a_I T] h := op_q (F := fun h => tr_F h T) I (c_isTrue I) (fun h I => j_isTrue I) (fun h' F => by unfold tr_F tr_P; simp only [tW_same F.k9, TA_same F.k9, F.k9 1 (by decide)])
