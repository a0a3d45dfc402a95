/-! letters told: came, read, forget -/
def ca_I (h : ab_H) (A B C D : Int → Int) (K : Int) (h' : ab_H) : Prop := h' 24 5 = h 24 5 + K ∧ (∀ l, l < h 24 5 → h' 25 l = h 25 l ∧ h' 26 l = h 26 l ∧ h' 27 l = h 27 l ∧ h' 28 l = h 28 l) ∧ (∀ j, 0 ≤ j → j < K → h' 25 (h 24 5 + j) = A j ∧ h' 26 (h 24 5 + j) = B j ∧ h' 27 (h 24 5 + j) = C j ∧ h' 28 (h 24 5 + j) = D j) ∧ (∀ k, ¬ (24 ≤ k ∧ k ≤ 28) → h' k = h k) ∧ ∀ b, b ≠ 5 → h' 24 b = h 24 b
theorem ca_0 (h : ab_H) (A B C D : Int → Int) : ca_I h A B C D 0 h := ⟨by omega, fun _ _ => ⟨rfl, rfl, rfl, rfl⟩, fun j j0 j1 => by omega, fun _ _ => rfl, fun _ _ => rfl⟩
theorem ad_k (h : ab_H) (a b c d : Int) : ad_H h a b c d 25 = ps_up (h 25) (h 24 5) a ∧ ad_H h a b c d 26 = ps_up (h 26) (h 24 5) b ∧ ad_H h a b c d 27 = ps_up (h 27) (h 24 5) c ∧ ad_H h a b c d 28 = ps_up (h 28) (h 24 5) d ∧ ad_H h a b c d 24 5 = h 24 5 + 1 ∧ (∀ k, ¬ (24 ≤ k ∧ k ≤ 28) → ad_H h a b c d k = h k) ∧ ∀ i, i ≠ 5 → ad_H h a b c d 24 i = h 24 i := by
  unfold ad_H
  refine ⟨?_, ?_, ?_, ?_, ab_hs_eq, fun k hk => ?_, fun i hi => ?_⟩
  · rw [ab_hs_f (by decide), ab_hs_f (by decide), ab_hs_f (by decide), ab_hs_f (by decide), up_eq]
  · rw [ab_hs_f (by decide), ab_hs_f (by decide), ab_hs_f (by decide), up_eq, ab_hs_f (by decide)]
  · rw [ab_hs_f (by decide), ab_hs_f (by decide), up_eq, ab_hs_f (by decide), ab_hs_f (by decide)]
  · rw [ab_hs_f (by decide), up_eq, ab_hs_f (by decide), ab_hs_f (by decide), ab_hs_f (by decide)]
  · rw [ab_hs_f (by omega), ab_hs_f (by omega), ab_hs_f (by omega), ab_hs_f (by omega), ab_hs_f (by omega)]
  · rw [ab_hs_i hi, ab_hs_f (by decide), ab_hs_f (by decide), ab_hs_f (by decide), ab_hs_f (by decide)]
theorem up_ne {f : Int → Int} {i v j : Int} (h : j ≠ i) : ps_up f i v j = f j := by unfold ps_up; exact if_neg h
theorem up_at {f : Int → Int} {i v : Int} : ps_up f i v i = v := by unfold ps_up; exact if_pos rfl
theorem ca_nx {h h' : ab_H} {A B C D : Int → Int} {K : Int} (hK : 0 ≤ K) (I : ca_I h A B C D K h') : ca_I h A B C D (K + 1) (ad_H h' (A K) (B K) (C K) (D K)) := by
  obtain ⟨a1, a2, a3, a4, a5, a6, a7⟩ := ad_k h' (A K) (B K) (C K) (D K)
  obtain ⟨I1, I2, I3, I4, I5⟩ := I
  rw [I1] at a1 a2 a3 a4 a5
  refine ⟨by rw [a5]; omega, fun l hl => ?_, fun j j0 j1 => ?_, fun k hk => (a6 k hk).trans (I4 k hk), fun b hb => (a7 b hb).trans (I5 b hb)⟩
  · rw [a1, a2, a3, a4, up_ne (by omega), up_ne (by omega), up_ne (by omega), up_ne (by omega)]; exact I2 l hl
  · rw [a1, a2, a3, a4]
    by_cases e : j = K
    · subst e; rw [up_at, up_at, up_at, up_at]; exact ⟨rfl, rfl, rfl, rfl⟩
    · rw [up_ne (by omega), up_ne (by omega), up_ne (by omega), up_ne (by omega)]; exact I3 j j0 (by omega)
def mad_H (h : ab_H) (a b c d : Int) : ab_H := ab_hs (ab_hs (ab_hs (ab_hs (ab_hs h 81 (4 * h 62 27) a) 81 (4 * h 62 27 + 1) b) 81 (4 * h 62 27 + 2) c) 81 (4 * h 62 27 + 3) d) 62 27 (h 62 27 + 1)
theorem mad_k (h : ab_H) (a b c d : Int) : mad_H h a b c d 81 = ps_up (ps_up (ps_up (ps_up (h 81) (4 * h 62 27) a) (4 * h 62 27 + 1) b) (4 * h 62 27 + 2) c) (4 * h 62 27 + 3) d ∧ mad_H h a b c d 62 27 = h 62 27 + 1 ∧ (∀ k, ¬ (k = 62 ∨ k = 81) → mad_H h a b c d k = h k) ∧ ∀ i, i ≠ 27 → mad_H h a b c d 62 i = h 62 i := by
  unfold mad_H
  refine ⟨?_, ab_hs_eq, fun k hk => ?_, fun i hi => ?_⟩
  · rw [ab_hs_f (by decide), up_eq, up_eq, up_eq, up_eq]
  · rw [ab_hs_f (by omega), ab_hs_f (by omega), ab_hs_f (by omega), ab_hs_f (by omega), ab_hs_f (by omega)]
  · rw [ab_hs_i hi, ab_hs_f (by decide), ab_hs_f (by decide), ab_hs_f (by decide), ab_hs_f (by decide)]
def cm_I (h : ab_H) (A B C D : Int → Int) (K : Int) (h' : ab_H) : Prop := h' 62 27 = h 62 27 + K ∧ (∀ l, l < 4 * h 62 27 → h' 81 l = h 81 l) ∧ (∀ j, 0 ≤ j → j < K → h' 81 (4 * (h 62 27 + j)) = A j ∧ h' 81 (4 * (h 62 27 + j) + 1) = B j ∧ h' 81 (4 * (h 62 27 + j) + 2) = C j ∧ h' 81 (4 * (h 62 27 + j) + 3) = D j) ∧ (∀ k, ¬ (k = 62 ∨ k = 81 ∨ (68 ≤ k ∧ k ≤ 71)) → h' k = h k) ∧ ∀ b, ¬ (b = 7 ∨ b = 8 ∨ b = 9 ∨ b = 13 ∨ b = 27) → h' 62 b = h 62 b
theorem cm_0 (h : ab_H) (A B C D : Int → Int) : cm_I h A B C D 0 h := ⟨by omega, fun _ _ => rfl, fun j j0 j1 => by omega, fun _ _ => rfl, fun _ _ => rfl⟩
theorem cm_rf {h h' h'' : ab_H} {A B C D : Int → Int} {K : Int} (I : cm_I h A B C D K h') (R : RF h' h'') : cm_I h A B C D K h'' := by
  obtain ⟨I1, I2, I3, I4, I5⟩ := I
  refine ⟨by rw [R.2 27 (by decide)]; exact I1, by rw [R.1 81 (by decide)]; exact I2, by rw [R.1 81 (by decide)]; exact I3, fun k hk => (R.1 k (by omega)).trans (I4 k hk), fun b hb => (R.2 b (by omega)).trans (I5 b hb)⟩
theorem cm_nx {h h' : ab_H} {A B C D : Int → Int} {K : Int} (hK : 0 ≤ K) (I : cm_I h A B C D K h') : cm_I h A B C D (K + 1) (mad_H h' (A K) (B K) (C K) (D K)) := by
  obtain ⟨a1, a2, a3, a4⟩ := mad_k h' (A K) (B K) (C K) (D K)
  obtain ⟨I1, I2, I3, I4, I5⟩ := I
  rw [I1] at a1 a2
  refine ⟨by rw [a2]; omega, fun l hl => ?_, fun j j0 j1 => ?_, fun k hk => (a3 k (by omega)).trans (I4 k hk), fun b hb => (a4 b (by omega)).trans (I5 b hb)⟩
  · rw [a1, up_ne (by omega), up_ne (by omega), up_ne (by omega), up_ne (by omega)]; exact I2 l hl
  · rw [a1]
    by_cases e : j = K
    · subst e
      refine ⟨?_, ?_, ?_, up_at⟩
      · rw [up_ne (by omega), up_ne (by omega), up_ne (by omega), up_at]
      · rw [up_ne (by omega), up_ne (by omega), up_at]
      · rw [up_ne (by omega), up_at]
    · have := I3 j j0 (by omega)
      refine ⟨?_, ?_, ?_, ?_⟩
      · rw [up_ne (by omega), up_ne (by omega), up_ne (by omega), up_ne (by omega)]; exact this.1
      · rw [up_ne (by omega), up_ne (by omega), up_ne (by omega), up_ne (by omega)]; exact this.2.1
      · rw [up_ne (by omega), up_ne (by omega), up_ne (by omega), up_ne (by omega)]; exact this.2.2.1
      · rw [up_ne (by omega), up_ne (by omega), up_ne (by omega), up_ne (by omega)]; exact this.2.2.2
theorem inv_adds {h h1 h2 : ab_H} {A B C D : Int → Int} {K : Int} (I : Inv h) (hK : 0 ≤ K) (c : ca_I h A B C D K h1) (m : cm_I h1 A B C D K h2) (ok : ∀ j, 0 ≤ j → j < K → lt_ok (A j) (B j) (C j) (D j)) (h12 : h 24 5 + K ≤ 12) : Inv h2 := by
  obtain ⟨c1, c2, c3, c4, c5⟩ := c
  obtain ⟨m1, m2, m3, m4, m5⟩ := m
  have e : ∀ k, ¬ ((24 ≤ k ∧ k ≤ 28) ∨ k = 62 ∨ k = 81 ∨ (68 ≤ k ∧ k ≤ 71)) → h2 k = h k := fun k hk => (m4 k (by omega)).trans (c4 k (by omega))
  have e62 : ∀ b, ¬ (b = 7 ∨ b = 8 ∨ b = 9 ∨ b = 13 ∨ b = 27) → h2 62 b = h 62 b := fun b hb => by rw [m5 b hb, c4 62 (by decide)]
  have L := I.2.2.2.1
  have n1 : h1 62 27 = h 24 5 := by rw [c4 62 (by decide)]; exact L.2.1
  refine ⟨?_, ?_, ?_, ?_, ?_, ?_, ?_⟩
  · exact I.1.of (e 1 (by decide)) (e 2 (by decide)) (e62 6 (by decide)) (e 67 (by decide))
  · exact I.2.1.of (fun k k0 k1 => e k (by omega))
  · exact I.2.2.1.of (e 7 (by decide)) (e 8 (by decide)) (e 9 (by decide)) (e 72 (by decide)) (e 73 (by decide)) (e 74 (by decide))
  · have e24 : h2 24 5 = h 24 5 + K := by rw [m4 24 (by decide)]; exact c1
    refine ⟨by rw [e24]; have := L.1; omega, by rw [m1, n1, e24], fun l l0 l1 => ?_⟩
    rw [e24] at l1
    rw [m4 25 (by decide), m4 26 (by decide), m4 27 (by decide), m4 28 (by decide)]
    by_cases y : l < h 24 5
    · have z := c2 l y
      have w := L.2.2 l l0 y
      rw [z.1, z.2.1, z.2.2.1, z.2.2.2, m2 _ (by omega), m2 _ (by omega), m2 _ (by omega), m2 _ (by omega), c4 81 (by decide)]
      exact w
    · have z := c3 (l - h 24 5) (by omega) (by omega)
      have w := m3 (l - h 24 5) (by omega) (by omega)
      rw [show h 24 5 + (l - h 24 5) = l by omega] at z
      rw [n1, show h 24 5 + (l - h 24 5) = l by omega] at w
      rw [z.1, z.2.1, z.2.2.1, z.2.2.2]
      exact ⟨ok _ (by omega) (by omega), w⟩
  · exact I.2.2.2.2.1.of (e 32 (by decide)) (e 33 (by decide)) (e 63 (by decide)) (e 64 (by decide)) (e 65 (by decide)) (fun k k0 k1 => e k (by omega))
  · exact I.2.2.2.2.2.1.of (e62 4 (by decide)) (by rw [e 0 (by decide)])
  · exact iv_C.of I (by rw [e 0 (by decide)]) (fun k hk => e k (by omega))
def ccm_P (h : ab_H) (a b c d z : Int) (h' : ab_H) : Prop := (¬ lt_ok a b c d ∧ z = -2 ∧ h' = h) ∨ (lt_ok a b c d ∧ h 24 5 = 12 ∧ z = -4 ∧ h' = h) ∨ (lt_ok a b c d ∧ h 24 5 < 12 ∧ z = h 24 5 + 1 ∧ h' = ad_H h a b c d)
set_option maxHeartbeats 4000000 in
set_option maxRecDepth 100000 in
theorem s_X6_came {g : ab_G} {h : ab_H} {a b c d : Int} (hl : 0 ≤ h 24 5 ∧ h 24 5 ≤ 12) : MethI g 6 m_X6_came [a_R 0, a_I a, a_I b, a_I c, a_I d] h (fun z h' => ccm_P h a b c d z h') := by
  refine Meth.of_go k_X6_came (Nat.le_of_ble_eq_true rfl) ?_
  show Go g _ m_X6_came _ 0 [some (a_R 0), some (a_I a), some (a_I b), some (a_I c), some (a_I d)] [] h
  refine go_aload_n rfl rfl ?_
  refine go_getR rfl f_X6_40 rfl rfl ?_ -- letters
  refine go_iload_n rfl rfl ?_
  refine go_iload_n rfl rfl ?_
  refine go_iload_n rfl rfl ?_
  refine go_iload rfl rfl ?_
  refine go_cV4I (M' := m_X1_mayBe) rfl l_X6_184 k_X1_mayBe (s_X1_mayBe) rfl rfl rfl rfl (by decide) (Nat.le_of_ble_eq_true rfl) (fun z9 h9 q9 => ?_) -- X1_mayBe
  obtain ⟨rfl, rfl⟩ := q9
  refine go_if_ne rfl (tgt := 18) (by decide) (fun c12 => ?_) (fun c12 => ?_)
  · refine go_aload_n rfl rfl ?_
    refine go_getR rfl f_X6_40 rfl rfl ?_ -- letters
    refine go_getI rfl f_X6_188 rfl rfl rfl ?_ -- size
    refine go_bipush rfl ?_
    refine go_icmp_lt rfl (tgt := 33) (by decide) (fun c27 => ?_) (fun c27 => ?_)
    · refine go_aload_n rfl rfl ?_
      refine go_getR rfl f_X6_40 rfl rfl ?_ -- letters
      refine go_iload_n rfl rfl ?_
      refine go_iload_n rfl rfl ?_
      refine go_iload_n rfl rfl ?_
      refine go_iload rfl rfl ?_
      refine go_cV4V (M' := m_X1_add) rfl l_X6_191 k_X1_add (s_X1_add (by omega)) rfl rfl rfl rfl (by decide) (Nat.le_of_ble_eq_true rfl) (fun h42 q42 => ?_) -- X1_add
      rw [if_pos c27] at q42
      obtain rfl := q42
      refine go_aload_n rfl rfl ?_
      refine go_getR rfl f_X6_40 rfl rfl ?_ -- letters
      refine go_getI rfl f_X6_188 rfl rfl rfl ?_ -- size
      exact go_iret rfl (Or.inl rfl) ⟨_, rfl, Or.inr (Or.inr ⟨rd_n1 c12, c27, (ad_k h a b c d).2.2.2.2.1, rfl⟩)⟩
    · refine go_bipush rfl ?_
      exact go_iret rfl (Or.inl rfl) ⟨_, rfl, Or.inr (Or.inl ⟨rd_n1 c12, by omega, rfl, rfl⟩)⟩
  · refine go_bipush rfl ?_
    exact go_iret rfl (Or.inl rfl) ⟨_, rfl, Or.inl ⟨rd_n0 c12, rfl, rfl⟩⟩
def mcm_P (h : ab_H) (a b c d z : Int) (h' : ab_H) : Prop := (¬ lt_ok a b c d ∧ z = -2 ∧ h' = h) ∨ (lt_ok a b c d ∧ h 62 27 = 12 ∧ z = -4 ∧ h' = h) ∨ (lt_ok a b c d ∧ ¬ h 62 27 = 12 ∧ z = h 62 27 + 1 ∧ h' = mad_H h a b c d)
set_option maxHeartbeats 4000000 in
set_option maxRecDepth 100000 in
theorem s_X7_came {g : ab_G} {h : ab_H} {a b c d : Int} (hn : h 62 6 ≤ 80) (hl : 0 ≤ h 62 27 ∧ h 62 27 ≤ 12) : MethI g 5 m_X7_came [a_R 62, a_I a, a_I b, a_I c, a_I d] h (fun z h' => ∃ h1, RF h h1 ∧ mcm_P h1 a b c d z h') := by
  refine Meth.of_go k_X7_came (Nat.le_of_ble_eq_true rfl) ?_
  show Go g _ m_X7_came _ 0 [some (a_R 62), some (a_I a), some (a_I b), some (a_I c), some (a_I d)] [] h
  refine go_aload_n rfl rfl ?_
  refine go_cV0I (M' := m_X7_reads) rfl l_X7_140 k_X7_reads (s_X7_reads hn) rfl rfl rfl rfl (by decide) (Nat.le_of_ble_eq_true rfl) (fun z1 h1 q1 => ?_) -- X7_reads
  have F1 : RF h h1 := ⟨fun k hk => q1.2.2.2.1 k (by omega), q1.2.2.2.2⟩
  have e27 : h1 62 27 = h 62 27 := F1.2 27 (by decide)
  refine go_pop rfl ?_
  refine go_iload_n rfl rfl ?_
  refine go_i2l rfl ?_
  refine go_lconst (z := 0) rfl ?_
  refine go_ldc2 rfl (z := 40) c_X7_267 ?_
  refine go_cS3I (M' := m_X7_in) rfl l_X7_68 k_X7_in (s_X7_in) rfl (by decide) (Nat.le_of_ble_eq_true rfl) (fun z11 h11 q11 => ?_) -- X7_in
  obtain ⟨rfl, rfl⟩ := q11
  refine go_if_eq rfl (tgt := 51) (by decide) (fun c14 => ?_) (fun c14 => ?_)
  · refine go_bipush rfl ?_
    exact go_iret rfl (Or.inl rfl) ⟨_, rfl, h1, F1, Or.inl ⟨fun z => rd_n0 c14 z.1, rfl, rfl⟩⟩
  · refine go_iload_n rfl rfl ?_
    refine go_cS1I (M' := m_X7_isMinute) rfl l_X7_240 k_X7_isMinute (s_X7_isMinute) rfl (by decide) (Nat.le_of_ble_eq_true rfl) (fun z18 h18 q18 => ?_) -- X7_isMinute
    obtain ⟨rfl, rfl⟩ := q18
    refine go_if_eq rfl (tgt := 51) (by decide) (fun c21 => ?_) (fun c21 => ?_)
    · refine go_bipush rfl ?_
      exact go_iret rfl (Or.inl rfl) ⟨_, rfl, h1, F1, Or.inl ⟨fun z => rd_n0 c21 z.2.1, rfl, rfl⟩⟩
    · refine go_iload_n rfl rfl ?_
      refine go_i2l rfl ?_
      refine go_lconst (z := 0) rfl ?_
      refine go_ldc2 rfl (z := 40) c_X7_267 ?_
      refine go_cS3I (M' := m_X7_in) rfl l_X7_68 k_X7_in (s_X7_in) rfl (by decide) (Nat.le_of_ble_eq_true rfl) (fun z30 h30 q30 => ?_) -- X7_in
      obtain ⟨rfl, rfl⟩ := q30
      refine go_if_eq rfl (tgt := 51) (by decide) (fun c33 => ?_) (fun c33 => ?_)
      · refine go_bipush rfl ?_
        exact go_iret rfl (Or.inl rfl) ⟨_, rfl, h1, F1, Or.inl ⟨fun z => rd_n0 c33 z.2.2.1, rfl, rfl⟩⟩
      · refine go_iload rfl rfl ?_
        refine go_i2l rfl ?_
        refine go_ldc2 rfl (z := -1) c_X7_269 ?_
        refine go_ldc2 rfl (z := 400) c_X7_72 ?_
        refine go_cS3I (M' := m_X7_in) rfl l_X7_68 k_X7_in (s_X7_in) rfl (by decide) (Nat.le_of_ble_eq_true rfl) (fun z45 h45 q45 => ?_) -- X7_in
        obtain ⟨rfl, rfl⟩ := q45
        refine go_if_ne rfl (tgt := 54) (by decide) (fun c48 => ?_) (fun c48 => ?_)
        · refine go_aload_n rfl rfl ?_
          refine go_getI rfl f_X7_271 rfl rfl rfl ?_ -- letters
          refine go_bipush rfl ?_
          refine go_icmp_ne rfl (tgt := 66) (by decide) (fun c60 => ?_) (fun c60 => ?_)
          · refine go_aload_n rfl rfl ?_
            refine go_getR rfl f_X7_65 rfl rfl ?_ -- told
            refine go_iconst rfl ?_
            refine go_aload_n rfl rfl ?_
            refine go_getI rfl f_X7_271 rfl rfl rfl ?_ -- letters
            refine go_imul rfl (by unfold ab_iok; omega) ?_
            refine go_iload_n rfl rfl ?_
            refine go_iast rfl rfl (by omega) (by omega) ?_
            refine go_aload_n rfl rfl ?_
            refine go_getR rfl f_X7_65 rfl rfl ?_ -- told
            refine go_iconst rfl ?_
            refine go_aload_n rfl rfl ?_
            refine go_getI rfl f_X7_271 rfl rfl rfl ?_ -- letters
            rw [ab_hs_f (by decide)]
            refine go_imul rfl (by unfold ab_iok; omega) ?_
            refine go_iconst rfl ?_
            refine go_iadd rfl (by unfold ab_iok; omega) ?_
            refine go_iload_n rfl rfl ?_
            refine go_iast rfl rfl (by omega) (by omega) ?_
            refine go_aload_n rfl rfl ?_
            refine go_getR rfl f_X7_65 rfl rfl ?_ -- told
            refine go_iconst rfl ?_
            refine go_aload_n rfl rfl ?_
            refine go_getI rfl f_X7_271 rfl rfl rfl ?_ -- letters
            rw [ab_hs_f (by decide), ab_hs_f (by decide)]
            refine go_imul rfl (by unfold ab_iok; omega) ?_
            refine go_iconst rfl ?_
            refine go_iadd rfl (by unfold ab_iok; omega) ?_
            refine go_iload_n rfl rfl ?_
            refine go_iast rfl rfl (by omega) (by omega) ?_
            refine go_aload_n rfl rfl ?_
            refine go_getR rfl f_X7_65 rfl rfl ?_ -- told
            refine go_iconst rfl ?_
            refine go_aload_n rfl rfl ?_
            refine go_getI rfl f_X7_271 rfl rfl rfl ?_ -- letters
            rw [ab_hs_f (by decide), ab_hs_f (by decide), ab_hs_f (by decide)]
            refine go_imul rfl (by unfold ab_iok; omega) ?_
            refine go_iconst rfl ?_
            refine go_iadd rfl (by unfold ab_iok; omega) ?_
            refine go_iload rfl rfl ?_
            refine go_iast rfl rfl (by omega) (by omega) ?_
            refine go_aload_n rfl rfl ?_
            refine go_dup rfl ?_
            refine go_getI rfl f_X7_271 rfl rfl rfl ?_ -- letters
            rw [ab_hs_f (by decide), ab_hs_f (by decide), ab_hs_f (by decide), ab_hs_f (by decide)]
            refine go_iconst rfl ?_
            refine go_iadd rfl (by unfold ab_iok; omega) ?_
            refine go_putI rfl f_X7_271 rfl rfl rfl ?_ -- letters
            refine go_aload_n rfl rfl ?_
            refine go_getI rfl f_X7_271 rfl rfl rfl ?_ -- letters
            rw [ab_hs_eq]
            exact go_iret rfl (Or.inl rfl) ⟨_, rfl, h1, F1, Or.inr (Or.inr ⟨(show lt_ok a b c d from ⟨rd_n1 c14, rd_n1 c21, rd_n1 c33, rd_n1 c48⟩), c60, rfl, rfl⟩)⟩
          · refine go_bipush rfl ?_
            exact go_iret rfl (Or.inl rfl) ⟨_, rfl, h1, F1, Or.inr (Or.inl ⟨(show lt_ok a b c d from ⟨rd_n1 c14, rd_n1 c21, rd_n1 c33, rd_n1 c48⟩), c60, rfl, rfl⟩)⟩
        · refine go_bipush rfl ?_
          exact go_iret rfl (Or.inl rfl) ⟨_, rfl, h1, F1, Or.inl ⟨fun z => rd_n0 c48 z.2.2.2, rfl, rfl⟩⟩
theorem op_came {g : ab_G} {h : ab_H} {a b c d : Int} (I : Inv h) : opI g 6 5 m_X6_came m_X7_came [a_I a, a_I b, a_I c, a_I d] h := by
  have L := I.2.2.2.1
  have T := I.1
  refine (s_X6_came L.1).mono (fun r h1 ⟨z, ez, P⟩ => ⟨z, ez, ?_⟩)
  have e62 : h1 62 = h 62 := by
    rcases P with ⟨-, -, rfl⟩ | ⟨-, -, -, rfl⟩ | ⟨-, -, -, rfl⟩
    · rfl
    · rfl
    · exact (ad_k h a b c d).2.2.2.2.2.1 62 (by decide)
  refine (s_X7_came (by rw [e62, T.2.1]; exact T.1.2) (by rw [e62, L.2.1]; exact L.1)).mono (fun r' h2 ⟨z', ez', h3, F, P'⟩ => ⟨z', ez', ?_⟩)
  have e27 : h3 62 27 = h 24 5 := by rw [F.2 27 (by decide), e62]; exact L.2.1
  unfold mcm_P at P'
  rw [e27] at P'
  rcases P with ⟨x1, x2, rfl⟩ | ⟨x1, x2, x3, rfl⟩ | ⟨x1, x2, x3, rfl⟩
  · rcases P' with ⟨y1, y2, rfl⟩ | ⟨y1, -⟩ | ⟨y1, -⟩
    · exact ⟨by omega, I.mf F.mf⟩
    · exact absurd y1 x1
    · exact absurd y1 x1
  · rcases P' with ⟨y1, -⟩ | ⟨y1, y2, y3, rfl⟩ | ⟨y1, y2, -⟩
    · exact absurd x1 y1
    · exact ⟨by omega, I.mf F.mf⟩
    · exact absurd x2 y2
  · rcases P' with ⟨y1, -⟩ | ⟨y1, y2, -⟩ | ⟨y1, y2, y3, rfl⟩
    · exact absurd x1 y1
    · omega
    · refine ⟨by omega, ?_⟩
      have cc := ca_nx (Int.le_refl 0) (ca_0 h (fun _ => a) (fun _ => b) (fun _ => c) (fun _ => d))
      have mm := cm_nx (Int.le_refl 0) (cm_rf (cm_0 (ad_H h a b c d) (fun _ => a) (fun _ => b) (fun _ => c) (fun _ => d)) F)
      exact inv_adds I (by omega) cc mm (fun j j0 j1 => x1) (by omega)
set_option maxHeartbeats 4000000 in
set_option maxRecDepth 100000 in
theorem s_X6_forget {g : ab_G} {h : ab_H}  : MethI g 6 m_X6_forget [a_R 0] h (fun z h' => z = h 24 5 ∧ h' = ab_hs h 24 5 0) := by
  refine Meth.of_go k_X6_forget (Nat.le_of_ble_eq_true rfl) ?_
  show Go g _ m_X6_forget _ 0 [some (a_R 0), none] [] h
  refine go_aload_n rfl rfl ?_
  refine go_getR rfl f_X6_40 rfl rfl ?_ -- letters
  refine go_getI rfl f_X6_188 rfl rfl rfl ?_ -- size
  refine go_istore_n rfl (by decide) rfl ?_
  refine go_aload_n rfl rfl ?_
  refine go_getR rfl f_X6_40 rfl rfl ?_ -- letters
  refine go_iconst rfl ?_
  refine go_putI rfl f_X6_188 rfl rfl rfl ?_ -- size
  refine go_iload_n rfl rfl ?_
  exact go_iret rfl (Or.inl rfl) ⟨_, rfl, rfl, rfl⟩
set_option maxHeartbeats 4000000 in
set_option maxRecDepth 100000 in
theorem s_X7_forget {g : ab_G} {h : ab_H}  : MethI g 8 m_X7_forget [a_R 62] h (fun z h' => z = h 62 27 ∧ h' = ab_hs h 62 27 0) := by
  refine Meth.of_go k_X7_forget (Nat.le_of_ble_eq_true rfl) ?_
  show Go g _ m_X7_forget _ 0 [some (a_R 62), none] [] h
  refine go_aload_n rfl rfl ?_
  refine go_getI rfl f_X7_271 rfl rfl rfl ?_ -- letters
  refine go_istore_n rfl (by decide) rfl ?_
  refine go_aload_n rfl rfl ?_
  refine go_iconst rfl ?_
  refine go_putI rfl f_X7_271 rfl rfl rfl ?_ -- letters
  refine go_iload_n rfl rfl ?_
  exact go_iret rfl (Or.inl rfl) ⟨_, rfl, rfl, rfl⟩
theorem op_forget {g : ab_G} {h : ab_H} (I : Inv h) : opI g 6 8 m_X6_forget m_X7_forget [] h := by
  have L := I.2.2.2.1
  refine s_X6_forget.mono (fun r h1 ⟨z, ez, e1, e2⟩ => ⟨z, ez, ?_⟩)
  subst e2
  refine s_X7_forget.mono (fun r' h2 ⟨z', ez', e3, e4⟩ => ⟨z', ez', ?_⟩)
  subst e4
  refine ⟨by rw [e3, e1, ab_hs_f (by decide)]; exact L.2.1, ?_⟩
  have e : ∀ k, ¬ (k = 24 ∨ k = 62) → ab_hs (ab_hs h 24 5 0) 62 27 0 k = h k := fun k hk => by rw [ab_hs_f (by omega), ab_hs_f (by omega)]
  have e62 : ∀ b, ¬ b = 27 → ab_hs (ab_hs h 24 5 0) 62 27 0 62 b = h 62 b := fun b hb => by rw [ab_hs_i hb, ab_hs_f (by decide)]
  refine ⟨?_, ?_, ?_, ?_, ?_, ?_, ?_⟩
  · exact I.1.of (e 1 (by decide)) (e 2 (by decide)) (e62 6 (by decide)) (e 67 (by decide))
  · exact I.2.1.of (fun k k0 k1 => e k (by omega))
  · exact I.2.2.1.of (e 7 (by decide)) (e 8 (by decide)) (e 9 (by decide)) (e 72 (by decide)) (e 73 (by decide)) (e 74 (by decide))
  · have e24 : ab_hs (ab_hs h 24 5 0) 62 27 0 24 5 = 0 := by rw [ab_hs_f (by decide), ab_hs_eq]
    exact ⟨by rw [e24]; omega, by rw [e24, ab_hs_eq], fun l l0 l1 => by rw [e24] at l1; omega⟩
  · exact I.2.2.2.2.1.of (e 32 (by decide)) (e 33 (by decide)) (e 63 (by decide)) (e 64 (by decide)) (e 65 (by decide)) (fun k k0 k1 => e k (by omega))
  · exact I.2.2.2.2.2.1.of (e62 4 (by decide)) (by rw [e 0 (by decide)])
  · exact iv_C.of I (by rw [e 0 (by decide)]) (fun k hk => e k (by omega))
