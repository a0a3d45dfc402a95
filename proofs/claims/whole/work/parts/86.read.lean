/-! letters by a sheet -/
def rk_P (sz n : Int) (L : Int → Prop) (K : Int) : Prop := 0 ≤ K ∧ (∀ j, 0 ≤ j → j < K → 4 * j + 3 < sz ∧ n + j < 12 ∧ L j) ∧ ¬ (4 * K + 3 < sz ∧ n + K < 12 ∧ L K)
theorem rk_uniq {sz n K K' : Int} {L : Int → Prop} (a : rk_P sz n L K) (b : rk_P sz n L K') : K = K' := by
  obtain ⟨a1, a2, a3⟩ := a
  obtain ⟨b1, b2, b3⟩ := b
  rcases Int.lt_trichotomy K K' with y | y | y
  · exact absurd (b2 K a1 y) a3
  · exact y
  · exact absurd (a2 K' b1 y) b3
abbrev rd_L (X : Int → Int) (j : Int) : Prop := lt_ok (X (4 * j)) (X (4 * j + 1)) (X (4 * j + 2)) (X (4 * j + 3))
abbrev ca_X (h : ab_H) (X : Int → Int) (K : Int) (h' : ab_H) : Prop := ca_I h (fun j => X (4 * j)) (fun j => X (4 * j + 1)) (fun j => X (4 * j + 2)) (fun j => X (4 * j + 3)) K h'
abbrev cm_X (h : ab_H) (X : Int → Int) (K : Int) (h' : ab_H) : Prop := cm_I h (fun j => X (4 * j)) (fun j => X (4 * j + 1)) (fun j => X (4 * j + 2)) (fun j => X (4 * j + 3)) K h'
theorem rk_nx {sz n K : Int} {L : Int → Prop} (a : ∀ j, 0 ≤ j → j < K → 4 * j + 3 < sz ∧ n + j < 12 ∧ L j) (b : 4 * K + 3 < sz ∧ n + K < 12 ∧ L K) : ∀ j, 0 ≤ j → j < K + 1 → 4 * j + 3 < sz ∧ n + j < 12 ∧ L j := fun j j0 j1 => by
  by_cases e : j = K
  · subst e; exact b
  · exact a j j0 (by omega)
set_option maxHeartbeats 4000000 in
set_option maxRecDepth 100000 in
theorem lp_X6_read {g : ab_G} {h0 : ab_H} {s : Int} {Q : Option ab_V → ab_H → Prop} (hs : 0 ≤ s ∧ s < 4) (hz : 0 ≤ h0 33 s ∧ h0 33 s ≤ 60) (hl : 0 ≤ h0 24 5 ∧ h0 24 5 ≤ 12) (hq : ∀ K h, rk_P (h0 33 s) (h0 24 5) (rd_L (h0 (58 + s.toNat))) K → ca_X h0 (h0 (58 + s.toNat)) K h → Q (some (a_I K)) h) : ∀ (f : Nat) (K : Int) (h : ab_H), 0 ≤ K → K ≤ 15 → 15 - K < f → (∀ j, 0 ≤ j → j < K → 4 * j + 3 < h0 33 s ∧ h0 24 5 + j < 12 ∧ rd_L (h0 (58 + s.toNat)) j) → ca_X h0 (h0 (58 + s.toNat)) K h → Go g (ab_rm 6, 0, 0) m_X6_read Q 42 [some (a_R 0), some (a_I s), some (a_R (58 + s.toNat)), some (a_I K), some (a_I (4 * K))] [] h := by
  intro f
  induction f with
  | zero => intro K h h0K h1 hf; omega
  | succ f ih =>
    intro K h h0K h1 hf J F
    have e33 : h 33 s = h0 33 s := by rw [F.2.2.2.1 33 (by decide)]
    have e58 : h (58 + s.toNat) = h0 (58 + s.toNat) := F.2.2.2.1 _ (by omega)
    have e24 : h 24 5 = h0 24 5 + K := F.1
    refine go_iload rfl rfl ?_
    refine go_iconst rfl ?_
    refine go_iadd rfl (by unfold ab_iok; omega) ?_
    refine go_aload_n rfl rfl ?_
    refine go_getR rfl f_X6_47 rfl rfl ?_ -- sheets
    refine go_getR rfl f_X6_207 rfl rfl ?_ -- size
    refine go_iload_n rfl rfl ?_
    refine go_iald rfl rfl (by omega) (by omega) ?_
    rw [e33]
    refine go_icmp_ge rfl (tgt := 143) (by decide) (fun c55 => ?_) (fun c55 => ?_)
    · refine go_iload_n rfl rfl ?_
      exact go_iret rfl (Or.inl rfl) (hq _ h ⟨h0K, J, fun z => absurd z.1 (by omega)⟩ F)
    · refine go_aload_n rfl rfl ?_
      refine go_getR rfl f_X6_40 rfl rfl ?_ -- letters
      refine go_getI rfl f_X6_188 rfl rfl rfl ?_ -- size
      refine go_bipush rfl ?_
      refine go_icmp_ge rfl (tgt := 143) (by decide) (fun c67 => ?_) (fun c67 => ?_)
      · refine go_iload_n rfl rfl ?_
        exact go_iret rfl (Or.inl rfl) (hq _ h ⟨h0K, J, fun z => absurd z.2.1 (by have := F.1; omega)⟩ F)
      · refine go_aload_n rfl rfl ?_
        refine go_getR rfl f_X6_40 rfl rfl ?_ -- letters
        refine go_aload_n rfl rfl ?_
        refine go_iload rfl rfl ?_
        refine go_iald rfl (kd_sh s.toNat (by omega)) (by omega) (by omega) ?_
        refine go_aload_n rfl rfl ?_
        refine go_iload rfl rfl ?_
        refine go_iconst rfl ?_
        refine go_iadd rfl (by unfold ab_iok; omega) ?_
        refine go_iald rfl (kd_sh s.toNat (by omega)) (by omega) (by omega) ?_
        refine go_aload_n rfl rfl ?_
        refine go_iload rfl rfl ?_
        refine go_iconst rfl ?_
        refine go_iadd rfl (by unfold ab_iok; omega) ?_
        refine go_iald rfl (kd_sh s.toNat (by omega)) (by omega) (by omega) ?_
        refine go_aload_n rfl rfl ?_
        refine go_iload rfl rfl ?_
        refine go_iconst rfl ?_
        refine go_iadd rfl (by unfold ab_iok; omega) ?_
        refine go_iald rfl (kd_sh s.toNat (by omega)) (by omega) (by omega) ?_
        refine go_cV4I (M' := m_X1_mayBe) rfl l_X6_184 k_X1_mayBe (s_X1_mayBe) rfl rfl rfl rfl (by decide) (Nat.le_of_ble_eq_true rfl) (fun z96 h96 q96 => ?_) -- X1_mayBe
        obtain ⟨rfl, rfl⟩ := q96
        refine go_if_ne rfl (tgt := 105) (by decide) (fun c99 => ?_) (fun c99 => ?_)
        · have y : rd_L (h0 (58 + s.toNat)) K := by rw [e58] at c99; exact rd_n1 c99
          refine go_aload_n rfl rfl ?_
          refine go_getR rfl f_X6_40 rfl rfl ?_ -- letters
          refine go_aload_n rfl rfl ?_
          refine go_iload rfl rfl ?_
          refine go_iald rfl (kd_sh s.toNat (by omega)) (by omega) (by omega) ?_
          refine go_aload_n rfl rfl ?_
          refine go_iload rfl rfl ?_
          refine go_iconst rfl ?_
          refine go_iadd rfl (by unfold ab_iok; omega) ?_
          refine go_iald rfl (kd_sh s.toNat (by omega)) (by omega) (by omega) ?_
          refine go_aload_n rfl rfl ?_
          refine go_iload rfl rfl ?_
          refine go_iconst rfl ?_
          refine go_iadd rfl (by unfold ab_iok; omega) ?_
          refine go_iald rfl (kd_sh s.toNat (by omega)) (by omega) (by omega) ?_
          refine go_aload_n rfl rfl ?_
          refine go_iload rfl rfl ?_
          refine go_iconst rfl ?_
          refine go_iadd rfl (by unfold ab_iok; omega) ?_
          refine go_iald rfl (kd_sh s.toNat (by omega)) (by omega) (by omega) ?_
          refine go_cV4V (M' := m_X1_add) rfl l_X6_191 k_X1_add (s_X1_add (by rw [F.1]; omega)) rfl rfl rfl rfl (by decide) (Nat.le_of_ble_eq_true rfl) (fun h131 q131 => ?_) -- X1_add
          rw [if_pos (by omega)] at q131
          obtain rfl := q131
          refine go_iinc rfl rfl (by decide) rfl (by unfold ab_iok; omega) ?_
          refine go_iinc rfl rfl (by decide) rfl (by unfold ab_iok; omega) ?_
          refine go_goto rfl (tgt := 42) (by decide) ?_
          rw [show 4 * K + 4 = 4 * (K + 1) by omega]
          exact ih (K + 1) _ (by omega) (by omega) (by omega) (rk_nx J ⟨by omega, by omega, y⟩) (by have z := ca_nx h0K F; rw [show h (58 + s.toNat) = h0 (58 + s.toNat) from e58]; exact z)
        · refine go_goto rfl (tgt := 143) (by decide) ?_
          refine go_iload_n rfl rfl ?_
          exact go_iret rfl (Or.inl rfl) (hq _ h ⟨h0K, J, fun z => by rw [e58] at c99; exact rd_n0 c99 z.2.2⟩ F)
def crd_P (h : ab_H) (s z : Int) (h' : ab_H) : Prop := (¬ (0 ≤ s ∧ s < 4) ∧ z = -2 ∧ h' = h) ∨ ((0 ≤ s ∧ s < 4) ∧ h 33 s = -1 ∧ z = -11 ∧ h' = ab_hs h 0 7 1) ∨ ((0 ≤ s ∧ s < 4) ∧ ¬ h 33 s = -1 ∧ rk_P (h 33 s) (h 24 5) (rd_L (h (58 + s.toNat))) z ∧ ca_X h (h (58 + s.toNat)) z h')
set_option maxHeartbeats 4000000 in
set_option maxRecDepth 100000 in
theorem s_X6_read {g : ab_G} {h : ab_H} {s : Int} (hz : ∀ s, 0 ≤ s → s < 4 → -1 ≤ h 33 s ∧ h 33 s ≤ 60) (hl : 0 ≤ h 24 5 ∧ h 24 5 ≤ 12) : MethI g 6 m_X6_read [a_R 0, a_I s] h (fun z h' => crd_P h s z h') := by
  refine Meth.of_go k_X6_read (Nat.le_of_ble_eq_true rfl) ?_
  show Go g _ m_X6_read _ 0 [some (a_R 0), some (a_I s), none, none, none] [] h
  refine go_iload_n rfl rfl ?_
  refine go_cS1I (M' := m_X6_isSheet) rfl l_X6_195 k_X6_isSheet (s_X6_isSheet) rfl (by decide) (Nat.le_of_ble_eq_true rfl) (fun z1 h1 q1 => ?_) -- X6_isSheet
  obtain ⟨rfl, rfl⟩ := q1
  refine go_if_ne rfl (tgt := 10) (by decide) (fun c4 => ?_) (fun c4 => ?_)
  · have hs := rd_n1 c4
    refine go_aload_n rfl rfl ?_
    refine go_getR rfl f_X6_47 rfl rfl ?_ -- sheets
    refine go_iload_n rfl rfl ?_
    refine go_cV1I (M' := m_X3_isLost) rfl l_X6_198 k_X3_isLost (s_X3_isLost hs) rfl rfl rfl rfl (by decide) (Nat.le_of_ble_eq_true rfl) (fun z15 h15 q15 => ?_) -- X3_isLost
    obtain ⟨rfl, rfl⟩ := q15
    refine go_if_eq rfl (tgt := 27) (by decide) (fun c18 => ?_) (fun c18 => ?_)
    · refine go_aload_n rfl rfl ?_
      refine go_getR rfl f_X6_47 rfl rfl ?_ -- sheets
      refine go_getR rfl f_X6_204 rfl rfl ?_ -- items
      refine go_iload_n rfl rfl ?_
      refine go_aald rfl rfl (by omega) (by omega) (rf_31 s.toNat (by omega)) ?_
      refine go_astore_n rfl (by decide) rfl ?_
      refine go_iconst rfl ?_
      refine go_istore_n rfl (by decide) rfl ?_
      refine go_iconst rfl ?_
      refine go_istore rfl (by decide) rfl ?_
      have hy := rd_n0 c18
      exact lp_X6_read hs (by have := hz s hs.1 hs.2; omega) hl (fun K h2 R F => ⟨_, rfl, Or.inr (Or.inr ⟨hs, rd_n0 c18, R, F⟩)⟩) 20 0 h (by omega) (by omega) (by omega) (fun j j0 j1 => by omega) (ca_0 _ _ _ _ _)
    · refine go_aload_n rfl rfl ?_
      refine go_iconst rfl ?_
      refine go_cV1I (M' := m_X6_find) rfl l_X6_201 k_X6_find (s_X6_find (by omega)) rfl rfl rfl rfl (by decide) (Nat.le_of_ble_eq_true rfl) (fun z23 h23 q23 => ?_) -- X6_find
      exact go_iret rfl (Or.inl rfl) ⟨_, rfl, Or.inr (Or.inl ⟨hs, rd_n1 c18, q23.2, q23.1⟩)⟩
  · refine go_bipush rfl ?_
    exact go_iret rfl (Or.inl rfl) ⟨_, rfl, Or.inl ⟨rd_n0 c4, rfl, rfl⟩⟩
set_option maxHeartbeats 4000000 in
set_option maxRecDepth 100000 in
theorem lp_X7_read {g : ab_G} {h0 : ab_H} {s : Int} {X : Int → Int} {Q : Option ab_V → ab_H → Prop} (hs : 0 ≤ s ∧ s < 4) (hn : h0 62 6 ≤ 80) (hz : 0 ≤ h0 64 s ∧ h0 64 s ≤ 60) (hl : 0 ≤ h0 62 27 ∧ h0 62 27 ≤ 12) (hX : ∀ i j, j = 60 * s + i → 0 ≤ i → i < h0 64 s → h0 65 j = X i) (hq : ∀ K h, rk_P (h0 64 s) (h0 62 27) (rd_L X) K → cm_X h0 X K h → Q (some (a_I K)) h) : ∀ (f : Nat) (K mo : Int) (h : ab_H), 0 ≤ K → K ≤ 15 → 17 - K - (1 - mo) < f → ((mo = 1 ∧ ∀ j, 0 ≤ j → j < K → 4 * j + 3 < h0 64 s ∧ h0 62 27 + j < 12 ∧ rd_L X j) ∨ (mo = 0 ∧ rk_P (h0 64 s) (h0 62 27) (rd_L X) K)) → cm_X h0 X K h → ∀ v, Go g (ab_rm 6, 0, 0) m_X7_read Q 29 [some (a_R 62), some (a_I s), some (a_I K), some (a_I mo), v] [] h := by
  intro f
  induction f with
  | zero => intro K mo h h0K h1 hf JJ; omega
  | succ f ih =>
    intro K mo h h0K h1 hf JJ F v
    have e64 : h 64 s = h0 64 s := by rw [F.2.2.2.1 64 (by decide)]
    have xe : ∀ j, 0 ≤ j → 4 * j + 3 < h0 64 s → h 65 (60 * s + 4 * j) = X (4 * j) ∧ h 65 (60 * s + 4 * j + 1) = X (4 * j + 1) ∧ h 65 (60 * s + 4 * j + 2) = X (4 * j + 2) ∧ h 65 (60 * s + 4 * j + 3) = X (4 * j + 3) := fun j j0 j1 => by rw [F.2.2.2.1 65 (by decide)]; refine ⟨hX _ _ (by omega) (by omega) (by omega), hX _ _ (by omega) (by omega) (by omega), hX _ _ (by omega) (by omega) (by omega), hX _ _ (by omega) (by omega) (by omega)⟩
    refine go_iload_n rfl rfl ?_
    refine go_if_eq rfl (tgt := 119) (by decide) (fun c30 => ?_) (fun c30 => ?_)
    · refine go_iload_n rfl rfl ?_
      exact go_iret rfl (Or.inl rfl) (hq K h (by rcases JJ with y | y; exact absurd c30 (by have := y.1; omega); exact y.2) F)
    · have J : ∀ j, 0 ≤ j → j < K → 4 * j + 3 < h0 64 s ∧ h0 62 27 + j < 12 ∧ rd_L X j := by rcases JJ with y | y; exact y.2; exact absurd y.1 c30
      have hK12 : h0 62 27 + K ≤ 12 := by by_cases k0 : K = 0; omega; have := (J (K - 1) (by omega) (by omega)).2.1; omega
      refine go_iconst rfl ?_
      refine go_iload_n rfl rfl ?_
      refine go_imul rfl (by unfold ab_iok; omega) ?_
      refine go_iconst rfl ?_
      refine go_iadd rfl (by unfold ab_iok; omega) ?_
      refine go_aload_n rfl rfl ?_
      refine go_getR rfl f_X7_13 rfl rfl ?_ -- sizes
      refine go_iload_n rfl rfl ?_
      refine go_iald rfl rfl (by omega) (by omega) ?_
      rw [e64]
      refine go_icmp_gt rfl (tgt := 119) (by decide) (fun c44 => ?_) (fun c44 => ?_)
      · refine go_iload_n rfl rfl ?_
        exact go_iret rfl (Or.inl rfl) (hq K h ⟨h0K, J, fun z => absurd z.1 (by omega)⟩ F)
      · have x1 := xe K h0K (by omega)
        refine go_bipush rfl ?_
        refine go_iload_n rfl rfl ?_
        refine go_imul rfl (by unfold ab_iok; omega) ?_
        refine go_iconst rfl ?_
        refine go_iload_n rfl rfl ?_
        refine go_imul rfl (by unfold ab_iok; omega) ?_
        refine go_iadd rfl (by unfold ab_iok; omega) ?_
        refine go_istore rfl (by decide) rfl ?_
        refine go_aload_n rfl rfl ?_
        refine go_aload_n rfl rfl ?_
        refine go_getR rfl f_X7_16 rfl rfl ?_ -- items
        refine go_iload rfl rfl ?_
        refine go_iald rfl rfl (by omega) (by omega) ?_
        refine go_aload_n rfl rfl ?_
        refine go_getR rfl f_X7_16 rfl rfl ?_ -- items
        refine go_iload rfl rfl ?_
        refine go_iconst rfl ?_
        refine go_iadd rfl (by unfold ab_iok; omega) ?_
        refine go_iald rfl rfl (by omega) (by omega) ?_
        refine go_aload_n rfl rfl ?_
        refine go_getR rfl f_X7_16 rfl rfl ?_ -- items
        refine go_iload rfl rfl ?_
        refine go_iconst rfl ?_
        refine go_iadd rfl (by unfold ab_iok; omega) ?_
        refine go_iald rfl rfl (by omega) (by omega) ?_
        refine go_aload_n rfl rfl ?_
        refine go_getR rfl f_X7_16 rfl rfl ?_ -- items
        refine go_iload rfl rfl ?_
        refine go_iconst rfl ?_
        refine go_iadd rfl (by unfold ab_iok; omega) ?_
        refine go_iald rfl rfl (by omega) (by omega) ?_
        rw [x1.1, x1.2.1, x1.2.2.1, x1.2.2.2]
        refine go_cV4I (M' := m_X7_came) rfl l_X7_274 k_X7_came (s_X7_came (a := X (4 * K)) (b := X (4 * K + 1)) (c := X (4 * K + 2)) (d := X (4 * K + 3)) (by rw [F.2.2.2.2 6 (by decide)]; exact hn) (by rw [F.1]; omega)) rfl rfl rfl rfl (by decide) (Nat.le_of_ble_eq_true rfl) (fun z92 h92 q92 => ?_) -- X7_came
        have hz92 : z92 ≤ 100 := by obtain ⟨h3, F3, P⟩ := q92; have e27 := F3.2 27 (by decide); have := F.1; rcases P with ⟨y1, y2, -⟩ | ⟨y1, y2, y3, -⟩ | ⟨y1, y2, y3, -⟩ <;> omega
        refine go_if_lt rfl (tgt := 102) (by decide) (fun c95 => ?_) (fun c95 => ?_)
        · refine go_iconst rfl ?_
          refine go_istore_n rfl (by decide) rfl ?_
          refine go_iload_n rfl rfl ?_
          refine go_iload_n rfl rfl ?_
          refine go_if_eq rfl (tgt := 113) (by decide) (fun c106 => ?_) (fun c106 => ?_)
          · refine go_iconst rfl ?_
            refine go_iadd rfl (by unfold ab_iok; omega) ?_
            refine go_istore_n rfl (by decide) rfl ?_
            refine go_goto rfl (tgt := 29) (by decide) ?_
            obtain ⟨h3, F3, P⟩ := q92
            have F4 : cm_X h0 X K h3 := cm_rf F F3
            have e27 : h3 62 27 = h0 62 27 + K := F4.1
            rw [Int.add_zero]
            rcases P with ⟨y1, y2, rfl⟩ | ⟨y1, y2, y3, rfl⟩ | ⟨y1, y2, y3, rfl⟩
            · exact ih K 0 _ (by omega) (by omega) (by omega) (Or.inr ⟨rfl, h0K, J, fun z => y1 z.2.2⟩) F4 _
            · exact ih K 0 _ (by omega) (by omega) (by omega) (Or.inr ⟨rfl, h0K, J, fun z => by omega⟩) F4 _
            · omega
          · exact absurd rfl c106
        · refine go_iconst rfl ?_
          refine go_goto rfl (tgt := 103) (by decide) ?_
          refine go_istore_n rfl (by decide) rfl ?_
          refine go_iload_n rfl rfl ?_
          refine go_iload_n rfl rfl ?_
          refine go_if_eq rfl (tgt := 113) (by decide) (fun c106 => ?_) (fun c106 => ?_)
          · exact absurd c106 (by decide)
          · refine go_iconst rfl ?_
            refine go_goto rfl (tgt := 114) (by decide) ?_
            refine go_iadd rfl (by unfold ab_iok; omega) ?_
            refine go_istore_n rfl (by decide) rfl ?_
            refine go_goto rfl (tgt := 29) (by decide) ?_
            obtain ⟨h3, F3, P⟩ := q92
            have F4 : cm_X h0 X K h3 := cm_rf F F3
            have e27 : h3 62 27 = h0 62 27 + K := F4.1
            rcases P with ⟨y1, y2, rfl⟩ | ⟨y1, y2, y3, rfl⟩ | ⟨y1, y2, y3, rfl⟩
            · omega
            · omega
            · exact ih (K + 1) 1 _ (by omega) (by omega) (by omega) (Or.inl ⟨rfl, rk_nx J ⟨by omega, by omega, y1⟩⟩) (cm_nx h0K F4) _
def mrd_P (h : ab_H) (X : Int → Int) (s z : Int) (h' : ab_H) : Prop := (¬ (0 ≤ s ∧ s < 4) ∧ z = -2 ∧ h' = h) ∨ ((0 ≤ s ∧ s < 4) ∧ h 63 s < 0 ∧ z = -11 ∧ h' = ab_hs h 62 4 1) ∨ ((0 ≤ s ∧ s < 4) ∧ 0 ≤ h 63 s ∧ rk_P (h 64 s) (h 62 27) (rd_L X) z ∧ cm_X h X z h')
set_option maxHeartbeats 4000000 in
set_option maxRecDepth 100000 in
theorem s_X7_read {g : ab_G} {h : ab_H} {X : Int → Int} {s : Int} (hn : h 62 6 ≤ 80) (hz : 0 ≤ s ∧ s ≤ 3 → 0 ≤ h 63 s → 0 ≤ h 64 s ∧ h 64 s ≤ 60) (hl : 0 ≤ h 62 27 ∧ h 62 27 ≤ 12) (hX : 0 ≤ s ∧ s ≤ 3 → 0 ≤ h 63 s → ∀ i j, j = 60 * s + i → 0 ≤ i → i < h 64 s → h 65 j = X i) : MethI g 6 m_X7_read [a_R 62, a_I s] h (fun z h' => mrd_P h X s z h') := by
  refine Meth.of_go k_X7_read (Nat.le_of_ble_eq_true rfl) ?_
  show Go g _ m_X7_read _ 0 [some (a_R 62), some (a_I s), none, none, none] [] h
  refine go_iload_n rfl rfl ?_
  refine go_cS1I (M' := m_X7_isSheet) rfl l_X7_80 k_X7_isSheet (s_X7_isSheet) rfl (by decide) (Nat.le_of_ble_eq_true rfl) (fun z1 h1 q1 => ?_) -- X7_isSheet
  obtain ⟨rfl, rfl⟩ := q1
  refine go_if_ne rfl (tgt := 10) (by decide) (fun c4 => ?_) (fun c4 => ?_)
  · have hs2 := rd_n1 c4
    refine go_aload_n rfl rfl ?_
    refine go_getR rfl f_X7_7 rfl rfl ?_ -- forms
    refine go_iload_n rfl rfl ?_
    refine go_iald rfl rfl (by omega) (by omega) ?_
    refine go_if_ge rfl (tgt := 25) (by decide) (fun c16 => ?_) (fun c16 => ?_)
    · refine go_iconst rfl ?_
      refine go_istore_n rfl (by decide) rfl ?_
      refine go_iconst rfl ?_
      refine go_istore_n rfl (by decide) rfl ?_
      exact lp_X7_read (X := X) (by omega) hn (hz hs2 (by omega)) hl (hX hs2 (by omega)) (fun K h2 R F => ⟨_, rfl, Or.inr (Or.inr ⟨by omega, by omega, R, F⟩)⟩) 20 0 1 h (by omega) (by omega) (by omega) (Or.inl ⟨rfl, fun j j0 j1 => by omega⟩) (cm_0 _ _ _ _ _) _
    · refine go_aload_n rfl rfl ?_
      refine go_iconst rfl ?_
      refine go_cV1I (M' := m_X7_finds) rfl l_X7_86 k_X7_finds (s_X7_finds (by omega)) rfl rfl rfl rfl (by decide) (Nat.le_of_ble_eq_true rfl) (fun z21 h21 q21 => ?_) -- X7_finds
      exact go_iret rfl (Or.inl rfl) ⟨_, rfl, Or.inr (Or.inl ⟨by omega, by omega, q21.2, q21.1⟩)⟩
  · refine go_bipush rfl ?_
    exact go_iret rfl (Or.inl rfl) ⟨_, rfl, Or.inl ⟨by have := rd_n0 c4; omega, rfl, rfl⟩⟩
theorem iv_S.z {h : ab_H} (S : iv_S h) : ∀ s, 0 ≤ s → s < 4 → -1 ≤ h 33 s ∧ h 33 s ≤ 60 := fun s s0 s1 => by
  rcases S s s0 s1 with ⟨a, b⟩ | ⟨a, -⟩ <;> omega
theorem iv_S.y {h : ab_H} (S : iv_S h) {s : Int} (hs : 0 ≤ s ∧ s < 4) : (h 33 s = -1 ∧ h 63 s = -1) ∨ ((0 ≤ h 33 s ∧ h 33 s ≤ 60) ∧ (0 ≤ h 32 s ∧ h 32 s ≤ 2) ∧ h 63 s = h 32 s ∧ h 64 s = h 33 s ∧ ∀ i, 0 ≤ i → i < h 33 s → h 65 (60 * s + i) = h (58 + s.toNat) i) := S s hs.1 hs.2
/-- a finding of both -/
theorem inv_find {h : ab_H} {v : Int} (I : Inv h) : Inv (ab_hs (ab_hs h 0 7 v) 62 4 v) := by
  have e : ∀ k, ¬ (k = 0 ∨ k = 62) → ab_hs (ab_hs h 0 7 v) 62 4 v k = h k := fun k hk => by rw [ab_hs_f (by omega), ab_hs_f (by omega)]
  have e62 : ∀ b, ¬ b = 4 → ab_hs (ab_hs h 0 7 v) 62 4 v 62 b = h 62 b := fun b hb => by rw [ab_hs_i hb, ab_hs_f (by decide)]
  refine ⟨?_, ?_, ?_, ?_, ?_, ?_, ?_⟩
  · exact I.1.of (e 1 (by decide)) (e 2 (by decide)) (e62 6 (by decide)) (e 67 (by decide))
  · exact I.2.1.of (fun k k0 k1 => e k (by omega))
  · exact I.2.2.1.of (e 7 (by decide)) (e 8 (by decide)) (e 9 (by decide)) (e 72 (by decide)) (e 73 (by decide)) (e 74 (by decide))
  · exact I.2.2.2.1.of (by rw [e 24 (by decide)]) (e62 27 (by decide)) (e 25 (by decide)) (e 26 (by decide)) (e 27 (by decide)) (e 28 (by decide)) (e 81 (by decide))
  · exact I.2.2.2.2.1.of (e 32 (by decide)) (e 33 (by decide)) (e 63 (by decide)) (e 64 (by decide)) (e 65 (by decide)) (fun k k0 k1 => e k (by omega))
  · unfold iv_F; rw [ab_hs_eq, ab_hs_f (by decide), ab_hs_eq]
  · exact iv_C.of I (by rw [ab_hs_f (by decide), ab_hs_i (by decide)]) (fun k hk => e k (by omega))
theorem op_read {g : ab_G} {h : ab_H} {s : Int} (I : Inv h) : opI g 6 6 m_X6_read m_X7_read [a_I s] h := by
  have L := I.2.2.2.1
  have T := I.1
  have S : iv_S h := I.2.2.2.2.1
  refine (s_X6_read S.z L.1).mono (fun r h1 ⟨z, ez, P⟩ => ⟨z, ez, ?_⟩)
  have e : ∀ k, ¬ (k = 0 ∨ (24 ≤ k ∧ k ≤ 28)) → h1 k = h k := fun k hk => by
    rcases P with ⟨-, -, rfl⟩ | ⟨-, -, -, rfl⟩ | ⟨-, -, -, F⟩
    · rfl
    · exact ab_hs_f (by omega)
    · exact F.2.2.2.1 k (by omega)
  have l : 0 ≤ s ∧ s ≤ 3 → 0 ≤ h 63 s → (0 ≤ h 33 s ∧ h 33 s ≤ 60) ∧ h 64 s = h 33 s ∧ ∀ i, 0 ≤ i → i < h 33 s → h 65 (60 * s + i) = h (58 + s.toNat) i := fun s0 s1 => by
    rcases S.y (s := s) (by omega) with ⟨a, b⟩ | ⟨a, b, c, d, e⟩
    · omega
    · exact ⟨a, d, e⟩
  refine (s_X7_read (X := h (58 + s.toNat)) (by rw [e 62 (by decide), T.2.1]; exact T.1.2) (fun s0 s1 => ?_) (by rw [e 62 (by decide), L.2.1]; exact L.1) (fun s0 s1 i j hj i0 i1 => ?_)).mono (fun r' h2 ⟨z', ez', P'⟩ => ⟨z', ez', ?_⟩)
  · rw [e 63 (by decide)] at s1; rw [e 64 (by decide), (l s0 s1).2.1]; exact (l s0 s1).1
  · rw [e 63 (by decide)] at s1; rw [e 64 (by decide), (l s0 s1).2.1] at i1; rw [e 65 (by decide), hj]; exact (l s0 s1).2.2 i i0 i1
  · unfold mrd_P at P'
    rw [e 63 (by decide), e 64 (by decide), e 62 (by decide), L.2.1] at P'
    rcases P with ⟨x1, x2, rfl⟩ | ⟨x1, x2, x3, rfl⟩ | ⟨x1, x2, x3, x4⟩
    · rcases P' with ⟨y1, y2, rfl⟩ | ⟨y1, -⟩ | ⟨y1, -⟩
      · exact ⟨by omega, I⟩
      · exact absurd y1 x1
      · exact absurd y1 x1
    · rcases P' with ⟨y1, -⟩ | ⟨y1, y2, y3, rfl⟩ | ⟨y1, y2, -⟩
      · exact absurd x1 y1
      · exact ⟨by omega, inv_find I⟩
      · rcases S.y x1 with a | a
        · omega
        · omega
    · have y := S.y x1
      rcases P' with ⟨y1, -⟩ | ⟨y1, y2, -⟩ | ⟨y1, y2, y3, y4⟩
      · exact absurd x1 y1
      · rcases y with a | a
        · exact absurd a.1 x2
        · omega
      · rw [(l (by omega) y2).2.1] at y3
        have ek := rk_uniq y3 x3
        subst ek
        refine ⟨rfl, inv_adds I x3.1 x4 y4 (fun j j0 j1 => (x3.2.1 j j0 j1).2.2) ?_⟩
        by_cases k0 : z' = 0
        · have := L.1; omega
        · have := x3.2.1 (z' - 1) (by have := x3.1; omega) (by omega); omega
