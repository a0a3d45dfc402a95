/-! frames of the parts; one call of both -/
section IVF
variable {h h' : ab_H}
theorem iv_T.of (I : iv_T h) (e1 : h' 1 = h 1) (e2 : h' 2 = h 2) (e6 : h' 62 6 = h 62 6) (e67 : h' 67 = h 67) : iv_T h' := by unfold iv_T; rw [e1, e2, e6, e67]; exact I
theorem iv_R.of (I : iv_R h) (e : ∀ k, 1 ≤ k → k ≤ 6 → h' k = h k) : iv_R h' := by unfold iv_R rd_ps; rw [e 1 (by omega) (by omega), e 2 (by omega) (by omega), e 3 (by omega) (by omega), e 4 (by omega) (by omega), e 5 (by omega) (by omega), e 6 (by omega) (by omega)]; exact I
theorem iv_U.of (I : iv_U h) (e7 : h' 7 = h 7) (e8 : h' 8 = h 8) (e9 : h' 9 = h 9) (e72 : h' 72 = h 72) (e73 : h' 73 = h 73) (e74 : h' 74 = h 74) : iv_U h' := by unfold iv_U; rw [e7, e8, e9, e72, e73, e74]; exact I
theorem iv_L.of (I : iv_L h) (e5 : h' 24 5 = h 24 5) (e27 : h' 62 27 = h 62 27) (e25 : h' 25 = h 25) (e26 : h' 26 = h 26) (e277 : h' 27 = h 27) (e28 : h' 28 = h 28) (e81 : h' 81 = h 81) : iv_L h' := by unfold iv_L; rw [e5, e27, e25, e26, e277, e28, e81]; exact I
theorem iv_S.of (I : iv_S h) (e32 : h' 32 = h 32) (e33 : h' 33 = h 33) (e63 : h' 63 = h 63) (e64 : h' 64 = h 64) (e65 : h' 65 = h 65) (e58 : ∀ k, 58 ≤ k → k < 62 → h' k = h k) : iv_S h' := fun s s0 s1 => (I s s0 s1).of (by rw [e32]) (by rw [e33]) (by rw [e63]) (by rw [e64]) (fun _ _ _ => by rw [e65]) (e58 _ (by omega) (by omega))
theorem iv_F.of (I : iv_F h) (e4 : h' 62 4 = h 62 4) (e7 : h' 0 7 = h 0 7) : iv_F h' := by unfold iv_F; rw [e4, e7]; exact I
theorem iv_C.st (e : h' 0 6 = 1) : iv_C h' := fun z => by omega
theorem iv_C.of (I : Inv h) (e : h' 0 6 = h 0 6) (ek : ∀ k, (1 ≤ k ∧ k ≤ 9) ∨ k = 18 ∨ k = 23 ∨ (34 ≤ k ∧ k < 58) → h' k = h k) : iv_C h' := fun z => (I.2.2.2.2.2.2 (by rw [← e]; exact z)).of I.ro.1.2 ek
end IVF
/-- one call of the class, then of the reference: the answers are alike, and what holds goes on to hold -/
def opI (g : ab_G) (d d' : Nat) (X Y : ab_M) (as : List ab_V) (h : ab_H) : Prop := MethI g d X (a_R 0 :: as) h (fun z h1 => MethI g d' Y (a_R 62 :: as) h1 (fun z' h2 => z' = z ∧ Inv h2))
theorem op_q {g : ab_G} {d d' : Nat} {X Y : ab_M} {as : List ab_V} {h : ab_H} {F : ab_H → Int} (I : Inv h) (c : MethI g d X (a_R 0 :: as) h (fun z h' => z = F h ∧ CF h h' ∧ Inv h')) (m : ∀ h, Inv h → MethI g d' Y (a_R 62 :: as) h (fun z h' => z = F h ∧ MF h h' ∧ Inv h')) (e : ∀ h', CF h h' → F h' = F h) : opI g d d' X Y as h := by
  refine c.mono (fun r h1 ⟨z, ez, e1, F1, I1⟩ => ⟨z, ez, ?_⟩)
  refine (m h1 I1).mono (fun r' h2 ⟨z', ez', e2, F2, I2⟩ => ⟨z', ez', ?_, I2⟩)
  rw [e1, e2, e h1 F1]
set_option maxHeartbeats 4000000 in
set_option maxRecDepth 100000 in
theorem s_X6_isMan {g : ab_G} {h : ab_H} {v : Int}  : MethI g 1 m_X6_isMan [a_R 0, a_I v] h (fun z h' => h = h' ∧ z = rd_bool (0 ≤ v ∧ v < h 1 8)) := by
  refine Meth.of_go k_X6_isMan (Nat.le_of_ble_eq_true rfl) ?_
  show Go g _ m_X6_isMan _ 0 [some (a_R 0), some (a_I v)] [] h
  refine go_iload_n rfl rfl ?_
  refine go_if_lt rfl (tgt := 19) (by decide) (fun c1 => ?_) (fun c1 => ?_)
  · refine go_iconst rfl ?_
    exact go_iret rfl (Or.inr ⟨rfl, by omega⟩) ⟨_, rfl, rfl, (rd_f (by omega)).symm⟩
  · refine go_iload_n rfl rfl ?_
    refine go_aload_n rfl rfl ?_
    refine go_getR rfl f_X6_10 rfl rfl ?_ -- road
    refine go_getI rfl f_X6_176 rfl rfl rfl ?_ -- men
    refine go_icmp_ge rfl (tgt := 19) (by decide) (fun c12 => ?_) (fun c12 => ?_)
    · refine go_iconst rfl ?_
      exact go_iret rfl (Or.inr ⟨rfl, by omega⟩) ⟨_, rfl, rfl, (rd_f (by omega)).symm⟩
    · refine go_iconst rfl ?_
      refine go_goto rfl (tgt := 20) (by decide) ?_
      exact go_iret rfl (Or.inr ⟨rfl, by omega⟩) ⟨_, rfl, rfl, (rd_t (by omega)).symm⟩
set_option maxHeartbeats 4000000 in
set_option maxRecDepth 100000 in
theorem s_X6_isPace {g : ab_G} {h : ab_H} {v : Int}  : MethI g 1 m_X6_isPace [a_R 0, a_I v] h (fun z h' => h = h' ∧ z = rd_bool (0 ≤ v ∧ v ≤ h 1 7)) := by
  refine Meth.of_go k_X6_isPace (Nat.le_of_ble_eq_true rfl) ?_
  show Go g _ m_X6_isPace _ 0 [some (a_R 0), some (a_I v)] [] h
  refine go_iload_n rfl rfl ?_
  refine go_if_lt rfl (tgt := 19) (by decide) (fun c1 => ?_) (fun c1 => ?_)
  · refine go_iconst rfl ?_
    exact go_iret rfl (Or.inr ⟨rfl, by omega⟩) ⟨_, rfl, rfl, (rd_f (by omega)).symm⟩
  · refine go_iload_n rfl rfl ?_
    refine go_aload_n rfl rfl ?_
    refine go_getR rfl f_X6_10 rfl rfl ?_ -- road
    refine go_getI rfl f_X6_262 rfl rfl rfl ?_ -- length
    refine go_icmp_gt rfl (tgt := 19) (by decide) (fun c12 => ?_) (fun c12 => ?_)
    · refine go_iconst rfl ?_
      exact go_iret rfl (Or.inr ⟨rfl, by omega⟩) ⟨_, rfl, rfl, (rd_f (by omega)).symm⟩
    · refine go_iconst rfl ?_
      refine go_goto rfl (tgt := 20) (by decide) ?_
      exact go_iret rfl (Or.inr ⟨rfl, by omega⟩) ⟨_, rfl, rfl, (rd_t (by omega)).symm⟩
set_option maxHeartbeats 4000000 in
set_option maxRecDepth 100000 in
theorem s_X6_isTime {g : ab_G} {h : ab_H} {v : Int}  : MethI g 1 m_X6_isTime [a_I v] h (fun z h' => h = h' ∧ z = rd_bool (0 ≤ v ∧ v ≤ 400)) := by
  refine Meth.of_go k_X6_isTime (Nat.le_of_ble_eq_true rfl) ?_
  show Go g _ m_X6_isTime _ 0 [some (a_I v)] [] h
  refine go_iload_n rfl rfl ?_
  refine go_if_lt rfl (tgt := 15) (by decide) (fun c1 => ?_) (fun c1 => ?_)
  · refine go_iconst rfl ?_
    exact go_iret rfl (Or.inr ⟨rfl, by omega⟩) ⟨_, rfl, rfl, (rd_f (by omega)).symm⟩
  · refine go_iload_n rfl rfl ?_
    refine go_sipush rfl ?_
    refine go_icmp_gt rfl (tgt := 15) (by decide) (fun c8 => ?_) (fun c8 => ?_)
    · refine go_iconst rfl ?_
      exact go_iret rfl (Or.inr ⟨rfl, by omega⟩) ⟨_, rfl, rfl, (rd_f (by omega)).symm⟩
    · refine go_iconst rfl ?_
      refine go_goto rfl (tgt := 16) (by decide) ?_
      exact go_iret rfl (Or.inr ⟨rfl, by omega⟩) ⟨_, rfl, rfl, (rd_t (by omega)).symm⟩
set_option maxHeartbeats 4000000 in
set_option maxRecDepth 100000 in
theorem s_X6_isSpan {g : ab_G} {h : ab_H} {v w : Int}  : MethI g 1 m_X6_isSpan [a_I v, a_I w] h (fun z h' => h = h' ∧ z = rd_bool (1 ≤ v ∧ v ≤ 200 ∧ 1 ≤ w ∧ w ≤ 99)) := by
  refine Meth.of_go k_X6_isSpan (Nat.le_of_ble_eq_true rfl) ?_
  show Go g _ m_X6_isSpan _ 0 [some (a_I v), some (a_I w)] [] h
  refine go_iload_n rfl rfl ?_
  refine go_iconst rfl ?_
  refine go_icmp_lt rfl (tgt := 27) (by decide) (fun c2 => ?_) (fun c2 => ?_)
  · refine go_iconst rfl ?_
    exact go_iret rfl (Or.inr ⟨rfl, by omega⟩) ⟨_, rfl, rfl, (rd_f (by omega)).symm⟩
  · refine go_iload_n rfl rfl ?_
    refine go_sipush rfl ?_
    refine go_icmp_gt rfl (tgt := 27) (by decide) (fun c9 => ?_) (fun c9 => ?_)
    · refine go_iconst rfl ?_
      exact go_iret rfl (Or.inr ⟨rfl, by omega⟩) ⟨_, rfl, rfl, (rd_f (by omega)).symm⟩
    · refine go_iload_n rfl rfl ?_
      refine go_iconst rfl ?_
      refine go_icmp_lt rfl (tgt := 27) (by decide) (fun c14 => ?_) (fun c14 => ?_)
      · refine go_iconst rfl ?_
        exact go_iret rfl (Or.inr ⟨rfl, by omega⟩) ⟨_, rfl, rfl, (rd_f (by omega)).symm⟩
      · refine go_iload_n rfl rfl ?_
        refine go_bipush rfl ?_
        refine go_icmp_gt rfl (tgt := 27) (by decide) (fun c20 => ?_) (fun c20 => ?_)
        · refine go_iconst rfl ?_
          exact go_iret rfl (Or.inr ⟨rfl, by omega⟩) ⟨_, rfl, rfl, (rd_f (by omega)).symm⟩
        · refine go_iconst rfl ?_
          refine go_goto rfl (tgt := 28) (by decide) ?_
          exact go_iret rfl (Or.inr ⟨rfl, by omega⟩) ⟨_, rfl, rfl, (rd_t (by omega)).symm⟩
set_option maxHeartbeats 4000000 in
set_option maxRecDepth 100000 in
theorem s_X6_isSheet {g : ab_G} {h : ab_H} {v : Int}  : MethI g 1 m_X6_isSheet [a_I v] h (fun z h' => h = h' ∧ z = rd_bool (0 ≤ v ∧ v < 4)) := by
  refine Meth.of_go k_X6_isSheet (Nat.le_of_ble_eq_true rfl) ?_
  show Go g _ m_X6_isSheet _ 0 [some (a_I v)] [] h
  refine go_iload_n rfl rfl ?_
  refine go_if_lt rfl (tgt := 13) (by decide) (fun c1 => ?_) (fun c1 => ?_)
  · refine go_iconst rfl ?_
    exact go_iret rfl (Or.inr ⟨rfl, by omega⟩) ⟨_, rfl, rfl, (rd_f (by omega)).symm⟩
  · refine go_iload_n rfl rfl ?_
    refine go_iconst rfl ?_
    refine go_icmp_ge rfl (tgt := 13) (by decide) (fun c6 => ?_) (fun c6 => ?_)
    · refine go_iconst rfl ?_
      exact go_iret rfl (Or.inr ⟨rfl, by omega⟩) ⟨_, rfl, rfl, (rd_f (by omega)).symm⟩
    · refine go_iconst rfl ?_
      refine go_goto rfl (tgt := 14) (by decide) ?_
      exact go_iret rfl (Or.inr ⟨rfl, by omega⟩) ⟨_, rfl, rfl, (rd_t (by omega)).symm⟩
set_option maxHeartbeats 4000000 in
set_option maxRecDepth 100000 in
theorem s_X6_isForm {g : ab_G} {h : ab_H} {v : Int}  : MethI g 1 m_X6_isForm [a_I v] h (fun z h' => h = h' ∧ z = rd_bool (0 ≤ v ∧ v < 3)) := by
  refine Meth.of_go k_X6_isForm (Nat.le_of_ble_eq_true rfl) ?_
  show Go g _ m_X6_isForm _ 0 [some (a_I v)] [] h
  refine go_iload_n rfl rfl ?_
  refine go_if_lt rfl (tgt := 13) (by decide) (fun c1 => ?_) (fun c1 => ?_)
  · refine go_iconst rfl ?_
    exact go_iret rfl (Or.inr ⟨rfl, by omega⟩) ⟨_, rfl, rfl, (rd_f (by omega)).symm⟩
  · refine go_iload_n rfl rfl ?_
    refine go_iconst rfl ?_
    refine go_icmp_ge rfl (tgt := 13) (by decide) (fun c6 => ?_) (fun c6 => ?_)
    · refine go_iconst rfl ?_
      exact go_iret rfl (Or.inr ⟨rfl, by omega⟩) ⟨_, rfl, rfl, (rd_f (by omega)).symm⟩
    · refine go_iconst rfl ?_
      refine go_goto rfl (tgt := 14) (by decide) ?_
      exact go_iret rfl (Or.inr ⟨rfl, by omega⟩) ⟨_, rfl, rfl, (rd_t (by omega)).symm⟩
set_option maxHeartbeats 4000000 in
set_option maxRecDepth 100000 in
theorem s_X6_find {g : ab_G} {h : ab_H} {v : Int} (hv : 0 ≤ v ∧ v ≤ 100) : MethI g 1 m_X6_find [a_R 0, a_I v] h (fun z h' => h' = ab_hs h 0 7 v ∧ z = -10 - v) := by
  refine Meth.of_go k_X6_find (Nat.le_of_ble_eq_true rfl) ?_
  show Go g _ m_X6_find _ 0 [some (a_R 0), some (a_I v)] [] h
  refine go_aload_n rfl rfl ?_
  refine go_iload_n rfl rfl ?_
  refine go_putI rfl f_X6_55 rfl rfl rfl ?_ -- finding
  refine go_bipush rfl ?_
  refine go_iload_n rfl rfl ?_
  refine go_isub rfl (by unfold ab_iok; omega) ?_
  exact go_iret rfl (Or.inl rfl) ⟨_, rfl, rfl, rfl⟩
def ty_P (h : ab_H) (b z : Int) (h' : ab_H) : Prop := (¬ (0 ≤ b ∧ b ≤ 255) ∧ z = -2 ∧ h' = h) ∨ ((0 ≤ b ∧ b ≤ 255) ∧ h 1 5 = 80 ∧ z = -4 ∧ h' = h) ∨ ((0 ≤ b ∧ b ≤ 255) ∧ h 1 5 < 80 ∧ z = h 1 5 + 1 ∧ h' 1 5 = h 1 5 + 1 ∧ h' 2 = ps_up (h 2) (h 1 5) b ∧ iv_R h' ∧ h' 0 6 = 1 ∧ (∀ k, ¬ (k ≤ 6) → h' k = h k) ∧ ∀ b, b ≠ 6 → h' 0 b = h 0 b)
theorem ty_end {h h2 : ab_H} {v : Int} (hv : 0 ≤ v ∧ v ≤ 255) (hb : h 1 5 < 80) (P : ps_Post (ab_hs (ab_hs h 2 (h 1 5) v) 1 5 (h 1 5 + 1)) h2) : ty_P h v (ab_hs h2 0 6 1 1 5) (ab_hs h2 0 6 1) := by
  have o := P.ok
  have e5 : h2 1 5 = h 1 5 + 1 := by rw [P.2.2.2.2, ab_hs_eq]
  have e2 : h2 2 = ps_up (h 2) (h 1 5) v := by rw [P.2.2.2.1 2 (by decide), ab_hs_f (by decide), up_eq]
  refine Or.inr (Or.inr ⟨hv, hb, ?_, ?_, ?_, ?_, ab_hs_eq, fun k hk => ?_, fun b hb => ?_⟩)
  · rw [ab_hs_f (by decide)]; exact e5
  · rw [ab_hs_f (by decide)]; exact e5
  · rw [ab_hs_f (by decide)]; exact e2
  · exact iv_R.of o (fun k k0 k1 => ab_hs_f (by omega))
  · rw [ab_hs_f (by omega), P.2.2.2.1 k (by omega), ab_hs_f (by omega), ab_hs_f (by omega)]
  · rw [ab_hs_i hb, P.2.2.2.1 0 (by decide), ab_hs_f (by decide), ab_hs_f (by decide)]
set_option maxHeartbeats 4000000 in
set_option maxRecDepth 100000 in
theorem s_X6_type {g : ab_G} {h : ab_H} {v : Int} (I : Inv h) : MethI g 8 m_X6_type [a_R 0, a_I v] h (fun z h' => ty_P h v z h') := by
  refine Meth.of_go k_X6_type (Nat.le_of_ble_eq_true rfl) ?_
  show Go g _ m_X6_type _ 0 [some (a_R 0), some (a_I v)] [] h
  have I1 : iv_T h := I.1
  have I11 := I1.1
  refine go_iload_n rfl rfl ?_
  refine go_if_lt rfl (tgt := 11) (by decide) (fun c1 => ?_) (fun c1 => ?_)
  · refine go_bipush rfl ?_
    exact go_iret rfl (Or.inl rfl) ⟨_, rfl, Or.inl ⟨by omega, rfl, rfl⟩⟩
  · refine go_iload_n rfl rfl ?_
    refine go_sipush rfl ?_
    refine go_icmp_le rfl (tgt := 14) (by decide) (fun c8 => ?_) (fun c8 => ?_)
    · refine go_aload_n rfl rfl ?_
      refine go_getR rfl f_X6_10 rfl rfl ?_ -- road
      refine go_getI rfl f_X6_59 rfl rfl rfl ?_ -- bytes
      refine go_bipush rfl ?_
      refine go_icmp_lt rfl (tgt := 29) (by decide) (fun c23 => ?_) (fun c23 => ?_)
      · refine go_aload_n rfl rfl ?_
        refine go_getR rfl f_X6_10 rfl rfl ?_ -- road
        refine go_iload_n rfl rfl ?_
        refine go_cV1V (M' := m_X2_append) rfl l_X6_62 k_X2_append (s_X2_append I1.1.1) rfl rfl rfl rfl (by decide) (Nat.le_of_ble_eq_true rfl) (fun h34 q34 => ?_) -- X2_append
        rw [if_pos (by omega)] at q34
        subst q34
        refine go_aload_n rfl rfl ?_
        refine go_getR rfl f_X6_10 rfl rfl ?_ -- road
        refine go_cV0V (M' := m_X2_parse) rfl l_X6_66 k_X2_parse (s_X2_parse (by rw [ab_hs_eq]; omega)) rfl rfl rfl rfl (by decide) (Nat.le_of_ble_eq_true rfl) (fun h41 q41 => ?_) -- X2_parse
        refine go_aload_n rfl rfl ?_
        refine go_iconst rfl ?_
        refine go_putZ rfl f_X6_51 rfl rfl rfl (by decide) ?_ -- stale
        refine go_aload_n rfl rfl ?_
        refine go_getR rfl f_X6_10 rfl rfl ?_ -- road
        refine go_getI rfl f_X6_59 rfl rfl rfl ?_ -- bytes
        exact go_iret rfl (Or.inl rfl) ⟨_, rfl, ty_end (by omega) c23 q41⟩
      · refine go_bipush rfl ?_
        exact go_iret rfl (Or.inl rfl) ⟨_, rfl, Or.inr (Or.inl ⟨by omega, by have := I1.1.2; omega, rfl, rfl⟩)⟩
    · refine go_bipush rfl ?_
      exact go_iret rfl (Or.inl rfl) ⟨_, rfl, Or.inl ⟨by omega, rfl, rfl⟩⟩
def wp_P (h : ab_H) (z : Int) (h' : ab_H) : Prop := z = h 1 5 ∧ h' 1 5 = 0 ∧ h' 2 = h 2 ∧ iv_R h' ∧ h' 0 6 = 1 ∧ (∀ k, ¬ (k ≤ 6) → h' k = h k) ∧ ∀ b, b ≠ 6 → h' 0 b = h 0 b
theorem wp_end {h h2 : ab_H} (P : ps_Post (ab_hs h 1 5 0) h2) : wp_P h (h 1 5) (ab_hs h2 0 6 1) := by
  have o := P.ok
  refine ⟨rfl, ?_, ?_, iv_R.of o (fun k k0 k1 => ab_hs_f (by omega)), ab_hs_eq, fun k hk => ?_, fun b hb => ?_⟩
  · rw [ab_hs_f (by decide), P.2.2.2.2, ab_hs_eq]
  · rw [ab_hs_f (by decide), P.2.2.2.1 2 (by decide), ab_hs_f (by decide)]
  · rw [ab_hs_f (by omega), P.2.2.2.1 k (by omega), ab_hs_f (by omega)]
  · rw [ab_hs_i hb, P.2.2.2.1 0 (by decide), ab_hs_f (by decide)]
set_option maxHeartbeats 4000000 in
set_option maxRecDepth 100000 in
theorem s_X6_wipe {g : ab_G} {h : ab_H}  : MethI g 8 m_X6_wipe [a_R 0] h (fun z h' => wp_P h z h') := by
  refine Meth.of_go k_X6_wipe (Nat.le_of_ble_eq_true rfl) ?_
  show Go g _ m_X6_wipe _ 0 [some (a_R 0), none] [] h
  refine go_aload_n rfl rfl ?_
  refine go_getR rfl f_X6_10 rfl rfl ?_ -- road
  refine go_getI rfl f_X6_59 rfl rfl rfl ?_ -- bytes
  refine go_istore_n rfl (by decide) rfl ?_
  refine go_aload_n rfl rfl ?_
  refine go_getR rfl f_X6_10 rfl rfl ?_ -- road
  refine go_iconst rfl ?_
  refine go_putI rfl f_X6_59 rfl rfl rfl ?_ -- bytes
  refine go_aload_n rfl rfl ?_
  refine go_getR rfl f_X6_10 rfl rfl ?_ -- road
  refine go_cV0V (M' := m_X2_parse) rfl l_X6_66 k_X2_parse (s_X2_parse (by rw [ab_hs_eq]; omega)) rfl rfl rfl rfl (by decide) (Nat.le_of_ble_eq_true rfl) (fun h20 q20 => ?_) -- X2_parse
  refine go_aload_n rfl rfl ?_
  refine go_iconst rfl ?_
  refine go_putZ rfl f_X6_51 rfl rfl rfl (by decide) ?_ -- stale
  refine go_iload_n rfl rfl ?_
  exact go_iret rfl (Or.inl rfl) ⟨_, rfl, wp_end q20⟩
set_option maxHeartbeats 4000000 in
set_option maxRecDepth 100000 in
theorem s_X6_fault {g : ab_G} {h : ab_H}  : MethI g 1 m_X6_fault [a_R 0] h (fun z h' => h = h' ∧ z = h 1 6) := by
  refine Meth.of_go k_X6_fault (Nat.le_of_ble_eq_true rfl) ?_
  show Go g _ m_X6_fault _ 0 [some (a_R 0)] [] h
  refine go_aload_n rfl rfl ?_
  refine go_getR rfl f_X6_10 rfl rfl ?_ -- road
  refine go_getI rfl f_X6_69 rfl rfl rfl ?_ -- fault
  exact go_iret rfl (Or.inl rfl) ⟨_, rfl, rfl, rfl⟩
def bg_n (h : ab_H) (i w : Int) : Int := if w = 0 then h 3 i else if w = 1 then h 4 i else h 5 i
noncomputable def bg_F (h : ab_H) (i w : Int) : Int := haveI := Classical.propDecidable ((0 ≤ i ∧ i < h 1 8) ∧ 0 ≤ w ∧ w ≤ 2); if (0 ≤ i ∧ i < h 1 8) ∧ 0 ≤ w ∧ w ≤ 2 then bg_n h i w else -2
noncomputable def hs_F (h : ab_H) (i : Int) : Int := if 0 ≤ i ∧ i < h 1 9 then h 6 i else -2
set_option maxHeartbeats 4000000 in
set_option maxRecDepth 100000 in
theorem s_X6_begins {g : ab_G} {h : ab_H} {v w : Int} (I : Inv h) : MethI g 2 m_X6_begins [a_R 0, a_I v, a_I w] h (fun z h' => h = h' ∧ z = bg_F h v w) := by
  refine Meth.of_go k_X6_begins (Nat.le_of_ble_eq_true rfl) ?_
  show Go g _ m_X6_begins _ 0 [some (a_R 0), some (a_I v), some (a_I w)] [] h
  have r1 := I.ro.1
  refine go_aload_n rfl rfl ?_
  refine go_iload_n rfl rfl ?_
  refine go_cV1I (M' := m_X6_isMan) rfl l_X6_72 k_X6_isMan (s_X6_isMan) rfl rfl rfl rfl (by decide) (Nat.le_of_ble_eq_true rfl) (fun z2 h2 q2 => ?_) -- X6_isMan
  obtain ⟨rfl, rfl⟩ := q2
  refine go_if_ne rfl (tgt := 11) (by decide) (fun c5 => ?_) (fun c5 => ?_)
  · refine go_iload_n rfl rfl ?_
    have hm := rd_n1 c5
    by_cases w0 : w = 0
    · subst w0
      refine go_tableIn (off := 28) (tgt := 40) rfl (by omega) (by omega) rfl (by decide) ?_
      refine go_aload_n rfl rfl ?_
      refine go_getR rfl f_X6_10 rfl rfl ?_ -- road
      refine go_getR rfl f_X6_76 rfl rfl ?_ -- pace
      refine go_iload_n rfl rfl ?_
      refine go_iald rfl rfl (by omega) (by omega) ?_
      exact go_iret rfl (Or.inl rfl) ⟨_, rfl, rfl, (by unfold bg_F bg_n; rw [if_pos ⟨hm, by omega⟩, if_pos rfl])⟩
    by_cases w1 : w = 1
    · subst w1
      refine go_tableIn (off := 38) (tgt := 50) rfl (by omega) (by omega) rfl (by decide) ?_
      refine go_aload_n rfl rfl ?_
      refine go_getR rfl f_X6_10 rfl rfl ?_ -- road
      refine go_getR rfl f_X6_80 rfl rfl ?_ -- facing
      refine go_iload_n rfl rfl ?_
      refine go_iald rfl rfl (by omega) (by omega) ?_
      exact go_iret rfl (Or.inl rfl) ⟨_, rfl, rfl, (by unfold bg_F bg_n; rw [if_pos ⟨hm, by omega⟩, if_neg (by omega), if_pos rfl])⟩
    by_cases w2 : w = 2
    · subst w2
      refine go_tableIn (off := 48) (tgt := 60) rfl (by omega) (by omega) rfl (by decide) ?_
      refine go_aload_n rfl rfl ?_
      refine go_getR rfl f_X6_10 rfl rfl ?_ -- road
      refine go_getR rfl f_X6_83 rfl rfl ?_ -- setOut
      refine go_iload_n rfl rfl ?_
      refine go_iald rfl rfl (by omega) (by omega) ?_
      exact go_iret rfl (Or.inl rfl) ⟨_, rfl, rfl, (by unfold bg_F bg_n; rw [if_pos ⟨hm, by omega⟩, if_neg (by omega), if_neg (by omega)])⟩
    refine go_tableOut (tgt := 70) rfl (by omega) (by decide) ?_
    refine go_bipush rfl ?_
    exact go_iret rfl (Or.inl rfl) ⟨_, rfl, rfl, (by unfold bg_F; rw [if_neg (by omega)])⟩
  · refine go_bipush rfl ?_
    exact go_iret rfl (Or.inl rfl) ⟨_, rfl, rfl, (by unfold bg_F; rw [if_neg (fun z => rd_n0 c5 z.1)])⟩
set_option maxHeartbeats 4000000 in
set_option maxRecDepth 100000 in
theorem s_X6_house {g : ab_G} {h : ab_H} {v : Int} (I : Inv h) : MethI g 1 m_X6_house [a_R 0, a_I v] h (fun z h' => h = h' ∧ z = hs_F h v) := by
  refine Meth.of_go k_X6_house (Nat.le_of_ble_eq_true rfl) ?_
  show Go g _ m_X6_house _ 0 [some (a_R 0), some (a_I v)] [] h
  have r1 := I.hs.1
  refine go_iload_n rfl rfl ?_
  refine go_if_lt rfl (tgt := 15) (by decide) (fun c1 => ?_) (fun c1 => ?_)
  · refine go_bipush rfl ?_
    exact go_iret rfl (Or.inl rfl) ⟨_, rfl, rfl, (if_neg (by omega)).symm⟩
  · refine go_iload_n rfl rfl ?_
    refine go_aload_n rfl rfl ?_
    refine go_getR rfl f_X6_10 rfl rfl ?_ -- road
    refine go_getI rfl f_X6_86 rfl rfl rfl ?_ -- houses
    refine go_icmp_lt rfl (tgt := 18) (by decide) (fun c12 => ?_) (fun c12 => ?_)
    · refine go_aload_n rfl rfl ?_
      refine go_getR rfl f_X6_10 rfl rfl ?_ -- road
      refine go_getR rfl f_X6_89 rfl rfl ?_ -- housePace
      refine go_iload_n rfl rfl ?_
      refine go_iald rfl rfl (by omega) (by omega) ?_
      exact go_iret rfl (Or.inl rfl) ⟨_, rfl, rfl, (if_pos (by omega)).symm⟩
    · refine go_bipush rfl ?_
      exact go_iret rfl (Or.inl rfl) ⟨_, rfl, rfl, (if_neg (by omega)).symm⟩
def lw_P (h : ab_H) (k v z : Int) (h' : ab_H) : Prop := (¬ ((k = 0 ∧ 0 ≤ v ∧ v ≤ 2) ∨ (k = 1 ∧ 0 ≤ v ∧ v ≤ 1)) ∧ z = -2 ∧ h' = h) ∨ (((k = 0 ∧ 0 ≤ v ∧ v ≤ 2) ∨ (k = 1 ∧ 0 ≤ v ∧ v ≤ 1)) ∧ z = h 7 (2 + k) ∧ h' = ab_hs (ab_hs h 7 (2 + k) v) 0 6 1)
set_option maxHeartbeats 4000000 in
set_option maxRecDepth 100000 in
theorem s_X6_law {g : ab_G} {h : ab_H} {k v : Int}  : MethI g 8 m_X6_law [a_R 0, a_I k, a_I v] h (fun z h' => lw_P h k v z h') := by
  refine Meth.of_go k_X6_law (Nat.le_of_ble_eq_true rfl) ?_
  show Go g _ m_X6_law _ 0 [some (a_R 0), some (a_I k), some (a_I v), none] [] h
  refine go_iload_n rfl rfl ?_
  refine go_if_ne rfl (tgt := 36) (by decide) (fun c1 => ?_) (fun c1 => ?_)
  · refine go_iload_n rfl rfl ?_
    refine go_iconst rfl ?_
    refine go_icmp_ne rfl (tgt := 73) (by decide) (fun c38 => ?_) (fun c38 => ?_)
    · refine go_bipush rfl ?_
      exact go_iret rfl (Or.inl rfl) ⟨_, rfl, Or.inl ⟨by omega, rfl, rfl⟩⟩
    · refine go_iload_n rfl rfl ?_
      refine go_if_lt rfl (tgt := 73) (by decide) (fun c42 => ?_) (fun c42 => ?_)
      · refine go_bipush rfl ?_
        exact go_iret rfl (Or.inl rfl) ⟨_, rfl, Or.inl ⟨by omega, rfl, rfl⟩⟩
      · refine go_iload_n rfl rfl ?_
        refine go_iconst rfl ?_
        refine go_icmp_gt rfl (tgt := 73) (by decide) (fun c47 => ?_) (fun c47 => ?_)
        · refine go_bipush rfl ?_
          exact go_iret rfl (Or.inl rfl) ⟨_, rfl, Or.inl ⟨by omega, rfl, rfl⟩⟩
        · refine go_aload_n rfl rfl ?_
          refine go_getR rfl f_X6_19 rfl rfl ?_ -- use
          refine go_getI rfl f_X6_95 rfl rfl rfl ?_ -- lawOfMore
          refine go_istore_n rfl (by decide) rfl ?_
          refine go_aload_n rfl rfl ?_
          refine go_getR rfl f_X6_19 rfl rfl ?_ -- use
          refine go_iload_n rfl rfl ?_
          refine go_putI rfl f_X6_95 rfl rfl rfl ?_ -- lawOfMore
          refine go_aload_n rfl rfl ?_
          refine go_iconst rfl ?_
          refine go_putZ rfl f_X6_51 rfl rfl rfl (by decide) ?_ -- stale
          refine go_iload_n rfl rfl ?_
          exact go_iret rfl (Or.inl rfl) ⟨_, rfl, Or.inr ⟨by omega, by rw [show k = 1 by omega]; rfl, by rw [show k = 1 by omega]; rfl⟩⟩
  · refine go_iload_n rfl rfl ?_
    refine go_if_lt rfl (tgt := 36) (by decide) (fun c5 => ?_) (fun c5 => ?_)
    · refine go_iload_n rfl rfl ?_
      refine go_iconst rfl ?_
      refine go_icmp_ne rfl (tgt := 73) (by decide) (fun c38 => ?_) (fun c38 => ?_)
      · refine go_bipush rfl ?_
        exact go_iret rfl (Or.inl rfl) ⟨_, rfl, Or.inl ⟨by omega, rfl, rfl⟩⟩
      · refine go_iload_n rfl rfl ?_
        refine go_if_lt rfl (tgt := 73) (by decide) (fun c42 => ?_) (fun c42 => ?_)
        · refine go_bipush rfl ?_
          exact go_iret rfl (Or.inl rfl) ⟨_, rfl, Or.inl ⟨by omega, rfl, rfl⟩⟩
        · refine go_iload_n rfl rfl ?_
          refine go_iconst rfl ?_
          refine go_icmp_gt rfl (tgt := 73) (by decide) (fun c47 => ?_) (fun c47 => ?_)
          · refine go_bipush rfl ?_
            exact go_iret rfl (Or.inl rfl) ⟨_, rfl, Or.inl ⟨by omega, rfl, rfl⟩⟩
          · refine go_aload_n rfl rfl ?_
            refine go_getR rfl f_X6_19 rfl rfl ?_ -- use
            refine go_getI rfl f_X6_95 rfl rfl rfl ?_ -- lawOfMore
            refine go_istore_n rfl (by decide) rfl ?_
            refine go_aload_n rfl rfl ?_
            refine go_getR rfl f_X6_19 rfl rfl ?_ -- use
            refine go_iload_n rfl rfl ?_
            refine go_putI rfl f_X6_95 rfl rfl rfl ?_ -- lawOfMore
            refine go_aload_n rfl rfl ?_
            refine go_iconst rfl ?_
            refine go_putZ rfl f_X6_51 rfl rfl rfl (by decide) ?_ -- stale
            refine go_iload_n rfl rfl ?_
            exact go_iret rfl (Or.inl rfl) ⟨_, rfl, Or.inr ⟨by omega, by rw [show k = 1 by omega]; rfl, by rw [show k = 1 by omega]; rfl⟩⟩
    · refine go_iload_n rfl rfl ?_
      refine go_iconst rfl ?_
      refine go_icmp_gt rfl (tgt := 36) (by decide) (fun c10 => ?_) (fun c10 => ?_)
      · refine go_iload_n rfl rfl ?_
        refine go_iconst rfl ?_
        refine go_icmp_ne rfl (tgt := 73) (by decide) (fun c38 => ?_) (fun c38 => ?_)
        · refine go_bipush rfl ?_
          exact go_iret rfl (Or.inl rfl) ⟨_, rfl, Or.inl ⟨by omega, rfl, rfl⟩⟩
        · refine go_iload_n rfl rfl ?_
          refine go_if_lt rfl (tgt := 73) (by decide) (fun c42 => ?_) (fun c42 => ?_)
          · refine go_bipush rfl ?_
            exact go_iret rfl (Or.inl rfl) ⟨_, rfl, Or.inl ⟨by omega, rfl, rfl⟩⟩
          · refine go_iload_n rfl rfl ?_
            refine go_iconst rfl ?_
            refine go_icmp_gt rfl (tgt := 73) (by decide) (fun c47 => ?_) (fun c47 => ?_)
            · refine go_bipush rfl ?_
              exact go_iret rfl (Or.inl rfl) ⟨_, rfl, Or.inl ⟨by omega, rfl, rfl⟩⟩
            · refine go_aload_n rfl rfl ?_
              refine go_getR rfl f_X6_19 rfl rfl ?_ -- use
              refine go_getI rfl f_X6_95 rfl rfl rfl ?_ -- lawOfMore
              refine go_istore_n rfl (by decide) rfl ?_
              refine go_aload_n rfl rfl ?_
              refine go_getR rfl f_X6_19 rfl rfl ?_ -- use
              refine go_iload_n rfl rfl ?_
              refine go_putI rfl f_X6_95 rfl rfl rfl ?_ -- lawOfMore
              refine go_aload_n rfl rfl ?_
              refine go_iconst rfl ?_
              refine go_putZ rfl f_X6_51 rfl rfl rfl (by decide) ?_ -- stale
              refine go_iload_n rfl rfl ?_
              exact go_iret rfl (Or.inl rfl) ⟨_, rfl, Or.inr ⟨by omega, by rw [show k = 1 by omega]; rfl, by rw [show k = 1 by omega]; rfl⟩⟩
      · refine go_aload_n rfl rfl ?_
        refine go_getR rfl f_X6_19 rfl rfl ?_ -- use
        refine go_getI rfl f_X6_92 rfl rfl rfl ?_ -- lawOfTwo
        refine go_istore_n rfl (by decide) rfl ?_
        refine go_aload_n rfl rfl ?_
        refine go_getR rfl f_X6_19 rfl rfl ?_ -- use
        refine go_iload_n rfl rfl ?_
        refine go_putI rfl f_X6_92 rfl rfl rfl ?_ -- lawOfTwo
        refine go_aload_n rfl rfl ?_
        refine go_iconst rfl ?_
        refine go_putZ rfl f_X6_51 rfl rfl rfl (by decide) ?_ -- stale
        refine go_iload_n rfl rfl ?_
        exact go_iret rfl (Or.inl rfl) ⟨_, rfl, Or.inr ⟨by omega, by rw [show k = 0 by omega]; rfl, by rw [show k = 0 by omega]; rfl⟩⟩
def sd_P (h : ab_H) (i u v z : Int) (h' : ab_H) : Prop := (¬ ((0 ≤ i ∧ i < 6) ∧ (0 ≤ u ∧ u ≤ 99) ∧ 0 ≤ v ∧ v ≤ 99) ∧ z = -2 ∧ h' = h) ∨ (((0 ≤ i ∧ i < 6) ∧ (0 ≤ u ∧ u ≤ 99) ∧ 0 ≤ v ∧ v ≤ 99) ∧ z = 100 * h 8 i + h 9 i ∧ h' = ab_hs (ab_hs (ab_hs h 8 i u) 9 i v) 0 6 1)
set_option maxHeartbeats 4000000 in
set_option maxRecDepth 100000 in
theorem s_X6_stand {g : ab_G} {h : ab_H} {i u v : Int} (I : Inv h) : MethI g 8 m_X6_stand [a_R 0, a_I i, a_I u, a_I v] h (fun z h' => sd_P h i u v z h') := by
  refine Meth.of_go k_X6_stand (Nat.le_of_ble_eq_true rfl) ?_
  show Go g _ m_X6_stand _ 0 [some (a_R 0), some (a_I i), some (a_I u), some (a_I v), none] [] h
  refine go_iload_n rfl rfl ?_
  refine go_if_lt rfl (tgt := 30) (by decide) (fun c1 => ?_) (fun c1 => ?_)
  · refine go_bipush rfl ?_
    exact go_iret rfl (Or.inl rfl) ⟨_, rfl, Or.inl ⟨by omega, rfl, rfl⟩⟩
  · refine go_iload_n rfl rfl ?_
    refine go_bipush rfl ?_
    refine go_icmp_ge rfl (tgt := 30) (by decide) (fun c7 => ?_) (fun c7 => ?_)
    · refine go_bipush rfl ?_
      exact go_iret rfl (Or.inl rfl) ⟨_, rfl, Or.inl ⟨by omega, rfl, rfl⟩⟩
    · refine go_iload_n rfl rfl ?_
      refine go_if_lt rfl (tgt := 30) (by decide) (fun c11 => ?_) (fun c11 => ?_)
      · refine go_bipush rfl ?_
        exact go_iret rfl (Or.inl rfl) ⟨_, rfl, Or.inl ⟨by omega, rfl, rfl⟩⟩
      · refine go_iload_n rfl rfl ?_
        refine go_bipush rfl ?_
        refine go_icmp_gt rfl (tgt := 30) (by decide) (fun c17 => ?_) (fun c17 => ?_)
        · refine go_bipush rfl ?_
          exact go_iret rfl (Or.inl rfl) ⟨_, rfl, Or.inl ⟨by omega, rfl, rfl⟩⟩
        · refine go_iload_n rfl rfl ?_
          refine go_if_lt rfl (tgt := 30) (by decide) (fun c21 => ?_) (fun c21 => ?_)
          · refine go_bipush rfl ?_
            exact go_iret rfl (Or.inl rfl) ⟨_, rfl, Or.inl ⟨by omega, rfl, rfl⟩⟩
          · refine go_iload_n rfl rfl ?_
            refine go_bipush rfl ?_
            refine go_icmp_le rfl (tgt := 33) (by decide) (fun c27 => ?_) (fun c27 => ?_)
            · have u1 := (I.2.2.1.2 i (by omega) (by omega)).1
              refine go_bipush rfl ?_
              refine go_aload_n rfl rfl ?_
              refine go_getR rfl f_X6_19 rfl rfl ?_ -- use
              refine go_getR rfl f_X6_98 rfl rfl ?_ -- standMinute
              refine go_iload_n rfl rfl ?_
              refine go_iald rfl rfl (by omega) (by omega) ?_
              refine go_imul rfl (by unfold ab_iok; omega) ?_
              refine go_aload_n rfl rfl ?_
              refine go_getR rfl f_X6_19 rfl rfl ?_ -- use
              refine go_getR rfl f_X6_101 rfl rfl ?_ -- standMany
              refine go_iload_n rfl rfl ?_
              refine go_iald rfl rfl (by omega) (by omega) ?_
              refine go_iadd rfl (by unfold ab_iok; omega) ?_
              refine go_istore rfl (by decide) rfl ?_
              refine go_aload_n rfl rfl ?_
              refine go_getR rfl f_X6_19 rfl rfl ?_ -- use
              refine go_getR rfl f_X6_98 rfl rfl ?_ -- standMinute
              refine go_iload_n rfl rfl ?_
              refine go_iload_n rfl rfl ?_
              refine go_iast rfl rfl (by omega) (by omega) ?_
              refine go_aload_n rfl rfl ?_
              refine go_getR rfl f_X6_19 rfl rfl ?_ -- use
              refine go_getR rfl f_X6_101 rfl rfl ?_ -- standMany
              refine go_iload_n rfl rfl ?_
              refine go_iload_n rfl rfl ?_
              refine go_iast rfl rfl (by omega) (by omega) ?_
              refine go_aload_n rfl rfl ?_
              refine go_iconst rfl ?_
              refine go_putZ rfl f_X6_51 rfl rfl rfl (by decide) ?_ -- stale
              refine go_iload rfl rfl ?_
              exact go_iret rfl (Or.inl rfl) ⟨_, rfl, Or.inr ⟨by omega, rfl, rfl⟩⟩
            · refine go_bipush rfl ?_
              exact go_iret rfl (Or.inl rfl) ⟨_, rfl, Or.inl ⟨by omega, rfl, rfl⟩⟩
