/-! sheets: sheet, lose, lay, get -/
theorem inv_sh {h h2 : ab_H} (I : Inv h) (e : ∀ k, ¬ (k = 32 ∨ k = 33 ∨ (58 ≤ k ∧ k < 62) ∨ (63 ≤ k ∧ k ≤ 66)) → h2 k = h k) (S : iv_S h2) : Inv h2 := by
  refine ⟨?_, ?_, ?_, ?_, S, ?_, ?_⟩
  · exact I.1.of (e 1 (by decide)) (e 2 (by decide)) (by rw [e 62 (by decide)]) (e 67 (by decide))
  · exact I.2.1.of (fun k k0 k1 => e k (by omega))
  · exact I.2.2.1.of (e 7 (by decide)) (e 8 (by decide)) (e 9 (by decide)) (e 72 (by decide)) (e 73 (by decide)) (e 74 (by decide))
  · exact I.2.2.2.1.of (by rw [e 24 (by decide)]) (by rw [e 62 (by decide)]) (e 25 (by decide)) (e 26 (by decide)) (e 27 (by decide)) (e 28 (by decide)) (e 81 (by decide))
  · exact I.2.2.2.2.2.1.of (by rw [e 62 (by decide)]) (by rw [e 0 (by decide)])
  · exact iv_C.of I (by rw [e 0 (by decide)]) (fun k hk => e k (by omega))
def csh_P (h : ab_H) (s f n z : Int) (h' : ab_H) : Prop := (¬ ((0 ≤ s ∧ s < 4) ∧ (0 ≤ f ∧ f < 3) ∧ n ≤ 60) ∧ z = -2 ∧ h' = h) ∨ (((0 ≤ s ∧ s < 4) ∧ (0 ≤ f ∧ f < 3) ∧ n ≤ 60) ∧ n < 0 ∧ z = -15 ∧ h' = ab_hs h 0 7 5) ∨ (((0 ≤ s ∧ s < 4) ∧ (0 ≤ f ∧ f < 3) ∧ n ≤ 60) ∧ 0 ≤ n ∧ z = n ∧ rw_H h s f n h')
set_option maxHeartbeats 4000000 in
set_option maxRecDepth 100000 in
theorem s_X6_sheet {g : ab_G} {h : ab_H} {s f n : Int}  : MethI g 6 m_X6_sheet [a_R 0, a_I s, a_I f, a_I n] h (fun z h' => csh_P h s f n z h') := by
  refine Meth.of_go k_X6_sheet (Nat.le_of_ble_eq_true rfl) ?_
  show Go g _ m_X6_sheet _ 0 [some (a_R 0), some (a_I s), some (a_I f), some (a_I n)] [] h
  refine go_iload_n rfl rfl ?_
  refine go_cS1I (M' := m_X6_isSheet) rfl l_X6_195 k_X6_isSheet (s_X6_isSheet) rfl (by decide) (Nat.le_of_ble_eq_true rfl) (fun z1 h1 q1 => ?_) -- X6_isSheet
  obtain ⟨rfl, rfl⟩ := q1
  refine go_if_eq rfl (tgt := 20) (by decide) (fun c4 => ?_) (fun c4 => ?_)
  · refine go_bipush rfl ?_
    exact go_iret rfl (Or.inl rfl) ⟨_, rfl, Or.inl ⟨fun z => rd_n0 c4 z.1, rfl, rfl⟩⟩
  · refine go_iload_n rfl rfl ?_
    refine go_cS1I (M' := m_X6_isForm) rfl l_X6_228 k_X6_isForm (s_X6_isForm) rfl (by decide) (Nat.le_of_ble_eq_true rfl) (fun z8 h8 q8 => ?_) -- X6_isForm
    obtain ⟨rfl, rfl⟩ := q8
    refine go_if_eq rfl (tgt := 20) (by decide) (fun c11 => ?_) (fun c11 => ?_)
    · refine go_bipush rfl ?_
      exact go_iret rfl (Or.inl rfl) ⟨_, rfl, Or.inl ⟨fun z => rd_n0 c11 z.2.1, rfl, rfl⟩⟩
    · refine go_iload_n rfl rfl ?_
      refine go_bipush rfl ?_
      refine go_icmp_le rfl (tgt := 23) (by decide) (fun c17 => ?_) (fun c17 => ?_)
      · refine go_iload_n rfl rfl ?_
        refine go_if_ge rfl (tgt := 33) (by decide) (fun c24 => ?_) (fun c24 => ?_)
        · refine go_aload_n rfl rfl ?_
          refine go_getR rfl f_X6_47 rfl rfl ?_ -- sheets
          refine go_iload_n rfl rfl ?_
          refine go_iload_n rfl rfl ?_
          refine go_iload_n rfl rfl ?_
          refine go_cV3V (M' := m_X3_renew) rfl l_X6_231 k_X3_renew (s_X3_renew (rd_n1 c4)) rfl rfl rfl rfl (by decide) (Nat.le_of_ble_eq_true rfl) (fun h40 q40 => ?_) -- X3_renew
          refine go_iload_n rfl rfl ?_
          exact go_iret rfl (Or.inl rfl) ⟨_, rfl, Or.inr (Or.inr ⟨⟨rd_n1 c4, rd_n1 c11, c17⟩, c24, rfl, q40⟩)⟩
        · refine go_aload_n rfl rfl ?_
          refine go_iconst rfl ?_
          refine go_cV1I (M' := m_X6_find) rfl l_X6_201 k_X6_find (s_X6_find (by omega)) rfl rfl rfl rfl (by decide) (Nat.le_of_ble_eq_true rfl) (fun z29 h29 q29 => ?_) -- X6_find
          exact go_iret rfl (Or.inl rfl) ⟨_, rfl, Or.inr (Or.inl ⟨⟨rd_n1 c4, rd_n1 c11, c17⟩, by omega, q29.2, q29.1⟩)⟩
      · refine go_bipush rfl ?_
        exact go_iret rfl (Or.inl rfl) ⟨_, rfl, Or.inl ⟨fun z => c17 z.2.2, rfl, rfl⟩⟩
def msh_I (h0 : ab_H) (s i : Int) (h : ab_H) : Prop := (∀ j, 0 ≤ j → j < i → h 65 (60 * s + j) = 0) ∧ ∀ c b, ¬ (c = 65 ∧ 60 * s ≤ b ∧ b < 60 * s + i) → h c b = h0 c b
theorem msh_nx {h0 h : ab_H} {s i : Int} (hi : 0 ≤ i) (I : msh_I h0 s i h) : msh_I h0 s (i + 1) (ab_hs h 65 (60 * s + i) 0) := by
  refine ⟨fun j j0 j1 => ?_, fun c b hn => ?_⟩
  · by_cases e : j = i
    · subst e; exact ab_hs_eq
    · rw [ab_hs_i (by omega)]; exact I.1 j j0 (by omega)
  · rw [ab_hs_ne (by omega)]; exact I.2 c b (by omega)
def msh_P (h : ab_H) (s f n z : Int) (h' : ab_H) : Prop := (¬ ((0 ≤ s ∧ s < 4) ∧ (0 ≤ f ∧ f < 3) ∧ n ≤ 60) ∧ z = -2 ∧ h' = h) ∨ (((0 ≤ s ∧ s < 4) ∧ (0 ≤ f ∧ f < 3) ∧ n ≤ 60) ∧ n < 0 ∧ z = -15 ∧ h' = ab_hs h 62 4 5) ∨ (((0 ≤ s ∧ s < 4) ∧ (0 ≤ f ∧ f < 3) ∧ n ≤ 60) ∧ 0 ≤ n ∧ z = n ∧ msh_I (ab_hs (ab_hs h 63 s f) 64 s n) s n h')
set_option maxHeartbeats 4000000 in
set_option maxRecDepth 100000 in
theorem lp_X7_sheet {g : ab_G} {h0 : ab_H} {s f n : Int} {Q : Option ab_V → ab_H → Prop} (hs : 0 ≤ s ∧ s < 4) (hn : 0 ≤ n ∧ n ≤ 60) (hq : ∀ h, msh_I h0 s n h → Q (some (a_I n)) h) : ∀ (k : Nat) (i : Int) (h : ab_H), 0 ≤ i → i ≤ n → n - i < k → msh_I h0 s i h → Go g (ab_rm 6, 0, 0) m_X7_sheet Q 55 [some (a_R 62), some (a_I s), some (a_I f), some (a_I n), some (a_I i)] [] h := by
  intro k
  induction k with
  | zero => intro i h h0i h1 hf; omega
  | succ k ih =>
    intro i h h0i h1 hf J
    refine go_iload rfl rfl ?_
    refine go_iload_n rfl rfl ?_
    refine go_icmp_ge rfl (tgt := 80) (by decide) (fun c58 => ?_) (fun c58 => ?_)
    · refine go_iload_n rfl rfl ?_
      exact go_iret rfl (Or.inl rfl) (hq h (by rw [show i = n by omega] at J; exact J))
    · refine go_aload_n rfl rfl ?_
      refine go_getR rfl f_X7_16 rfl rfl ?_ -- items
      refine go_bipush rfl ?_
      refine go_iload_n rfl rfl ?_
      refine go_imul rfl (by unfold ab_iok; omega) ?_
      refine go_iload rfl rfl ?_
      refine go_iadd rfl (by unfold ab_iok; omega) ?_
      refine go_iconst rfl ?_
      refine go_iast rfl rfl (by omega) (by omega) ?_
      refine go_iinc rfl rfl (by decide) rfl (by unfold ab_iok; omega) ?_
      refine go_goto rfl (tgt := 55) (by decide) ?_
      exact ih (i + 1) _ (by omega) (by omega) (by omega) (msh_nx h0i J)
set_option maxHeartbeats 4000000 in
set_option maxRecDepth 100000 in
theorem s_X7_sheet {g : ab_G} {h : ab_H} {s f n : Int}  : MethI g 6 m_X7_sheet [a_R 62, a_I s, a_I f, a_I n] h (fun z h' => msh_P h s f n z h') := by
  refine Meth.of_go k_X7_sheet (Nat.le_of_ble_eq_true rfl) ?_
  show Go g _ m_X7_sheet _ 0 [some (a_R 62), some (a_I s), some (a_I f), some (a_I n), none] [] h
  refine go_iload_n rfl rfl ?_
  refine go_cS1I (M' := m_X7_isSheet) rfl l_X7_80 k_X7_isSheet (s_X7_isSheet) rfl (by decide) (Nat.le_of_ble_eq_true rfl) (fun z1 h1 q1 => ?_) -- X7_isSheet
  obtain ⟨rfl, rfl⟩ := q1
  refine go_if_eq rfl (tgt := 25) (by decide) (fun c4 => ?_) (fun c4 => ?_)
  · refine go_bipush rfl ?_
    exact go_iret rfl (Or.inl rfl) ⟨_, rfl, Or.inl ⟨by have := rd_n0 c4; omega, rfl, rfl⟩⟩
  · refine go_iload_n rfl rfl ?_
    refine go_i2l rfl ?_
    refine go_lconst (z := 0) rfl ?_
    refine go_ldc2 rfl (z := 2) c_X7_84 ?_
    refine go_cS3I (M' := m_X7_in) rfl l_X7_68 k_X7_in (s_X7_in) rfl (by decide) (Nat.le_of_ble_eq_true rfl) (fun z13 h13 q13 => ?_) -- X7_in
    obtain ⟨rfl, rfl⟩ := q13
    refine go_if_eq rfl (tgt := 25) (by decide) (fun c16 => ?_) (fun c16 => ?_)
    · refine go_bipush rfl ?_
      exact go_iret rfl (Or.inl rfl) ⟨_, rfl, Or.inl ⟨by have := rd_n0 c16; omega, rfl, rfl⟩⟩
    · refine go_iload_n rfl rfl ?_
      refine go_bipush rfl ?_
      refine go_icmp_le rfl (tgt := 28) (by decide) (fun c22 => ?_) (fun c22 => ?_)
      · refine go_iload_n rfl rfl ?_
        refine go_if_ge rfl (tgt := 38) (by decide) (fun c29 => ?_) (fun c29 => ?_)
        · have y1 := rd_n1 c4
          have y2 := rd_n1 c16
          refine go_aload_n rfl rfl ?_
          refine go_getR rfl f_X7_7 rfl rfl ?_ -- forms
          refine go_iload_n rfl rfl ?_
          refine go_iload_n rfl rfl ?_
          refine go_iast rfl rfl (by omega) (by omega) ?_
          refine go_aload_n rfl rfl ?_
          refine go_getR rfl f_X7_13 rfl rfl ?_ -- sizes
          refine go_iload_n rfl rfl ?_
          refine go_iload_n rfl rfl ?_
          refine go_iast rfl rfl (by omega) (by omega) ?_
          refine go_iconst rfl ?_
          refine go_istore rfl (by decide) rfl ?_
          exact lp_X7_sheet (by omega) (by omega) (fun h2 J => ⟨_, rfl, Or.inr (Or.inr ⟨by omega, c29, rfl, J⟩)⟩) 70 0 _ (by omega) (by omega) (by omega) ⟨fun j j0 j1 => by omega, fun _ _ _ => rfl⟩
        · refine go_aload_n rfl rfl ?_
          refine go_iconst rfl ?_
          refine go_cV1I (M' := m_X7_finds) rfl l_X7_86 k_X7_finds (s_X7_finds (by omega)) rfl rfl rfl rfl (by decide) (Nat.le_of_ble_eq_true rfl) (fun z34 h34 q34 => ?_) -- X7_finds
          exact go_iret rfl (Or.inl rfl) ⟨_, rfl, Or.inr (Or.inl ⟨by have := rd_n1 c4; have := rd_n1 c16; omega, by omega, q34.2, q34.1⟩)⟩
      · refine go_bipush rfl ?_
        exact go_iret rfl (Or.inl rfl) ⟨_, rfl, Or.inl ⟨by omega, rfl, rfl⟩⟩
theorem op_sheet {g : ab_G} {h : ab_H} {s f n : Int} (I : Inv h) : opI g 6 6 m_X6_sheet m_X7_sheet [a_I s, a_I f, a_I n] h := by
  have S : iv_S h := I.2.2.2.2.1
  refine s_X6_sheet.mono (fun r h1 ⟨z, ez, P⟩ => ⟨z, ez, ?_⟩)
  refine s_X7_sheet.mono (fun r' h2 ⟨z', ez', P'⟩ => ⟨z', ez', ?_⟩)
  rcases P with ⟨x1, x2, rfl⟩ | ⟨x1, x2, x3, rfl⟩ | ⟨x1, x2, x3, x4⟩ <;> rcases P' with ⟨y1, y2, e2⟩ | ⟨y1, y2, y3, e2⟩ | ⟨y1, y2, y3, y4⟩
  · subst e2; exact ⟨by omega, I⟩
  · exact absurd y1 x1
  · exact absurd y1 x1
  · exact absurd x1 y1
  · subst e2; exact ⟨by omega, inv_find I⟩
  · omega
  · exact absurd x1 y1
  · omega
  · refine ⟨by omega, ?_⟩
    obtain ⟨r1, r2, r3, r4⟩ := x4
    obtain ⟨m1, m2⟩ := y4
    have e : ∀ k b, ¬ ((k = 32 ∧ b = s) ∨ (k = 33 ∧ b = s) ∨ (k = 58 + s.toNat ∧ 0 ≤ b ∧ b < 60) ∨ (k = 63 ∧ b = s) ∨ (k = 64 ∧ b = s) ∨ (k = 65 ∧ 60 * s ≤ b ∧ b < 60 * s + n)) → h2 k b = h k b := fun k b hk => by
      rw [m2 k b (by omega), ab_hs_ne (by omega), ab_hs_ne (by omega), r4 k b (by omega)]
    have s0 := x1.1
    refine inv_sh I (fun k hk => funext fun b => e k b (by omega)) (fun t t0 t1 => ?_)
    by_cases y : t = s
    · subst y
      refine Or.inr ⟨?_, ?_, ?_, ?_, fun i i0 i1 => ?_⟩
      · rw [m2 33 t (by omega), ab_hs_ne (by omega), ab_hs_ne (by omega), r2]; omega
      · rw [m2 32 t (by omega), ab_hs_ne (by omega), ab_hs_ne (by omega), r1]; omega
      · rw [m2 63 t (by omega), ab_hs_ne (by omega), ab_hs_eq, m2 32 t (by omega), ab_hs_ne (by omega), ab_hs_ne (by omega), r1]
      · rw [m2 64 t (by omega), ab_hs_eq, m2 33 t (by omega), ab_hs_ne (by omega), ab_hs_ne (by omega), r2]
      · rw [m2 33 t (by omega), ab_hs_ne (by omega), ab_hs_ne (by omega), r2] at i1
        rw [m1 i i0 i1, m2 (58 + t.toNat) i (by omega), ab_hs_ne (by omega), ab_hs_ne (by omega), r3 i i0 (by omega)]
    · exact (S t t0 t1).of (e 32 t (by omega)) (e 33 t (by omega)) (e 63 t (by omega)) (e 64 t (by omega)) (fun i i0 i1 => e 65 _ (by omega)) (funext fun b => e _ b (by omega))
def clo_P (h : ab_H) (s z : Int) (h' : ab_H) : Prop := (¬ (0 ≤ s ∧ s < 4) ∧ z = -2 ∧ h' = h) ∨ ((0 ≤ s ∧ s < 4) ∧ h 33 s = -1 ∧ z = -11 ∧ h' = ab_hs h 0 7 1) ∨ ((0 ≤ s ∧ s < 4) ∧ ¬ h 33 s = -1 ∧ z = h 33 s ∧ h' = ab_hs h 33 s (-1))
def mlo_P (h : ab_H) (s z : Int) (h' : ab_H) : Prop := (¬ (0 ≤ s ∧ s < 4) ∧ z = -2 ∧ h' = h) ∨ ((0 ≤ s ∧ s < 4) ∧ h 63 s < 0 ∧ z = -11 ∧ h' = ab_hs h 62 4 1) ∨ ((0 ≤ s ∧ s < 4) ∧ 0 ≤ h 63 s ∧ z = h 64 s ∧ h' = ab_hs h 63 s (-1))
set_option maxHeartbeats 4000000 in
set_option maxRecDepth 100000 in
theorem s_X6_lose {g : ab_G} {h : ab_H} {s : Int}  : MethI g 6 m_X6_lose [a_R 0, a_I s] h (fun z h' => clo_P h s z h') := by
  refine Meth.of_go k_X6_lose (Nat.le_of_ble_eq_true rfl) ?_
  show Go g _ m_X6_lose _ 0 [some (a_R 0), some (a_I s), none] [] h
  refine go_iload_n rfl rfl ?_
  refine go_cS1I (M' := m_X6_isSheet) rfl l_X6_195 k_X6_isSheet (s_X6_isSheet) rfl (by decide) (Nat.le_of_ble_eq_true rfl) (fun z1 h1 q1 => ?_) -- X6_isSheet
  obtain ⟨rfl, rfl⟩ := q1
  refine go_if_ne rfl (tgt := 10) (by decide) (fun c4 => ?_) (fun c4 => ?_)
  · have y1 := rd_n1 c4
    refine go_aload_n rfl rfl ?_
    refine go_getR rfl f_X6_47 rfl rfl ?_ -- sheets
    refine go_iload_n rfl rfl ?_
    refine go_cV1I (M' := m_X3_isLost) rfl l_X6_198 k_X3_isLost (s_X3_isLost (rd_n1 c4)) rfl rfl rfl rfl (by decide) (Nat.le_of_ble_eq_true rfl) (fun z15 h15 q15 => ?_) -- X3_isLost
    obtain ⟨rfl, rfl⟩ := q15
    refine go_if_eq rfl (tgt := 27) (by decide) (fun c18 => ?_) (fun c18 => ?_)
    · refine go_aload_n rfl rfl ?_
      refine go_getR rfl f_X6_47 rfl rfl ?_ -- sheets
      refine go_getR rfl f_X6_207 rfl rfl ?_ -- size
      refine go_iload_n rfl rfl ?_
      refine go_iald rfl rfl (by omega) (by omega) ?_
      refine go_istore_n rfl (by decide) rfl ?_
      refine go_aload_n rfl rfl ?_
      refine go_getR rfl f_X6_47 rfl rfl ?_ -- sheets
      refine go_iload_n rfl rfl ?_
      refine go_cV1V (M' := m_X3_drop) rfl l_X6_235 k_X3_drop (s_X3_drop (rd_n1 c4)) rfl rfl rfl rfl (by decide) (Nat.le_of_ble_eq_true rfl) (fun h42 q42 => ?_) -- X3_drop
      refine go_iload_n rfl rfl ?_
      exact go_iret rfl (Or.inl rfl) ⟨_, rfl, Or.inr (Or.inr ⟨y1, rd_n0 c18, rfl, q42⟩)⟩
    · refine go_aload_n rfl rfl ?_
      refine go_iconst rfl ?_
      refine go_cV1I (M' := m_X6_find) rfl l_X6_201 k_X6_find (s_X6_find (by omega)) rfl rfl rfl rfl (by decide) (Nat.le_of_ble_eq_true rfl) (fun z23 h23 q23 => ?_) -- X6_find
      exact go_iret rfl (Or.inl rfl) ⟨_, rfl, Or.inr (Or.inl ⟨y1, rd_n1 c18, q23.2, q23.1⟩)⟩
  · refine go_bipush rfl ?_
    exact go_iret rfl (Or.inl rfl) ⟨_, rfl, Or.inl ⟨rd_n0 c4, rfl, rfl⟩⟩
set_option maxHeartbeats 4000000 in
set_option maxRecDepth 100000 in
theorem s_X7_lose {g : ab_G} {h : ab_H} {s : Int}  : MethI g 6 m_X7_lose [a_R 62, a_I s] h (fun z h' => mlo_P h s z h') := by
  refine Meth.of_go k_X7_lose (Nat.le_of_ble_eq_true rfl) ?_
  show Go g _ m_X7_lose _ 0 [some (a_R 62), some (a_I s)] [] h
  refine go_iload_n rfl rfl ?_
  refine go_cS1I (M' := m_X7_isSheet) rfl l_X7_80 k_X7_isSheet (s_X7_isSheet) rfl (by decide) (Nat.le_of_ble_eq_true rfl) (fun z1 h1 q1 => ?_) -- X7_isSheet
  obtain ⟨rfl, rfl⟩ := q1
  refine go_if_ne rfl (tgt := 10) (by decide) (fun c4 => ?_) (fun c4 => ?_)
  · have y1 := rd_n1 c4
    refine go_aload_n rfl rfl ?_
    refine go_getR rfl f_X7_7 rfl rfl ?_ -- forms
    refine go_iload_n rfl rfl ?_
    refine go_iald rfl rfl (by omega) (by omega) ?_
    refine go_if_ge rfl (tgt := 25) (by decide) (fun c16 => ?_) (fun c16 => ?_)
    · refine go_aload_n rfl rfl ?_
      refine go_getR rfl f_X7_7 rfl rfl ?_ -- forms
      refine go_iload_n rfl rfl ?_
      refine go_iconst rfl ?_
      refine go_iast rfl rfl (by omega) (by omega) ?_
      refine go_aload_n rfl rfl ?_
      refine go_getR rfl f_X7_13 rfl rfl ?_ -- sizes
      refine go_iload_n rfl rfl ?_
      refine go_iald rfl rfl (by omega) (by omega) ?_
      exact go_iret rfl (Or.inl rfl) ⟨_, rfl, Or.inr (Or.inr ⟨by omega, c16, by rw [ab_hs_f (by decide)], rfl⟩)⟩
    · refine go_aload_n rfl rfl ?_
      refine go_iconst rfl ?_
      refine go_cV1I (M' := m_X7_finds) rfl l_X7_86 k_X7_finds (s_X7_finds (by omega)) rfl rfl rfl rfl (by decide) (Nat.le_of_ble_eq_true rfl) (fun z21 h21 q21 => ?_) -- X7_finds
      exact go_iret rfl (Or.inl rfl) ⟨_, rfl, Or.inr (Or.inl ⟨by omega, by omega, q21.2, q21.1⟩)⟩
  · refine go_bipush rfl ?_
    exact go_iret rfl (Or.inl rfl) ⟨_, rfl, Or.inl ⟨by have := rd_n0 c4; omega, rfl, rfl⟩⟩
theorem op_lose {g : ab_G} {h : ab_H} {s : Int} (I : Inv h) : opI g 6 6 m_X6_lose m_X7_lose [a_I s] h := by
  have S : iv_S h := I.2.2.2.2.1
  refine s_X6_lose.mono (fun r h1 ⟨z, ez, P⟩ => ⟨z, ez, ?_⟩)
  refine s_X7_lose.mono (fun r' h2 ⟨z', ez', P'⟩ => ⟨z', ez', ?_⟩)
  rcases P with ⟨x1, x2, rfl⟩ | ⟨x1, x2, x3, rfl⟩ | ⟨x1, x2, x3, rfl⟩
  · rcases P' with ⟨y1, y2, rfl⟩ | ⟨y1, -⟩ | ⟨y1, -⟩
    · exact ⟨by omega, I⟩
    · exact absurd y1 x1
    · exact absurd y1 x1
  · rcases P' with ⟨y1, -⟩ | ⟨y1, y2, y3, rfl⟩ | ⟨y1, y2, -⟩
    · exact absurd x1 y1
    · exact ⟨by omega, inv_find I⟩
    · rw [ab_hs_f (by decide)] at y2
      rcases S.y x1 with a | a <;> omega
  · unfold mlo_P at P'
    rw [ab_hs_f (a := 63) (by decide), ab_hs_f (a := 64) (by decide)] at P'
    have w := S.y x1
    rcases P' with ⟨y1, -⟩ | ⟨y1, y2, -⟩ | ⟨y1, y2, y3, rfl⟩
    · exact absurd x1 y1
    · rcases w with a | a <;> omega
    · refine ⟨by rcases w with a | a <;> omega, inv_sh I (fun k hk => by rw [ab_hs_f (by omega), ab_hs_f (by omega)]) (fun t t0 t1 => ?_)⟩
      by_cases y : t = s
      · subst y
        exact Or.inl ⟨by rw [ab_hs_f (by decide), ab_hs_eq], ab_hs_eq⟩
      · exact (S t t0 t1).of (by rw [ab_hs_f (by decide), ab_hs_f (by decide)]) (by rw [ab_hs_f (by decide), ab_hs_i y]) (by rw [ab_hs_i y, ab_hs_f (by decide)]) (by rw [ab_hs_f (by decide), ab_hs_f (by decide)]) (fun i i0 i1 => by rw [ab_hs_f (by decide), ab_hs_f (by decide)]) (by rw [ab_hs_f (by omega), ab_hs_f (by omega)])
def ml_n (fm sz k i : Int) : Int := if fm < 0 then 1 else if fm ≠ k then 3 else if 0 ≤ i ∧ i ≤ sz - 1 then 0 else 2
def mlk_P (h : ab_H) (w z : Int) (h' : ab_H) : Prop := (w = 0 ∧ z = 0 ∧ h' = h) ∨ ((1 ≤ w ∧ w ≤ 3) ∧ z = -10 - w ∧ h' = ab_hs h 62 4 w)
set_option maxHeartbeats 4000000 in
set_option maxRecDepth 100000 in
theorem s_X7_lacks {g : ab_G} {h : ab_H} {s k i : Int} (hs : 0 ≤ s ∧ s < 4) (hz : 0 ≤ h 63 s → 0 ≤ h 64 s ∧ h 64 s ≤ 60) : MethI g 2 m_X7_lacks [a_R 62, a_I s, a_I k, a_I i] h (fun z h' => mlk_P h (ml_n (h 63 s) (h 64 s) k i) z h') := by
  refine Meth.of_go k_X7_lacks (Nat.le_of_ble_eq_true rfl) ?_
  show Go g _ m_X7_lacks _ 0 [some (a_R 62), some (a_I s), some (a_I k), some (a_I i)] [] h
  refine go_aload_n rfl rfl ?_
  refine go_getR rfl f_X7_7 rfl rfl ?_ -- forms
  refine go_iload_n rfl rfl ?_
  refine go_iald rfl rfl (by omega) (by omega) ?_
  refine go_if_ge rfl (tgt := 15) (by decide) (fun c6 => ?_) (fun c6 => ?_)
  · refine go_aload_n rfl rfl ?_
    refine go_getR rfl f_X7_7 rfl rfl ?_ -- forms
    refine go_iload_n rfl rfl ?_
    refine go_iald rfl rfl (by omega) (by omega) ?_
    refine go_iload_n rfl rfl ?_
    refine go_icmp_eq rfl (tgt := 31) (by decide) (fun c22 => ?_) (fun c22 => ?_)
    · have hz := hz c6
      refine go_iload_n rfl rfl ?_
      refine go_i2l rfl ?_
      refine go_lconst (z := 0) rfl ?_
      refine go_aload_n rfl rfl ?_
      refine go_getR rfl f_X7_13 rfl rfl ?_ -- sizes
      refine go_iload_n rfl rfl ?_
      refine go_iald rfl rfl (by omega) (by omega) ?_
      refine go_iconst rfl ?_
      refine go_isub rfl (by unfold ab_iok; omega) ?_
      refine go_i2l rfl ?_
      refine go_cS3I (M' := m_X7_in) rfl l_X7_68 k_X7_in (s_X7_in) rfl (by decide) (Nat.le_of_ble_eq_true rfl) (fun z43 h43 q43 => ?_) -- X7_in
      obtain ⟨rfl, rfl⟩ := q43
      refine go_if_eq rfl (tgt := 53) (by decide) (fun c46 => ?_) (fun c46 => ?_)
      · refine go_aload_n rfl rfl ?_
        refine go_iconst rfl ?_
        refine go_cV1I (M' := m_X7_finds) rfl l_X7_86 k_X7_finds (s_X7_finds (by omega)) rfl rfl rfl rfl (by decide) (Nat.le_of_ble_eq_true rfl) (fun z55 h55 q55 => ?_) -- X7_finds
        exact go_iret rfl (Or.inl rfl) ⟨_, rfl, by have e : ml_n (h 63 s) (h 64 s) k i = 2 := (by unfold ml_n; rw [if_neg (by omega), if_neg (by omega), if_neg (by have := rd_n0 c46; omega)]); rw [e]; exact Or.inr ⟨by omega, q55.2, q55.1⟩⟩
      · refine go_iconst rfl ?_
        refine go_goto rfl (tgt := 58) (by decide) ?_
        exact go_iret rfl (Or.inl rfl) ⟨_, rfl, by have e : ml_n (h 63 s) (h 64 s) k i = 0 := (by unfold ml_n; rw [if_neg (by omega), if_neg (by omega), if_pos (by have := rd_n1 c46; omega)]); rw [e]; exact Or.inl ⟨rfl, rfl, rfl⟩⟩
    · refine go_aload_n rfl rfl ?_
      refine go_iconst rfl ?_
      refine go_cV1I (M' := m_X7_finds) rfl l_X7_86 k_X7_finds (s_X7_finds (by omega)) rfl rfl rfl rfl (by decide) (Nat.le_of_ble_eq_true rfl) (fun z27 h27 q27 => ?_) -- X7_finds
      exact go_iret rfl (Or.inl rfl) ⟨_, rfl, by have e : ml_n (h 63 s) (h 64 s) k i = 3 := (by unfold ml_n; rw [if_neg (by omega), if_pos (by omega)]); rw [e]; exact Or.inr ⟨by omega, q27.2, q27.1⟩⟩
  · refine go_aload_n rfl rfl ?_
    refine go_iconst rfl ?_
    refine go_cV1I (M' := m_X7_finds) rfl l_X7_86 k_X7_finds (s_X7_finds (by omega)) rfl rfl rfl rfl (by decide) (Nat.le_of_ble_eq_true rfl) (fun z11 h11 q11 => ?_) -- X7_finds
    exact go_iret rfl (Or.inl rfl) ⟨_, rfl, by have e : ml_n (h 63 s) (h 64 s) k i = 1 := (by unfold ml_n; rw [if_pos (by omega)]); rw [e]; exact Or.inr ⟨by omega, q11.2, q11.1⟩⟩
set_option maxHeartbeats 4000000 in
set_option maxRecDepth 100000 in
theorem s_X7_cut {g : ab_G} {h : ab_H} {f v : Int}  : MethI g 1 m_X7_cut [a_I f, a_I v] h (fun z h' => h = h' ∧ z = cut f v) := by
  refine Meth.of_go k_X7_cut (Nat.le_of_ble_eq_true rfl) ?_
  show Go g _ m_X7_cut _ 0 [some (a_I f), some (a_I v)] [] h
  refine go_iload_n rfl rfl ?_
  refine go_if_ne rfl (tgt := 9) (by decide) (fun c1 => ?_) (fun c1 => ?_)
  · refine go_iload_n rfl rfl ?_
    refine go_iconst rfl ?_
    refine go_icmp_ne rfl (tgt := 19) (by decide) (fun c11 => ?_) (fun c11 => ?_)
    · refine go_iload_n rfl rfl ?_
      exact go_iret rfl (Or.inl rfl) ⟨_, rfl, rfl, by unfold cut; rw [if_neg c1, if_neg c11]⟩
    · refine go_iload_n rfl rfl ?_
      refine go_i2s rfl ?_
      refine go_goto rfl (tgt := 20) (by decide) ?_
      exact go_iret rfl (Or.inl rfl) ⟨_, rfl, rfl, by unfold cut; rw [if_neg c1, if_pos c11]⟩
  · refine go_iload_n rfl rfl ?_
    refine go_i2b rfl ?_
    refine go_goto rfl (tgt := 20) (by decide) ?_
    exact go_iret rfl (Or.inl rfl) ⟨_, rfl, rfl, by unfold cut; rw [if_pos c1]⟩
theorem wl_eq {h : ab_H} {s k i : Int} (w : iv_S1 h s) : wi_n (h 33 s) (h 32 s) k i = ml_n (h 63 s) (h 64 s) k i := by
  unfold wi_n ml_n
  rcases w with ⟨a, b⟩ | ⟨a, b, c, d, -⟩
  · rw [if_pos a, if_pos (by omega)]
  · rw [c, d, if_neg (show ¬ h 33 s = -1 by omega), if_neg (show ¬ h 32 s < 0 by omega)]
    by_cases e : h 32 s ≠ k
    · rw [if_pos e, if_pos e]
    · rw [if_neg e, if_neg e]
      by_cases e2 : i < 0 ∨ h 33 s ≤ i
      · rw [if_pos e2, if_neg (by omega)]
      · rw [if_neg e2, if_pos (by omega)]
theorem wi_in (sz fm k i : Int) : (wi_n sz fm k i = 0 ∧ ¬ sz = -1 ∧ fm = k ∧ 0 ≤ i ∧ i < sz) ∨ (1 ≤ wi_n sz fm k i ∧ wi_n sz fm k i ≤ 3) := by
  unfold wi_n
  split
  · omega
  · split
    · omega
    · split <;> omega
def cly_P (h : ab_H) (s k i v z : Int) (h' : ab_H) : Prop := (¬ ((0 ≤ s ∧ s < 4) ∧ 0 ≤ k ∧ k < 3) ∧ z = -2 ∧ h' = h) ∨ (((0 ≤ s ∧ s < 4) ∧ 0 ≤ k ∧ k < 3) ∧ (1 ≤ wi_n (h 33 s) (h 32 s) k i ∧ wi_n (h 33 s) (h 32 s) k i ≤ 3) ∧ z = -10 - wi_n (h 33 s) (h 32 s) k i ∧ h' = ab_hs h 0 7 (wi_n (h 33 s) (h 32 s) k i)) ∨ (((0 ≤ s ∧ s < 4) ∧ 0 ≤ k ∧ k < 3) ∧ wi_n (h 33 s) (h 32 s) k i = 0 ∧ z = 1 ∧ h' = ab_hs h (58 + s.toNat) i (cut (h 32 s) v))
def mly_P (h : ab_H) (s k i v z : Int) (h' : ab_H) : Prop := (¬ ((0 ≤ s ∧ s < 4) ∧ 0 ≤ k ∧ k < 3) ∧ z = -2 ∧ h' = h) ∨ (((0 ≤ s ∧ s < 4) ∧ 0 ≤ k ∧ k < 3) ∧ (1 ≤ ml_n (h 63 s) (h 64 s) k i ∧ ml_n (h 63 s) (h 64 s) k i ≤ 3) ∧ z = -10 - ml_n (h 63 s) (h 64 s) k i ∧ h' = ab_hs h 62 4 (ml_n (h 63 s) (h 64 s) k i)) ∨ (((0 ≤ s ∧ s < 4) ∧ 0 ≤ k ∧ k < 3) ∧ ml_n (h 63 s) (h 64 s) k i = 0 ∧ z = 1 ∧ h' = ab_hs h 65 (60 * s + i) (cut k v))
set_option maxHeartbeats 4000000 in
set_option maxRecDepth 100000 in
theorem s_X6_lay {g : ab_G} {h : ab_H} {s k i v : Int} (hz : ∀ s, 0 ≤ s → s < 4 → -1 ≤ h 33 s ∧ h 33 s ≤ 60) : MethI g 6 m_X6_lay [a_R 0, a_I s, a_I k, a_I i, a_I v] h (fun z h' => cly_P h s k i v z h') := by
  refine Meth.of_go k_X6_lay (Nat.le_of_ble_eq_true rfl) ?_
  show Go g _ m_X6_lay _ 0 [some (a_R 0), some (a_I s), some (a_I k), some (a_I i), some (a_I v), none] [] h
  refine go_iload_n rfl rfl ?_
  refine go_cS1I (M' := m_X6_isSheet) rfl l_X6_195 k_X6_isSheet (s_X6_isSheet) rfl (by decide) (Nat.le_of_ble_eq_true rfl) (fun z1 h1 q1 => ?_) -- X6_isSheet
  obtain ⟨rfl, rfl⟩ := q1
  refine go_if_eq rfl (tgt := 14) (by decide) (fun c4 => ?_) (fun c4 => ?_)
  · refine go_bipush rfl ?_
    exact go_iret rfl (Or.inl rfl) ⟨_, rfl, Or.inl ⟨fun z => rd_n0 c4 z.1, rfl, rfl⟩⟩
  · refine go_iload_n rfl rfl ?_
    refine go_cS1I (M' := m_X6_isForm) rfl l_X6_228 k_X6_isForm (s_X6_isForm) rfl (by decide) (Nat.le_of_ble_eq_true rfl) (fun z8 h8 q8 => ?_) -- X6_isForm
    obtain ⟨rfl, rfl⟩ := q8
    refine go_if_ne rfl (tgt := 17) (by decide) (fun c11 => ?_) (fun c11 => ?_)
    · have y1 := rd_n1 c4
      have y2 := rd_n1 c11
      refine go_aload_n rfl rfl ?_
      refine go_getR rfl f_X6_47 rfl rfl ?_ -- sheets
      refine go_iload_n rfl rfl ?_
      refine go_iload_n rfl rfl ?_
      refine go_iload_n rfl rfl ?_
      refine go_cV3I (M' := m_X3_wrongItem) rfl l_X6_238 k_X3_wrongItem (s_X3_wrongItem y1) rfl rfl rfl rfl (by decide) (Nat.le_of_ble_eq_true rfl) (fun z24 h24 q24 => ?_) -- X3_wrongItem
      obtain ⟨rfl, rfl⟩ := q24
      have wi := wi_in (h 33 s) (h 32 s) k i
      refine go_istore rfl (by decide) rfl ?_
      refine go_iload rfl rfl ?_
      refine go_if_eq rfl (tgt := 41) (by decide) (fun c31 => ?_) (fun c31 => ?_)
      · refine go_aload_n rfl rfl ?_
        refine go_getR rfl f_X6_47 rfl rfl ?_ -- sheets
        refine go_iload_n rfl rfl ?_
        refine go_iload_n rfl rfl ?_
        refine go_iload rfl rfl ?_
        refine go_cV3V (M' := m_X3_put) rfl l_X6_241 k_X3_put (s_X3_put y1 (by have := hz s y1.1 y1.2; omega)) rfl rfl rfl rfl (by decide) (Nat.le_of_ble_eq_true rfl) (fun h49 q49 => ?_) -- X3_put
        refine go_iconst rfl ?_
        exact go_iret rfl (Or.inl rfl) ⟨_, rfl, Or.inr (Or.inr ⟨⟨y1, y2⟩, c31, rfl, q49⟩)⟩
      · refine go_aload_n rfl rfl ?_
        refine go_iload rfl rfl ?_
        refine go_cV1I (M' := m_X6_find) rfl l_X6_201 k_X6_find (s_X6_find (by omega)) rfl rfl rfl rfl (by decide) (Nat.le_of_ble_eq_true rfl) (fun z37 h37 q37 => ?_) -- X6_find
        exact go_iret rfl (Or.inl rfl) ⟨_, rfl, Or.inr (Or.inl ⟨⟨y1, y2⟩, by omega, q37.2, q37.1⟩)⟩
    · refine go_bipush rfl ?_
      exact go_iret rfl (Or.inl rfl) ⟨_, rfl, Or.inl ⟨fun z => rd_n0 c11 z.2, rfl, rfl⟩⟩
theorem ml_0 {fm sz k i : Int} (h : ml_n fm sz k i = 0) : 0 ≤ fm ∧ fm = k ∧ 0 ≤ i ∧ i ≤ sz - 1 := by
  unfold ml_n at h
  split at h
  · omega
  · split at h
    · omega
    · split at h <;> omega
set_option maxHeartbeats 4000000 in
set_option maxRecDepth 100000 in
theorem s_X7_lay {g : ab_G} {h : ab_H} {s k i v : Int} (hz : ∀ s, 0 ≤ s → s < 4 → 0 ≤ h 63 s → 0 ≤ h 64 s ∧ h 64 s ≤ 60) : MethI g 6 m_X7_lay [a_R 62, a_I s, a_I k, a_I i, a_I v] h (fun z h' => mly_P h s k i v z h') := by
  refine Meth.of_go k_X7_lay (Nat.le_of_ble_eq_true rfl) ?_
  show Go g _ m_X7_lay _ 0 [some (a_R 62), some (a_I s), some (a_I k), some (a_I i), some (a_I v), none] [] h
  refine go_iload_n rfl rfl ?_
  refine go_cS1I (M' := m_X7_isSheet) rfl l_X7_80 k_X7_isSheet (s_X7_isSheet) rfl (by decide) (Nat.le_of_ble_eq_true rfl) (fun z1 h1 q1 => ?_) -- X7_isSheet
  obtain ⟨rfl, rfl⟩ := q1
  refine go_if_eq rfl (tgt := 19) (by decide) (fun c4 => ?_) (fun c4 => ?_)
  · refine go_bipush rfl ?_
    exact go_iret rfl (Or.inl rfl) ⟨_, rfl, Or.inl ⟨by have := rd_n0 c4; omega, rfl, rfl⟩⟩
  · refine go_iload_n rfl rfl ?_
    refine go_i2l rfl ?_
    refine go_lconst (z := 0) rfl ?_
    refine go_ldc2 rfl (z := 2) c_X7_84 ?_
    refine go_cS3I (M' := m_X7_in) rfl l_X7_68 k_X7_in (s_X7_in) rfl (by decide) (Nat.le_of_ble_eq_true rfl) (fun z13 h13 q13 => ?_) -- X7_in
    obtain ⟨rfl, rfl⟩ := q13
    refine go_if_ne rfl (tgt := 22) (by decide) (fun c16 => ?_) (fun c16 => ?_)
    · have y1 := rd_n1 c4
      have y2 := rd_n1 c16
      refine go_aload_n rfl rfl ?_
      refine go_iload_n rfl rfl ?_
      refine go_iload_n rfl rfl ?_
      refine go_iload_n rfl rfl ?_
      refine go_cV3I (M' := m_X7_lacks) rfl l_X7_90 k_X7_lacks (s_X7_lacks (by omega) (hz s (by omega) (by omega))) rfl rfl rfl rfl (by decide) (Nat.le_of_ble_eq_true rfl) (fun z26 h26 q26 => ?_) -- X7_lacks
      
      refine go_istore rfl (by decide) rfl ?_
      refine go_iload rfl rfl ?_
      refine go_if_eq rfl (tgt := 39) (by decide) (fun c33 => ?_) (fun c33 => ?_)
      · obtain ⟨w0, rfl⟩ : ml_n (h 63 s) (h 64 s) k i = 0 ∧ h26 = h := by rcases q26 with ⟨a, b, c⟩ | ⟨a, b, c⟩; exact ⟨a, c⟩; omega
        have w1 := ml_0 w0
        have z1 := hz s (by omega) (by omega) w1.1
        refine go_aload_n rfl rfl ?_
        refine go_getR rfl f_X7_16 rfl rfl ?_ -- items
        refine go_bipush rfl ?_
        refine go_iload_n rfl rfl ?_
        refine go_imul rfl (by unfold ab_iok; omega) ?_
        refine go_iload_n rfl rfl ?_
        refine go_iadd rfl (by unfold ab_iok; omega) ?_
        refine go_iload_n rfl rfl ?_
        refine go_iload rfl rfl ?_
        refine go_cS2I (M' := m_X7_cut) rfl l_X7_94 k_X7_cut (s_X7_cut) rfl (by decide) (Nat.le_of_ble_eq_true rfl) (fun z52 h52 q52 => ?_) -- X7_cut
        obtain ⟨rfl, rfl⟩ := q52
        refine go_iast rfl rfl (by omega) (by omega) ?_
        refine go_iconst rfl ?_
        exact go_iret rfl (Or.inl rfl) ⟨_, rfl, Or.inr (Or.inr ⟨by omega, w0, rfl, rfl⟩)⟩
      · refine go_iload rfl rfl ?_
        exact go_iret rfl (Or.inl rfl) ⟨_, rfl, by rcases q26 with ⟨a, b, c⟩ | ⟨a, b, c⟩; exact absurd b c33; exact Or.inr (Or.inl ⟨by omega, a, b, c⟩)⟩
    · refine go_bipush rfl ?_
      exact go_iret rfl (Or.inl rfl) ⟨_, rfl, Or.inl ⟨by have := rd_n0 c16; omega, rfl, rfl⟩⟩
theorem iv_S.w {h : ab_H} (S : iv_S h) : ∀ s, 0 ≤ s → s < 4 → 0 ≤ h 63 s → 0 ≤ h 64 s ∧ h 64 s ≤ 60 := fun s s0 s1 z => by
  rcases S s s0 s1 with ⟨a, b⟩ | ⟨a, b, c, d, e⟩ <;> omega
theorem op_lay {g : ab_G} {h : ab_H} {s k i v : Int} (I : Inv h) : opI g 6 6 m_X6_lay m_X7_lay [a_I s, a_I k, a_I i, a_I v] h := by
  have S : iv_S h := I.2.2.2.2.1
  refine (s_X6_lay S.z).mono (fun r h1 ⟨z, ez, P⟩ => ⟨z, ez, ?_⟩)
  have e : ∀ k, ¬ (k = 0 ∨ (58 ≤ k ∧ k < 62)) → h1 k = h k := fun k hk => by
    rcases P with ⟨-, -, rfl⟩ | ⟨-, -, -, rfl⟩ | ⟨a, -, -, rfl⟩
    · rfl
    · exact ab_hs_f (by omega)
    · exact ab_hs_f (by omega)
  refine (s_X7_lay (by rw [e 63 (by decide), e 64 (by decide)]; exact S.w)).mono (fun r' h2 ⟨z', ez', P'⟩ => ⟨z', ez', ?_⟩)
  unfold mly_P at P'
  rw [e 63 (by decide), e 64 (by decide)] at P'
  rcases P with ⟨x1, x2, rfl⟩ | ⟨x1, x2, x3, rfl⟩ | ⟨x1, x2, x3, rfl⟩
  · rcases P' with ⟨y1, y2, rfl⟩ | ⟨y1, -⟩ | ⟨y1, -⟩
    · exact ⟨by omega, I⟩
    · exact absurd y1 x1
    · exact absurd y1 x1
  · rw [← wl_eq (S s x1.1.1 x1.1.2)] at P'
    rcases P' with ⟨y1, -⟩ | ⟨y1, y2, y3, rfl⟩ | ⟨y1, y2, -⟩
    · exact absurd x1 y1
    · exact ⟨by omega, inv_find I⟩
    · omega
  · rw [← wl_eq (S s x1.1.1 x1.1.2)] at P'
    rcases P' with ⟨y1, -⟩ | ⟨y1, y2, -⟩ | ⟨y1, y2, y3, rfl⟩
    · exact absurd x1 y1
    · omega
    · refine ⟨by omega, inv_sh I (fun k hk => by rw [ab_hs_f (by omega), ab_hs_f (by omega)]) (fun t t0 t1 => ?_)⟩
      have zs := S.z s x1.1.1 x1.1.2
      have w : True ∧ ¬ h 33 s = -1 ∧ h 32 s = k ∧ 0 ≤ i ∧ i < h 33 s := by rcases wi_in (h 33 s) (h 32 s) k i with a | a; exact ⟨trivial, a.2⟩; omega
      by_cases y : t = s
      · subst y
        rcases S t t0 t1 with a | ⟨a, b, c, d, ee⟩
        · exact absurd a.1 w.2.1
        · refine Or.inr ⟨?_, ?_, ?_, ?_, fun j j0 j1 => ?_⟩
          · rw [ab_hs_f (by decide), ab_hs_f (by omega)]; exact a
          · rw [ab_hs_f (by decide), ab_hs_f (by omega)]; exact b
          · rw [ab_hs_f (by decide), ab_hs_f (by omega), ab_hs_f (by decide), ab_hs_f (by omega)]; exact c
          · rw [ab_hs_f (by decide), ab_hs_f (by omega), ab_hs_f (by decide), ab_hs_f (by omega)]; exact d
          · rw [ab_hs_f (by decide), ab_hs_f (by omega)] at j1
            rw [ab_hs_f (a := 58 + t.toNat) (by omega)]
            by_cases q : j = i
            · subst q; rw [ab_hs_eq, ab_hs_eq, w.2.2.1]
            · rw [ab_hs_i (by omega), ab_hs_i q, ab_hs_f (by omega)]; exact ee j j0 j1
      · exact (S t t0 t1).of (by rw [ab_hs_f (by decide), ab_hs_f (by omega)]) (by rw [ab_hs_f (by decide), ab_hs_f (by omega)]) (by rw [ab_hs_f (by decide), ab_hs_f (by omega)]) (by rw [ab_hs_f (by decide), ab_hs_f (by omega)]) (fun j j0 j1 => by rw [ab_hs_i (by omega), ab_hs_f (by omega)]) (by rw [ab_hs_f (by omega), ab_hs_f (by omega)])
def cge_P (h : ab_H) (s k i z : Int) (h' : ab_H) : Prop := (¬ ((0 ≤ s ∧ s < 4) ∧ 0 ≤ k ∧ k < 3) ∧ z = -2147483648 ∧ h' = h) ∨ (((0 ≤ s ∧ s < 4) ∧ 0 ≤ k ∧ k < 3) ∧ (1 ≤ wi_n (h 33 s) (h 32 s) k i ∧ wi_n (h 33 s) (h 32 s) k i ≤ 3) ∧ z = -2147483648 ∧ h' = ab_hs h 0 7 (wi_n (h 33 s) (h 32 s) k i)) ∨ (((0 ≤ s ∧ s < 4) ∧ 0 ≤ k ∧ k < 3) ∧ wi_n (h 33 s) (h 32 s) k i = 0 ∧ z = h (58 + s.toNat) i ∧ h' = h)
def mge_P (h : ab_H) (s k i z : Int) (h' : ab_H) : Prop := (¬ ((0 ≤ s ∧ s < 4) ∧ 0 ≤ k ∧ k < 3) ∧ z = -2147483648 ∧ h' = h) ∨ (((0 ≤ s ∧ s < 4) ∧ 0 ≤ k ∧ k < 3) ∧ (1 ≤ ml_n (h 63 s) (h 64 s) k i ∧ ml_n (h 63 s) (h 64 s) k i ≤ 3) ∧ z = -2147483648 ∧ h' = ab_hs h 62 4 (ml_n (h 63 s) (h 64 s) k i)) ∨ (((0 ≤ s ∧ s < 4) ∧ 0 ≤ k ∧ k < 3) ∧ ml_n (h 63 s) (h 64 s) k i = 0 ∧ z = h 65 (60 * s + i) ∧ h' = h)
set_option maxHeartbeats 4000000 in
set_option maxRecDepth 100000 in
theorem s_X6_get {g : ab_G} {h : ab_H} {s k i : Int} (hz : ∀ s, 0 ≤ s → s < 4 → -1 ≤ h 33 s ∧ h 33 s ≤ 60) : MethI g 6 m_X6_get [a_R 0, a_I s, a_I k, a_I i] h (fun z h' => cge_P h s k i z h') := by
  refine Meth.of_go k_X6_get (Nat.le_of_ble_eq_true rfl) ?_
  show Go g _ m_X6_get _ 0 [some (a_R 0), some (a_I s), some (a_I k), some (a_I i), none] [] h
  refine go_iload_n rfl rfl ?_
  refine go_cS1I (M' := m_X6_isSheet) rfl l_X6_195 k_X6_isSheet (s_X6_isSheet) rfl (by decide) (Nat.le_of_ble_eq_true rfl) (fun z1 h1 q1 => ?_) -- X6_isSheet
  obtain ⟨rfl, rfl⟩ := q1
  refine go_if_eq rfl (tgt := 14) (by decide) (fun c4 => ?_) (fun c4 => ?_)
  · refine go_ldc rfl (z := -2147483648) c_X6_244 ?_
    exact go_iret rfl (Or.inl rfl) ⟨_, rfl, Or.inl ⟨fun z => rd_n0 c4 z.1, rfl, rfl⟩⟩
  · refine go_iload_n rfl rfl ?_
    refine go_cS1I (M' := m_X6_isForm) rfl l_X6_228 k_X6_isForm (s_X6_isForm) rfl (by decide) (Nat.le_of_ble_eq_true rfl) (fun z8 h8 q8 => ?_) -- X6_isForm
    obtain ⟨rfl, rfl⟩ := q8
    refine go_if_ne rfl (tgt := 17) (by decide) (fun c11 => ?_) (fun c11 => ?_)
    · have y1 := rd_n1 c4
      have y2 := rd_n1 c11
      have z1 := hz s y1.1 y1.2
      refine go_aload_n rfl rfl ?_
      refine go_getR rfl f_X6_47 rfl rfl ?_ -- sheets
      refine go_iload_n rfl rfl ?_
      refine go_iload_n rfl rfl ?_
      refine go_iload_n rfl rfl ?_
      refine go_cV3I (M' := m_X3_wrongItem) rfl l_X6_238 k_X3_wrongItem (s_X3_wrongItem y1) rfl rfl rfl rfl (by decide) (Nat.le_of_ble_eq_true rfl) (fun z24 h24 q24 => ?_) -- X3_wrongItem
      obtain ⟨rfl, rfl⟩ := q24
      have wi := wi_in (h 33 s) (h 32 s) k i
      refine go_istore rfl (by decide) rfl ?_
      refine go_iload rfl rfl ?_
      refine go_if_eq rfl (tgt := 44) (by decide) (fun c31 => ?_) (fun c31 => ?_)
      · refine go_aload_n rfl rfl ?_
        refine go_getR rfl f_X6_47 rfl rfl ?_ -- sheets
        refine go_getR rfl f_X6_204 rfl rfl ?_ -- items
        refine go_iload_n rfl rfl ?_
        refine go_aald rfl rfl (by omega) (by omega) (rf_31 s.toNat (by omega)) ?_
        refine go_iload_n rfl rfl ?_
        refine go_iald rfl (kd_sh s.toNat (by omega)) (by omega) (by omega) ?_
        exact go_iret rfl (Or.inl rfl) ⟨_, rfl, Or.inr (Or.inr ⟨⟨y1, y2⟩, c31, rfl, rfl⟩)⟩
      · refine go_aload_n rfl rfl ?_
        refine go_iload rfl rfl ?_
        refine go_cV1I (M' := m_X6_find) rfl l_X6_201 k_X6_find (s_X6_find (by omega)) rfl rfl rfl rfl (by decide) (Nat.le_of_ble_eq_true rfl) (fun z37 h37 q37 => ?_) -- X6_find
        refine go_pop rfl ?_
        refine go_ldc rfl (z := -2147483648) c_X6_244 ?_
        exact go_iret rfl (Or.inl rfl) ⟨_, rfl, Or.inr (Or.inl ⟨⟨y1, y2⟩, by omega, rfl, q37.1⟩)⟩
    · refine go_ldc rfl (z := -2147483648) c_X6_244 ?_
      exact go_iret rfl (Or.inl rfl) ⟨_, rfl, Or.inl ⟨fun z => rd_n0 c11 z.2, rfl, rfl⟩⟩
set_option maxHeartbeats 4000000 in
set_option maxRecDepth 100000 in
theorem s_X7_get {g : ab_G} {h : ab_H} {s k i : Int} (hz : ∀ s, 0 ≤ s → s < 4 → 0 ≤ h 63 s → 0 ≤ h 64 s ∧ h 64 s ≤ 60) : MethI g 6 m_X7_get [a_R 62, a_I s, a_I k, a_I i] h (fun z h' => mge_P h s k i z h') := by
  refine Meth.of_go k_X7_get (Nat.le_of_ble_eq_true rfl) ?_
  show Go g _ m_X7_get _ 0 [some (a_R 62), some (a_I s), some (a_I k), some (a_I i)] [] h
  refine go_iload_n rfl rfl ?_
  refine go_cS1I (M' := m_X7_isSheet) rfl l_X7_80 k_X7_isSheet (s_X7_isSheet) rfl (by decide) (Nat.le_of_ble_eq_true rfl) (fun z1 h1 q1 => ?_) -- X7_isSheet
  obtain ⟨rfl, rfl⟩ := q1
  refine go_if_eq rfl (tgt := 29) (by decide) (fun c4 => ?_) (fun c4 => ?_)
  · refine go_ldc rfl (z := -2147483648) c_X7_98 ?_
    exact go_iret rfl (Or.inl rfl) ⟨_, rfl, Or.inl ⟨by have := rd_n0 c4; omega, rfl, rfl⟩⟩
  · refine go_iload_n rfl rfl ?_
    refine go_i2l rfl ?_
    refine go_lconst (z := 0) rfl ?_
    refine go_ldc2 rfl (z := 2) c_X7_84 ?_
    refine go_cS3I (M' := m_X7_in) rfl l_X7_68 k_X7_in (s_X7_in) rfl (by decide) (Nat.le_of_ble_eq_true rfl) (fun z13 h13 q13 => ?_) -- X7_in
    obtain ⟨rfl, rfl⟩ := q13
    refine go_if_eq rfl (tgt := 29) (by decide) (fun c16 => ?_) (fun c16 => ?_)
    · refine go_ldc rfl (z := -2147483648) c_X7_98 ?_
      exact go_iret rfl (Or.inl rfl) ⟨_, rfl, Or.inl ⟨by have := rd_n0 c16; omega, rfl, rfl⟩⟩
    · have y1 := rd_n1 c4
      have y2 := rd_n1 c16
      refine go_aload_n rfl rfl ?_
      refine go_iload_n rfl rfl ?_
      refine go_iload_n rfl rfl ?_
      refine go_iload_n rfl rfl ?_
      refine go_cV3I (M' := m_X7_lacks) rfl l_X7_90 k_X7_lacks (s_X7_lacks (by omega) (hz s (by omega) (by omega))) rfl rfl rfl rfl (by decide) (Nat.le_of_ble_eq_true rfl) (fun z23 h23 q23 => ?_) -- X7_lacks
      refine go_if_eq rfl (tgt := 32) (by decide) (fun c26 => ?_) (fun c26 => ?_)
      · obtain ⟨w0, rfl⟩ : ml_n (h 63 s) (h 64 s) k i = 0 ∧ h23 = h := by rcases q23 with ⟨a, b, c⟩ | ⟨a, b, c⟩; exact ⟨a, c⟩; omega
        have w1 := ml_0 w0
        have z1 := hz s (by omega) (by omega) w1.1
        refine go_aload_n rfl rfl ?_
        refine go_getR rfl f_X7_16 rfl rfl ?_ -- items
        refine go_bipush rfl ?_
        refine go_iload_n rfl rfl ?_
        refine go_imul rfl (by unfold ab_iok; omega) ?_
        refine go_iload_n rfl rfl ?_
        refine go_iadd rfl (by unfold ab_iok; omega) ?_
        refine go_iald rfl rfl (by omega) (by omega) ?_
        exact go_iret rfl (Or.inl rfl) ⟨_, rfl, Or.inr (Or.inr ⟨by omega, w0, rfl, rfl⟩)⟩
      · refine go_ldc rfl (z := -2147483648) c_X7_98 ?_
        exact go_iret rfl (Or.inl rfl) ⟨_, rfl, by rcases q23 with ⟨a, b, c⟩ | ⟨a, b, c⟩; exact absurd b c26; exact Or.inr (Or.inl ⟨by omega, a, rfl, c⟩)⟩
theorem op_get {g : ab_G} {h : ab_H} {s k i : Int} (I : Inv h) : opI g 6 6 m_X6_get m_X7_get [a_I s, a_I k, a_I i] h := by
  have S : iv_S h := I.2.2.2.2.1
  have wi := wi_in (h 33 s) (h 32 s) k i
  refine (s_X6_get S.z).mono (fun r h1 ⟨z, ez, P⟩ => ⟨z, ez, ?_⟩)
  have e : ∀ k, ¬ (k = 0) → h1 k = h k := fun k hk => by
    rcases P with ⟨-, -, rfl⟩ | ⟨-, -, -, rfl⟩ | ⟨a, -, -, rfl⟩
    · rfl
    · exact ab_hs_f (by omega)
    · rfl
  refine (s_X7_get (by rw [e 63 (by decide), e 64 (by decide)]; exact S.w)).mono (fun r' h2 ⟨z', ez', P'⟩ => ⟨z', ez', ?_⟩)
  unfold mge_P at P'
  rw [e 63 (by decide), e 64 (by decide), e 65 (by decide)] at P'
  rcases P with ⟨x1, x2, rfl⟩ | ⟨x1, x2, x3, rfl⟩ | ⟨x1, x2, x3, rfl⟩
  · rcases P' with ⟨y1, y2, rfl⟩ | ⟨y1, -⟩ | ⟨y1, -⟩
    · exact ⟨by omega, I⟩
    · exact absurd y1 x1
    · exact absurd y1 x1
  · rw [← wl_eq (S s x1.1.1 x1.1.2)] at P'
    rcases P' with ⟨y1, -⟩ | ⟨y1, y2, y3, rfl⟩ | ⟨y1, y2, -⟩
    · exact absurd x1 y1
    · exact ⟨by omega, inv_find I⟩
    · omega
  · rw [← wl_eq (S s x1.1.1 x1.1.2)] at P'
    rcases P' with ⟨y1, -⟩ | ⟨y1, y2, -⟩ | ⟨y1, y2, y3, rfl⟩
    · exact absurd x1 y1
    · omega
    · refine ⟨?_, I⟩
      rcases wi with w | w
      case inr => omega
      rcases S s x1.1.1 x1.1.2 with a | ⟨a, b, c, d, ee⟩
      · exact absurd a.1 w.2.1
      · rw [y3, x3]; exact ee i w.2.2.2.1 w.2.2.2.2
