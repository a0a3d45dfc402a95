/-! copy -/
def cc_ok (h : ab_H) (s i t j n : Int) : Prop := 0 ≤ i ∧ 0 ≤ j ∧ 0 ≤ n ∧ i + n ≤ h 33 s ∧ j + n ≤ h 33 t
def cco_P (h : ab_H) (s i t j n z : Int) (h' : ab_H) : Prop := (¬ ((0 ≤ s ∧ s < 4) ∧ 0 ≤ t ∧ t < 4) ∧ z = -2 ∧ h' = h) ∨ (((0 ≤ s ∧ s < 4) ∧ 0 ≤ t ∧ t < 4) ∧ (((h 33 s = -1 ∨ h 33 t = -1) ∧ z = -11 ∧ h' = ab_hs h 0 7 1) ∨ (¬ (h 33 s = -1 ∨ h 33 t = -1) ∧ ((¬ h 32 s = h 32 t ∧ z = -14 ∧ h' = ab_hs h 0 7 4) ∨ (h 32 s = h 32 t ∧ ((¬ cc_ok h s i t j n ∧ z = -12 ∧ h' = ab_hs h 0 7 2) ∨ (cc_ok h s i t j n ∧ z = 1 ∧ h' = ab_cp h (58 + s.toNat) i (58 + t.toNat) j n)))))))
theorem w_cp1 : Cond.methodLink "PostmenMeet" 251 arraycopyName ∈ ab_tb := ab_t3 (i := 146) rfl rfl
theorem w_cp2 : Cond.native arraycopyName ∈ ab_tb := ab_t3 (i := 148) rfl rfl
theorem w_cp3 : Cond.static arraycopyName ∈ ab_tb := ab_t3 (i := 147) rfl rfl
theorem w_cp4 : Cond.initialized "java/lang/System" ∈ ab_tb := ab_t1 (i := 12) rfl rfl
set_option maxHeartbeats 4000000 in
set_option maxRecDepth 100000 in
theorem s_X6_copy {g : ab_G} {h : ab_H} {s i t j n : Int} (hz : ∀ s, 0 ≤ s → s < 4 → -1 ≤ h 33 s ∧ h 33 s ≤ 60) : MethI g 6 m_X6_copy [a_R 0, a_I s, a_I i, a_I t, a_I j, a_I n] h (fun z h' => cco_P h s i t j n z h') := by
  refine Meth.of_go k_X6_copy (Nat.le_of_ble_eq_true rfl) ?_
  show Go g _ m_X6_copy _ 0 [some (a_R 0), some (a_I s), some (a_I i), some (a_I t), some (a_I j), some (a_I n)] [] h
  refine go_iload_n rfl rfl ?_
  refine go_cS1I (M' := m_X6_isSheet) rfl l_X6_195 k_X6_isSheet (s_X6_isSheet) rfl (by decide) (Nat.le_of_ble_eq_true rfl) (fun z1 h1 q1 => ?_) -- X6_isSheet
  obtain ⟨rfl, rfl⟩ := q1
  refine go_if_eq rfl (tgt := 14) (by decide) (fun c4 => ?_) (fun c4 => ?_)
  · refine go_bipush rfl ?_
    exact go_iret rfl (Or.inl rfl) ⟨_, rfl, Or.inl ⟨fun z => rd_n0 c4 z.1, rfl, rfl⟩⟩
  · refine go_iload_n rfl rfl ?_
    refine go_cS1I (M' := m_X6_isSheet) rfl l_X6_195 k_X6_isSheet (s_X6_isSheet) rfl (by decide) (Nat.le_of_ble_eq_true rfl) (fun z8 h8 q8 => ?_) -- X6_isSheet
    obtain ⟨rfl, rfl⟩ := q8
    refine go_if_ne rfl (tgt := 17) (by decide) (fun c11 => ?_) (fun c11 => ?_)
    · have y1 := rd_n1 c4
      have y2 := rd_n1 c11
      refine go_aload_n rfl rfl ?_
      refine go_getR rfl f_X6_47 rfl rfl ?_ -- sheets
      refine go_iload_n rfl rfl ?_
      refine go_cV1I (M' := m_X3_isLost) rfl l_X6_198 k_X3_isLost (s_X3_isLost y1) rfl rfl rfl rfl (by decide) (Nat.le_of_ble_eq_true rfl) (fun z22 h22 q22 => ?_) -- X3_isLost
      obtain ⟨rfl, rfl⟩ := q22
      refine go_if_ne rfl (tgt := 39) (by decide) (fun c25 => ?_) (fun c25 => ?_)
      · refine go_aload_n rfl rfl ?_
        refine go_iconst rfl ?_
        refine go_cV1I (M' := m_X6_find) rfl l_X6_201 k_X6_find (s_X6_find (by omega)) rfl rfl rfl rfl (by decide) (Nat.le_of_ble_eq_true rfl) (fun z41 h41 q41 => ?_) -- X6_find
        exact go_iret rfl (Or.inl rfl) ⟨_, rfl, Or.inr ⟨⟨y1, y2⟩, Or.inl ⟨Or.inl (rd_n1 c25), q41.2, q41.1⟩⟩⟩
      · refine go_aload_n rfl rfl ?_
        refine go_getR rfl f_X6_47 rfl rfl ?_ -- sheets
        refine go_iload_n rfl rfl ?_
        refine go_cV1I (M' := m_X3_isLost) rfl l_X6_198 k_X3_isLost (s_X3_isLost y2) rfl rfl rfl rfl (by decide) (Nat.le_of_ble_eq_true rfl) (fun z33 h33 q33 => ?_) -- X3_isLost
        obtain ⟨rfl, rfl⟩ := q33
        refine go_if_eq rfl (tgt := 45) (by decide) (fun c36 => ?_) (fun c36 => ?_)
        · refine go_aload_n rfl rfl ?_
          refine go_getR rfl f_X6_47 rfl rfl ?_ -- sheets
          refine go_getR rfl f_X6_245 rfl rfl ?_ -- form
          refine go_iload_n rfl rfl ?_
          refine go_iald rfl rfl (by omega) (by omega) ?_
          refine go_aload_n rfl rfl ?_
          refine go_getR rfl f_X6_47 rfl rfl ?_ -- sheets
          refine go_getR rfl f_X6_245 rfl rfl ?_ -- form
          refine go_iload_n rfl rfl ?_
          refine go_iald rfl rfl (by omega) (by omega) ?_
          refine go_icmp_eq rfl (tgt := 72) (by decide) (fun c63 => ?_) (fun c63 => ?_)
          · refine go_aload_n rfl rfl ?_
            refine go_getR rfl f_X6_47 rfl rfl ?_ -- sheets
            refine go_iload_n rfl rfl ?_
            refine go_iload_n rfl rfl ?_
            refine go_iload rfl rfl ?_
            refine go_cV3I (M' := m_X3_hasRun) rfl l_X6_248 k_X3_hasRun (s_X3_hasRun y1 (hz s y1.1 y1.2)) rfl rfl rfl rfl (by decide) (Nat.le_of_ble_eq_true rfl) (fun z80 h80 q80 => ?_) -- X3_hasRun
            obtain ⟨rfl, rfl⟩ := q80
            refine go_if_eq rfl (tgt := 101) (by decide) (fun c83 => ?_) (fun c83 => ?_)
            · refine go_aload_n rfl rfl ?_
              refine go_iconst rfl ?_
              refine go_cV1I (M' := m_X6_find) rfl l_X6_201 k_X6_find (s_X6_find (by omega)) rfl rfl rfl rfl (by decide) (Nat.le_of_ble_eq_true rfl) (fun z103 h103 q103 => ?_) -- X6_find
              exact go_iret rfl (Or.inl rfl) ⟨_, rfl, Or.inr ⟨⟨y1, y2⟩, Or.inr ⟨(fun z => by rcases z with z | z; exact rd_n0 c25 z; exact rd_n0 c36 z), Or.inr ⟨c63, Or.inl ⟨fun z => rd_n0 c83 ⟨z.1, z.2.2.1, z.2.2.2.1⟩, q103.2, q103.1⟩⟩⟩⟩⟩
            · refine go_aload_n rfl rfl ?_
              refine go_getR rfl f_X6_47 rfl rfl ?_ -- sheets
              refine go_iload_n rfl rfl ?_
              refine go_iload rfl rfl ?_
              refine go_iload rfl rfl ?_
              refine go_cV3I (M' := m_X3_hasRun) rfl l_X6_248 k_X3_hasRun (s_X3_hasRun y2 (hz t y2.1 y2.2)) rfl rfl rfl rfl (by decide) (Nat.le_of_ble_eq_true rfl) (fun z95 h95 q95 => ?_) -- X3_hasRun
              obtain ⟨rfl, rfl⟩ := q95
              refine go_if_ne rfl (tgt := 107) (by decide) (fun c98 => ?_) (fun c98 => ?_)
              · have u1 := rd_n1 c83
                have u2 := rd_n1 c98
                have z1 := hz s y1.1 y1.2
                have z2 := hz t y2.1 y2.2
                refine go_aload_n rfl rfl ?_
                refine go_getR rfl f_X6_47 rfl rfl ?_ -- sheets
                refine go_getR rfl f_X6_204 rfl rfl ?_ -- items
                refine go_iload_n rfl rfl ?_
                refine go_aald rfl rfl (by omega) (by omega) (rf_31 s.toNat (by omega)) ?_
                refine go_iload_n rfl rfl ?_
                refine go_aload_n rfl rfl ?_
                refine go_getR rfl f_X6_47 rfl rfl ?_ -- sheets
                refine go_getR rfl f_X6_204 rfl rfl ?_ -- items
                refine go_iload_n rfl rfl ?_
                refine go_aald rfl rfl (by omega) (by omega) (rf_31 t.toNat (by omega)) ?_
                refine go_iload rfl rfl ?_
                refine go_iload rfl rfl ?_
                refine go_copyi rfl w_cp1 w_cp2 w_cp3 w_cp4 (kd_sh s.toNat (by omega)) (kd_sh t.toNat (by omega)) (by omega) (by omega) (by omega) (by omega) (by omega) ⟨Nat.le_of_ble_eq_true rfl, by decide⟩ ?_
                refine go_iconst rfl ?_
                exact go_iret rfl (Or.inl rfl) ⟨_, rfl, Or.inr ⟨⟨y1, y2⟩, Or.inr ⟨(fun z => by rcases z with z | z; exact rd_n0 c25 z; exact rd_n0 c36 z), Or.inr ⟨c63, Or.inr ⟨⟨u1.1, u2.1, u1.2.1, u1.2.2, u2.2.2⟩, rfl, rfl⟩⟩⟩⟩⟩
              · refine go_aload_n rfl rfl ?_
                refine go_iconst rfl ?_
                refine go_cV1I (M' := m_X6_find) rfl l_X6_201 k_X6_find (s_X6_find (by omega)) rfl rfl rfl rfl (by decide) (Nat.le_of_ble_eq_true rfl) (fun z103 h103 q103 => ?_) -- X6_find
                exact go_iret rfl (Or.inl rfl) ⟨_, rfl, Or.inr ⟨⟨y1, y2⟩, Or.inr ⟨(fun z => by rcases z with z | z; exact rd_n0 c25 z; exact rd_n0 c36 z), Or.inr ⟨c63, Or.inl ⟨fun z => rd_n0 c98 ⟨z.2.1, z.2.2.1, z.2.2.2.2⟩, q103.2, q103.1⟩⟩⟩⟩⟩
          · refine go_aload_n rfl rfl ?_
            refine go_iconst rfl ?_
            refine go_cV1I (M' := m_X6_find) rfl l_X6_201 k_X6_find (s_X6_find (by omega)) rfl rfl rfl rfl (by decide) (Nat.le_of_ble_eq_true rfl) (fun z68 h68 q68 => ?_) -- X6_find
            exact go_iret rfl (Or.inl rfl) ⟨_, rfl, Or.inr ⟨⟨y1, y2⟩, Or.inr ⟨(fun z => by rcases z with z | z; exact rd_n0 c25 z; exact rd_n0 c36 z), Or.inl ⟨c63, q68.2, q68.1⟩⟩⟩⟩
        · refine go_aload_n rfl rfl ?_
          refine go_iconst rfl ?_
          refine go_cV1I (M' := m_X6_find) rfl l_X6_201 k_X6_find (s_X6_find (by omega)) rfl rfl rfl rfl (by decide) (Nat.le_of_ble_eq_true rfl) (fun z41 h41 q41 => ?_) -- X6_find
          exact go_iret rfl (Or.inl rfl) ⟨_, rfl, Or.inr ⟨⟨y1, y2⟩, Or.inl ⟨Or.inr (rd_n1 c36), q41.2, q41.1⟩⟩⟩
    · refine go_bipush rfl ?_
      exact go_iret rfl (Or.inl rfl) ⟨_, rfl, Or.inl ⟨fun z => rd_n0 c11 z.2, rfl, rfl⟩⟩
def mc_ok (h : ab_H) (s i t j n : Int) : Prop := 0 ≤ i ∧ 0 ≤ j ∧ 0 ≤ n ∧ i + n ≤ h 64 s ∧ j + n ≤ h 64 t
def mcp (h : ab_H) (s i t j n : Int) (h' : ab_H) : Prop := (∀ a, 0 ≤ a → a < n → h' 65 (60 * t + j + a) = h 65 (60 * s + i + a)) ∧ ∀ c b, ¬ (c = 66 ∨ (c = 65 ∧ 60 * t + j ≤ b ∧ b < 60 * t + j + n)) → h' c b = h c b
def mco_P (h : ab_H) (s i t j n z : Int) (h' : ab_H) : Prop := (¬ ((0 ≤ s ∧ s < 4) ∧ 0 ≤ t ∧ t < 4) ∧ z = -2 ∧ h' = h) ∨ (((0 ≤ s ∧ s < 4) ∧ 0 ≤ t ∧ t < 4) ∧ (((h 63 s < 0 ∨ h 63 t < 0) ∧ z = -11 ∧ h' = ab_hs h 62 4 1) ∨ (¬ (h 63 s < 0 ∨ h 63 t < 0) ∧ ((¬ h 63 s = h 63 t ∧ z = -14 ∧ h' = ab_hs h 62 4 4) ∨ (h 63 s = h 63 t ∧ ((¬ mc_ok h s i t j n ∧ z = -12 ∧ h' = ab_hs h 62 4 2) ∨ (mc_ok h s i t j n ∧ z = 1 ∧ mcp h s i t j n h')))))))
def m1_I (h0 : ab_H) (s i a : Int) (h : ab_H) : Prop := (∀ x, 0 ≤ x → x < a → h 66 x = h0 65 (60 * s + i + x)) ∧ ∀ c, c ≠ 66 → h c = h0 c
theorem m1_nx {h0 h : ab_H} {s i a : Int} (I : m1_I h0 s i a h) : m1_I h0 s i (a + 1) (ab_hs h 66 a (h 65 (60 * s + i + a))) := by
  refine ⟨fun x x0 x1 => ?_, fun c hc => by rw [ab_hs_f hc]; exact I.2 c hc⟩
  by_cases e : x = a
  · subst e; rw [ab_hs_eq, I.2 65 (by decide)]
  · rw [ab_hs_i e]; exact I.1 x x0 (by omega)
def m2_I (h0 : ab_H) (s i t j n a : Int) (h : ab_H) : Prop := (∀ x, 0 ≤ x → x < n → h 66 x = h0 65 (60 * s + i + x)) ∧ (∀ x, 0 ≤ x → x < a → h 65 (60 * t + j + x) = h0 65 (60 * s + i + x)) ∧ ∀ c b, ¬ (c = 66 ∨ (c = 65 ∧ 60 * t + j ≤ b ∧ b < 60 * t + j + a)) → h c b = h0 c b
theorem m2_nx {h0 h : ab_H} {s i t j n a : Int} (ha : 0 ≤ a ∧ a < n) (I : m2_I h0 s i t j n a h) : m2_I h0 s i t j n (a + 1) (ab_hs h 65 (60 * t + j + a) (h 66 a)) := by
  refine ⟨fun x x0 x1 => by rw [ab_hs_f (by decide)]; exact I.1 x x0 x1, fun x x0 x1 => ?_, fun c b hc => by rw [ab_hs_ne (by omega)]; exact I.2.2 c b (by omega)⟩
  by_cases e : x = a
  · subst e; rw [ab_hs_eq]; exact I.1 x x0 ha.2
  · rw [ab_hs_i (by omega)]; exact I.2.1 x x0 (by omega)
set_option maxHeartbeats 4000000 in
set_option maxRecDepth 100000 in
theorem lp_X7_copy2 {g : ab_G} {h0 : ab_H} {s i t j n : Int} {Q : Option ab_V → ab_H → Prop} (hs : 0 ≤ s ∧ s < 4) (ht : 0 ≤ t ∧ t < 4) (hi : 0 ≤ i ∧ i + n ≤ 60) (hj : 0 ≤ j ∧ j + n ≤ 60) (hn : 0 ≤ n) (hq : ∀ h, mcp h0 s i t j n h → Q (some (a_I 1)) h) : ∀ (f : Nat) (a : Int) (h : ab_H), 0 ≤ a → a ≤ n → n - a < f → m2_I h0 s i t j n a h → Go g (ab_rm 6, 0, 0) m_X7_copy Q 157 [some (a_R 62), some (a_I s), some (a_I i), some (a_I t), some (a_I j), some (a_I n), some (a_I a)] [] h := by
  intro f
  induction f with
  | zero => intro a h h0a h1 hf; omega
  | succ f ih =>
    intro a h h0a h1 hf J
    refine go_iload rfl rfl ?_
    refine go_iload rfl rfl ?_
    refine go_icmp_ge rfl (tgt := 192) (by decide) (fun c161 => ?_) (fun c161 => ?_)
    · refine go_iconst rfl ?_
      exact go_iret rfl (Or.inl rfl) (hq h ⟨by rw [show a = n by omega] at J; exact J.2.1, by rw [show a = n by omega] at J; exact J.2.2⟩)
    · refine go_aload_n rfl rfl ?_
      refine go_getR rfl f_X7_16 rfl rfl ?_ -- items
      refine go_bipush rfl ?_
      refine go_iload_n rfl rfl ?_
      refine go_imul rfl (by unfold ab_iok; omega) ?_
      refine go_iload rfl rfl ?_
      refine go_iadd rfl (by unfold ab_iok; omega) ?_
      refine go_iload rfl rfl ?_
      refine go_iadd rfl (by unfold ab_iok; omega) ?_
      refine go_aload_n rfl rfl ?_
      refine go_getR rfl f_X7_19 rfl rfl ?_ -- moved
      refine go_iload rfl rfl ?_
      refine go_iald rfl rfl (by omega) (by omega) ?_
      refine go_iast rfl rfl (by omega) (by omega) ?_
      refine go_iinc rfl rfl (by decide) rfl (by unfold ab_iok; omega) ?_
      refine go_goto rfl (tgt := 157) (by decide) ?_
      exact ih (a + 1) _ (by omega) (by omega) (by omega) (m2_nx ⟨h0a, by omega⟩ J)
set_option maxHeartbeats 4000000 in
set_option maxRecDepth 100000 in
theorem lp_X7_copy {g : ab_G} {h0 : ab_H} {s i t j n : Int} {Q : Option ab_V → ab_H → Prop} (hs : 0 ≤ s ∧ s < 4) (ht : 0 ≤ t ∧ t < 4) (hi : 0 ≤ i ∧ i + n ≤ 60) (hj : 0 ≤ j ∧ j + n ≤ 60) (hn : 0 ≤ n) (hq : ∀ h, mcp h0 s i t j n h → Q (some (a_I 1)) h) : ∀ (f : Nat) (a : Int) (h : ab_H), 0 ≤ a → a ≤ n → n - a < f → m1_I h0 s i a h → Go g (ab_rm 6, 0, 0) m_X7_copy Q 120 [some (a_R 62), some (a_I s), some (a_I i), some (a_I t), some (a_I j), some (a_I n), some (a_I a)] [] h := by
  intro f
  induction f with
  | zero => intro a h h0a h1 hf; omega
  | succ f ih =>
    intro a h h0a h1 hf J
    refine go_iload rfl rfl ?_
    refine go_iload rfl rfl ?_
    refine go_icmp_ge rfl (tgt := 154) (by decide) (fun c124 => ?_) (fun c124 => ?_)
    · refine go_iconst rfl ?_
      refine go_istore rfl (by decide) rfl ?_
      exact lp_X7_copy2 hs ht hi hj hn hq 70 0 h (by omega) (by omega) (by omega) ⟨by rw [show a = n by omega] at J; exact J.1, fun x x0 x1 => by omega, fun c b hc => by rw [J.2 c (by omega)]⟩
    · refine go_aload_n rfl rfl ?_
      refine go_getR rfl f_X7_19 rfl rfl ?_ -- moved
      refine go_iload rfl rfl ?_
      refine go_aload_n rfl rfl ?_
      refine go_getR rfl f_X7_16 rfl rfl ?_ -- items
      refine go_bipush rfl ?_
      refine go_iload_n rfl rfl ?_
      refine go_imul rfl (by unfold ab_iok; omega) ?_
      refine go_iload_n rfl rfl ?_
      refine go_iadd rfl (by unfold ab_iok; omega) ?_
      refine go_iload rfl rfl ?_
      refine go_iadd rfl (by unfold ab_iok; omega) ?_
      refine go_iald rfl rfl (by omega) (by omega) ?_
      refine go_iast rfl rfl (by omega) (by omega) ?_
      refine go_iinc rfl rfl (by decide) rfl (by unfold ab_iok; omega) ?_
      refine go_goto rfl (tgt := 120) (by decide) ?_
      exact ih (a + 1) _ (by omega) (by omega) (by omega) (m1_nx J)
set_option maxHeartbeats 4000000 in
set_option maxRecDepth 100000 in
theorem s_X7_copy {g : ab_G} {h : ab_H} {s i t j n : Int} (hz : ∀ s, 0 ≤ s → s < 4 → 0 ≤ h 63 s → 0 ≤ h 64 s ∧ h 64 s ≤ 60) : MethI g 6 m_X7_copy [a_R 62, a_I s, a_I i, a_I t, a_I j, a_I n] h (fun z h' => mco_P h s i t j n z h') := by
  refine Meth.of_go k_X7_copy (Nat.le_of_ble_eq_true rfl) ?_
  show Go g _ m_X7_copy _ 0 [some (a_R 62), some (a_I s), some (a_I i), some (a_I t), some (a_I j), some (a_I n), none] [] h
  refine go_iload_n rfl rfl ?_
  refine go_cS1I (M' := m_X7_isSheet) rfl l_X7_80 k_X7_isSheet (s_X7_isSheet) rfl (by decide) (Nat.le_of_ble_eq_true rfl) (fun z1 h1 q1 => ?_) -- X7_isSheet
  obtain ⟨rfl, rfl⟩ := q1
  refine go_if_eq rfl (tgt := 14) (by decide) (fun c4 => ?_) (fun c4 => ?_)
  · refine go_bipush rfl ?_
    exact go_iret rfl (Or.inl rfl) ⟨_, rfl, Or.inl ⟨by have := rd_n0 c4; omega, rfl, rfl⟩⟩
  · refine go_iload_n rfl rfl ?_
    refine go_cS1I (M' := m_X7_isSheet) rfl l_X7_80 k_X7_isSheet (s_X7_isSheet) rfl (by decide) (Nat.le_of_ble_eq_true rfl) (fun z8 h8 q8 => ?_) -- X7_isSheet
    obtain ⟨rfl, rfl⟩ := q8
    refine go_if_ne rfl (tgt := 17) (by decide) (fun c11 => ?_) (fun c11 => ?_)
    · have y1 := rd_n1 c4
      have y2 := rd_n1 c11
      refine go_aload_n rfl rfl ?_
      refine go_getR rfl f_X7_7 rfl rfl ?_ -- forms
      refine go_iload_n rfl rfl ?_
      refine go_iald rfl rfl (by omega) (by omega) ?_
      refine go_if_lt rfl (tgt := 35) (by decide) (fun c23 => ?_) (fun c23 => ?_)
      · refine go_aload_n rfl rfl ?_
        refine go_iconst rfl ?_
        refine go_cV1I (M' := m_X7_finds) rfl l_X7_86 k_X7_finds (s_X7_finds (by omega)) rfl rfl rfl rfl (by decide) (Nat.le_of_ble_eq_true rfl) (fun z37 h37 q37 => ?_) -- X7_finds
        exact go_iret rfl (Or.inl rfl) ⟨_, rfl, Or.inr ⟨⟨by omega, by omega⟩, Or.inl ⟨Or.inl c23, q37.2, q37.1⟩⟩⟩
      · refine go_aload_n rfl rfl ?_
        refine go_getR rfl f_X7_7 rfl rfl ?_ -- forms
        refine go_iload_n rfl rfl ?_
        refine go_iald rfl rfl (by omega) (by omega) ?_
        refine go_if_ge rfl (tgt := 41) (by decide) (fun c32 => ?_) (fun c32 => ?_)
        · have z1 := hz s (by omega) (by omega) (by omega)
          have z2 := hz t (by omega) (by omega) (by omega)
          refine go_aload_n rfl rfl ?_
          refine go_getR rfl f_X7_7 rfl rfl ?_ -- forms
          refine go_iload_n rfl rfl ?_
          refine go_iald rfl rfl (by omega) (by omega) ?_
          refine go_aload_n rfl rfl ?_
          refine go_getR rfl f_X7_7 rfl rfl ?_ -- forms
          refine go_iload_n rfl rfl ?_
          refine go_iald rfl rfl (by omega) (by omega) ?_
          refine go_icmp_eq rfl (tgt := 62) (by decide) (fun c53 => ?_) (fun c53 => ?_)
          · refine go_iload_n rfl rfl ?_
            refine go_if_lt rfl (tgt := 111) (by decide) (fun c63 => ?_) (fun c63 => ?_)
            · refine go_aload_n rfl rfl ?_
              refine go_iconst rfl ?_
              refine go_cV1I (M' := m_X7_finds) rfl l_X7_86 k_X7_finds (s_X7_finds (by omega)) rfl rfl rfl rfl (by decide) (Nat.le_of_ble_eq_true rfl) (fun z113 h113 q113 => ?_) -- X7_finds
              exact go_iret rfl (Or.inl rfl) ⟨_, rfl, Or.inr ⟨⟨by omega, by omega⟩, Or.inr ⟨(fun z => by omega), Or.inr ⟨c53, Or.inl ⟨fun z => absurd z.1 (by omega), q113.2, q113.1⟩⟩⟩⟩⟩
            · refine go_iload rfl rfl ?_
              refine go_if_lt rfl (tgt := 111) (by decide) (fun c68 => ?_) (fun c68 => ?_)
              · refine go_aload_n rfl rfl ?_
                refine go_iconst rfl ?_
                refine go_cV1I (M' := m_X7_finds) rfl l_X7_86 k_X7_finds (s_X7_finds (by omega)) rfl rfl rfl rfl (by decide) (Nat.le_of_ble_eq_true rfl) (fun z113 h113 q113 => ?_) -- X7_finds
                exact go_iret rfl (Or.inl rfl) ⟨_, rfl, Or.inr ⟨⟨by omega, by omega⟩, Or.inr ⟨(fun z => by omega), Or.inr ⟨c53, Or.inl ⟨fun z => absurd z.2.1 (by omega), q113.2, q113.1⟩⟩⟩⟩⟩
              · refine go_iload rfl rfl ?_
                refine go_if_lt rfl (tgt := 111) (by decide) (fun c73 => ?_) (fun c73 => ?_)
                · refine go_aload_n rfl rfl ?_
                  refine go_iconst rfl ?_
                  refine go_cV1I (M' := m_X7_finds) rfl l_X7_86 k_X7_finds (s_X7_finds (by omega)) rfl rfl rfl rfl (by decide) (Nat.le_of_ble_eq_true rfl) (fun z113 h113 q113 => ?_) -- X7_finds
                  exact go_iret rfl (Or.inl rfl) ⟨_, rfl, Or.inr ⟨⟨by omega, by omega⟩, Or.inr ⟨(fun z => by omega), Or.inr ⟨c53, Or.inl ⟨fun z => absurd z.2.2.1 (by omega), q113.2, q113.1⟩⟩⟩⟩⟩
                · refine go_ok (fun ok => ?_)
                  have oi : ab_iok i := ok.2.2 2 _ rfl
                  have on : ab_iok n := ok.2.2 5 _ rfl
                  have oj : ab_iok j := ok.2.2 4 _ rfl
                  unfold ab_iok at oi oj on
                  refine go_iload_n rfl rfl ?_
                  refine go_i2l rfl ?_
                  refine go_iload rfl rfl ?_
                  refine go_i2l rfl ?_
                  refine go_ladd rfl ?_
                  rw [pr_add (by unfold ab_lok; omega)]
                  refine go_aload_n rfl rfl ?_
                  refine go_getR rfl f_X7_13 rfl rfl ?_ -- sizes
                  refine go_iload_n rfl rfl ?_
                  refine go_iald rfl rfl (by omega) (by omega) ?_
                  refine go_i2l rfl ?_
                  refine go_lcmp rfl ?_
                  refine go_if_gt rfl (tgt := 111) (by decide) (fun c90 => ?_) (fun c90 => ?_)
                  · refine go_aload_n rfl rfl ?_
                    refine go_iconst rfl ?_
                    refine go_cV1I (M' := m_X7_finds) rfl l_X7_86 k_X7_finds (s_X7_finds (by omega)) rfl rfl rfl rfl (by decide) (Nat.le_of_ble_eq_true rfl) (fun z113 h113 q113 => ?_) -- X7_finds
                    exact go_iret rfl (Or.inl rfl) ⟨_, rfl, Or.inr ⟨⟨by omega, by omega⟩, Or.inr ⟨(fun z => by omega), Or.inr ⟨c53, Or.inl ⟨fun z => absurd (lc_gt.mp c90) (by have := z.2.2.2.1; omega), q113.2, q113.1⟩⟩⟩⟩⟩
                  · have v1 : i + n ≤ h 64 s := Int.not_lt.mp (fun z => absurd (lc_gt.mpr z) (by omega))
                    refine go_iload rfl rfl ?_
                    refine go_i2l rfl ?_
                    refine go_iload rfl rfl ?_
                    refine go_i2l rfl ?_
                    refine go_ladd rfl ?_
                    rw [pr_add (by unfold ab_lok; omega)]
                    refine go_aload_n rfl rfl ?_
                    refine go_getR rfl f_X7_13 rfl rfl ?_ -- sizes
                    refine go_iload_n rfl rfl ?_
                    refine go_iald rfl rfl (by omega) (by omega) ?_
                    refine go_i2l rfl ?_
                    refine go_lcmp rfl ?_
                    refine go_if_le rfl (tgt := 117) (by decide) (fun c108 => ?_) (fun c108 => ?_)
                    · have v2 : j + n ≤ h 64 t := Int.not_lt.mp (fun z => absurd (lc_gt.mpr z) (by omega))
                      refine go_iconst rfl ?_
                      refine go_istore rfl (by decide) rfl ?_
                      exact lp_X7_copy (h0 := h) (by omega) (by omega) (by omega) (by omega) (by omega) (fun h2 J => ⟨_, rfl, Or.inr ⟨⟨by omega, by omega⟩, Or.inr ⟨(fun z => by omega), Or.inr ⟨c53, Or.inr ⟨⟨by omega, by omega, by omega, v1, v2⟩, rfl, J⟩⟩⟩⟩⟩) 70 0 h (by omega) (by omega) (by omega) ⟨fun x x0 x1 => by omega, fun _ _ => rfl⟩
                    · refine go_aload_n rfl rfl ?_
                      refine go_iconst rfl ?_
                      refine go_cV1I (M' := m_X7_finds) rfl l_X7_86 k_X7_finds (s_X7_finds (by omega)) rfl rfl rfl rfl (by decide) (Nat.le_of_ble_eq_true rfl) (fun z113 h113 q113 => ?_) -- X7_finds
                      exact go_iret rfl (Or.inl rfl) ⟨_, rfl, Or.inr ⟨⟨by omega, by omega⟩, Or.inr ⟨(fun z => by omega), Or.inr ⟨c53, Or.inl ⟨fun z => absurd (lc_gt.mp (by omega)) (show ¬ h 64 t < j + n by have := z.2.2.2.2; omega), q113.2, q113.1⟩⟩⟩⟩⟩
          · refine go_aload_n rfl rfl ?_
            refine go_iconst rfl ?_
            refine go_cV1I (M' := m_X7_finds) rfl l_X7_86 k_X7_finds (s_X7_finds (by omega)) rfl rfl rfl rfl (by decide) (Nat.le_of_ble_eq_true rfl) (fun z58 h58 q58 => ?_) -- X7_finds
            exact go_iret rfl (Or.inl rfl) ⟨_, rfl, Or.inr ⟨⟨by omega, by omega⟩, Or.inr ⟨(fun z => by omega), Or.inl ⟨c53, q58.2, q58.1⟩⟩⟩⟩
        · refine go_aload_n rfl rfl ?_
          refine go_iconst rfl ?_
          refine go_cV1I (M' := m_X7_finds) rfl l_X7_86 k_X7_finds (s_X7_finds (by omega)) rfl rfl rfl rfl (by decide) (Nat.le_of_ble_eq_true rfl) (fun z37 h37 q37 => ?_) -- X7_finds
          exact go_iret rfl (Or.inl rfl) ⟨_, rfl, Or.inr ⟨⟨by omega, by omega⟩, Or.inl ⟨Or.inr (by omega), q37.2, q37.1⟩⟩⟩
    · refine go_bipush rfl ?_
      exact go_iret rfl (Or.inl rfl) ⟨_, rfl, Or.inl ⟨by have := rd_n0 c11; omega, rfl, rfl⟩⟩
theorem cp_k {h : ab_H} {k0 k1 : Nat} {i0 i1 n : Int} {k : Nat} (hk : k ≠ k1) : ab_cp h k0 i0 k1 i1 n k = h k := funext fun b => if_neg (fun z => hk z.1)
theorem op_copy {g : ab_G} {h : ab_H} {s i t j n : Int} (I : Inv h) : opI g 6 6 m_X6_copy m_X7_copy [a_I s, a_I i, a_I t, a_I j, a_I n] h := by
  have S : iv_S h := I.2.2.2.2.1
  refine (s_X6_copy S.z).mono (fun r h1 ⟨z, ez, P⟩ => ⟨z, ez, ?_⟩)
  have e : ∀ k, ¬ (k = 0 ∨ (58 ≤ k ∧ k < 62)) → h1 k = h k := fun k hk => by
    rcases P with ⟨-, -, rfl⟩ | ⟨st, P⟩
    · rfl
    · rcases P with ⟨-, -, rfl⟩ | ⟨-, P⟩
      · exact ab_hs_f (by omega)
      · rcases P with ⟨-, -, rfl⟩ | ⟨-, P⟩
        · exact ab_hs_f (by omega)
        · rcases P with ⟨-, -, rfl⟩ | ⟨-, -, rfl⟩
          · exact ab_hs_f (by omega)
          · exact cp_k (by omega)
  refine (s_X7_copy (by rw [e 63 (by decide), e 64 (by decide)]; exact S.w)).mono (fun r' h2 ⟨z', ez', P'⟩ => ⟨z', ez', ?_⟩)
  unfold mco_P mc_ok at P'
  rw [e 63 (by decide), e 64 (by decide)] at P'
  unfold cco_P cc_ok at P
  by_cases st : (0 ≤ s ∧ s < 4) ∧ 0 ≤ t ∧ t < 4
  case neg =>
    rcases P with ⟨-, x2, rfl⟩ | ⟨a, -⟩
    · rcases P' with ⟨-, y2, rfl⟩ | ⟨a, -⟩
      · exact ⟨by omega, I⟩
      · exact absurd a st
    · exact absurd a st
  have P := P.resolve_left (fun z => z.1 st)
  have P' := P'.resolve_left (fun z => z.1 st)
  have ws := S.y st.1
  have wt := S.y st.2
  obtain ⟨-, P⟩ := P
  obtain ⟨-, P'⟩ := P'
  rcases P with ⟨x1, x2, rfl⟩ | ⟨x1, P⟩
  · rcases P' with ⟨y1, y2, rfl⟩ | ⟨y1, -⟩
    · exact ⟨by omega, inv_find I⟩
    · omega
  · have ws := ws.resolve_left (fun z => x1 (Or.inl z.1))
    have wt := wt.resolve_left (fun z => x1 (Or.inr z.1))
    obtain ⟨s1, s2, s3, s4, s5⟩ := ws
    obtain ⟨t1, t2, t3, t4, t5⟩ := wt
    rw [s3, s4, t3, t4] at P'
    rcases P' with ⟨y1, -⟩ | ⟨-, P'⟩
    · omega
    rcases P with ⟨x3, x4, rfl⟩ | ⟨x3, P⟩
    · rcases P' with ⟨y3, y4, rfl⟩ | ⟨y3, -⟩
      · exact ⟨by omega, inv_find I⟩
      · exact absurd y3 x3
    · rcases P' with ⟨y3, -⟩ | ⟨-, P'⟩
      · exact absurd x3 y3
      rcases P with ⟨x5, x6, rfl⟩ | ⟨x5, x6, rfl⟩
      · rcases P' with ⟨y5, y6, rfl⟩ | ⟨y5, -⟩
        · exact ⟨by omega, inv_find I⟩
        · exact absurd y5 x5
      · rcases P' with ⟨y5, -⟩ | ⟨-, y6, m1, m2⟩
        · exact absurd x5 y5
        · obtain ⟨o1, o2, o3, o4, o5⟩ := x5
          have ek : ∀ k b, ¬ (k = 58 + t.toNat ∨ k = 66 ∨ (k = 65 ∧ 60 * t + j ≤ b ∧ b < 60 * t + j + n)) → h2 k b = h k b := fun k b hk => by
            rw [m2 k b (by omega), cp_k (by omega)]
          refine ⟨by omega, inv_sh I (fun k hk => funext fun b => ek k b (by omega)) (fun x x0 x1 => ?_)⟩
          by_cases y : x = t
          · subst y
            refine Or.inr ⟨?_, ?_, ?_, ?_, fun p p0 p1 => ?_⟩
            · rw [ek 33 x (by omega)]; exact t1
            · rw [ek 32 x (by omega)]; exact t2
            · rw [ek 63 x (by omega), ek 32 x (by omega)]; exact t3
            · rw [ek 64 x (by omega), ek 33 x (by omega)]; exact t4
            · rw [ek 33 x (by omega)] at p1
              rw [m2 (58 + x.toNat) p (by omega)]
              by_cases q : j ≤ p ∧ p < j + n
              · have z1 := m1 (p - j) (by omega) (by omega)
                rw [cp_k (by omega), show 60 * x + j + (p - j) = 60 * x + p by omega, show 60 * s + i + (p - j) = 60 * s + (i + (p - j)) by omega, s5 _ (by omega) (by omega)] at z1
                rw [z1]
                exact (if_pos ⟨rfl, q⟩).symm
              · rw [ek 65 _ (by omega), t5 p p0 p1]
                exact (if_neg (fun z => q z.2)).symm
          · exact (S x x0 x1).of (ek 32 x (by omega)) (ek 33 x (by omega)) (ek 63 x (by omega)) (ek 64 x (by omega)) (fun p p0 p1 => ek 65 _ (by omega)) (funext fun b => ek _ b (by omega))
