/-! write -/
theorem w_mn1 : Cond.code Lib.Math.min.name Lib.Math.min.code 2 (some .int) ∈ ab_tb := ab_t3 (i := 155) rfl rfl
theorem w_mn2 : Cond.initialized "java/lang/Math" ∈ ab_tb := ab_t1 (i := 13) rfl rfl
def w_isM (w : Cond) : Bool := match w with
  | .methodLinkNest _ 257 _ _ => false
  | _ => true
theorem w_mn3 : ∀ w ∈ ab_nw, w_isM w = true := by decide +kernel
theorem w_mn4 : ∀ host, Cond.methodLinkNest "PostmenMeet" 257 Lib.Math.min.name host ∉ ab_nw := fun host q => by
  have := w_mn3 _ q
  cases this
def wr_I (h0 : ab_H) (s : Int) (f : Int → Int) (a : Int) (h : ab_H) : Prop := (∀ x, 0 ≤ x → x < a → h (58 + s.toNat) x = f x) ∧ ∀ c b, ¬ (c = 58 + s.toNat ∧ 0 ≤ b ∧ b < a) → h c b = h0 c b
theorem wr_nx {h0 h : ab_H} {s a v : Int} {f : Int → Int} (ha : 0 ≤ a) (I : wr_I h0 s f a h) (e : v = f a) : wr_I h0 s f (a + 1) (ab_hs h (58 + s.toNat) a v) := by
  refine ⟨fun x x0 x1 => ?_, fun c b hc => by rw [ab_hs_ne (by omega)]; exact I.2 c b (by omega)⟩
  by_cases y : x = a
  · subst y; rw [ab_hs_eq]; exact e
  · rw [ab_hs_i y]; exact I.1 x x0 (by omega)
def mw_I (h0 : ab_H) (s : Int) (f : Int → Int) (a : Int) (h : ab_H) : Prop := (∀ x, 0 ≤ x → x < a → h 65 (60 * s + x) = f x) ∧ ∀ c b, ¬ (c = 65 ∧ 60 * s ≤ b ∧ b < 60 * s + a) → h c b = h0 c b
theorem mw_nx {h0 h : ab_H} {s a v : Int} {f : Int → Int} (ha : 0 ≤ a) (I : mw_I h0 s f a h) (e : v = f a) : mw_I h0 s f (a + 1) (ab_hs h 65 (60 * s + a) v) := by
  refine ⟨fun x x0 x1 => ?_, fun c b hc => by rw [ab_hs_ne (by omega)]; exact I.2 c b (by omega)⟩
  by_cases y : x = a
  · subst y; rw [ab_hs_eq]; exact e
  · rw [ab_hs_i (by omega)]; exact I.1 x x0 (by omega)
noncomputable def wr_f (h : ab_H) (b t s : Int) (x : Int) : Int := cut (h 32 s) (tb_bp (h 1 8) (TW h) (t + x) b)
def wr_k (sz t : Int) : Int := if 401 - t < sz then 401 - t else sz
def cwr_P (h : ab_H) (b t s z : Int) (h' : ab_H) : Prop := (¬ ((0 ≤ b ∧ b < h 1 8) ∧ (0 ≤ t ∧ t ≤ 400) ∧ 0 ≤ s ∧ s < 4) ∧ z = -2 ∧ h' = h) ∨ (((0 ≤ b ∧ b < h 1 8) ∧ (0 ≤ t ∧ t ≤ 400) ∧ 0 ≤ s ∧ s < 4) ∧ ((h 33 s = -1 ∧ z = -11 ∧ h' = ab_hs h 0 7 1) ∨ (¬ h 33 s = -1 ∧ z = wr_k (h 33 s) t ∧ ∃ h1, CF h h1 ∧ Inv h1 ∧ wr_I h1 s (wr_f h b t s) z h')))
set_option maxHeartbeats 4000000 in
set_option maxRecDepth 100000 in
theorem lp_X6_write {g : ab_G} {h0 : ab_H} {W : tb_W} {m b t s k : Int} {f : Int → Int} {Q : Option ab_V → ab_H → Prop} (hs : 0 ≤ s ∧ s < 4) (C : ct m W h0) (ht : 0 ≤ t ∧ t + k ≤ 401) (hk : k ≤ 60) (hf : ∀ x, 0 ≤ x → x < k → cut (h0 32 s) (tb_bp m W (t + x) b) = f x) (hq : ∀ h, wr_I h0 s f k h → Q (some (a_I k)) h) : ∀ (n : Nat) (a : Int) (h : ab_H), 0 ≤ a → a ≤ k → k - a < n → wr_I h0 s f a h → Go g (ab_rm 6, 0, 0) m_X6_write Q 70 [some (a_R 0), some (a_I b), some (a_I t), some (a_I s), some (a_I k), some (a_I a)] [] h := by
  have Cx : ∀ h {a}, wr_I h0 s f a h → ct m W h := fun h a J => ⟨by rw [J.2 18 5 (by omega)]; exact C.1, C.2.1, fun t i t0 t1 i0 i1 => by have := C.2.1; rw [J.2 (34 + i.toNat) t (by omega), J.2 (40 + i.toNat) t (by omega), J.2 (46 + i.toNat) t (by omega)]; exact C.2.2 t i t0 t1 i0 i1⟩
  intro n
  induction n with
  | zero => intro a h h0a h1 hn; omega
  | succ n ih =>
    intro a h h0a h1 hn J
    refine go_iload rfl rfl ?_
    refine go_iload rfl rfl ?_
    refine go_icmp_ge rfl (tgt := 105) (by decide) (fun c74 => ?_) (fun c74 => ?_)
    · refine go_iload rfl rfl ?_
      exact go_iret rfl (Or.inl rfl) (hq h (by rw [show a = k by omega] at J; exact J))
    · refine go_aload_n rfl rfl ?_
      refine go_getR rfl f_X6_47 rfl rfl ?_ -- sheets
      refine go_iload_n rfl rfl ?_
      refine go_iload rfl rfl ?_
      refine go_aload_n rfl rfl ?_
      refine go_getR rfl f_X6_33 rfl rfl ?_ -- course
      refine go_iload_n rfl rfl ?_
      refine go_iload_n rfl rfl ?_
      refine go_iload rfl rfl ?_
      refine go_iadd rfl (by unfold ab_iok; omega) ?_
      refine go_cV2I (M' := m_X0_bagPlace) rfl l_X6_119 k_X0_bagPlace (s_X0_bagPlace (Cx h J) (t := t + a) (b := b) (by omega)) rfl rfl rfl rfl (by decide) (Nat.le_of_ble_eq_true rfl) (fun z93 h93 q93 => ?_) -- X0_bagPlace
      obtain ⟨rfl, rfl⟩ := q93
      refine go_cV3V (M' := m_X3_put) rfl l_X6_241 k_X3_put (s_X3_put hs (i := a) (by omega)) rfl rfl rfl rfl (by decide) (Nat.le_of_ble_eq_true rfl) (fun h96 q96 => ?_) -- X3_put
      subst q96
      refine go_iinc rfl rfl (by decide) rfl (by unfold ab_iok; omega) ?_
      refine go_goto rfl (tgt := 70) (by decide) ?_
      exact ih (a + 1) _ (by omega) (by omega) (by omega) (wr_nx h0a J (by rw [show h 32 s = h0 32 s from J.2 32 s (by omega)]; exact hf a h0a (by omega)))
set_option maxHeartbeats 4000000 in
set_option maxRecDepth 100000 in
theorem s_X6_write {g : ab_G} {h : ab_H} {b t s : Int} (I : Inv h) (hz : ∀ s, 0 ≤ s → s < 4 → -1 ≤ h 33 s ∧ h 33 s ≤ 60) : MethI g 6 m_X6_write [a_R 0, a_I b, a_I t, a_I s] h (fun z h' => cwr_P h b t s z h') := by
  refine Meth.of_go k_X6_write (Nat.le_of_ble_eq_true rfl) ?_
  show Go g _ m_X6_write _ 0 [some (a_R 0), some (a_I b), some (a_I t), some (a_I s), none, none] [] h
  refine go_aload_n rfl rfl ?_
  refine go_iload_n rfl rfl ?_
  refine go_cV1I (M' := m_X6_isMan) rfl l_X6_72 k_X6_isMan (s_X6_isMan) rfl rfl rfl rfl (by decide) (Nat.le_of_ble_eq_true rfl) (fun z2 h2 q2 => ?_) -- X6_isMan
  obtain ⟨rfl, rfl⟩ := q2
  refine go_if_eq rfl (tgt := 22) (by decide) (fun c5 => ?_) (fun c5 => ?_)
  · refine go_bipush rfl ?_
    exact go_iret rfl (Or.inl rfl) ⟨_, rfl, Or.inl ⟨fun z => rd_n0 c5 z.1, rfl, rfl⟩⟩
  · refine go_iload_n rfl rfl ?_
    refine go_cS1I (M' := m_X6_isTime) rfl l_X6_104 k_X6_isTime (s_X6_isTime) rfl (by decide) (Nat.le_of_ble_eq_true rfl) (fun z9 h9 q9 => ?_) -- X6_isTime
    obtain ⟨rfl, rfl⟩ := q9
    refine go_if_eq rfl (tgt := 22) (by decide) (fun c12 => ?_) (fun c12 => ?_)
    · refine go_bipush rfl ?_
      exact go_iret rfl (Or.inl rfl) ⟨_, rfl, Or.inl ⟨fun z => rd_n0 c12 z.2.1, rfl, rfl⟩⟩
    · refine go_iload_n rfl rfl ?_
      refine go_cS1I (M' := m_X6_isSheet) rfl l_X6_195 k_X6_isSheet (s_X6_isSheet) rfl (by decide) (Nat.le_of_ble_eq_true rfl) (fun z16 h16 q16 => ?_) -- X6_isSheet
      obtain ⟨rfl, rfl⟩ := q16
      refine go_if_ne rfl (tgt := 25) (by decide) (fun c19 => ?_) (fun c19 => ?_)
      · have y1 := rd_n1 c5
        have y2 := rd_n1 c12
        have y3 := rd_n1 c19
        have zs := hz s y3.1 y3.2
        refine go_aload_n rfl rfl ?_
        refine go_getR rfl f_X6_47 rfl rfl ?_ -- sheets
        refine go_iload_n rfl rfl ?_
        refine go_cV1I (M' := m_X3_isLost) rfl l_X6_198 k_X3_isLost (s_X3_isLost y3) rfl rfl rfl rfl (by decide) (Nat.le_of_ble_eq_true rfl) (fun z30 h30 q30 => ?_) -- X3_isLost
        obtain ⟨rfl, rfl⟩ := q30
        refine go_if_eq rfl (tgt := 42) (by decide) (fun c33 => ?_) (fun c33 => ?_)
        · have y4 := rd_n0 c33
          refine go_aload_n rfl rfl ?_
          refine go_cV0V (M' := m_X6_refresh) rfl l_X6_107 k_X6_refresh (j_refresh I) rfl rfl rfl rfl (by decide) (Nat.le_of_ble_eq_true rfl) (fun h43 q43 => ?_) -- X6_refresh
          obtain ⟨F1, I1, T1⟩ := q43
          refine go_aload_n rfl rfl ?_
          refine go_getR rfl f_X6_47 rfl rfl ?_ -- sheets
          refine go_getR rfl f_X6_207 rfl rfl ?_ -- size
          refine go_iload_n rfl rfl ?_
          refine go_iald rfl rfl (by omega) (by omega) ?_
          rw [F1.1 33 (by decide)]
          refine go_sipush rfl ?_
          refine go_iload_n rfl rfl ?_
          refine go_isub rfl (by unfold ab_iok; omega) ?_
          refine go_iconst rfl ?_
          refine go_iadd rfl (by unfold ab_iok; omega) ?_
          refine go_mmin rfl l_X6_257 ⟨Nat.le_of_ble_eq_true rfl, Nat.le_of_ble_eq_true rfl, Nat.le_refl _, Nat.le_refl _⟩ w_mn1 w_mn2 w_mn4 ?_
          have ek : (if 400 - t + 1 < h 33 s then 400 - t + 1 else h 33 s) = wr_k (h 33 s) t := by unfold wr_k; rw [show 400 - t + 1 = 401 - t by omega]
          have bk : wr_k (h 33 s) t ≤ 60 ∧ 0 ≤ wr_k (h 33 s) t ∧ t + wr_k (h 33 s) t ≤ 401 := by unfold wr_k; split <;> omega
          rw [ek]
          refine go_istore rfl (by decide) rfl ?_
          refine go_iconst rfl ?_
          refine go_istore rfl (by decide) rfl ?_
          exact lp_X6_write y3 T1.1 (by omega) (by omega) (fun x x0 x1 => by rw [F1.1 32 (by decide)]; rfl) (fun h2 J => ⟨_, rfl, Or.inr ⟨⟨y1, y2, y3⟩, Or.inr ⟨y4, rfl, _, F1, I1, J⟩⟩⟩) 70 0 _ (by omega) (by omega) (by omega) ⟨fun x x0 x1 => by omega, fun _ _ _ => rfl⟩
        · refine go_aload_n rfl rfl ?_
          refine go_iconst rfl ?_
          refine go_cV1I (M' := m_X6_find) rfl l_X6_201 k_X6_find (s_X6_find (by omega)) rfl rfl rfl rfl (by decide) (Nat.le_of_ble_eq_true rfl) (fun z38 h38 q38 => ?_) -- X6_find
          exact go_iret rfl (Or.inl rfl) ⟨_, rfl, Or.inr ⟨⟨y1, y2, y3⟩, Or.inl ⟨rd_n1 c33, q38.2, q38.1⟩⟩⟩
      · refine go_bipush rfl ?_
        exact go_iret rfl (Or.inl rfl) ⟨_, rfl, Or.inl ⟨fun z => rd_n0 c19 z.2.2, rfl, rfl⟩⟩
def mwr_P (h : ab_H) (b t s z : Int) (h' : ab_H) : Prop := ∃ h1, MF h h1 ∧ ((¬ ((0 ≤ b ∧ b < h 1 8) ∧ (0 ≤ t ∧ t ≤ 400) ∧ 0 ≤ s ∧ s < 4) ∧ z = -2 ∧ h' = h1) ∨ (((0 ≤ b ∧ b < h 1 8) ∧ (0 ≤ t ∧ t ≤ 400) ∧ 0 ≤ s ∧ s < 4) ∧ ((h 63 s < 0 ∧ z = -11 ∧ h' = ab_hs h1 62 4 1) ∨ (0 ≤ h 63 s ∧ z = wr_k (h 64 s) t ∧ mw_I h1 s (fun x => cut (h 63 s) (tb_bp (h 1 8) (TW h) (t + x) b)) z h'))))
set_option maxHeartbeats 4000000 in
set_option maxRecDepth 100000 in
theorem lp_X7_write {g : ab_G} {h0 : ab_H} {W : tb_W} {m b t s k : Int} {f : Int → Int} {Q : Option ab_V → ab_H → Prop} (hs : 0 ≤ s ∧ s < 4) (T : mtw m 63 W h0) (hP : tb_pm m W) (hb : 0 ≤ b ∧ b < m) (ht : 0 ≤ t ∧ t + k ≤ 401) (hk : k ≤ 60) (hf : ∀ x, 0 ≤ x → x < k → cut (h0 63 s) (tb_bp m W (t + x) b) = f x) (hq : ∀ h, mw_I h0 s f k h → Q (some (a_I k)) h) : ∀ (n : Nat) (a : Int) (h : ab_H), 0 ≤ a → a ≤ k → k - a < n → mw_I h0 s f a h → Go g (ab_rm 8, 0, 0) m_X7_write Q 77 [some (a_R 62), some (a_I b), some (a_I t), some (a_I s), some (a_I k), some (a_I a)] [] h := by
  have Tx : ∀ h {a}, mw_I h0 s f a h → mtw m 63 W h := fun h a J => ⟨⟨by rw [J.2 62 9 (by omega)]; exact T.1.1, by rw [J.2 62 18 (by omega)]; exact T.1.2.1, T.1.2.2⟩, fun t i t0 t1 i0 i1 i2 => by rw [J.2 75 _ (by omega), J.2 76 _ (by omega), J.2 77 _ (by omega)]; exact T.2 t i t0 t1 i0 i1 i2⟩
  intro n
  induction n with
  | zero => intro a h h0a h1 hn; omega
  | succ n ih =>
    intro a h h0a h1 hn J
    refine go_iload rfl rfl ?_
    refine go_iload rfl rfl ?_
    refine go_icmp_ge rfl (tgt := 120) (by decide) (fun c81 => ?_) (fun c81 => ?_)
    · refine go_iload rfl rfl ?_
      exact go_iret rfl (Or.inl rfl) (hq h (by rw [show a = k by omega] at J; exact J))
    · refine go_aload_n rfl rfl ?_
      refine go_getR rfl f_X7_16 rfl rfl ?_ -- items
      refine go_bipush rfl ?_
      refine go_iload_n rfl rfl ?_
      refine go_imul rfl (by unfold ab_iok; omega) ?_
      refine go_iload rfl rfl ?_
      refine go_iadd rfl (by unfold ab_iok; omega) ?_
      refine go_aload_n rfl rfl ?_
      refine go_getR rfl f_X7_7 rfl rfl ?_ -- forms
      refine go_iload_n rfl rfl ?_
      refine go_iald rfl rfl (by omega) (by omega) ?_
      refine go_aload_n rfl rfl ?_
      refine go_iload_n rfl rfl ?_
      refine go_iload_n rfl rfl ?_
      refine go_iload rfl rfl ?_
      refine go_iadd rfl (by unfold ab_iok; omega) ?_
      refine go_cV2I (M' := m_X7_bagPlace) rfl l_X7_205 k_X7_bagPlace (s_X7_bagPlace (Tx h J) (t := t + a) (b := b) (by omega) (hP (t + a) (by omega) (by omega)) hb) rfl rfl rfl rfl (by decide) (Nat.le_of_ble_eq_true rfl) (fun z107 h107 q107 => ?_) -- X7_bagPlace
      obtain ⟨rfl, rfl⟩ := q107
      refine go_cS2I (M' := m_X7_cut) rfl l_X7_94 k_X7_cut (s_X7_cut) rfl (by decide) (Nat.le_of_ble_eq_true rfl) (fun z110 h110 q110 => ?_) -- X7_cut
      obtain ⟨rfl, rfl⟩ := q110
      refine go_iast rfl rfl (by omega) (by omega) ?_
      refine go_iinc rfl rfl (by decide) rfl (by unfold ab_iok; omega) ?_
      refine go_goto rfl (tgt := 77) (by decide) ?_
      exact ih (a + 1) _ (by omega) (by omega) (by omega) (mw_nx h0a J (by rw [show h 63 s = h0 63 s from J.2 63 s (by omega)]; exact hf a h0a (by omega)))
set_option maxHeartbeats 4000000 in
set_option maxRecDepth 100000 in
theorem s_X7_write {g : ab_G} {h : ab_H} {b t s : Int} (I : InN h) (hz : ∀ s, 0 ≤ s → s < 4 → 0 ≤ h 63 s → 0 ≤ h 64 s ∧ h 64 s ≤ 60) : MethI g 8 m_X7_write [a_R 62, a_I b, a_I t, a_I s] h (fun z h' => mwr_P h b t s z h') := by
  refine Meth.of_go k_X7_write (Nat.le_of_ble_eq_true rfl) ?_
  show Go g _ m_X7_write _ 0 [some (a_R 62), some (a_I b), some (a_I t), some (a_I s), none, none] [] h
  have r1 := I.ro.1
  refine go_aload_n rfl rfl ?_
  refine go_iload_n rfl rfl ?_
  refine go_cV1I (M' := m_X7_isMan) rfl l_X7_143 k_X7_isMan (n_isMan I) rfl rfl rfl rfl (by decide) (Nat.le_of_ble_eq_true rfl) (fun z2 h2 q2 => ?_) -- X7_isMan
  obtain ⟨y1, F1, R1, I1⟩ := q2
  refine go_if_eq rfl (tgt := 22) (by decide) (fun c5 => ?_) (fun c5 => ?_)
  · refine go_bipush rfl ?_
    exact go_iret rfl (Or.inl rfl) ⟨_, rfl, h2, F1.mf, Or.inl ⟨fun z => rd_n0 (y1 ▸ c5) z.1, rfl, rfl⟩⟩
  · have x1 := rd_n1 (y1 ▸ c5)
    refine go_iload_n rfl rfl ?_
    refine go_cS1I (M' := m_X7_isTime) rfl l_X7_193 k_X7_isTime (s_X7_isTime) rfl (by decide) (Nat.le_of_ble_eq_true rfl) (fun z9 h9 q9 => ?_) -- X7_isTime
    obtain ⟨rfl, rfl⟩ := q9
    refine go_if_eq rfl (tgt := 22) (by decide) (fun c12 => ?_) (fun c12 => ?_)
    · refine go_bipush rfl ?_
      exact go_iret rfl (Or.inl rfl) ⟨_, rfl, h2, F1.mf, Or.inl ⟨fun z => rd_n0 c12 z.2.1, rfl, rfl⟩⟩
    · have x2 := rd_n1 c12
      refine go_iload_n rfl rfl ?_
      refine go_cS1I (M' := m_X7_isSheet) rfl l_X7_80 k_X7_isSheet (s_X7_isSheet) rfl (by decide) (Nat.le_of_ble_eq_true rfl) (fun z16 h16 q16 => ?_) -- X7_isSheet
      obtain ⟨rfl, rfl⟩ := q16
      refine go_if_ne rfl (tgt := 25) (by decide) (fun c19 => ?_) (fun c19 => ?_)
      · have x3 := rd_n1 c19
        have f63 : h2 63 s = h 63 s := by rw [F1.1 63 (by decide)]
        refine go_aload_n rfl rfl ?_
        refine go_getR rfl f_X7_7 rfl rfl ?_ -- forms
        refine go_iload_n rfl rfl ?_
        refine go_iald rfl rfl (by omega) (by omega) ?_
        refine go_if_ge rfl (tgt := 40) (by decide) (fun c31 => ?_) (fun c31 => ?_)
        · have zs := hz s (by omega) (by omega) (by omega)
          have bk : wr_k (h 64 s) t ≤ 60 ∧ 0 ≤ wr_k (h 64 s) t ∧ t + wr_k (h 64 s) t ≤ 401 := by unfold wr_k; split <;> omega
          refine go_aload_n rfl rfl ?_
          refine go_cV0V (M' := m_X7_find) rfl l_X7_196 k_X7_find (n_find I1) rfl rfl rfl rfl (by decide) (Nat.le_of_ble_eq_true rfl) (fun h41 q41 => ?_) -- X7_find
          obtain ⟨F2, T2, I2⟩ := q41
          have T2 := MT_same F1.mf.k9 T2
          have e63 : h41 63 s = h 63 s := by rw [F2.1 63 (by decide), F1.1 63 (by decide)]
          have e64 : h41 64 s = h 64 s := by rw [F2.1 64 (by decide), F1.1 64 (by decide)]
          refine go_aload_n rfl rfl ?_
          refine go_getR rfl f_X7_13 rfl rfl ?_ -- sizes
          refine go_iload_n rfl rfl ?_
          refine go_iald rfl rfl (by omega) (by omega) ?_
          refine go_sipush rfl ?_
          refine go_iload_n rfl rfl ?_
          refine go_isub rfl (by unfold ab_iok; omega) ?_
          refine go_icmp_ge rfl (tgt := 67) (by decide) (fun c55 => ?_) (fun c55 => ?_)
          · refine go_sipush rfl ?_
            refine go_iload_n rfl rfl ?_
            refine go_isub rfl (by unfold ab_iok; omega) ?_
            have ek : 401 - t = wr_k (h 64 s) t := by unfold wr_k; split <;> omega
            rw [ek]
            refine go_istore rfl (by decide) rfl ?_
            refine go_iconst rfl ?_
            refine go_istore rfl (by decide) rfl ?_
            exact lp_X7_write (h0 := h41) (s := s) (t := t) (b := b) (k := wr_k (h 64 s) t) (f := fun x => cut (h 63 s) (tb_bp (h 1 8) (TW h) (t + x) b)) (by omega) T2.1 (fun t _ _ => cr_W_p1 I.ro.1 63 t.toNat) (by omega) (by omega) (by omega) (fun x x0 x1 => by rw [e63]) (fun h2 J => ⟨_, rfl, h41, F1.mf.trans F2, Or.inr ⟨by omega, Or.inr ⟨by omega, rfl, J⟩⟩⟩) 70 0 _ (by omega) (by omega) (by omega) ⟨fun x x0 x1 => by omega, fun _ _ _ => rfl⟩
          · refine go_aload_n rfl rfl ?_
            refine go_getR rfl f_X7_13 rfl rfl ?_ -- sizes
            refine go_iload_n rfl rfl ?_
            refine go_iald rfl rfl (by omega) (by omega) ?_
            refine go_goto rfl (tgt := 72) (by decide) ?_
            have ek : h41 64 s = wr_k (h 64 s) t := by unfold wr_k; rw [e64, if_neg (by omega)]
            rw [ek]
            refine go_istore rfl (by decide) rfl ?_
            refine go_iconst rfl ?_
            refine go_istore rfl (by decide) rfl ?_
            exact lp_X7_write (h0 := h41) (s := s) (t := t) (b := b) (k := wr_k (h 64 s) t) (f := fun x => cut (h 63 s) (tb_bp (h 1 8) (TW h) (t + x) b)) (by omega) T2.1 (fun t _ _ => cr_W_p1 I.ro.1 63 t.toNat) (by omega) (by omega) (by omega) (fun x x0 x1 => by rw [e63]) (fun h2 J => ⟨_, rfl, h41, F1.mf.trans F2, Or.inr ⟨by omega, Or.inr ⟨by omega, rfl, J⟩⟩⟩) 70 0 _ (by omega) (by omega) (by omega) ⟨fun x x0 x1 => by omega, fun _ _ _ => rfl⟩
        · refine go_aload_n rfl rfl ?_
          refine go_iconst rfl ?_
          refine go_cV1I (M' := m_X7_finds) rfl l_X7_86 k_X7_finds (s_X7_finds (by omega)) rfl rfl rfl rfl (by decide) (Nat.le_of_ble_eq_true rfl) (fun z36 h36 q36 => ?_) -- X7_finds
          exact go_iret rfl (Or.inl rfl) ⟨_, rfl, h2, F1.mf, Or.inr ⟨by omega, Or.inl ⟨by omega, q36.2, q36.1⟩⟩⟩
      · refine go_bipush rfl ?_
        exact go_iret rfl (Or.inl rfl) ⟨_, rfl, h2, F1.mf, Or.inl ⟨fun z => rd_n0 c19 (by omega), rfl, rfl⟩⟩
def hx (h1 h2 : ab_H) (k : Nat) : ab_H := fun a b => if a = k then h1 a b else h2 a b
theorem hx_k {h1 h2 : ab_H} {k : Nat} : hx h1 h2 k k = h1 k := funext fun b => if_pos rfl
theorem hx_n {h1 h2 : ab_H} {k a : Nat} (h : a ≠ k) : hx h1 h2 k a = h2 a := funext fun b => if_neg h
theorem op_write {g : ab_G} {h : ab_H} {b t s : Int} (I : Inv h) : opI g 6 8 m_X6_write m_X7_write [a_I b, a_I t, a_I s] h := by
  have S : iv_S h := I.2.2.2.2.1
  refine (s_X6_write I S.z).mono (fun r h1 ⟨z, ez, P⟩ => ⟨z, ez, ?_⟩)
  have II : ∃ h0, Inv h0 ∧ CF h h0 ∧ ∀ k, ¬ (k = 0 ∨ (58 ≤ k ∧ k < 62)) → h1 k = h0 k := by
    rcases P with ⟨-, -, rfl⟩ | ⟨st, P⟩
    · exact ⟨h1, I, CF.refl _, fun _ _ => rfl⟩
    · rcases P with ⟨-, -, rfl⟩ | ⟨-, -, h0, F, I0, J⟩
      · exact ⟨h, I, CF.refl _, fun k hk => ab_hs_f (by omega)⟩
      · exact ⟨h0, I0, F, fun k hk => funext fun b => J.2 k b (by omega)⟩
  obtain ⟨h0, I0, F0, E0⟩ := II
  have S0 : iv_S h0 := I0.2.2.2.2.1
  have N1 : InN h1 := ⟨I0.1.of (E0 1 (by decide)) (E0 2 (by decide)) (by rw [E0 62 (by decide)]) (E0 67 (by decide)), I0.2.1.of (fun k k0 k1 => E0 k (by omega)), I0.2.2.1.of (E0 7 (by decide)) (E0 8 (by decide)) (E0 9 (by decide)) (E0 72 (by decide)) (E0 73 (by decide)) (E0 74 (by decide)), trivial⟩
  have Eh : ∀ k, (k = 1 ∨ k = 32 ∨ k = 33 ∨ k = 63 ∨ k = 64) → h1 k = h k := fun k hk => (E0 k (by omega)).trans (F0.1 k (by omega))
  have E9 : ∀ k, (1 ≤ k ∧ k ≤ 9) → h1 k = h k := fun k hk => (E0 k (by omega)).trans (F0.1 k (by omega))
  refine (s_X7_write N1 (by rw [Eh 63 (by decide), Eh 64 (by decide)]; exact S.w)).mono (fun r' h2 ⟨z', ez', h3, F3, P'⟩ => ⟨z', ez', ?_⟩)
  unfold TW at P'
  rw [tW_same E9, Eh 1 (by decide), Eh 63 (by decide), Eh 64 (by decide)] at P'
  rcases P with ⟨x1, x2, rfl⟩ | ⟨x1, P⟩
  · rcases P' with ⟨y1, y2, rfl⟩ | ⟨y1, -⟩
    · exact ⟨by omega, I.mf F3⟩
    · exact absurd y1 x1
  · rcases P' with ⟨y1, -⟩ | ⟨-, P'⟩
    · exact absurd x1 y1
    have w := S.y x1.2.2
    rcases P with ⟨x3, x4, rfl⟩ | ⟨x3, x4, h0', F0', I0', J⟩
    · rcases P' with ⟨y3, y4, rfl⟩ | ⟨y3, -⟩
      · refine ⟨by omega, ?_⟩
        have e := inv_find (v := 1) I
        have : Inv (ab_hs (ab_hs h 0 7 1) 62 4 1) := e
        refine this.mf ⟨fun k hk => ?_, fun b hb => ?_⟩
        · rw [ab_hs_f (by omega), ab_hs_f (by omega), F3.1 k (by omega)]
        · by_cases q : b = 4
          · subst q; rw [ab_hs_eq, ab_hs_eq]
          · rw [ab_hs_i q, ab_hs_i q, F3.2 b hb]
      · rcases w with w | w <;> omega
    · have w := w.resolve_left (fun z => x3 z.1)
      obtain ⟨w1, w2, w3, w4, w5⟩ := w
      rcases P' with ⟨y3, -⟩ | ⟨-, y4, K⟩
      · omega
      · rw [w4] at y4
        rw [w3] at K
        have ez : z' = z := by rw [y4, x4]
        subst ez
        refine ⟨rfl, ?_⟩
        have S0 : iv_S h0' := I0'.2.2.2.2.1
        have s4 := x1.2.2
        have hz : z' ≤ 60 := by rw [x4]; unfold wr_k; split <;> omega
        -- the class's sheet as it was
        have I4 : Inv (hx h0' h3 (58 + s.toNat)) := I0'.mf ⟨fun k hk => by
          by_cases q : k = 58 + s.toNat
          · subst q; exact hx_k
          · rw [hx_n q, F3.1 k (by omega)]; exact funext fun b => J.2 k b (by omega), fun b hb => by rw [hx_n (by omega), F3.2 b hb]; exact J.2 62 b (by omega)⟩
        have ek : ∀ k b, ¬ (k = 58 + s.toNat ∨ (k = 65 ∧ 60 * s ≤ b ∧ b < 60 * s + z')) → h2 k b = hx h0' h3 (58 + s.toNat) k b := fun k b hk => by
          rw [K.2 k b (by omega), hx_n (by omega)]
        refine inv_sh I4 (fun k hk => funext fun b => ek k b (by omega)) (fun x x0 xx1 => ?_)
        have S4 : iv_S (hx h0' h3 (58 + s.toNat)) := I4.2.2.2.2.1
        have g33 : h3 33 = h 33 := by rw [F3.1 33 (by decide)]; exact Eh 33 (by decide)
        by_cases y : x = s
        · subst y
          have v : _ ∨ _ := S4 x x0 xx1
          rw [hx_n (a := 33) (by omega), hx_n (a := 63) (by omega), hx_n (a := 32) (by omega), hx_n (a := 64) (by omega), hx_n (a := 65) (by omega), hx_k, g33] at v
          have v := v.resolve_left (fun z => x3 z.1)
          obtain ⟨v1, v2, v3, v4, v5⟩ := v
          refine Or.inr ⟨?_, ?_, ?_, ?_, fun p p0 p1 => ?_⟩
          · rw [ek 33 x (by omega), hx_n (by omega), g33]; exact v1
          · rw [ek 32 x (by omega), hx_n (by omega)]; exact v2
          · rw [ek 63 x (by omega), ek 32 x (by omega), hx_n (by omega), hx_n (by omega)]; exact v3
          · rw [ek 64 x (by omega), ek 33 x (by omega), hx_n (by omega), hx_n (by omega), g33]; exact v4
          · rw [ek 33 x (by omega), hx_n (by omega), g33] at p1
            rw [K.2 (58 + x.toNat) p (by omega), F3.1 (58 + x.toNat) (by omega)]
            by_cases q : p < z'
            · rw [K.1 p p0 q, J.1 p p0 q]; rfl
            · rw [K.2 65 _ (by omega), J.2 (58 + x.toNat) p (by omega)]; exact v5 p p0 p1
        · exact (S4 x x0 xx1).of (ek 32 x (by omega)) (ek 33 x (by omega)) (ek 63 x (by omega)) (ek 64 x (by omega)) (fun p p0 p1 => ek 65 _ (by omega)) (funext fun b => ek _ b (by omega))
