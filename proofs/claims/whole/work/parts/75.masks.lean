/-! the reference's answers over its rows -/
theorem MT_same {h0 h0' h : ab_H} (e : ∀ k, (1 ≤ k ∧ k ≤ 9) → h0' k = h0 k) (c : MT h0' h) : MT h0 h := by
  unfold MT TW TM at c
  rw [e 1 (by omega), tW_same e, tM_same e] at c
  exact c
theorem TW_pm {h : ab_H} (I : Inv h) : tb_pm (h 1 8) (TW h) := fun t _ _ => cr_W_p1 I.ro.1 63 t.toNat
def ho_I (B : Int → Int) (b i w : Int) : Prop := (w = -1 ∧ ∀ j, 0 ≤ j → j < i → ¬ B j = b) ∨ (0 ≤ w ∧ w < i ∧ B w = b)
theorem ho_t {B : Int → Int} {b i w : Int} (hi : 0 ≤ i) (h : B i = b) : ho_I B b (i + 1) i := Or.inr ⟨hi, by omega, h⟩
theorem ho_f {B : Int → Int} {b i w : Int} (I : ho_I B b i w) (h : ¬ B i = b) : ho_I B b (i + 1) w := by
  rcases I with ⟨a, c⟩ | ⟨a, c, d⟩
  · refine Or.inl ⟨a, fun j j0 j1 => ?_⟩
    by_cases e : j = i
    · subst e; exact h
    · exact c j j0 (by omega)
  · exact Or.inr ⟨a, by omega, d⟩
theorem ho_end {m : Int} {W : tb_W} {t b w : Int} (hP : tb_p1 m (W t).2.2) (I : ho_I (W t).2.2 b m w) : w = tb_H m W t b := by
  rcases I with ⟨a, c⟩ | ⟨a, c, d⟩
  · exact fs_eq (by omega) (Or.inl ⟨a, c⟩)
  · exact (tb_H_eq hP ⟨a, c⟩ d).symm
set_option maxHeartbeats 4000000 in
set_option maxRecDepth 100000 in
theorem lp_X7_holder {g : ab_G} {h : ab_H} {W : tb_W} {m b t : Int} {Q : Option ab_V → ab_H → Prop} (T : mtw m 63 W h) (ht : 0 ≤ t ∧ t ≤ 400) (hq : ∀ z, ho_I (W t).2.2 b m z → Q (some (a_I z)) h) : ∀ (f : Nat) (i w : Int), 0 ≤ i → i ≤ m → m - i < f → ho_I (W t).2.2 b i w → Go g (ab_rm 2, 0, 0) m_X7_holder Q 5 [some (a_R 62), some (a_I b), some (a_I t), some (a_I w), some (a_I i)] [] h := by
  obtain ⟨⟨e9, e18, hm, hw⟩, -⟩ := id T
  intro f
  induction f with
  | zero => intro i w h0i h1 hf; omega
  | succ f ih =>
    intro i w h0i h1 hf J
    refine go_iload rfl rfl ?_
    refine go_aload_n rfl rfl ?_
    refine go_getI rfl f_X7_110 rfl rfl rfl ?_ -- men
    refine go_icmp_ge rfl (tgt := 52) (by decide) (fun c11 => ?_) (fun c11 => ?_)
    · refine go_iload_n rfl rfl ?_
      exact go_iret rfl (Or.inl rfl) (hq _ (by rw [show i = m by omega] at J; exact J))
    · have bt := wk_all (show 0 ≤ i ∧ i < 6 by omega)
      refine go_aload_n rfl rfl ?_
      refine go_iload rfl rfl ?_
      refine go_cV1I (M' := m_X7_isThere) rfl l_X7_163 k_X7_isThere (s_X7_isThere (by omega) (by omega)) rfl rfl rfl rfl (by decide) (Nat.le_of_ble_eq_true rfl) (fun z17 h17 q17 => ?_) -- X7_isThere
      obtain ⟨rfl, rfl⟩ := q17
      refine go_if_eq rfl (tgt := 44) (by decide) (fun c20 => ?_) (fun c20 => ?_)
      · exact absurd (by rw [e18]; exact bt) (rd_n0 c20)
      · refine go_aload_n rfl rfl ?_
        refine go_getR rfl f_X7_52 rfl rfl ?_ -- bags
        refine go_bipush rfl ?_
        refine go_iload_n rfl rfl ?_
        refine go_imul rfl (by unfold ab_iok; omega) ?_
        refine go_iload rfl rfl ?_
        refine go_iadd rfl (by unfold ab_iok; omega) ?_
        refine go_iald rfl rfl (by omega) (by omega) ?_
        rw [(T.2 t i ht.1 ht.2 h0i (by omega) bt).2.2]
        refine go_iload_n rfl rfl ?_
        refine go_icmp_ne rfl (tgt := 44) (by decide) (fun c36 => ?_) (fun c36 => ?_)
        · refine go_iload_n rfl rfl ?_
          refine go_istore_n rfl (by decide) rfl ?_
          refine go_iinc rfl rfl (by decide) rfl (by unfold ab_iok; omega) ?_
          refine go_goto rfl (tgt := 5) (by decide) ?_
          exact ih (i + 1) _ (by omega) (by omega) (by omega) (ho_f J c36)
        · refine go_iload rfl rfl ?_
          refine go_goto rfl (tgt := 45) (by decide) ?_
          refine go_istore_n rfl (by decide) rfl ?_
          refine go_iinc rfl rfl (by decide) rfl (by unfold ab_iok; omega) ?_
          refine go_goto rfl (tgt := 5) (by decide) ?_
          exact ih (i + 1) _ (by omega) (by omega) (by omega) (ho_t (w := w) h0i c36)
set_option maxHeartbeats 4000000 in
set_option maxRecDepth 100000 in
theorem s_X7_holder {g : ab_G} {h : ab_H} {W : tb_W} {m b t : Int} (T : mtw m 63 W h) (ht : 0 ≤ t ∧ t ≤ 400) (hP : tb_p1 m (W t).2.2) : MethI g 2 m_X7_holder [a_R 62, a_I b, a_I t] h (fun z h' => h = h' ∧ z = tb_H m W t b) := by
  refine Meth.of_go k_X7_holder (Nat.le_of_ble_eq_true rfl) ?_
  show Go g _ m_X7_holder _ 0 [some (a_R 62), some (a_I b), some (a_I t), none, none] [] h
  refine go_iconst rfl ?_
  refine go_istore_n rfl (by decide) rfl ?_
  refine go_iconst rfl ?_
  refine go_istore rfl (by decide) rfl ?_
  exact lp_X7_holder T ht (fun z J => ⟨_, rfl, rfl, ho_end hP J⟩) 8 0 (-1) (by omega) T.1.2.2.1.1 (by have := T.1.2.2.1; omega) (Or.inl ⟨rfl, fun j j0 j1 => by omega⟩)
set_option maxHeartbeats 4000000 in
set_option maxRecDepth 100000 in
theorem s_X7_bagPlace {g : ab_G} {h : ab_H} {W : tb_W} {m b t : Int} (T : mtw m 63 W h) (ht : 0 ≤ t ∧ t ≤ 400) (hP : tb_p1 m (W t).2.2) (hb : 0 ≤ b ∧ b < m) : MethI g 3 m_X7_bagPlace [a_R 62, a_I b, a_I t] h (fun z h' => h = h' ∧ z = tb_bp m W t b) := by
  refine Meth.of_go k_X7_bagPlace (Nat.le_of_ble_eq_true rfl) ?_
  show Go g _ m_X7_bagPlace _ 0 [some (a_R 62), some (a_I b), some (a_I t)] [] h
  refine go_aload_n rfl rfl ?_
  refine go_getR rfl f_X7_46 rfl rfl ?_ -- places
  refine go_bipush rfl ?_
  refine go_iload_n rfl rfl ?_
  refine go_imul rfl (by unfold ab_iok; omega) ?_
  refine go_aload_n rfl rfl ?_
  refine go_iload_n rfl rfl ?_
  refine go_iload_n rfl rfl ?_
  refine go_cV2I (M' := m_X7_holder) rfl l_X7_202 k_X7_holder (s_X7_holder T ht hP) rfl rfl rfl rfl (by decide) (Nat.le_of_ble_eq_true rfl) (fun z11 h11 q11 => ?_) -- X7_holder
  obtain ⟨rfl, rfl⟩ := q11
  have y := (tb_H_in hP hb).1
  have hm := T.1.2.2.1
  refine go_iadd rfl (by unfold ab_iok; omega) ?_
  refine go_iald rfl rfl (by omega) (by omega) ?_
  exact go_iret rfl (Or.inl rfl) ⟨_, rfl, rfl, by rw [tb_bp_P hP hb]; exact (T.2 t _ ht.1 ht.2 y.1 y.2 (wk_all (by omega))).1⟩
set_option maxHeartbeats 4000000 in
set_option maxRecDepth 100000 in
theorem s_X7_manOf {g : ab_G} {h : ab_H} {W : tb_W} {m i t w : Int} (T : mtw m 63 W h) (ht : 0 ≤ t ∧ t ≤ 400) (hi : 0 ≤ i ∧ i < m) : MethI g 1 m_X7_manOf [a_R 62, a_I i, a_I t, a_I w] h (fun z h' => h = h' ∧ z = if w = 0 then (W t).1 i else if w = 1 then (W t).2.1 i else (W t).2.2 i) := by
  refine Meth.of_go k_X7_manOf (Nat.le_of_ble_eq_true rfl) ?_
  show Go g _ m_X7_manOf _ 0 [some (a_R 62), some (a_I i), some (a_I t), some (a_I w), none] [] h
  have hm := T.1.2.2.1
  refine go_bipush rfl ?_
  refine go_iload_n rfl rfl ?_
  refine go_imul rfl (by unfold ab_iok; omega) ?_
  refine go_iload_n rfl rfl ?_
  refine go_iadd rfl (by unfold ab_iok; omega) ?_
  refine go_istore rfl (by decide) rfl ?_
  refine go_iload_n rfl rfl ?_
  refine go_if_ne rfl (tgt := 22) (by decide) (fun c9 => ?_) (fun c9 => ?_)
  · refine go_iload_n rfl rfl ?_
    refine go_iconst rfl ?_
    refine go_icmp_ne rfl (tgt := 37) (by decide) (fun c24 => ?_) (fun c24 => ?_)
    · refine go_aload_n rfl rfl ?_
      refine go_getR rfl f_X7_52 rfl rfl ?_ -- bags
      refine go_iload rfl rfl ?_
      refine go_iald rfl rfl (by omega) (by omega) ?_
      exact go_iret rfl (Or.inl rfl) ⟨_, rfl, rfl, by rw [if_neg c9, if_neg c24]; exact (T.2 t i ht.1 ht.2 hi.1 hi.2 (wk_all (by omega))).2.2⟩
    · refine go_aload_n rfl rfl ?_
      refine go_getR rfl f_X7_49 rfl rfl ?_ -- facing
      refine go_iload rfl rfl ?_
      refine go_iald rfl rfl (by omega) (by omega) ?_
      refine go_goto rfl (tgt := 44) (by decide) ?_
      exact go_iret rfl (Or.inl rfl) ⟨_, rfl, rfl, by rw [if_neg c9, if_pos c24]; exact (T.2 t i ht.1 ht.2 hi.1 hi.2 (wk_all (by omega))).2.1⟩
  · refine go_aload_n rfl rfl ?_
    refine go_getR rfl f_X7_46 rfl rfl ?_ -- places
    refine go_iload rfl rfl ?_
    refine go_iald rfl rfl (by omega) (by omega) ?_
    refine go_goto rfl (tgt := 44) (by decide) ?_
    exact go_iret rfl (Or.inl rfl) ⟨_, rfl, rfl, by rw [if_pos c9]; exact (T.2 t i ht.1 ht.2 hi.1 hi.2 (wk_all (by omega))).1⟩
set_option maxHeartbeats 4000000 in
set_option maxRecDepth 100000 in
theorem lp_X7_metOf {g : ab_G} {h : ab_H} {M : Int → Int → Int → Prop} {m a b T : Int} {Q : Option ab_V → ab_H → Prop} (hm : m ≤ 6) (M1 : mtm m M h) (ha : 0 ≤ a ∧ a < m) (hb : 0 ≤ b ∧ b < m) (hT : 0 ≤ T ∧ T ≤ 400) (hq : ∀ z, z = wk_num (fun t => M t a b) (T + 1).toNat → Q (some (a_I z)) h) : ∀ (f : Nat) (t s : Int), 0 ≤ t → t ≤ T + 1 → T + 1 - t < f → s = wk_num (fun t => M t a b) t.toNat → Go g (ab_rm 1, 0, 0) m_X7_metOf Q 6 [some (a_R 62), some (a_I a), some (a_I b), some (a_I T), some (a_I s), some (a_I t)] [] h := by
  intro f
  induction f with
  | zero => intro t s h0t h1 hf; omega
  | succ f ih =>
    intro t s h0t h1 hf J
    have b1 := wn_in (q := fun t => M t a b) t.toNat
    rw [← J] at b1
    refine go_iload rfl rfl ?_
    refine go_iload_n rfl rfl ?_
    refine go_icmp_gt rfl (tgt := 48) (by decide) (fun c9 => ?_) (fun c9 => ?_)
    · refine go_iload rfl rfl ?_
      exact go_iret rfl (Or.inl rfl) (hq _ (by rw [show t = T + 1 by omega] at J; exact J))
    · refine go_iload rfl rfl ?_
      refine go_aload_n rfl rfl ?_
      refine go_getR rfl f_X7_55 rfl rfl ?_ -- meets
      refine go_bipush rfl ?_
      refine go_iload rfl rfl ?_
      refine go_imul rfl (by unfold ab_iok; omega) ?_
      refine go_bipush rfl ?_
      refine go_iload_n rfl rfl ?_
      refine go_imul rfl (by unfold ab_iok; omega) ?_
      refine go_iadd rfl (by unfold ab_iok; omega) ?_
      refine go_iload_n rfl rfl ?_
      refine go_iadd rfl (by unfold ab_iok; omega) ?_
      refine go_zald rfl rfl (by omega) (by omega) ?_
      rw [M1 t a b h0t (by omega) ha.1 ha.2 hb.1 (by omega)]
      refine go_if_eq rfl (tgt := 38) (by decide) (fun c31 => ?_) (fun c31 => ?_)
      · refine go_iconst rfl ?_
        refine go_iadd rfl (by unfold ab_iok; omega) ?_
        refine go_istore rfl (by decide) rfl ?_
        refine go_iinc rfl rfl (by decide) rfl (by unfold ab_iok; omega) ?_
        refine go_goto rfl (tgt := 6) (by decide) ?_
        exact ih (t + 1) _ (by omega) (by omega) (by omega) (by rw [wn_nx h0t, ← J, rd_f (rd_n0 c31)])
      · refine go_iconst rfl ?_
        refine go_goto rfl (tgt := 39) (by decide) ?_
        refine go_iadd rfl (by unfold ab_iok; omega) ?_
        refine go_istore rfl (by decide) rfl ?_
        refine go_iinc rfl rfl (by decide) rfl (by unfold ab_iok; omega) ?_
        refine go_goto rfl (tgt := 6) (by decide) ?_
        exact ih (t + 1) _ (by omega) (by omega) (by omega) (by rw [wn_nx h0t, ← J, rd_t (rd_n1 c31)])
set_option maxHeartbeats 4000000 in
set_option maxRecDepth 100000 in
theorem s_X7_metOf {g : ab_G} {h : ab_H} {M : Int → Int → Int → Prop} {m a b T : Int} (hm : m ≤ 6) (M1 : mtm m M h) (ha : 0 ≤ a ∧ a < m) (hb : 0 ≤ b ∧ b < m) (hT : 0 ≤ T ∧ T ≤ 400) : MethI g 1 m_X7_metOf [a_R 62, a_I a, a_I b, a_I T] h (fun z h' => h = h' ∧ z = wk_num (fun t => M t a b) (T + 1).toNat) := by
  refine Meth.of_go k_X7_metOf (Nat.le_of_ble_eq_true rfl) ?_
  show Go g _ m_X7_metOf _ 0 [some (a_R 62), some (a_I a), some (a_I b), some (a_I T), none, none] [] h
  refine go_iconst rfl ?_
  refine go_istore rfl (by decide) rfl ?_
  refine go_iconst rfl ?_
  refine go_istore rfl (by decide) rfl ?_
  exact lp_X7_metOf hm M1 ha hb hT (fun z e => ⟨_, rfl, rfl, e⟩) 500 0 0 (by omega) (by omega) (by omega) rfl
set_option maxHeartbeats 4000000 in
set_option maxRecDepth 100000 in
theorem lp_X7_carriedOf {g : ab_G} {h : ab_H} {W : tb_W} {m i b T0 : Int} {Q : Option ab_V → ab_H → Prop} (T : mtw m 63 W h) (hi : 0 ≤ i ∧ i < m) (hT : 0 ≤ T0 ∧ T0 ≤ 400) (hq : ∀ z, z = wk_num (fun t => (W t).2.2 i = b) T0.toNat → Q (some (a_I z)) h) : ∀ (f : Nat) (t s : Int), 0 ≤ t → t ≤ T0 → T0 - t < f → s = wk_num (fun t => (W t).2.2 i = b) t.toNat → Go g (ab_rm 1, 0, 0) m_X7_carriedOf Q 6 [some (a_R 62), some (a_I i), some (a_I b), some (a_I T0), some (a_I s), some (a_I t)] [] h := by
  obtain ⟨⟨e9, e18, hm, hw⟩, -⟩ := id T
  intro f
  induction f with
  | zero => intro t s h0t h1 hf; omega
  | succ f ih =>
    intro t s h0t h1 hf J
    have b1 := wn_in (q := fun t => (W t).2.2 i = b) t.toNat
    rw [← J] at b1
    refine go_iload rfl rfl ?_
    refine go_iload_n rfl rfl ?_
    refine go_icmp_ge rfl (tgt := 44) (by decide) (fun c9 => ?_) (fun c9 => ?_)
    · refine go_iload rfl rfl ?_
      exact go_iret rfl (Or.inl rfl) (hq _ (by rw [show t = T0 by omega] at J; exact J))
    · refine go_iload rfl rfl ?_
      refine go_aload_n rfl rfl ?_
      refine go_getR rfl f_X7_52 rfl rfl ?_ -- bags
      refine go_bipush rfl ?_
      refine go_iload rfl rfl ?_
      refine go_imul rfl (by unfold ab_iok; omega) ?_
      refine go_iload_n rfl rfl ?_
      refine go_iadd rfl (by unfold ab_iok; omega) ?_
      refine go_iald rfl rfl (by omega) (by omega) ?_
      rw [(T.2 t i (by omega) (by omega) hi.1 hi.2 (wk_all (by omega))).2.2]
      refine go_iload_n rfl rfl ?_
      refine go_icmp_ne rfl (tgt := 34) (by decide) (fun c27 => ?_) (fun c27 => ?_)
      · refine go_iconst rfl ?_
        refine go_iadd rfl (by unfold ab_iok; omega) ?_
        refine go_istore rfl (by decide) rfl ?_
        refine go_iinc rfl rfl (by decide) rfl (by unfold ab_iok; omega) ?_
        refine go_goto rfl (tgt := 6) (by decide) ?_
        exact ih (t + 1) _ (by omega) (by omega) (by omega) (by rw [wn_nx h0t, ← J, rd_f c27])
      · refine go_iconst rfl ?_
        refine go_goto rfl (tgt := 35) (by decide) ?_
        refine go_iadd rfl (by unfold ab_iok; omega) ?_
        refine go_istore rfl (by decide) rfl ?_
        refine go_iinc rfl rfl (by decide) rfl (by unfold ab_iok; omega) ?_
        refine go_goto rfl (tgt := 6) (by decide) ?_
        exact ih (t + 1) _ (by omega) (by omega) (by omega) (by rw [wn_nx h0t, ← J, rd_t c27])
set_option maxHeartbeats 4000000 in
set_option maxRecDepth 100000 in
theorem s_X7_carriedOf {g : ab_G} {h : ab_H} {W : tb_W} {m i b T0 : Int} (T : mtw m 63 W h) (hi : 0 ≤ i ∧ i < m) (hT : 0 ≤ T0 ∧ T0 ≤ 400) : MethI g 1 m_X7_carriedOf [a_R 62, a_I i, a_I b, a_I T0] h (fun z h' => h = h' ∧ z = wk_num (fun t => (W t).2.2 i = b) T0.toNat) := by
  refine Meth.of_go k_X7_carriedOf (Nat.le_of_ble_eq_true rfl) ?_
  show Go g _ m_X7_carriedOf _ 0 [some (a_R 62), some (a_I i), some (a_I b), some (a_I T0), none, none] [] h
  refine go_iconst rfl ?_
  refine go_istore rfl (by decide) rfl ?_
  refine go_iconst rfl ?_
  refine go_istore rfl (by decide) rfl ?_
  exact lp_X7_carriedOf T hi hT (fun z e => ⟨_, rfl, rfl, e⟩) 500 0 0 (by omega) (by omega) (by omega) rfl
set_option maxHeartbeats 4000000 in
set_option maxRecDepth 100000 in
theorem lp_X7_meetIn {g : ab_G} {h : ab_H} {M : Int → Int → Int → Prop} {m a T c : Int} {Q : Option ab_V → ab_H → Prop} (hm : 0 ≤ m ∧ m ≤ 6) (M1 : mtm m M h) (ha : 0 ≤ a ∧ a < m) (hT : 0 ≤ T ∧ T ≤ 400) (hc : 0 ≤ c ∧ c ≤ 100000) (K : ∀ s, s = c + sm (fun b => wk_num (fun t => M t a b) (T + 1).toNat) a.toNat → ∀ b : Int, Go g (ab_rm 2, 0, 0) m_X7_meetingsOf Q 38 [some (a_R 62), some (a_I T), some (a_I s), some (a_I a), some (a_I b)] [] h) : ∀ (f : Nat) (b s : Int), 0 ≤ b → b ≤ a → a - b < f → s = c + sm (fun b => wk_num (fun t => M t a b) (T + 1).toNat) b.toNat → Go g (ab_rm 2, 0, 0) m_X7_meetingsOf Q 15 [some (a_R 62), some (a_I T), some (a_I s), some (a_I a), some (a_I b)] [] h := by
  intro f
  induction f with
  | zero => intro b s h0b h1 hf; omega
  | succ f ih =>
    intro b s h0b h1 hf J
    have b1 := sm_in (f := fun b => wk_num (fun t => M t a b) (T + 1).toNat) (c := 500) b.toNat (fun j j0 j1 => by have := wn_in (q := fun t => M t a j) (T + 1).toNat; omega)
    refine go_iload rfl rfl ?_
    refine go_iload_n rfl rfl ?_
    refine go_icmp_ge rfl (tgt := 38) (by decide) (fun c18 => ?_) (fun c18 => ?_)
    · exact K s (by rw [show b = a by omega] at J; exact J) _
    · refine go_iload_n rfl rfl ?_
      refine go_aload_n rfl rfl ?_
      refine go_iload_n rfl rfl ?_
      refine go_iload rfl rfl ?_
      refine go_iload_n rfl rfl ?_
      refine go_cV3I (M' := m_X7_metOf) rfl l_X7_208 k_X7_metOf (s_X7_metOf hm.2 M1 ha (b := b) (by omega) hT) rfl rfl rfl rfl (by decide) (Nat.le_of_ble_eq_true rfl) (fun z27 h27 q27 => ?_) -- X7_metOf
      obtain ⟨rfl, rfl⟩ := q27
      have y := wn_in (q := fun t => M t a b) (T + 1).toNat
      refine go_iadd rfl (by unfold ab_iok; omega) ?_
      refine go_istore_n rfl (by decide) rfl ?_
      refine go_iinc rfl rfl (by decide) rfl (by unfold ab_iok; omega) ?_
      refine go_goto rfl (tgt := 15) (by decide) ?_
      exact ih (b + 1) _ (by omega) (by omega) (by omega) (by rw [sm_nx h0b, J]; omega)
set_option maxHeartbeats 4000000 in
set_option maxRecDepth 100000 in
theorem lp_X7_meetingsOf {g : ab_G} {h : ab_H} {M : Int → Int → Int → Prop} {m T : Int} {Q : Option ab_V → ab_H → Prop} (hm : 0 ≤ m ∧ m ≤ 6) (e9 : h 62 9 = m) (M1 : mtm m M h) (hT : 0 ≤ T ∧ T ≤ 400) (hq : ∀ z, z = sm (fun a => sm (fun b => wk_num (fun t => M t a b) (T + 1).toNat) a.toNat) m.toNat → Q (some (a_I z)) h) : ∀ (f : Nat) (a s : Int), 0 ≤ a → a ≤ m → m - a < f → s = sm (fun a => sm (fun b => wk_num (fun t => M t a b) (T + 1).toNat) a.toNat) a.toNat → ∀ v, Go g (ab_rm 2, 0, 0) m_X7_meetingsOf Q 4 [some (a_R 62), some (a_I T), some (a_I s), some (a_I a), v] [] h := by
  intro f
  induction f with
  | zero => intro a s h0a h1 hf; omega
  | succ f ih =>
    intro a s h0a h1 hf J v
    have b1 := sm_in (f := fun a => sm (fun b => wk_num (fun t => M t a b) (T + 1).toNat) a.toNat) (c := 3000) a.toNat (fun k k0 k1 => by
      have := sm_in (f := fun b => wk_num (fun t => M t k b) (T + 1).toNat) (c := 500) k.toNat (fun j j0 j1 => by have := wn_in (q := fun t => M t k j) (T + 1).toNat; omega)
      omega)
    rw [← J] at b1
    refine go_iload_n rfl rfl ?_
    refine go_aload_n rfl rfl ?_
    refine go_getI rfl f_X7_110 rfl rfl rfl ?_ -- men
    refine go_icmp_ge rfl (tgt := 44) (by decide) (fun c9 => ?_) (fun c9 => ?_)
    · refine go_iload_n rfl rfl ?_
      exact go_iret rfl (Or.inl rfl) (hq _ (by rw [show a = m by omega] at J; exact J))
    · refine go_iconst rfl ?_
      refine go_istore rfl (by decide) rfl ?_
      refine lp_X7_meetIn hm M1 (by omega) hT (c := s) (by omega) (fun s2 e2 b => ?_) 10 0 s (by omega) (by omega) (by omega) (by rw [show (0 : Int).toNat = 0 from rfl, sm]; omega)
      refine go_iinc rfl rfl (by decide) rfl (by unfold ab_iok; omega) ?_
      refine go_goto rfl (tgt := 4) (by decide) ?_
      exact ih (a + 1) _ (by omega) (by omega) (by omega) (by rw [sm_nx h0a, e2, J]) _
set_option maxHeartbeats 4000000 in
set_option maxRecDepth 100000 in
theorem s_X7_meetingsOf {g : ab_G} {h : ab_H} {M : Int → Int → Int → Prop} {m T : Int} (hm : 0 ≤ m ∧ m ≤ 6) (e9 : h 62 9 = m) (M1 : mtm m M h) (hT : 0 ≤ T ∧ T ≤ 400) : MethI g 2 m_X7_meetingsOf [a_R 62, a_I T] h (fun z h' => h = h' ∧ z = sm (fun a => sm (fun b => wk_num (fun t => M t a b) (T + 1).toNat) a.toNat) m.toNat) := by
  refine Meth.of_go k_X7_meetingsOf (Nat.le_of_ble_eq_true rfl) ?_
  show Go g _ m_X7_meetingsOf _ 0 [some (a_R 62), some (a_I T), none, none, none] [] h
  refine go_iconst rfl ?_
  refine go_istore_n rfl (by decide) rfl ?_
  refine go_iconst rfl ?_
  refine go_istore_n rfl (by decide) rfl ?_
  exact lp_X7_meetingsOf hm e9 M1 hT (fun z e => ⟨_, rfl, rfl, e⟩) 8 0 0 (by omega) (by omega) (by omega) rfl _
