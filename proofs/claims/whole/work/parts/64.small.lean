/-! letters told, sheets, minutes stood: small methods -/
def lt_ok (a b c d : Int) : Prop := (0 ≤ a ∧ a ≤ 40) ∧ (0 ≤ b ∧ b ≤ 199) ∧ (0 ≤ c ∧ c ≤ 40) ∧ -1 ≤ d ∧ d ≤ 400
set_option maxHeartbeats 4000000 in
set_option maxRecDepth 100000 in
theorem s_X1_mayBe {g : ab_G} {h : ab_H} {a b c d : Int}  : MethI g 1 m_X1_mayBe [a_R 24, a_I a, a_I b, a_I c, a_I d] h (fun z h' => h = h' ∧ z = rd_bool (lt_ok a b c d)) := by
  refine Meth.of_go k_X1_mayBe (Nat.le_of_ble_eq_true rfl) ?_
  show Go g _ m_X1_mayBe _ 0 [some (a_R 24), some (a_I a), some (a_I b), some (a_I c), some (a_I d)] [] h
  refine go_iload_n rfl rfl ?_
  refine go_if_lt rfl (tgt := 49) (by decide) (fun c1 => ?_) (fun c1 => ?_)
  · refine go_iconst rfl ?_
    exact go_iret rfl (Or.inr ⟨rfl, by omega⟩) ⟨_, rfl, rfl, (rd_f (fun z => by unfold lt_ok at z; omega)).symm⟩
  · refine go_iload_n rfl rfl ?_
    refine go_bipush rfl ?_
    refine go_icmp_gt rfl (tgt := 49) (by decide) (fun c7 => ?_) (fun c7 => ?_)
    · refine go_iconst rfl ?_
      exact go_iret rfl (Or.inr ⟨rfl, by omega⟩) ⟨_, rfl, rfl, (rd_f (fun z => by unfold lt_ok at z; omega)).symm⟩
    · refine go_iload_n rfl rfl ?_
      refine go_if_lt rfl (tgt := 49) (by decide) (fun c11 => ?_) (fun c11 => ?_)
      · refine go_iconst rfl ?_
        exact go_iret rfl (Or.inr ⟨rfl, by omega⟩) ⟨_, rfl, rfl, (rd_f (fun z => by unfold lt_ok at z; omega)).symm⟩
      · refine go_iload_n rfl rfl ?_
        refine go_sipush rfl ?_
        refine go_icmp_gt rfl (tgt := 49) (by decide) (fun c18 => ?_) (fun c18 => ?_)
        · refine go_iconst rfl ?_
          exact go_iret rfl (Or.inr ⟨rfl, by omega⟩) ⟨_, rfl, rfl, (rd_f (fun z => by unfold lt_ok at z; omega)).symm⟩
        · refine go_iload_n rfl rfl ?_
          refine go_if_lt rfl (tgt := 49) (by decide) (fun c22 => ?_) (fun c22 => ?_)
          · refine go_iconst rfl ?_
            exact go_iret rfl (Or.inr ⟨rfl, by omega⟩) ⟨_, rfl, rfl, (rd_f (fun z => by unfold lt_ok at z; omega)).symm⟩
          · refine go_iload_n rfl rfl ?_
            refine go_bipush rfl ?_
            refine go_icmp_gt rfl (tgt := 49) (by decide) (fun c28 => ?_) (fun c28 => ?_)
            · refine go_iconst rfl ?_
              exact go_iret rfl (Or.inr ⟨rfl, by omega⟩) ⟨_, rfl, rfl, (rd_f (fun z => by unfold lt_ok at z; omega)).symm⟩
            · refine go_iload rfl rfl ?_
              refine go_iconst rfl ?_
              refine go_icmp_lt rfl (tgt := 49) (by decide) (fun c34 => ?_) (fun c34 => ?_)
              · refine go_iconst rfl ?_
                exact go_iret rfl (Or.inr ⟨rfl, by omega⟩) ⟨_, rfl, rfl, (rd_f (fun z => by unfold lt_ok at z; omega)).symm⟩
              · refine go_iload rfl rfl ?_
                refine go_sipush rfl ?_
                refine go_icmp_gt rfl (tgt := 49) (by decide) (fun c42 => ?_) (fun c42 => ?_)
                · refine go_iconst rfl ?_
                  exact go_iret rfl (Or.inr ⟨rfl, by omega⟩) ⟨_, rfl, rfl, (rd_f (fun z => by unfold lt_ok at z; omega)).symm⟩
                · refine go_iconst rfl ?_
                  refine go_goto rfl (tgt := 50) (by decide) ?_
                  exact go_iret rfl (Or.inr ⟨rfl, by omega⟩) ⟨_, rfl, rfl, (rd_t (by unfold lt_ok; omega)).symm⟩
def ad_H (h : ab_H) (a b c d : Int) : ab_H := ab_hs (ab_hs (ab_hs (ab_hs (ab_hs h 25 (h 24 5) a) 26 (h 24 5) b) 27 (h 24 5) c) 28 (h 24 5) d) 24 5 (h 24 5 + 1)
set_option maxHeartbeats 4000000 in
set_option maxRecDepth 100000 in
theorem s_X1_add {g : ab_G} {h : ab_H} {a b c d : Int} (hs : 0 ≤ h 24 5) : MethV g 1 m_X1_add [a_R 24, a_I a, a_I b, a_I c, a_I d] h (fun h' => h' = if h 24 5 < 12 then ad_H h a b c d else h) := by
  refine Meth.of_go k_X1_add (Nat.le_of_ble_eq_true rfl) ?_
  show Go g _ m_X1_add _ 0 [some (a_R 24), some (a_I a), some (a_I b), some (a_I c), some (a_I d)] [] h
  refine go_aload_n rfl rfl ?_
  refine go_getI rfl f_X1_27 rfl rfl rfl ?_ -- size
  refine go_bipush rfl ?_
  refine go_icmp_ge rfl (tgt := 60) (by decide) (fun c6 => ?_) (fun c6 => ?_)
  · exact go_ret rfl rfl ⟨rfl, (if_neg (by omega)).symm⟩
  · refine go_aload_n rfl rfl ?_
    refine go_getR rfl f_X1_9 rfl rfl ?_ -- from
    refine go_aload_n rfl rfl ?_
    refine go_getI rfl f_X1_27 rfl rfl rfl ?_ -- size
    refine go_iload_n rfl rfl ?_
    refine go_iast rfl rfl (by omega) (by omega) ?_
    refine go_aload_n rfl rfl ?_
    refine go_getR rfl f_X1_15 rfl rfl ?_ -- minute
    refine go_aload_n rfl rfl ?_
    refine go_getI rfl f_X1_27 rfl rfl rfl ?_ -- size
    simp only [ab_hs_f, ne_eq, Nat.reduceEqDiff, not_false_eq_true]
    refine go_iload_n rfl rfl ?_
    refine go_iast rfl rfl (by omega) (by omega) ?_
    refine go_aload_n rfl rfl ?_
    refine go_getR rfl f_X1_18 rfl rfl ?_ -- to
    refine go_aload_n rfl rfl ?_
    refine go_getI rfl f_X1_27 rfl rfl rfl ?_ -- size
    simp only [ab_hs_f, ne_eq, Nat.reduceEqDiff, not_false_eq_true]
    refine go_iload_n rfl rfl ?_
    refine go_iast rfl rfl (by omega) (by omega) ?_
    refine go_aload_n rfl rfl ?_
    refine go_getR rfl f_X1_21 rfl rfl ?_ -- told
    refine go_aload_n rfl rfl ?_
    refine go_getI rfl f_X1_27 rfl rfl rfl ?_ -- size
    simp only [ab_hs_f, ne_eq, Nat.reduceEqDiff, not_false_eq_true]
    refine go_iload rfl rfl ?_
    refine go_iast rfl rfl (by omega) (by omega) ?_
    refine go_aload_n rfl rfl ?_
    refine go_dup rfl ?_
    refine go_getI rfl f_X1_27 rfl rfl rfl ?_ -- size
    simp only [ab_hs_f, ne_eq, Nat.reduceEqDiff, not_false_eq_true]
    refine go_iconst rfl ?_
    refine go_iadd rfl (by unfold ab_iok; omega) ?_
    refine go_putI rfl f_X1_27 rfl rfl rfl ?_ -- size
    exact go_ret rfl rfl ⟨rfl, (if_pos (by omega)).symm⟩
def fl_I (h0 : ab_H) (k : Nat) (v i : Int) (h : ab_H) : Prop := (∀ j, 0 ≤ j → j < i → h k j = v) ∧ ∀ c b, ¬ (c = k ∧ 0 ≤ b ∧ b < i) → h c b = h0 c b
theorem fl_nx {h0 h : ab_H} {k : Nat} {v i : Int} (hi : 0 ≤ i) (I : fl_I h0 k v i h) : fl_I h0 k v (i + 1) (ab_hs h k i v) := by
  refine ⟨fun j j0 j1 => ?_, fun c b hn => ?_⟩
  · by_cases e : j = i
    · subst e; exact ab_hs_eq
    · rw [ab_hs_i e]; exact I.1 j j0 (by omega)
  · rw [ab_hs_ne (by omega)]; exact I.2 c b (by omega)
set_option maxHeartbeats 4000000 in
set_option maxRecDepth 100000 in
theorem lp_J7_fill {g : ab_G} {h0 : ab_H} {k n : Nat} {v : Int} {Q : Option ab_V → ab_H → Prop} (hk : ab_kd k = some (.inr (0, n))) (hn : n ≤ 1000) (hq : ∀ h, fl_I h0 k v n h → Q none h) : ∀ (f : Nat) (i : Int) (h : ab_H), 0 ≤ i → i ≤ n → n - i < f → fl_I h0 k v i h → Go g (ab_rm 1, 0, 0) m_J7_fill_53178 Q 5 [some (a_R k), some (a_I v), some (a_I i), some (a_I n)] [] h := by
  intro f
  induction f with
  | zero => intro i h h0i h1 hf; omega
  | succ f ih =>
    intro i h h0i h1 hf I
    refine go_iload_n rfl rfl ?_
    refine go_iload_n rfl rfl ?_
    refine go_icmp_ge rfl (tgt := 20) (by decide) (fun c7 => ?_) (fun c7 => ?_)
    · exact go_ret rfl rfl (hq h (by rw [show i = (n : Int) by omega] at I; exact I))
    · refine go_aload_n rfl rfl ?_
      refine go_iload_n rfl rfl ?_
      refine go_iload_n rfl rfl ?_
      refine go_iast rfl hk (by omega) (by omega) ?_
      refine go_iinc rfl rfl (by decide) rfl (by unfold ab_iok; omega) ?_
      refine go_goto rfl (tgt := 5) (by decide) ?_
      exact ih (i + 1) _ (by omega) (by omega) (by omega) (fl_nx h0i I)
set_option maxHeartbeats 4000000 in
set_option maxRecDepth 100000 in
theorem s_J7_fill_53178 {g : ab_G} {h : ab_H} {k n : Nat} {v : Int} (hk : ab_kd k = some (.inr (0, n))) (hn : n ≤ 1000) : MethV g 1 m_J7_fill_53178 [a_R k, a_I v] h (fun h' => fl_I h k v n h') := by
  refine Meth.of_go k_J7_fill_53178 (Nat.le_of_ble_eq_true rfl) ?_
  show Go g _ m_J7_fill_53178 _ 0 [some (a_R k), some (a_I v), none, none] [] h
  refine go_iconst rfl ?_
  refine go_istore_n rfl (by decide) rfl ?_
  refine go_aload_n rfl rfl ?_
  refine go_alen rfl hk ?_
  refine go_istore_n rfl (by decide) rfl ?_
  exact lp_J7_fill hk hn (fun h2 F => ⟨rfl, F⟩) (n + 1) 0 h (by omega) (by omega) (by omega) ⟨fun j j0 j1 => by omega, fun _ _ _ => rfl⟩
set_option maxHeartbeats 4000000 in
set_option maxRecDepth 100000 in
theorem s_X3_isLost {g : ab_G} {h : ab_H} {s : Int} (hs : 0 ≤ s ∧ s < 4) : MethI g 1 m_X3_isLost [a_R 30, a_I s] h (fun z h' => h = h' ∧ z = rd_bool (h 33 s = -1)) := by
  refine Meth.of_go k_X3_isLost (Nat.le_of_ble_eq_true rfl) ?_
  show Go g _ m_X3_isLost _ 0 [some (a_R 30), some (a_I s)] [] h
  refine go_aload_n rfl rfl ?_
  refine go_getR rfl f_X3_20 rfl rfl ?_ -- size
  refine go_iload_n rfl rfl ?_
  refine go_iald rfl rfl (by omega) (by omega) ?_
  refine go_iconst rfl ?_
  refine go_icmp_ne rfl (tgt := 14) (by decide) (fun c7 => ?_) (fun c7 => ?_)
  · refine go_iconst rfl ?_
    exact go_iret rfl (Or.inr ⟨rfl, by omega⟩) ⟨_, rfl, rfl, (rd_f c7).symm⟩
  · refine go_iconst rfl ?_
    refine go_goto rfl (tgt := 15) (by decide) ?_
    exact go_iret rfl (Or.inr ⟨rfl, by omega⟩) ⟨_, rfl, rfl, (rd_t c7).symm⟩
def rw_H (h : ab_H) (s k n : Int) (h' : ab_H) : Prop := h' 32 s = k ∧ h' 33 s = n ∧ (∀ j, 0 ≤ j → j < 60 → h' (58 + s.toNat) j = 0) ∧ ∀ c b, ¬ ((c = 32 ∧ b = s) ∨ (c = 33 ∧ b = s) ∨ (c = 58 + s.toNat ∧ 0 ≤ b ∧ b < 60)) → h' c b = h c b
set_option maxHeartbeats 4000000 in
set_option maxRecDepth 100000 in
theorem s_X3_renew {g : ab_G} {h : ab_H} {s k n : Int} (hs : 0 ≤ s ∧ s < 4) : MethV g 2 m_X3_renew [a_R 30, a_I s, a_I k, a_I n] h (fun h' => rw_H h s k n h') := by
  refine Meth.of_go k_X3_renew (Nat.le_of_ble_eq_true rfl) ?_
  show Go g _ m_X3_renew _ 0 [some (a_R 30), some (a_I s), some (a_I k), some (a_I n)] [] h
  refine go_aload_n rfl rfl ?_
  refine go_getR rfl f_X3_11 rfl rfl ?_ -- items
  refine go_iload_n rfl rfl ?_
  refine go_aald rfl rfl (by omega) (by omega) (rf_31 s.toNat (by omega)) ?_
  refine go_iconst rfl ?_
  refine go_cS2V (M' := m_J7_fill_53178) rfl l_X3_23 k_J7_fill_53178 (s_J7_fill_53178 (n := 60) (kd_sh s.toNat (by omega)) (by omega)) rfl (by decide) (Nat.le_of_ble_eq_true rfl) (fun h7 q7 => ?_) -- J7_fill_53178
  refine go_aload_n rfl rfl ?_
  refine go_getR rfl f_X3_16 rfl rfl ?_ -- form
  refine go_iload_n rfl rfl ?_
  refine go_iload_n rfl rfl ?_
  refine go_iast rfl rfl (by omega) (by omega) ?_
  refine go_aload_n rfl rfl ?_
  refine go_getR rfl f_X3_20 rfl rfl ?_ -- size
  refine go_iload_n rfl rfl ?_
  refine go_iload_n rfl rfl ?_
  refine go_iast rfl rfl (by omega) (by omega) ?_
  exact go_ret rfl rfl ⟨rfl, ⟨by rw [ab_hs_f (by decide), ab_hs_eq], by rw [ab_hs_eq], fun j j0 j1 => by rw [ab_hs_f (by omega), ab_hs_f (by omega)]; exact q7.1 j j0 j1, fun c b hn => by rw [ab_hs_ne (by omega), ab_hs_ne (by omega)]; exact q7.2 c b (by omega)⟩⟩
set_option maxHeartbeats 4000000 in
set_option maxRecDepth 100000 in
theorem s_X3_drop {g : ab_G} {h : ab_H} {s : Int} (hs : 0 ≤ s ∧ s < 4) : MethV g 1 m_X3_drop [a_R 30, a_I s] h (fun h' => h' = ab_hs h 33 s (-1)) := by
  refine Meth.of_go k_X3_drop (Nat.le_of_ble_eq_true rfl) ?_
  show Go g _ m_X3_drop _ 0 [some (a_R 30), some (a_I s)] [] h
  refine go_aload_n rfl rfl ?_
  refine go_getR rfl f_X3_20 rfl rfl ?_ -- size
  refine go_iload_n rfl rfl ?_
  refine go_iconst rfl ?_
  refine go_iast rfl rfl (by omega) (by omega) ?_
  exact go_ret rfl rfl ⟨rfl, rfl⟩
def wi_n (sz fm k i : Int) : Int := if sz = -1 then 1 else if fm ≠ k then 3 else if i < 0 ∨ sz ≤ i then 2 else 0
set_option maxHeartbeats 4000000 in
set_option maxRecDepth 100000 in
theorem s_X3_wrongItem {g : ab_G} {h : ab_H} {s k i : Int} (hs : 0 ≤ s ∧ s < 4) : MethI g 2 m_X3_wrongItem [a_R 30, a_I s, a_I k, a_I i] h (fun z h' => h = h' ∧ z = wi_n (h 33 s) (h 32 s) k i) := by
  refine Meth.of_go k_X3_wrongItem (Nat.le_of_ble_eq_true rfl) ?_
  show Go g _ m_X3_wrongItem _ 0 [some (a_R 30), some (a_I s), some (a_I k), some (a_I i)] [] h
  refine go_aload_n rfl rfl ?_
  refine go_iload_n rfl rfl ?_
  refine go_cV1I (M' := m_X3_isLost) rfl l_X3_29 k_X3_isLost (s_X3_isLost hs) rfl rfl rfl rfl (by decide) (Nat.le_of_ble_eq_true rfl) (fun z2 h2 q2 => ?_) -- X3_isLost
  obtain ⟨rfl, rfl⟩ := q2
  refine go_if_eq rfl (tgt := 10) (by decide) (fun c5 => ?_) (fun c5 => ?_)
  · refine go_aload_n rfl rfl ?_
    refine go_getR rfl f_X3_16 rfl rfl ?_ -- form
    refine go_iload_n rfl rfl ?_
    refine go_iald rfl rfl (by omega) (by omega) ?_
    refine go_iload_n rfl rfl ?_
    refine go_icmp_eq rfl (tgt := 22) (by decide) (fun c17 => ?_) (fun c17 => ?_)
    · refine go_iload_n rfl rfl ?_
      refine go_if_lt rfl (tgt := 36) (by decide) (fun c23 => ?_) (fun c23 => ?_)
      · refine go_iconst rfl ?_
        refine go_goto rfl (tgt := 41) (by decide) ?_
        exact go_iret rfl (Or.inl rfl) ⟨_, rfl, rfl, by unfold wi_n; rw [if_neg (rd_n0 c5), if_neg (fun z => z c17), if_pos (Or.inl c23)]⟩
      · refine go_iload_n rfl rfl ?_
        refine go_aload_n rfl rfl ?_
        refine go_getR rfl f_X3_20 rfl rfl ?_ -- size
        refine go_iload_n rfl rfl ?_
        refine go_iald rfl rfl (by omega) (by omega) ?_
        refine go_icmp_lt rfl (tgt := 40) (by decide) (fun c33 => ?_) (fun c33 => ?_)
        · refine go_iconst rfl ?_
          exact go_iret rfl (Or.inl rfl) ⟨_, rfl, rfl, by unfold wi_n; rw [if_neg (rd_n0 c5), if_neg (fun z => z c17), if_neg (by omega)]⟩
        · refine go_iconst rfl ?_
          refine go_goto rfl (tgt := 41) (by decide) ?_
          exact go_iret rfl (Or.inl rfl) ⟨_, rfl, rfl, by unfold wi_n; rw [if_neg (rd_n0 c5), if_neg (fun z => z c17), if_pos (Or.inr (by omega))]⟩
    · refine go_iconst rfl ?_
      exact go_iret rfl (Or.inl rfl) ⟨_, rfl, rfl, by unfold wi_n; rw [if_neg (rd_n0 c5), if_pos c17]⟩
  · refine go_iconst rfl ?_
    exact go_iret rfl (Or.inl rfl) ⟨_, rfl, rfl, by unfold wi_n; rw [if_pos (rd_n1 c5)]⟩
set_option maxHeartbeats 4000000 in
set_option maxRecDepth 100000 in
theorem s_X3_hasRun {g : ab_G} {h : ab_H} {s i n : Int} (hs : 0 ≤ s ∧ s < 4) (hz : -1 ≤ h 33 s ∧ h 33 s ≤ 60) : MethI g 1 m_X3_hasRun [a_R 30, a_I s, a_I i, a_I n] h (fun z h' => h = h' ∧ z = rd_bool (0 ≤ i ∧ 0 ≤ n ∧ i + n ≤ h 33 s)) := by
  refine Meth.of_go k_X3_hasRun (Nat.le_of_ble_eq_true rfl) ?_
  show Go g _ m_X3_hasRun _ 0 [some (a_R 30), some (a_I s), some (a_I i), some (a_I n)] [] h
  refine go_iload_n rfl rfl ?_
  refine go_if_lt rfl (tgt := 34) (by decide) (fun c1 => ?_) (fun c1 => ?_)
  · refine go_iconst rfl ?_
    exact go_iret rfl (Or.inr ⟨rfl, by omega⟩) ⟨_, rfl, rfl, (rd_f (by omega)).symm⟩
  · refine go_iload_n rfl rfl ?_
    refine go_if_lt rfl (tgt := 34) (by decide) (fun c5 => ?_) (fun c5 => ?_)
    · refine go_iconst rfl ?_
      exact go_iret rfl (Or.inr ⟨rfl, by omega⟩) ⟨_, rfl, rfl, (rd_f (by omega)).symm⟩
    · refine go_iload_n rfl rfl ?_
      refine go_aload_n rfl rfl ?_
      refine go_getR rfl f_X3_20 rfl rfl ?_ -- size
      refine go_iload_n rfl rfl ?_
      refine go_iald rfl rfl (by omega) (by omega) ?_
      refine go_icmp_gt rfl (tgt := 34) (by decide) (fun c15 => ?_) (fun c15 => ?_)
      · refine go_iconst rfl ?_
        exact go_iret rfl (Or.inr ⟨rfl, by omega⟩) ⟨_, rfl, rfl, (rd_f (by omega)).symm⟩
      · refine go_iload_n rfl rfl ?_
        refine go_aload_n rfl rfl ?_
        refine go_getR rfl f_X3_20 rfl rfl ?_ -- size
        refine go_iload_n rfl rfl ?_
        refine go_iald rfl rfl (by omega) (by omega) ?_
        refine go_iload_n rfl rfl ?_
        refine go_isub rfl (by unfold ab_iok; omega) ?_
        refine go_icmp_gt rfl (tgt := 34) (by decide) (fun c27 => ?_) (fun c27 => ?_)
        · refine go_iconst rfl ?_
          exact go_iret rfl (Or.inr ⟨rfl, by omega⟩) ⟨_, rfl, rfl, (rd_f (by omega)).symm⟩
        · refine go_iconst rfl ?_
          refine go_goto rfl (tgt := 35) (by decide) ?_
          exact go_iret rfl (Or.inr ⟨rfl, by omega⟩) ⟨_, rfl, rfl, (rd_t (by omega)).symm⟩
def cut (f v : Int) : Int := if f = 0 then ab_i2b v else if f = 1 then ab_i2s v else v
set_option maxHeartbeats 4000000 in
set_option maxRecDepth 100000 in
theorem s_X3_put {g : ab_G} {h : ab_H} {s i v : Int} (hs : 0 ≤ s ∧ s < 4) (hi : 0 ≤ i ∧ i < 60) : MethV g 1 m_X3_put [a_R 30, a_I s, a_I i, a_I v] h (fun h' => h' = ab_hs h (58 + s.toNat) i (cut (h 32 s) v)) := by
  refine Meth.of_go k_X3_put (Nat.le_of_ble_eq_true rfl) ?_
  show Go g _ m_X3_put _ 0 [some (a_R 30), some (a_I s), some (a_I i), some (a_I v)] [] h
  refine go_aload_n rfl rfl ?_
  refine go_getR rfl f_X3_16 rfl rfl ?_ -- form
  refine go_iload_n rfl rfl ?_
  refine go_iald rfl rfl (by omega) (by omega) ?_
  refine go_if_ne rfl (tgt := 22) (by decide) (fun c6 => ?_) (fun c6 => ?_)
  · refine go_aload_n rfl rfl ?_
    refine go_getR rfl f_X3_16 rfl rfl ?_ -- form
    refine go_iload_n rfl rfl ?_
    refine go_iald rfl rfl (by omega) (by omega) ?_
    refine go_iconst rfl ?_
    refine go_icmp_ne rfl (tgt := 45) (by decide) (fun c29 => ?_) (fun c29 => ?_)
    · refine go_aload_n rfl rfl ?_
      refine go_getR rfl f_X3_11 rfl rfl ?_ -- items
      refine go_iload_n rfl rfl ?_
      refine go_aald rfl rfl (by omega) (by omega) (rf_31 s.toNat (by omega)) ?_
      refine go_iload_n rfl rfl ?_
      refine go_iload_n rfl rfl ?_
      refine go_iast rfl (kd_sh s.toNat (by omega)) (by omega) (by omega) ?_
      exact go_ret rfl rfl ⟨rfl, by unfold cut; rw [if_neg c6, if_neg c29]⟩
    · refine go_aload_n rfl rfl ?_
      refine go_getR rfl f_X3_11 rfl rfl ?_ -- items
      refine go_iload_n rfl rfl ?_
      refine go_aald rfl rfl (by omega) (by omega) (rf_31 s.toNat (by omega)) ?_
      refine go_iload_n rfl rfl ?_
      refine go_iload_n rfl rfl ?_
      refine go_i2s rfl ?_
      refine go_iast rfl (kd_sh s.toNat (by omega)) (by omega) (by omega) ?_
      refine go_goto rfl (tgt := 54) (by decide) ?_
      exact go_ret rfl rfl ⟨rfl, by unfold cut; rw [if_neg c6, if_pos c29]⟩
  · refine go_aload_n rfl rfl ?_
    refine go_getR rfl f_X3_11 rfl rfl ?_ -- items
    refine go_iload_n rfl rfl ?_
    refine go_aald rfl rfl (by omega) (by omega) (rf_31 s.toNat (by omega)) ?_
    refine go_iload_n rfl rfl ?_
    refine go_iload_n rfl rfl ?_
    refine go_i2b rfl ?_
    refine go_iast rfl (kd_sh s.toNat (by omega)) (by omega) (by omega) ?_
    refine go_goto rfl (tgt := 54) (by decide) ?_
    exact go_ret rfl rfl ⟨rfl, by unfold cut; rw [if_pos c6]⟩
def sm (f : Int → Int) : Nat → Int
  | 0 => 0
  | k + 1 => sm f k + f k
theorem sm_nx {f : Int → Int} {i : Int} (hi : 0 ≤ i) : sm f (i + 1).toNat = sm f i.toNat + f i := by
  rw [show (i + 1).toNat = i.toNat + 1 by omega, sm, Int.toNat_of_nonneg hi]
theorem sm_in {f : Int → Int} {c : Int} : ∀ (k : Nat), (∀ j : Int, 0 ≤ j → j < k → 0 ≤ f j ∧ f j ≤ c) → 0 ≤ sm f k ∧ sm f k ≤ c * k
  | 0, _ => by simp [sm]
  | k + 1, h => by
    have a := sm_in k (fun j j0 j1 => h j j0 (by omega))
    have b := h k (by omega) (by omega)
    rw [sm]
    have e : c * ((k + 1 : Nat) : Int) = c * k + c := by rw [Int.natCast_add, Int.mul_add]; simp
    omega
set_option maxHeartbeats 4000000 in
set_option maxRecDepth 100000 in
theorem lp_X4_minutesStood {g : ab_G} {h : ab_H} {m : Int} {Q : Option ab_V → ab_H → Prop} (hm : 0 ≤ m ∧ m ≤ 6) (hs : ∀ i, 0 ≤ i → i < 6 → 0 ≤ h 9 i ∧ h 9 i ≤ 99) (hq : ∀ z, z = sm (h 9) m.toNat → Q (some (a_I z)) h) : ∀ (f : Nat) (i s : Int), 0 ≤ i → i ≤ m → m - i < f → s = sm (h 9) i.toNat → Go g (ab_rm 1, 0, 0) m_X4_minutesStood Q 4 [some (a_R 7), some (a_I m), some (a_I s), some (a_I i)] [] h := by
  intro f
  induction f with
  | zero => intro i s h0i h1 hf; omega
  | succ f ih =>
    intro i s h0i h1 hf I
    have b1 := sm_in (f := h 9) (c := 99) i.toNat (fun j j0 j1 => hs j j0 (by omega))
    rw [← I] at b1
    have b2 := hs i h0i
    refine go_iload_n rfl rfl ?_
    refine go_iload_n rfl rfl ?_
    refine go_icmp_ge rfl (tgt := 30) (by decide) (fun c6 => ?_) (fun c6 => ?_)
    · refine go_iload_n rfl rfl ?_
      exact go_iret rfl (Or.inl rfl) (hq _ (by rw [show i = m by omega] at I; exact I))
    · refine go_iload_n rfl rfl ?_
      refine go_bipush rfl ?_
      refine go_icmp_ge rfl (tgt := 30) (by decide) (fun c12 => ?_) (fun c12 => ?_)
      · refine go_iload_n rfl rfl ?_
        exact absurd c12 (by omega)
      · refine go_iload_n rfl rfl ?_
        refine go_aload_n rfl rfl ?_
        refine go_getR rfl f_X4_15 rfl rfl ?_ -- standMany
        refine go_iload_n rfl rfl ?_
        refine go_iald rfl rfl (by omega) (by omega) ?_
        refine go_iadd rfl (by unfold ab_iok; omega) ?_
        refine go_istore_n rfl (by decide) rfl ?_
        refine go_iinc rfl rfl (by decide) rfl (by unfold ab_iok; omega) ?_
        refine go_goto rfl (tgt := 4) (by decide) ?_
        exact ih (i + 1) _ (by omega) (by omega) (by omega) (by rw [sm_nx h0i, ← I])
set_option maxHeartbeats 4000000 in
set_option maxRecDepth 100000 in
theorem s_X4_minutesStood {g : ab_G} {h : ab_H} {m : Int} (hm : 0 ≤ m ∧ m ≤ 6) (hs : ∀ i, 0 ≤ i → i < 6 → 0 ≤ h 9 i ∧ h 9 i ≤ 99) : MethI g 1 m_X4_minutesStood [a_R 7, a_I m] h (fun z h' => h = h' ∧ z = sm (h 9) m.toNat) := by
  refine Meth.of_go k_X4_minutesStood (Nat.le_of_ble_eq_true rfl) ?_
  show Go g _ m_X4_minutesStood _ 0 [some (a_R 7), some (a_I m), none, none] [] h
  refine go_iconst rfl ?_
  refine go_istore_n rfl (by decide) rfl ?_
  refine go_iconst rfl ?_
  refine go_istore_n rfl (by decide) rfl ?_
  exact lp_X4_minutesStood hm hs (fun z F => ⟨_, rfl, rfl, F⟩) 8 0 0 (by omega) (by omega) (by omega) rfl
