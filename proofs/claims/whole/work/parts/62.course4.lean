/-! the course asked: its rows are a table -/
def ct (m : Int) (W : tb_W) (h : ab_H) : Prop := h 18 5 = m ∧ (0 ≤ m ∧ m ≤ 6) ∧ ∀ t i, 0 ≤ t → t ≤ 400 → 0 ≤ i → i < m → h (34 + i.toNat) t = (W t).1 i ∧ h (40 + i.toNat) t = (W t).2.1 i ∧ h (46 + i.toNat) t = (W t).2.2 i
set_option maxHeartbeats 4000000 in
set_option maxRecDepth 100000 in
theorem lp_X0_holder {g : ab_G} {h : ab_H} {W : tb_W} {m b t : Int} {Q : Option ab_V → ab_H → Prop} (C : ct m W h) (ht : 0 ≤ t ∧ t ≤ 400) (hq : ∀ z, Fst 0 m (fun i => (W t).2.2 i = b) z → Q (some (a_I z)) h) : ∀ (f : Nat) (i : Int), 0 ≤ i → i ≤ m → m - i < f → (∀ j, 0 ≤ j → j < i → ¬ (fun i => (W t).2.2 i = b) j) → Go g (ab_rm 1, 0, 0) m_X0_holder Q 2 [some (a_R 18), some (a_I b), some (a_I t), some (a_I i)] [] h := by
  have e5 := C.1
  have e6 := C.2.1
  intro f
  induction f with
  | zero => intro i h0i h1 hf; omega
  | succ f ih =>
    intro i h0i h1 hf hI
    refine go_iload_n rfl rfl ?_
    refine go_aload_n rfl rfl ?_
    refine go_getI rfl f_X0_29 rfl rfl rfl ?_ -- men
    refine go_icmp_ge rfl (tgt := 30) (by decide) (fun c7 => ?_) (fun c7 => ?_)
    · refine go_iconst rfl ?_
      exact go_iret rfl (Or.inl rfl) (hq _ (Or.inl ⟨rfl, fun j j0 j1 => hI j j0 (by omega)⟩))
    · refine go_aload_n rfl rfl ?_
      refine go_getR rfl f_X0_19 rfl rfl ?_ -- load
      refine go_iload_n rfl rfl ?_
      refine go_aald rfl rfl (by omega) (by omega) (rf_21 i.toNat (by omega)) ?_
      refine go_iload_n rfl rfl ?_
      refine go_iald rfl (kd_bg (by omega)) (by omega) (by omega) ?_
      rw [(C.2.2 t i ht.1 ht.2 h0i (by omega)).2.2]
      refine go_iload_n rfl rfl ?_
      refine go_icmp_ne rfl (tgt := 24) (by decide) (fun c19 => ?_) (fun c19 => ?_)
      · refine go_iinc rfl rfl (by decide) rfl (by unfold ab_iok; omega) ?_
        refine go_goto rfl (tgt := 2) (by decide) ?_
        exact ih (i + 1) (by omega) (by omega) (by omega) (fun j j0 j1 => by
          by_cases e : j = i
          · subst e; exact c19
          · exact hI j j0 (by omega))
      · refine go_iload_n rfl rfl ?_
        exact go_iret rfl (Or.inl rfl) (hq _ (Or.inr ⟨h0i, by omega, c19, hI⟩))
set_option maxHeartbeats 4000000 in
set_option maxRecDepth 100000 in
theorem s_X0_holder {g : ab_G} {h : ab_H} {W : tb_W} {m b t : Int} (C : ct m W h) (ht : 0 ≤ t ∧ t ≤ 400) : MethI g 1 m_X0_holder [a_R 18, a_I b, a_I t] h (fun z h' => h = h' ∧ z = tb_H m W t b) := by
  refine Meth.of_go k_X0_holder (Nat.le_of_ble_eq_true rfl) ?_
  show Go g _ m_X0_holder _ 0 [some (a_R 18), some (a_I b), some (a_I t), none] [] h
  refine go_iconst rfl ?_
  refine go_istore_n rfl (by decide) rfl ?_
  exact lp_X0_holder C ht (fun z F => ⟨_, rfl, rfl, fs_eq (by omega) F⟩) 8 0 (by omega) C.2.1.1 (by have := C.2.1; omega) (fun j j0 j1 => by omega)
set_option maxHeartbeats 4000000 in
set_option maxRecDepth 100000 in
theorem s_X0_bagPlace {g : ab_G} {h : ab_H} {W : tb_W} {m b t : Int} (C : ct m W h) (ht : 0 ≤ t ∧ t ≤ 400) : MethI g 2 m_X0_bagPlace [a_R 18, a_I b, a_I t] h (fun z h' => h = h' ∧ z = tb_bp m W t b) := by
  refine Meth.of_go k_X0_bagPlace (Nat.le_of_ble_eq_true rfl) ?_
  show Go g _ m_X0_bagPlace _ 0 [some (a_R 18), some (a_I b), some (a_I t), none] [] h
  refine go_aload_n rfl rfl ?_
  refine go_iload_n rfl rfl ?_
  refine go_iload_n rfl rfl ?_
  refine go_cV2I (M' := m_X0_holder) rfl l_X0_51 k_X0_holder (s_X0_holder C ht) rfl rfl rfl rfl (by decide) (Nat.le_of_ble_eq_true rfl) (fun z3 h3 q3 => ?_) -- X0_holder
  obtain ⟨rfl, rfl⟩ := q3
  refine go_istore_n rfl (by decide) rfl ?_
  refine go_iload_n rfl rfl ?_
  refine go_iconst rfl ?_
  refine go_icmp_ne rfl (tgt := 16) (by decide) (fun c9 => ?_) (fun c9 => ?_)
  · have e6 := C.2.1
    have F : Fst 0 m (fun i => (W t).2.2 i = b) (tb_H m W t b) := fs_ok (by omega)
    have G : 0 ≤ tb_H m W t b ∧ tb_H m W t b < m := by rcases F with ⟨a, -⟩ | ⟨a, c, -⟩; exact absurd a c9; exact ⟨a, c⟩
    refine go_aload_n rfl rfl ?_
    refine go_getR rfl f_X0_11 rfl rfl ?_ -- place
    refine go_iload_n rfl rfl ?_
    refine go_aald rfl rfl (by omega) (by omega) (rf_19 (tb_H m W t b).toNat (by omega)) ?_
    refine go_iload_n rfl rfl ?_
    refine go_iald rfl (kd_pl (by omega)) (by omega) (by omega) ?_
    rw [(C.2.2 t _ ht.1 ht.2 G.1 G.2).1]
    exact go_iret rfl (Or.inl rfl) ⟨_, rfl, rfl, (if_neg c9).symm⟩
  · skip
    refine go_iconst rfl ?_
    refine go_goto rfl (tgt := 24) (by decide) ?_
    exact go_iret rfl (Or.inl rfl) ⟨_, rfl, rfl, (if_pos c9).symm⟩
set_option maxHeartbeats 4000000 in
set_option maxRecDepth 100000 in
theorem lp_X0_asNamesOff {g : ab_G} {h : ab_H} {W : tb_W} {A : Int → Int → Int} {m t : Int} {Q : Option ab_V → ab_H → Prop} (C : ct m W h) (ht : 0 ≤ t ∧ t ≤ 400) (hA : ∀ i, 0 ≤ i → i < m → h (52 + i.toNat) t = A t i) (hq : ∀ z, z = rd_bool (∀ i, 0 ≤ i → i < m → tb_bp m W t i = A t i) → Q (some (a_I z)) h) : ∀ (f : Nat) (i : Int), 0 ≤ i → i ≤ m → m - i < f → (∀ i0, 0 ≤ i0 → i0 < i → (fun i => tb_bp m W t i = A t i) i0) → Go g (ab_rm 3, 0, 0) m_X0_asNamesOff Q 2 [some (a_R 18), some (a_I t), some (a_I i)] [] h := by
  have e5 := C.1
  have e6 := C.2.1
  intro f
  induction f with
  | zero => intro i h0i h1 hf; omega
  | succ f ih =>
    intro i h0i h1 hf hI
    refine go_iload_n rfl rfl ?_
    refine go_aload_n rfl rfl ?_
    refine go_getI rfl f_X0_29 rfl rfl rfl ?_ -- men
    refine go_icmp_ge rfl (tgt := 35) (by decide) (fun c7 => ?_) (fun c7 => ?_)
    · refine go_iconst rfl ?_
      exact go_iret rfl (Or.inr ⟨rfl, by omega⟩) (hq _ (rd_t (fun j j0 j1 => hI j j0 (by omega))).symm)
    · refine go_aload_n rfl rfl ?_
      refine go_iload_n rfl rfl ?_
      refine go_iload_n rfl rfl ?_
      refine go_cV2I (M' := m_X0_bagPlace) rfl l_X0_55 k_X0_bagPlace (s_X0_bagPlace C ht) rfl rfl rfl rfl (by decide) (Nat.le_of_ble_eq_true rfl) (fun z13 h13 q13 => ?_) -- X0_bagPlace
      obtain ⟨rfl, rfl⟩ := q13
      refine go_aload_n rfl rfl ?_
      refine go_getR rfl f_X0_22 rfl rfl ?_ -- alone
      refine go_iload_n rfl rfl ?_
      refine go_aald rfl rfl (by omega) (by omega) (rf_22 i.toNat (by omega)) ?_
      refine go_iload_n rfl rfl ?_
      refine go_iald rfl (kd_al (by omega)) (by omega) (by omega) ?_
      rw [hA i h0i (by omega)]
      refine go_icmp_eq rfl (tgt := 29) (by decide) (fun c24 => ?_) (fun c24 => ?_)
      · refine go_iinc rfl rfl (by decide) rfl (by unfold ab_iok; omega) ?_
        refine go_goto rfl (tgt := 2) (by decide) ?_
        exact ih (i + 1) (by omega) (by omega) (by omega) (fun j j0 j1 => by
          by_cases e : j = i
          · subst e; exact c24
          · exact hI j j0 (by omega))
      · refine go_iconst rfl ?_
        exact go_iret rfl (Or.inr ⟨rfl, by omega⟩) (hq _ (rd_f (fun z => c24 (z i h0i (by omega)))).symm)
set_option maxHeartbeats 4000000 in
set_option maxRecDepth 100000 in
theorem s_X0_asNamesOff {g : ab_G} {h : ab_H} {W : tb_W} {A : Int → Int → Int} {m t : Int} (C : ct m W h) (ht : 0 ≤ t ∧ t ≤ 400) (hA : ∀ i, 0 ≤ i → i < m → h (52 + i.toNat) t = A t i) : MethI g 3 m_X0_asNamesOff [a_R 18, a_I t] h (fun z h' => h = h' ∧ z = rd_bool (∀ i, 0 ≤ i → i < m → tb_bp m W t i = A t i)) := by
  refine Meth.of_go k_X0_asNamesOff (Nat.le_of_ble_eq_true rfl) ?_
  show Go g _ m_X0_asNamesOff _ 0 [some (a_R 18), some (a_I t), none] [] h
  refine go_iconst rfl ?_
  refine go_istore_n rfl (by decide) rfl ?_
  exact lp_X0_asNamesOff C ht hA (fun z F => ⟨_, rfl, rfl, F⟩) 8 0 (by omega) C.2.1.1 (by have := C.2.1; omega) (fun j j0 j1 => by omega)
set_option maxHeartbeats 4000000 in
set_option maxRecDepth 100000 in
theorem lp_X0_asAtFirst {g : ab_G} {h : ab_H} {W : tb_W} {A : Int → Int → Int} {m t : Int} {Q : Option ab_V → ab_H → Prop} (C : ct m W h) (ht : 0 ≤ t ∧ t ≤ 400) (hq : ∀ z, z = rd_bool (∀ i, 0 ≤ i → i < m → (W t).1 i = (W 0).1 i ∧ (W t).2.1 i = (W 0).2.1 i ∧ (W t).2.2 i = (W 0).2.2 i) → Q (some (a_I z)) h) : ∀ (f : Nat) (i : Int), 0 ≤ i → i ≤ m → m - i < f → (∀ i0, 0 ≤ i0 → i0 < i → (fun i => (W t).1 i = (W 0).1 i ∧ (W t).2.1 i = (W 0).2.1 i ∧ (W t).2.2 i = (W 0).2.2 i) i0) → Go g (ab_rm 1, 0, 0) m_X0_asAtFirst Q 2 [some (a_R 18), some (a_I t), some (a_I i)] [] h := by
  have e5 := C.1
  have e6 := C.2.1
  intro f
  induction f with
  | zero => intro i h0i h1 hf; omega
  | succ f ih =>
    intro i h0i h1 hf hI
    refine go_iload_n rfl rfl ?_
    refine go_aload_n rfl rfl ?_
    refine go_getI rfl f_X0_29 rfl rfl rfl ?_ -- men
    refine go_icmp_ge rfl (tgt := 75) (by decide) (fun c7 => ?_) (fun c7 => ?_)
    · refine go_iconst rfl ?_
      exact go_iret rfl (Or.inr ⟨rfl, by omega⟩) (hq _ (rd_t (fun j j0 j1 => hI j j0 (by omega))).symm)
    · refine go_aload_n rfl rfl ?_
      refine go_getR rfl f_X0_11 rfl rfl ?_ -- place
      refine go_iload_n rfl rfl ?_
      refine go_aald rfl rfl (by omega) (by omega) (rf_19 i.toNat (by omega)) ?_
      refine go_iload_n rfl rfl ?_
      refine go_iald rfl (kd_pl (by omega)) (by omega) (by omega) ?_
      rw [(C.2.2 t i ht.1 ht.2 h0i (by omega)).1]
      refine go_aload_n rfl rfl ?_
      refine go_getR rfl f_X0_11 rfl rfl ?_ -- place
      refine go_iload_n rfl rfl ?_
      refine go_aald rfl rfl (by omega) (by omega) (rf_19 i.toNat (by omega)) ?_
      refine go_iconst rfl ?_
      refine go_iald rfl (kd_pl (by omega)) (by omega) (by omega) ?_
      rw [(C.2.2 0 i (by omega) (by omega) h0i (by omega)).1]
      refine go_icmp_ne rfl (tgt := 67) (by decide) (fun c26 => ?_) (fun c26 => ?_)
      · refine go_iconst rfl ?_
        exact go_iret rfl (Or.inr ⟨rfl, by omega⟩) (hq _ (rd_f (fun z => (fun z => c26 z.1) (z i h0i (by omega)))).symm)
      · refine go_aload_n rfl rfl ?_
        refine go_getR rfl f_X0_16 rfl rfl ?_ -- facing
        refine go_iload_n rfl rfl ?_
        refine go_aald rfl rfl (by omega) (by omega) (rf_20 i.toNat (by omega)) ?_
        refine go_iload_n rfl rfl ?_
        refine go_iald rfl (kd_fc (by omega)) (by omega) (by omega) ?_
        rw [(C.2.2 t i ht.1 ht.2 h0i (by omega)).2.1]
        refine go_aload_n rfl rfl ?_
        refine go_getR rfl f_X0_16 rfl rfl ?_ -- facing
        refine go_iload_n rfl rfl ?_
        refine go_aald rfl rfl (by omega) (by omega) (rf_20 i.toNat (by omega)) ?_
        refine go_iconst rfl ?_
        refine go_iald rfl (kd_fc (by omega)) (by omega) (by omega) ?_
        rw [(C.2.2 0 i (by omega) (by omega) h0i (by omega)).2.1]
        refine go_icmp_ne rfl (tgt := 67) (by decide) (fun c45 => ?_) (fun c45 => ?_)
        · refine go_iconst rfl ?_
          exact go_iret rfl (Or.inr ⟨rfl, by omega⟩) (hq _ (rd_f (fun z => (fun z => c45 z.2.1) (z i h0i (by omega)))).symm)
        · refine go_aload_n rfl rfl ?_
          refine go_getR rfl f_X0_19 rfl rfl ?_ -- load
          refine go_iload_n rfl rfl ?_
          refine go_aald rfl rfl (by omega) (by omega) (rf_21 i.toNat (by omega)) ?_
          refine go_iload_n rfl rfl ?_
          refine go_iald rfl (kd_bg (by omega)) (by omega) (by omega) ?_
          rw [(C.2.2 t i ht.1 ht.2 h0i (by omega)).2.2]
          refine go_aload_n rfl rfl ?_
          refine go_getR rfl f_X0_19 rfl rfl ?_ -- load
          refine go_iload_n rfl rfl ?_
          refine go_aald rfl rfl (by omega) (by omega) (rf_21 i.toNat (by omega)) ?_
          refine go_iconst rfl ?_
          refine go_iald rfl (kd_bg (by omega)) (by omega) (by omega) ?_
          rw [(C.2.2 0 i (by omega) (by omega) h0i (by omega)).2.2]
          refine go_icmp_eq rfl (tgt := 69) (by decide) (fun c64 => ?_) (fun c64 => ?_)
          · refine go_iinc rfl rfl (by decide) rfl (by unfold ab_iok; omega) ?_
            refine go_goto rfl (tgt := 2) (by decide) ?_
            exact ih (i + 1) (by omega) (by omega) (by omega) (fun j j0 j1 => by
              by_cases e : j = i
              · subst e; exact ⟨c26, c45, c64⟩
              · exact hI j j0 (by omega))
          · refine go_iconst rfl ?_
            exact go_iret rfl (Or.inr ⟨rfl, by omega⟩) (hq _ (rd_f (fun z => (fun z => c64 z.2.2) (z i h0i (by omega)))).symm)
set_option maxHeartbeats 4000000 in
set_option maxRecDepth 100000 in
theorem s_X0_asAtFirst {g : ab_G} {h : ab_H} {W : tb_W} {m t : Int} (C : ct m W h) (ht : 0 ≤ t ∧ t ≤ 400) : MethI g 1 m_X0_asAtFirst [a_R 18, a_I t] h (fun z h' => h = h' ∧ z = rd_bool (∀ i, 0 ≤ i → i < m → (W t).1 i = (W 0).1 i ∧ (W t).2.1 i = (W 0).2.1 i ∧ (W t).2.2 i = (W 0).2.2 i)) := by
  refine Meth.of_go k_X0_asAtFirst (Nat.le_of_ble_eq_true rfl) ?_
  show Go g _ m_X0_asAtFirst _ 0 [some (a_R 18), some (a_I t), none] [] h
  refine go_iconst rfl ?_
  refine go_istore_n rfl (by decide) rfl ?_
  exact lp_X0_asAtFirst (A := fun _ _ => 0) C ht (fun z F => ⟨_, rfl, rfl, F⟩) 8 0 (by omega) C.2.1.1 (by have := C.2.1; omega) (fun j j0 j1 => by omega)
set_option maxHeartbeats 4000000 in
set_option maxRecDepth 100000 in
theorem lp_X0_bagThere {g : ab_G} {h : ab_H} {W : tb_W} {m p t : Int} {Q : Option ab_V → ab_H → Prop} (C : ct m W h) (ht : 0 ≤ t ∧ t ≤ 400) (hp : 0 ≤ p ∧ p ≤ 40) (hq : ∀ z, Fst 0 m (fun i => (W t).1 i = 2 * p) z → Q (some (a_I (if z = -1 then -1 else (W t).2.2 z))) h) : ∀ (f : Nat) (i : Int), 0 ≤ i → i ≤ m → m - i < f → (∀ j, 0 ≤ j → j < i → ¬ (fun i => (W t).1 i = 2 * p) j) → Go g (ab_rm 1, 0, 0) m_X0_bagThere Q 2 [some (a_R 18), some (a_I p), some (a_I t), some (a_I i)] [] h := by
  have e5 := C.1
  have e6 := C.2.1
  intro f
  induction f with
  | zero => intro i h0i h1 hf; omega
  | succ f ih =>
    intro i h0i h1 hf hI
    refine go_iload_n rfl rfl ?_
    refine go_aload_n rfl rfl ?_
    refine go_getI rfl f_X0_29 rfl rfl rfl ?_ -- men
    refine go_icmp_ge rfl (tgt := 39) (by decide) (fun c7 => ?_) (fun c7 => ?_)
    · refine go_iconst rfl ?_
      exact go_iret rfl (Or.inl rfl) (hq _ (Or.inl ⟨rfl, fun j j0 j1 => hI j j0 (by omega)⟩))
    · refine go_aload_n rfl rfl ?_
      refine go_getR rfl f_X0_11 rfl rfl ?_ -- place
      refine go_iload_n rfl rfl ?_
      refine go_aald rfl rfl (by omega) (by omega) (rf_19 i.toNat (by omega)) ?_
      refine go_iload_n rfl rfl ?_
      refine go_iald rfl (kd_pl (by omega)) (by omega) (by omega) ?_
      rw [(C.2.2 t i ht.1 ht.2 h0i (by omega)).1]
      refine go_iconst rfl ?_
      refine go_iload_n rfl rfl ?_
      refine go_imul rfl (by unfold ab_iok; omega) ?_
      refine go_icmp_ne rfl (tgt := 33) (by decide) (fun c21 => ?_) (fun c21 => ?_)
      · refine go_iinc rfl rfl (by decide) rfl (by unfold ab_iok; omega) ?_
        refine go_goto rfl (tgt := 2) (by decide) ?_
        exact ih (i + 1) (by omega) (by omega) (by omega) (fun j j0 j1 => by
          by_cases e : j = i
          · subst e; exact c21
          · exact hI j j0 (by omega))
      · refine go_aload_n rfl rfl ?_
        refine go_getR rfl f_X0_19 rfl rfl ?_ -- load
        refine go_iload_n rfl rfl ?_
        refine go_aald rfl rfl (by omega) (by omega) (rf_21 i.toNat (by omega)) ?_
        refine go_iload_n rfl rfl ?_
        refine go_iald rfl (kd_bg (by omega)) (by omega) (by omega) ?_
        rw [(C.2.2 t i ht.1 ht.2 h0i (by omega)).2.2]
        exact go_iret rfl (Or.inl rfl) (by have z := hq _ (Or.inr ⟨h0i, by omega, c21, hI⟩); rw [if_neg (by omega)] at z; exact z)
set_option maxHeartbeats 4000000 in
set_option maxRecDepth 100000 in
theorem s_X0_bagThere {g : ab_G} {h : ab_H} {W : tb_W} {m p t : Int} (C : ct m W h) (ht : 0 ≤ t ∧ t ≤ 400) (hp : 0 ≤ p ∧ p ≤ 40) : MethI g 1 m_X0_bagThere [a_R 18, a_I p, a_I t] h (fun z h' => h = h' ∧ z = tb_bt m W t p) := by
  refine Meth.of_go k_X0_bagThere (Nat.le_of_ble_eq_true rfl) ?_
  show Go g _ m_X0_bagThere _ 0 [some (a_R 18), some (a_I p), some (a_I t), none] [] h
  refine go_iconst rfl ?_
  refine go_istore_n rfl (by decide) rfl ?_
  exact lp_X0_bagThere C ht hp (fun z F => ⟨_, rfl, rfl, by rw [fs_eq (by omega) F]; rfl⟩) 8 0 (by omega) C.2.1.1 (by have := C.2.1; omega) (fun j j0 j1 => by omega)
set_option maxHeartbeats 4000000 in
set_option maxRecDepth 100000 in
theorem lp_X0_taken {g : ab_G} {h : ab_H} {W : tb_W} {m s p u : Int} {Q : Option ab_V → ab_H → Prop} (C : ct m W h) (hs : 0 ≤ s) (hp : 0 ≤ p ∧ p ≤ 40) (hq : ∀ z, Fst s 401 (fun t => tb_bt m W t p ≠ -1) z → Q (some (a_I z)) h) : ∀ (f : Nat) (t : Int), s ≤ t → t ≤ 401 → 401 - t < f → (∀ j, s ≤ j → j < t → ¬ (fun t => tb_bt m W t p ≠ -1) j) → Go g (ab_rm 2, 0, 0) m_X0_taken Q 4 [some (a_R 18), some (a_I p), some (a_I u), some (a_I t)] [] h := by
  intro f
  induction f with
  | zero => intro t h0t h1 hf; omega
  | succ f ih =>
    intro t h0t h1 hf hI
    refine go_iload_n rfl rfl ?_
    refine go_sipush rfl ?_
    refine go_icmp_gt rfl (tgt := 29) (by decide) (fun c8 => ?_) (fun c8 => ?_)
    · refine go_iconst rfl ?_
      exact go_iret rfl (Or.inl rfl) (hq _ (Or.inl ⟨rfl, fun j j0 j1 => hI j j0 (by omega)⟩))
    · refine go_aload_n rfl rfl ?_
      refine go_iload_n rfl rfl ?_
      refine go_iload_n rfl rfl ?_
      refine go_cV2I (M' := m_X0_bagThere) rfl l_X0_58 k_X0_bagThere (s_X0_bagThere C (by omega) hp) rfl rfl rfl rfl (by decide) (Nat.le_of_ble_eq_true rfl) (fun z14 h14 q14 => ?_) -- X0_bagThere
      obtain ⟨rfl, rfl⟩ := q14
      refine go_iconst rfl ?_
      refine go_icmp_eq rfl (tgt := 23) (by decide) (fun c18 => ?_) (fun c18 => ?_)
      · refine go_iinc rfl rfl (by decide) rfl (by unfold ab_iok; omega) ?_
        refine go_goto rfl (tgt := 4) (by decide) ?_
        exact ih (t + 1) (by omega) (by omega) (by omega) (fun j j0 j1 => by
          by_cases e : j = t
          · subst e; exact (fun z => z c18)
          · exact hI j j0 (by omega))
      · refine go_iload_n rfl rfl ?_
        exact go_iret rfl (Or.inl rfl) (hq _ (Or.inr ⟨h0t, by omega, c18, hI⟩))
set_option maxHeartbeats 4000000 in
set_option maxRecDepth 100000 in
theorem s_X0_taken {g : ab_G} {h : ab_H} {W : tb_W} {m p u : Int} (C : ct m W h) (hp : 0 ≤ p ∧ p ≤ 40) (hu : 0 ≤ u ∧ u ≤ 199) : MethI g 2 m_X0_taken [a_R 18, a_I p, a_I u] h (fun z h' => h = h' ∧ z = tb_tk m W p u) := by
  refine Meth.of_go k_X0_taken (Nat.le_of_ble_eq_true rfl) ?_
  show Go g _ m_X0_taken _ 0 [some (a_R 18), some (a_I p), some (a_I u), none] [] h
  refine go_iconst rfl ?_
  refine go_iload_n rfl rfl ?_
  refine go_imul rfl (by unfold ab_iok; omega) ?_
  refine go_istore_n rfl (by decide) rfl ?_
  exact lp_X0_taken C (s := 2 * u) (by omega) hp (fun z F => ⟨_, rfl, rfl, fs_eq (by omega) F⟩) 500 (2 * u) (by omega) (by omega) (by omega) (fun j j0 j1 => by omega)
set_option maxHeartbeats 4000000 in
set_option maxRecDepth 100000 in
theorem lp_X0_bagComes {g : ab_G} {h : ab_H} {W : tb_W} {m s b p : Int} {Q : Option ab_V → ab_H → Prop} (C : ct m W h) (hs : 0 ≤ s) (hp : 0 ≤ p ∧ p ≤ 40) (hq : ∀ z, Fst s 401 (fun t => tb_bp m W t b = 2 * p) z → Q (some (a_I z)) h) : ∀ (f : Nat) (t : Int), s ≤ t → t ≤ 401 → 401 - t < f → (∀ j, s ≤ j → j < t → ¬ (fun t => tb_bp m W t b = 2 * p) j) → Go g (ab_rm 3, 0, 0) m_X0_bagComes Q 3 [some (a_R 18), some (a_I b), some (a_I s), some (a_I p), some (a_I t)] [] h := by
  intro f
  induction f with
  | zero => intro t h0t h1 hf; omega
  | succ f ih =>
    intro t h0t h1 hf hI
    refine go_iload rfl rfl ?_
    refine go_sipush rfl ?_
    refine go_icmp_gt rfl (tgt := 33) (by decide) (fun c8 => ?_) (fun c8 => ?_)
    · refine go_iconst rfl ?_
      exact go_iret rfl (Or.inl rfl) (hq _ (Or.inl ⟨rfl, fun j j0 j1 => hI j j0 (by omega)⟩))
    · refine go_aload_n rfl rfl ?_
      refine go_iload_n rfl rfl ?_
      refine go_iload rfl rfl ?_
      refine go_cV2I (M' := m_X0_bagPlace) rfl l_X0_55 k_X0_bagPlace (s_X0_bagPlace C (by omega)) rfl rfl rfl rfl (by decide) (Nat.le_of_ble_eq_true rfl) (fun z15 h15 q15 => ?_) -- X0_bagPlace
      obtain ⟨rfl, rfl⟩ := q15
      refine go_iconst rfl ?_
      refine go_iload_n rfl rfl ?_
      refine go_imul rfl (by unfold ab_iok; omega) ?_
      refine go_icmp_ne rfl (tgt := 27) (by decide) (fun c21 => ?_) (fun c21 => ?_)
      · refine go_iinc rfl rfl (by decide) rfl (by unfold ab_iok; omega) ?_
        refine go_goto rfl (tgt := 3) (by decide) ?_
        exact ih (t + 1) (by omega) (by omega) (by omega) (fun j j0 j1 => by
          by_cases e : j = t
          · subst e; exact c21
          · exact hI j j0 (by omega))
      · refine go_iload rfl rfl ?_
        exact go_iret rfl (Or.inl rfl) (hq _ (Or.inr ⟨h0t, by omega, c21, hI⟩))
set_option maxHeartbeats 4000000 in
set_option maxRecDepth 100000 in
theorem s_X0_bagComes {g : ab_G} {h : ab_H} {W : tb_W} {m b s p : Int} (C : ct m W h) (hp : 0 ≤ p ∧ p ≤ 40) (hs : 0 ≤ s ∧ s ≤ 400) : MethI g 3 m_X0_bagComes [a_R 18, a_I b, a_I s, a_I p] h (fun z h' => h = h' ∧ z = tb_bc m W b s p) := by
  refine Meth.of_go k_X0_bagComes (Nat.le_of_ble_eq_true rfl) ?_
  show Go g _ m_X0_bagComes _ 0 [some (a_R 18), some (a_I b), some (a_I s), some (a_I p), none] [] h
  refine go_iload_n rfl rfl ?_
  refine go_istore rfl (by decide) rfl ?_
  exact lp_X0_bagComes C hs.1 hp (fun z F => ⟨_, rfl, rfl, fs_eq (by omega) F⟩) 500 s (by omega) (by omega) (by omega) (fun j j0 j1 => by omega)
theorem tb_tk_in {m : Int} {W : tb_W} {p u : Int} (hu : 0 ≤ u) (h : tb_tk m W p u ≠ -1) : 2 * u ≤ tb_tk m W p u ∧ tb_tk m W p u ≤ 400 ∧ tb_bt m W (tb_tk m W p u) p ≠ -1 := by
  have F : Fst (2 * u) 401 (fun t => tb_bt m W t p ≠ -1) (tb_tk m W p u) := fs_ok (by omega)
  rcases F with ⟨a, -⟩ | ⟨a, b, c, -⟩
  · exact absurd a h
  · exact ⟨a, by omega, c⟩
set_option maxHeartbeats 4000000 in
set_option maxRecDepth 100000 in
theorem s_X0_comes {g : ab_G} {h : ab_H} {W : tb_W} {m p u q : Int} (C : ct m W h) (hp : 0 ≤ p ∧ p ≤ 40) (hu : 0 ≤ u ∧ u ≤ 199) (hq : 0 ≤ q ∧ q ≤ 40) : MethI g 4 m_X0_comes [a_R 18, a_I p, a_I u, a_I q] h (fun z h' => h = h' ∧ z = tb_lt m W p u q) := by
  refine Meth.of_go k_X0_comes (Nat.le_of_ble_eq_true rfl) ?_
  show Go g _ m_X0_comes _ 0 [some (a_R 18), some (a_I p), some (a_I u), some (a_I q), none] [] h
  refine go_aload_n rfl rfl ?_
  refine go_iload_n rfl rfl ?_
  refine go_iload_n rfl rfl ?_
  refine go_cV2I (M' := m_X0_taken) rfl l_X0_61 k_X0_taken (s_X0_taken C hp hu) rfl rfl rfl rfl (by decide) (Nat.le_of_ble_eq_true rfl) (fun z3 h3 q3 => ?_) -- X0_taken
  obtain ⟨rfl, rfl⟩ := q3
  refine go_istore rfl (by decide) rfl ?_
  refine go_iload rfl rfl ?_
  refine go_iconst rfl ?_
  refine go_icmp_ne rfl (tgt := 18) (by decide) (fun c11 => ?_) (fun c11 => ?_)
  · refine go_aload_n rfl rfl ?_
    refine go_aload_n rfl rfl ?_
    refine go_iload_n rfl rfl ?_
    refine go_iload rfl rfl ?_
    refine go_cV2I (M' := m_X0_bagThere) rfl l_X0_58 k_X0_bagThere (s_X0_bagThere C (by have := tb_tk_in hu.1 c11; omega) hp) rfl rfl rfl rfl (by decide) (Nat.le_of_ble_eq_true rfl) (fun z23 h23 q23 => ?_) -- X0_bagThere
    obtain ⟨rfl, rfl⟩ := q23
    refine go_iload rfl rfl ?_
    refine go_iload_n rfl rfl ?_
    refine go_cV3I (M' := m_X0_bagComes) rfl l_X0_64 k_X0_bagComes (s_X0_bagComes C hq (by have := tb_tk_in hu.1 c11; omega)) rfl rfl rfl rfl (by decide) (Nat.le_of_ble_eq_true rfl) (fun z29 h29 q29 => ?_) -- X0_bagComes
    obtain ⟨rfl, rfl⟩ := q29
    exact go_iret rfl (Or.inl rfl) ⟨_, rfl, rfl, by unfold tb_lt tb_lb; rw [if_neg c11, if_neg c11]⟩
  · refine go_iconst rfl ?_
    refine go_goto rfl (tgt := 32) (by decide) ?_
    exact go_iret rfl (Or.inl rfl) ⟨_, rfl, rfl, by unfold tb_lt; rw [if_pos c11]⟩
