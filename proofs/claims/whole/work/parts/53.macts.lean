/-! the reference: a group acts -/
/-- ahead of (a, b), in their order, stands a pair that is i, j -/
def ac_X (e : Int → Int) (n a b i j : Int) : Prop := ∃ c d, 0 ≤ c ∧ 0 ≤ d ∧ d < n ∧ (c < a ∨ (c = a ∧ d < b)) ∧ e c = i ∧ e d = j
def ac_I (h0 : ab_H) (t n a b : Int) (h : ab_H) : Prop := (∀ i j, 0 ≤ i → i < 6 → 0 ≤ j → j < 6 → (ac_X (h0 79) n a b i j → h 78 (36 * t + 6 * i + j) = rd_bool (i ≠ j)) ∧ (¬ ac_X (h0 79) n a b i j → h 78 (36 * t + 6 * i + j) = h0 78 (36 * t + 6 * i + j))) ∧ ∀ k b, ¬ (k = 78 ∧ 36 * t ≤ b ∧ b < 36 * t + 36) → h k b = h0 k b
def ac_e (h0 : ab_H) (n : Int) : Prop := n ≤ 6 ∧ (∀ a, 0 ≤ a → a < n → 0 ≤ h0 79 a ∧ h0 79 a < 6) ∧ ∀ a b, 0 ≤ a → a < n → 0 ≤ b → b < n → h0 79 a = h0 79 b → a = b
theorem ac_next {h0 h : ab_H} {t n a b v : Int} (E : ac_e h0 n) (ha : 0 ≤ a ∧ a < n) (hb : 0 ≤ b ∧ b < n) (I : ac_I h0 t n a b h) (hv : v = rd_bool (a ≠ b)) : ac_I h0 t n a (b + 1) (ab_hs h 78 (36 * t + 6 * h0 79 a + h0 79 b) v) := by
  obtain ⟨E1, E2, E3⟩ := E
  have xa := E2 a ha.1 ha.2
  have xb := E2 b hb.1 hb.2
  refine ⟨fun i j i0 i1 j0 j1 => ?_, fun k c hk => by rw [ab_hs_ne (by omega)]; exact I.2 k c hk⟩
  by_cases z : i = h0 79 a ∧ j = h0 79 b
  · obtain ⟨rfl, rfl⟩ := z
    rw [ab_hs_eq]
    refine ⟨fun _ => hv.trans (rd_iff ⟨fun y x => y (E3 a b ha.1 ha.2 hb.1 hb.2 x), fun y x => y (by rw [x])⟩), fun y => absurd ⟨a, b, ha.1, hb.1, hb.2, by omega, rfl, rfl⟩ y⟩
  · rw [ab_hs_i (by omega)]
    have e : ac_X (h0 79) n a (b + 1) i j ↔ ac_X (h0 79) n a b i j := by
      constructor
      · rintro ⟨c, d, c0, d0, d1, x, y1, y2⟩
        by_cases w : c = a ∧ d = b
        · obtain ⟨rfl, rfl⟩ := w; exact absurd ⟨y1.symm, y2.symm⟩ z
        · exact ⟨c, d, c0, d0, d1, by omega, y1, y2⟩
      · rintro ⟨c, d, c0, d0, d1, x, y1, y2⟩
        exact ⟨c, d, c0, d0, d1, by omega, y1, y2⟩
    rw [e]
    exact I.1 i j i0 i1 j0 j1
set_option maxHeartbeats 4000000 in
set_option maxRecDepth 100000 in
theorem lp_X7_actsIn {g : ab_G} {h0 : ab_H} {n t a : Int} {Q : Option ab_V → ab_H → Prop} (E : ac_e h0 n) (ht : 0 ≤ t ∧ t ≤ 400) (ha0 : 0 ≤ a) (ha1 : a < n) (K : ∀ h, ac_I h0 t n (a + 1) 0 h → ∀ b, Go g (ab_rm 2, 0, 0) m_X7_acts Q 60 [some (a_R 62), some (a_I n), some (a_I t), some (a_I a), some (a_I b), none, none] [] h) : ∀ (f : Nat) (b : Int) (h : ab_H), 0 ≤ b → b ≤ n → n - b < f → ac_I h0 t n a b h → Go g (ab_rm 2, 0, 0) m_X7_acts Q 10 [some (a_R 62), some (a_I n), some (a_I t), some (a_I a), some (a_I b), none, none] [] h := by
  intro f
  induction f with
  | zero => intro b h h0b h1 hf; omega
  | succ f ih =>
    intro b h h0b h1 hf I
    have e79 : h 79 = h0 79 := funext fun c => I.2 79 c (by omega)
    have xn := E.1
    have xa := E.2.1 a ha0 ha1
    have xb := fun z => E.2.1 b h0b z
    refine go_iload rfl rfl ?_
    refine go_iload_n rfl rfl ?_
    refine go_icmp_ge rfl (tgt := 60) (by decide) (fun c13 => ?_) (fun c13 => ?_)
    · exact K h (by refine ⟨fun i j i0 i1 j0 j1 => ?_, I.2⟩; have e : ac_X (h0 79) n (a + 1) 0 i j ↔ ac_X (h0 79) n a b i j := ⟨fun ⟨c, d, x1, x2, x3, x4, x5⟩ => ⟨c, d, x1, x2, x3, by omega, x5⟩, fun ⟨c, d, x1, x2, x3, x4, x5⟩ => ⟨c, d, x1, x2, x3, by omega, x5⟩⟩; rw [e]; exact I.1 i j i0 i1 j0 j1) b
    · refine go_aload_n rfl rfl ?_
      refine go_getR rfl f_X7_55 rfl rfl ?_ -- meets
      refine go_bipush rfl ?_
      refine go_iload_n rfl rfl ?_
      refine go_imul rfl (by unfold ab_iok; omega) ?_
      refine go_bipush rfl ?_
      refine go_aload_n rfl rfl ?_
      refine go_getR rfl f_X7_59 rfl rfl ?_ -- group
      refine go_iload_n rfl rfl ?_
      refine go_iald rfl rfl (by omega) (by omega) ?_
      rw [e79]
      refine go_imul rfl (by unfold ab_iok; omega) ?_
      refine go_iadd rfl (by unfold ab_iok; omega) ?_
      refine go_aload_n rfl rfl ?_
      refine go_getR rfl f_X7_59 rfl rfl ?_ -- group
      refine go_iload rfl rfl ?_
      refine go_iald rfl rfl (by omega) (by omega) ?_
      rw [e79]
      refine go_iadd rfl (by unfold ab_iok; omega) ?_
      refine go_iload_n rfl rfl ?_
      refine go_iload rfl rfl ?_
      refine go_icmp_eq rfl (tgt := 52) (by decide) (fun c45 => ?_) (fun c45 => ?_)
      · refine go_iconst rfl ?_
        refine go_zast rfl rfl (by omega) (by omega) (by omega) ?_
        refine go_iinc rfl rfl (by decide) rfl (by unfold ab_iok; omega) ?_
        refine go_goto rfl (tgt := 10) (by decide) ?_
        exact ih (b + 1) _ (by omega) (by omega) (by omega) (ac_next E ⟨ha0, by omega⟩ ⟨h0b, by omega⟩ I (rd_f (fun z => z c45)).symm)
      · refine go_iconst rfl ?_
        refine go_goto rfl (tgt := 53) (by decide) ?_
        refine go_zast rfl rfl (by omega) (by omega) (by omega) ?_
        refine go_iinc rfl rfl (by decide) rfl (by unfold ab_iok; omega) ?_
        refine go_goto rfl (tgt := 10) (by decide) ?_
        exact ih (b + 1) _ (by omega) (by omega) (by omega) (ac_next E ⟨ha0, by omega⟩ ⟨h0b, by omega⟩ I (rd_t c45).symm)
set_option maxHeartbeats 4000000 in
set_option maxRecDepth 100000 in
theorem lp_X7_acts1 {g : ab_G} {h0 : ab_H} {n t : Int} {Q : Option ab_V → ab_H → Prop} (E : ac_e h0 n) (hn : 0 ≤ n) (ht : 0 ≤ t ∧ t ≤ 400) (K : ∀ h, ac_I h0 t n n 0 h → ∀ (a : Int) v, Go g (ab_rm 2, 0, 0) m_X7_acts Q 66 [some (a_R 62), some (a_I n), some (a_I t), some (a_I a), v, none, none] [] h) : ∀ (f : Nat) (a : Int) (h : ab_H), 0 ≤ a → a ≤ n → n - a < f → ac_I h0 t n a 0 h → ∀ v, Go g (ab_rm 2, 0, 0) m_X7_acts Q 2 [some (a_R 62), some (a_I n), some (a_I t), some (a_I a), v, none, none] [] h := by
  intro f
  induction f with
  | zero => intro a h h0a h1 hf; omega
  | succ f ih =>
    intro a h h0a h1 hf I v
    have xn := E.1
    refine go_iload_n rfl rfl ?_
    refine go_iload_n rfl rfl ?_
    refine go_icmp_ge rfl (tgt := 66) (by decide) (fun c4 => ?_) (fun c4 => ?_)
    · exact K h (by rw [show n = a by omega] at I ⊢; exact I) a _
    · refine go_iconst rfl ?_
      refine go_istore rfl (by decide) rfl ?_
      refine lp_X7_actsIn E ht h0a (by omega) (fun h2 I2 b => ?_) 8 0 h (by omega) (by omega) (by omega) I
      refine go_iinc rfl rfl (by decide) rfl (by unfold ab_iok; omega) ?_
      refine go_goto rfl (tgt := 2) (by decide) ?_
      exact ih (a + 1) h2 (by omega) (by omega) (by omega) I2 _
/-- bags handed on, the row's places above a done -/
def ab_I2 (h0 : ab_H) (t n a : Int) (h : ab_H) : Prop := (∀ c, 0 ≤ c → c < n → (a < c → h 77 (6 * t + h0 79 c) = h0 77 (6 * t + h0 79 (c - 1))) ∧ (c ≤ a → h 77 (6 * t + h0 79 c) = h0 77 (6 * t + h0 79 c))) ∧ ∀ k b, ¬ (k = 77 ∧ ∃ c, 0 ≤ c ∧ c < n ∧ b = 6 * t + h0 79 c) → h k b = h0 k b
theorem ab_next2 {h0 h : ab_H} {t n a : Int} (E : ac_e h0 n) (ha : 0 < a ∧ a < n) (I : ab_I2 h0 t n a h) : ab_I2 h0 t n (a - 1) (ab_hs h 77 (6 * t + h0 79 a) (h 77 (6 * t + h0 79 (a - 1)))) := by
  obtain ⟨E1, E2, E3⟩ := E
  refine ⟨fun c c0 c1 => ?_, fun k b hk => ?_⟩
  · by_cases z : c = a
    · subst z
      rw [ab_hs_eq]
      exact ⟨fun _ => (I.1 (c - 1) (by omega) (by omega)).2 (by omega), fun y => by omega⟩
    · have ne : h0 79 c ≠ h0 79 a := fun y => z (E3 c a c0 c1 (by omega) (by omega) y)
      rw [ab_hs_i (by omega)]
      exact ⟨fun y => (I.1 c c0 c1).1 (by omega), fun y => (I.1 c c0 c1).2 (by omega)⟩
  · rw [ab_hs_ne (fun y => hk ⟨y.1, a, by omega, by omega, y.2⟩)]
    exact I.2 k b hk
set_option maxHeartbeats 4000000 in
set_option maxRecDepth 100000 in
theorem lp_X7_acts2 {g : ab_G} {h0 : ab_H} {n t x3 x4 x5 : Int} {Q : Option ab_V → ab_H → Prop} (E : ac_e h0 n) (ht : 0 ≤ t ∧ t ≤ 400) (K : ∀ h, ab_I2 h0 t n 0 h → ∀ a : Int, Go g (ab_rm 2, 0, 0) m_X7_acts Q 221 [some (a_R 62), some (a_I n), some (a_I t), some (a_I x3), some (a_I x4), some (a_I x5), some (a_I a)] [] h) : ∀ (f : Nat) (a : Int) (h : ab_H), 0 ≤ a → a < n → a < f → ab_I2 h0 t n a h → Go g (ab_rm 2, 0, 0) m_X7_acts Q 174 [some (a_R 62), some (a_I n), some (a_I t), some (a_I x3), some (a_I x4), some (a_I x5), some (a_I a)] [] h := by
  intro f
  induction f with
  | zero => intro a h h0a h1 hf; omega
  | succ f ih =>
    intro a h h0a h1 hf I
    have e79 : h 79 = h0 79 := funext fun c => I.2 79 c (by omega)
    have xn := E.1
    have xa := E.2.1 a h0a h1
    have xb := fun z => E.2.1 (a - 1) z (by omega)
    refine go_iload rfl rfl ?_
    refine go_if_le rfl (tgt := 221) (by decide) (fun c176 => ?_) (fun c176 => ?_)
    · exact K h (by rw [show (0 : Int) = a by omega]; exact I) a
    · refine go_aload_n rfl rfl ?_
      refine go_getR rfl f_X7_52 rfl rfl ?_ -- bags
      refine go_bipush rfl ?_
      refine go_iload_n rfl rfl ?_
      refine go_imul rfl (by unfold ab_iok; omega) ?_
      refine go_aload_n rfl rfl ?_
      refine go_getR rfl f_X7_59 rfl rfl ?_ -- group
      refine go_iload rfl rfl ?_
      refine go_iald rfl rfl (by omega) (by omega) ?_
      rw [e79]
      refine go_iadd rfl (by unfold ab_iok; omega) ?_
      refine go_aload_n rfl rfl ?_
      refine go_getR rfl f_X7_52 rfl rfl ?_ -- bags
      refine go_bipush rfl ?_
      refine go_iload_n rfl rfl ?_
      refine go_imul rfl (by unfold ab_iok; omega) ?_
      refine go_aload_n rfl rfl ?_
      refine go_getR rfl f_X7_59 rfl rfl ?_ -- group
      refine go_iload rfl rfl ?_
      refine go_iconst rfl ?_
      refine go_isub rfl (by unfold ab_iok; omega) ?_
      refine go_iald rfl rfl (by omega) (by omega) ?_
      rw [e79]
      have xb := xb (by omega)
      refine go_iadd rfl (by unfold ab_iok; omega) ?_
      refine go_iald rfl rfl (by omega) (by omega) ?_
      refine go_iast rfl rfl (by omega) (by omega) ?_
      refine go_iinc rfl rfl (by decide) rfl (by unfold ab_iok; omega) ?_
      refine go_goto rfl (tgt := 174) (by decide) ?_
      exact ih (a - 1) _ (by omega) (by omega) (by omega) (ab_next2 E ⟨by omega, by omega⟩ I)
