/-! the reference: a group acts, whole -/
def at_I (h0 : ab_H) (t n a : Int) (h : ab_H) : Prop := (∀ c, 0 ≤ c → c < n → (c < a → h 76 (6 * t + h0 79 c) = -h0 76 (6 * t + h0 79 c)) ∧ (a ≤ c → h 76 (6 * t + h0 79 c) = h0 76 (6 * t + h0 79 c))) ∧ ∀ k b, ¬ (k = 76 ∧ ∃ c, 0 ≤ c ∧ c < n ∧ b = 6 * t + h0 79 c) → h k b = h0 k b
theorem at_next {h0 h : ab_H} {t n a : Int} (E : ac_e h0 n) (ha : 0 ≤ a ∧ a < n) (I : at_I h0 t n a h) : at_I h0 t n (a + 1) (ab_hs h 76 (6 * t + h0 79 a) (-h 76 (6 * t + h0 79 a))) := by
  obtain ⟨E1, E2, E3⟩ := E
  refine ⟨fun c c0 c1 => ?_, fun k b hk => ?_⟩
  · by_cases z : c = a
    · subst z
      rw [ab_hs_eq, (I.1 c c0 c1).2 (by omega)]
      exact ⟨fun _ => rfl, fun y => by omega⟩
    · have ne : h0 79 c ≠ h0 79 a := fun y => z (E3 c a c0 c1 (by omega) (by omega) y)
      rw [ab_hs_i (by omega)]
      exact ⟨fun y => (I.1 c c0 c1).1 (by omega), fun y => (I.1 c c0 c1).2 (by omega)⟩
  · rw [ab_hs_ne (fun y => hk ⟨y.1, a, by omega, by omega, y.2⟩)]
    exact I.2 k b hk
set_option maxHeartbeats 4000000 in
set_option maxRecDepth 100000 in
theorem lp_X7_acts3 {g : ab_G} {h0 : ab_H} {n t x3 tv : Int} {Q : Option ab_V → ab_H → Prop} (E : ac_e h0 n) (ht : 0 ≤ t ∧ t ≤ 400) (hf : ∀ c, 0 ≤ c → c < n → h0 76 (6 * t + h0 79 c) = 1 ∨ h0 76 (6 * t + h0 79 c) = -1) (hq : ∀ h, (¬ tv = 0 → at_I h0 t n n h) → (tv = 0 → at_I h0 t n 0 h) → Q none h) : ∀ (f : Nat) (a : Int) (h : ab_H), 0 ≤ a → a ≤ n → n - a < f → at_I h0 t n a h → (0 < a → ¬ tv = 0) → ∀ v, Go g (ab_rm 2, 0, 0) m_X7_acts Q 242 [some (a_R 62), some (a_I n), some (a_I t), some (a_I x3), some (a_I tv), some (a_I a), v] [] h := by
  intro f
  induction f with
  | zero => intro a h h0a h1 hf; omega
  | succ f ih =>
    intro a h h0a h1 hfu I hz v
    have e79 : h 79 = h0 79 := funext fun c => I.2 79 c (by omega)
    have xn := E.1
    refine go_iload rfl rfl ?_
    refine go_iload_n rfl rfl ?_
    refine go_icmp_ge rfl (tgt := 271) (by decide) (fun c245 => ?_) (fun c245 => ?_)
    · exact go_ret rfl rfl (hq h (fun _ => by rw [show n = a by omega] at I ⊢; exact I) (fun z => by rw [show (0 : Int) = a from Classical.byContradiction fun y => hz (by omega) z]; exact I))
    · refine go_iload rfl rfl ?_
      refine go_if_eq rfl (tgt := 271) (by decide) (fun c250 => ?_) (fun c250 => ?_)
      · exact go_ret rfl rfl (hq h (fun z => absurd c250 z) (fun _ => by rw [show (0 : Int) = a from Classical.byContradiction fun y => hz (by omega) c250]; exact I))
      · refine go_aload_n rfl rfl ?_
        refine go_aload_n rfl rfl ?_
        refine go_getR rfl f_X7_59 rfl rfl ?_ -- group
        refine go_iload rfl rfl ?_
        refine go_iald rfl rfl (by omega) (by omega) ?_
        rw [e79]
        have xa := E.2.1 a h0a (by omega)
        refine go_iload_n rfl rfl ?_
        refine go_cV2V (M' := m_X7_turns) rfl l_X7_170 k_X7_turns (s_X7_turns xa ht (by rw [(I.1 a h0a (by omega)).2 (by omega)]; exact hf a h0a (by omega))) rfl rfl rfl rfl (by decide) (Nat.le_of_ble_eq_true rfl) (fun h262 q262 => ?_) -- X7_turns
        subst q262
        refine go_iinc rfl rfl (by decide) rfl (by unfold ab_iok; omega) ?_
        refine go_goto rfl (tgt := 242) (by decide) ?_
        exact ih (a + 1) _ (by omega) (by omega) (by omega) (at_next E ⟨h0a, by omega⟩ I) (fun _ => c250) _
def ac_Post (h0 : ab_H) (t n : Int) (h : ab_H) : Prop := (∀ c, 0 ≤ c → c < n → h 76 (6 * t + h0 79 c) = (if wk_turn (h0 72 0) (h0 72 1) n then -h0 76 (6 * t + h0 79 c) else h0 76 (6 * t + h0 79 c)) ∧ h 77 (6 * t + h0 79 c) = (if wk_chg (h0 72 0) (h0 72 1) n then h0 77 (6 * t + if c = 0 then h0 79 (n - 1) else h0 79 (c - 1)) else h0 77 (6 * t + h0 79 c))) ∧ (∀ i j, 0 ≤ i → i < 6 → 0 ≤ j → j < 6 → (ac_X (h0 79) n n 0 i j → h 78 (36 * t + 6 * i + j) = rd_bool (i ≠ j)) ∧ (¬ ac_X (h0 79) n n 0 i j → h 78 (36 * t + 6 * i + j) = h0 78 (36 * t + 6 * i + j))) ∧ ∀ k b, ¬ (k = 78 ∧ 36 * t ≤ b ∧ b < 36 * t + 36) → ¬ ((k = 76 ∨ k = 77) ∧ ∃ c, 0 ≤ c ∧ c < n ∧ b = 6 * t + h0 79 c) → h k b = h0 k b
theorem ac_end {h0 h1 h2 h : ab_H} {t n tv : Int} (A : ac_I h0 t n n 0 h1) (hB : ∀ c, 0 ≤ c → c < n → h2 77 (6 * t + h0 79 c) = (if wk_chg (h0 72 0) (h0 72 1) n then h0 77 (6 * t + if c = 0 then h0 79 (n - 1) else h0 79 (c - 1)) else h0 77 (6 * t + h0 79 c))) (hF : ∀ k b, ¬ (k = 77 ∧ ∃ c, 0 ≤ c ∧ c < n ∧ b = 6 * t + h0 79 c) → h2 k b = h1 k b) (ht : tv = rd_bool (wk_turn (h0 72 0) (h0 72 1) n)) (T1 : ¬ tv = 0 → at_I h2 t n n h) (T0 : tv = 0 → at_I h2 t n 0 h) : ac_Post h0 t n h := by
  have e79 : h2 79 = h0 79 := funext fun c => (hF 79 c (by omega)).trans (A.2 79 c (by omega))
  have e76 : ∀ b, h2 76 b = h0 76 b := fun b => (hF 76 b (by omega)).trans (A.2 76 b (by omega))
  have fin : ∀ k b, ¬ (k = 76 ∧ ∃ c, 0 ≤ c ∧ c < n ∧ b = 6 * t + h0 79 c) → h k b = h2 k b := by
    intro k b hk
    by_cases z : tv = 0
    · exact (T0 z).2 k b (by rw [e79]; exact hk)
    · exact (T1 z).2 k b (by rw [e79]; exact hk)
  refine ⟨fun c c0 c1 => ⟨?_, ?_⟩, fun i j i0 i1 j0 j1 => ?_, fun k b h1 h2 => ?_⟩
  · by_cases z : wk_turn (h0 72 0) (h0 72 1) n
    · rw [if_pos z]
      have q := ((T1 (by rw [ht, rd_t z]; decide)).1 c c0 c1).1 c1
      rw [e79, e76] at q
      exact q
    · rw [if_neg z]
      have q := ((T0 (by rw [ht, rd_f z])).1 c c0 c1).2 c0
      rw [e79, e76] at q
      exact q
  · rw [fin 77 _ (by omega)]; exact hB c c0 c1
  · rw [fin 78 _ (by omega), hF 78 _ (by omega)]; exact A.1 i j i0 i1 j0 j1
  · rw [fin k b (fun z => h2 ⟨Or.inl z.1, z.2⟩), hF k b (fun z => h2 ⟨Or.inr z.1, z.2⟩)]; exact A.2 k b h1
set_option maxHeartbeats 4000000 in
set_option maxRecDepth 100000 in
theorem lp_X7_acts4 {g : ab_G} {h0 h : ab_H} {n t cw tv : Int} {Q : Option ab_V → ab_H → Prop} (E : ac_e h0 n) (hn : 2 ≤ n) (ht : 0 ≤ t ∧ t ≤ 400) (hf : ∀ c, 0 ≤ c → c < n → h0 76 (6 * t + h0 79 c) = 1 ∨ h0 76 (6 * t + h0 79 c) = -1) (A : ac_I h0 t n n 0 h) (hcw : cw = rd_bool (wk_chg (h0 72 0) (h0 72 1) n)) (htv : tv = rd_bool (wk_turn (h0 72 0) (h0 72 1) n)) (hq : ∀ h, ac_Post h0 t n h → Q none h) : Go g (ab_rm 2, 0, 0) m_X7_acts Q 145 [some (a_R 62), some (a_I n), some (a_I t), some (a_I cw), some (a_I tv), none, none] [] h := by
  have e79 : h 79 = h0 79 := funext fun c => A.2 79 c (by omega)
  have xn := E.1
  have E1 : ac_e h n := ⟨xn, by rw [e79]; exact E.2.1, by rw [e79]; exact E.2.2⟩
  refine go_iload_n rfl rfl ?_
  refine go_if_eq rfl (tgt := 239) (by decide) (fun c146 => ?_) (fun c146 => ?_)
  · refine go_iconst rfl ?_
    refine go_istore rfl (by decide) rfl ?_
    exact lp_X7_acts3 (h0 := h) E1 ht (fun c c0 c1 => by rw [e79, A.2 76 _ (by omega)]; exact hf c c0 c1) (fun h3 T1 T0 => hq h3 (ac_end A (fun c c0 c1 => by rw [if_neg (rd_n0 (by rw [← hcw]; exact c146)), A.2 77 _ (by omega)]) (fun _ _ _ => rfl) htv T1 T0)) 8 0 _ (by omega) (by omega) (by omega) ⟨fun c c0 c1 => ⟨fun z => by omega, fun _ => rfl⟩, fun _ _ _ => rfl⟩ (fun z => by omega) _
  · refine go_aload_n rfl rfl ?_
    refine go_getR rfl f_X7_52 rfl rfl ?_ -- bags
    refine go_bipush rfl ?_
    refine go_iload_n rfl rfl ?_
    refine go_imul rfl (by unfold ab_iok; omega) ?_
    refine go_aload_n rfl rfl ?_
    refine go_getR rfl f_X7_59 rfl rfl ?_ -- group
    refine go_iload_n rfl rfl ?_
    refine go_iconst rfl ?_
    refine go_isub rfl (by unfold ab_iok; omega) ?_
    refine go_iald rfl rfl (by omega) (by omega) ?_
    rw [e79]
    have xl := E.2.1 (n - 1) (by omega) (by omega)
    refine go_iadd rfl (by unfold ab_iok; omega) ?_
    refine go_iald rfl rfl (by omega) (by omega) ?_
    rw [A.2 77 _ (by omega)]
    refine go_istore rfl (by decide) rfl ?_
    refine go_iload_n rfl rfl ?_
    refine go_iconst rfl ?_
    refine go_isub rfl (by unfold ab_iok; omega) ?_
    refine go_istore rfl (by decide) rfl ?_
    refine lp_X7_acts2 E1 ht (fun h2 I2 a => ?_) 8 (n - 1) h (by omega) (by omega) (by omega) ⟨fun c c0 c1 => ⟨fun z => by omega, fun _ => rfl⟩, fun _ _ _ => rfl⟩
    refine go_aload_n rfl rfl ?_
    refine go_getR rfl f_X7_52 rfl rfl ?_ -- bags
    refine go_bipush rfl ?_
    refine go_iload_n rfl rfl ?_
    refine go_imul rfl (by unfold ab_iok; omega) ?_
    refine go_aload_n rfl rfl ?_
    refine go_getR rfl f_X7_59 rfl rfl ?_ -- group
    refine go_iconst rfl ?_
    refine go_iald rfl rfl (by omega) (by omega) ?_
    rw [show h2 79 = h0 79 by rw [← e79]; funext c; exact I2.2 79 c (by omega)]
    have x0 := E.2.1 0 (by omega) (by omega)
    refine go_iadd rfl (by unfold ab_iok; omega) ?_
    refine go_iload rfl rfl ?_
    refine go_iast rfl rfl (by omega) (by omega) ?_
    refine go_iconst rfl ?_
    refine go_istore rfl (by decide) rfl ?_
    have hbag : ∀ c, 0 ≤ c → c < n → (ab_hs h2 77 (6 * t + h0 79 0) (h0 77 (6 * t + h0 79 (n - 1)))) 77 (6 * t + h0 79 c) = h0 77 (6 * t + if c = 0 then h0 79 (n - 1) else h0 79 (c - 1)) := by
      intro c c0 c1
      by_cases z : c = 0
      · subst z; rw [ab_hs_eq, if_pos rfl]
      · have ne : h0 79 c ≠ h0 79 0 := fun y => z (E.2.2 c 0 c0 c1 (by omega) (by omega) y)
        have q := (I2.1 c c0 c1).1 (by omega)
        rw [e79] at q
        rw [ab_hs_i (by omega), if_neg z, q, A.2 77 _ (by omega)]
    have e2 : ∀ k b, ¬ (k = 77 ∧ ∃ c, 0 ≤ c ∧ c < n ∧ b = 6 * t + h0 79 c) → (ab_hs h2 77 (6 * t + h0 79 0) (h0 77 (6 * t + h0 79 (n - 1)))) k b = h k b := fun k b hk => by rw [ab_hs_ne (fun y => hk ⟨y.1, 0, by omega, by omega, y.2⟩)]; exact I2.2 k b (by rw [e79]; exact hk)
    have e279 : (ab_hs h2 77 (6 * t + h0 79 0) (h0 77 (6 * t + h0 79 (n - 1)))) 79 = h0 79 := by rw [← e79]; funext c; exact e2 79 c (by omega)
    exact lp_X7_acts3 (h0 := ab_hs h2 77 (6 * t + h0 79 0) (h0 77 (6 * t + h0 79 (n - 1)))) ⟨xn, (by rw [e279]; exact E.2.1), (by rw [e279]; exact E.2.2)⟩ ht (fun c c0 c1 => by rw [e279, e2 76 _ (by omega), A.2 76 _ (by omega)]; exact hf c c0 c1) (fun h3 T1 T0 => hq h3 (ac_end A (fun c c0 c1 => by rw [if_pos (rd_n1 (by rw [← hcw]; exact c146))]; exact hbag c c0 c1) e2 htv T1 T0)) 8 0 _ (by omega) (by omega) (by omega) ⟨fun c c0 c1 => ⟨fun z => by omega, fun _ => rfl⟩, fun _ _ _ => rfl⟩ (fun z => by omega) _
