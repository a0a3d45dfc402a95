/-! a walk's beginning, and its going on -/
theorem sp_in {h h' : ab_H} (hin : wk_in h) (hE : 1 ≤ h 10 9) (P : sp_Post h h') (ht : h 10 12 + 1 ≤ 1000) : wk_in h' := by
  obtain ⟨n1, n2, n3, n4, n5⟩ := hin
  obtain ⟨P1, P2, P3, P4, P5, P6⟩ := P
  refine ⟨by rw [P6 7 (by decide)]; exact n1, by rw [P6 8 (by decide)]; exact n2, by rw [P6 9 (by decide)]; exact n3, by rw [P2]; omega, fun i i0 i1 => ?_⟩
  rw [P6 7 (by decide)] at i1
  rw [P6 9 (by decide)]
  obtain ⟨e1, e2, e3⟩ := P1 i i0 i1
  obtain ⟨m1, m2⟩ := n5 i i0 i1
  constructor
  · show 0 ≤ (wk_row h').1 i ∧ (wk_row h').1 i ≤ _
    rw [e1]
    show 0 ≤ (if _ then h 11 i + wk_fc (h 10 9) (h 11 i) (h 13 i) else h 11 i) ∧ (if _ then h 11 i + wk_fc (h 10 9) (h 11 i) (h 13 i) else h 11 i) ≤ _
    have k : 0 ≤ h 11 i + wk_fc (h 10 9) (h 11 i) (h 13 i) ∧ h 11 i + wk_fc (h 10 9) (h 11 i) (h 13 i) ≤ h 10 9 := by
      unfold wk_fc
      by_cases z : (h 13 i = 1 ∧ h 11 i = h 10 9) ∨ (¬ h 13 i = 1 ∧ h 11 i = 0)
      · rw [if_pos z]; omega
      · rw [if_neg z]; omega
    by_cases z : wk_tb (h 10 8) i = true ∧ ¬ wk_std (h 15) (h 16) (h 17) i (h 10 12)
    · rw [if_pos z]; exact k
    · rw [if_neg z]; exact m1
  · show (wk_row h').2.1 i = 1 ∨ (wk_row h').2.1 i = -1
    rw [e2]
    have k := wk_pm (E := h 10 9) (p := h 11 i) m2 (wk_tb (h 10 8) i = true ∧ ¬ wk_std (h 15) (h 16) (h 17) i (h 10 12))
    show wk_fcm _ _ _ _ _ _ _ = 1 ∨ wk_fcm _ _ _ _ _ _ _ = -1
    unfold wk_fcm
    split
    · show -(if _ then wk_fc (h 10 9) (h 11 i) (h 13 i) else h 13 i) = 1 ∨ -(if _ then wk_fc (h 10 9) (h 11 i) (h 13 i) else h 13 i) = -1
      omega
    · exact k
/-- the walk at half minute t -/
noncomputable def wk_at (E : Int) (a b c : Int → Int) (m l0 l1 w : Int) (S0 : wk_S) : Nat → wk_S
  | 0 => S0
  | t + 1 => wk_step E a b c m l0 l1 w t (wk_at E a b c m l0 l1 w S0 t)
theorem wk_step_congr {E m l0 l1 w t : Int} {a b c a' b' c' : Int → Int} {S S' : wk_S} (hm : m ≤ 6) (h : wk_eq m S S') (hp : ∀ j, 0 ≤ j → j < m → a j = a' j ∧ b j = b' j ∧ c j = c' j) : wk_eq m (wk_step E a b c m l0 l1 w t S) (wk_step E a' b' c' m l0 l1 w t S') := wk_meet_congr hm (wk_go_congr h hp) (fun j j0 j1 => (h j j0 j1).1)
theorem wk_at_congr {E m l0 l1 w : Int} {a b c a' b' c' : Int → Int} {S S' : wk_S} (hm : m ≤ 6) (h : wk_eq m S S') (hp : ∀ j, 0 ≤ j → j < m → a j = a' j ∧ b j = b' j ∧ c j = c' j) : ∀ t, wk_eq m (wk_at E a b c m l0 l1 w S t) (wk_at E a' b' c' m l0 l1 w S' t)
  | 0 => h
  | t + 1 => wk_step_congr hm (wk_at_congr hm h hp t) hp
/-- road and use as the class has them: what a walk needs -/
def ro_in (h : ab_H) : Prop := (0 ≤ h 1 8 ∧ h 1 8 ≤ 6) ∧ (1 ≤ h 1 7 ∧ h 1 7 ≤ 40) ∧ (∀ i, 0 ≤ i → i < h 1 8 → (0 ≤ h 3 i ∧ h 3 i ≤ h 1 7) ∧ (h 4 i = 1 ∨ h 4 i = -1) ∧ (0 ≤ h 5 i ∧ h 5 i ≤ 40)) ∧ (∀ i, 0 ≤ i → i < 6 → (0 ≤ h 8 i ∧ h 8 i ≤ 99) ∧ (0 ≤ h 9 i ∧ h 9 i ≤ 99))
def sw_I (h0 : ab_H) (w i : Int) (h : ab_H) : Prop := (h 10 7 = h0 1 8 ∧ h 10 8 = w ∧ h 10 9 = 2 * h0 1 7 ∧ h 10 10 = h0 7 2 ∧ h 10 11 = h0 7 3 ∧ h 10 12 = 0 ∧ h 10 13 = 0) ∧ (∀ j, 0 ≤ j → j < i → h 11 j = 2 * h0 3 j ∧ h 13 j = h0 4 j ∧ h 14 j = j ∧ h 15 j = 2 * h0 5 j ∧ h 16 j = 2 * h0 8 j ∧ h 17 j = 2 * (h0 8 j + h0 9 j)) ∧ ∀ k, ¬ (k = 10 ∨ k = 11 ∨ k = 13 ∨ k = 14 ∨ k = 15 ∨ k = 16 ∨ k = 17) → h k = h0 k
set_option maxHeartbeats 4000000 in
set_option maxRecDepth 100000 in
theorem lp_X5_start {g : ab_G} {h0 : ab_H} {w : Int} {Q : Option ab_V → ab_H → Prop} (hr : ro_in h0) (hq : ∀ h, sw_I h0 w (h0 1 8) h → Q none h) : ∀ (f : Nat) (i : Int) (h : ab_H), 0 ≤ i → i ≤ h0 1 8 → h0 1 8 - i < f → sw_I h0 w i h → Go g (ab_rm 2, 0, 0) m_X5_start Q 52 [some (a_R 10), some (a_R 1), some (a_R 7), some (a_I w), some (a_I i)] [] h := by
  intro f
  induction f with
  | zero => intro i h h0i h1 hf; omega
  | succ f ih =>
    intro i h h0i h1 hf I
    obtain ⟨I1, I2, I3⟩ := id I
    have e7 := I1.1
    have n1 := hr.1
    have r7 := hr.2.1
    refine go_iload rfl rfl ?_
    refine go_aload_n rfl rfl ?_
    refine go_getI rfl f_X5_33 rfl rfl rfl ?_ -- men
    refine go_icmp_ge rfl (tgt := 142) (by decide) (fun c58 => ?_) (fun c58 => ?_)
    · exact go_ret rfl rfl (hq h (by rw [show h0 1 8 = i by omega]; exact ⟨I1, I2, I3⟩))
    · have r1 := hr.2.2.1 i h0i (by omega)
      have r2 := hr.2.2.2 i h0i (by omega)
      refine go_aload_n rfl rfl ?_
      refine go_getR rfl f_X5_9 rfl rfl ?_ -- place
      refine go_iload rfl rfl ?_
      refine go_iconst rfl ?_
      refine go_aload_n rfl rfl ?_
      refine go_getR rfl f_X5_66 rfl rfl ?_ -- pace
      refine go_iload rfl rfl ?_
      refine go_iald rfl rfl (by omega) (by omega) ?_
      try simp only [ab_hs_f, ne_eq, Nat.reduceEqDiff, not_false_eq_true, I3 3 (by decide), I3 4 (by decide), I3 5 (by decide), I3 8 (by decide), I3 9 (by decide)]
      refine go_imul rfl (by unfold ab_iok; omega) ?_
      refine go_iast rfl rfl (by omega) (by omega) ?_
      refine go_aload_n rfl rfl ?_
      refine go_getR rfl f_X5_18 rfl rfl ?_ -- facing
      refine go_iload rfl rfl ?_
      refine go_aload_n rfl rfl ?_
      refine go_getR rfl f_X5_69 rfl rfl ?_ -- facing
      refine go_iload rfl rfl ?_
      refine go_iald rfl rfl (by omega) (by omega) ?_
      try simp only [ab_hs_f, ne_eq, Nat.reduceEqDiff, not_false_eq_true, I3 3 (by decide), I3 4 (by decide), I3 5 (by decide), I3 8 (by decide), I3 9 (by decide)]
      refine go_iast rfl rfl (by omega) (by omega) ?_
      refine go_aload_n rfl rfl ?_
      refine go_getR rfl f_X5_21 rfl rfl ?_ -- load
      refine go_iload rfl rfl ?_
      refine go_iload rfl rfl ?_
      refine go_iast rfl rfl (by omega) (by omega) ?_
      refine go_aload_n rfl rfl ?_
      refine go_getR rfl f_X5_24 rfl rfl ?_ -- setOut
      refine go_iload rfl rfl ?_
      refine go_iconst rfl ?_
      refine go_aload_n rfl rfl ?_
      refine go_getR rfl f_X5_70 rfl rfl ?_ -- setOut
      refine go_iload rfl rfl ?_
      refine go_iald rfl rfl (by omega) (by omega) ?_
      try simp only [ab_hs_f, ne_eq, Nat.reduceEqDiff, not_false_eq_true, I3 3 (by decide), I3 4 (by decide), I3 5 (by decide), I3 8 (by decide), I3 9 (by decide)]
      refine go_imul rfl (by unfold ab_iok; omega) ?_
      refine go_iast rfl rfl (by omega) (by omega) ?_
      refine go_aload_n rfl rfl ?_
      refine go_iload rfl rfl ?_
      refine go_aload_n rfl rfl ?_
      refine go_getR rfl f_X5_71 rfl rfl ?_ -- standMinute
      refine go_iload rfl rfl ?_
      refine go_iald rfl rfl (by omega) (by omega) ?_
      try simp only [ab_hs_f, ne_eq, Nat.reduceEqDiff, not_false_eq_true, I3 3 (by decide), I3 4 (by decide), I3 5 (by decide), I3 8 (by decide), I3 9 (by decide)]
      refine go_aload_n rfl rfl ?_
      refine go_getR rfl f_X5_74 rfl rfl ?_ -- standMany
      refine go_iload rfl rfl ?_
      refine go_iald rfl rfl (by omega) (by omega) ?_
      try simp only [ab_hs_f, ne_eq, Nat.reduceEqDiff, not_false_eq_true, I3 3 (by decide), I3 4 (by decide), I3 5 (by decide), I3 8 (by decide), I3 9 (by decide)]
      refine go_cV3V (M' := m_X5_standInstead) rfl l_X5_77 k_X5_standInstead (s_X5_standInstead (by omega) (by omega) (by omega)) rfl rfl rfl rfl (by decide) (Nat.le_of_ble_eq_true rfl) (fun h133 q133 => ?_) -- X5_standInstead
      subst q133
      refine go_iinc rfl rfl (by decide) rfl (by unfold ab_iok; omega) ?_
      refine go_goto rfl (tgt := 52) (by decide) ?_
      refine ih (i + 1) _ (by omega) (by omega) (by omega) ⟨?_, fun j j0 j1 => ?_, fun k hk => ?_⟩
      · simp only [ab_hs_f, ne_eq, Nat.reduceEqDiff, not_false_eq_true]; exact I1
      · by_cases e : j = i
        · subst e; simp only [ab_hs_f, ab_hs_eq, ne_eq, Nat.reduceEqDiff, not_false_eq_true]; exact ⟨trivial, trivial, trivial, trivial, trivial, trivial⟩
        · simp only [ab_hs_f, ab_hs_i e, ne_eq, Nat.reduceEqDiff, not_false_eq_true]; exact I2 j j0 (by omega)
      · rw [ab_hs_f (by omega), ab_hs_f (by omega), ab_hs_f (by omega), ab_hs_f (by omega), ab_hs_f (by omega), ab_hs_f (by omega)]; exact I3 k hk
set_option maxHeartbeats 4000000 in
set_option maxRecDepth 100000 in
theorem s_X5_start {g : ab_G} {h : ab_H} {w : Int} (hr : ro_in h) : MethV g 2 m_X5_start [a_R 10, a_R 1, a_R 7, a_I w] h (fun h' => sw_I h w (h 1 8) h') := by
  refine Meth.of_go k_X5_start (Nat.le_of_ble_eq_true rfl) ?_
  show Go g _ m_X5_start _ 0 [some (a_R 10), some (a_R 1), some (a_R 7), some (a_I w), none] [] h
  have r7 := hr.2.1
  refine go_aload_n rfl rfl ?_
  refine go_aload_n rfl rfl ?_
  refine go_getI rfl f_X5_56 rfl rfl rfl ?_ -- men
  refine go_putI rfl f_X5_33 rfl rfl rfl ?_ -- men
  refine go_aload_n rfl rfl ?_
  refine go_iload_n rfl rfl ?_
  refine go_putI rfl f_X5_37 rfl rfl rfl ?_ -- there
  refine go_aload_n rfl rfl ?_
  refine go_iconst rfl ?_
  refine go_aload_n rfl rfl ?_
  refine go_getI rfl f_X5_59 rfl rfl rfl ?_ -- length
  simp only [ab_hs_f, ab_hs_i, ab_hs_eq, ne_eq, not_false_eq_true, Nat.reduceEqDiff, Int.reduceEq, reduceCtorEq]
  refine go_imul rfl (by unfold ab_iok; omega) ?_
  refine go_putI rfl f_X5_40 rfl rfl rfl ?_ -- end
  refine go_aload_n rfl rfl ?_
  refine go_aload_n rfl rfl ?_
  refine go_getI rfl f_X5_62 rfl rfl rfl ?_ -- lawOfTwo
  simp only [ab_hs_f, ab_hs_i, ab_hs_eq, ne_eq, not_false_eq_true, Nat.reduceEqDiff, Int.reduceEq, reduceCtorEq]
  refine go_putI rfl f_X5_43 rfl rfl rfl ?_ -- lawOfTwo
  refine go_aload_n rfl rfl ?_
  refine go_aload_n rfl rfl ?_
  refine go_getI rfl f_X5_65 rfl rfl rfl ?_ -- lawOfMore
  simp only [ab_hs_f, ab_hs_i, ab_hs_eq, ne_eq, not_false_eq_true, Nat.reduceEqDiff, Int.reduceEq, reduceCtorEq]
  refine go_putI rfl f_X5_46 rfl rfl rfl ?_ -- lawOfMore
  refine go_aload_n rfl rfl ?_
  refine go_iconst rfl ?_
  refine go_putI rfl f_X5_49 rfl rfl rfl ?_ -- time
  refine go_aload_n rfl rfl ?_
  refine go_lconst rfl ?_
  refine go_putL rfl f_X5_52 rfl rfl rfl (Or.inl ⟨rfl, rfl⟩) ?_ -- pairs
  refine go_iconst rfl ?_
  refine go_istore rfl (by decide) rfl ?_
  refine lp_X5_start hr (fun h2 I => ⟨rfl, I⟩) 8 0 _ (by omega) (by have := hr.1; omega) (by have := hr.1; omega) ⟨⟨?_, ?_, ?_, ?_, ?_, ?_, ?_⟩, fun j j0 j1 => by omega, fun k hk => ?_⟩
  · simp only [ab_hs_f, ab_hs_i, ab_hs_eq, ne_eq, not_false_eq_true, Nat.reduceEqDiff, Int.reduceEq, reduceCtorEq]
  · simp only [ab_hs_f, ab_hs_i, ab_hs_eq, ne_eq, not_false_eq_true, Nat.reduceEqDiff, Int.reduceEq, reduceCtorEq]
  · simp only [ab_hs_f, ab_hs_i, ab_hs_eq, ne_eq, not_false_eq_true, Nat.reduceEqDiff, Int.reduceEq, reduceCtorEq]
  · simp only [ab_hs_f, ab_hs_i, ab_hs_eq, ne_eq, not_false_eq_true, Nat.reduceEqDiff, Int.reduceEq, reduceCtorEq]
  · simp only [ab_hs_f, ab_hs_i, ab_hs_eq, ne_eq, not_false_eq_true, Nat.reduceEqDiff, Int.reduceEq, reduceCtorEq]
  · simp only [ab_hs_f, ab_hs_i, ab_hs_eq, ne_eq, not_false_eq_true, Nat.reduceEqDiff, Int.reduceEq, reduceCtorEq]
  · rw [ab_hs_eq]; rfl
  · rw [ab_hs_f (by omega), ab_hs_f (by omega), ab_hs_f (by omega), ab_hs_f (by omega), ab_hs_f (by omega), ab_hs_f (by omega), ab_hs_f (by omega)]
