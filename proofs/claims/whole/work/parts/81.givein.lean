/-! till when and where to give it in -/
theorem cm_lt {m : Int} {W : tb_W} {p u q T : Int} (hu : 0 ≤ u) (hT : T ≤ 400) : tb_cm m W p q T (2 * u) ↔ tb_lt m W p u q ≠ -1 ∧ tb_lt m W p u q ≤ T := by
  constructor
  · rintro ⟨k, k0, k1, k2, k3, s, s0, s1, s2⟩
    have e := fl_tk hu k0 (by omega) k2 k3
    have el : tb_lt m W p u q = fs k 401 (fun t => tb_bp m W t (tb_bt m W k p) = 2 * q) := by
      unfold tb_lt tb_lb; rw [e, if_neg (by omega), if_neg (by omega)]; rfl
    rw [el]
    have F := fs_ok (lo := k) (hi := 401) (q := fun t => tb_bp m W t (tb_bt m W k p) = 2 * q) (by omega)
    rcases F with ⟨a, b⟩ | ⟨a, b, c, d⟩
    · exact absurd s2 (b s s0 (by omega))
    · refine ⟨by omega, Int.not_lt.mp fun z => d s s0 (by omega) s2⟩
  · rintro ⟨a, b⟩
    have tk : tb_tk m W p u ≠ -1 := fun z => by unfold tb_lt at a; rw [if_pos z] at a; exact a rfl
    have tki := tb_tk_in hu tk
    have F0 : Fst (2 * u) 401 (fun t => tb_bt m W t p ≠ -1) (tb_tk m W p u) := fs_ok (by omega)
    have el : tb_lt m W p u q = fs (tb_tk m W p u) 401 (fun t => tb_bp m W t (tb_bt m W (tb_tk m W p u) p) = 2 * q) := by
      unfold tb_lt tb_lb; rw [if_neg tk, if_neg tk]; rfl
    have F := fs_ok (lo := tb_tk m W p u) (hi := 401) (q := fun t => tb_bp m W t (tb_bt m W (tb_tk m W p u) p) = 2 * q) (by omega)
    rw [← el] at F
    rcases F with ⟨z, -⟩ | ⟨c, d, e, -⟩
    · exact absurd z a
    · rcases F0 with ⟨z, -⟩ | ⟨-, -, -, n⟩
      · exact absurd z tk
      · exact ⟨_, tki.1, by omega, tki.2.2, fun j j0 j1 => Classical.byContradiction fun z => n j j0 j1 z, _, c, b, e⟩
/-- the best over the houses below j -/
def gv_J (c : Int → Int → Prop) (j hs mn : Int) : Prop := (hs = -1 ∧ mn = -1 ∧ ∀ u, 0 ≤ u → u ≤ 199 → ∀ i, 0 ≤ i → i < j → ¬ c i u) ∨ ((0 ≤ hs ∧ hs < j) ∧ (0 ≤ mn ∧ mn ≤ 199) ∧ c hs mn ∧ (∀ u, mn < u → u ≤ 199 → ∀ i, 0 ≤ i → i < j → ¬ c i u) ∧ ∀ i, 0 ≤ i → i < hs → ¬ c i mn)
theorem gv_nx {c : Int → Int → Prop} {j hs mn z : Int} (hj : 0 ≤ j) (J : gv_J c j hs mn) (L : Lst (c j) z) : (mn < z → gv_J c (j + 1) j z) ∧ (z ≤ mn → gv_J c (j + 1) hs mn) := by
  have ex : ∀ (q : Int → Prop), q j → (∀ i, 0 ≤ i → i < j → q i) → ∀ i, 0 ≤ i → i < j + 1 → q i := fun q a b i i0 i1 => by
    by_cases e : i = j
    · subst e; exact a
    · exact b i i0 (by omega)
  constructor
  · intro hz
    have mn0 : -1 ≤ mn := by rcases J with ⟨a, b, -⟩ | ⟨-, b, -⟩ <;> omega
    rcases L with ⟨a, -⟩ | ⟨a, b, d, e⟩
    · omega
    · have J2 : ∀ u, mn < u → u ≤ 199 → ∀ i, 0 ≤ i → i < j → ¬ c i u := by
        rcases J with ⟨-, x, y⟩ | ⟨-, -, -, y, -⟩
        · exact fun u u0 u1 => y u (by omega) u1
        · exact y
      exact Or.inr ⟨by omega, by omega, d, fun u u0 u1 => ex (fun i => ¬ c i u) (e u u0 u1) (J2 u (by omega) u1), J2 z hz (by omega)⟩
  · intro hz
    rcases J with ⟨x, y, w⟩ | ⟨x, y, w, v, s⟩
    · refine Or.inl ⟨x, y, fun u u0 u1 => ex (fun i => ¬ c i u) ?_ (w u u0 u1)⟩
      rcases L with ⟨-, a⟩ | ⟨a, -⟩
      · exact a u u0 u1
      · omega
    · refine Or.inr ⟨by omega, y, w, fun u u0 u1 => ex (fun i => ¬ c i u) ?_ (v u u0 u1), s⟩
      rcases L with ⟨-, a⟩ | ⟨a, -, -, b⟩
      · exact a u (by omega) u1
      · exact b u (by omega) u1
theorem gv_uniq {c : Int → Int → Prop} {j hs mn hs' mn' : Int} (J : gv_J c j hs mn) (J' : gv_J c j hs' mn') : hs = hs' ∧ mn = mn' := by
  rcases J with ⟨a1, a2, a3⟩ | ⟨a1, a2, a3, a4, a5⟩ <;> rcases J' with ⟨b1, b2, b3⟩ | ⟨b1, b2, b3, b4, b5⟩
  · omega
  · exact absurd b3 (a3 _ b2.1 b2.2 _ b1.1 b1.2)
  · exact absurd a3 (b3 _ a2.1 a2.2 _ a1.1 a1.2)
  · have e : mn = mn' := by
      rcases Int.lt_trichotomy mn mn' with y | y | y
      · exact absurd b3 (a4 _ y b2.2 _ b1.1 b1.2)
      · exact y
      · exact absurd a3 (b4 _ y a2.2 _ a1.1 a1.2)
    subst e
    refine ⟨?_, rfl⟩
    rcases Int.lt_trichotomy hs hs' with y | y | y
    · exact absurd a3 (b5 _ a1.1 y)
    · exact y
    · exact absurd b3 (a5 _ b1.1 y)
noncomputable def gv_n (c : Int → Int → Prop) (j : Int) : Int × Int := Classical.epsilon (fun r : Int × Int => gv_J c j r.1 r.2)
theorem gv_eq {c : Int → Int → Prop} {j hs mn : Int} (J : gv_J c j hs mn) : gv_n c j = (hs, mn) := by
  have : gv_J c j (gv_n c j).1 (gv_n c j).2 := Classical.epsilon_spec (p := fun r : Int × Int => gv_J c j r.1 r.2) ⟨(hs, mn), J⟩
  have e := gv_uniq this J
  exact Prod.ext e.1 e.2
def gv_c (h : ab_H) (q T i u : Int) : Prop := tb_cm (h 1 8) (TW h) (h 6 i) q T (2 * u)
noncomputable def gv_r (h : ab_H) (q T w : Int) : Int := if w = 0 then (gv_n (gv_c h q T) (h 1 9)).1 else (gv_n (gv_c h q T) (h 1 9)).2
noncomputable def gv_F (h : ab_H) (q T w : Int) : Int := if (0 ≤ q ∧ q ≤ h 1 7) ∧ (0 ≤ T ∧ T ≤ 400) ∧ 0 ≤ w ∧ w ≤ 1 then gv_r h q T w else -2
set_option maxHeartbeats 4000000 in
set_option maxRecDepth 100000 in
theorem lp_X6_giveIn {g : ab_G} {h : ab_H} {W : tb_W} {m q T w : Int} {Q : Option ab_V → ab_H → Prop} (C : ct m W h) (hP : tb_pm m W) (hT : 0 ≤ T ∧ T ≤ 400) (hl : h 1 7 ≤ 40) (hqq : 0 ≤ q ∧ q ≤ 40) (h9 : 0 ≤ h 1 9 ∧ h 1 9 ≤ 6) (hH : ∀ i, 0 ≤ i → i < h 1 9 → 0 ≤ h 6 i ∧ h 6 i ≤ h 1 7) (hq : ∀ hs mn z, gv_J (fun i u => tb_cm m W (h 6 i) q T (2 * u)) (h 1 9) hs mn → z = (if w = 0 then hs else mn) → Q (some (a_I z)) h) : ∀ (f : Nat) (j hs mn : Int), 0 ≤ j → j ≤ h 1 9 → h 1 9 - j < f → gv_J (fun i u => tb_cm m W (h 6 i) q T (2 * u)) j hs mn → ∀ v, Go g (ab_rm 6, 0, 0) m_X6_giveIn Q 40 [some (a_R 0), some (a_I q), some (a_I T), some (a_I w), some (a_I hs), some (a_I mn), some (a_I j), v] [] h := by
  intro f
  induction f with
  | zero => intro j hs mn h0j h1 hf; omega
  | succ f ih =>
    intro j hs mn h0j h1 hf J v
    refine go_iload rfl rfl ?_
    refine go_aload_n rfl rfl ?_
    refine go_getR rfl f_X6_10 rfl rfl ?_ -- road
    refine go_getI rfl f_X6_86 rfl rfl rfl ?_ -- houses
    refine go_icmp_ge rfl (tgt := 94) (by decide) (fun c49 => ?_) (fun c49 => ?_)
    · refine go_iload_n rfl rfl ?_
      refine go_if_ne rfl (tgt := 103) (by decide) (fun c95 => ?_) (fun c95 => ?_)
      · refine go_iload rfl rfl ?_
        exact go_iret rfl (Or.inl rfl) (hq hs mn _ (by rw [show j = h 1 9 by omega] at J; exact J) (if_neg c95).symm)
      · refine go_iload rfl rfl ?_
        refine go_goto rfl (tgt := 105) (by decide) ?_
        exact go_iret rfl (Or.inl rfl) (hq hs mn _ (by rw [show j = h 1 9 by omega] at J; exact J) (if_pos c95).symm)
    · refine go_aload_n rfl rfl ?_
      refine go_getR rfl f_X6_33 rfl rfl ?_ -- course
      refine go_aload_n rfl rfl ?_
      refine go_getR rfl f_X6_10 rfl rfl ?_ -- road
      refine go_getR rfl f_X6_89 rfl rfl ?_ -- housePace
      refine go_iload rfl rfl ?_
      refine go_iald rfl rfl (by omega) (by omega) ?_
      refine go_iload_n rfl rfl ?_
      refine go_iload_n rfl rfl ?_
      refine go_cV3I (M' := m_X0_latestMinute) rfl l_X6_161 k_X0_latestMinute (s_X0_latestMinute C hP hT (by have := hH j h0j (by omega); omega) (by omega)) rfl rfl rfl rfl (by decide) (Nat.le_of_ble_eq_true rfl) (fun z68 h68 q68 => ?_) -- X0_latestMinute
      obtain ⟨rfl, q68⟩ := q68
      have q68 : Lst ((fun i u => tb_cm m W (h 6 i) q T (2 * u)) j) z68 := q68
      refine go_istore rfl (by decide) rfl ?_
      refine go_iload rfl rfl ?_
      refine go_iload rfl rfl ?_
      refine go_icmp_le rfl (tgt := 88) (by decide) (fun c77 => ?_) (fun c77 => ?_)
      · refine go_iinc rfl rfl (by decide) rfl (by unfold ab_iok; omega) ?_
        refine go_goto rfl (tgt := 40) (by decide) ?_
        exact ih (j + 1) _ _ (by omega) (by omega) (by omega) ((gv_nx h0j J q68).2 c77) _
      · refine go_iload rfl rfl ?_
        refine go_istore rfl (by decide) rfl ?_
        refine go_iload rfl rfl ?_
        refine go_istore rfl (by decide) rfl ?_
        refine go_iinc rfl rfl (by decide) rfl (by unfold ab_iok; omega) ?_
        refine go_goto rfl (tgt := 40) (by decide) ?_
        exact ih (j + 1) _ _ (by omega) (by omega) (by omega) ((gv_nx h0j J q68).1 (by omega)) _
set_option maxHeartbeats 4000000 in
set_option maxRecDepth 100000 in
theorem c_giveIn {g : ab_G} {h : ab_H} {q T w : Int} (I : Inv h) : MethI g 6 m_X6_giveIn [a_R 0, a_I q, a_I T, a_I w] h (fun z h' => z = gv_F h q T w ∧ CF h h' ∧ Inv h') := by
  have r1 := I.ro.1
  refine Meth.of_go k_X6_giveIn (Nat.le_of_ble_eq_true rfl) ?_
  show Go g _ m_X6_giveIn _ 0 [some (a_R 0), some (a_I q), some (a_I T), some (a_I w), none, none, none, none] [] h
  refine go_aload_n rfl rfl ?_
  refine go_iload_n rfl rfl ?_
  refine go_cV1I (M' := m_X6_isPace) rfl l_X6_148 k_X6_isPace (s_X6_isPace) rfl rfl rfl rfl (by decide) (Nat.le_of_ble_eq_true rfl) (fun z2 h2 q2 => ?_) -- X6_isPace
  obtain ⟨rfl, rfl⟩ := q2
  refine go_if_eq rfl (tgt := 24) (by decide) (fun c5 => ?_) (fun c5 => ?_)
  · refine go_bipush rfl ?_
    exact go_iret rfl (Or.inl rfl) ⟨_, rfl, by unfold gv_F; rw [if_neg (by have := rd_n0 c5; omega)], CF.refl h, I⟩
  · refine go_iload_n rfl rfl ?_
    refine go_cS1I (M' := m_X6_isTime) rfl l_X6_104 k_X6_isTime (s_X6_isTime) rfl (by decide) (Nat.le_of_ble_eq_true rfl) (fun z9 h9 q9 => ?_) -- X6_isTime
    obtain ⟨rfl, rfl⟩ := q9
    refine go_if_eq rfl (tgt := 24) (by decide) (fun c12 => ?_) (fun c12 => ?_)
    · refine go_bipush rfl ?_
      exact go_iret rfl (Or.inl rfl) ⟨_, rfl, by unfold gv_F; rw [if_neg (by have := rd_n0 c12; omega)], CF.refl h, I⟩
    · refine go_iload_n rfl rfl ?_
      refine go_if_lt rfl (tgt := 24) (by decide) (fun c16 => ?_) (fun c16 => ?_)
      · refine go_bipush rfl ?_
        exact go_iret rfl (Or.inl rfl) ⟨_, rfl, by unfold gv_F; rw [if_neg (by skip; omega)], CF.refl h, I⟩
      · refine go_iload_n rfl rfl ?_
        refine go_iconst rfl ?_
        refine go_icmp_le rfl (tgt := 27) (by decide) (fun c21 => ?_) (fun c21 => ?_)
        · have y1 := rd_n1 c5
          have y2 := rd_n1 c12
          have l1 := I.ro.2.1
          refine go_aload_n rfl rfl ?_
          refine go_cV0V (M' := m_X6_refresh) rfl l_X6_107 k_X6_refresh (j_refresh I) rfl rfl rfl rfl (by decide) (Nat.le_of_ble_eq_true rfl) (fun h28 q28 => ?_) -- X6_refresh
          obtain ⟨F1, I1, T1⟩ := q28
          refine go_iconst rfl ?_
          refine go_istore rfl (by decide) rfl ?_
          refine go_iconst rfl ?_
          refine go_istore rfl (by decide) rfl ?_
          refine go_iconst rfl ?_
          refine go_istore rfl (by decide) rfl ?_
          exact lp_X6_giveIn T1.1 (TW_pm I) y2 (by rw [F1.1 1 (by decide)]; omega) (by omega) I1.hs.1 I1.hs.2 (fun hs mn z J e => ⟨_, rfl, by unfold gv_F gv_r; rw [if_pos (by omega)]; rw [F1.1 1 (by decide), F1.1 6 (by decide)] at J; have e2 := gv_eq J; unfold gv_c; rw [e2]; exact e, F1, I1⟩) 8 0 (-1) (-1) (by omega) I1.hs.1.1 (by have := I1.hs.1; omega) (Or.inl ⟨rfl, rfl, fun u u0 u1 i i0 i1 => by omega⟩) _
        · refine go_bipush rfl ?_
          exact go_iret rfl (Or.inl rfl) ⟨_, rfl, by unfold gv_F; rw [if_neg (by skip; omega)], CF.refl h, I⟩
/-- while the reference seeks at minute u, houses below j -/
def gm_J (c : Int → Int → Prop) (H u j hs mn : Int) : Prop := (hs = -1 ∧ mn = -1 ∧ (∀ v, u < v → v ≤ 199 → ∀ i, 0 ≤ i → i < H → ¬ c i v) ∧ ∀ i, 0 ≤ i → i < j → ¬ c i u) ∨ (hs ≠ -1 ∧ gv_J c H hs mn)
theorem gm_nx {c : Int → Int → Prop} {H u j : Int} (hu : 0 ≤ u ∧ u ≤ 199) (hj : 0 ≤ j ∧ j < H) (J : gm_J c H u j (-1) (-1)) : (c j u → gm_J c H u (j + 1) j u) ∧ (¬ c j u → gm_J c H u (j + 1) (-1) (-1)) := by
  rcases J with ⟨-, -, a, b⟩ | ⟨a, -⟩
  · exact ⟨fun z => Or.inr ⟨by omega, Or.inr ⟨hj, hu, z, a, b⟩⟩, fun z => Or.inl ⟨rfl, rfl, a, fun i i0 i1 => by
      by_cases e : i = j
      · subst e; exact z
      · exact b i i0 (by omega)⟩⟩
  · exact absurd rfl a
theorem gm_up {c : Int → Int → Prop} {H u hs mn : Int} (J : gm_J c H u H hs mn) : gm_J c H (u - 1) 0 hs mn := by
  rcases J with ⟨x, y, a, b⟩ | a
  · refine Or.inl ⟨x, y, fun v v0 v1 => ?_, fun i i0 i1 => by omega⟩
    by_cases e : v = u
    · subst e; exact b
    · exact a v (by omega) v1
  · exact Or.inr a
theorem gm_fd {c : Int → Int → Prop} {H u j hs mn : Int} (J : gm_J c H u j hs mn) (h : hs ≠ -1) (u' j' : Int) : gm_J c H u' j' hs mn := by
  rcases J with ⟨x, -⟩ | a
  · exact absurd x h
  · exact Or.inr a
theorem gm_end {c : Int → Int → Prop} {H hs mn : Int} (J : gm_J c H (-1) 0 hs mn) : gv_J c H hs mn := by
  rcases J with ⟨x, y, a, b⟩ | a
  · exact Or.inl ⟨x, y, fun u u0 u1 => a u (by omega) u1⟩
  · exact a.2
set_option maxHeartbeats 4000000 in
set_option maxRecDepth 100000 in
theorem lp_X7_giveIn2 {g : ab_G} {h0 : ab_H} {W : tb_W} {m q T w u : Int} {Q : Option ab_V → ab_H → Prop} (T1 : mtw m 63 W h0) (hP : tb_pm m W) (R : MR h0) (hT : 0 ≤ T ∧ T ≤ 400) (hl : h0 1 7 ≤ 40) (hqq : 0 ≤ q ∧ q ≤ 40) (h9 : 0 ≤ h0 1 9 ∧ h0 1 9 ≤ 6) (hH : ∀ i, 0 ≤ i → i < h0 1 9 → 0 ≤ h0 6 i ∧ h0 6 i ≤ h0 1 7) (hu : 0 ≤ u ∧ u ≤ 199) (K : ∀ h hs mn, gm_J (fun i u => tb_cm m W (h0 6 i) q T (2 * u)) (h0 1 9) (u - 1) 0 hs mn → LF h0 h → (hs = -1 → mn = -1) → ∀ v, Go g (ab_rm 5, 0, 0) m_X7_giveInOf Q 84 [some (a_R 62), some (a_I q), some (a_I T), some (a_I w), some (a_I hs), some (a_I mn), some (a_I u), v] [] h) : ∀ (f : Nat) (j hs mn : Int) (h : ab_H), 0 ≤ j → j ≤ h0 1 9 → h0 1 9 - j < f → (hs = -1 → mn = -1) → gm_J (fun i u => tb_cm m W (h0 6 i) q T (2 * u)) (h0 1 9) u j hs mn → LF h0 h → Go g (ab_rm 5, 0, 0) m_X7_giveInOf Q 25 [some (a_R 62), some (a_I q), some (a_I T), some (a_I w), some (a_I hs), some (a_I mn), some (a_I u), some (a_I j)] [] h := by
  intro f
  induction f with
  | zero => intro j hs mn h h0j h1 hf; omega
  | succ f ih =>
    intro j hs mn h h0j h1 hf hmn J F
    have R2 := F.MR R
    have e13 : h 62 13 = h0 1 9 := by have z : h 62 13 = h 1 9 := R2.2.2.1; rw [z, F.1 1 (by decide)]
    have e71 : ∀ i, 0 ≤ i → i < h0 1 9 → h 71 i = h0 6 i := fun i i0 i1 => by have z : h 71 i = h 6 i := R2.2.2.2.2 i i0 (by show i < h 62 13; omega); rw [z, F.1 6 (by decide)]
    refine go_iload rfl rfl ?_
    refine go_aload_n rfl rfl ?_
    refine go_getI rfl f_X7_113 rfl rfl rfl ?_ -- houses
    refine go_icmp_ge rfl (tgt := 84) (by decide) (fun c31 => ?_) (fun c31 => ?_)
    · exact K h hs mn (by rw [show j = h0 1 9 by omega] at J; exact gm_up J) F hmn _
    · refine go_iload rfl rfl ?_
      refine go_iconst rfl ?_
      refine go_icmp_ne rfl (tgt := 84) (by decide) (fun c37 => ?_) (fun c37 => ?_)
      · exact K h hs mn (gm_fd J c37 _ _) F hmn _
      · refine go_aload_n rfl rfl ?_
        refine go_aload_n rfl rfl ?_
        refine go_getR rfl f_X7_34 rfl rfl ?_ -- housePace
        refine go_iload rfl rfl ?_
        refine go_iald rfl rfl (by omega) (by omega) ?_
        refine go_iload rfl rfl ?_
        refine go_iload_n rfl rfl ?_
        refine go_cV3V (M' := m_X7_findLetter) rfl l_X7_243 k_X7_findLetter (s_X7_findLetter (F.mtw T1) hP (by rw [e71 j h0j (by omega)]; have := hH j h0j (by omega); omega) hu hqq) rfl rfl rfl rfl (by decide) (Nat.le_of_ble_eq_true rfl) (fun h51 q51 => ?_) -- X7_findLetter
        obtain ⟨-, k2, F3⟩ := q51
        rw [e71 j h0j (by omega)] at k2
        obtain ⟨rfl, rfl⟩ : hs = -1 ∧ mn = -1 := ⟨c37, hmn c37⟩
        have JJ := J
        refine go_aload_n rfl rfl ?_
        refine go_getI rfl f_X7_232 rfl rfl rfl ?_ -- letterTime
        refine go_iconst rfl ?_
        refine go_icmp_eq rfl (tgt := 78) (by decide) (fun c59 => ?_) (fun c59 => ?_)
        · refine go_iinc rfl rfl (by decide) rfl (by unfold ab_iok; omega) ?_
          refine go_goto rfl (tgt := 25) (by decide) ?_
          exact ih (j + 1) _ _ _ (by omega) (by omega) (by omega) (fun z => by first | rfl | omega) ((gm_nx hu ⟨h0j, by omega⟩ JJ).2 (fun z => ((cm_lt (m := m) (W := W) (p := h0 6 j) (u := u) (q := q) (T := T) hu.1 hT.2).mp z).1 (by rw [← k2]; exact c59))) (F.trans F3)
        · refine go_aload_n rfl rfl ?_
          refine go_getI rfl f_X7_232 rfl rfl rfl ?_ -- letterTime
          refine go_iload_n rfl rfl ?_
          refine go_icmp_gt rfl (tgt := 78) (by decide) (fun c67 => ?_) (fun c67 => ?_)
          · refine go_iinc rfl rfl (by decide) rfl (by unfold ab_iok; omega) ?_
            refine go_goto rfl (tgt := 25) (by decide) ?_
            exact ih (j + 1) _ _ _ (by omega) (by omega) (by omega) (fun z => by first | rfl | omega) ((gm_nx hu ⟨h0j, by omega⟩ JJ).2 (fun z => by have y := ((cm_lt (m := m) (W := W) (p := h0 6 j) (u := u) (q := q) (T := T) hu.1 hT.2).mp z).2; rw [← k2] at y; omega)) (F.trans F3)
          · refine go_iload rfl rfl ?_
            refine go_istore rfl (by decide) rfl ?_
            refine go_iload rfl rfl ?_
            refine go_istore rfl (by decide) rfl ?_
            refine go_iinc rfl rfl (by decide) rfl (by unfold ab_iok; omega) ?_
            refine go_goto rfl (tgt := 25) (by decide) ?_
            exact ih (j + 1) _ _ _ (by omega) (by omega) (by omega) (fun z => by first | rfl | omega) ((gm_nx hu ⟨h0j, by omega⟩ JJ).1 ((cm_lt (m := m) (W := W) (p := h0 6 j) (u := u) (q := q) (T := T) hu.1 hT.2).mpr ⟨by rw [← k2]; exact c59, by rw [← k2]; omega⟩)) (F.trans F3)
set_option maxHeartbeats 4000000 in
set_option maxRecDepth 100000 in
theorem lp_X7_giveInOf {g : ab_G} {h0 : ab_H} {W : tb_W} {m q T w : Int} {Q : Option ab_V → ab_H → Prop} (T1 : mtw m 63 W h0) (hP : tb_pm m W) (R : MR h0) (hT : 0 ≤ T ∧ T ≤ 400) (hl : h0 1 7 ≤ 40) (hqq : 0 ≤ q ∧ q ≤ 40) (h9 : 0 ≤ h0 1 9 ∧ h0 1 9 ≤ 6) (hH : ∀ i, 0 ≤ i → i < h0 1 9 → 0 ≤ h0 6 i ∧ h0 6 i ≤ h0 1 7) (hq : ∀ h hs mn z, gv_J (fun i u => tb_cm m W (h0 6 i) q T (2 * u)) (h0 1 9) hs mn → z = (if w = 0 then hs else mn) → LF h0 h → Q (some (a_I z)) h) : ∀ (f : Nat) (u hs mn : Int) (h : ab_H), -1 ≤ u → u ≤ 199 → u + 1 < f → (hs = -1 → mn = -1) → gm_J (fun i u => tb_cm m W (h0 6 i) q T (2 * u)) (h0 1 9) u 0 hs mn → LF h0 h → ∀ v, Go g (ab_rm 5, 0, 0) m_X7_giveInOf Q 11 [some (a_R 62), some (a_I q), some (a_I T), some (a_I w), some (a_I hs), some (a_I mn), some (a_I u), v] [] h := by
  intro f
  induction f with
  | zero => intro u hs mn h h0u h1 hf; omega
  | succ f ih =>
    intro u hs mn h h0u h1 hf hmn J F v
    refine go_iload rfl rfl ?_
    refine go_if_lt rfl (tgt := 90) (by decide) (fun c13 => ?_) (fun c13 => ?_)
    · refine go_iload_n rfl rfl ?_
      refine go_if_ne rfl (tgt := 99) (by decide) (fun c91 => ?_) (fun c91 => ?_)
      · refine go_iload rfl rfl ?_
        exact go_iret rfl (Or.inl rfl) (hq h hs mn _ (gm_end (by rw [show u = -1 by omega] at J; exact J)) (if_neg c91).symm F)
      · refine go_iload rfl rfl ?_
        refine go_goto rfl (tgt := 101) (by decide) ?_
        exact go_iret rfl (Or.inl rfl) (hq h hs mn _ (gm_end (by rw [show u = -1 by omega] at J; exact J)) (if_pos c91).symm F)
    · refine go_iload rfl rfl ?_
      refine go_iconst rfl ?_
      refine go_icmp_ne rfl (tgt := 90) (by decide) (fun c19 => ?_) (fun c19 => ?_)
      · refine go_iload_n rfl rfl ?_
        refine go_if_ne rfl (tgt := 99) (by decide) (fun c91 => ?_) (fun c91 => ?_)
        · refine go_iload rfl rfl ?_
          exact go_iret rfl (Or.inl rfl) (hq h hs mn _ (gm_end (gm_fd J c19 _ _)) (if_neg c91).symm F)
        · refine go_iload rfl rfl ?_
          refine go_goto rfl (tgt := 101) (by decide) ?_
          exact go_iret rfl (Or.inl rfl) (hq h hs mn _ (gm_end (gm_fd J c19 _ _)) (if_pos c91).symm F)
      · refine go_iconst rfl ?_
        refine go_istore rfl (by decide) rfl ?_
        refine lp_X7_giveIn2 T1 hP R hT hl hqq h9 hH (u := u) (by omega) (fun h2 hs2 mn2 J2 F2 hmn2 v => ?_) 8 0 hs mn h (by omega) (by omega) (by omega) hmn J F
        refine go_iinc rfl rfl (by decide) rfl (by unfold ab_iok; omega) ?_
        refine go_goto rfl (tgt := 11) (by decide) ?_
        exact ih (u - 1) hs2 mn2 h2 (by omega) (by omega) (by omega) hmn2 J2 F2 _
set_option maxHeartbeats 4000000 in
set_option maxRecDepth 100000 in
theorem j_giveInOf {g : ab_G} {h : ab_H} {q T0 w : Int} (I : Inv h) (T : MT h h) (hT : 0 ≤ T0 ∧ T0 ≤ 400) (hqq : 0 ≤ q ∧ q ≤ 40) : MethI g 5 m_X7_giveInOf [a_R 62, a_I q, a_I T0, a_I w] h (fun z h' => z = gv_r h q T0 w ∧ LF h h') := by
  refine Meth.of_go k_X7_giveInOf (Nat.le_of_ble_eq_true rfl) ?_
  show Go g _ m_X7_giveInOf _ 0 [some (a_R 62), some (a_I q), some (a_I T0), some (a_I w), none, none, none, none] [] h
  refine go_iconst rfl ?_
  refine go_istore rfl (by decide) rfl ?_
  refine go_iconst rfl ?_
  refine go_istore rfl (by decide) rfl ?_
  refine go_sipush rfl ?_
  refine go_istore rfl (by decide) rfl ?_
  exact lp_X7_giveInOf T.1 (TW_pm I) T.2.2 hT (by have := I.ro.2.1; omega) hqq I.hs.1 I.hs.2 (fun h2 hs mn z J e F => ⟨_, rfl, by have e2 := gv_eq J; unfold gv_r gv_c; rw [e2]; exact e, F⟩) 300 199 (-1) (-1) h (by omega) (by omega) (by omega) (fun _ => rfl) (Or.inl ⟨rfl, rfl, fun v v0 v1 => by omega, fun i i0 i1 => by omega⟩) (LF.refl h) _
theorem gvr_same {h h' : ab_H} (e : ∀ k, (1 ≤ k ∧ k ≤ 9) → h' k = h k) (q T w : Int) : gv_r h' q T w = gv_r h q T w := by
  unfold gv_r gv_c TW
  rw [tW_same e, e 1 (by omega), e 6 (by omega)]
set_option maxHeartbeats 4000000 in
set_option maxRecDepth 100000 in
theorem j_giveIn {g : ab_G} {h : ab_H} {q T w : Int} (I : Inv h) : MethI g 8 m_X7_giveIn [a_R 62, a_I q, a_I T, a_I w] h (fun z h' => z = gv_F h q T w ∧ MF h h' ∧ Inv h') := by
  have r1 := I.ro.1
  refine Meth.of_go k_X7_giveIn (Nat.le_of_ble_eq_true rfl) ?_
  show Go g _ m_X7_giveIn _ 0 [some (a_R 62), some (a_I q), some (a_I T), some (a_I w)] [] h
  refine go_aload_n rfl rfl ?_
  refine go_cV0I (M' := m_X7_reads) rfl l_X7_140 k_X7_reads (j_reads I) rfl rfl rfl rfl (by decide) (Nat.le_of_ble_eq_true rfl) (fun z1 h1 q1 => ?_) -- X7_reads
  obtain ⟨-, F1, R1, I1⟩ := q1
  have e8 : h1 62 8 = h 1 7 := by rw [R1.1, F1.1 1 (by decide)]
  refine go_pop rfl ?_
  refine go_aload_n rfl rfl ?_
  refine go_iload_n rfl rfl ?_
  refine go_cV1I (M' := m_X7_isPace) rfl l_X7_237 k_X7_isPace (s_X7_isPace) rfl rfl rfl rfl (by decide) (Nat.le_of_ble_eq_true rfl) (fun z7 h7 q7 => ?_) -- X7_isPace
  obtain ⟨rfl, rfl⟩ := q7
  refine go_if_eq rfl (tgt := 27) (by decide) (fun c10 => ?_) (fun c10 => ?_)
  · refine go_bipush rfl ?_
    exact go_iret rfl (Or.inl rfl) ⟨_, rfl, by unfold gv_F; rw [if_neg (by have := rd_n0 c10; omega)], F1.mf, I1⟩
  · refine go_iload_n rfl rfl ?_
    refine go_cS1I (M' := m_X7_isTime) rfl l_X7_193 k_X7_isTime (s_X7_isTime) rfl (by decide) (Nat.le_of_ble_eq_true rfl) (fun z14 h14 q14 => ?_) -- X7_isTime
    obtain ⟨rfl, rfl⟩ := q14
    refine go_if_eq rfl (tgt := 27) (by decide) (fun c17 => ?_) (fun c17 => ?_)
    · refine go_bipush rfl ?_
      exact go_iret rfl (Or.inl rfl) ⟨_, rfl, by unfold gv_F; rw [if_neg (by have := rd_n0 c17; omega)], F1.mf, I1⟩
    · refine go_iload_n rfl rfl ?_
      refine go_cS1I (M' := m_X7_isTwo) rfl l_X7_149 k_X7_isTwo (s_X7_isTwo) rfl (by decide) (Nat.le_of_ble_eq_true rfl) (fun z21 h21 q21 => ?_) -- X7_isTwo
      obtain ⟨rfl, rfl⟩ := q21
      refine go_if_ne rfl (tgt := 30) (by decide) (fun c24 => ?_) (fun c24 => ?_)
      · have x1 := rd_n1 c10
        have x2 := rd_n1 c17
        have x3 := rd_n1 c24
        have l1 := I.ro.2.1
        refine go_aload_n rfl rfl ?_
        refine go_cV0V (M' := m_X7_find) rfl l_X7_196 k_X7_find (j_find I1) rfl rfl rfl rfl (by decide) (Nat.le_of_ble_eq_true rfl) (fun h31 q31 => ?_) -- X7_find
        obtain ⟨F2, T2, I2⟩ := q31
        have T2 := MT_same F1.mf.k9 T2
        refine go_aload_n rfl rfl ?_
        refine go_iload_n rfl rfl ?_
        refine go_iload_n rfl rfl ?_
        refine go_iload_n rfl rfl ?_
        refine go_cV3I (M' := m_X7_giveInOf) rfl l_X7_247 k_X7_giveInOf (j_giveInOf I2 (T2.self (F1.mf.trans F2)) x2 (by omega)) rfl rfl rfl rfl (by decide) (Nat.le_of_ble_eq_true rfl) (fun z38 h38 q38 => ?_) -- X7_giveInOf
        obtain ⟨rfl, F3⟩ := q38
        exact go_iret rfl (Or.inl rfl) ⟨_, rfl, by unfold gv_F; rw [if_pos (by omega), gvr_same (F1.mf.trans F2).k9], (F1.mf.trans F2).trans F3.mf, I2.mf F3.mf⟩
      · refine go_bipush rfl ?_
        exact go_iret rfl (Or.inl rfl) ⟨_, rfl, by unfold gv_F; rw [if_neg (by have := rd_n0 c24; omega)], F1.mf, I1⟩
theorem op_giveIn {g : ab_G} {h : ab_H} {q T w : Int} (I : Inv h) : opI g 6 8 m_X6_giveIn m_X7_giveIn [a_I q, a_I T, a_I w] h := op_q (F := fun h => gv_F h q T w) I (c_giveIn I) (fun h I => j_giveIn I) (fun h' F => by unfold gv_F; rw [gvr_same F.k9, F.k9 1 (by decide)])
