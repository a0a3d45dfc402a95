/-! the reference's groups: a row of members in their order -/
def gl_I (q : Int → Prop) (K n : Int) (e : Int → Int) : Prop := (0 ≤ n ∧ n ≤ K) ∧ (∀ a, 0 ≤ a → a < n → 0 ≤ e a ∧ e a < K ∧ q (e a)) ∧ (∀ a b, 0 ≤ a → a < b → b < n → e a < e b) ∧ (∀ k, 0 ≤ k → k < K → q k → ∃ a, 0 ≤ a ∧ a < n ∧ e a = k) ∧ n = wk_num q K.toNat
theorem gl_0 {q : Int → Prop} {e : Int → Int} : gl_I q 0 0 e := ⟨by omega, fun a a0 a1 => by omega, fun a b a0 a1 a2 => by omega, fun k k0 k1 => by omega, rfl⟩
theorem gl_num {q : Int → Prop} {K : Int} (hK : 0 ≤ K) : wk_num q (K + 1).toNat = wk_num q K.toNat + rd_bool (q K) := by
  rw [show (K + 1).toNat = K.toNat + 1 by omega, wk_num, Int.toNat_of_nonneg hK]
theorem gl_t {q : Int → Prop} {K n : Int} {e : Int → Int} (hK : 0 ≤ K) (h : gl_I q K n e) (hq : q K) : gl_I q (K + 1) (n + 1) (ps_up e n K) := by
  obtain ⟨h1, h2, h3, h4, h5⟩ := h
  refine ⟨by omega, fun a a0 a1 => ?_, fun a b a0 a1 a2 => ?_, fun k k0 k1 hk => ?_, by rw [gl_num hK, ← h5, rd_t hq]⟩
  · unfold ps_up
    by_cases z : a = n
    · rw [if_pos z]; exact ⟨hK, by omega, hq⟩
    · rw [if_neg z]; have := h2 a a0 (by omega); exact ⟨this.1, by omega, this.2.2⟩
  · unfold ps_up
    by_cases z : b = n
    · rw [if_pos z, if_neg (by omega)]; exact (h2 a a0 (by omega)).2.1
    · rw [if_neg z, if_neg (by omega)]; exact h3 a b a0 a1 (by omega)
  · unfold ps_up
    by_cases z : k = K
    · exact ⟨n, h1.1, by omega, by rw [if_pos rfl, z]⟩
    · obtain ⟨a, a0, a1, a2⟩ := h4 k k0 (by omega) hk
      exact ⟨a, a0, by omega, by rw [if_neg (by omega)]; exact a2⟩
theorem gl_f {q : Int → Prop} {K n : Int} {e : Int → Int} (hK : 0 ≤ K) (h : gl_I q K n e) (hq : ¬ q K) : gl_I q (K + 1) n e := by
  obtain ⟨h1, h2, h3, h4, h5⟩ := h
  refine ⟨by omega, fun a a0 a1 => ?_, h3, fun k k0 k1 hk => ?_, by rw [gl_num hK, ← h5, rd_f hq]; omega⟩
  · have := h2 a a0 a1; exact ⟨this.1, by omega, this.2.2⟩
  · by_cases z : k = K
    · subst z; exact absurd hk hq
    · exact h4 k k0 (by omega) hk
/-- the group of i at row t -/
def mq_G (h : ab_H) (t i : Int) : Int → Prop := wk_G (h 62 9) (h 62 18) (fun k => h 75 (6 * t + k)) i
set_option maxHeartbeats 4000000 in
set_option maxRecDepth 100000 in
theorem lp_X7_findGroup {g : ab_G} {h0 : ab_H} {t i : Int} {Q : Option ab_V → ab_H → Prop} (hm : 0 ≤ h0 62 9 ∧ h0 62 9 ≤ 6) (hw : 0 ≤ h0 62 18 ∧ h0 62 18 < 64) (ht : 0 ≤ t ∧ t ≤ 400) (hi : 0 ≤ i ∧ i < h0 62 9) (hq1 : ∀ h k, 0 ≤ k → ¬ i ≤ k → mq_G h0 t i k → (∀ k, k ≠ 79 → h k = h0 k) → Q (some (a_I 0)) h) (hq2 : ∀ n h, gl_I (mq_G h0 t i) (h0 62 9) n (h 79) → (∀ j, 0 ≤ j → j < i → ¬ mq_G h0 t i j) → (∀ k, k ≠ 79 → h k = h0 k) → Q (some (a_I n)) h) : ∀ (f : Nat) (m n : Int) (h : ab_H), 0 ≤ m → m ≤ h0 62 9 → h0 62 9 - m < f → gl_I (mq_G h0 t i) m n (h 79) → (∀ j, 0 ≤ j → j < m → j < i → ¬ mq_G h0 t i j) → (∀ k, k ≠ 79 → h k = h0 k) → Go g (ab_rm 2, 0, 0) m_X7_findGroup Q 5 [some (a_R 62), some (a_I i), some (a_I t), some (a_I n), some (a_I m)] [] h := by
  intro f
  induction f with
  | zero => intro m n h h0m h1 hf; omega
  | succ f ih =>
    intro m n h h0m h1 hf G hI hF
    have e62 : h 62 = h0 62 := hF 62 (by decide)
    have e75 : h 75 = h0 75 := hF 75 (by decide)
    have e9 : h 62 9 = h0 62 9 := by rw [e62]
    have gn := G.1
    refine go_iload rfl rfl ?_
    refine go_aload_n rfl rfl ?_
    refine go_getI rfl f_X7_110 rfl rfl rfl ?_ -- men
    refine go_icmp_ge rfl (tgt := 59) (by decide) (fun c11 => ?_) (fun c11 => ?_)
    · refine go_iload_n rfl rfl ?_
      exact go_iret rfl (Or.inl rfl) (hq2 n h (by rw [show h0 62 9 = m by rw [← e62]; omega]; exact G) (fun j j0 j1 j2 => hI j j0 (by have := j2.2.1; omega) j1 j2) hF)
    · refine go_aload_n rfl rfl ?_
      refine go_iload rfl rfl ?_
      refine go_cV1I (M' := m_X7_isThere) rfl l_X7_163 k_X7_isThere (s_X7_isThere (by omega) (by rw [e62]; exact hw)) rfl rfl rfl rfl (by decide) (Nat.le_of_ble_eq_true rfl) (fun z17 h17 q17 => ?_) -- X7_isThere
      obtain ⟨rfl, rfl⟩ := q17
      refine go_if_eq rfl (tgt := 53) (by decide) (fun c20 => ?_) (fun c20 => ?_)
      · have gm : ¬ mq_G h0 t i m := fun z => rd_n0 c20 (by rw [e62]; exact z.2.2.1)
        refine go_iinc rfl rfl (by decide) rfl (by unfold ab_iok; omega) ?_
        refine go_goto rfl (tgt := 5) (by decide) ?_
        refine ih (m + 1) n h (by omega) (by omega) (by omega) (gl_f h0m G gm) (fun j j0 j1 j2 => ?_) hF
        by_cases e : j = m
        · subst e; exact gm
        · exact hI j j0 (by omega) j2
      · refine go_aload_n rfl rfl ?_
        refine go_iload_n rfl rfl ?_
        refine go_iload rfl rfl ?_
        refine go_iload_n rfl rfl ?_
        refine go_cV3I (M' := m_X7_areTogether) rfl l_X7_166 k_X7_areTogether (s_X7_areTogether (by omega) (by omega) (by omega)) rfl rfl rfl rfl (by decide) (Nat.le_of_ble_eq_true rfl) (fun z28 h28 q28 => ?_) -- X7_areTogether
        obtain ⟨rfl, rfl⟩ := q28
        refine go_if_eq rfl (tgt := 53) (by decide) (fun c31 => ?_) (fun c31 => ?_)
        · have gm : ¬ mq_G h0 t i m := fun z => rd_n0 c31 ⟨by omega, by rw [e75]; exact z.2.2.2.symm⟩
          refine go_iinc rfl rfl (by decide) rfl (by unfold ab_iok; omega) ?_
          refine go_goto rfl (tgt := 5) (by decide) ?_
          refine ih (m + 1) n h (by omega) (by omega) (by omega) (gl_f h0m G gm) (fun j j0 j1 j2 => ?_) hF
          by_cases e : j = m
          · subst e; exact gm
          · exact hI j j0 (by omega) j2
        · have gm : mq_G h0 t i m := ⟨h0m, by rw [← e62]; omega, by rw [← e62]; exact rd_n1 c20, by have z := (rd_n1 c31).2; rw [e75] at z; exact z.symm⟩
          refine go_iload rfl rfl ?_
          refine go_iload_n rfl rfl ?_
          refine go_icmp_ge rfl (tgt := 42) (by decide) (fun c37 => ?_) (fun c37 => ?_)
          · refine go_aload_n rfl rfl ?_
            refine go_getR rfl f_X7_59 rfl rfl ?_ -- group
            refine go_iload_n rfl rfl ?_
            refine go_iload rfl rfl ?_
            refine go_iast rfl rfl (by omega) (by omega) ?_
            refine go_iinc rfl rfl (by decide) rfl (by unfold ab_iok; omega) ?_
            refine go_iinc rfl rfl (by decide) rfl (by unfold ab_iok; omega) ?_
            refine go_goto rfl (tgt := 5) (by decide) ?_
            refine ih (m + 1) (n + 1) (ab_hs h 79 n m) (by omega) (by omega) (by omega) (by rw [up_eq]; exact gl_t h0m G gm) (fun j j0 j1 j2 => ?_) (fun k hk => by rw [ab_hs_f hk]; exact hF k hk)
            by_cases e : j = m
            · subst e; omega
            · exact hI j j0 (by omega) j2
          · refine go_iconst rfl ?_
            exact go_iret rfl (Or.inl rfl) (hq1 h m h0m c37 gm hF)
set_option maxHeartbeats 4000000 in
set_option maxRecDepth 100000 in
theorem s_X7_findGroup {g : ab_G} {h : ab_H} {i t : Int} (hm : 0 ≤ h 62 9 ∧ h 62 9 ≤ 6) (hw : 0 ≤ h 62 18 ∧ h 62 18 < 64) (ht : 0 ≤ t ∧ t ≤ 400) (hi : 0 ≤ i ∧ i < h 62 9) : MethI g 2 m_X7_findGroup [a_R 62, a_I i, a_I t] h (fun z h' => ((z = 0 ∧ ∃ k, 0 ≤ k ∧ k < i ∧ mq_G h t i k) ∨ (gl_I (mq_G h t i) (h 62 9) z (h' 79) ∧ ∀ j, 0 ≤ j → j < i → ¬ mq_G h t i j)) ∧ ∀ k, k ≠ 79 → h' k = h k) := by
  refine Meth.of_go k_X7_findGroup (Nat.le_of_ble_eq_true rfl) ?_
  show Go g _ m_X7_findGroup _ 0 [some (a_R 62), some (a_I i), some (a_I t), none, none] [] h
  refine go_iconst rfl ?_
  refine go_istore_n rfl (by decide) rfl ?_
  refine go_iconst rfl ?_
  refine go_istore rfl (by decide) rfl ?_
  exact lp_X7_findGroup hm hw ht hi (fun h2 k k0 k1 k2 F => ⟨_, rfl, Or.inl ⟨rfl, k, k0, by omega, k2⟩, F⟩) (fun n h2 G I F => ⟨_, rfl, Or.inr ⟨G, I⟩, F⟩) 8 0 0 h (by omega) (by omega) (by omega) gl_0 (fun j j0 j1 => by omega) (fun _ _ => rfl)
