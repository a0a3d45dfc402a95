/-! is somebody of the group new -/
def nw_D (h : ab_H) (t a b : Int) : Prop := h 75 (6 * (t - 1) + h 79 a) ≠ h 75 (6 * (t - 1) + h 79 b)
def nw_X (h : ab_H) (t a b : Int) : Prop := ∃ c d, 0 ≤ d ∧ d < c ∧ (c < a ∨ (c = a ∧ d < b)) ∧ nw_D h t c d
set_option maxHeartbeats 4000000 in
set_option maxRecDepth 100000 in
theorem lp_X7_isNewIn {g : ab_G} {h : ab_H} {n t a : Int} {Q : Option ab_V → ab_H → Prop} (ht : 1 ≤ t ∧ t ≤ 400) (ha : 0 ≤ a ∧ a < n) (hn : n ≤ 6) (he : ∀ a, 0 ≤ a → a < n → 0 ≤ h 79 a ∧ h 79 a < 6) (K : ∀ s, s = rd_bool (nw_X h t (a + 1) 0) → ∀ b, Go g (ab_rm 2, 0, 0) m_X7_isNew Q 61 [some (a_R 62), some (a_I n), some (a_I t), some (a_I s), some (a_I a), some (a_I b)] [] h) : ∀ (f : Nat) (b s : Int), 0 ≤ b → b ≤ a → a - b < f → s = rd_bool (nw_X h t a b) → Go g (ab_rm 2, 0, 0) m_X7_isNew Q 14 [some (a_R 62), some (a_I n), some (a_I t), some (a_I s), some (a_I a), some (a_I b)] [] h := by
  intro f
  induction f with
  | zero => intro b s h0 h1 hf; omega
  | succ f ih =>
    intro b s h0 h1 hf hs
    refine go_iload rfl rfl ?_
    refine go_iload rfl rfl ?_
    refine go_icmp_ge rfl (tgt := 61) (by decide) (fun c18 => ?_) (fun c18 => ?_)
    · exact K s (by rw [hs]; exact rd_iff ⟨fun ⟨c, d, x1, x2, x3, x4⟩ => ⟨c, d, x1, x2, by omega, x4⟩, fun ⟨c, d, x1, x2, x3, x4⟩ => ⟨c, d, x1, x2, by omega, x4⟩⟩) b
    · refine go_iload_n rfl rfl ?_
      refine go_if_ne rfl (tgt := 49) (by decide) (fun c22 => ?_) (fun c22 => ?_)
      · refine go_iconst rfl ?_
        refine go_goto rfl (tgt := 54) (by decide) ?_
        have nx : (1 : Int) = rd_bool (nw_X h t a (b + 1)) := (rd_t (by obtain ⟨c, d, x1, x2, x3, x4⟩ := rd_n1 (c := nw_X h t a b) (by rw [← hs]; exact c22); exact ⟨c, d, x1, x2, by omega, x4⟩)).symm
        refine go_istore_n rfl (by decide) rfl ?_
        refine go_iinc rfl rfl (by decide) rfl (by unfold ab_iok; omega) ?_
        refine go_goto rfl (tgt := 14) (by decide) ?_
        exact ih (b + 1) _ (by omega) (by omega) (by omega) nx
      · refine go_aload_n rfl rfl ?_
        refine go_aload_n rfl rfl ?_
        refine go_getR rfl f_X7_59 rfl rfl ?_ -- group
        refine go_iload rfl rfl ?_
        refine go_iald rfl rfl (by omega) (by omega) ?_
        refine go_aload_n rfl rfl ?_
        refine go_getR rfl f_X7_59 rfl rfl ?_ -- group
        refine go_iload rfl rfl ?_
        refine go_iald rfl rfl (by omega) (by omega) ?_
        refine go_iload_n rfl rfl ?_
        refine go_iconst rfl ?_
        refine go_isub rfl (by unfold ab_iok; omega) ?_
        refine go_cV3I (M' := m_X7_areTogether) rfl l_X7_166 k_X7_areTogether (s_X7_areTogether (he a (by omega) (by omega)) (he b (by omega) (by omega)) (by omega)) rfl rfl rfl rfl (by decide) (Nat.le_of_ble_eq_true rfl) (fun z43 h43 q43 => ?_) -- X7_areTogether
        obtain ⟨rfl, rfl⟩ := q43
        refine go_if_ne rfl (tgt := 53) (by decide) (fun c46 => ?_) (fun c46 => ?_)
        · refine go_iconst rfl ?_
          have nx : (0 : Int) = rd_bool (nw_X h t a (b + 1)) := (rd_f (by rintro ⟨c, d, x1, x2, x3, x4⟩; by_cases z : c = a ∧ d = b; exact x4 (by rw [z.1, z.2]; exact (rd_n1 c46).2); exact absurd (show nw_X h t a b from ⟨c, d, x1, x2, by omega, x4⟩) (rd_n0 (by rw [← hs]; exact c22)))).symm
          refine go_istore_n rfl (by decide) rfl ?_
          refine go_iinc rfl rfl (by decide) rfl (by unfold ab_iok; omega) ?_
          refine go_goto rfl (tgt := 14) (by decide) ?_
          exact ih (b + 1) _ (by omega) (by omega) (by omega) nx
        · refine go_iconst rfl ?_
          refine go_goto rfl (tgt := 54) (by decide) ?_
          have nx : (1 : Int) = rd_bool (nw_X h t a (b + 1)) := (rd_t ⟨a, b, by omega, by omega, by omega, fun z => rd_n0 c46 ⟨by omega, z⟩⟩).symm
          refine go_istore_n rfl (by decide) rfl ?_
          refine go_iinc rfl rfl (by decide) rfl (by unfold ab_iok; omega) ?_
          refine go_goto rfl (tgt := 14) (by decide) ?_
          exact ih (b + 1) _ (by omega) (by omega) (by omega) nx
set_option maxHeartbeats 4000000 in
set_option maxRecDepth 100000 in
theorem lp_X7_isNew {g : ab_G} {h : ab_H} {n t : Int} {Q : Option ab_V → ab_H → Prop} (ht : 1 ≤ t ∧ t ≤ 400) (hn : n ≤ 6) (he : ∀ a, 0 ≤ a → a < n → 0 ≤ h 79 a ∧ h 79 a < 6) (hq : Q (some (a_I (rd_bool (nw_X h t n 0)))) h) : ∀ (f : Nat) (a s : Int), 0 ≤ a → a ≤ n → n - a < f → s = rd_bool (nw_X h t a 0) → ∀ v, Go g (ab_rm 2, 0, 0) m_X7_isNew Q 5 [some (a_R 62), some (a_I n), some (a_I t), some (a_I s), some (a_I a), v] [] h := by
  intro f
  induction f with
  | zero => intro a s h0 h1 hf; omega
  | succ f ih =>
    intro a s h0 h1 hf hs v
    refine go_iload rfl rfl ?_
    refine go_iload_n rfl rfl ?_
    refine go_icmp_ge rfl (tgt := 67) (by decide) (fun c8 => ?_) (fun c8 => ?_)
    · refine go_iload_n rfl rfl ?_
      exact go_iret rfl (Or.inr ⟨rfl, by rw [hs]; exact rd_01 _⟩) (by rw [hs, show a = n by omega]; exact hq)
    · refine go_iconst rfl ?_
      refine go_istore rfl (by decide) rfl ?_
      refine lp_X7_isNewIn ht ⟨h0, by omega⟩ hn he (fun s2 hs2 b => ?_) 8 0 s (by omega) (by omega) (by omega) hs
      refine go_iinc rfl rfl (by decide) rfl (by unfold ab_iok; omega) ?_
      refine go_goto rfl (tgt := 5) (by decide) ?_
      exact ih (a + 1) s2 (by omega) (by omega) (by omega) hs2 _
set_option maxHeartbeats 4000000 in
set_option maxRecDepth 100000 in
theorem s_X7_isNew {g : ab_G} {h : ab_H} {n t : Int} (ht : 1 ≤ t ∧ t ≤ 400) (hn : 0 ≤ n ∧ n ≤ 6) (he : ∀ a, 0 ≤ a → a < n → 0 ≤ h 79 a ∧ h 79 a < 6) : MethI g 2 m_X7_isNew [a_R 62, a_I n, a_I t] h (fun z h' => h = h' ∧ z = rd_bool (nw_X h t n 0)) := by
  refine Meth.of_go k_X7_isNew (Nat.le_of_ble_eq_true rfl) ?_
  show Go g _ m_X7_isNew _ 0 [some (a_R 62), some (a_I n), some (a_I t), none, none, none] [] h
  refine go_iconst rfl ?_
  refine go_istore_n rfl (by decide) rfl ?_
  refine go_iconst rfl ?_
  refine go_istore rfl (by decide) rfl ?_
  exact lp_X7_isNew ht hn.2 he ⟨_, rfl, rfl, rfl⟩ 8 0 0 (by omega) (by omega) (by omega) (rd_f (by rintro ⟨c, d, x1, x2, x3, x4⟩; omega)).symm none
/-- new, as the walk's own word has it -/
theorem nw_iff {h : ab_H} {t i n : Int} (hi : 0 ≤ i ∧ i < h 62 9) (hm : h 62 9 ≤ 6) (hw : wk_tb (h 62 18) i = true) (hf : ∀ j, 0 ≤ j → j < i → ¬ mq_G h t i j) (G : gl_I (mq_G h t i) (h 62 9) n (h 79)) : nw_X h t n 0 ↔ wk_new (h 62 9) (h 62 18) (fun k => h 75 (6 * t + k)) (fun k => h 75 (6 * (t - 1) + k)) i := by
  obtain ⟨g1, g2, g3, g4, g5⟩ := G
  have gi : mq_G h t i i := ⟨hi.1, hi.2, hw, rfl⟩
  obtain ⟨a0, b1, b2, b3⟩ := g4 i hi.1 hi.2 gi
  have z0 : a0 = 0 := by
    by_cases z : a0 = 0
    · exact z
    · have y := g3 0 a0 (by omega) (by omega) b2
      have x := g2 0 (by omega) (by omega)
      exact absurd x.2.2 (hf _ x.1 (by omega))
  subst z0
  constructor
  · rintro ⟨c, d, x1, x2, x3, x4⟩
    have yc := g2 c (by omega) (by omega)
    have yd := g2 d (by omega) (by omega)
    by_cases z : h 75 (6 * (t - 1) + h 79 c) = h 75 (6 * (t - 1) + i)
    · exact ⟨h 79 d, yd.2.2, fun w => x4 (z.trans w.symm)⟩
    · exact ⟨h 79 c, yc.2.2, z⟩
  · rintro ⟨j, j1, j2⟩
    obtain ⟨c, c1, c2, c3⟩ := g4 j j1.1 j1.2.1 j1
    refine ⟨c, 0, by omega, ?_, by omega, ?_⟩
    · by_cases z : c = 0
      · subst z; rw [← c3, b3] at j2; exact absurd rfl j2
      · omega
    · show h 75 (6 * (t - 1) + h 79 c) ≠ h 75 (6 * (t - 1) + h 79 0)
      rw [c3, b3]; exact j2
/-- the one ahead in the row, the last for the first -/
theorem gl_prv {q : Int → Prop} {K n : Int} {e : Int → Int} (hK : 0 ≤ K ∧ K ≤ 6) (hq : ∀ k, K ≤ k → ¬ q k) (G : gl_I q K n e) {a : Int} (ha : 0 ≤ a ∧ a < n) : wk_prv q (e a) = if a = 0 then e (n - 1) else e (a - 1) := by
  obtain ⟨g1, g2, g3, g4, g5⟩ := G
  have ya := g2 a ha.1 ha.2
  have mono : ∀ c d, 0 ≤ c → c < n → 0 ≤ d → d < n → e c < e d → c < d := by
    intro c d c0 c1 d0 d1 z
    rcases Int.lt_trichotomy c d with w | w | w
    · exact w
    · subst w; omega
    · have := g3 d c d0 w c1; omega
  unfold wk_prv
  by_cases z : a = 0
  · subst z
    rw [if_pos rfl]
    have l1 : wk_last q (e 0).toNat = -1 := by
      rcases wk_last_spec (q := q) (e 0).toNat with ⟨x, -⟩ | ⟨x1, x2, x3, -⟩
      · exact x
      · obtain ⟨c, c1, c2, c3⟩ := g4 _ x1 (by omega) x3
        have := mono c 0 c1 c2 (by omega) (by omega) (by omega)
        omega
    rw [if_pos l1]
    have yn := g2 (n - 1) (by omega) (by omega)
    rcases wk_last_spec (q := q) 6 with ⟨x1, x2⟩ | ⟨x1, x2, x3, x4⟩
    · exact absurd yn.2.2 (x2 _ yn.1 (by omega))
    · have xk : wk_last q 6 < K := by
        by_cases w : wk_last q 6 < K
        · exact w
        · exact absurd x3 (hq _ (by omega))
      obtain ⟨c, c1, c2, c3⟩ := g4 _ x1 xk x3
      by_cases w : c = n - 1
      · rw [← c3, w]
      · have := g3 c (n - 1) c1 (by omega) (by omega)
        exact absurd yn.2.2 (x4 _ (by omega) (by omega))
  · rw [if_neg z]
    have yp := g2 (a - 1) (by omega) (by omega)
    have lt := g3 (a - 1) a (by omega) (by omega) ha.2
    rcases wk_last_spec (q := q) (e a).toNat with ⟨x1, x2⟩ | ⟨x1, x2, x3, x4⟩
    · exact absurd yp.2.2 (x2 _ yp.1 (by omega))
    · rw [if_neg (by omega)]
      obtain ⟨c, c1, c2, c3⟩ := g4 _ x1 (by omega) x3
      have ca := mono c a c1 c2 ha.1 ha.2 (by omega)
      by_cases w : c = a - 1
      · rw [← c3, w]
      · have := g3 c (a - 1) c1 (by omega) (by omega)
        exact absurd yp.2.2 (x4 _ (by omega) (by omega))
