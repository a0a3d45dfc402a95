/-! the reference: meet -/
def cl_I (h0 : ab_H) (t k : Int) (h : ab_H) : Prop := (∀ b, 36 * t ≤ b → b < k → h 78 b = 0) ∧ ∀ c b, ¬ (c = 78 ∧ 36 * t ≤ b ∧ b < k) → h c b = h0 c b
set_option maxHeartbeats 4000000 in
set_option maxRecDepth 100000 in
theorem lp_X7_meetC {g : ab_G} {h0 : ab_H} {t : Int} {Q : Option ab_V → ab_H → Prop} (ht : 0 ≤ t ∧ t ≤ 400) (K : ∀ h, cl_I h0 t (36 * t + 36) h → ∀ k : Int, Go g (ab_rm 3, 0, 0) m_X7_meet Q 29 [some (a_R 62), some (a_I t), some (a_I k), none] [] h) : ∀ (f : Nat) (k : Int) (h : ab_H), 36 * t ≤ k → k ≤ 36 * t + 36 → 36 * t + 36 - k < f → cl_I h0 t k h → Go g (ab_rm 3, 0, 0) m_X7_meet Q 5 [some (a_R 62), some (a_I t), some (a_I k), none] [] h := by
  intro f
  induction f with
  | zero => intro k h h0k h1 hf; omega
  | succ f ih =>
    intro k h h0k h1 hf I
    obtain ⟨I1, I2⟩ := id I
    refine go_iload_n rfl rfl ?_
    refine go_bipush rfl ?_
    refine go_iload_n rfl rfl ?_
    refine go_imul rfl (by unfold ab_iok; omega) ?_
    refine go_bipush rfl ?_
    refine go_iadd rfl (by unfold ab_iok; omega) ?_
    refine go_icmp_ge rfl (tgt := 29) (by decide) (fun c13 => ?_) (fun c13 => ?_)
    · exact K h (by rw [show 36 * t + 36 = k by omega]; exact ⟨I1, I2⟩) k
    · refine go_aload_n rfl rfl ?_
      refine go_getR rfl f_X7_55 rfl rfl ?_ -- meets
      refine go_iload_n rfl rfl ?_
      refine go_iconst rfl ?_
      refine go_zast rfl rfl (by omega) (by omega) (by omega) ?_
      refine go_iinc rfl rfl (by decide) rfl (by unfold ab_iok; omega) ?_
      refine go_goto rfl (tgt := 5) (by decide) ?_
      refine ih (k + 1) _ (by omega) (by omega) (by omega) ⟨fun b b0 b1 => ?_, fun c b hb => ?_⟩
      · by_cases e : b = k
        · subst e; rw [ab_hs_eq]
        · rw [ab_hs_i e]; exact I1 b b0 (by omega)
      · rw [ab_hs_ne (by omega)]; exact I2 c b (by omega)
theorem wk_fcm_pm {m l0 l1 w : Int} {bf : Int → Int} {S : wk_S} {k : Int} (h : S.2.1 k = 1 ∨ S.2.1 k = -1) : wk_fcm m l0 l1 w bf S k = 1 ∨ wk_fcm m l0 l1 w bf S k = -1 := by
  unfold wk_fcm
  split
  · omega
  · exact h
theorem mm_fc {h0 h : ab_H} {t i : Int} (I : mm_I h0 t i h) (hf : ∀ k, 0 ≤ k → k < (h0 62 9) → h0 76 (6 * t + k) = 1 ∨ h0 76 (6 * t + k) = -1) : ∀ k, 0 ≤ k → k < (h0 62 9) → h 76 (6 * t + k) = 1 ∨ h 76 (6 * t + k) = -1 := by
  intro k k0 k1
  by_cases z : sd_X (h0 62 18) (fun k => h0 75 (6 * t + k)) i k
  · rw [((I.1 k k0 k1).1 z).1]; exact wk_fcm_pm (hf k k0 k1)
  · rw [((I.1 k k0 k1).2 z).1]; exact hf k k0 k1
theorem gl_ac {h0 h : ab_H} {t i n : Int} (hm : (h0 62 9) ≤ 6) (G : gl_I (mq_G h0 t i) (h0 62 9) n (h 79)) : ac_e h n := by
  obtain ⟨g1, g2, g3, g4, g5⟩ := G
  refine ⟨by omega, fun a a0 a1 => by have := g2 a a0 a1; omega, fun a b a0 a1 b0 b1 z => ?_⟩
  rcases Int.lt_trichotomy a b with y | y | y
  · have := g3 a b a0 y b1; omega
  · exact y
  · have := g3 b a b0 y a1; omega
theorem gl_one {h0 : ab_H} {t i n : Int} {e : Int → Int} (hi : mq_G h0 t i i) (hn : n ≤ 1) (G : gl_I (mq_G h0 t i) (h0 62 9) n e) : ¬ wk_new (h0 62 9) (h0 62 18) (fun k => h0 75 (6 * t + k)) (fun k => h0 75 (6 * (t - 1) + k)) i := by
  obtain ⟨g1, g2, g3, g4, g5⟩ := G
  rintro ⟨j, j1, j2⟩
  obtain ⟨a, a0, a1, a2⟩ := g4 i hi.1 hi.2.1 hi
  obtain ⟨b, b0, b1, b2⟩ := g4 j j1.1 j1.2.1 j1
  have : a = b := by omega
  subst this
  exact j2 (by rw [← b2, a2])
set_option maxHeartbeats 4000000 in
set_option maxRecDepth 100000 in
theorem lp_X7_meet {g : ab_G} {h0 : ab_H} {t : Int} {Q : Option ab_V → ab_H → Prop} (hm : 0 ≤ (h0 62 9) ∧ (h0 62 9) ≤ 6) (hw : 0 ≤ (h0 62 18) ∧ (h0 62 18) < 64) (ht : 0 ≤ t ∧ t ≤ 400) (hf : ∀ k, 0 ≤ k → k < (h0 62 9) → h0 76 (6 * t + k) = 1 ∨ h0 76 (6 * t + k) = -1) (hd : 1 ≤ t ∨ ∀ a b, 0 ≤ a → a < (h0 62 9) → 0 ≤ b → b < (h0 62 9) → wk_tb (h0 62 18) a = true → wk_tb (h0 62 18) b = true → h0 75 (6 * t + a) = h0 75 (6 * t + b) → a = b) (hq : ∀ h, mm_I h0 t (h0 62 9) h → Q none h) : ∀ (f : Nat) (i : Int) (h : ab_H), 0 ≤ i → i ≤ (h0 62 9) → (h0 62 9) - i < f → mm_I h0 t i h → ∀ v, Go g (ab_rm 3, 0, 0) m_X7_meet Q 31 [some (a_R 62), some (a_I t), some (a_I i), v] [] h := by
  intro f
  induction f with
  | zero => intro i h h0i h1 hf; omega
  | succ f ih =>
    intro i h h0i h1 hfu I v
    have e62 : h 62 = h0 62 := funext fun b => I.2.2 62 b (by omega) (by omega) (by decide)
    have e75 : h 75 = h0 75 := funext fun b => I.2.2 75 b (by omega) (by omega) (by decide)
    have e9 : h 62 9 = h0 62 9 := by rw [e62]
    have eG : mq_G h t i = mq_G h0 t i := by unfold mq_G; rw [e62, e75]
    refine go_iload_n rfl rfl ?_
    refine go_aload_n rfl rfl ?_
    refine go_getI rfl f_X7_110 rfl rfl rfl ?_ -- men
    refine go_icmp_ge rfl (tgt := 84) (by decide) (fun c36 => ?_) (fun c36 => ?_)
    · exact go_ret rfl rfl (hq h (by rw [show h0 62 9 = i by omega]; exact I))
    · refine go_aload_n rfl rfl ?_
      refine go_iload_n rfl rfl ?_
      refine go_cV1I (M' := m_X7_isThere) rfl l_X7_163 k_X7_isThere (s_X7_isThere (by omega) (by rw [e62]; exact hw)) rfl rfl rfl rfl (by decide) (Nat.le_of_ble_eq_true rfl) (fun z41 h41 q41 => ?_) -- X7_isThere
      obtain ⟨rfl, rfl⟩ := q41
      refine go_if_eq rfl (tgt := 56) (by decide) (fun c44 => ?_) (fun c44 => ?_)
      · have tw : ¬ wk_tb (h0 62 18) i = true := by rw [← e62]; exact rd_n0 c44
        refine go_iconst rfl ?_
        refine go_istore_n rfl (by decide) rfl ?_
        refine go_iload_n rfl rfl ?_
        refine go_iconst rfl ?_
        refine go_icmp_le rfl (tgt := 78) (by decide) (fun c60 => ?_) (fun c60 => ?_)
        · refine go_iinc rfl rfl (by decide) rfl (by unfold ab_iok; omega) ?_
          refine go_goto rfl (tgt := 31) (by decide) ?_
          exact ih (i + 1) _ (by omega) (by omega) (by omega) (mm_skip I (fun z => tw z.1) (fun _ _ => rfl)) _
        · exact absurd (by omega) c60
      · have tw : wk_tb (h0 62 18) i = true := by rw [← e62]; exact rd_n1 c44
        refine go_aload_n rfl rfl ?_
        refine go_iload_n rfl rfl ?_
        refine go_iload_n rfl rfl ?_
        refine go_cV2I (M' := m_X7_findGroup) rfl l_X7_174 k_X7_findGroup (s_X7_findGroup (by rw [e62]; exact hm) (by rw [e62]; exact hw) ht (by rw [e62]; exact ⟨h0i, by omega⟩)) rfl rfl rfl rfl (by decide) (Nat.le_of_ble_eq_true rfl) (fun z50 h50 q50 => ?_) -- X7_findGroup
        refine go_goto rfl (tgt := 57) (by decide) ?_
        refine go_istore_n rfl (by decide) rfl ?_
        refine go_iload_n rfl rfl ?_
        refine go_iconst rfl ?_
        refine go_icmp_le rfl (tgt := 78) (by decide) (fun c60 => ?_) (fun c60 => ?_)
        · refine go_iinc rfl rfl (by decide) rfl (by unfold ab_iok; omega) ?_
          refine go_goto rfl (tgt := 31) (by decide) ?_
          rcases q50.1 with ⟨qz, k, k0, k1, k2⟩ | ⟨Gl, GN⟩
          · exact ih (i + 1) _ (by omega) (by omega) (by omega) (mm_skip I (fun z => z.2 ⟨tw, k, k0, k1, by rw [← e62]; exact k2.2.2.1, by rw [← e75]; exact k2.2.2.2⟩) q50.2) _
          · rw [eG, e62] at Gl
            exact ih (i + 1) _ (by omega) (by omega) (by omega) (mm_none ⟨h0i, by omega⟩ I tw (gl_one ⟨h0i, by omega, tw, rfl⟩ c60 Gl) q50.2) _
        · have hG : gl_I (mq_G h t i) (h 62 9) z50 (h50 79) ∧ ∀ j, 0 ≤ j → j < i → ¬ mq_G h t i j := by rcases q50.1 with ⟨qz, -⟩ | q; omega; exact q
          obtain ⟨Gl, GN⟩ := hG
          rw [eG, e62] at Gl
          rw [eG] at GN
          have f62 : h50 62 = h0 62 := (q50.2 62 (by decide)).trans e62
          have f75 : h50 75 = h0 75 := (q50.2 75 (by decide)).trans e75
          have fG : mq_G h50 t i = mq_G h0 t i := by unfold mq_G; rw [f62, f75]
          have ht1 : 1 ≤ t := by rcases hd with z | z; exact z; have g0 := Gl.2.1 0 (by omega) (by omega); have g1 := Gl.2.1 1 (by omega) (by omega); have gg := Gl.2.2.1 0 1 (by omega) (by omega) (by omega); have := z _ _ g0.1 g0.2.1 g1.1 g1.2.1 g0.2.2.2.2.1 g1.2.2.2.2.1 (g0.2.2.2.2.2.trans g1.2.2.2.2.2.symm); omega
          have AE := gl_ac hm.2 Gl
          have nwi : nw_X h50 t z50 0 ↔ wk_new (h0 62 9) (h0 62 18) (fun k => h0 75 (6 * t + k)) (fun k => h0 75 (6 * (t - 1) + k)) i := by have z := nw_iff (h := h50) (t := t) (i := i) (n := z50) (by rw [f62]; exact ⟨h0i, by omega⟩) (by rw [f62]; exact hm.2) (by rw [f62]; exact tw) (by rw [fG]; exact GN) (by rw [fG, f62]; exact Gl); rw [f62, f75] at z; exact z
          have gn := Gl.1
          refine go_aload_n rfl rfl ?_
          refine go_iload_n rfl rfl ?_
          refine go_iload_n rfl rfl ?_
          refine go_cV2I (M' := m_X7_isNew) rfl l_X7_177 k_X7_isNew (s_X7_isNew ⟨ht1, ht.2⟩ (by omega) AE.2.1) rfl rfl rfl rfl (by decide) (Nat.le_of_ble_eq_true rfl) (fun z66 h66 q66 => ?_) -- X7_isNew
          obtain ⟨rfl, rfl⟩ := q66
          refine go_if_eq rfl (tgt := 78) (by decide) (fun c69 => ?_) (fun c69 => ?_)
          · refine go_iinc rfl rfl (by decide) rfl (by unfold ab_iok; omega) ?_
            refine go_goto rfl (tgt := 31) (by decide) ?_
            exact ih (i + 1) _ (by omega) (by omega) (by omega) (mm_none ⟨h0i, by omega⟩ I tw (by rw [← nwi]; exact rd_n0 c69) q50.2) _
          · refine go_aload_n rfl rfl ?_
            refine go_iload_n rfl rfl ?_
            refine go_iload_n rfl rfl ?_
            refine go_cV2V (M' := m_X7_acts) rfl l_X7_180 k_X7_acts (s_X7_acts AE (by omega) ht (fun c c0 c1 => by rw [q50.2 76 (by decide)]; have g := Gl.2.1 c c0 c1; exact mm_fc I hf _ g.1 g.2.1)) rfl rfl rfl rfl (by decide) (Nat.le_of_ble_eq_true rfl) (fun h75 q75 => ?_) -- X7_acts
            refine go_iinc rfl rfl (by decide) rfl (by unfold ab_iok; omega) ?_
            refine go_goto rfl (tgt := 31) (by decide) ?_
            exact ih (i + 1) _ (by omega) (by omega) (by omega) (mm_meet hm ht.1 ⟨h0i, by omega⟩ I tw (by rw [← nwi]; exact rd_n1 c69) q50.2 Gl GN q75) _
