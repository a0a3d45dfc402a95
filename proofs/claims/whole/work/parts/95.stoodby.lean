/-! one man's whiles: stoodBy -/
def hS (h : ab_H) (i u v : Int) : ab_H := ab_hs (ab_hs h 8 i u) 9 i v
theorem hS_f {h : ab_H} {i u v : Int} {k : Nat} (h8 : k ≠ 8) (h9 : k ≠ 9) : hS h i u v k = h k := by unfold hS; rw [ab_hs_f h9, ab_hs_f h8]
theorem hS_8 {h : ab_H} {i u v j : Int} : hS h i u v 8 j = if j = i then u else h 8 j := by
  unfold hS
  rw [ab_hs_f (by decide)]
  by_cases e : j = i
  · rw [e, ab_hs_eq, if_pos rfl]
  · rw [ab_hs_i e, if_neg e]
theorem hS_9 {h : ab_H} {i u v j : Int} : hS h i u v 9 j = if j = i then v else h 9 j := by
  unfold hS
  by_cases e : j = i
  · rw [e, ab_hs_eq, if_pos rfl]
  · rw [ab_hs_i e, if_neg e, ab_hs_f (by decide)]
theorem hS_same {h h' : ab_H} (e : ∀ k, (1 ≤ k ∧ k ≤ 9) → h' k = h k) (i u v : Int) : ∀ k, (1 ≤ k ∧ k ≤ 9) → hS h' i u v k = hS h i u v k := by
  intro k hk
  funext b
  by_cases e8 : k = 8
  · subst e8; rw [hS_8, hS_8, e 8 (by omega)]
  · by_cases e9 : k = 9
    · subst e9; rw [hS_9, hS_9, e 9 (by omega)]
    · rw [hS_f e8 e9, hS_f e8 e9, e k hk]
noncomputable abbrev so_W (h : ab_H) (i u v : Int) : tb_W := tW (hS h i u v) 63
def FF (h : ab_H) (i u v : Int) : Prop := fits h (h 1 8) (so_W h i u v)
def so_f (h : ab_H) (i k : Int) : Prop := FF h i (k / 10) (k % 10 + 1)
theorem so_fk {h : ab_H} {i u v : Int} (hv : 1 ≤ v ∧ v ≤ 10) : so_f h i (10 * u + v - 1) = FF h i u v := by
  unfold so_f
  rw [show (10 * u + v - 1) / 10 = u by omega, show (10 * u + v - 1) % 10 + 1 = v by omega]
theorem wk_go_std {m E w t : Int} {a b c a' b' c' : Int → Int} {S S' : wk_S} (h : wk_eq m S S') (hp : ∀ j, 0 ≤ j → j < m → (wk_std a b c j t ↔ wk_std a' b' c' j t)) : wk_eq m (wk_go E a b c w t S) (wk_go E a' b' c' w t S') := by
  intro j j0 j1
  obtain ⟨e1, e2, e3⟩ := h j j0 j1
  have e := hp j j0 j1
  unfold wk_go
  dsimp only
  rw [e1, e2, e3]
  simp only [e]
  exact ⟨trivial, trivial, trivial⟩
theorem wk_at_pre {E m l0 l1 w : Int} {a b c a' b' c' : Int → Int} {S : wk_S} {T : Nat} (hm : m ≤ 6) (hp : ∀ s : Nat, s < T → ∀ j, 0 ≤ j → j < m → (wk_std a b c j s ↔ wk_std a' b' c' j s)) : ∀ t, t ≤ T → wk_eq m (wk_at E a b c m l0 l1 w S t) (wk_at E a' b' c' m l0 l1 w S t)
  | 0, _ => fun j j0 j1 => ⟨rfl, rfl, rfl⟩
  | t + 1, h => by
    have k := wk_at_pre hm hp t (by omega) (E := E) (l0 := l0) (l1 := l1) (w := w) (S := S)
    exact wk_meet_congr hm (wk_go_std k (hp t (by omega))) (fun j j0 j1 => (k j j0 j1).1)
theorem hS_S {h : ab_H} {i u v : Int} : cr_S (hS h i u v) = cr_S h := by
  unfold cr_S
  rw [hS_f (by decide) (by decide), hS_f (by decide) (by decide)]
theorem hS_a {h : ab_H} {i u v : Int} : cr_a (hS h i u v) = cr_a h := by
  unfold cr_a
  rw [hS_f (by decide) (by decide)]
theorem so_tW {h : ab_H} {i u v w t : Int} : tW (hS h i u v) w t = wk_at (2 * h 1 7) (cr_a h) (cr_b (hS h i u v)) (cr_c (hS h i u v)) (h 1 8) (h 7 2) (h 7 3) w (cr_S h) t.toNat := by
  unfold tW cr_W
  rw [hS_S, hS_a, hS_f (by decide) (by decide), hS_f (by decide) (by decide)]
theorem so_agree {h : ab_H} {i u v u' v' T w : Int} (hm : h 1 8 ≤ 6) (e : ∀ s, 0 ≤ s → s < T → ((2 * u ≤ s ∧ s < 2 * (u + v)) ↔ (2 * u' ≤ s ∧ s < 2 * (u' + v')))) : ∀ t, 0 ≤ t → t ≤ T → wk_eq (h 1 8) (tW (hS h i u v) w t) (tW (hS h i u' v') w t) := by
  intro t t0 t1
  rw [so_tW, so_tW]
  refine wk_at_pre (T := T.toNat) hm (fun s hs j j0 j1 => ?_) t.toNat (by omega)
  have es := e s (by omega) (by omega)
  unfold wk_std cr_b cr_c
  rw [hS_8, hS_8, hS_9, hS_9]
  by_cases z : j = i
  · rw [if_pos z, if_pos z, if_pos z, if_pos z]
    exact ⟨fun y => y.imp id es.mp, fun y => y.imp id es.mpr⟩
  · rw [if_neg z, if_neg z, if_neg z, if_neg z]
theorem CA.refl (h : ab_H) : CA h h := ⟨fun _ _ => rfl, fun _ _ => rfl⟩
theorem CA.trans {h h' h'' : ab_H} (a : CA h h') (b : CA h' h'') : CA h h'' := ⟨fun k hk => (b.1 k hk).trans (a.1 k hk), fun k hk => (b.2 k hk).trans (a.2 k hk)⟩
theorem CA.k9 {h h' : ab_H} (a : CA h h') : ∀ k, (1 ≤ k ∧ k ≤ 9) → h' k = h k := fun k hk => a.1 k (by omega)
theorem CA.L {h h' : ab_H} (a : CA h h') (L : iv_L h) : iv_L h' := L.of (a.2 5 (by decide)) (by rw [a.1 62 (by decide)]) (a.1 25 (by decide)) (a.1 26 (by decide)) (a.1 27 (by decide)) (a.1 28 (by decide)) (a.1 81 (by decide))
theorem CA.P {h h' : ab_H} {m z D : Int} {W : tb_W} (a : CA h h') (P : ca_P h' m W z D) : ca_P h m W z D := by
  unfold ca_P at P
  rw [a.2 5 (by decide), a.1 25 (by decide), a.1 26 (by decide), a.1 27 (by decide), a.1 28 (by decide)] at P
  exact P
theorem so_rw {h : ab_H} {i x y : Int} (R : rw_at h 0 h) : rw_at (ab_hs (ab_hs h 16 i x) 17 i y) 0 (ab_hs (ab_hs h 16 i x) 17 i y) := by
  have e : ∀ k, k ≠ 16 → k ≠ 17 → ab_hs (ab_hs h 16 i x) 17 i y k = h k := fun k a b => by rw [ab_hs_f b, ab_hs_f a]
  revert e
  generalize ab_hs (ab_hs h 16 i x) 17 i y = H
  intro e
  have e10 := e 10 (by decide) (by decide)
  refine ⟨fun j _ _ => ⟨rfl, rfl, rfl⟩, by rw [e10]; exact R.2.1, by rw [e10]; exact R.2.2.1, fun a b a0 a1 b0 b1 => by rw [e10]; exact R.2.2.2.1 a b a0 a1 b0 b1, fun _ _ => rfl, fun _ _ => rfl, ?_⟩
  unfold wk_in
  rw [e10, e 11 (by decide) (by decide), e 13 (by decide) (by decide)]
  exact R.2.2.2.2.2.2
theorem so_start {h0 h h53 h65 : ab_H} {i u v : Int} (r0 : ro_in h0) (F : CA h0 h) (I : sw_I h (am_n (h 1 8)) (h 1 8) h53) (e : h65 = ab_hs (ab_hs h53 16 i (2 * u)) 17 i (2 * (u + v))) : (h65 10 7 = h0 1 8 ∧ h65 10 8 = am_n (h0 1 8) ∧ 1 ≤ h65 10 9) ∧ (∀ s : Nat, s ≤ 400 → wk_eq (h0 1 8) (wk_at (h65 10 9) (h65 15) (h65 16) (h65 17) (h65 10 7) (h65 10 10) (h65 10 11) (h65 10 8) (wk_row h65) s) (so_W h0 i u v s)) ∧ rw_at h65 0 h65 ∧ CA h0 h65 := by
  have hr : ro_in h := ro_same F.k9 r0
  have am := am_in hr.1
  have e9 := F.k9
  have ek : ∀ k, k ≠ 16 → k ≠ 17 → h65 k = h53 k := fun k a b => by rw [e, ab_hs_f b, ab_hs_f a]
  have R65 : rw_at h65 0 h65 := by rw [e]; exact so_rw (sw_R hr am.1 I).1
  have e16 : ∀ j, h65 16 j = if j = i then 2 * u else h53 16 j := fun j => by
    rw [e, ab_hs_f (by decide)]
    by_cases z : j = i
    · rw [z, ab_hs_eq, if_pos rfl]
    · rw [ab_hs_i z, if_neg z]
  have e17 : ∀ j, h65 17 j = if j = i then 2 * (u + v) else h53 17 j := fun j => by
    rw [e]
    by_cases z : j = i
    · rw [z, ab_hs_eq, if_pos rfl]
    · rw [ab_hs_i z, if_neg z, ab_hs_f (by decide)]
  obtain ⟨⟨i1, i2, i3, i4, i5, -, -⟩, I2, I3⟩ := I
  have e10 := ek 10 (by decide) (by decide)
  have e11 := e9 1 (by omega)
  refine ⟨⟨by rw [e10, i1, e11], by rw [e10, i2, e11], by rw [e10, i3]; have := hr.2.1; omega⟩, fun s hs => ?_, R65, ⟨fun k hk => ?_, fun b hb => ?_⟩⟩
  · rw [e10, i1, i2, i3, i4, i5, e11, e9 7 (by omega)]
    show wk_eq (h0 1 8) _ (tW (hS h0 i u v) 63 (s : Int))
    rw [so_tW]
    rw [show ((s : Nat) : Int).toNat = s from Int.toNat_natCast s]
    refine (wk_at_congr (a' := cr_a h0) (b' := cr_b (hS h0 i u v)) (c' := cr_c (hS h0 i u v)) (S' := cr_S h0) r0.1.2 (fun j j0 j1 => ?_) (fun j j0 j1 => ?_) s).trans (wk_at_mask r0.1.2 (fun j j0 j1 => ?_) s)
    · obtain ⟨a, b, c, -⟩ := I2 j j0 (by rw [e11]; exact j1)
      rw [e9 3 (by omega)] at a
      rw [e9 4 (by omega)] at b
      exact ⟨by show h65 11 j = _; rw [ek 11 (by decide) (by decide)]; exact a, by show h65 13 j = _; rw [ek 13 (by decide) (by decide)]; exact b, by show h65 14 j = _; rw [ek 14 (by decide) (by decide)]; exact c⟩
    · obtain ⟨-, -, -, a, b, c⟩ := I2 j j0 (by rw [e11]; exact j1)
      rw [e9 5 (by omega)] at a
      rw [e9 8 (by omega)] at b c
      rw [e9 9 (by omega)] at c
      refine ⟨by rw [ek 15 (by decide) (by decide)]; exact a, ?_, ?_⟩
      · unfold cr_b
        rw [e16, hS_8]
        by_cases z : j = i
        · rw [if_pos z, if_pos z]
        · rw [if_neg z, if_neg z]; exact b
      · unfold cr_c
        rw [e17, hS_8, hS_9]
        by_cases z : j = i
        · rw [if_pos z, if_pos z, if_pos z]
        · rw [if_neg z, if_neg z, if_neg z]; exact c
    · have m6 := r0.1
      rw [wk_all ⟨j0, by omega⟩]
      exact ((am_in r0.1).2 j j0 (by omega)).mpr j1
  · rw [ek k (by omega) (by omega), I3 k (by omega)]; exact F.1 k hk
  · rw [ek 24 (by decide) (by decide), I3 24 (by decide)]; exact F.2 b hb
def sb_M (h0 : ab_H) (i f k many : Int) : Prop := many = wk_num (so_f h0 i) k.toNat ∧ (f ≠ 0 → ∀ j, 0 ≤ j → j < k → ¬ so_f h0 i j)
def sb_S (h0 : ab_H) (i u ft se : Int) : Prop := se ≠ 0 → ∀ u' v', u ≤ u' → 1 ≤ v' → v' ≤ 10 → ft = rd_bool (FF h0 i u' v')
def sb_A (h0 : ab_H) (i u v ft sa : Int) : Prop := sa ≠ 0 → ∀ v', v ≤ v' → v' ≤ 10 → ft = rd_bool (FF h0 i u v')
theorem wk_num_nx {q : Int → Prop} {k : Int} (hk : 0 ≤ k) : wk_num q (k + 1).toNat = wk_num q k.toNat + rd_bool (q k) := by
  rw [show (k + 1).toNat = k.toNat + 1 by omega]
  show wk_num q k.toNat + rd_bool (q (k.toNat : Int)) = _
  rw [Int.toNat_of_nonneg hk]
theorem sb_nx {h0 : ab_H} {i f u v many ft : Int} (hu : 0 ≤ u) (hv : 1 ≤ v ∧ v ≤ 10) (M : sb_M h0 i f (10 * u + v - 1) many) (hft : ft = rd_bool (FF h0 i u v)) (hf : ft = 0 ∨ f = 0) : sb_M h0 i f (10 * u + (v + 1) - 1) (many + ft) := by
  rw [show 10 * u + (v + 1) - 1 = (10 * u + v - 1) + 1 by omega]
  refine ⟨?_, fun f0 j j0 j1 => ?_⟩
  · rw [wk_num_nx (by omega), so_fk hv, ← hft, M.1]
  · by_cases e : j = 10 * u + v - 1
    · rw [e, so_fk hv]
      exact rd_n0 (by rw [← hft]; omega)
    · exact M.2 f0 j j0 (by omega)
noncomputable def so_v (k : Int) : Int := if k = -1 then -1 else 100 * (k / 10) + (k % 10 + 1)
noncomputable def so_z (h0 : ab_H) (i f : Int) : Int := if f = 0 then wk_num (so_f h0 i) 310 else so_v (fs 0 310 (so_f h0 i))
theorem sb_first {h0 : ab_H} {i f u v many : Int} (hu : 0 ≤ u ∧ u ≤ 30) (hv : 1 ≤ v ∧ v ≤ 10) (M : sb_M h0 i f (10 * u + v - 1) many) (hF : FF h0 i u v) (f0 : f ≠ 0) : 100 * u + v = so_z h0 i f := by
  have e : 10 * u + v - 1 = fs 0 310 (so_f h0 i) := fs_eq (by omega) (Or.inr ⟨by omega, by omega, by rw [so_fk hv]; exact hF, M.2 f0⟩)
  unfold so_z so_v
  rw [if_neg f0, ← e, if_neg (by omega), show (10 * u + v - 1) / 10 = u by omega, show (10 * u + v - 1) % 10 + 1 = v by omega]
theorem sb_end0 {h0 : ab_H} {i f many : Int} (M : sb_M h0 i f 310 many) (f0 : f = 0) : many = so_z h0 i f := by
  unfold so_z; rw [if_pos f0]; exact M.1
theorem sb_end1 {h0 : ab_H} {i f many : Int} (M : sb_M h0 i f 310 many) (f0 : f ≠ 0) : -1 = so_z h0 i f := by
  have e : -1 = fs 0 310 (so_f h0 i) := fs_eq (by omega) (Or.inl ⟨rfl, M.2 f0⟩)
  unfold so_z so_v; rw [if_neg f0, if_pos e.symm]
theorem ft_set {h0 : ab_H} {i u v u' v' z D : Int} (r0 : ro_in h0) (L : iv_L h0) (P : ca_P h0 (h0 1 8) (so_W h0 i u v) z D) (e : ∀ s, 0 ≤ s → s < D → ((2 * u ≤ s ∧ s < 2 * (u + v)) ↔ (2 * u' ≤ s ∧ s < 2 * (u' + v')))) : z = rd_bool (FF h0 i u' v') := ca_fits L P (so_agree r0.1.2 e)
set_option maxHeartbeats 4000000 in
set_option maxRecDepth 100000 in
theorem lp_X6_sb1 {g : ab_G} {h0 h : ab_H} {i f many ft se u sa v : Int} {Q : Option ab_V → ab_H → Prop} (hu : 0 ≤ u ∧ u ≤ 30) (hv : 1 ≤ v ∧ v ≤ 10) (M : sb_M h0 i f (10 * u + v - 1) many) (hft : ft = rd_bool (FF h0 i u v)) (hq : ∀ z, z = so_z h0 i f → Q (some (a_I z)) h) (K : ∀ many, sb_M h0 i f (10 * u + (v + 1) - 1) many → Go g (ab_rm 5, 0, 0) m_X6_stoodBy Q 25 [some (a_R 0), some (a_I i), some (a_I f), some (a_I many), some (a_I ft), some (a_I se), some (a_I u), some (a_I sa), some (a_I (v + 1))] [] h) : Go g (ab_rm 5, 0, 0) m_X6_stoodBy Q 126 [some (a_R 0), some (a_I i), some (a_I f), some (a_I many), some (a_I ft), some (a_I se), some (a_I u), some (a_I sa), some (a_I v)] [] h := by
  have mb := wk_num_in (q := so_f h0 i) (10 * u + v - 1).toNat
  have me := M.1
  have f01 : ft = 0 ∨ ft = 1 := by rw [hft]; exact rd_01 _
  refine go_iload rfl rfl ?_
  refine go_if_eq rfl (tgt := 144) (by decide) (fun c128 => ?_) (fun c128 => ?_)
  · refine go_iload_n rfl rfl ?_
    refine go_iload rfl rfl ?_
    refine go_if_eq rfl (tgt := 154) (by decide) (fun c147 => ?_) (fun c147 => ?_)
    · refine go_iconst rfl ?_
      refine go_iadd rfl (by unfold ab_iok; omega) ?_
      refine go_istore_n rfl (by decide) rfl ?_
      refine go_iinc rfl rfl (by decide) rfl (by unfold ab_iok; omega) ?_
      refine go_goto rfl (tgt := 25) (by decide) ?_
      exact K _ (by have z := sb_nx hu.1 hv M hft (by omega); rw [c147] at z; exact z)
    · exact absurd c128 c147
  · refine go_iload_n rfl rfl ?_
    refine go_if_eq rfl (tgt := 144) (by decide) (fun c132 => ?_) (fun c132 => ?_)
    · refine go_iload_n rfl rfl ?_
      refine go_iload rfl rfl ?_
      refine go_if_eq rfl (tgt := 154) (by decide) (fun c147 => ?_) (fun c147 => ?_)
      · exact absurd c147 c128
      · refine go_iconst rfl ?_
        refine go_goto rfl (tgt := 155) (by decide) ?_
        refine go_iadd rfl (by unfold ab_iok; omega) ?_
        refine go_istore_n rfl (by decide) rfl ?_
        refine go_iinc rfl rfl (by decide) rfl (by unfold ab_iok; omega) ?_
        refine go_goto rfl (tgt := 25) (by decide) ?_
        exact K _ (by have z := sb_nx hu.1 hv M hft (by omega); rw [show ft = 1 by omega] at z; exact z)
    · refine go_bipush rfl ?_
      refine go_iload rfl rfl ?_
      refine go_imul rfl (by unfold ab_iok; omega) ?_
      refine go_iload rfl rfl ?_
      refine go_iadd rfl (by unfold ab_iok; omega) ?_
      exact go_iret rfl (Or.inl rfl) (hq _ (sb_first hu hv M (rd_n1 (by rw [← hft]; exact c128)) c132))
theorem so_pm {h : ab_H} {i u v : Int} (r0 : ro_in h) : tb_pm (h 1 8) (so_W h i u v) := fun t _ _ => by
  have z := cr_W_p1 (h := hS h i u v) (by rw [hS_f (by decide) (by decide)]; exact r0.1) 63 t.toNat
  rw [hS_f (by decide) (by decide)] at z
  exact z
set_option maxHeartbeats 4000000 in
set_option maxRecDepth 100000 in
theorem lp_X6_sb2 {g : ab_G} {h0 : ab_H} {i f u : Int} {Q : Option ab_V → ab_H → Prop} (r0 : ro_in h0) (L : iv_L h0) (hi : 0 ≤ i ∧ i < h0 1 8) (hu : 0 ≤ u ∧ u ≤ 30) (hq : ∀ h z, z = so_z h0 i f → CA h0 h → Q (some (a_I z)) h) (K11 : ∀ h many ft se sa v, sb_M h0 i f (10 * (u + 1)) many → sb_S h0 i (u + 1) ft se → CA h0 h → Go g (ab_rm 5, 0, 0) m_X6_stoodBy Q 11 [some (a_R 0), some (a_I i), some (a_I f), some (a_I many), some (a_I ft), some (a_I se), some (a_I (u + 1)), some (a_I sa), some (a_I v)] [] h) : ∀ (n : Nat) (v many ft se sa : Int) (h : ab_H), 1 ≤ v → v ≤ 11 → 11 - v < n → CA h0 h → sb_M h0 i f (10 * u + v - 1) many → sb_S h0 i (u + 1) ft se → sb_A h0 i u v ft sa → Go g (ab_rm 5, 0, 0) m_X6_stoodBy Q 25 [some (a_R 0), some (a_I i), some (a_I f), some (a_I many), some (a_I ft), some (a_I se), some (a_I u), some (a_I sa), some (a_I v)] [] h := by
  have am := am_in r0.1
  have m6 := r0.1
  intro n
  induction n with
  | zero => intro v many ft se sa h h0v h1v hf; omega
  | succ n ih =>
    intro v many ft se sa h h0v h1v hf F M S A
    have hr : ro_in h := ro_same F.k9 r0
    refine go_iload rfl rfl ?_
    refine go_bipush rfl ?_
    refine go_icmp_gt rfl (tgt := 163) (by decide) (fun c29 => ?_) (fun c29 => ?_)
    · refine go_iinc rfl rfl (by decide) rfl (by unfold ab_iok; omega) ?_
      refine go_goto rfl (tgt := 11) (by decide) ?_
      exact K11 h many ft se sa v (by rw [show 10 * (u + 1) = 10 * u + v - 1 by omega]; exact M) S F
    · refine go_iload rfl rfl ?_
      refine go_if_ne rfl (tgt := 126) (by decide) (fun c34 => ?_) (fun c34 => ?_)
      · exact lp_X6_sb1 hu ⟨h0v, by omega⟩ M (A c34 v (by omega) (by omega)) (fun z e => hq h z e F) (fun many2 M2 => ih (v + 1) many2 _ _ _ h (by omega) (by omega) (by omega) F M2 S (fun y v' v0 v1 => A y v' (by omega) v1))
      · refine go_aload_n rfl rfl ?_
        refine go_getR rfl f_X6_26 rfl rfl ?_ -- walk
        refine go_aload_n rfl rfl ?_
        refine go_getR rfl f_X6_10 rfl rfl ?_ -- road
        refine go_aload_n rfl rfl ?_
        refine go_getR rfl f_X6_19 rfl rfl ?_ -- use
        refine go_aload_n rfl rfl ?_
        refine go_cV0I (M' := m_X6_allMen) rfl l_X6_168 k_X6_allMen (s_X6_allMen hr.1) rfl rfl rfl rfl (by decide) (Nat.le_of_ble_eq_true rfl) (fun z50 h50 q50 => ?_) -- X6_allMen
        obtain ⟨rfl, rfl⟩ := q50
        refine go_cV3V (M' := m_X5_start) rfl l_X6_321 k_X5_start (s_X5_start hr) rfl rfl rfl rfl (by decide) (Nat.le_of_ble_eq_true rfl) (fun h53 q53 => ?_) -- X5_start
        refine go_aload_n rfl rfl ?_
        refine go_getR rfl f_X6_26 rfl rfl ?_ -- walk
        refine go_iload_n rfl rfl ?_
        refine go_iload rfl rfl ?_
        refine go_iload rfl rfl ?_
        refine go_cV3V (M' := m_X5_standInstead) rfl l_X6_341 k_X5_standInstead (s_X5_standInstead (by omega) (by omega) (by omega)) rfl rfl rfl rfl (by decide) (Nat.le_of_ble_eq_true rfl) (fun h65 q65 => ?_) -- X5_standInstead
        have SS := so_start r0 F q53 q65
        refine go_aload_n rfl rfl ?_
        refine go_getR rfl f_X6_40 rfl rfl ?_ -- letters
        refine go_aload_n rfl rfl ?_
        refine go_getR rfl f_X6_26 rfl rfl ?_ -- walk
        refine go_cV1I (M' := m_X1_comeAsTold) rfl l_X6_344 k_X1_comeAsTold (s_X1_comeAsTold (m := h0 1 8) (W := so_W h0 i u v) (so_pm r0) (SS.2.2.2.L L) SS.1.1 r0.1 (by rw [SS.1.2.1]; exact am.1) (by rw [SS.1.2.1]; exact fun j j0 j1 => (am.2 j j0 (by omega)).mpr j1) SS.2.1 SS.1.2.2 (by rw [SS.1.1, SS.1.2.1]; exact fun k k0 k1 y => by have := (am.2 k (by omega) k1).mp y; omega) SS.2.2.1) rfl rfl rfl rfl (by decide) (Nat.le_of_ble_eq_true rfl) (fun z76 h76 q76 => ?_) -- X1_comeAsTold
        have F76 : CA h0 h76 := SS.2.2.2.trans q76.2
        have P := SS.2.2.2.P q76.1
        have D4 := P.1
        refine go_istore rfl (by decide) rfl ?_
        refine go_aload_n rfl rfl ?_
        refine go_getR rfl f_X6_40 rfl rfl ?_ -- letters
        refine go_getI rfl f_X6_348 rfl rfl rfl ?_ -- decided
        refine go_iconst rfl ?_
        refine go_iload rfl rfl ?_
        refine go_imul rfl (by unfold ab_iok; omega) ?_
        refine go_icmp_gt rfl (tgt := 99) (by decide) (fun c92 => ?_) (fun c92 => ?_)
        · refine go_iconst rfl ?_
          refine go_istore rfl (by decide) rfl ?_
          refine go_aload_n rfl rfl ?_
          refine go_getR rfl f_X6_40 rfl rfl ?_ -- letters
          refine go_getI rfl f_X6_348 rfl rfl rfl ?_ -- decided
          refine go_iconst rfl ?_
          refine go_iload rfl rfl ?_
          refine go_iload rfl rfl ?_
          refine go_iadd rfl (by unfold ab_iok; omega) ?_
          refine go_imul rfl (by unfold ab_iok; omega) ?_
          refine go_icmp_gt rfl (tgt := 123) (by decide) (fun c116 => ?_) (fun c116 => ?_)
          · refine go_iconst rfl ?_
            refine go_istore rfl (by decide) rfl ?_
            exact lp_X6_sb1 hu ⟨h0v, by omega⟩ M (ft_set r0 L P (fun _ _ _ => Iff.rfl)) (fun z e => hq h76 z e F76) (fun many2 M2 => ih (v + 1) many2 _ _ _ h76 (by omega) (by omega) (by omega) F76 M2 (fun y => absurd rfl y) (fun y => absurd rfl y))
          · refine go_iconst rfl ?_
            refine go_goto rfl (tgt := 124) (by decide) ?_
            refine go_istore rfl (by decide) rfl ?_
            exact lp_X6_sb1 hu ⟨h0v, by omega⟩ M (ft_set r0 L P (fun _ _ _ => Iff.rfl)) (fun z e => hq h76 z e F76) (fun many2 M2 => ih (v + 1) many2 _ _ _ h76 (by omega) (by omega) (by omega) F76 M2 (fun y => absurd rfl y) (fun _ v' v0 v1 => ft_set r0 L P (fun s s0 s1 => by omega)))
        · refine go_iconst rfl ?_
          refine go_goto rfl (tgt := 100) (by decide) ?_
          refine go_istore rfl (by decide) rfl ?_
          refine go_aload_n rfl rfl ?_
          refine go_getR rfl f_X6_40 rfl rfl ?_ -- letters
          refine go_getI rfl f_X6_348 rfl rfl rfl ?_ -- decided
          refine go_iconst rfl ?_
          refine go_iload rfl rfl ?_
          refine go_iload rfl rfl ?_
          refine go_iadd rfl (by unfold ab_iok; omega) ?_
          refine go_imul rfl (by unfold ab_iok; omega) ?_
          refine go_icmp_gt rfl (tgt := 123) (by decide) (fun c116 => ?_) (fun c116 => ?_)
          · refine go_iconst rfl ?_
            refine go_istore rfl (by decide) rfl ?_
            exact lp_X6_sb1 hu ⟨h0v, by omega⟩ M (ft_set r0 L P (fun _ _ _ => Iff.rfl)) (fun z e => hq h76 z e F76) (fun many2 M2 => ih (v + 1) many2 _ _ _ h76 (by omega) (by omega) (by omega) F76 M2 (fun _ u' v' u0 v0 v1 => ft_set r0 L P (fun s s0 s1 => by omega)) (fun y => absurd rfl y))
          · refine go_iconst rfl ?_
            refine go_goto rfl (tgt := 124) (by decide) ?_
            refine go_istore rfl (by decide) rfl ?_
            exact lp_X6_sb1 hu ⟨h0v, by omega⟩ M (ft_set r0 L P (fun _ _ _ => Iff.rfl)) (fun z e => hq h76 z e F76) (fun many2 M2 => ih (v + 1) many2 _ _ _ h76 (by omega) (by omega) (by omega) F76 M2 (fun _ u' v' u0 v0 v1 => ft_set r0 L P (fun s s0 s1 => by omega)) (fun _ v' v0 v1 => ft_set r0 L P (fun s s0 s1 => by omega)))
set_option maxHeartbeats 4000000 in
set_option maxRecDepth 100000 in
theorem lp_X6_sb3 {g : ab_G} {h0 : ab_H} {i f : Int} {Q : Option ab_V → ab_H → Prop} (r0 : ro_in h0) (L : iv_L h0) (hi : 0 ≤ i ∧ i < h0 1 8) (hq : ∀ h z, z = so_z h0 i f → CA h0 h → Q (some (a_I z)) h) : ∀ (n : Nat) (u many ft se : Int) (h : ab_H), 0 ≤ u → u ≤ 31 → 31 - u < n → CA h0 h → sb_M h0 i f (10 * u) many → sb_S h0 i u ft se → ∀ v7 v8, Go g (ab_rm 5, 0, 0) m_X6_stoodBy Q 11 [some (a_R 0), some (a_I i), some (a_I f), some (a_I many), some (a_I ft), some (a_I se), some (a_I u), v7, v8] [] h := by
  intro n
  induction n with
  | zero => intro u many ft se h h0u h1u hf; omega
  | succ n ih =>
    intro u many ft se h h0u h1u hf F M S v7 v8
    refine go_iload rfl rfl ?_
    refine go_bipush rfl ?_
    refine go_icmp_gt rfl (tgt := 169) (by decide) (fun c15 => ?_) (fun c15 => ?_)
    · refine go_iload_n rfl rfl ?_
      have M2 : sb_M h0 i f 310 many := by rw [show u = 31 by omega] at M; exact M
      refine go_if_eq rfl (tgt := 177) (by decide) (fun c170 => ?_) (fun c170 => ?_)
      · refine go_iload_n rfl rfl ?_
        exact go_iret rfl (Or.inl rfl) (hq h _ (sb_end0 M2 c170) F)
      · refine go_iconst rfl ?_
        refine go_goto rfl (tgt := 178) (by decide) ?_
        exact go_iret rfl (Or.inl rfl) (hq h _ (sb_end1 M2 c170) F)
    · refine go_iload rfl rfl ?_
      refine go_istore rfl (by decide) rfl ?_
      refine go_iconst rfl ?_
      refine go_istore rfl (by decide) rfl ?_
      exact lp_X6_sb2 r0 L hi ⟨h0u, by omega⟩ hq (fun h2 many2 ft2 se2 sa2 v2 M2 S2 F2 => ih (u + 1) many2 ft2 se2 h2 (by omega) (by omega) (by omega) F2 M2 S2 _ _) 12 1 many ft se se h (by omega) (by omega) (by omega) F (by rw [show 10 * u + 1 - 1 = 10 * u by omega]; exact M) (fun y u' v' u0 v0 v1 => S y u' v' (by omega) v0 v1) (fun y v' v0 v1 => S y u v' (by omega) v0 v1)
set_option maxHeartbeats 4000000 in
set_option maxRecDepth 100000 in
theorem s_X6_stoodBy {g : ab_G} {h : ab_H} {i f : Int} (r0 : ro_in h) (L : iv_L h) (hi : 0 ≤ i ∧ i < h 1 8) : MethI g 5 m_X6_stoodBy [a_R 0, a_I i, a_I f] h (fun z h' => z = so_z h i f ∧ CA h h') := by
  refine Meth.of_go k_X6_stoodBy (Nat.le_of_ble_eq_true rfl) ?_
  show Go g _ m_X6_stoodBy _ 0 [some (a_R 0), some (a_I i), some (a_I f), none, none, none, none, none, none] [] h
  refine go_iconst rfl ?_
  refine go_istore_n rfl (by decide) rfl ?_
  refine go_iconst rfl ?_
  refine go_istore rfl (by decide) rfl ?_
  refine go_iconst rfl ?_
  refine go_istore rfl (by decide) rfl ?_
  refine go_iconst rfl ?_
  refine go_istore rfl (by decide) rfl ?_
  exact lp_X6_sb3 r0 L hi (fun h2 z e F => ⟨_, rfl, e, F⟩) 33 0 0 0 0 h (by omega) (by omega) (by omega) (CA.refl h) ⟨rfl, fun _ j j0 j1 => by omega⟩ (fun y => absurd rfl y) _ _
