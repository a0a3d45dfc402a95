/-! the step as a function; walks from equal beginnings -/
/-- S and S' agree for the men 0 .. m - 1 -/
def wk_eq (m : Int) (S S' : wk_S) : Prop := ∀ j, 0 ≤ j → j < m → S.1 j = S'.1 j ∧ S.2.1 j = S'.2.1 j ∧ S.2.2 j = S'.2.2 j
theorem wk_eq.symm {m : Int} {S S' : wk_S} (h : wk_eq m S S') : wk_eq m S' S := fun j a b => ⟨(h j a b).1.symm, (h j a b).2.1.symm, (h j a b).2.2.symm⟩
theorem wk_eq.trans {m : Int} {S S' S'' : wk_S} (h : wk_eq m S S') (h' : wk_eq m S' S'') : wk_eq m S S'' := fun j a b => ⟨(h j a b).1.trans (h' j a b).1, (h j a b).2.1.trans (h' j a b).2.1, (h j a b).2.2.trans (h' j a b).2.2⟩
theorem wk_go_congr {m E w t : Int} {a b c a' b' c' : Int → Int} {S S' : wk_S} (h : wk_eq m S S') (hp : ∀ j, 0 ≤ j → j < m → a j = a' j ∧ b j = b' j ∧ c j = c' j) : wk_eq m (wk_go E a b c w t S) (wk_go E a' b' c' w t S') := by
  intro j j0 j1
  obtain ⟨e1, e2, e3⟩ := h j j0 j1
  obtain ⟨p1, p2, p3⟩ := hp j j0 j1
  unfold wk_go
  dsimp only
  rw [e1, e2, e3]
  have e : wk_std a b c j t ↔ wk_std a' b' c' j t := by unfold wk_std; rw [p1, p2, p3]
  simp only [e]
  exact ⟨trivial, trivial, trivial⟩
theorem wk_G_congr {m w : Int} {pl pl' : Int → Int} (h : ∀ j, 0 ≤ j → j < m → pl j = pl' j) {i : Int} (hi : 0 ≤ i ∧ i < m) : wk_G m w pl i = wk_G m w pl' i := by
  funext j
  unfold wk_G
  rw [h i hi.1 hi.2]
  apply propext
  constructor
  · rintro ⟨a, b, c, d⟩; exact ⟨a, b, c, by rw [← h j a b]; exact d⟩
  · rintro ⟨a, b, c, d⟩; exact ⟨a, b, c, by rw [h j a b]; exact d⟩
theorem wk_act_congr {m w : Int} {pl pl' bf bf' : Int → Int} (h : ∀ j, 0 ≤ j → j < m → pl j = pl' j) (hb : ∀ j, 0 ≤ j → j < m → bf j = bf' j) {i : Int} (hi : 0 ≤ i ∧ i < m) : wk_act m w pl bf i ↔ wk_act m w pl' bf' i := by
  unfold wk_act wk_new
  rw [wk_G_congr h hi]
  constructor
  · rintro ⟨a, j, b, c⟩; exact ⟨a, j, b, by rw [← hb j b.1 b.2.1, ← hb i hi.1 hi.2]; exact c⟩
  · rintro ⟨a, j, b, c⟩; exact ⟨a, j, b, by rw [hb j b.1 b.2.1, hb i hi.1 hi.2]; exact c⟩
theorem wk_prv_in {m w : Int} {pl : Int → Int} {i : Int} (hm : m ≤ 6) (hi : wk_G m w pl i i) : wk_G m w pl i (wk_prv (wk_G m w pl i) i) := by
  unfold wk_prv
  split
  · rcases wk_last_spec (q := wk_G m w pl i) 6 with ⟨a1, a2⟩ | ⟨a1, a2, a3, -⟩
    · exact absurd hi (a2 i hi.1 (by have := hi.2.1; omega))
    · exact a3
  · rename_i ne
    rcases wk_last_spec (q := wk_G m w pl i) i.toNat with ⟨a1, a2⟩ | ⟨a1, a2, a3, -⟩
    · exact absurd a1 ne
    · exact a3
theorem wk_meet_congr {m l0 l1 w : Int} {bf bf' : Int → Int} {S S' : wk_S} (hm : m ≤ 6) (h : wk_eq m S S') (hb : ∀ j, 0 ≤ j → j < m → bf j = bf' j) : wk_eq m (wk_meet m l0 l1 w bf S) (wk_meet m l0 l1 w bf' S') := by
  intro j j0 j1
  obtain ⟨e1, e2, e3⟩ := h j j0 j1
  have hp : ∀ j, 0 ≤ j → j < m → S.1 j = S'.1 j := fun j a b => (h j a b).1
  have hG := wk_G_congr (w := w) hp ⟨j0, j1⟩
  have hA := wk_act_congr (w := w) hp hb ⟨j0, j1⟩
  refine ⟨e1, ?_, ?_⟩
  · show wk_fcm _ _ _ _ _ _ _ = wk_fcm _ _ _ _ _ _ _
    unfold wk_fcm
    rw [hG, e2, propext hA]
  · show wk_bgm _ _ _ _ _ _ _ = wk_bgm _ _ _ _ _ _ _
    unfold wk_bgm
    rw [hG, e3, propext hA]
    by_cases z : wk_act m w S'.1 bf' j
    · have gi : wk_G m w S'.1 j j := ⟨j0, j1, z.1, rfl⟩
      have gp := wk_prv_in hm gi
      rw [(h _ gp.1 gp.2.1).2.2]
    · rw [if_neg (fun y => z y.1), if_neg (fun y => z y.1)]
theorem wk_met_congr {m w : Int} {bf bf' : Int → Int} {S S' : wk_S} (h : wk_eq m S S') (hb : ∀ j, 0 ≤ j → j < m → bf j = bf' j) {i j : Int} (hi : 0 ≤ i ∧ i < m) : wk_met m w bf S i j ↔ wk_met m w bf' S' i j := by
  have hp : ∀ j, 0 ≤ j → j < m → S.1 j = S'.1 j := fun j a b => (h j a b).1
  unfold wk_met
  rw [wk_G_congr (w := w) hp hi, propext (wk_act_congr (w := w) hp hb hi)]
/-- a half minute: going on, then meeting -/
noncomputable def wk_step (E : Int) (a b c : Int → Int) (m l0 l1 w t : Int) (S : wk_S) : wk_S := wk_meet m l0 l1 w S.1 (wk_go E a b c w t S)
def wk_mets (E : Int) (a b c : Int → Int) (m w t : Int) (S : wk_S) (i j : Int) : Prop := wk_met m w S.1 (wk_go E a b c w t S) i j
abbrev wk_row (h : ab_H) : wk_S := (h 11, h 13, h 14)
noncomputable def sp_S (h : ab_H) : wk_S := wk_step (h 10 9) (h 15) (h 16) (h 17) (h 10 7) (h 10 10) (h 10 11) (h 10 8) (h 10 12) (wk_row h)
theorem wk_pm {E p f : Int} (hf : f = 1 ∨ f = -1) (c : Prop) [Decidable c] : (if c then wk_fc E p f else f) = 1 ∨ (if c then wk_fc E p f else f) = -1 := by
  have h1 : wk_fc E p f = 1 ∨ wk_fc E p f = -1 := by
    unfold wk_fc
    by_cases z : (f = 1 ∧ p = E) ∨ (¬ f = 1 ∧ p = 0)
    · rw [if_pos z]; omega
    · rw [if_neg z]; exact hf
  by_cases z : c
  · rw [if_pos z]; exact h1
  · rw [if_neg z]; exact hf
def sp_Post (h h' : ab_H) : Prop := wk_eq (h 10 7) (wk_row h') (sp_S h) ∧ h' 10 12 = h 10 12 + 1 ∧ (0 ≤ h' 10 13 ∧ h' 10 13 < 68719476736) ∧ (∀ i j, 0 ≤ i → i < 6 → 0 ≤ j → j < 6 → (pr_tb (h' 10 13) i j = true ↔ wk_mets (h 10 9) (h 15) (h 16) (h 17) (h 10 7) (h 10 8) (h 10 12) (wk_row h) i j)) ∧ (∀ k, ¬ (k = 10 ∨ k = 11 ∨ k = 12 ∨ k = 13 ∨ k = 14) → h' k = h k) ∧ ∀ b, ¬ (b = 12 ∨ b = 13) → h' 10 b = h 10 b
theorem sp_end {h h2 h0 h' : ab_H} {left : Int} (hm : 0 ≤ h 10 7 ∧ h 10 7 ≤ 6) (hb : ∀ k, h 10 7 ≤ k → k < 6 → ¬ wk_tb (h 10 8) k = true) (I : gn_I h (h 10 7) h2) (e0 : h0 = ab_hs (ab_hs h2 10 12 (h 10 12 + 1)) 10 13 0) (J : st_I h0 (h0 10 7) left h') : sp_Post h h' := by
  have e10 : ∀ b, ¬ (b = 12 ∨ b = 13) → h0 10 b = h 10 b := fun b hb => by rw [e0, ab_hs_i (by omega), ab_hs_i (by omega), I.2.2 10 (by decide)]
  have ek : ∀ k, ¬ (k = 10 ∨ k = 11 ∨ k = 12 ∨ k = 13) → h0 k = h k := fun k hk => by rw [e0, ab_hs_f (by omega), ab_hs_f (by omega)]; exact I.2.2 k (by omega)
  have er : ∀ k, k ≠ 10 → h0 k = h2 k := fun k hk => by rw [e0, ab_hs_f hk, ab_hs_f hk]
  have e7 := e10 7 (by decide)
  have e8 := e10 8 (by decide)
  obtain ⟨J0, J1, J2, J3, J4, J5, J6⟩ := J
  rw [e7] at J2 J4
  have row : wk_eq (h 10 7) (wk_row h0) (wk_go (h 10 9) (h 15) (h 16) (h 17) (h 10 8) (h 10 12) (wk_row h)) := by
    intro j j0 j1
    obtain ⟨a1, a2, a3⟩ := I.1 j j0 j1
    refine ⟨?_, ?_, ?_⟩
    · show h0 11 j = _; rw [er 11 (by decide)]; exact a2
    · show h0 13 j = _; rw [er 13 (by decide)]; exact a3
    · show h0 14 j = _; rw [ek 14 (by decide)]; rfl
  have bf : ∀ j, 0 ≤ j → j < h 10 7 → h0 12 j = h 11 j := fun j j0 j1 => by rw [er 12 (by decide)]; exact (I.1 j j0 j1).1
  have dn : ∀ k, 0 ≤ k → k < h 10 7 → (st_dn h0 (h 10 7) k ↔ wk_tb (h 10 8) k = true) := by
    intro k k0 k1
    unfold st_dn
    rw [e8]
    exact ⟨fun z => z.1, fun z => ⟨z, k, k0, k1, z, rfl⟩⟩
  have mc := wk_meet_congr (l0 := h 10 10) (l1 := h 10 11) (w := h 10 8) hm.2 row bf
  refine ⟨fun j j0 j1 => ?_, ?_, J3, fun i j i0 i1 j0 j1 => ?_, fun k hk => (J5 k (by omega)).trans (ek k (by omega)), fun b hb => (J6 b (by omega)).trans (e10 b hb)⟩
  · refine wk_eq.trans (S' := wk_meet (h 10 7) (h 10 10) (h 10 11) (h 10 8) (h0 12) (wk_row h0)) ?_ mc j j0 j1
    intro k k0 k1
    refine ⟨?_, ?_, ?_⟩
    · show h' 11 k = h0 11 k; rw [J5 11 (by decide)]
    · show h' 13 k = wk_fcm _ _ _ _ _ _ _
      by_cases z : wk_tb (h 10 8) k = true
      · have := ((J2 k k0 k1).1 ((dn k k0 k1).mpr z)).1
        rw [e8, e10 10 (by decide), e10 11 (by decide)] at this
        exact this
      · rw [((J2 k k0 k1).2 (fun y => z ((dn k k0 k1).mp y))).1]
        unfold wk_fcm
        exact (if_neg (fun y => z y.1.1)).symm
    · show h' 14 k = wk_bgm _ _ _ _ _ _ _
      by_cases z : wk_tb (h 10 8) k = true
      · have := ((J2 k k0 k1).1 ((dn k k0 k1).mpr z)).2
        rw [e8, e10 10 (by decide), e10 11 (by decide)] at this
        exact this
      · rw [((J2 k k0 k1).2 (fun y => z ((dn k k0 k1).mp y))).2]
        unfold wk_bgm
        exact (if_neg (fun y => z y.1.1)).symm
  · rw [J6 12 (by decide), e0, ab_hs_i (by decide), ab_hs_eq]
  · rw [J4 i j i0 i1 j0 j1]
    by_cases z : i < h 10 7
    · rw [dn i i0 z, e8]
      have mm := wk_met_congr (w := h 10 8) row bf (i := i) (j := j) ⟨i0, z⟩
      exact ⟨fun y => mm.mp y.2, fun y => ⟨y.1.1, mm.mpr y⟩⟩
    · have nb := hb i (by omega) i1
      exact ⟨fun y => absurd (by rw [← e8]; exact y.1.1) nb, fun y => absurd y.1.1 nb⟩
set_option maxHeartbeats 4000000 in
set_option maxRecDepth 100000 in
theorem s_X5_step {g : ab_G} {h : ab_H} (hin : wk_in h) (hb : ∀ k, h 10 7 ≤ k → k < 6 → ¬ wk_tb (h 10 8) k = true) : MethV g 3 m_X5_step [a_R 10] h (fun h' => sp_Post h h') := by
  refine Meth.of_go k_X5_step (Nat.le_of_ble_eq_true rfl) ?_
  show Go g _ m_X5_step _ 0 [some (a_R 10), none, none, none, none, none] [] h
  refine go_aload_n rfl rfl ?_
  refine go_cV0V (M' := m_X5_goOn) rfl l_X5_81 k_X5_goOn (s_X5_goOn hin) rfl rfl rfl rfl (by decide) (Nat.le_of_ble_eq_true rfl) (fun h1 q1 => ?_) -- X5_goOn
  obtain ⟨h2, I, rfl⟩ := q1
  refine go_aload_n rfl rfl ?_
  refine go_lconst rfl ?_
  refine go_putL rfl f_X5_52 rfl rfl rfl (Or.inl ⟨rfl, rfl⟩) ?_ -- pairs
  refine go_aload_n rfl rfl ?_
  refine go_getI rfl f_X5_37 rfl rfl rfl ?_ -- there
  refine go_istore_n rfl (by decide) rfl ?_
  refine go_iconst rfl ?_
  refine go_istore_n rfl (by decide) rfl ?_
  have e10 : ∀ b, ¬ (b = 12 ∨ b = 13) → (ab_hs (ab_hs h2 10 12 (h 10 12 + 1)) 10 13 0) 10 b = h 10 b := fun b hb => by rw [ab_hs_i (by omega), ab_hs_i (by omega), I.2.2 10 (by decide)]
  have e7 := e10 7 (by decide)
  have e8 := e10 8 (by decide)
  refine lp_X5_step (h0 := ab_hs (ab_hs h2 10 12 (h 10 12 + 1)) 10 13 0) (by rw [e7]; exact hin.1) (by rw [e7, e8]; exact hb) ?_ (fun left h3 J => ⟨rfl, sp_end hin.1 hb I rfl J⟩) 8 0 _ _ (by omega) (by rw [e7]; exact hin.1.1) (by rw [e7]; have := hin.1; omega) ⟨by rw [e8]; exact hin.2.1, fun k k0 k1 => ⟨fun z => ⟨z, ?_⟩, fun z => z.1⟩, fun k k0 k1 => ⟨?_, fun _ => ⟨rfl, rfl⟩⟩, ?_, ?_, fun _ _ => rfl, fun _ _ => rfl⟩ none none none
  · rw [e7]
    intro i i0 i1
    rw [ab_hs_f (by decide), ab_hs_f (by decide), (I.1 i i0 i1).2.2]
    exact wk_pm (hin.2.2.2.2 i i0 i1).2 _
  · rintro ⟨-, j, j0, j1, -⟩; omega
  · rintro ⟨-, j, j0, j1, -⟩; omega
  · rw [ab_hs_eq]; omega
  · intro a b a0 a1 b0 b1
    rw [ab_hs_eq]
    constructor
    · intro z; exact absurd z (by show ¬ ((0 : Int).toNat.testBit _ = true); simp)
    · rintro ⟨⟨-, j, j0, j1, -⟩, -⟩; omega
