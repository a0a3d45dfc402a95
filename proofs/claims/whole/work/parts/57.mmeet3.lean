/-! the reference: meet whole; walks that agree for those who are there -/
def wk_eqW (m w : Int) (S S' : wk_S) : Prop := ∀ j, 0 ≤ j → j < m → wk_tb w j = true → S.1 j = S'.1 j ∧ S.2.1 j = S'.2.1 j ∧ S.2.2 j = S'.2.2 j
theorem wk_eqW.trans {m w : Int} {S S' S'' : wk_S} (h : wk_eqW m w S S') (h' : wk_eqW m w S' S'') : wk_eqW m w S S'' := fun j a b c => ⟨(h j a b c).1.trans (h' j a b c).1, (h j a b c).2.1.trans (h' j a b c).2.1, (h j a b c).2.2.trans (h' j a b c).2.2⟩
theorem wk_goW {m E w t : Int} {a b c a' b' c' : Int → Int} {S S' : wk_S} (h : wk_eqW m w S S') (hp : ∀ j, 0 ≤ j → j < m → a j = a' j ∧ b j = b' j ∧ c j = c' j) : wk_eqW m w (wk_go E a b c w t S) (wk_go E a' b' c' w t S') := by
  intro j j0 j1 jw
  obtain ⟨e1, e2, e3⟩ := h j j0 j1 jw
  obtain ⟨p1, p2, p3⟩ := hp j j0 j1
  unfold wk_go
  dsimp only
  rw [e1, e2, e3]
  have e : wk_std a b c j t ↔ wk_std a' b' c' j t := by unfold wk_std; rw [p1, p2, p3]
  simp only [e]
  exact ⟨trivial, trivial, trivial⟩
theorem wk_GW {m w : Int} {pl pl' : Int → Int} (h : ∀ j, 0 ≤ j → j < m → wk_tb w j = true → pl j = pl' j) {i : Int} (hi : 0 ≤ i ∧ i < m) (iw : wk_tb w i = true) : wk_G m w pl i = wk_G m w pl' i := by
  funext j
  unfold wk_G
  rw [h i hi.1 hi.2 iw]
  apply propext
  constructor
  · rintro ⟨a, b, c, d⟩; exact ⟨a, b, c, by rw [← h j a b c]; exact d⟩
  · rintro ⟨a, b, c, d⟩; exact ⟨a, b, c, by rw [h j a b c]; exact d⟩
theorem wk_actW {m w : Int} {pl pl' bf bf' : Int → Int} (h : ∀ j, 0 ≤ j → j < m → wk_tb w j = true → pl j = pl' j) (hb : ∀ j, 0 ≤ j → j < m → wk_tb w j = true → bf j = bf' j) {i : Int} (hi : 0 ≤ i ∧ i < m) : wk_act m w pl bf i ↔ wk_act m w pl' bf' i := by
  unfold wk_act wk_new
  constructor
  · rintro ⟨a, j, b, c⟩
    rw [wk_GW h hi a] at b
    exact ⟨a, j, b, by rw [← hb j b.1 b.2.1 b.2.2.1, ← hb i hi.1 hi.2 a]; exact c⟩
  · rintro ⟨a, j, b, c⟩
    rw [← wk_GW h hi a] at b
    exact ⟨a, j, b, by rw [hb j b.1 b.2.1 b.2.2.1, hb i hi.1 hi.2 a]; exact c⟩
theorem wk_meetW {m l0 l1 w : Int} {bf bf' : Int → Int} {S S' : wk_S} (hm : m ≤ 6) (h : wk_eqW m w S S') (hb : ∀ j, 0 ≤ j → j < m → wk_tb w j = true → bf j = bf' j) : wk_eqW m w (wk_meet m l0 l1 w bf S) (wk_meet m l0 l1 w bf' S') := by
  intro j j0 j1 jw
  obtain ⟨e1, e2, e3⟩ := h j j0 j1 jw
  have hp : ∀ j, 0 ≤ j → j < m → wk_tb w j = true → S.1 j = S'.1 j := fun j a b c => (h j a b c).1
  have hG := wk_GW hp ⟨j0, j1⟩ jw
  have hA := wk_actW hp hb ⟨j0, j1⟩
  refine ⟨e1, ?_, ?_⟩
  · show wk_fcm _ _ _ _ _ _ _ = wk_fcm _ _ _ _ _ _ _
    unfold wk_fcm
    rw [hG, e2, propext hA]
  · show wk_bgm _ _ _ _ _ _ _ = wk_bgm _ _ _ _ _ _ _
    unfold wk_bgm
    rw [hG, e3, propext hA]
    have gi : wk_G m w S'.1 j j := ⟨j0, j1, jw, rfl⟩
    have gp := wk_prv_in hm gi
    rw [(h _ gp.1 gp.2.1 gp.2.2.1).2.2]
theorem wk_metW {m w : Int} {bf bf' : Int → Int} {S S' : wk_S} (h : wk_eqW m w S S') (hb : ∀ j, 0 ≤ j → j < m → wk_tb w j = true → bf j = bf' j) {i j : Int} (hi : 0 ≤ i ∧ i < m) : wk_met m w bf S i j ↔ wk_met m w bf' S' i j := by
  have hp : ∀ j, 0 ≤ j → j < m → wk_tb w j = true → S.1 j = S'.1 j := fun j a b c => (h j a b c).1
  unfold wk_met
  rw [propext (wk_actW hp hb hi)]
  constructor
  · rintro ⟨a, b, c⟩; exact ⟨a, by rw [← wk_GW hp hi a.1]; exact b, c⟩
  · rintro ⟨a, b, c⟩; exact ⟨a, by rw [wk_GW hp hi a.1]; exact b, c⟩
/-- behind a half minute's meetings -/
def me_Post (h : ab_H) (t : Int) (h' : ab_H) : Prop := (∀ k, 0 ≤ k → k < h 62 9 → h' 76 (6 * t + k) = wk_fcm (h 62 9) (h 72 0) (h 72 1) (h 62 18) (fun k => h 75 (6 * (t - 1) + k)) (md_row h t) k ∧ h' 77 (6 * t + k) = wk_bgm (h 62 9) (h 72 0) (h 72 1) (h 62 18) (fun k => h 75 (6 * (t - 1) + k)) (md_row h t) k) ∧ (∀ a b, 0 ≤ a → a < h 62 9 → 0 ≤ b → b < 6 → h' 78 (36 * t + 6 * a + b) = rd_bool (wk_met (h 62 9) (h 62 18) (fun k => h 75 (6 * (t - 1) + k)) (md_row h t) a b)) ∧ ∀ k b, ¬ (k = 78 ∧ 36 * t ≤ b ∧ b < 36 * t + 36) → ¬ ((k = 76 ∨ k = 77) ∧ 6 * t ≤ b ∧ b < 6 * t + h 62 9) → k ≠ 79 → h' k b = h k b
theorem me_end {h h1 h' : ab_H} {t : Int} (C : cl_I h t (36 * t + 36) h1) (J : mm_I h1 t (h1 62 9) h') : me_Post h t h' := by
  have e : ∀ k, k ≠ 78 → h1 k = h k := fun k hk => funext fun b => C.2 k b (fun z => hk z.1)
  obtain ⟨J1, J2, J3⟩ := J
  unfold mm_I at *
  have er : md_row h1 t = md_row h t := by unfold md_row; rw [e 75 (by decide), e 76 (by decide), e 77 (by decide)]
  rw [er, e 62 (by decide), e 75 (by decide), e 72 (by decide)] at J1
  rw [er, e 62 (by decide), e 75 (by decide)] at J2
  rw [e 62 (by decide)] at J3
  have sdk : ∀ k, 0 ≤ k → k < h 62 9 → (sd_X (h 62 18) (fun k => h 75 (6 * t + k)) (h 62 9) k ↔ wk_tb (h 62 18) k = true) := fun k k0 k1 => ⟨fun z => z.1, fun z => ⟨z, k, k0, k1, z, rfl⟩⟩
  refine ⟨fun k k0 k1 => ?_, fun a b a0 a1 b0 b1 => ?_, fun k b x1 x2 x3 => ?_⟩
  · by_cases z : wk_tb (h 62 18) k = true
    · exact (J1 k k0 k1).1 ((sdk k k0 k1).mpr z)
    · obtain ⟨q1, q2⟩ := (J1 k k0 k1).2 (fun y => z ((sdk k k0 k1).mp y))
      rw [q1, q2, e 76 (by decide), e 77 (by decide)]
      unfold wk_fcm wk_bgm
      exact ⟨(if_neg (fun y => z y.1.1)).symm, (if_neg (fun y => z y.1.1)).symm⟩
  · rw [J2 a b a0 a1 b0 b1]
    exact rd_iff ⟨fun z => z.2, fun z => ⟨(sdk a a0 a1).mpr z.1.1, z⟩⟩
  · rw [J3 k b x1 x2 x3]
    exact C.2 k b (fun z => x1 z)
set_option maxHeartbeats 4000000 in
set_option maxRecDepth 100000 in
theorem s_X7_meet {g : ab_G} {h : ab_H} {t : Int} (hm : 0 ≤ h 62 9 ∧ h 62 9 ≤ 6) (hw : 0 ≤ h 62 18 ∧ h 62 18 < 64) (ht : 0 ≤ t ∧ t ≤ 400) (hf : ∀ k, 0 ≤ k → k < h 62 9 → h 76 (6 * t + k) = 1 ∨ h 76 (6 * t + k) = -1) (hd : 1 ≤ t ∨ ∀ a b, 0 ≤ a → a < h 62 9 → 0 ≤ b → b < h 62 9 → wk_tb (h 62 18) a = true → wk_tb (h 62 18) b = true → h 75 (6 * t + a) = h 75 (6 * t + b) → a = b) : MethV g 3 m_X7_meet [a_R 62, a_I t] h (fun h' => me_Post h t h') := by
  refine Meth.of_go k_X7_meet (Nat.le_of_ble_eq_true rfl) ?_
  show Go g _ m_X7_meet _ 0 [some (a_R 62), some (a_I t), none, none] [] h
  refine go_bipush rfl ?_
  refine go_iload_n rfl rfl ?_
  refine go_imul rfl (by unfold ab_iok; omega) ?_
  refine go_istore_n rfl (by decide) rfl ?_
  refine lp_X7_meetC ht (fun h1 C k => ?_) 40 (36 * t) h (by omega) (by omega) (by omega) ⟨fun b b0 b1 => by omega, fun _ _ _ => rfl⟩
  refine go_iconst rfl ?_
  refine go_istore_n rfl (by decide) rfl ?_
  have e : ∀ k, k ≠ 78 → h1 k = h k := fun k hk => funext fun b => C.2 k b (fun z => hk z.1)
  refine lp_X7_meet (h0 := h1) (by rw [e 62 (by decide)]; exact hm) (by rw [e 62 (by decide)]; exact hw) ht (by rw [e 62 (by decide), e 76 (by decide)]; exact hf) (by rw [e 62 (by decide), e 75 (by decide)]; exact hd) (fun h2 J => ⟨rfl, me_end C J⟩) 8 0 h1 (by omega) (by rw [e 62 (by decide)]; omega) (by rw [e 62 (by decide)]; omega) ⟨fun k k0 k1 => ⟨?_, fun _ => ⟨rfl, rfl⟩⟩, fun a b a0 a1 b0 b1 => ?_, fun _ _ _ _ _ => rfl⟩ none
  · rintro ⟨-, j, j0, j1, -⟩; omega
  · rw [e 62 (by decide)] at a1
    rw [C.1 _ (by omega) (by omega)]
    exact (rd_f (by rintro ⟨⟨-, j, j0, j1, -⟩, -⟩; omega)).symm
