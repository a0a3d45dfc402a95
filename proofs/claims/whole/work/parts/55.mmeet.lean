/-! the reference: a half minute's meetings -/
set_option maxHeartbeats 4000000 in
set_option maxRecDepth 100000 in
theorem s_X7_acts {g : ab_G} {h : ab_H} {n t : Int} (E : ac_e h n) (hn : 2 ≤ n) (ht : 0 ≤ t ∧ t ≤ 400) (hf : ∀ c, 0 ≤ c → c < n → h 76 (6 * t + h 79 c) = 1 ∨ h 76 (6 * t + h 79 c) = -1) : MethV g 2 m_X7_acts [a_R 62, a_I n, a_I t] h (fun h' => ac_Post h t n h') := by
  refine Meth.of_go k_X7_acts (Nat.le_of_ble_eq_true rfl) ?_
  show Go g _ m_X7_acts _ 0 [some (a_R 62), some (a_I n), some (a_I t), none, none, none, none] [] h
  refine go_iconst rfl ?_
  refine go_istore_n rfl (by decide) rfl ?_
  refine lp_X7_acts1 E (by omega) ht (fun h1 A a v => ?_) 8 0 h (by omega) (by have := E.1; omega) (by have := E.1; omega) ⟨fun i j i0 i1 j0 j1 => ⟨?_, fun _ => rfl⟩, fun _ _ _ => rfl⟩ none
  · refine go_iload_n rfl rfl ?_
    refine go_iconst rfl ?_
    refine go_icmp_ne rfl (tgt := 89) (by decide) (fun c68 => ?_) (fun c68 => ?_)
    · refine go_aload_n rfl rfl ?_
      refine go_getR rfl f_X7_37 rfl rfl ?_ -- laws
      refine go_iconst rfl ?_
      refine go_iald rfl rfl (by omega) (by omega) ?_
      rw [A.2 72 _ (by omega)]
      refine go_iconst rfl ?_
      refine go_icmp_ne rfl (tgt := 103) (by decide) (fun c96 => ?_) (fun c96 => ?_)
      · refine go_iconst rfl ?_
        refine go_istore_n rfl (by decide) rfl ?_
        refine go_iload_n rfl rfl ?_
        refine go_iconst rfl ?_
        refine go_icmp_ne rfl (tgt := 128) (by decide) (fun c107 => ?_) (fun c107 => ?_)
        · refine go_aload_n rfl rfl ?_
          refine go_getR rfl f_X7_37 rfl rfl ?_ -- laws
          refine go_iconst rfl ?_
          refine go_iald rfl rfl (by omega) (by omega) ?_
          rw [A.2 72 _ (by omega)]
          refine go_iconst rfl ?_
          refine go_icmp_ne rfl (tgt := 142) (by decide) (fun c135 => ?_) (fun c135 => ?_)
          · refine go_iconst rfl ?_
            refine go_istore rfl (by decide) rfl ?_
            first | (exfalso; omega) | exact lp_X7_acts4 E hn ht hf A (by first | rw [rd_t (by omega)] | rw [rd_f (by omega)]) (by first | rw [rd_t (by omega)] | rw [rd_f (by omega)]) (fun h2 z => ⟨rfl, z⟩)
          · refine go_iconst rfl ?_
            refine go_goto rfl (tgt := 143) (by decide) ?_
            refine go_istore rfl (by decide) rfl ?_
            first | (exfalso; omega) | exact lp_X7_acts4 E hn ht hf A (by first | rw [rd_t (by omega)] | rw [rd_f (by omega)]) (by first | rw [rd_t (by omega)] | rw [rd_f (by omega)]) (fun h2 z => ⟨rfl, z⟩)
        · refine go_aload_n rfl rfl ?_
          refine go_getR rfl f_X7_37 rfl rfl ?_ -- laws
          refine go_iconst rfl ?_
          refine go_iald rfl rfl (by omega) (by omega) ?_
          rw [A.2 72 _ (by omega)]
          refine go_iconst rfl ?_
          refine go_icmp_eq rfl (tgt := 124) (by decide) (fun c117 => ?_) (fun c117 => ?_)
          · refine go_iconst rfl ?_
            refine go_goto rfl (tgt := 143) (by decide) ?_
            refine go_istore rfl (by decide) rfl ?_
            first | (exfalso; omega) | exact lp_X7_acts4 E hn ht hf A (by first | rw [rd_t (by omega)] | rw [rd_f (by omega)]) (by first | rw [rd_t (by omega)] | rw [rd_f (by omega)]) (fun h2 z => ⟨rfl, z⟩)
          · refine go_iconst rfl ?_
            refine go_goto rfl (tgt := 143) (by decide) ?_
            refine go_istore rfl (by decide) rfl ?_
            first | (exfalso; omega) | exact lp_X7_acts4 E hn ht hf A (by first | rw [rd_t (by omega)] | rw [rd_f (by omega)]) (by first | rw [rd_t (by omega)] | rw [rd_f (by omega)]) (fun h2 z => ⟨rfl, z⟩)
      · refine go_iconst rfl ?_
        refine go_goto rfl (tgt := 104) (by decide) ?_
        refine go_istore_n rfl (by decide) rfl ?_
        refine go_iload_n rfl rfl ?_
        refine go_iconst rfl ?_
        refine go_icmp_ne rfl (tgt := 128) (by decide) (fun c107 => ?_) (fun c107 => ?_)
        · refine go_aload_n rfl rfl ?_
          refine go_getR rfl f_X7_37 rfl rfl ?_ -- laws
          refine go_iconst rfl ?_
          refine go_iald rfl rfl (by omega) (by omega) ?_
          rw [A.2 72 _ (by omega)]
          refine go_iconst rfl ?_
          refine go_icmp_ne rfl (tgt := 142) (by decide) (fun c135 => ?_) (fun c135 => ?_)
          · refine go_iconst rfl ?_
            refine go_istore rfl (by decide) rfl ?_
            first | (exfalso; omega) | exact lp_X7_acts4 E hn ht hf A (by first | rw [rd_t (by omega)] | rw [rd_f (by omega)]) (by first | rw [rd_t (by omega)] | rw [rd_f (by omega)]) (fun h2 z => ⟨rfl, z⟩)
          · refine go_iconst rfl ?_
            refine go_goto rfl (tgt := 143) (by decide) ?_
            refine go_istore rfl (by decide) rfl ?_
            first | (exfalso; omega) | exact lp_X7_acts4 E hn ht hf A (by first | rw [rd_t (by omega)] | rw [rd_f (by omega)]) (by first | rw [rd_t (by omega)] | rw [rd_f (by omega)]) (fun h2 z => ⟨rfl, z⟩)
        · refine go_aload_n rfl rfl ?_
          refine go_getR rfl f_X7_37 rfl rfl ?_ -- laws
          refine go_iconst rfl ?_
          refine go_iald rfl rfl (by omega) (by omega) ?_
          rw [A.2 72 _ (by omega)]
          refine go_iconst rfl ?_
          refine go_icmp_eq rfl (tgt := 124) (by decide) (fun c117 => ?_) (fun c117 => ?_)
          · refine go_iconst rfl ?_
            refine go_goto rfl (tgt := 143) (by decide) ?_
            refine go_istore rfl (by decide) rfl ?_
            first | (exfalso; omega) | exact lp_X7_acts4 E hn ht hf A (by first | rw [rd_t (by omega)] | rw [rd_f (by omega)]) (by first | rw [rd_t (by omega)] | rw [rd_f (by omega)]) (fun h2 z => ⟨rfl, z⟩)
          · refine go_iconst rfl ?_
            refine go_goto rfl (tgt := 143) (by decide) ?_
            refine go_istore rfl (by decide) rfl ?_
            first | (exfalso; omega) | exact lp_X7_acts4 E hn ht hf A (by first | rw [rd_t (by omega)] | rw [rd_f (by omega)]) (by first | rw [rd_t (by omega)] | rw [rd_f (by omega)]) (fun h2 z => ⟨rfl, z⟩)
    · refine go_aload_n rfl rfl ?_
      refine go_getR rfl f_X7_37 rfl rfl ?_ -- laws
      refine go_iconst rfl ?_
      refine go_iald rfl rfl (by omega) (by omega) ?_
      rw [A.2 72 _ (by omega)]
      refine go_iconst rfl ?_
      refine go_icmp_eq rfl (tgt := 85) (by decide) (fun c78 => ?_) (fun c78 => ?_)
      · refine go_iconst rfl ?_
        refine go_goto rfl (tgt := 104) (by decide) ?_
        refine go_istore_n rfl (by decide) rfl ?_
        refine go_iload_n rfl rfl ?_
        refine go_iconst rfl ?_
        refine go_icmp_ne rfl (tgt := 128) (by decide) (fun c107 => ?_) (fun c107 => ?_)
        · refine go_aload_n rfl rfl ?_
          refine go_getR rfl f_X7_37 rfl rfl ?_ -- laws
          refine go_iconst rfl ?_
          refine go_iald rfl rfl (by omega) (by omega) ?_
          rw [A.2 72 _ (by omega)]
          refine go_iconst rfl ?_
          refine go_icmp_ne rfl (tgt := 142) (by decide) (fun c135 => ?_) (fun c135 => ?_)
          · refine go_iconst rfl ?_
            refine go_istore rfl (by decide) rfl ?_
            first | (exfalso; omega) | exact lp_X7_acts4 E hn ht hf A (by first | rw [rd_t (by omega)] | rw [rd_f (by omega)]) (by first | rw [rd_t (by omega)] | rw [rd_f (by omega)]) (fun h2 z => ⟨rfl, z⟩)
          · refine go_iconst rfl ?_
            refine go_goto rfl (tgt := 143) (by decide) ?_
            refine go_istore rfl (by decide) rfl ?_
            first | (exfalso; omega) | exact lp_X7_acts4 E hn ht hf A (by first | rw [rd_t (by omega)] | rw [rd_f (by omega)]) (by first | rw [rd_t (by omega)] | rw [rd_f (by omega)]) (fun h2 z => ⟨rfl, z⟩)
        · refine go_aload_n rfl rfl ?_
          refine go_getR rfl f_X7_37 rfl rfl ?_ -- laws
          refine go_iconst rfl ?_
          refine go_iald rfl rfl (by omega) (by omega) ?_
          rw [A.2 72 _ (by omega)]
          refine go_iconst rfl ?_
          refine go_icmp_eq rfl (tgt := 124) (by decide) (fun c117 => ?_) (fun c117 => ?_)
          · refine go_iconst rfl ?_
            refine go_goto rfl (tgt := 143) (by decide) ?_
            refine go_istore rfl (by decide) rfl ?_
            first | (exfalso; omega) | exact lp_X7_acts4 E hn ht hf A (by first | rw [rd_t (by omega)] | rw [rd_f (by omega)]) (by first | rw [rd_t (by omega)] | rw [rd_f (by omega)]) (fun h2 z => ⟨rfl, z⟩)
          · refine go_iconst rfl ?_
            refine go_goto rfl (tgt := 143) (by decide) ?_
            refine go_istore rfl (by decide) rfl ?_
            first | (exfalso; omega) | exact lp_X7_acts4 E hn ht hf A (by first | rw [rd_t (by omega)] | rw [rd_f (by omega)]) (by first | rw [rd_t (by omega)] | rw [rd_f (by omega)]) (fun h2 z => ⟨rfl, z⟩)
      · refine go_iconst rfl ?_
        refine go_goto rfl (tgt := 104) (by decide) ?_
        refine go_istore_n rfl (by decide) rfl ?_
        refine go_iload_n rfl rfl ?_
        refine go_iconst rfl ?_
        refine go_icmp_ne rfl (tgt := 128) (by decide) (fun c107 => ?_) (fun c107 => ?_)
        · refine go_aload_n rfl rfl ?_
          refine go_getR rfl f_X7_37 rfl rfl ?_ -- laws
          refine go_iconst rfl ?_
          refine go_iald rfl rfl (by omega) (by omega) ?_
          rw [A.2 72 _ (by omega)]
          refine go_iconst rfl ?_
          refine go_icmp_ne rfl (tgt := 142) (by decide) (fun c135 => ?_) (fun c135 => ?_)
          · refine go_iconst rfl ?_
            refine go_istore rfl (by decide) rfl ?_
            first | (exfalso; omega) | exact lp_X7_acts4 E hn ht hf A (by first | rw [rd_t (by omega)] | rw [rd_f (by omega)]) (by first | rw [rd_t (by omega)] | rw [rd_f (by omega)]) (fun h2 z => ⟨rfl, z⟩)
          · refine go_iconst rfl ?_
            refine go_goto rfl (tgt := 143) (by decide) ?_
            refine go_istore rfl (by decide) rfl ?_
            first | (exfalso; omega) | exact lp_X7_acts4 E hn ht hf A (by first | rw [rd_t (by omega)] | rw [rd_f (by omega)]) (by first | rw [rd_t (by omega)] | rw [rd_f (by omega)]) (fun h2 z => ⟨rfl, z⟩)
        · refine go_aload_n rfl rfl ?_
          refine go_getR rfl f_X7_37 rfl rfl ?_ -- laws
          refine go_iconst rfl ?_
          refine go_iald rfl rfl (by omega) (by omega) ?_
          rw [A.2 72 _ (by omega)]
          refine go_iconst rfl ?_
          refine go_icmp_eq rfl (tgt := 124) (by decide) (fun c117 => ?_) (fun c117 => ?_)
          · refine go_iconst rfl ?_
            refine go_goto rfl (tgt := 143) (by decide) ?_
            refine go_istore rfl (by decide) rfl ?_
            first | (exfalso; omega) | exact lp_X7_acts4 E hn ht hf A (by first | rw [rd_t (by omega)] | rw [rd_f (by omega)]) (by first | rw [rd_t (by omega)] | rw [rd_f (by omega)]) (fun h2 z => ⟨rfl, z⟩)
          · refine go_iconst rfl ?_
            refine go_goto rfl (tgt := 143) (by decide) ?_
            refine go_istore rfl (by decide) rfl ?_
            first | (exfalso; omega) | exact lp_X7_acts4 E hn ht hf A (by first | rw [rd_t (by omega)] | rw [rd_f (by omega)]) (by first | rw [rd_t (by omega)] | rw [rd_f (by omega)]) (fun h2 z => ⟨rfl, z⟩)
  · rintro ⟨c, d, x1, x2, x3, x4, x5⟩; omega
def sd_X (w : Int) (pl : Int → Int) (i k : Int) : Prop := wk_tb w k = true ∧ ∃ j, 0 ≤ j ∧ j < i ∧ wk_tb w j = true ∧ pl j = pl k
theorem sd_skip {w : Int} {pl : Int → Int} {i k : Int} (h : ¬ (wk_tb w i = true ∧ ¬ sd_X w pl i i)) : sd_X w pl (i + 1) k ↔ sd_X w pl i k := by
  constructor
  · rintro ⟨z1, j, j0, j1, j2, j3⟩
    by_cases e : j = i
    · subst e
      by_cases y : sd_X w pl j j
      · obtain ⟨-, j', a, b, c, d⟩ := y
        exact ⟨z1, j', a, b, c, d.trans j3⟩
      · exact absurd ⟨j2, y⟩ h
    · exact ⟨z1, j, j0, by omega, j2, j3⟩
  · rintro ⟨z1, j, j0, j1, j2, j3⟩
    exact ⟨z1, j, j0, by omega, j2, j3⟩
theorem sd_next {w : Int} {pl : Int → Int} {i k : Int} (hi : 0 ≤ i) (hw : wk_tb w i = true) : sd_X w pl (i + 1) k ↔ sd_X w pl i k ∨ (wk_tb w k = true ∧ pl k = pl i) := by
  constructor
  · rintro ⟨z1, j, j0, j1, j2, j3⟩
    by_cases e : j = i
    · subst e; exact Or.inr ⟨z1, j3.symm⟩
    · exact Or.inl ⟨z1, j, j0, by omega, j2, j3⟩
  · rintro (⟨z1, j, j0, j1, j2, j3⟩ | ⟨z1, z2⟩)
    · exact ⟨z1, j, j0, by omega, j2, j3⟩
    · exact ⟨z1, i, hi, by omega, hw, z2.symm⟩
/-- the men whose group's first stands ahead of i have met -/
def mm_I (h0 : ab_H) (t i : Int) (h : ab_H) : Prop := (∀ k, 0 ≤ k → k < (h0 62 9) → (sd_X (h0 62 18) (fun k => h0 75 (6 * t + k)) i k → h 76 (6 * t + k) = wk_fcm (h0 62 9) (h0 72 0) (h0 72 1) (h0 62 18) (fun k => h0 75 (6 * (t - 1) + k)) (md_row h0 t) k ∧ h 77 (6 * t + k) = wk_bgm (h0 62 9) (h0 72 0) (h0 72 1) (h0 62 18) (fun k => h0 75 (6 * (t - 1) + k)) (md_row h0 t) k) ∧ (¬ sd_X (h0 62 18) (fun k => h0 75 (6 * t + k)) i k → h 76 (6 * t + k) = h0 76 (6 * t + k) ∧ h 77 (6 * t + k) = h0 77 (6 * t + k))) ∧ (∀ a b, 0 ≤ a → a < (h0 62 9) → 0 ≤ b → b < 6 → h 78 (36 * t + 6 * a + b) = rd_bool (sd_X (h0 62 18) (fun k => h0 75 (6 * t + k)) i a ∧ wk_met (h0 62 9) (h0 62 18) (fun k => h0 75 (6 * (t - 1) + k)) (md_row h0 t) a b)) ∧ ∀ k b, ¬ (k = 78 ∧ 36 * t ≤ b ∧ b < 36 * t + 36) → ¬ ((k = 76 ∨ k = 77) ∧ 6 * t ≤ b ∧ b < 6 * t + (h0 62 9)) → k ≠ 79 → h k b = h0 k b
theorem mm_skip {h0 h h2 : ab_H} {t i : Int} (I : mm_I h0 t i h) (hs : ¬ (wk_tb (h0 62 18) i = true ∧ ¬ sd_X (h0 62 18) (fun k => h0 75 (6 * t + k)) i i)) (hF : ∀ k, k ≠ 79 → h2 k = h k) : mm_I h0 t (i + 1) h2 := by
  obtain ⟨I1, I2, I3⟩ := I
  have e := fun k => sd_skip (k := k) hs
  refine ⟨fun k k0 k1 => by rw [e k, hF 76 (by decide), hF 77 (by decide)]; exact I1 k k0 k1, fun a b a0 a1 b0 b1 => by rw [hF 78 (by decide), I2 a b a0 a1 b0 b1, rd_iff (and_congr_left fun _ => (e a).symm)], fun k b x1 x2 x3 => by rw [hF k x3]; exact I3 k b x1 x2 x3⟩
theorem mm_none {h0 h h2 : ab_H} {t i : Int} (hi : 0 ≤ i ∧ i < (h0 62 9)) (I : mm_I h0 t i h) (hw : wk_tb (h0 62 18) i = true) (hn : ¬ wk_new (h0 62 9) (h0 62 18) (fun k => h0 75 (6 * t + k)) (fun k => h0 75 (6 * (t - 1) + k)) i) (hF : ∀ k, k ≠ 79 → h2 k = h k) : mm_I h0 t (i + 1) h2 := by
  by_cases hs : sd_X (h0 62 18) (fun k => h0 75 (6 * t + k)) i i
  · exact mm_skip I (fun z => z.2 hs) hF
  obtain ⟨I1, I2, I3⟩ := I
  have hii : wk_G (h0 62 9) (h0 62 18) (fun k => h0 75 (6 * t + k)) i i := ⟨hi.1, hi.2, hw, rfl⟩
  have key : ∀ k, 0 ≤ k → k < (h0 62 9) → wk_tb (h0 62 18) k = true → h0 75 (6 * t + k) = h0 75 (6 * t + i) → ¬ sd_X (h0 62 18) (fun k => h0 75 (6 * t + k)) i k ∧ ¬ wk_act (h0 62 9) (h0 62 18) (fun k => h0 75 (6 * t + k)) (fun k => h0 75 (6 * (t - 1) + k)) k := by
    intro k k0 k1 a b
    refine ⟨?_, fun z => hn ((wk_new_eq hii ⟨k0, k1, a, b⟩).mp z.2)⟩
    rintro ⟨-, j, j0, j1, j2, j3⟩
    exact hs ⟨hw, j, j0, j1, j2, j3.trans b⟩
  have e := fun k => sd_next (pl := (fun k => h0 75 (6 * t + k))) (k := k) hi.1 hw
  refine ⟨fun k k0 k1 => ?_, fun a b a0 a1 b0 b1 => ?_, fun k b x1 x2 x3 => by rw [hF k x3]; exact I3 k b x1 x2 x3⟩
  · rw [e k, hF 76 (by decide), hF 77 (by decide)]
    refine ⟨?_, fun z => (I1 k k0 k1).2 (fun y => z (Or.inl y))⟩
    rintro (z | z)
    · exact (I1 k k0 k1).1 z
    · obtain ⟨k2, k3⟩ := key k k0 k1 z.1 z.2
      refine ⟨((I1 k k0 k1).2 k2).1.trans ?_, ((I1 k k0 k1).2 k2).2.trans ?_⟩
      · unfold wk_fcm; exact (if_neg (fun y => k3 y.1)).symm
      · unfold wk_bgm; exact (if_neg (fun y => k3 y.1)).symm
  · rw [hF 78 (by decide), I2 a b a0 a1 b0 b1]
    refine rd_iff ⟨fun z => ⟨(e a).mpr (Or.inl z.1), z.2⟩, fun z => ?_⟩
    rcases (e a).mp z.1 with y | y
    · exact ⟨y, z.2⟩
    · exact absurd z.2.1 (key a a0 a1 y.1 y.2).2
theorem mm_meet {h0 h h1 h2 : ab_H} {t i n : Int} (hm : 0 ≤ (h0 62 9) ∧ (h0 62 9) ≤ 6) (ht : 0 ≤ t) (hi : 0 ≤ i ∧ i < (h0 62 9)) (I : mm_I h0 t i h) (hw : wk_tb (h0 62 18) i = true) (hn : wk_new (h0 62 9) (h0 62 18) (fun k => h0 75 (6 * t + k)) (fun k => h0 75 (6 * (t - 1) + k)) i) (hF : ∀ k, k ≠ 79 → h1 k = h k) (Gl : gl_I (mq_G h0 t i) (h0 62 9) n (h1 79)) (hf : ∀ j, 0 ≤ j → j < i → ¬ mq_G h0 t i j) (P : ac_Post h1 t n h2) : mm_I h0 t (i + 1) h2 := by
  have hs : ¬ sd_X (h0 62 18) (fun k => h0 75 (6 * t + k)) i i := by
    rintro ⟨-, j, j0, j1, j2, j3⟩
    exact hf j j0 j1 ⟨j0, by omega, j2, j3⟩
  obtain ⟨I1, I2, I3⟩ := I
  have hii : wk_G (h0 62 9) (h0 62 18) (fun k => h0 75 (6 * t + k)) i i := ⟨hi.1, hi.2, hw, rfl⟩
  have e := fun k => sd_next (pl := (fun k => h0 75 (6 * t + k))) (k := k) hi.1 hw
  have nd : ∀ k, h0 75 (6 * t + k) = h0 75 (6 * t + i) → ¬ sd_X (h0 62 18) (fun k => h0 75 (6 * t + k)) i k := by
    rintro k b ⟨-, j, j0, j1, j2, j3⟩
    exact hs ⟨hw, j, j0, j1, j2, j3.trans b⟩
  obtain ⟨P1, P2, P3⟩ := P
  obtain ⟨g1, g2, g3, g4, g5⟩ := id Gl
  have hq : ∀ k, (h0 62 9) ≤ k → ¬ mq_G h0 t i k := fun k hk z => by have := z.2.1; omega
  have cnt : wk_num (wk_G (h0 62 9) (h0 62 18) (fun k => h0 75 (6 * t + k)) i) 6 = n := by
    rw [g5]
    have ext : ∀ d : Nat, wk_num (mq_G h0 t i) ((h0 62 9).toNat + d) = wk_num (mq_G h0 t i) (h0 62 9).toNat := by
      intro d
      induction d with
      | zero => rfl
      | succ d ih => rw [← Nat.add_assoc, wk_num, ih, rd_f (hq _ (by omega))]; omega
    have := ext (6 - (h0 62 9).toNat)
    rw [show (h0 62 9).toNat + (6 - (h0 62 9).toNat) = 6 by omega] at this
    exact this
  have l72 : ∀ b, h1 72 b = h0 72 b := fun b => by rw [hF 72 (by decide)]; exact I3 72 b (by omega) (by omega) (by decide)
  rw [l72, l72] at P1
  have memb : ∀ k, 0 ≤ k → k < (h0 62 9) → wk_tb (h0 62 18) k = true → h0 75 (6 * t + k) = h0 75 (6 * t + i) → ∃ c, 0 ≤ c ∧ c < n ∧ h1 79 c = k := fun k k0 k1 a b => g4 k k0 k1 ⟨k0, k1, a, b⟩
  have nomem : ∀ k, ¬ (wk_tb (h0 62 18) k = true ∧ h0 75 (6 * t + k) = h0 75 (6 * t + i)) → ¬ ∃ c, 0 ≤ c ∧ c < n ∧ h1 79 c = k := by
    rintro k z ⟨c, c0, c1, rfl⟩
    have := (g2 c c0 c1).2.2
    exact z ⟨this.2.2.1, this.2.2.2⟩
  refine ⟨fun k k0 k1 => ?_, fun a b a0 a1 b0 b1 => ?_, fun k b x1 x2 x3 => ?_⟩
  · rw [e k]
    by_cases z : wk_tb (h0 62 18) k = true ∧ h0 75 (6 * t + k) = h0 75 (6 * t + i)
    · have gk : wk_G (h0 62 9) (h0 62 18) (fun k => h0 75 (6 * t + k)) i k := ⟨k0, k1, z.1, z.2⟩
      have ac : wk_act (h0 62 9) (h0 62 18) (fun k => h0 75 (6 * t + k)) (fun k => h0 75 (6 * (t - 1) + k)) k := ⟨z.1, (wk_new_eq hii gk).mpr hn⟩
      obtain ⟨c, c0, c1, ck⟩ := memb k k0 k1 z.1 z.2
      have old := (I1 k k0 k1).2 (nd k z.2)
      obtain ⟨p1, p2⟩ := P1 c c0 c1
      rw [ck] at p1 p2
      refine ⟨fun _ => ⟨?_, ?_⟩, fun y => absurd (Or.inr z) y⟩
      · rw [p1, hF 76 (by decide), old.1]
        unfold wk_fcm
        rw [wk_G_eq (m := (h0 62 9)) (w := (h0 62 18)) (pl := (fun k => h0 75 (6 * t + k))) z.2, cnt]
        by_cases u : wk_turn (h0 72 0) (h0 72 1) n
        · rw [if_pos u, if_pos ⟨ac, u⟩]
        · rw [if_neg u, if_neg (fun y => u y.2)]
      · rw [p2, hF 77 (by decide), old.2]
        unfold wk_bgm
        rw [wk_G_eq (m := (h0 62 9)) (w := (h0 62 18)) (pl := (fun k => h0 75 (6 * t + k))) z.2, cnt]
        by_cases u : wk_chg (h0 72 0) (h0 72 1) n
        · rw [if_pos u]
          have pv := gl_prv hm hq Gl ⟨c0, c1⟩
          rw [ck] at pv
          rw [← pv]
          have hp := wk_prv_in (i := k) hm.2 (show wk_G (h0 62 9) (h0 62 18) (fun k => h0 75 (6 * t + k)) k k from ⟨k0, k1, z.1, rfl⟩)
          rw [wk_G_eq (m := (h0 62 9)) (w := (h0 62 18)) (pl := (fun k => h0 75 (6 * t + k))) z.2] at hp
          exact ((I1 _ hp.1 hp.2.1).2 (nd _ hp.2.2.2)).2.trans (if_pos ⟨ac, u⟩).symm
        · rw [if_neg u, if_neg (fun y => u y.2)]
    · have nk := nomem k z
      have ne : ∀ c, 0 ≤ c → c < n → 6 * t + k ≠ 6 * t + h1 79 c := fun c c0 c1 y => nk ⟨c, c0, c1, by omega⟩
      rw [P3 76 _ (by omega) (by rintro ⟨-, c, c0, c1, y⟩; exact ne c c0 c1 y), P3 77 _ (by omega) (by rintro ⟨-, c, c0, c1, y⟩; exact ne c c0 c1 y), hF 76 (by decide), hF 77 (by decide)]
      exact ⟨fun y => (I1 k k0 k1).1 (y.elim id (fun x => absurd x z)), fun y => (I1 k k0 k1).2 (fun x => y (Or.inl x))⟩
  · by_cases x : ac_X (h1 79) n n 0 a b
    · rw [((P2 a b a0 (by omega) b0 b1).1 x)]
      obtain ⟨c, d, c0, d0, d1, y, y1, y2⟩ := x
      have ga := (g2 c c0 (by omega)).2.2
      have gb := (g2 d d0 d1).2.2
      rw [y1] at ga
      rw [y2] at gb
      refine rd_iff ⟨fun z => ⟨(e a).mpr (Or.inr ⟨ga.2.2.1, ga.2.2.2⟩), ⟨ga.2.2.1, (wk_new_eq hii ga).mpr hn⟩, ?_, fun q => z q.symm⟩, fun z q => z.2.2.2 q.symm⟩
      show wk_G (h0 62 9) (h0 62 18) (fun k => h0 75 (6 * t + k)) a b
      rw [wk_G_eq (m := (h0 62 9)) (w := (h0 62 18)) (pl := (fun k => h0 75 (6 * t + k))) ga.2.2.2]
      exact gb
    · rw [((P2 a b a0 (by omega) b0 b1).2 x), hF 78 (by decide), I2 a b a0 a1 b0 b1]
      refine rd_iff ⟨fun z => ⟨(e a).mpr (Or.inl z.1), z.2⟩, fun z => ?_⟩
      rcases (e a).mp z.1 with y | y
      · exact ⟨y, z.2⟩
      · have gb := z.2.2.1
        change wk_G (h0 62 9) (h0 62 18) (fun k => h0 75 (6 * t + k)) a b at gb
        rw [wk_G_eq (m := (h0 62 9)) (w := (h0 62 18)) (pl := (fun k => h0 75 (6 * t + k))) y.2] at gb
        obtain ⟨c, c0, c1, c2⟩ := memb a a0 a1 y.1 y.2
        obtain ⟨d, d0, d1, d2⟩ := g4 b gb.1 gb.2.1 gb
        exact absurd ⟨c, d, c0, d0, d1, by omega, c2, d2⟩ x
  · rw [P3 k b x1 (by
      rintro ⟨y, c, c0, c1, y2⟩
      have := g2 c c0 c1
      exact x2 ⟨y, by omega, by omega⟩), hF k x3]
    exact I3 k b x1 x2 x3
