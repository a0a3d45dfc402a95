/-! a group meets -/
def mt_Post (h0 : ab_H) (gr : Int) (h : ab_H) : Prop := (∀ j, 0 ≤ j → j < h0 10 7 → (wk_tb gr j = true ∧ wk_turn (h0 10 10) (h0 10 11) (wk_num (fun k => wk_tb gr k = true) 6) → h 13 j = -h0 13 j) ∧ (¬ (wk_tb gr j = true ∧ wk_turn (h0 10 10) (h0 10 11) (wk_num (fun k => wk_tb gr k = true) 6)) → h 13 j = h0 13 j)) ∧ (∀ j, 0 ≤ j → j < h0 10 7 → (wk_tb gr j = true ∧ wk_chg (h0 10 10) (h0 10 11) (wk_num (fun k => wk_tb gr k = true) 6) → h 14 j = h0 14 (wk_prv (fun k => wk_tb gr k = true) j)) ∧ (¬ (wk_tb gr j = true ∧ wk_chg (h0 10 10) (h0 10 11) (wk_num (fun k => wk_tb gr k = true) 6)) → h 14 j = h0 14 j)) ∧ (0 ≤ h 10 13 ∧ h 10 13 < 68719476736) ∧ (∀ a b, 0 ≤ a → a < 6 → 0 ≤ b → b < 6 → (pr_tb (h 10 13) a b = true ↔ pr_tb (h0 10 13) a b = true ∨ (a < h0 10 7 ∧ wk_tb gr a = true ∧ wk_tb gr b = true ∧ b ≠ a))) ∧ (∀ k, ¬ (k = 10 ∨ k = 13 ∨ k = 14) → h k = h0 k) ∧ ∀ b, b ≠ 13 → h 10 b = h0 10 b
theorem mt_end {h0 h1 h : ab_H} {gr tv : Int} (e1 : ∀ k, k ≠ 14 → h1 k = h0 k) (hB : ∀ j, 0 ≤ j → j < h0 10 7 → (wk_tb gr j = true ∧ wk_chg (h0 10 10) (h0 10 11) (wk_num (fun k => wk_tb gr k = true) 6) → h1 14 j = h0 14 (wk_prv (fun k => wk_tb gr k = true) j)) ∧ (¬ (wk_tb gr j = true ∧ wk_chg (h0 10 10) (h0 10 11) (wk_num (fun k => wk_tb gr k = true) 6)) → h1 14 j = h0 14 j)) (ht : tv = rd_bool (wk_turn (h0 10 10) (h0 10 11) (wk_num (fun k => wk_tb gr k = true) 6))) (I : mt_I h1 gr tv (h1 10 7) h) : mt_Post h0 gr h := by
  obtain ⟨I1, I2, I3, I4, I5⟩ := I
  rw [e1 10 (by decide)] at I1 I3 I5
  rw [e1 13 (by decide)] at I1
  refine ⟨fun j j0 j1 => ⟨fun z => ?_, fun z => ?_⟩, fun j j0 j1 => by rw [I4 14 (by decide)]; exact hB j j0 j1, I2, I3, fun k hk => (I4 k (by omega)).trans (e1 k (by omega)), I5⟩
  · rw [(I1 j j0).1 ⟨j1, z.1⟩, ht, rd_t z.2, if_neg (by decide)]
  · by_cases q : wk_tb gr j = true
    · rw [(I1 j j0).1 ⟨j1, q⟩, ht, rd_f (fun y => z ⟨q, y⟩), if_pos rfl]
    · exact (I1 j j0).2 (fun y => q y.2)
set_option maxHeartbeats 4000000 in
set_option maxRecDepth 100000 in
theorem lp_X5_meet2 {g : ab_G} {h : ab_H} {gr x2 tv cw : Int} {Q : Option ab_V → ab_H → Prop} (hm : 0 ≤ h 10 7 ∧ h 10 7 ≤ 6) (hg : 0 ≤ gr ∧ gr < 64) (hb : ∀ k, h 10 7 ≤ k → k < 6 → ¬ wk_tb gr k = true) (hf : ∀ i, 0 ≤ i → i < h 10 7 → h 13 i = 1 ∨ h 13 i = -1) (hp : 0 ≤ h 10 13 ∧ h 10 13 < 68719476736) (hq : ∀ h2, mt_Post h gr h2 → Q none h2) (ht : tv = rd_bool (wk_turn (h 10 10) (h 10 11) (wk_num (fun k => wk_tb gr k = true) 6))) (hc : cw = rd_bool (wk_chg (h 10 10) (h 10 11) (wk_num (fun k => wk_tb gr k = true) 6))) : Go g (ab_rm 2, 0, 0) m_X5_meet Q 83 [some (a_R 10), some (a_I gr), some (a_I x2), some (a_I tv), some (a_I cw), none, none, none] [] h := by
  refine go_iload rfl rfl ?_
  refine go_if_eq rfl (tgt := 93) (by decide) (fun c85 => ?_) (fun c85 => ?_)
  · have cT := rd_n0 (by rw [← hc]; exact c85)
    refine go_iconst rfl ?_
    refine go_istore rfl (by decide) rfl ?_
    exact lp_X5_meet hm hg hf (fun h2 I => hq h2 (mt_end (fun _ _ => rfl) (fun j j0 j1 => ⟨fun z => absurd z.2 cT, fun _ => rfl⟩) ht I)) 8 0 _ (by omega) (by omega) (by omega) ⟨fun j j0 => ⟨fun z => by omega, fun _ => rfl⟩, hp, fun a b _ _ _ _ => ⟨fun z => Or.inl z, fun z => z.elim id (fun y => by omega)⟩, fun _ _ => rfl, fun _ _ => rfl⟩ none
  · have cT := rd_n1 (by rw [← hc]; exact c85)
    refine go_aload_n rfl rfl ?_
    refine go_iload_n rfl rfl ?_
    refine go_cV1V (M' := m_X5_handRound) rfl l_X5_98 k_X5_handRound (s_X5_handRound hm hg hb) rfl rfl rfl rfl (by decide) (Nat.le_of_ble_eq_true rfl) (fun h90 q90 => ?_) -- X5_handRound
    refine go_iconst rfl ?_
    refine go_istore rfl (by decide) rfl ?_
    have e10 : h90 10 = h 10 := q90.2 10 (by decide)
    exact lp_X5_meet (by rw [e10]; exact hm) hg (fun i i0 i1 => by rw [q90.2 13 (by decide)]; exact hf i i0 (by rw [← e10]; exact i1)) (fun h2 I => hq h2 (mt_end q90.2 (fun j j0 j1 => ⟨fun z => (q90.1 j j0 j1).1 z.1, fun z => (q90.1 j j0 j1).2 (fun y => z ⟨y, cT⟩)⟩) ht I)) 8 0 _ (by omega) (by rw [e10]; omega) (by rw [e10]; omega) ⟨fun j j0 => ⟨fun z => by omega, fun _ => rfl⟩, (by rw [e10]; exact hp), fun a b _ _ _ _ => ⟨fun z => Or.inl z, fun z => z.elim id (fun y => by omega)⟩, fun _ _ => rfl, fun _ _ => rfl⟩ none
set_option maxHeartbeats 4000000 in
set_option maxRecDepth 100000 in
theorem s_X5_meet {g : ab_G} {h : ab_H} {gr : Int} (hm : 0 ≤ h 10 7 ∧ h 10 7 ≤ 6) (hg : 0 ≤ gr ∧ gr < 64) (hb : ∀ k, h 10 7 ≤ k → k < 6 → ¬ wk_tb gr k = true) (hf : ∀ i, 0 ≤ i → i < h 10 7 → h 13 i = 1 ∨ h 13 i = -1) (hp : 0 ≤ h 10 13 ∧ h 10 13 < 68719476736) : MethV g 2 m_X5_meet [a_R 10, a_I gr] h (fun h' => mt_Post h gr h') := by
  refine Meth.of_go k_X5_meet (Nat.le_of_ble_eq_true rfl) ?_
  show Go g _ m_X5_meet _ 0 [some (a_R 10), some (a_I gr), none, none, none, none, none, none] [] h
  refine go_iload_n rfl rfl ?_
  refine go_cS1I (M' := m_J6_bitCount_0f7a4) rfl l_X5_92 k_J6_bitCount_0f7a4 (s_J6_bitCount_0f7a4 hg) rfl (by decide) (Nat.le_of_ble_eq_true rfl) (fun z1 h1 q1 => ?_) -- J6_bitCount_0f7a4
  obtain ⟨rfl, rfl⟩ := q1
  refine go_iconst rfl ?_
  refine go_icmp_ne rfl (tgt := 12) (by decide) (fun c5 => ?_) (fun c5 => ?_)
  · refine go_iconst rfl ?_
    refine go_istore_n rfl (by decide) rfl ?_
    refine go_iload_n rfl rfl ?_
    refine go_if_eq rfl (tgt := 34) (by decide) (fun c15 => ?_) (fun c15 => ?_)
    · refine go_aload_n rfl rfl ?_
      refine go_getI rfl f_X5_46 rfl rfl rfl ?_ -- lawOfMore
      refine go_iconst rfl ?_
      refine go_icmp_ne rfl (tgt := 46) (by decide) (fun c39 => ?_) (fun c39 => ?_)
      · refine go_iconst rfl ?_
        refine go_istore_n rfl (by decide) rfl ?_
        refine go_iload_n rfl rfl ?_
        refine go_if_eq rfl (tgt := 68) (by decide) (fun c49 => ?_) (fun c49 => ?_)
        · refine go_aload_n rfl rfl ?_
          refine go_getI rfl f_X5_46 rfl rfl rfl ?_ -- lawOfMore
          refine go_iconst rfl ?_
          refine go_icmp_ne rfl (tgt := 80) (by decide) (fun c73 => ?_) (fun c73 => ?_)
          · refine go_iconst rfl ?_
            refine go_istore rfl (by decide) rfl ?_
            first | (exfalso; omega) | exact lp_X5_meet2 hm hg hb hf hp (fun h2 z => ⟨rfl, z⟩) (by first | rw [rd_t (by omega)] | rw [rd_f (by omega)]) (by first | rw [rd_t (by omega)] | rw [rd_f (by omega)])
          · refine go_iconst rfl ?_
            refine go_goto rfl (tgt := 81) (by decide) ?_
            refine go_istore rfl (by decide) rfl ?_
            first | (exfalso; omega) | exact lp_X5_meet2 hm hg hb hf hp (fun h2 z => ⟨rfl, z⟩) (by first | rw [rd_t (by omega)] | rw [rd_f (by omega)]) (by first | rw [rd_t (by omega)] | rw [rd_f (by omega)])
        · exact absurd rfl c49
      · refine go_iconst rfl ?_
        refine go_goto rfl (tgt := 47) (by decide) ?_
        refine go_istore_n rfl (by decide) rfl ?_
        refine go_iload_n rfl rfl ?_
        refine go_if_eq rfl (tgt := 68) (by decide) (fun c49 => ?_) (fun c49 => ?_)
        · refine go_aload_n rfl rfl ?_
          refine go_getI rfl f_X5_46 rfl rfl rfl ?_ -- lawOfMore
          refine go_iconst rfl ?_
          refine go_icmp_ne rfl (tgt := 80) (by decide) (fun c73 => ?_) (fun c73 => ?_)
          · refine go_iconst rfl ?_
            refine go_istore rfl (by decide) rfl ?_
            first | (exfalso; omega) | exact lp_X5_meet2 hm hg hb hf hp (fun h2 z => ⟨rfl, z⟩) (by first | rw [rd_t (by omega)] | rw [rd_f (by omega)]) (by first | rw [rd_t (by omega)] | rw [rd_f (by omega)])
          · refine go_iconst rfl ?_
            refine go_goto rfl (tgt := 81) (by decide) ?_
            refine go_istore rfl (by decide) rfl ?_
            first | (exfalso; omega) | exact lp_X5_meet2 hm hg hb hf hp (fun h2 z => ⟨rfl, z⟩) (by first | rw [rd_t (by omega)] | rw [rd_f (by omega)]) (by first | rw [rd_t (by omega)] | rw [rd_f (by omega)])
        · exact absurd rfl c49
    · exact absurd rfl c15
  · refine go_iconst rfl ?_
    refine go_goto rfl (tgt := 13) (by decide) ?_
    refine go_istore_n rfl (by decide) rfl ?_
    refine go_iload_n rfl rfl ?_
    refine go_if_eq rfl (tgt := 34) (by decide) (fun c15 => ?_) (fun c15 => ?_)
    · exact absurd c15 (by decide)
    · refine go_aload_n rfl rfl ?_
      refine go_getI rfl f_X5_43 rfl rfl rfl ?_ -- lawOfTwo
      refine go_iconst rfl ?_
      refine go_icmp_eq rfl (tgt := 30) (by decide) (fun c23 => ?_) (fun c23 => ?_)
      · refine go_iconst rfl ?_
        refine go_goto rfl (tgt := 47) (by decide) ?_
        refine go_istore_n rfl (by decide) rfl ?_
        refine go_iload_n rfl rfl ?_
        refine go_if_eq rfl (tgt := 68) (by decide) (fun c49 => ?_) (fun c49 => ?_)
        · exact absurd c49 (by decide)
        · refine go_aload_n rfl rfl ?_
          refine go_getI rfl f_X5_43 rfl rfl rfl ?_ -- lawOfTwo
          refine go_iconst rfl ?_
          refine go_icmp_eq rfl (tgt := 64) (by decide) (fun c57 => ?_) (fun c57 => ?_)
          · refine go_iconst rfl ?_
            refine go_goto rfl (tgt := 81) (by decide) ?_
            refine go_istore rfl (by decide) rfl ?_
            first | (exfalso; omega) | exact lp_X5_meet2 hm hg hb hf hp (fun h2 z => ⟨rfl, z⟩) (by first | rw [rd_t (by omega)] | rw [rd_f (by omega)]) (by first | rw [rd_t (by omega)] | rw [rd_f (by omega)])
          · refine go_iconst rfl ?_
            refine go_goto rfl (tgt := 81) (by decide) ?_
            refine go_istore rfl (by decide) rfl ?_
            first | (exfalso; omega) | exact lp_X5_meet2 hm hg hb hf hp (fun h2 z => ⟨rfl, z⟩) (by first | rw [rd_t (by omega)] | rw [rd_f (by omega)]) (by first | rw [rd_t (by omega)] | rw [rd_f (by omega)])
      · refine go_iconst rfl ?_
        refine go_goto rfl (tgt := 47) (by decide) ?_
        refine go_istore_n rfl (by decide) rfl ?_
        refine go_iload_n rfl rfl ?_
        refine go_if_eq rfl (tgt := 68) (by decide) (fun c49 => ?_) (fun c49 => ?_)
        · exact absurd c49 (by decide)
        · refine go_aload_n rfl rfl ?_
          refine go_getI rfl f_X5_43 rfl rfl rfl ?_ -- lawOfTwo
          refine go_iconst rfl ?_
          refine go_icmp_eq rfl (tgt := 64) (by decide) (fun c57 => ?_) (fun c57 => ?_)
          · refine go_iconst rfl ?_
            refine go_goto rfl (tgt := 81) (by decide) ?_
            refine go_istore rfl (by decide) rfl ?_
            first | (exfalso; omega) | exact lp_X5_meet2 hm hg hb hf hp (fun h2 z => ⟨rfl, z⟩) (by first | rw [rd_t (by omega)] | rw [rd_f (by omega)]) (by first | rw [rd_t (by omega)] | rw [rd_f (by omega)])
          · refine go_iconst rfl ?_
            refine go_goto rfl (tgt := 81) (by decide) ?_
            refine go_istore rfl (by decide) rfl ?_
            first | (exfalso; omega) | exact lp_X5_meet2 hm hg hb hf hp (fun h2 z => ⟨rfl, z⟩) (by first | rw [rd_t (by omega)] | rw [rd_f (by omega)]) (by first | rw [rd_t (by omega)] | rw [rd_f (by omega)])
