set_option maxHeartbeats 4000000 in
set_option maxRecDepth 100000 in
theorem s_X5_isStanding {g : ab_G} {h : ab_H} {i : Int} (hi : 0 ≤ i ∧ i < 6) : MethI g 1 m_X5_isStanding [a_R 10, a_I i] h (fun z h' => h = h' ∧ z = rd_bool (wk_std (h 15) (h 16) (h 17) i (h 10 12))) := by
  refine Meth.of_go k_X5_isStanding (Nat.le_of_ble_eq_true rfl) ?_
  show Go g _ m_X5_isStanding _ 0 [some (a_R 10), some (a_I i)] [] h
  refine go_aload_n rfl rfl ?_
  refine go_getI rfl f_X5_49 rfl rfl rfl ?_ -- time
  refine go_aload_n rfl rfl ?_
  refine go_getR rfl f_X5_24 rfl rfl ?_ -- setOut
  refine go_iload_n rfl rfl ?_
  refine go_iald rfl rfl (by omega) (by omega) ?_
  refine go_icmp_lt rfl (tgt := 39) (by decide) (fun c10 => ?_) (fun c10 => ?_)
  · refine go_iconst rfl ?_
    refine go_goto rfl (tgt := 44) (by decide) ?_
    exact go_iret rfl (Or.inr ⟨rfl, by omega⟩) ⟨_, rfl, rfl, (rd_t (Or.inl c10)).symm⟩
  · refine go_aload_n rfl rfl ?_
    refine go_getI rfl f_X5_49 rfl rfl rfl ?_ -- time
    refine go_aload_n rfl rfl ?_
    refine go_getR rfl f_X5_27 rfl rfl ?_ -- standFrom
    refine go_iload_n rfl rfl ?_
    refine go_iald rfl rfl (by omega) (by omega) ?_
    refine go_icmp_lt rfl (tgt := 43) (by decide) (fun c23 => ?_) (fun c23 => ?_)
    · refine go_iconst rfl ?_
      exact go_iret rfl (Or.inr ⟨rfl, by omega⟩) ⟨_, rfl, rfl, (rd_f (by rintro (q | q) <;> omega)).symm⟩
    · refine go_aload_n rfl rfl ?_
      refine go_getI rfl f_X5_49 rfl rfl rfl ?_ -- time
      refine go_aload_n rfl rfl ?_
      refine go_getR rfl f_X5_30 rfl rfl ?_ -- standTill
      refine go_iload_n rfl rfl ?_
      refine go_iald rfl rfl (by omega) (by omega) ?_
      refine go_icmp_ge rfl (tgt := 43) (by decide) (fun c36 => ?_) (fun c36 => ?_)
      · refine go_iconst rfl ?_
        exact go_iret rfl (Or.inr ⟨rfl, by omega⟩) ⟨_, rfl, rfl, (rd_f (by rintro (q | q) <;> omega)).symm⟩
      · refine go_iconst rfl ?_
        refine go_goto rfl (tgt := 44) (by decide) ?_
        exact go_iret rfl (Or.inr ⟨rfl, by omega⟩) ⟨_, rfl, rfl, (rd_t (Or.inr ⟨by omega, by omega⟩)).symm⟩
/-- a walk that can go on: men, who is there, the end, places on the road, directions -/
def wk_in (h : ab_H) : Prop := (0 ≤ h 10 7 ∧ h 10 7 ≤ 6) ∧ (0 ≤ h 10 8 ∧ h 10 8 < 64) ∧ (0 ≤ h 10 9 ∧ h 10 9 ≤ 80) ∧ (0 ≤ h 10 12 ∧ h 10 12 ≤ 1000) ∧ ∀ i, 0 ≤ i → i < h 10 7 → (0 ≤ h 11 i ∧ h 11 i ≤ h 10 9) ∧ (h 13 i = 1 ∨ h 13 i = -1)
def gn_I (h0 : ab_H) (i : Int) (h : ab_H) : Prop := (∀ j, 0 ≤ j → j < i → h 12 j = h0 11 j ∧ h 11 j = (wk_go (h0 10 9) (h0 15) (h0 16) (h0 17) (h0 10 8) (h0 10 12) (h0 11, h0 13, h0 14)).1 j ∧ h 13 j = (wk_go (h0 10 9) (h0 15) (h0 16) (h0 17) (h0 10 8) (h0 10 12) (h0 11, h0 13, h0 14)).2.1 j) ∧ (∀ j, i ≤ j → h 11 j = h0 11 j ∧ h 13 j = h0 13 j) ∧ ∀ k, ¬ (k = 11 ∨ k = 12 ∨ k = 13) → h k = h0 k
theorem gn_next {h0 h h2 : ab_H} {i : Int} (I : gn_I h0 i h) (e12 : h2 12 = ps_up (h 12) i (h 11 i)) (e11 : ∃ p, h2 11 = ps_up (h 11) i p ∧ p = (wk_go (h0 10 9) (h0 15) (h0 16) (h0 17) (h0 10 8) (h0 10 12) (h0 11, h0 13, h0 14)).1 i) (e13 : ∃ f, h2 13 = ps_up (h 13) i f ∧ f = (wk_go (h0 10 9) (h0 15) (h0 16) (h0 17) (h0 10 8) (h0 10 12) (h0 11, h0 13, h0 14)).2.1 i) (ek : ∀ k, ¬ (k = 11 ∨ k = 12 ∨ k = 13) → h2 k = h k) : gn_I h0 (i + 1) h2 := by
  obtain ⟨p, e11, ep⟩ := e11
  obtain ⟨f, e13, ef⟩ := e13
  refine ⟨fun j j0 j1 => ?_, fun j j0 => ?_, fun k hk => (ek k hk).trans (I.2.2 k hk)⟩
  · rw [e12, e11, e13]
    unfold ps_up
    by_cases e : j = i
    · subst e
      rw [if_pos rfl, if_pos rfl, if_pos rfl]
      exact ⟨(I.2.1 j (Int.le_refl j)).1, ep, ef⟩
    · rw [if_neg e, if_neg e, if_neg e]
      exact I.1 j j0 (by omega)
  · rw [e11, e13]
    unfold ps_up
    rw [if_neg (by omega), if_neg (by omega)]
    exact I.2.1 j (by omega)
theorem up_eq (h : ab_H) (k : Nat) (i v : Int) : ab_hs h k i v k = ps_up (h k) i v := by
  funext j
  unfold ab_hs ps_up
  by_cases e : j = i <;> simp [e]
theorem up_self (f : Int → Int) (i : Int) : f = ps_up f i (f i) := by
  funext j
  unfold ps_up
  split
  · rename_i e; rw [e]
  · rfl
set_option maxHeartbeats 4000000 in
set_option maxRecDepth 100000 in
theorem lp_X5_goOn {g : ab_G} {h0 : ab_H} {Q : Option ab_V → ab_H → Prop} (hin : wk_in h0) (hq : ∀ h, gn_I h0 (h0 10 7) h → Q none (ab_hs h 10 12 (h0 10 12 + 1))) : ∀ (f : Nat) (i : Int) (h : ab_H), 0 ≤ i → i ≤ h0 10 7 → h0 10 7 - i < f → gn_I h0 i h → Go g (ab_rm 2, 0, 0) m_X5_goOn Q 2 [some (a_R 10), some (a_I i)] [] h := by
  intro f
  induction f with
  | zero => intro i h h0i h1 hf; omega
  | succ f ih =>
    intro i h h0i h1 hf I
    have e7 : h 10 7 = h0 10 7 := by rw [I.2.2 10 (by decide)]
    have e8 : h 10 8 = h0 10 8 := by rw [I.2.2 10 (by decide)]
    have e9 : h 10 9 = h0 10 9 := by rw [I.2.2 10 (by decide)]
    have eT : h 10 12 = h0 10 12 := by rw [I.2.2 10 (by decide)]
    obtain ⟨n1, n2, n3, n4, n5⟩ := id hin
    refine go_iload_n rfl rfl ?_
    refine go_aload_n rfl rfl ?_
    refine go_getI rfl f_X5_33 rfl rfl rfl ?_ -- men
    refine go_icmp_ge rfl (tgt := 115) (by decide) (fun c7 => ?_) (fun c7 => ?_)
    · refine go_aload_n rfl rfl ?_
      refine go_dup rfl ?_
      refine go_getI rfl f_X5_49 rfl rfl rfl ?_ -- time
      refine go_iconst rfl ?_
      refine go_iadd rfl (by unfold ab_iok; omega) ?_
      refine go_putI rfl f_X5_49 rfl rfl rfl ?_ -- time
      exact go_ret rfl rfl (by rw [eT]; have e : i = h0 10 7 := (by omega); rw [e] at I; exact hq h I)
    · have hp := (hin.2.2.2.2 i h0i (by rw [← I.2.2 10 (by decide)]; omega)).1
      have hf := (hin.2.2.2.2 i h0i (by rw [← I.2.2 10 (by decide)]; omega)).2
      rw [← (I.2.1 i (Int.le_refl i)).1, ← I.2.2 10 (by decide)] at hp
      rw [← (I.2.1 i (Int.le_refl i)).2] at hf
      refine go_aload_n rfl rfl ?_
      refine go_getR rfl f_X5_15 rfl rfl ?_ -- before
      refine go_iload_n rfl rfl ?_
      refine go_aload_n rfl rfl ?_
      refine go_getR rfl f_X5_9 rfl rfl ?_ -- place
      refine go_iload_n rfl rfl ?_
      refine go_iald rfl rfl (by omega) (by omega) ?_
      refine go_iast rfl rfl (by omega) (by omega) ?_
      refine go_aload_n rfl rfl ?_
      refine go_getI rfl f_X5_37 rfl rfl rfl ?_ -- there
      simp only [ab_hs_f, ab_hs_i, ab_hs_eq, ne_eq, not_false_eq_true, Nat.reduceEqDiff, Int.reduceEq, reduceCtorEq]
      refine go_iload_n rfl rfl ?_
      refine go_ishr rfl ?_
      refine go_iconst rfl ?_
      refine go_iand rfl ?_
      rw [wk_bit (by omega) (by omega), show h 10 8 = h0 10 8 by rw [I.2.2 10 (by decide)]]
      refine go_if_eq rfl (tgt := 109) (by decide) (fun c30 => ?_) (fun c30 => ?_)
      · have nm : ¬ (wk_tb (h0 10 8) i = true ∧ ¬ wk_std (h0 15) (h0 16) (h0 17) i (h0 10 12)) := fun q => by rw [if_pos q.1] at c30; omega
        have vM1 : h 11 i = (wk_go (h0 10 9) (h0 15) (h0 16) (h0 17) (h0 10 8) (h0 10 12) (h0 11, h0 13, h0 14)).1 i := by rw [(I.2.1 i (Int.le_refl i)).1]; exact (if_neg nm).symm
        have vM2 : h 13 i = (wk_go (h0 10 9) (h0 15) (h0 16) (h0 17) (h0 10 8) (h0 10 12) (h0 11, h0 13, h0 14)).2.1 i := by rw [(I.2.1 i (Int.le_refl i)).2]; exact (if_neg nm).symm
        refine go_iinc rfl rfl (by decide) rfl (by unfold ab_iok; omega) ?_
        refine go_goto rfl (tgt := 2) (by decide) ?_
        exact ih (i + 1) _ (by omega) (by omega) (by omega) (gn_next I (by rw [up_eq]) ⟨h 11 i, (by rw [ab_hs_f (by decide)]; exact up_self _ _), vM1⟩ ⟨h 13 i, (by rw [ab_hs_f (by decide)]; exact up_self _ _), vM2⟩ (fun k hk => by rw [ab_hs_f (by omega)]))
      · refine go_aload_n rfl rfl ?_
        refine go_iload_n rfl rfl ?_
        refine go_cV1I (M' := m_X5_isStanding) rfl l_X5_88 k_X5_isStanding (s_X5_isStanding (by omega)) rfl rfl rfl rfl (by decide) (Nat.le_of_ble_eq_true rfl) (fun z35 h35 q35 => ?_) -- X5_isStanding
        simp only [ab_hs_f, ab_hs_i, ab_hs_eq, ne_eq, not_false_eq_true, Nat.reduceEqDiff, Int.reduceEq, reduceCtorEq] at q35
        rw [I.2.2 15 (by decide), I.2.2 16 (by decide), I.2.2 17 (by decide), I.2.2 10 (by decide)] at q35
        obtain ⟨rfl, rfl⟩ := q35
        refine go_if_ne rfl (tgt := 109) (by decide) (fun c38 => ?_) (fun c38 => ?_)
        · have nm : ¬ (wk_tb (h0 10 8) i = true ∧ ¬ wk_std (h0 15) (h0 16) (h0 17) i (h0 10 12)) := fun q => q.2 (rd_n1 c38)
          have vM1 : h 11 i = (wk_go (h0 10 9) (h0 15) (h0 16) (h0 17) (h0 10 8) (h0 10 12) (h0 11, h0 13, h0 14)).1 i := by rw [(I.2.1 i (Int.le_refl i)).1]; exact (if_neg nm).symm
          have vM2 : h 13 i = (wk_go (h0 10 9) (h0 15) (h0 16) (h0 17) (h0 10 8) (h0 10 12) (h0 11, h0 13, h0 14)).2.1 i := by rw [(I.2.1 i (Int.le_refl i)).2]; exact (if_neg nm).symm
          refine go_iinc rfl rfl (by decide) rfl (by unfold ab_iok; omega) ?_
          refine go_goto rfl (tgt := 2) (by decide) ?_
          exact ih (i + 1) _ (by omega) (by omega) (by omega) (gn_next I (by rw [up_eq]) ⟨h 11 i, (by rw [ab_hs_f (by decide)]; exact up_self _ _), vM1⟩ ⟨h 13 i, (by rw [ab_hs_f (by decide)]; exact up_self _ _), vM2⟩ (fun k hk => by rw [ab_hs_f (by omega)]))
        · have mv : wk_tb (h0 10 8) i = true ∧ ¬ wk_std (h0 15) (h0 16) (h0 17) i (h0 10 12) := ⟨Classical.byContradiction fun q => c30 (if_neg q), rd_n0 c38⟩
          refine go_aload_n rfl rfl ?_
          refine go_getR rfl f_X5_9 rfl rfl ?_ -- place
          refine go_iload_n rfl rfl ?_
          refine go_iald rfl rfl (by omega) (by omega) ?_
          simp only [ab_hs_f, ab_hs_i, ab_hs_eq, ne_eq, not_false_eq_true, Nat.reduceEqDiff, Int.reduceEq, reduceCtorEq]
          refine go_aload_n rfl rfl ?_
          refine go_getI rfl f_X5_40 rfl rfl rfl ?_ -- end
          simp only [ab_hs_f, ab_hs_i, ab_hs_eq, ne_eq, not_false_eq_true, Nat.reduceEqDiff, Int.reduceEq, reduceCtorEq]
          refine go_icmp_lt rfl (tgt := 63) (by decide) (fun c51 => ?_) (fun c51 => ?_)
          · refine go_aload_n rfl rfl ?_
            refine go_getR rfl f_X5_9 rfl rfl ?_ -- place
            refine go_iload_n rfl rfl ?_
            refine go_iald rfl rfl (by omega) (by omega) ?_
            simp only [ab_hs_f, ab_hs_i, ab_hs_eq, ne_eq, not_false_eq_true, Nat.reduceEqDiff, Int.reduceEq, reduceCtorEq]
            refine go_if_gt rfl (tgt := 94) (by decide) (fun c69 => ?_) (fun c69 => ?_)
            · have fcv : wk_fc (h 10 9) (h 11 i) (h 13 i) = h 13 i := by unfold wk_fc; rw [if_neg (by omega)]
              have vM1 : h 11 i + h 13 i = (wk_go (h0 10 9) (h0 15) (h0 16) (h0 17) (h0 10 8) (h0 10 12) (h0 11, h0 13, h0 14)).1 i := by rw [show (wk_go (h0 10 9) (h0 15) (h0 16) (h0 17) (h0 10 8) (h0 10 12) (h0 11, h0 13, h0 14)).1 i = h0 11 i + wk_fc (h0 10 9) (h0 11 i) (h0 13 i) from if_pos mv, ← (I.2.1 i (Int.le_refl i)).1, ← (I.2.1 i (Int.le_refl i)).2, ← I.2.2 10 (by decide), fcv]
              have vM2 : h 13 i = (wk_go (h0 10 9) (h0 15) (h0 16) (h0 17) (h0 10 8) (h0 10 12) (h0 11, h0 13, h0 14)).2.1 i := by rw [show (wk_go (h0 10 9) (h0 15) (h0 16) (h0 17) (h0 10 8) (h0 10 12) (h0 11, h0 13, h0 14)).2.1 i = wk_fc (h0 10 9) (h0 11 i) (h0 13 i) from if_pos mv, ← (I.2.1 i (Int.le_refl i)).1, ← (I.2.1 i (Int.le_refl i)).2, ← I.2.2 10 (by decide), fcv]
              refine go_aload_n rfl rfl ?_
              refine go_getR rfl f_X5_9 rfl rfl ?_ -- place
              refine go_iload_n rfl rfl ?_
              refine go_dup2 rfl ?_
              refine go_iald rfl rfl (by omega) (by omega) ?_
              simp only [ab_hs_f, ab_hs_i, ab_hs_eq, ne_eq, not_false_eq_true, Nat.reduceEqDiff, Int.reduceEq, reduceCtorEq]
              refine go_aload_n rfl rfl ?_
              refine go_getR rfl f_X5_18 rfl rfl ?_ -- facing
              refine go_iload_n rfl rfl ?_
              refine go_iald rfl rfl (by omega) (by omega) ?_
              simp only [ab_hs_f, ab_hs_i, ab_hs_eq, ne_eq, not_false_eq_true, Nat.reduceEqDiff, Int.reduceEq, reduceCtorEq]
              refine go_iadd rfl (by unfold ab_iok; omega) ?_
              refine go_iast rfl rfl (by omega) (by omega) ?_
              refine go_iinc rfl rfl (by decide) rfl (by unfold ab_iok; omega) ?_
              refine go_goto rfl (tgt := 2) (by decide) ?_
              exact ih (i + 1) _ (by omega) (by omega) (by omega) (gn_next I (by rw [ab_hs_f (by decide), up_eq]) ⟨_, (by rw [up_eq, ab_hs_f (by decide)]), vM1⟩ ⟨h 13 i, (by rw [ab_hs_f (by decide), ab_hs_f (by decide)]; exact up_self _ _), vM2⟩ (fun k hk => by rw [ab_hs_f (by omega), ab_hs_f (by omega)]))
            · refine go_aload_n rfl rfl ?_
              refine go_getR rfl f_X5_18 rfl rfl ?_ -- facing
              refine go_iload_n rfl rfl ?_
              refine go_iald rfl rfl (by omega) (by omega) ?_
              simp only [ab_hs_f, ab_hs_i, ab_hs_eq, ne_eq, not_false_eq_true, Nat.reduceEqDiff, Int.reduceEq, reduceCtorEq]
              refine go_if_ge rfl (tgt := 94) (by decide) (fun c78 => ?_) (fun c78 => ?_)
              · have fcv : wk_fc (h 10 9) (h 11 i) (h 13 i) = h 13 i := by unfold wk_fc; rw [if_neg (by omega)]
                have vM1 : h 11 i + h 13 i = (wk_go (h0 10 9) (h0 15) (h0 16) (h0 17) (h0 10 8) (h0 10 12) (h0 11, h0 13, h0 14)).1 i := by rw [show (wk_go (h0 10 9) (h0 15) (h0 16) (h0 17) (h0 10 8) (h0 10 12) (h0 11, h0 13, h0 14)).1 i = h0 11 i + wk_fc (h0 10 9) (h0 11 i) (h0 13 i) from if_pos mv, ← (I.2.1 i (Int.le_refl i)).1, ← (I.2.1 i (Int.le_refl i)).2, ← I.2.2 10 (by decide), fcv]
                have vM2 : h 13 i = (wk_go (h0 10 9) (h0 15) (h0 16) (h0 17) (h0 10 8) (h0 10 12) (h0 11, h0 13, h0 14)).2.1 i := by rw [show (wk_go (h0 10 9) (h0 15) (h0 16) (h0 17) (h0 10 8) (h0 10 12) (h0 11, h0 13, h0 14)).2.1 i = wk_fc (h0 10 9) (h0 11 i) (h0 13 i) from if_pos mv, ← (I.2.1 i (Int.le_refl i)).1, ← (I.2.1 i (Int.le_refl i)).2, ← I.2.2 10 (by decide), fcv]
                refine go_aload_n rfl rfl ?_
                refine go_getR rfl f_X5_9 rfl rfl ?_ -- place
                refine go_iload_n rfl rfl ?_
                refine go_dup2 rfl ?_
                refine go_iald rfl rfl (by omega) (by omega) ?_
                simp only [ab_hs_f, ab_hs_i, ab_hs_eq, ne_eq, not_false_eq_true, Nat.reduceEqDiff, Int.reduceEq, reduceCtorEq]
                refine go_aload_n rfl rfl ?_
                refine go_getR rfl f_X5_18 rfl rfl ?_ -- facing
                refine go_iload_n rfl rfl ?_
                refine go_iald rfl rfl (by omega) (by omega) ?_
                simp only [ab_hs_f, ab_hs_i, ab_hs_eq, ne_eq, not_false_eq_true, Nat.reduceEqDiff, Int.reduceEq, reduceCtorEq]
                refine go_iadd rfl (by unfold ab_iok; omega) ?_
                refine go_iast rfl rfl (by omega) (by omega) ?_
                refine go_iinc rfl rfl (by decide) rfl (by unfold ab_iok; omega) ?_
                refine go_goto rfl (tgt := 2) (by decide) ?_
                exact ih (i + 1) _ (by omega) (by omega) (by omega) (gn_next I (by rw [ab_hs_f (by decide), up_eq]) ⟨_, (by rw [up_eq, ab_hs_f (by decide)]), vM1⟩ ⟨h 13 i, (by rw [ab_hs_f (by decide), ab_hs_f (by decide)]; exact up_self _ _), vM2⟩ (fun k hk => by rw [ab_hs_f (by omega), ab_hs_f (by omega)]))
              · refine go_aload_n rfl rfl ?_
                refine go_getR rfl f_X5_18 rfl rfl ?_ -- facing
                refine go_iload_n rfl rfl ?_
                refine go_aload_n rfl rfl ?_
                refine go_getR rfl f_X5_18 rfl rfl ?_ -- facing
                refine go_iload_n rfl rfl ?_
                refine go_iald rfl rfl (by omega) (by omega) ?_
                simp only [ab_hs_f, ab_hs_i, ab_hs_eq, ne_eq, not_false_eq_true, Nat.reduceEqDiff, Int.reduceEq, reduceCtorEq]
                refine go_ineg rfl (by unfold ab_iok; omega) ?_
                refine go_iast rfl rfl (by omega) (by omega) ?_
                have fcv : wk_fc (h 10 9) (h 11 i) (h 13 i) = -h 13 i := by unfold wk_fc; rw [if_pos (by omega)]
                have vM1 : h 11 i + -h 13 i = (wk_go (h0 10 9) (h0 15) (h0 16) (h0 17) (h0 10 8) (h0 10 12) (h0 11, h0 13, h0 14)).1 i := by rw [show (wk_go (h0 10 9) (h0 15) (h0 16) (h0 17) (h0 10 8) (h0 10 12) (h0 11, h0 13, h0 14)).1 i = h0 11 i + wk_fc (h0 10 9) (h0 11 i) (h0 13 i) from if_pos mv, ← (I.2.1 i (Int.le_refl i)).1, ← (I.2.1 i (Int.le_refl i)).2, ← I.2.2 10 (by decide), fcv]
                have vM2 : -h 13 i = (wk_go (h0 10 9) (h0 15) (h0 16) (h0 17) (h0 10 8) (h0 10 12) (h0 11, h0 13, h0 14)).2.1 i := by rw [show (wk_go (h0 10 9) (h0 15) (h0 16) (h0 17) (h0 10 8) (h0 10 12) (h0 11, h0 13, h0 14)).2.1 i = wk_fc (h0 10 9) (h0 11 i) (h0 13 i) from if_pos mv, ← (I.2.1 i (Int.le_refl i)).1, ← (I.2.1 i (Int.le_refl i)).2, ← I.2.2 10 (by decide), fcv]
                refine go_aload_n rfl rfl ?_
                refine go_getR rfl f_X5_9 rfl rfl ?_ -- place
                refine go_iload_n rfl rfl ?_
                refine go_dup2 rfl ?_
                refine go_iald rfl rfl (by omega) (by omega) ?_
                simp only [ab_hs_f, ab_hs_i, ab_hs_eq, ne_eq, not_false_eq_true, Nat.reduceEqDiff, Int.reduceEq, reduceCtorEq]
                refine go_aload_n rfl rfl ?_
                refine go_getR rfl f_X5_18 rfl rfl ?_ -- facing
                refine go_iload_n rfl rfl ?_
                refine go_iald rfl rfl (by omega) (by omega) ?_
                simp only [ab_hs_f, ab_hs_i, ab_hs_eq, ne_eq, not_false_eq_true, Nat.reduceEqDiff, Int.reduceEq, reduceCtorEq]
                refine go_iadd rfl (by unfold ab_iok; omega) ?_
                refine go_iast rfl rfl (by omega) (by omega) ?_
                refine go_iinc rfl rfl (by decide) rfl (by unfold ab_iok; omega) ?_
                refine go_goto rfl (tgt := 2) (by decide) ?_
                exact ih (i + 1) _ (by omega) (by omega) (by omega) (gn_next I (by rw [ab_hs_f (by decide), ab_hs_f (by decide), up_eq]) ⟨_, (by rw [up_eq, ab_hs_f (by decide), ab_hs_f (by decide)]), vM1⟩ ⟨_, (by rw [ab_hs_f (by decide), up_eq, ab_hs_f (by decide)]), vM2⟩ (fun k hk => by rw [ab_hs_f (by omega), ab_hs_f (by omega), ab_hs_f (by omega)]))
          · refine go_aload_n rfl rfl ?_
            refine go_getR rfl f_X5_18 rfl rfl ?_ -- facing
            refine go_iload_n rfl rfl ?_
            refine go_iald rfl rfl (by omega) (by omega) ?_
            simp only [ab_hs_f, ab_hs_i, ab_hs_eq, ne_eq, not_false_eq_true, Nat.reduceEqDiff, Int.reduceEq, reduceCtorEq]
            refine go_if_gt rfl (tgt := 81) (by decide) (fun c60 => ?_) (fun c60 => ?_)
            · refine go_aload_n rfl rfl ?_
              refine go_getR rfl f_X5_18 rfl rfl ?_ -- facing
              refine go_iload_n rfl rfl ?_
              refine go_aload_n rfl rfl ?_
              refine go_getR rfl f_X5_18 rfl rfl ?_ -- facing
              refine go_iload_n rfl rfl ?_
              refine go_iald rfl rfl (by omega) (by omega) ?_
              simp only [ab_hs_f, ab_hs_i, ab_hs_eq, ne_eq, not_false_eq_true, Nat.reduceEqDiff, Int.reduceEq, reduceCtorEq]
              refine go_ineg rfl (by unfold ab_iok; omega) ?_
              refine go_iast rfl rfl (by omega) (by omega) ?_
              have fcv : wk_fc (h 10 9) (h 11 i) (h 13 i) = -h 13 i := by unfold wk_fc; rw [if_pos (by omega)]
              have vM1 : h 11 i + -h 13 i = (wk_go (h0 10 9) (h0 15) (h0 16) (h0 17) (h0 10 8) (h0 10 12) (h0 11, h0 13, h0 14)).1 i := by rw [show (wk_go (h0 10 9) (h0 15) (h0 16) (h0 17) (h0 10 8) (h0 10 12) (h0 11, h0 13, h0 14)).1 i = h0 11 i + wk_fc (h0 10 9) (h0 11 i) (h0 13 i) from if_pos mv, ← (I.2.1 i (Int.le_refl i)).1, ← (I.2.1 i (Int.le_refl i)).2, ← I.2.2 10 (by decide), fcv]
              have vM2 : -h 13 i = (wk_go (h0 10 9) (h0 15) (h0 16) (h0 17) (h0 10 8) (h0 10 12) (h0 11, h0 13, h0 14)).2.1 i := by rw [show (wk_go (h0 10 9) (h0 15) (h0 16) (h0 17) (h0 10 8) (h0 10 12) (h0 11, h0 13, h0 14)).2.1 i = wk_fc (h0 10 9) (h0 11 i) (h0 13 i) from if_pos mv, ← (I.2.1 i (Int.le_refl i)).1, ← (I.2.1 i (Int.le_refl i)).2, ← I.2.2 10 (by decide), fcv]
              refine go_aload_n rfl rfl ?_
              refine go_getR rfl f_X5_9 rfl rfl ?_ -- place
              refine go_iload_n rfl rfl ?_
              refine go_dup2 rfl ?_
              refine go_iald rfl rfl (by omega) (by omega) ?_
              simp only [ab_hs_f, ab_hs_i, ab_hs_eq, ne_eq, not_false_eq_true, Nat.reduceEqDiff, Int.reduceEq, reduceCtorEq]
              refine go_aload_n rfl rfl ?_
              refine go_getR rfl f_X5_18 rfl rfl ?_ -- facing
              refine go_iload_n rfl rfl ?_
              refine go_iald rfl rfl (by omega) (by omega) ?_
              simp only [ab_hs_f, ab_hs_i, ab_hs_eq, ne_eq, not_false_eq_true, Nat.reduceEqDiff, Int.reduceEq, reduceCtorEq]
              refine go_iadd rfl (by unfold ab_iok; omega) ?_
              refine go_iast rfl rfl (by omega) (by omega) ?_
              refine go_iinc rfl rfl (by decide) rfl (by unfold ab_iok; omega) ?_
              refine go_goto rfl (tgt := 2) (by decide) ?_
              exact ih (i + 1) _ (by omega) (by omega) (by omega) (gn_next I (by rw [ab_hs_f (by decide), ab_hs_f (by decide), up_eq]) ⟨_, (by rw [up_eq, ab_hs_f (by decide), ab_hs_f (by decide)]), vM1⟩ ⟨_, (by rw [ab_hs_f (by decide), up_eq, ab_hs_f (by decide)]), vM2⟩ (fun k hk => by rw [ab_hs_f (by omega), ab_hs_f (by omega), ab_hs_f (by omega)]))
            · refine go_aload_n rfl rfl ?_
              refine go_getR rfl f_X5_9 rfl rfl ?_ -- place
              refine go_iload_n rfl rfl ?_
              refine go_iald rfl rfl (by omega) (by omega) ?_
              simp only [ab_hs_f, ab_hs_i, ab_hs_eq, ne_eq, not_false_eq_true, Nat.reduceEqDiff, Int.reduceEq, reduceCtorEq]
              refine go_if_gt rfl (tgt := 94) (by decide) (fun c69 => ?_) (fun c69 => ?_)
              · have fcv : wk_fc (h 10 9) (h 11 i) (h 13 i) = h 13 i := by unfold wk_fc; rw [if_neg (by omega)]
                have vM1 : h 11 i + h 13 i = (wk_go (h0 10 9) (h0 15) (h0 16) (h0 17) (h0 10 8) (h0 10 12) (h0 11, h0 13, h0 14)).1 i := by rw [show (wk_go (h0 10 9) (h0 15) (h0 16) (h0 17) (h0 10 8) (h0 10 12) (h0 11, h0 13, h0 14)).1 i = h0 11 i + wk_fc (h0 10 9) (h0 11 i) (h0 13 i) from if_pos mv, ← (I.2.1 i (Int.le_refl i)).1, ← (I.2.1 i (Int.le_refl i)).2, ← I.2.2 10 (by decide), fcv]
                have vM2 : h 13 i = (wk_go (h0 10 9) (h0 15) (h0 16) (h0 17) (h0 10 8) (h0 10 12) (h0 11, h0 13, h0 14)).2.1 i := by rw [show (wk_go (h0 10 9) (h0 15) (h0 16) (h0 17) (h0 10 8) (h0 10 12) (h0 11, h0 13, h0 14)).2.1 i = wk_fc (h0 10 9) (h0 11 i) (h0 13 i) from if_pos mv, ← (I.2.1 i (Int.le_refl i)).1, ← (I.2.1 i (Int.le_refl i)).2, ← I.2.2 10 (by decide), fcv]
                refine go_aload_n rfl rfl ?_
                refine go_getR rfl f_X5_9 rfl rfl ?_ -- place
                refine go_iload_n rfl rfl ?_
                refine go_dup2 rfl ?_
                refine go_iald rfl rfl (by omega) (by omega) ?_
                simp only [ab_hs_f, ab_hs_i, ab_hs_eq, ne_eq, not_false_eq_true, Nat.reduceEqDiff, Int.reduceEq, reduceCtorEq]
                refine go_aload_n rfl rfl ?_
                refine go_getR rfl f_X5_18 rfl rfl ?_ -- facing
                refine go_iload_n rfl rfl ?_
                refine go_iald rfl rfl (by omega) (by omega) ?_
                simp only [ab_hs_f, ab_hs_i, ab_hs_eq, ne_eq, not_false_eq_true, Nat.reduceEqDiff, Int.reduceEq, reduceCtorEq]
                refine go_iadd rfl (by unfold ab_iok; omega) ?_
                refine go_iast rfl rfl (by omega) (by omega) ?_
                refine go_iinc rfl rfl (by decide) rfl (by unfold ab_iok; omega) ?_
                refine go_goto rfl (tgt := 2) (by decide) ?_
                exact ih (i + 1) _ (by omega) (by omega) (by omega) (gn_next I (by rw [ab_hs_f (by decide), up_eq]) ⟨_, (by rw [up_eq, ab_hs_f (by decide)]), vM1⟩ ⟨h 13 i, (by rw [ab_hs_f (by decide), ab_hs_f (by decide)]; exact up_self _ _), vM2⟩ (fun k hk => by rw [ab_hs_f (by omega), ab_hs_f (by omega)]))
              · refine go_aload_n rfl rfl ?_
                refine go_getR rfl f_X5_18 rfl rfl ?_ -- facing
                refine go_iload_n rfl rfl ?_
                refine go_iald rfl rfl (by omega) (by omega) ?_
                simp only [ab_hs_f, ab_hs_i, ab_hs_eq, ne_eq, not_false_eq_true, Nat.reduceEqDiff, Int.reduceEq, reduceCtorEq]
                refine go_if_ge rfl (tgt := 94) (by decide) (fun c78 => ?_) (fun c78 => ?_)
                · have fcv : wk_fc (h 10 9) (h 11 i) (h 13 i) = h 13 i := by unfold wk_fc; rw [if_neg (by omega)]
                  have vM1 : h 11 i + h 13 i = (wk_go (h0 10 9) (h0 15) (h0 16) (h0 17) (h0 10 8) (h0 10 12) (h0 11, h0 13, h0 14)).1 i := by rw [show (wk_go (h0 10 9) (h0 15) (h0 16) (h0 17) (h0 10 8) (h0 10 12) (h0 11, h0 13, h0 14)).1 i = h0 11 i + wk_fc (h0 10 9) (h0 11 i) (h0 13 i) from if_pos mv, ← (I.2.1 i (Int.le_refl i)).1, ← (I.2.1 i (Int.le_refl i)).2, ← I.2.2 10 (by decide), fcv]
                  have vM2 : h 13 i = (wk_go (h0 10 9) (h0 15) (h0 16) (h0 17) (h0 10 8) (h0 10 12) (h0 11, h0 13, h0 14)).2.1 i := by rw [show (wk_go (h0 10 9) (h0 15) (h0 16) (h0 17) (h0 10 8) (h0 10 12) (h0 11, h0 13, h0 14)).2.1 i = wk_fc (h0 10 9) (h0 11 i) (h0 13 i) from if_pos mv, ← (I.2.1 i (Int.le_refl i)).1, ← (I.2.1 i (Int.le_refl i)).2, ← I.2.2 10 (by decide), fcv]
                  refine go_aload_n rfl rfl ?_
                  refine go_getR rfl f_X5_9 rfl rfl ?_ -- place
                  refine go_iload_n rfl rfl ?_
                  refine go_dup2 rfl ?_
                  refine go_iald rfl rfl (by omega) (by omega) ?_
                  simp only [ab_hs_f, ab_hs_i, ab_hs_eq, ne_eq, not_false_eq_true, Nat.reduceEqDiff, Int.reduceEq, reduceCtorEq]
                  refine go_aload_n rfl rfl ?_
                  refine go_getR rfl f_X5_18 rfl rfl ?_ -- facing
                  refine go_iload_n rfl rfl ?_
                  refine go_iald rfl rfl (by omega) (by omega) ?_
                  simp only [ab_hs_f, ab_hs_i, ab_hs_eq, ne_eq, not_false_eq_true, Nat.reduceEqDiff, Int.reduceEq, reduceCtorEq]
                  refine go_iadd rfl (by unfold ab_iok; omega) ?_
                  refine go_iast rfl rfl (by omega) (by omega) ?_
                  refine go_iinc rfl rfl (by decide) rfl (by unfold ab_iok; omega) ?_
                  refine go_goto rfl (tgt := 2) (by decide) ?_
                  exact ih (i + 1) _ (by omega) (by omega) (by omega) (gn_next I (by rw [ab_hs_f (by decide), up_eq]) ⟨_, (by rw [up_eq, ab_hs_f (by decide)]), vM1⟩ ⟨h 13 i, (by rw [ab_hs_f (by decide), ab_hs_f (by decide)]; exact up_self _ _), vM2⟩ (fun k hk => by rw [ab_hs_f (by omega), ab_hs_f (by omega)]))
                · refine go_aload_n rfl rfl ?_
                  refine go_getR rfl f_X5_18 rfl rfl ?_ -- facing
                  refine go_iload_n rfl rfl ?_
                  refine go_aload_n rfl rfl ?_
                  refine go_getR rfl f_X5_18 rfl rfl ?_ -- facing
                  refine go_iload_n rfl rfl ?_
                  refine go_iald rfl rfl (by omega) (by omega) ?_
                  simp only [ab_hs_f, ab_hs_i, ab_hs_eq, ne_eq, not_false_eq_true, Nat.reduceEqDiff, Int.reduceEq, reduceCtorEq]
                  refine go_ineg rfl (by unfold ab_iok; omega) ?_
                  refine go_iast rfl rfl (by omega) (by omega) ?_
                  have fcv : wk_fc (h 10 9) (h 11 i) (h 13 i) = -h 13 i := by unfold wk_fc; rw [if_pos (by omega)]
                  have vM1 : h 11 i + -h 13 i = (wk_go (h0 10 9) (h0 15) (h0 16) (h0 17) (h0 10 8) (h0 10 12) (h0 11, h0 13, h0 14)).1 i := by rw [show (wk_go (h0 10 9) (h0 15) (h0 16) (h0 17) (h0 10 8) (h0 10 12) (h0 11, h0 13, h0 14)).1 i = h0 11 i + wk_fc (h0 10 9) (h0 11 i) (h0 13 i) from if_pos mv, ← (I.2.1 i (Int.le_refl i)).1, ← (I.2.1 i (Int.le_refl i)).2, ← I.2.2 10 (by decide), fcv]
                  have vM2 : -h 13 i = (wk_go (h0 10 9) (h0 15) (h0 16) (h0 17) (h0 10 8) (h0 10 12) (h0 11, h0 13, h0 14)).2.1 i := by rw [show (wk_go (h0 10 9) (h0 15) (h0 16) (h0 17) (h0 10 8) (h0 10 12) (h0 11, h0 13, h0 14)).2.1 i = wk_fc (h0 10 9) (h0 11 i) (h0 13 i) from if_pos mv, ← (I.2.1 i (Int.le_refl i)).1, ← (I.2.1 i (Int.le_refl i)).2, ← I.2.2 10 (by decide), fcv]
                  refine go_aload_n rfl rfl ?_
                  refine go_getR rfl f_X5_9 rfl rfl ?_ -- place
                  refine go_iload_n rfl rfl ?_
                  refine go_dup2 rfl ?_
                  refine go_iald rfl rfl (by omega) (by omega) ?_
                  simp only [ab_hs_f, ab_hs_i, ab_hs_eq, ne_eq, not_false_eq_true, Nat.reduceEqDiff, Int.reduceEq, reduceCtorEq]
                  refine go_aload_n rfl rfl ?_
                  refine go_getR rfl f_X5_18 rfl rfl ?_ -- facing
                  refine go_iload_n rfl rfl ?_
                  refine go_iald rfl rfl (by omega) (by omega) ?_
                  simp only [ab_hs_f, ab_hs_i, ab_hs_eq, ne_eq, not_false_eq_true, Nat.reduceEqDiff, Int.reduceEq, reduceCtorEq]
                  refine go_iadd rfl (by unfold ab_iok; omega) ?_
                  refine go_iast rfl rfl (by omega) (by omega) ?_
                  refine go_iinc rfl rfl (by decide) rfl (by unfold ab_iok; omega) ?_
                  refine go_goto rfl (tgt := 2) (by decide) ?_
                  exact ih (i + 1) _ (by omega) (by omega) (by omega) (gn_next I (by rw [ab_hs_f (by decide), ab_hs_f (by decide), up_eq]) ⟨_, (by rw [up_eq, ab_hs_f (by decide), ab_hs_f (by decide)]), vM1⟩ ⟨_, (by rw [ab_hs_f (by decide), up_eq, ab_hs_f (by decide)]), vM2⟩ (fun k hk => by rw [ab_hs_f (by omega), ab_hs_f (by omega), ab_hs_f (by omega)]))
theorem gn_0 (h : ab_H) : gn_I h 0 h := ⟨fun j j0 j1 => by omega, fun _ _ => ⟨rfl, rfl⟩, fun _ _ => rfl⟩
set_option maxHeartbeats 4000000 in
set_option maxRecDepth 100000 in
theorem s_X5_goOn {g : ab_G} {h : ab_H} (hin : wk_in h) : MethV g 2 m_X5_goOn [a_R 10] h (fun h' => ∃ h2, gn_I h (h 10 7) h2 ∧ h' = ab_hs h2 10 12 (h 10 12 + 1)) := by
  refine Meth.of_go k_X5_goOn (Nat.le_of_ble_eq_true rfl) ?_
  show Go g _ m_X5_goOn _ 0 [some (a_R 10), none] [] h
  refine go_iconst rfl ?_
  refine go_istore_n rfl (by decide) rfl ?_
  exact lp_X5_goOn hin (fun h2 I => ⟨rfl, h2, I, rfl⟩) 8 0 h (by omega) (by have := hin.1; omega) (by have := hin.1; omega) (gn_0 h)
set_option maxHeartbeats 4000000 in
set_option maxRecDepth 100000 in
theorem lp_X5_firstThere {g : ab_G} {h : ab_H} {v : Int} {Q : Option ab_V → ab_H → Prop} (hm : 0 ≤ h 10 7 ∧ h 10 7 ≤ 6) (hw : 0 ≤ h 10 8 ∧ h 10 8 < 64) (hq1 : (∀ j, 0 ≤ j → j < h 10 7 → ¬ (wk_tb (h 10 8) j = true ∧ h 11 j = v)) → Q (some (a_I (-1))) h) (hq2 : ∀ i, 0 ≤ i → i < h 10 7 → wk_tb (h 10 8) i = true ∧ h 11 i = v → (∀ j, 0 ≤ j → j < i → ¬ (wk_tb (h 10 8) j = true ∧ h 11 j = v)) → Q (some (a_I i)) h) : ∀ (f : Nat) (i : Int), 0 ≤ i → i ≤ h 10 7 → h 10 7 - i < f → (∀ j, 0 ≤ j → j < i → ¬ (wk_tb (h 10 8) j = true ∧ h 11 j = v)) → Go g (ab_rm 1, 0, 0) m_X5_firstThere Q 2 [some (a_R 10), some (a_I v), some (a_I i)] [] h := by
  intro f
  induction f with
  | zero => intro i h0 h1 hf; omega
  | succ f ih =>
    intro i h0 h1 hf hI
    refine go_iload_n rfl rfl ?_
    refine go_aload_n rfl rfl ?_
    refine go_getI rfl f_X5_33 rfl rfl rfl ?_ -- men
    refine go_icmp_ge rfl (tgt := 39) (by decide) (fun c7 => ?_) (fun c7 => ?_)
    · refine go_iconst rfl ?_
      exact go_iret rfl (Or.inl rfl) (hq1 (fun j j0 j1 => hI j j0 (by omega)))
    · refine go_aload_n rfl rfl ?_
      refine go_getI rfl f_X5_37 rfl rfl rfl ?_ -- there
      refine go_iload_n rfl rfl ?_
      refine go_ishr rfl ?_
      refine go_iconst rfl ?_
      refine go_iand rfl ?_
      rw [wk_bit (by omega) (by omega)]
      refine go_if_eq rfl (tgt := 33) (by decide) (fun c18 => ?_) (fun c18 => ?_)
      · refine go_iinc rfl rfl (by decide) rfl (by unfold ab_iok; omega) ?_
        refine go_goto rfl (tgt := 2) (by decide) ?_
        exact ih (i + 1) (by omega) (by omega) (by omega) (fun j j0 j1 => by by_cases e : j = i; exact fun q => (by rw [if_pos (e ▸ q.1)] at c18; omega); exact hI j j0 (by omega))
      · refine go_aload_n rfl rfl ?_
        refine go_getR rfl f_X5_9 rfl rfl ?_ -- place
        refine go_iload_n rfl rfl ?_
        refine go_iald rfl rfl (by omega) (by omega) ?_
        refine go_iload_n rfl rfl ?_
        refine go_icmp_ne rfl (tgt := 33) (by decide) (fun c28 => ?_) (fun c28 => ?_)
        · refine go_iinc rfl rfl (by decide) rfl (by unfold ab_iok; omega) ?_
          refine go_goto rfl (tgt := 2) (by decide) ?_
          exact ih (i + 1) (by omega) (by omega) (by omega) (fun j j0 j1 => by by_cases e : j = i; exact fun q => c28 (e ▸ q.2); exact hI j j0 (by omega))
        · refine go_iload_n rfl rfl ?_
          exact go_iret rfl (Or.inl rfl) (hq2 i h0 (by omega) ⟨Classical.byContradiction fun q => c18 (if_neg q), by omega⟩ hI)
set_option maxHeartbeats 4000000 in
set_option maxRecDepth 100000 in
theorem s_X5_firstThere {g : ab_G} {h : ab_H} {v : Int} (hm : 0 ≤ h 10 7 ∧ h 10 7 ≤ 6) (hw : 0 ≤ h 10 8 ∧ h 10 8 < 64) : MethI g 1 m_X5_firstThere [a_R 10, a_I v] h (fun z h' => h = h' ∧ ((z = -1 ∧ (∀ j, 0 ≤ j → j < h 10 7 → ¬ (wk_tb (h 10 8) j = true ∧ h 11 j = v))) ∨ (0 ≤ z ∧ z < h 10 7 ∧ (wk_tb (h 10 8) z = true ∧ h 11 z = v) ∧ ∀ j, 0 ≤ j → j < z → ¬ (wk_tb (h 10 8) j = true ∧ h 11 j = v)))) := by
  refine Meth.of_go k_X5_firstThere (Nat.le_of_ble_eq_true rfl) ?_
  show Go g _ m_X5_firstThere _ 0 [some (a_R 10), some (a_I v), none] [] h
  refine go_iconst rfl ?_
  refine go_istore_n rfl (by decide) rfl ?_
  exact lp_X5_firstThere hm hw (fun q => ⟨_, rfl, rfl, Or.inl ⟨rfl, q⟩⟩) (fun i i0 i1 q1 q2 => ⟨_, rfl, rfl, Or.inr ⟨i0, i1, q1, q2⟩⟩) 8 0 (by omega) (by omega) (by omega) (fun j j0 j1 => by omega)
set_option maxHeartbeats 4000000 in
set_option maxRecDepth 100000 in
theorem lp_X5_isBagAt {g : ab_G} {h : ab_H} {v w : Int} {Q : Option ab_V → ab_H → Prop} (hm : 0 ≤ h 10 7 ∧ h 10 7 ≤ 6) (hw : 0 ≤ h 10 8 ∧ h 10 8 < 64) (hq1 : (∀ j, 0 ≤ j → j < h 10 7 → ¬ (wk_tb (h 10 8) j = true ∧ h 14 j = v)) → Q (some (a_I 0)) h) (hq2 : ∀ i, 0 ≤ i → i < h 10 7 → wk_tb (h 10 8) i = true ∧ h 14 i = v → (∀ j, 0 ≤ j → j < i → ¬ (wk_tb (h 10 8) j = true ∧ h 14 j = v)) → Q (some (a_I (rd_bool (h 11 i = w)))) h) : ∀ (f : Nat) (i : Int), 0 ≤ i → i ≤ h 10 7 → h 10 7 - i < f → (∀ j, 0 ≤ j → j < i → ¬ (wk_tb (h 10 8) j = true ∧ h 14 j = v)) → Go g (ab_rm 1, 0, 0) m_X5_isBagAt Q 2 [some (a_R 10), some (a_I v), some (a_I w), some (a_I i)] [] h := by
  intro f
  induction f with
  | zero => intro i h0 h1 hf; omega
  | succ f ih =>
    intro i h0 h1 hf hI
    refine go_iload_n rfl rfl ?_
    refine go_aload_n rfl rfl ?_
    refine go_getI rfl f_X5_33 rfl rfl rfl ?_ -- men
    refine go_icmp_ge rfl (tgt := 53) (by decide) (fun c7 => ?_) (fun c7 => ?_)
    · refine go_iconst rfl ?_
      exact go_iret rfl (Or.inr ⟨rfl, by omega⟩) (hq1 (fun j j0 j1 => hI j j0 (by omega)))
    · refine go_aload_n rfl rfl ?_
      refine go_getI rfl f_X5_37 rfl rfl rfl ?_ -- there
      refine go_iload_n rfl rfl ?_
      refine go_ishr rfl ?_
      refine go_iconst rfl ?_
      refine go_iand rfl ?_
      rw [wk_bit (by omega) (by omega)]
      refine go_if_eq rfl (tgt := 47) (by decide) (fun c18 => ?_) (fun c18 => ?_)
      · refine go_iinc rfl rfl (by decide) rfl (by unfold ab_iok; omega) ?_
        refine go_goto rfl (tgt := 2) (by decide) ?_
        exact ih (i + 1) (by omega) (by omega) (by omega) (fun j j0 j1 => by by_cases e : j = i; exact fun q => (by rw [if_pos (e ▸ q.1)] at c18; omega); exact hI j j0 (by omega))
      · refine go_aload_n rfl rfl ?_
        refine go_getR rfl f_X5_21 rfl rfl ?_ -- load
        refine go_iload_n rfl rfl ?_
        refine go_iald rfl rfl (by omega) (by omega) ?_
        refine go_iload_n rfl rfl ?_
        refine go_icmp_ne rfl (tgt := 47) (by decide) (fun c28 => ?_) (fun c28 => ?_)
        · refine go_iinc rfl rfl (by decide) rfl (by unfold ab_iok; omega) ?_
          refine go_goto rfl (tgt := 2) (by decide) ?_
          exact ih (i + 1) (by omega) (by omega) (by omega) (fun j j0 j1 => by by_cases e : j = i; exact fun q => c28 (e ▸ q.2); exact hI j j0 (by omega))
        · refine go_aload_n rfl rfl ?_
          refine go_getR rfl f_X5_9 rfl rfl ?_ -- place
          refine go_iload_n rfl rfl ?_
          refine go_iald rfl rfl (by omega) (by omega) ?_
          refine go_iload_n rfl rfl ?_
          refine go_icmp_ne rfl (tgt := 45) (by decide) (fun c38 => ?_) (fun c38 => ?_)
          · refine go_iconst rfl ?_
            exact go_iret rfl (Or.inr ⟨rfl, by omega⟩) (by have z := hq2 i h0 (by omega) ⟨Classical.byContradiction fun q => c18 (if_neg q), by omega⟩ hI; rw [rd_f c38] at z; exact z)
          · refine go_iconst rfl ?_
            refine go_goto rfl (tgt := 46) (by decide) ?_
            exact go_iret rfl (Or.inr ⟨rfl, by omega⟩) (by have z := hq2 i h0 (by omega) ⟨Classical.byContradiction fun q => c18 (if_neg q), by omega⟩ hI; rw [rd_t c38] at z; exact z)
set_option maxHeartbeats 4000000 in
set_option maxRecDepth 100000 in
theorem s_X5_isBagAt {g : ab_G} {h : ab_H} {v w : Int} (hm : 0 ≤ h 10 7 ∧ h 10 7 ≤ 6) (hw : 0 ≤ h 10 8 ∧ h 10 8 < 64) : MethI g 1 m_X5_isBagAt [a_R 10, a_I v, a_I w] h (fun z h' => h = h' ∧ ((z = 0 ∧ (∀ j, 0 ≤ j → j < h 10 7 → ¬ (wk_tb (h 10 8) j = true ∧ h 14 j = v))) ∨ (∃ i, 0 ≤ i ∧ i < h 10 7 ∧ (wk_tb (h 10 8) i = true ∧ h 14 i = v) ∧ (∀ j, 0 ≤ j → j < i → ¬ (wk_tb (h 10 8) j = true ∧ h 14 j = v)) ∧ z = rd_bool (h 11 i = w)))) := by
  refine Meth.of_go k_X5_isBagAt (Nat.le_of_ble_eq_true rfl) ?_
  show Go g _ m_X5_isBagAt _ 0 [some (a_R 10), some (a_I v), some (a_I w), none] [] h
  refine go_iconst rfl ?_
  refine go_istore_n rfl (by decide) rfl ?_
  exact lp_X5_isBagAt hm hw (fun q => ⟨_, rfl, rfl, Or.inl ⟨rfl, q⟩⟩) (fun i i0 i1 q1 q2 => ⟨_, rfl, rfl, Or.inr ⟨i, i0, i1, q1, q2, rfl⟩⟩) 8 0 (by omega) (by omega) (by omega) (fun j j0 j1 => by omega)
set_option maxHeartbeats 4000000 in
set_option maxRecDepth 100000 in
theorem s_X5_standInstead {g : ab_G} {h : ab_H} {i u v : Int} (hi : 0 ≤ i ∧ i < 6) (hu : 0 ≤ u ∧ u ≤ 1000) (hv : 0 ≤ v ∧ v ≤ 1000) : MethV g 1 m_X5_standInstead [a_R 10, a_I i, a_I u, a_I v] h (fun h' => h' = ab_hs (ab_hs h 16 i (2 * u)) 17 i (2 * (u + v))) := by
  refine Meth.of_go k_X5_standInstead (Nat.le_of_ble_eq_true rfl) ?_
  show Go g _ m_X5_standInstead _ 0 [some (a_R 10), some (a_I i), some (a_I u), some (a_I v)] [] h
  refine go_aload_n rfl rfl ?_
  refine go_getR rfl f_X5_27 rfl rfl ?_ -- standFrom
  refine go_iload_n rfl rfl ?_
  refine go_iconst rfl ?_
  refine go_iload_n rfl rfl ?_
  refine go_imul rfl (by unfold ab_iok; omega) ?_
  refine go_iast rfl rfl (by omega) (by omega) ?_
  refine go_aload_n rfl rfl ?_
  refine go_getR rfl f_X5_30 rfl rfl ?_ -- standTill
  refine go_iload_n rfl rfl ?_
  refine go_iconst rfl ?_
  refine go_iload_n rfl rfl ?_
  refine go_iload_n rfl rfl ?_
  refine go_iadd rfl (by unfold ab_iok; omega) ?_
  refine go_imul rfl (by unfold ab_iok; omega) ?_
  refine go_iast rfl rfl (by omega) (by omega) ?_
  exact go_ret rfl rfl ⟨rfl, rfl⟩
set_option maxHeartbeats 4000000 in
set_option maxRecDepth 100000 in
theorem s_X6_pairShift {g : ab_G} {h : ab_H} {u v : Int} (hu : 0 ≤ u ∧ u ≤ 100) (hv : 0 ≤ v ∧ v ≤ 100) : MethI g 1 m_X6_pairShift [a_I u, a_I v] h (fun z h' => h = h' ∧ z = 6 * u + v) := by
  refine Meth.of_go k_X6_pairShift (Nat.le_of_ble_eq_true rfl) ?_
  show Go g _ m_X6_pairShift _ 0 [some (a_I u), some (a_I v)] [] h
  refine go_bipush rfl ?_
  refine go_iload_n rfl rfl ?_
  refine go_imul rfl (by unfold ab_iok; omega) ?_
  refine go_iload_n rfl rfl ?_
  refine go_iadd rfl (by unfold ab_iok; omega) ?_
  exact go_iret rfl (Or.inl rfl) ⟨_, rfl, rfl, rfl⟩
