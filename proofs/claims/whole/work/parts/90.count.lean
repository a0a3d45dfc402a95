/-! count -/
def co_F (h : ab_H) (w : Int) : Int := if w = 0 then h 1 7 else if w = 1 then h 1 8 else if w = 2 then h 1 9 else if w = 3 then h 1 5 else if w = 4 then h 24 5 else if w = 5 then h 7 2 else if w = 6 then h 7 3 else if w = 7 then sm (h 9) (h 1 8).toNat else if w = 8 then h 0 7 else -2
theorem co_out {h : ab_H} {w : Int} (hw : ¬ (0 ≤ w ∧ w ≤ 8)) : -2 = co_F h w := by
  unfold co_F
  rw [if_neg (by omega), if_neg (by omega), if_neg (by omega), if_neg (by omega), if_neg (by omega), if_neg (by omega), if_neg (by omega), if_neg (by omega), if_neg (by omega)]
set_option maxHeartbeats 4000000 in
set_option maxRecDepth 100000 in
theorem c_count {g : ab_G} {h : ab_H} {w : Int} (I : Inv h) : MethI g 6 m_X6_count [a_R 0, a_I w] h (fun z h' => z = co_F h w ∧ CF h h' ∧ Inv h') := by
  have r1 := I.ro.1
  refine Meth.of_go k_X6_count (Nat.le_of_ble_eq_true rfl) ?_
  show Go g _ m_X6_count _ 0 [some (a_R 0), some (a_I w)] [] h
  refine go_iload_n rfl rfl ?_
  by_cases hw : 0 ≤ w ∧ w ≤ 8
  · have hw2 : w = 0 ∨ w = 1 ∨ w = 2 ∨ w = 3 ∨ w = 4 ∨ w = 5 ∨ w = 6 ∨ w = 7 ∨ w = 8 := by omega
    rcases hw2 with rfl | rfl | rfl | rfl | rfl | rfl | rfl | rfl | rfl
    · refine go_tableIn (off := 51) (tgt := 52) rfl (by decide) (by decide) rfl (by decide) ?_
      refine go_aload_n rfl rfl ?_
      refine go_getR rfl f_X6_10 rfl rfl ?_ -- road
      refine go_getI rfl f_X6_262 rfl rfl rfl ?_ -- length
      exact go_iret rfl (Or.inl rfl) ⟨_, rfl, rfl, CF.refl h, I⟩
    · refine go_tableIn (off := 59) (tgt := 60) rfl (by decide) (by decide) rfl (by decide) ?_
      refine go_aload_n rfl rfl ?_
      refine go_getR rfl f_X6_10 rfl rfl ?_ -- road
      refine go_getI rfl f_X6_176 rfl rfl rfl ?_ -- men
      exact go_iret rfl (Or.inl rfl) ⟨_, rfl, rfl, CF.refl h, I⟩
    · refine go_tableIn (off := 67) (tgt := 68) rfl (by decide) (by decide) rfl (by decide) ?_
      refine go_aload_n rfl rfl ?_
      refine go_getR rfl f_X6_10 rfl rfl ?_ -- road
      refine go_getI rfl f_X6_86 rfl rfl rfl ?_ -- houses
      exact go_iret rfl (Or.inl rfl) ⟨_, rfl, rfl, CF.refl h, I⟩
    · refine go_tableIn (off := 75) (tgt := 76) rfl (by decide) (by decide) rfl (by decide) ?_
      refine go_aload_n rfl rfl ?_
      refine go_getR rfl f_X6_10 rfl rfl ?_ -- road
      refine go_getI rfl f_X6_59 rfl rfl rfl ?_ -- bytes
      exact go_iret rfl (Or.inl rfl) ⟨_, rfl, rfl, CF.refl h, I⟩
    · refine go_tableIn (off := 83) (tgt := 84) rfl (by decide) (by decide) rfl (by decide) ?_
      refine go_aload_n rfl rfl ?_
      refine go_getR rfl f_X6_40 rfl rfl ?_ -- letters
      refine go_getI rfl f_X6_188 rfl rfl rfl ?_ -- size
      exact go_iret rfl (Or.inl rfl) ⟨_, rfl, rfl, CF.refl h, I⟩
    · refine go_tableIn (off := 91) (tgt := 92) rfl (by decide) (by decide) rfl (by decide) ?_
      refine go_aload_n rfl rfl ?_
      refine go_getR rfl f_X6_19 rfl rfl ?_ -- use
      refine go_getI rfl f_X6_92 rfl rfl rfl ?_ -- lawOfTwo
      exact go_iret rfl (Or.inl rfl) ⟨_, rfl, rfl, CF.refl h, I⟩
    · refine go_tableIn (off := 99) (tgt := 100) rfl (by decide) (by decide) rfl (by decide) ?_
      refine go_aload_n rfl rfl ?_
      refine go_getR rfl f_X6_19 rfl rfl ?_ -- use
      refine go_getI rfl f_X6_95 rfl rfl rfl ?_ -- lawOfMore
      exact go_iret rfl (Or.inl rfl) ⟨_, rfl, rfl, CF.refl h, I⟩
    · refine go_tableIn (off := 107) (tgt := 108) rfl (by decide) (by decide) rfl (by decide) ?_
      refine go_aload_n rfl rfl ?_
      refine go_getR rfl f_X6_19 rfl rfl ?_ -- use
      refine go_aload_n rfl rfl ?_
      refine go_getR rfl f_X6_10 rfl rfl ?_ -- road
      refine go_getI rfl f_X6_176 rfl rfl rfl ?_ -- men
      refine go_cV1I (M' := m_X4_minutesStood) rfl l_X6_265 k_X4_minutesStood (s_X4_minutesStood r1 (fun i i0 i1 => (I.2.2.1.2 i i0 i1).1.2)) rfl rfl rfl rfl (by decide) (Nat.le_of_ble_eq_true rfl) (fun z119 h119 q119 => ?_) -- X4_minutesStood
      obtain ⟨rfl, rfl⟩ := q119
      exact go_iret rfl (Or.inl rfl) ⟨_, rfl, rfl, CF.refl h, I⟩
    · refine go_tableIn (off := 122) (tgt := 123) rfl (by decide) (by decide) rfl (by decide) ?_
      refine go_aload_n rfl rfl ?_
      refine go_getI rfl f_X6_55 rfl rfl rfl ?_ -- finding
      exact go_iret rfl (Or.inl rfl) ⟨_, rfl, rfl, CF.refl h, I⟩
  · refine go_tableOut (tgt := 128) rfl (by omega) (by decide) ?_
    refine go_bipush rfl ?_
    exact go_iret rfl (Or.inl rfl) ⟨_, rfl, co_out hw, CF.refl h, I⟩
set_option maxHeartbeats 4000000 in
set_option maxRecDepth 100000 in
theorem lp_X7_count {g : ab_G} {h : ab_H} {m w : Int} {Q : Option ab_V → ab_H → Prop} (hm : h 62 9 = m) (hm6 : 0 ≤ m ∧ m ≤ 6) (hs : ∀ i, 0 ≤ i → i < 6 → 0 ≤ h 74 i ∧ h 74 i ≤ 99) (hq : ∀ z, z = sm (h 74) m.toNat → Q (some (a_I z)) h) : ∀ (f : Nat) (i s : Int), 0 ≤ i → i ≤ m → m - i < f → s = sm (h 74) i.toNat → Go g (ab_rm 6, 0, 0) m_X7_count Q 101 [some (a_R 62), some (a_I w), some (a_I s), some (a_I i)] [] h := by
  intro f
  induction f with
  | zero => intro i s h0i h1 hf; omega
  | succ f ih =>
    intro i s h0i h1 hf J
    refine go_iload_n rfl rfl ?_
    refine go_aload_n rfl rfl ?_
    refine go_getI rfl f_X7_110 rfl rfl rfl ?_ -- men
    refine go_icmp_ge rfl (tgt := 124) (by decide) (fun c106 => ?_) (fun c106 => ?_)
    · refine go_iload_n rfl rfl ?_
      exact go_iret rfl (Or.inl rfl) (hq _ (by rw [show i = m by omega] at J; exact J))
    · refine go_iload_n rfl rfl ?_
      refine go_aload_n rfl rfl ?_
      refine go_getR rfl f_X7_43 rfl rfl ?_ -- standMany
      refine go_iload_n rfl rfl ?_
      refine go_iald rfl rfl (by omega) (by omega) ?_
      have b1 := sm_in (f := h 74) (c := 99) i.toNat (fun j j0 j1 => hs j j0 (by omega))
      rw [← J] at b1
      have b2 := hs i h0i (by omega)
      refine go_iadd rfl (by unfold ab_iok; omega) ?_
      refine go_istore_n rfl (by decide) rfl ?_
      refine go_iinc rfl rfl (by decide) rfl (by unfold ab_iok; omega) ?_
      refine go_goto rfl (tgt := 101) (by decide) ?_
      exact ih (i + 1) _ (by omega) (by omega) (by omega) (by rw [sm_nx h0i, ← J])
set_option maxHeartbeats 4000000 in
set_option maxRecDepth 100000 in
theorem j_count {g : ab_G} {h : ab_H} {w : Int} (I : Inv h) : MethI g 6 m_X7_count [a_R 62, a_I w] h (fun z h' => z = co_F h w ∧ MF h h' ∧ Inv h') := by
  have r1 := I.ro.1
  refine Meth.of_go k_X7_count (Nat.le_of_ble_eq_true rfl) ?_
  show Go g _ m_X7_count _ 0 [some (a_R 62), some (a_I w), none, none] [] h
  refine go_iconst rfl ?_
  refine go_istore_n rfl (by decide) rfl ?_
  refine go_aload_n rfl rfl ?_
  refine go_cV0I (M' := m_X7_reads) rfl l_X7_140 k_X7_reads (j_reads I) rfl rfl rfl rfl (by decide) (Nat.le_of_ble_eq_true rfl) (fun z3 h3 q3 => ?_) -- X7_reads
  obtain ⟨-, F1, R1, I1⟩ := q3
  refine go_pop rfl ?_
  refine go_iload_n rfl rfl ?_
  by_cases hw : 0 ≤ w ∧ w ≤ 8
  · have hw2 : w = 0 ∨ w = 1 ∨ w = 2 ∨ w = 3 ∨ w = 4 ∨ w = 5 ∨ w = 6 ∨ w = 7 ∨ w = 8 := by omega
    rcases hw2 with rfl | rfl | rfl | rfl | rfl | rfl | rfl | rfl | rfl
    · refine go_tableIn (off := 52) (tgt := 60) rfl (by decide) (by decide) rfl (by decide) ?_
      refine go_aload_n rfl rfl ?_
      refine go_getI rfl f_X7_107 rfl rfl rfl ?_ -- length
      exact go_iret rfl (Or.inl rfl) ⟨_, rfl, by rw [R1.1, F1.1 1 (by decide)]; rfl, F1.mf, I1⟩
    · refine go_tableIn (off := 57) (tgt := 65) rfl (by decide) (by decide) rfl (by decide) ?_
      refine go_aload_n rfl rfl ?_
      refine go_getI rfl f_X7_110 rfl rfl rfl ?_ -- men
      exact go_iret rfl (Or.inl rfl) ⟨_, rfl, by have y : h3 62 9 = h3 1 8 := R1.2.1; rw [y, F1.1 1 (by decide)]; rfl, F1.mf, I1⟩
    · refine go_tableIn (off := 62) (tgt := 70) rfl (by decide) (by decide) rfl (by decide) ?_
      refine go_aload_n rfl rfl ?_
      refine go_getI rfl f_X7_113 rfl rfl rfl ?_ -- houses
      exact go_iret rfl (Or.inl rfl) ⟨_, rfl, by have y : h3 62 13 = h3 1 9 := R1.2.2.1; rw [y, F1.1 1 (by decide)]; rfl, F1.mf, I1⟩
    · refine go_tableIn (off := 67) (tgt := 75) rfl (by decide) (by decide) rfl (by decide) ?_
      refine go_aload_n rfl rfl ?_
      refine go_getI rfl f_X7_101 rfl rfl rfl ?_ -- typed
      exact go_iret rfl (Or.inl rfl) ⟨_, rfl, by rw [F1.2 6 (by decide)]; exact I.1.2.1, F1.mf, I1⟩
    · refine go_tableIn (off := 72) (tgt := 80) rfl (by decide) (by decide) rfl (by decide) ?_
      refine go_aload_n rfl rfl ?_
      refine go_getI rfl f_X7_271 rfl rfl rfl ?_ -- letters
      exact go_iret rfl (Or.inl rfl) ⟨_, rfl, by rw [F1.2 27 (by decide)]; exact I.2.2.2.1.2.1, F1.mf, I1⟩
    · refine go_tableIn (off := 77) (tgt := 85) rfl (by decide) (by decide) rfl (by decide) ?_
      refine go_aload_n rfl rfl ?_
      refine go_getR rfl f_X7_37 rfl rfl ?_ -- laws
      refine go_iconst rfl ?_
      refine go_iald rfl rfl (by omega) (by omega) ?_
      exact go_iret rfl (Or.inl rfl) ⟨_, rfl, by rw [F1.1 72 (by decide)]; exact I.2.2.1.1.2.2.1, F1.mf, I1⟩
    · refine go_tableIn (off := 84) (tgt := 92) rfl (by decide) (by decide) rfl (by decide) ?_
      refine go_aload_n rfl rfl ?_
      refine go_getR rfl f_X7_37 rfl rfl ?_ -- laws
      refine go_iconst rfl ?_
      refine go_iald rfl rfl (by omega) (by omega) ?_
      exact go_iret rfl (Or.inl rfl) ⟨_, rfl, by rw [F1.1 72 (by decide)]; exact I.2.2.1.1.2.2.2, F1.mf, I1⟩
    · refine go_tableIn (off := 91) (tgt := 99) rfl (by decide) (by decide) rfl (by decide) ?_
      refine go_iconst rfl ?_
      refine go_istore_n rfl (by decide) rfl ?_
      have e9 : h3 62 9 = h 1 8 := by have y : h3 62 9 = h3 1 8 := R1.2.1; rw [y, F1.1 1 (by decide)]
      have e74 : h3 74 = h 74 := F1.1 74 (by decide)
      have U := I.2.2.1.2
      exact lp_X7_count e9 r1 (fun i i0 i1 => by rw [e74, (U i i0 i1).2.2]; exact (U i i0 i1).1.2) (fun z e => ⟨_, rfl, by rw [e, e74]; exact sm_congr _ (fun k k0 k1 => (U k k0 (by omega)).2.2), F1.mf, I1⟩) 8 0 0 (by omega) (by omega) (by omega) rfl
    · refine go_tableIn (off := 118) (tgt := 126) rfl (by decide) (by decide) rfl (by decide) ?_
      refine go_aload_n rfl rfl ?_
      refine go_getI rfl f_X7_74 rfl rfl rfl ?_ -- latest
      exact go_iret rfl (Or.inl rfl) ⟨_, rfl, by rw [F1.2 4 (by decide)]; exact I.2.2.2.2.2.1, F1.mf, I1⟩
  · refine go_tableOut (tgt := 131) rfl (by omega) (by decide) ?_
    refine go_bipush rfl ?_
    exact go_iret rfl (Or.inl rfl) ⟨_, rfl, co_out hw, F1.mf, I1⟩
theorem co_same {h h' : ab_H} (e : ∀ k, (1 ≤ k ∧ k ≤ 9) → h' k = h k) (e0 : h' 0 7 = h 0 7) (e5 : h' 24 5 = h 24 5) (w : Int) : co_F h' w = co_F h w := by
  unfold co_F
  rw [e 1 (by omega), e 7 (by omega), e 9 (by omega), e0, e5]
theorem op_count {g : ab_G} {h : ab_H} {w : Int} (I : Inv h) : opI g 6 6 m_X6_count m_X7_count [a_I w] h := op_q (F := fun h => co_F h w) I (c_count I) (fun h I => j_count I) (fun h' F => co_same F.k9 (F.2.1 7 (by decide)) (F.2.2 5 (by decide)) w)
