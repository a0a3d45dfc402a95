/-! what the reference needs of the class's cells: the road, the laws -/
def InN (h : ab_H) : Prop := iv_T h ∧ iv_R h ∧ iv_U h ∧ True
theorem Inv.n {h : ab_H} (I : Inv h) : InN h := ⟨I.1, I.2.1, I.2.2.1, trivial⟩
theorem InN.mf {h h' : ab_H} (I : InN h) (F : MF h h') : InN h' := ⟨I.1.of (F.1 1 (by decide)) (F.1 2 (by decide)) (F.2 6 (by decide)) (F.1 67 (by decide)), I.2.1.of (fun k k0 k1 => F.1 k (by omega)), I.2.2.1.of (F.1 7 (by decide)) (F.1 8 (by decide)) (F.1 9 (by decide)) (F.1 72 (by decide)) (F.1 73 (by decide)) (F.1 74 (by decide)), trivial⟩
theorem InN.ro {h : ab_H} (I : InN h) : ro_in h := by
  have k := I.2.1.ok
  refine ⟨⟨k.2.1.1, k.2.1.2.1⟩, k.1, fun i i0 i1 => k.2.2.1 i i0 i1, fun i i0 i1 => (I.2.2.1.2 i i0 i1).1⟩
theorem InN.ds {h : ab_H} (I : InN h) : ∀ a b, 0 ≤ a → a < h 1 8 → 0 ≤ b → b < h 1 8 → h 3 a = h 3 b → a = b := I.2.1.ok.2.2.2.1
theorem MR_inN {h : ab_H} (I : InN h) (R : MR h) : mr_in h ∧ (∀ a b, 0 ≤ a → a < h 62 9 → 0 ≤ b → b < h 62 9 → h 68 a = h 68 b → a = b) := by
  have k := I.2.1.ok.2.sim R.2
  rw [← R.1] at k
  have l := I.2.1.ok.1
  rw [← R.1] at l
  exact ⟨⟨⟨k.1.1, k.1.2.1⟩, l, fun i i0 i1 => k.2.1 i i0 i1, fun i i0 i1 => by have := I.2.2.1.2 i i0 i1; rw [this.2.1, this.2.2]; exact this.1⟩, k.2.2.1⟩
theorem n_reads {g : ab_G} {h : ab_H} (I : InN h) : MethI g 4 m_X7_reads [a_R 62] h (fun z h' => z = h 1 6 ∧ RF h h' ∧ MR h' ∧ InN h') := by
  have I1 := I.1
  refine (s_X7_reads (by rw [I1.2.1]; exact I1.1.2)).mono (fun r h' ⟨z, e, P⟩ => ⟨z, e, ?_⟩)
  have rf : RF h h' := ⟨fun k hk => P.2.2.2.1 k (by omega), P.2.2.2.2⟩
  have o := P.ok
  rw [I1.2.1] at o
  have s := (o.congr (tx' := h 2) (fun i i0 i1 => (I1.2.2 i i0 i1).symm)).same I.2.1
  refine ⟨s.1, rf, ⟨?_, ?_⟩, I.mf rf.mf⟩
  · rw [rf.1 1 (by decide)]; exact s.2.1
  · have e2 : rd_ps h' = rd_ps h := by unfold rd_ps; rw [rf.1 1 (by decide), rf.1 3 (by decide), rf.1 4 (by decide), rf.1 5 (by decide), rf.1 6 (by decide)]
    rw [e2]; exact s.2.2
theorem n_par {h : ab_H} (I : InN h) (R : MR h) (w : Int) : wk_eq (h 1 8) (md_S (ab_hs h 62 18 w)) (cr_S h) ∧ (∀ j, 0 ≤ j → j < h 1 8 → md_a (ab_hs h 62 18 w) j = cr_a h j ∧ md_b (ab_hs h 62 18 w) j = cr_b h j ∧ md_c (ab_hs h 62 18 w) j = cr_c h j) := by
  have r := I.ro
  obtain ⟨R1, R2, R3, R4, R5⟩ := R
  constructor
  · intro j j0 j1
    obtain ⟨a, b, c⟩ := R4 j j0 (by rw [R2]; exact j1)
    have a : h 68 j = h 3 j := a
    have b : h 69 j = h 4 j := b
    refine ⟨?_, ?_, rfl⟩
    · show 2 * ab_hs h 62 18 w 68 j = 2 * h 3 j
      rw [ab_hs_f (by decide), a]
    · show ab_hs h 62 18 w 69 j = h 4 j
      rw [ab_hs_f (by decide), b]
  · intro j j0 j1
    obtain ⟨a, b, c⟩ := R4 j j0 (by rw [R2]; exact j1)
    have c : h 70 j = h 5 j := c
    have u := I.2.2.1.2 j j0 (by have := r.1; omega)
    unfold md_a md_b md_c cr_a cr_b cr_c
    rw [ab_hs_f (by decide), ab_hs_f (by decide), ab_hs_f (by decide), c, u.2.1, u.2.2]
    exact ⟨rfl, rfl, rfl⟩
theorem n_mt {h h' : ab_H} {w : Int} (I : InN h) (R : MR h) (hw : 0 ≤ w ∧ w < 64) (P : ru_Post h w h') : MF h h' ∧ MR h' ∧ mtw (h 1 8) w (tW h w) h' ∧ mtm (h 1 8) (tM h w) h' := by
  obtain ⟨p1, p2⟩ := n_par I R w
  have ro := I.ro
  obtain ⟨P1, P2⟩ := P
  have e62 : ∀ b, b ≠ 18 → h' 62 b = h 62 b := fun b hb => by rw [P2 62 (by decide), ab_hs_i hb]
  have ek : ∀ k, ¬ (k = 62 ∨ (75 ≤ k ∧ k ≤ 79)) → h' k = h k := fun k hk => by rw [P2 k (by omega), ab_hs_f (by omega)]
  have m9 : ab_hs h 62 18 w 62 9 = h 1 8 := by rw [ab_hs_i (by decide)]; exact R.2.1
  have m8 : ab_hs h 62 18 w 62 8 = h 1 7 := by rw [ab_hs_i (by decide)]; exact R.1
  have m18 : ab_hs h 62 18 w 62 18 = w := ab_hs_eq
  have l0 : ab_hs h 62 18 w 72 0 = h 7 2 := by rw [ab_hs_f (by decide)]; exact I.2.2.1.1.2.2.1
  have l1 : ab_hs h 62 18 w 72 1 = h 7 3 := by rw [ab_hs_f (by decide)]; exact I.2.2.1.1.2.2.2
  refine ⟨⟨fun k hk => ek k (by omega), fun b hb => e62 b (by omega)⟩, ⟨?_, ?_⟩, ⟨⟨?_, ?_, ro.1, hw⟩, fun t i t0 t1 i0 i1 iw => ?_⟩, fun t a b t0 t1 a0 a1 b0 b1 => ?_⟩
  · rw [e62 8 (by decide), ek 1 (by decide)]; exact R.1
  · have d1 : md_ps h' = md_ps h := by unfold md_ps; rw [e62 9 (by decide), e62 13 (by decide), ek 68 (by decide), ek 69 (by decide), ek 70 (by decide), ek 71 (by decide)]
    have d2 : rd_ps h' = rd_ps h := by unfold rd_ps; rw [ek 1 (by decide), ek 3 (by decide), ek 4 (by decide), ek 5 (by decide), ek 6 (by decide)]
    rw [d1, d2]; exact R.2
  · rw [e62 9 (by decide)]; exact R.2.1
  · rw [P2 62 (by decide), ab_hs_eq]
  · obtain ⟨q1, -, -⟩ := P1 t.toNat (by omega)
    rw [m9, m8, m18, l0, l1] at q1
    have q2 := wk_at_congr (E := 2 * h 1 7) (l0 := h 7 2) (l1 := h 7 3) (w := w) ro.1.2 p1 p2 t.toNat i i0 i1
    have q3 := q1 i i0 i1 iw
    have et : ((t.toNat : Nat) : Int) = t := Int.toNat_of_nonneg t0
    rw [et] at q3
    exact ⟨q3.1.trans q2.1, q3.2.1.trans q2.2.1, q3.2.2.trans q2.2.2⟩
  · obtain ⟨-, -, q1⟩ := P1 t.toNat (by omega)
    rw [m9, m8, m18, l0, l1] at q1
    have et : ((t.toNat : Nat) : Int) = t := Int.toNat_of_nonneg t0
    rw [et] at q1
    rw [q1 a b a0 a1 b0 b1]
    exact rd_iff (wk_mt_congr ro.1.2 p1 p2 t.toNat ⟨a0, a1⟩ b)
theorem n_runs {g : ab_G} {h : ab_H} {w : Int} (I : InN h) (R : MR h) (hw : 0 ≤ w ∧ w < 64) : MethV g 4 m_X7_runs [a_R 62, a_I w] h (fun h' => MF h h' ∧ MR h' ∧ mtw (h 1 8) w (tW h w) h' ∧ mtm (h 1 8) (tM h w) h' ∧ InN h') := by
  obtain ⟨r1, r2⟩ := MR_inN I R
  refine (s_X7_runs r1 hw r2).mono (fun r h' ⟨e, P⟩ => ⟨e, ?_⟩)
  obtain ⟨a, b, c, d⟩ := n_mt I R hw P
  exact ⟨a, b, c, d, I.mf a⟩
set_option maxHeartbeats 4000000 in
set_option maxRecDepth 100000 in
theorem n_find {g : ab_G} {h : ab_H} (I : InN h) : MethV g 5 m_X7_find [a_R 62] h (fun h' => MF h h' ∧ MT h h' ∧ InN h') := by
  refine Meth.of_go k_X7_find (Nat.le_of_ble_eq_true rfl) ?_
  show Go g _ m_X7_find _ 0 [some (a_R 62)] [] h
  refine go_aload_n rfl rfl ?_
  refine go_cV0I (M' := m_X7_reads) rfl l_X7_140 k_X7_reads (n_reads I) rfl rfl rfl rfl (by decide) (Nat.le_of_ble_eq_true rfl) (fun z1 h1 q1 => ?_) -- X7_reads
  obtain ⟨-, F1, R1, I1⟩ := q1
  refine go_pop rfl ?_
  refine go_aload_n rfl rfl ?_
  refine go_bipush rfl ?_
  refine go_cV1V (M' := m_X7_runs) rfl l_X7_190 k_X7_runs (n_runs I1 R1 (w := 63) (by decide)) rfl rfl rfl rfl (by decide) (Nat.le_of_ble_eq_true rfl) (fun h8 q8 => ?_) -- X7_runs
  obtain ⟨F2, R2, T1, T2, I2⟩ := q8
  rw [F1.1 1 (by decide), tW_same F1.mf.k9] at T1
  rw [F1.1 1 (by decide), tM_same F1.mf.k9] at T2
  exact go_ret rfl rfl ⟨rfl, ⟨F1.mf.trans F2, ⟨T1, T2, R2⟩, I2⟩⟩
set_option maxHeartbeats 4000000 in
set_option maxRecDepth 100000 in
theorem n_isMan {g : ab_G} {h : ab_H} {v : Int} (I : InN h) : MethI g 5 m_X7_isMan [a_R 62, a_I v] h (fun z h' => z = rd_bool (0 ≤ v ∧ v < h 1 8) ∧ RF h h' ∧ MR h' ∧ InN h') := by
  refine Meth.of_go k_X7_isMan (Nat.le_of_ble_eq_true rfl) ?_
  show Go g _ m_X7_isMan _ 0 [some (a_R 62), some (a_I v)] [] h
  refine go_aload_n rfl rfl ?_
  refine go_cV0I (M' := m_X7_reads) rfl l_X7_140 k_X7_reads (n_reads I) rfl rfl rfl rfl (by decide) (Nat.le_of_ble_eq_true rfl) (fun z1 h1 q1 => ?_) -- X7_reads
  obtain ⟨-, F1, R1, I1⟩ := q1
  have e9 : h1 62 9 = h 1 8 := by have z := R1.2.1; rw [show (rd_ps h1).1 = h1 1 8 from rfl, F1.1 1 (by decide)] at z; exact z
  have r1 := I.ro.1
  refine go_pop rfl ?_
  refine go_iload_n rfl rfl ?_
  refine go_i2l rfl ?_
  refine go_lconst rfl ?_
  refine go_aload_n rfl rfl ?_
  refine go_getI rfl f_X7_110 rfl rfl rfl ?_ -- men
  refine go_iconst rfl ?_
  refine go_isub rfl (by unfold ab_iok; omega) ?_
  refine go_i2l rfl ?_
  refine go_cS3I (M' := m_X7_in) rfl l_X7_68 k_X7_in (s_X7_in) rfl (by decide) (Nat.le_of_ble_eq_true rfl) (fun z15 h15 q15 => ?_) -- X7_in
  obtain ⟨rfl, rfl⟩ := q15
  exact go_iret rfl (Or.inr ⟨rfl, rd_01 _⟩) ⟨_, rfl, by rw [e9]; exact rd_iff (by omega), F1, R1, I1⟩
