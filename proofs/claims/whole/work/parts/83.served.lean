/-! served: the reference; both -/
theorem sv_same {h h' : ab_H} (e : ∀ k, (1 ≤ k ∧ k ≤ 9) → h' k = h k) (w n g : Int) : sv h' w n g = sv h w n g := by
  unfold sv
  rw [tW_same e, e 1 (by omega), e 6 (by omega)]
theorem WF.k9 {h h' : ab_H} (F : WF h h') : ∀ k, (1 ≤ k ∧ k ≤ 9) → h' k = h k := fun k hk => F k (by omega)
theorem WF.cf {h h' : ab_H} (F : WF h h') : CF h h' := ⟨fun k hk => F k (by omega), fun b hb => by rw [F 0 (by decide)], fun b hb => by rw [F 24 (by decide)]⟩
theorem WF.trans {h h' h'' : ab_H} (a : WF h h') (b : WF h' h'') : WF h h'' := fun k hk => (b k hk).trans (a k hk)
theorem Inv.wf {h h' : ab_H} (I : Inv h) (F : WF h h') : Inv h' := I.cf F.cf (iv_C.of I (by rw [F 0 (by decide)]) (fun k hk => F k (by omega)))
def is_A (m w : Int) (W : tb_W) (p lo t mm : Int) : Prop := (∃ s, lo ≤ s ∧ s < t ∧ vi m w W p s) ∨ ∃ i, 0 ≤ i ∧ i < mm ∧ wk_tb w i = true ∧ (W t).1 i = 2 * p
theorem is_t {m w : Int} {W : tb_W} {p lo t mm z : Int} (h : 0 ≤ mm) (e : z = rd_bool (is_A m w W p lo t mm)) (k : ¬ z = 0 ∨ (wk_tb w mm = true ∧ (W t).1 mm = 2 * p)) : 1 = rd_bool (is_A m w W p lo t (mm + 1)) := by
  refine (rd_t ?_).symm
  rcases k with k | ⟨k1, k2⟩
  · rw [e] at k
    rcases rd_n1 k with a | ⟨i, i0, i1, i2, i3⟩
    · exact Or.inl a
    · exact Or.inr ⟨i, i0, by omega, i2, i3⟩
  · exact Or.inr ⟨mm, h, by omega, k1, k2⟩
theorem is_f {m w : Int} {W : tb_W} {p lo t mm z : Int} (e : z = rd_bool (is_A m w W p lo t mm)) (hz : z = 0) (k : ¬ (wk_tb w mm = true ∧ (W t).1 mm = 2 * p)) : 0 = rd_bool (is_A m w W p lo t (mm + 1)) := by
  refine (rd_f ?_).symm
  rw [e] at hz
  have y := rd_n0 hz
  rintro (a | ⟨i, i0, i1, i2, i3⟩)
  · exact y (Or.inl a)
  · by_cases q : i = mm
    · subst q; exact k ⟨i2, i3⟩
    · exact y (Or.inr ⟨i, i0, by omega, i2, i3⟩)
theorem is_end {m w : Int} {W : tb_W} {p lo t : Int} (h : lo ≤ t) : is_A m w W p lo t m ↔ ∃ s, lo ≤ s ∧ s < t + 1 ∧ vi m w W p s := by
  constructor
  · rintro (⟨s, a, b, c⟩ | ⟨i, i0, i1, i2, i3⟩)
    · exact ⟨s, a, by omega, c⟩
    · exact ⟨t, h, by omega, i, i0, i1, i2, i3⟩
  · rintro ⟨s, a, b, c⟩
    by_cases q : s = t
    · subst q; obtain ⟨i, i0, i1, i2, i3⟩ := c; exact Or.inr ⟨i, i0, i1, i2, i3⟩
    · exact Or.inl ⟨s, a, by omega, c⟩
theorem is_beg {m w : Int} {W : tb_W} {p lo t : Int} : is_A m w W p lo t 0 ↔ ∃ s, lo ≤ s ∧ s < t ∧ vi m w W p s := ⟨fun z => by rcases z with a | ⟨i, i0, i1, -⟩; exact a; omega, Or.inl⟩
set_option maxHeartbeats 4000000 in
set_option maxRecDepth 100000 in
theorem lp_X7_isS1 {g : ab_G} {h : ab_H} {W : tb_W} {m w n gg row j t : Int} {Q : Option ab_V → ab_H → Prop} (T : mtw m w W h) (R13 : 0 ≤ h 62 13 ∧ h 62 13 ≤ 6) (R71 : ∀ j, 0 ≤ j → j < h 62 13 → 0 ≤ h 71 j ∧ h 71 j ≤ 40) (hj : 0 ≤ j ∧ j < h 62 13) (h0r : 0 ≤ row) (ht : row ≤ t ∧ t < 400) (K : ∀ z, z = rd_bool (∃ s, row ≤ s ∧ s < t + 1 ∧ vi m w W (h 71 j) s) → ∀ v, Go g (ab_rm 2, 0, 0) m_X7_isServed Q 105 [some (a_R 62), some (a_I n), some (a_I gg), some (a_I row), some (a_I j), some (a_I z), some (a_I t), v] [] h) : ∀ (f : Nat) (mm z : Int), 0 ≤ mm → mm ≤ m → m - mm < f → z = rd_bool (is_A m w W (h 71 j) row t mm) → Go g (ab_rm 2, 0, 0) m_X7_isServed Q 44 [some (a_R 62), some (a_I n), some (a_I gg), some (a_I row), some (a_I j), some (a_I z), some (a_I t), some (a_I mm)] [] h := by
  obtain ⟨⟨e9, e18, hm, hw⟩, -⟩ := id T
  have hp := R71 j hj.1 hj.2
  intro f
  induction f with
  | zero => intro mm z h0 h1 hf; omega
  | succ f ih =>
    intro mm z h0 h1 hf J
    refine go_iload rfl rfl ?_
    refine go_aload_n rfl rfl ?_
    refine go_getI rfl f_X7_110 rfl rfl rfl ?_ -- men
    refine go_icmp_ge rfl (tgt := 105) (by decide) (fun c50 => ?_) (fun c50 => ?_)
    · exact K z (by rw [show mm = m by omega] at J; rw [J]; exact rd_iff (is_end ht.1)) _
    · refine go_iload rfl rfl ?_
      refine go_if_ne rfl (tgt := 92) (by decide) (fun c55 => ?_) (fun c55 => ?_)
      · refine go_iconst rfl ?_
        refine go_goto rfl (tgt := 97) (by decide) ?_
        refine go_istore rfl (by decide) rfl ?_
        refine go_iinc rfl rfl (by decide) rfl (by unfold ab_iok; omega) ?_
        refine go_goto rfl (tgt := 44) (by decide) ?_
        exact ih (mm + 1) _ (by omega) (by omega) (by omega) (is_t h0 J (Or.inl c55))
      · refine go_aload_n rfl rfl ?_
        refine go_iload rfl rfl ?_
        refine go_cV1I (M' := m_X7_isThere) rfl l_X7_163 k_X7_isThere (s_X7_isThere (by omega) (by rw [e18]; exact hw)) rfl rfl rfl rfl (by decide) (Nat.le_of_ble_eq_true rfl) (fun z61 h61 q61 => ?_) -- X7_isThere
        obtain ⟨rfl, rfl⟩ := q61
        refine go_if_eq rfl (tgt := 96) (by decide) (fun c64 => ?_) (fun c64 => ?_)
        · refine go_iconst rfl ?_
          refine go_istore rfl (by decide) rfl ?_
          refine go_iinc rfl rfl (by decide) rfl (by unfold ab_iok; omega) ?_
          refine go_goto rfl (tgt := 44) (by decide) ?_
          exact ih (mm + 1) _ (by omega) (by omega) (by omega) (is_f J c55 (fun z => rd_n0 c64 (by rw [e18]; exact z.1)))
        · rw [e18] at c64
          refine go_aload_n rfl rfl ?_
          refine go_getR rfl f_X7_46 rfl rfl ?_ -- places
          refine go_bipush rfl ?_
          refine go_iload rfl rfl ?_
          refine go_imul rfl (by unfold ab_iok; omega) ?_
          refine go_iload rfl rfl ?_
          refine go_iadd rfl (by unfold ab_iok; omega) ?_
          refine go_iald rfl rfl (by omega) (by omega) ?_
          rw [(T.2 t mm (by omega) (by omega) h0 (by omega) (rd_n1 c64)).1]
          refine go_iconst rfl ?_
          refine go_aload_n rfl rfl ?_
          refine go_getR rfl f_X7_34 rfl rfl ?_ -- housePace
          refine go_iload rfl rfl ?_
          refine go_iald rfl rfl (by omega) (by omega) ?_
          refine go_imul rfl (by unfold ab_iok; omega) ?_
          have hp := R71 j hj.1 hj.2
          refine go_icmp_ne rfl (tgt := 96) (by decide) (fun c89 => ?_) (fun c89 => ?_)
          · refine go_iconst rfl ?_
            refine go_istore rfl (by decide) rfl ?_
            refine go_iinc rfl rfl (by decide) rfl (by unfold ab_iok; omega) ?_
            refine go_goto rfl (tgt := 44) (by decide) ?_
            exact ih (mm + 1) _ (by omega) (by omega) (by omega) (is_f J c55 (fun z => c89 z.2))
          · refine go_iconst rfl ?_
            refine go_goto rfl (tgt := 97) (by decide) ?_
            refine go_istore rfl (by decide) rfl ?_
            refine go_iinc rfl rfl (by decide) rfl (by unfold ab_iok; omega) ?_
            refine go_goto rfl (tgt := 44) (by decide) ?_
            exact ih (mm + 1) _ (by omega) (by omega) (by omega) (is_t h0 J (Or.inr ⟨rd_n1 c64, c89⟩))
set_option maxHeartbeats 4000000 in
set_option maxRecDepth 100000 in
theorem lp_X7_isS2 {g : ab_G} {h : ab_H} {W : tb_W} {m w n gg row j : Int} {Q : Option ab_V → ab_H → Prop} (T : mtw m w W h) (R13 : 0 ≤ h 62 13 ∧ h 62 13 ≤ 6) (R71 : ∀ j, 0 ≤ j → j < h 62 13 → 0 ≤ h 71 j ∧ h 71 j ≤ 40) (hj : 0 ≤ j ∧ j < h 62 13) (h0r : 0 ≤ row) (hg : 1 ≤ gg ∧ gg ≤ 99) (hr : row + 2 * gg ≤ 400) (K : ∀ z, z = rd_bool (∃ s, row ≤ s ∧ s < row + 2 * gg ∧ vi m w W (h 71 j) s) → ∀ v v', Go g (ab_rm 2, 0, 0) m_X7_isServed Q 111 [some (a_R 62), some (a_I n), some (a_I gg), some (a_I row), some (a_I j), some (a_I z), v, v'] [] h) : ∀ (f : Nat) (t z : Int), row ≤ t → t ≤ row + 2 * gg → row + 2 * gg - t < f → z = rd_bool (∃ s, row ≤ s ∧ s < t ∧ vi m w W (h 71 j) s) → ∀ v, Go g (ab_rm 2, 0, 0) m_X7_isServed Q 31 [some (a_R 62), some (a_I n), some (a_I gg), some (a_I row), some (a_I j), some (a_I z), some (a_I t), v] [] h := by
  intro f
  induction f with
  | zero => intro t z h0 h1 hf; omega
  | succ f ih =>
    intro t z h0 h1 hf J v
    refine go_iload rfl rfl ?_
    refine go_iload_n rfl rfl ?_
    refine go_iconst rfl ?_
    refine go_iload_n rfl rfl ?_
    refine go_imul rfl (by unfold ab_iok; omega) ?_
    refine go_iadd rfl (by unfold ab_iok; omega) ?_
    refine go_icmp_ge rfl (tgt := 111) (by decide) (fun c38 => ?_) (fun c38 => ?_)
    · exact K z (by rw [show t = row + 2 * gg by omega] at J; exact J) _ _
    · refine go_iconst rfl ?_
      refine go_istore rfl (by decide) rfl ?_
      refine lp_X7_isS1 T R13 R71 hj h0r (t := t) (by omega) (fun z2 e2 v2 => ?_) 8 0 z (by omega) T.1.2.2.1.1 (by have := T.1.2.2.1; omega) (by rw [J]; exact (rd_iff is_beg).symm)
      refine go_iinc rfl rfl (by decide) rfl (by unfold ab_iok; omega) ?_
      refine go_goto rfl (tgt := 31) (by decide) ?_
      exact ih (t + 1) z2 (by omega) (by omega) (by omega) e2 _
set_option maxHeartbeats 4000000 in
set_option maxRecDepth 100000 in
theorem lp_X7_isS3 {g : ab_G} {h : ab_H} {W : tb_W} {m w n gg row : Int} {Q : Option ab_V → ab_H → Prop} (T : mtw m w W h) (R13 : 0 ≤ h 62 13 ∧ h 62 13 ≤ 6) (R71 : ∀ j, 0 ≤ j → j < h 62 13 → 0 ≤ h 71 j ∧ h 71 j ≤ 40) (h0r : 0 ≤ row) (hg : 1 ≤ gg ∧ gg ≤ 99) (hr : row + 2 * gg ≤ 400) (hq : (¬ ∀ j, 0 ≤ j → j < h 62 13 → ∃ s, row ≤ s ∧ s < row + 2 * gg ∧ vi m w W (h 71 j) s) → Q (some (a_I 0)) h) (K : (∀ j, 0 ≤ j → j < h 62 13 → ∃ s, row ≤ s ∧ s < row + 2 * gg ∧ vi m w W (h 71 j) s) → ∀ v v' v'' v3, Go g (ab_rm 2, 0, 0) m_X7_isServed Q 124 [some (a_R 62), some (a_I n), some (a_I gg), some (a_I row), v, v', v'', v3] [] h) : ∀ (f : Nat) (j : Int), 0 ≤ j → j ≤ h 62 13 → h 62 13 - j < f → (∀ i, 0 ≤ i → i < j → ∃ s, row ≤ s ∧ s < row + 2 * gg ∧ vi m w W (h 71 i) s) → ∀ v v' v'', Go g (ab_rm 2, 0, 0) m_X7_isServed Q 16 [some (a_R 62), some (a_I n), some (a_I gg), some (a_I row), some (a_I j), v, v', v''] [] h := by
  intro f
  induction f with
  | zero => intro j h0 h1 hf; omega
  | succ f ih =>
    intro j h0 h1 hf J v v' v''
    refine go_iload rfl rfl ?_
    refine go_aload_n rfl rfl ?_
    refine go_getI rfl f_X7_113 rfl rfl rfl ?_ -- houses
    refine go_icmp_ge rfl (tgt := 124) (by decide) (fun c22 => ?_) (fun c22 => ?_)
    · exact K (fun i i0 i1 => J i i0 (by omega)) _ _ _ _
    · refine go_iconst rfl ?_
      refine go_istore rfl (by decide) rfl ?_
      refine go_iload_n rfl rfl ?_
      refine go_istore rfl (by decide) rfl ?_
      refine lp_X7_isS2 T R13 R71 (j := j) (by omega) h0r hg hr (fun z2 e2 v2 v3 => ?_) 500 row 0 (by omega) (by omega) (by omega) (rd_f (fun ⟨s, a, b, c⟩ => by omega)).symm _
      refine go_iload rfl rfl ?_
      refine go_if_ne rfl (tgt := 118) (by decide) (fun c113 => ?_) (fun c113 => ?_)
      · refine go_iinc rfl rfl (by decide) rfl (by unfold ab_iok; omega) ?_
        refine go_goto rfl (tgt := 16) (by decide) ?_
        exact ih (j + 1) (by omega) (by omega) (by omega) (fun i i0 i1 => by by_cases q : i = j; subst q; rw [e2] at c113; exact rd_n1 c113; exact J i i0 (by omega)) _ _ _
      · refine go_iconst rfl ?_
        exact go_iret rfl (Or.inr ⟨rfl, by omega⟩) (hq (fun z => by rw [e2] at c113; exact rd_n0 c113 (z j h0 (by omega))))
theorem bk_lt2 {n g r : Int} (hg : 1 ≤ g) (h : 2 * g * r + 2 * g ≤ 2 * n) : r < n / g := by
  have e : (r + 1) * g ≤ n := by
    have : 2 * g * r = 2 * (r * g) := by rw [Int.mul_assoc, Int.mul_comm g]
    have e2 : (r + 1) * g = r * g + g := by rw [Int.add_mul, Int.one_mul]
    omega
  have := (Int.le_ediv_iff_mul_le (by omega : 0 < g)).mpr e
  omega
theorem bk_lt3 {n g r : Int} (hg : 1 ≤ g) (h : 2 * n < 2 * g * r + 2 * g) : n / g ≤ r := by
  have e : n < (r + 1) * g := by
    have : 2 * g * r = 2 * (r * g) := by rw [Int.mul_assoc, Int.mul_comm g]
    have e2 : (r + 1) * g = r * g + g := by rw [Int.add_mul, Int.one_mul]
    omega
  have := (Int.ediv_lt_iff_lt_mul (by omega : 0 < g)).mpr e
  omega
theorem bk_b {n g r : Int} (hg : 1 ≤ g) (hn : n ≤ 200) (h0 : 0 ≤ r) (h : r ≤ n / g) : 0 ≤ 2 * g * r ∧ 2 * g * r ≤ 2 * n := by
  refine ⟨Int.mul_nonneg (by omega) h0, ?_⟩
  have := (Int.le_ediv_iff_mul_le (by omega : 0 < g)).mp h
  have : 2 * g * r = 2 * (r * g) := by rw [Int.mul_assoc, Int.mul_comm g]
  omega
set_option maxHeartbeats 4000000 in
set_option maxRecDepth 100000 in
theorem lp_X7_isS4 {g : ab_G} {h : ab_H} {W : tb_W} {m w n gg : Int} {Q : Option ab_V → ab_H → Prop} (T : mtw m w W h) (R13 : 0 ≤ h 62 13 ∧ h 62 13 ≤ 6) (R71 : ∀ j, 0 ≤ j → j < h 62 13 → 0 ≤ h 71 j ∧ h 71 j ≤ 40) (hg : 1 ≤ gg ∧ gg ≤ 99) (hn : 1 ≤ n ∧ n ≤ 200) (hq : ∀ z, z = rd_bool (∀ q, 0 ≤ q → q < n / gg → ∀ j, 0 ≤ j → j < h 62 13 → ∃ s, 2 * gg * q ≤ s ∧ s < 2 * gg * q + 2 * gg ∧ vi m w W (h 71 j) s) → Q (some (a_I z)) h) : ∀ (f : Nat) (r : Int), 0 ≤ r → n / gg - r < f → (∀ q, 0 ≤ q → q < r → ∀ j, 0 ≤ j → j < h 62 13 → ∃ s, 2 * gg * q ≤ s ∧ s < 2 * gg * q + 2 * gg ∧ vi m w W (h 71 j) s) → ∀ v v' v'' v3, r ≤ n / gg → Go g (ab_rm 2, 0, 0) m_X7_isServed Q 2 [some (a_R 62), some (a_I n), some (a_I gg), some (a_I (2 * gg * r)), v, v', v'', v3] [] h := by
  intro f
  induction f with
  | zero => intro r h0 hf J v v' v'' v3 h1; omega
  | succ f ih =>
    intro r h0 hf J v v' v'' v3 h1
    have br := bk_b hg.1 hn.2 h0 h1
    refine go_iload_n rfl rfl ?_
    refine go_iconst rfl ?_
    refine go_iload_n rfl rfl ?_
    refine go_imul rfl (by unfold ab_iok; omega) ?_
    refine go_iadd rfl (by unfold ab_iok; omega) ?_
    refine go_iconst rfl ?_
    refine go_iload_n rfl rfl ?_
    refine go_imul rfl (by unfold ab_iok; omega) ?_
    refine go_icmp_gt rfl (tgt := 133) (by decide) (fun c10 => ?_) (fun c10 => ?_)
    · refine go_iconst rfl ?_
      exact go_iret rfl (Or.inr ⟨rfl, by omega⟩) (hq 1 (rd_t (fun q q0 q1 => J q q0 (by have := bk_lt3 hg.1 (n := n) (r := r) (by omega); omega))).symm)
    · refine go_iconst rfl ?_
      refine go_istore rfl (by decide) rfl ?_
      have rn : r < n / gg := bk_lt2 hg.1 (by omega)
      refine lp_X7_isS3 T R13 R71 (row := 2 * gg * r) br.1 hg (by omega) (fun z => hq 0 (rd_f (fun y => z (y r h0 rn))).symm) (fun e2 v2 v3 v4 v5 => ?_) 8 0 (by omega) R13.1 (by omega) (fun i i0 i1 => by omega) _ _ _
      refine go_iload_n rfl rfl ?_
      refine go_iconst rfl ?_
      refine go_iload_n rfl rfl ?_
      refine go_imul rfl (by unfold ab_iok; omega) ?_
      refine go_iadd rfl (by unfold ab_iok; omega) ?_
      refine go_istore_n rfl (by decide) rfl ?_
      refine go_goto rfl (tgt := 2) (by decide) ?_
      rw [show 2 * gg * r + 2 * gg = 2 * gg * (r + 1) by rw [Int.mul_add, Int.mul_one]]
      exact ih (r + 1) (by omega) (by omega) (fun q q0 q1 => by by_cases y : q = r; subst y; exact e2; exact J q q0 (by omega)) _ _ _ _ (by omega)
set_option maxHeartbeats 4000000 in
set_option maxRecDepth 100000 in
theorem s_X7_isServed {g : ab_G} {h : ab_H} {W : tb_W} {m w n gg : Int} (T : mtw m w W h) (R13 : 0 ≤ h 62 13 ∧ h 62 13 ≤ 6) (R71 : ∀ j, 0 ≤ j → j < h 62 13 → 0 ≤ h 71 j ∧ h 71 j ≤ 40) (hg : 1 ≤ gg ∧ gg ≤ 99) (hn : 1 ≤ n ∧ n ≤ 200) : MethI g 2 m_X7_isServed [a_R 62, a_I n, a_I gg] h (fun z h' => h = h' ∧ z = rd_bool (∀ q, 0 ≤ q → q < n / gg → ∀ j, 0 ≤ j → j < h 62 13 → ∃ s, 2 * gg * q ≤ s ∧ s < 2 * gg * q + 2 * gg ∧ vi m w W (h 71 j) s)) := by
  refine Meth.of_go k_X7_isServed (Nat.le_of_ble_eq_true rfl) ?_
  show Go g _ m_X7_isServed _ 0 [some (a_R 62), some (a_I n), some (a_I gg), none, none, none, none, none] [] h
  refine go_iconst rfl ?_
  refine go_istore_n rfl (by decide) rfl ?_
  have := lp_X7_isS4 (g := g) (Q := fun r hh => ∃ z, r = some (a_I z) ∧ h = hh ∧ z = rd_bool (∀ q, 0 ≤ q → q < n / gg → ∀ j, 0 ≤ j → j < h 62 13 → ∃ s, 2 * gg * q ≤ s ∧ s < 2 * gg * q + 2 * gg ∧ vi m w W (h 71 j) s)) T R13 R71 hg hn (fun z e => ⟨_, rfl, rfl, e⟩) 300 0 (by omega) (by have := bk_N hn hg; omega) (fun q q0 q1 => by omega) none none none none (bk_N hn hg).1
  rw [Int.mul_zero] at this
  exact this
theorem j_isServed {g : ab_G} {h : ab_H} {w n gg : Int} (I : Inv h) (R : MR h) (T : mtw (h 1 8) w (tW h w) h) (hg : 1 ≤ gg ∧ gg ≤ 99) (hn : 1 ≤ n ∧ n ≤ 200) : MethI g 2 m_X7_isServed [a_R 62, a_I n, a_I gg] h (fun z h' => h = h' ∧ z = rd_bool (sv h w n gg)) := by
  have e13 : h 62 13 = h 1 9 := R.2.2.1
  have e71 : ∀ j, 0 ≤ j → j < h 62 13 → h 71 j = h 6 j := fun j j0 j1 => R.2.2.2.2 j j0 j1
  have hs := I.hs
  have l := I.ro.2.1
  refine (s_X7_isServed T (by rw [e13]; exact hs.1) (fun j j0 j1 => by rw [e71 j j0 j1]; have := hs.2 j j0 (by rw [← e13]; exact j1); omega) hg hn).mono (fun r h' ⟨z, e, e1, e2⟩ => ⟨z, e, e1, ?_⟩)
  rw [e2]
  refine rd_iff ?_
  unfold sv
  constructor
  · intro y r r0 r1 j j0 j1
    have := y r r0 r1 j j0 (by rw [e13]; exact j1)
    rw [e71 j j0 (by rw [e13]; exact j1)] at this
    exact this
  · intro y r r0 r1 j j0 j1
    have := y r r0 r1 j j0 (by rw [← e13]; exact j1)
    rw [e71 j j0 j1]
    exact this
noncomputable def sv_F (h : ab_H) (n g : Int) : Int := if (1 ≤ n ∧ n ≤ 200) ∧ 1 ≤ g ∧ g ≤ 99 then rd_bool (sv h 63 n g) else -2
set_option maxHeartbeats 4000000 in
set_option maxRecDepth 100000 in
theorem j_servedOf {g : ab_G} {h : ab_H} {n gg : Int} (I : Inv h) (hg : 1 ≤ gg ∧ gg ≤ 99) (hn : 1 ≤ n ∧ n ≤ 200) : MethI g 6 m_X7_servedOf [a_R 62, a_I n, a_I gg] h (fun z h' => z = rd_bool (sv h 63 n gg) ∧ MF h h' ∧ MT h h' ∧ Inv h') := by
  refine Meth.of_go k_X7_servedOf (Nat.le_of_ble_eq_true rfl) ?_
  show Go g _ m_X7_servedOf _ 0 [some (a_R 62), some (a_I n), some (a_I gg)] [] h
  refine go_aload_n rfl rfl ?_
  refine go_cV0V (M' := m_X7_find) rfl l_X7_196 k_X7_find (j_find I) rfl rfl rfl rfl (by decide) (Nat.le_of_ble_eq_true rfl) (fun h1 q1 => ?_) -- X7_find
  obtain ⟨F2, T2, I2⟩ := q1
  have TT := (T2.self F2).1
  refine go_aload_n rfl rfl ?_
  refine go_iload_n rfl rfl ?_
  refine go_iload_n rfl rfl ?_
  refine go_cV2I (M' := m_X7_isServed) rfl l_X7_252 k_X7_isServed (j_isServed I2 T2.2.2 TT hg hn) rfl rfl rfl rfl (by decide) (Nat.le_of_ble_eq_true rfl) (fun z7 h7 q7 => ?_) -- X7_isServed
  obtain ⟨rfl, rfl⟩ := q7
  refine go_if_eq rfl (tgt := 17) (by decide) (fun c10 => ?_) (fun c10 => ?_)
  · refine go_iconst rfl ?_
    exact go_iret rfl (Or.inl rfl) ⟨_, rfl, by rw [sv_same F2.k9] at c10; exact (rd_f (rd_n0 c10)).symm, F2, T2, I2⟩
  · refine go_iconst rfl ?_
    refine go_goto rfl (tgt := 18) (by decide) ?_
    exact go_iret rfl (Or.inl rfl) ⟨_, rfl, by rw [sv_same F2.k9] at c10; exact (rd_t (rd_n1 c10)).symm, F2, T2, I2⟩
set_option maxHeartbeats 4000000 in
set_option maxRecDepth 100000 in
theorem j_served {g : ab_G} {h : ab_H} {n gg : Int} (I : Inv h) : MethI g 8 m_X7_served [a_R 62, a_I n, a_I gg] h (fun z h' => z = sv_F h n gg ∧ MF h h' ∧ Inv h') := by
  have r1 := I.ro.1
  refine Meth.of_go k_X7_served (Nat.le_of_ble_eq_true rfl) ?_
  show Go g _ m_X7_served _ 0 [some (a_R 62), some (a_I n), some (a_I gg)] [] h
  refine go_iload_n rfl rfl ?_
  refine go_iload_n rfl rfl ?_
  refine go_cS2I (M' := m_X7_isService) rfl l_X7_255 k_X7_isService (s_X7_isService) rfl (by decide) (Nat.le_of_ble_eq_true rfl) (fun z2 h2 q2 => ?_) -- X7_isService
  obtain ⟨rfl, rfl⟩ := q2
  refine go_if_eq rfl (tgt := 17) (by decide) (fun c5 => ?_) (fun c5 => ?_)
  · refine go_bipush rfl ?_
    exact go_iret rfl (Or.inl rfl) ⟨_, rfl, by unfold sv_F; rw [if_neg (by have := rd_n0 c5; omega)], MF.refl h, I⟩
  · refine go_aload_n rfl rfl ?_
    refine go_iload_n rfl rfl ?_
    refine go_iload_n rfl rfl ?_
    refine go_cV2I (M' := m_X7_servedOf) rfl l_X7_258 k_X7_servedOf (j_servedOf I (by have := rd_n1 c5; omega) (by have := rd_n1 c5; omega)) rfl rfl rfl rfl (by decide) (Nat.le_of_ble_eq_true rfl) (fun z11 h11 q11 => ?_) -- X7_servedOf
    obtain ⟨rfl, F1, -, I1⟩ := q11
    refine go_goto rfl (tgt := 19) (by decide) ?_
    exact go_iret rfl (Or.inl rfl) ⟨_, rfl, by have := rd_n1 c5; unfold sv_F; rw [if_pos (by omega)], F1, I1⟩
theorem vi_mask {m w w' : Int} {W W' : tb_W} {p t : Int} (hw : ∀ j, 0 ≤ j → j < m → wk_tb w j = wk_tb w' j) (e : wk_eq m (W t) (W' t)) : vi m w W p t ↔ vi m w' W' p t := by
  constructor
  · rintro ⟨i, i0, i1, i2, i3⟩; exact ⟨i, i0, i1, by rw [← hw i i0 i1]; exact i2, by rw [← (e i i0 i1).1]; exact i3⟩
  · rintro ⟨i, i0, i1, i2, i3⟩; exact ⟨i, i0, i1, by rw [hw i i0 i1]; exact i2, by rw [(e i i0 i1).1]; exact i3⟩
theorem sv_am {h : ab_H} (I : Inv h) (n g : Int) : sv h (am_n (h 1 8)) n g ↔ sv h 63 n g := by
  have hm := I.ro.1
  have hw := am_63 hm
  have key : ∀ t p, vi (h 1 8) (am_n (h 1 8)) (tW h (am_n (h 1 8))) p t ↔ vi (h 1 8) 63 (tW h 63) p t := fun t p => vi_mask hw (wk_at_mask hm.2 hw t.toNat)
  unfold sv
  constructor
  · intro y r r0 r1 j j0 j1
    obtain ⟨t, a, b, c⟩ := y r r0 r1 j j0 j1
    exact ⟨t, a, b, (key t _).mp c⟩
  · intro y r r0 r1 j j0 j1
    obtain ⟨t, a, b, c⟩ := y r r0 r1 j j0 j1
    exact ⟨t, a, b, (key t _).mpr c⟩
set_option maxHeartbeats 4000000 in
set_option maxRecDepth 100000 in
theorem c_served {g : ab_G} {h : ab_H} {n gg : Int} (I : Inv h) : MethI g 6 m_X6_served [a_R 0, a_I n, a_I gg] h (fun z h' => z = sv_F h n gg ∧ CF h h' ∧ Inv h') := by
  have r1 := I.ro.1
  refine Meth.of_go k_X6_served (Nat.le_of_ble_eq_true rfl) ?_
  show Go g _ m_X6_served _ 0 [some (a_R 0), some (a_I n), some (a_I gg)] [] h
  refine go_iload_n rfl rfl ?_
  refine go_iload_n rfl rfl ?_
  refine go_cS2I (M' := m_X6_isSpan) rfl l_X6_164 k_X6_isSpan (s_X6_isSpan) rfl (by decide) (Nat.le_of_ble_eq_true rfl) (fun z2 h2 q2 => ?_) -- X6_isSpan
  obtain ⟨rfl, rfl⟩ := q2
  refine go_if_ne rfl (tgt := 11) (by decide) (fun c5 => ?_) (fun c5 => ?_)
  · have y1 := rd_n1 c5
    refine go_aload_n rfl rfl ?_
    refine go_aload_n rfl rfl ?_
    refine go_cV0I (M' := m_X6_allMen) rfl l_X6_168 k_X6_allMen (s_X6_allMen r1) rfl rfl rfl rfl (by decide) (Nat.le_of_ble_eq_true rfl) (fun z13 h13 q13 => ?_) -- X6_allMen
    obtain ⟨rfl, rfl⟩ := q13
    refine go_iload_n rfl rfl ?_
    refine go_iload_n rfl rfl ?_
    refine go_cV3I (M' := m_X6_serve) rfl l_X6_172 k_X6_serve (c_serve I (am_in r1).1 (fun k k0 k1 z => absurd (((am_in r1).2 k (by omega) k1).mp z) (by omega)) (by omega) (by omega)) rfl rfl rfl rfl (by decide) (Nat.le_of_ble_eq_true rfl) (fun z18 h18 q18 => ?_) -- X6_serve
    obtain ⟨rfl, F1⟩ := q18
    refine go_if_eq rfl (tgt := 28) (by decide) (fun c21 => ?_) (fun c21 => ?_)
    · refine go_iconst rfl ?_
      exact go_iret rfl (Or.inl rfl) ⟨_, rfl, by unfold sv_F; rw [if_pos (by omega), rd_f (fun z => rd_n0 c21 ((sv_am I n gg).mpr z))], F1.cf, I.wf F1⟩
    · refine go_iconst rfl ?_
      refine go_goto rfl (tgt := 29) (by decide) ?_
      exact go_iret rfl (Or.inl rfl) ⟨_, rfl, by unfold sv_F; rw [if_pos (by omega), rd_t ((sv_am I n gg).mp (rd_n1 c21))], F1.cf, I.wf F1⟩
  · refine go_bipush rfl ?_
    exact go_iret rfl (Or.inl rfl) ⟨_, rfl, by unfold sv_F; rw [if_neg (by have := rd_n0 c5; omega)], CF.refl h, I⟩
theorem op_served {g : ab_G} {h : ab_H} {n gg : Int} (I : Inv h) : opI g 6 8 m_X6_served m_X7_served [a_I n, a_I gg] h := op_q (F := fun h => sv_F h n gg) I (c_served I) (fun h I => j_served I) (fun h' F => by unfold sv_F; rw [sv_same F.k9])
