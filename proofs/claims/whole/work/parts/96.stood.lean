/-! stood of both -/
theorem so_same {h h' : ab_H} (e : ∀ k, (1 ≤ k ∧ k ≤ 9) → h' k = h k) (e2 : ∀ k, (25 ≤ k ∧ k ≤ 28) → h' k = h k) (e5 : h' 24 5 = h 24 5) : so_f h' = so_f h := by
  funext i k
  unfold so_f FF fits so_W
  rw [tW_same (hS_same e _ _ _), e 1 (by omega), e2 25 (by omega), e2 26 (by omega), e2 27 (by omega), e2 28 (by omega), e5]
theorem CA.so {h h' : ab_H} (a : CA h h') : so_f h' = so_f h := so_same a.k9 (fun k hk => a.1 k (by omega)) (a.2 5 (by decide))
theorem CA.soz {h h' : ab_H} (a : CA h h') (i f : Int) : so_z h' i f = so_z h i f := by unfold so_z; rw [a.so]
theorem CA.cf {h h' : ab_H} (a : CA h h') : CF h h' := ⟨fun k hk => a.1 k (by omega), fun b _ => by rw [a.1 0 (by decide)], fun b hb => a.2 b hb⟩
theorem CA.inv {h h' : ab_H} (a : CA h h') (I : Inv h) : Inv h' := I.cf a.cf (iv_C.of I (by rw [a.1 0 (by decide)]) (fun k hk => a.1 k (by omega)))
noncomputable def so_N (h : ab_H) : Nat → Int
  | 0 => 0
  | n + 1 => so_N h n + wk_num (so_f h n) 310
noncomputable def so_k (h : ab_H) (x i k : Int) : Int := if x ≠ -1 then x else if fs 0 k (so_f h i) = -1 then -1 else 10000 * i + so_v (fs 0 k (so_f h i))
noncomputable def so_1 (h : ab_H) : Nat → Int
  | 0 => -1
  | n + 1 => so_k h (so_1 h n) n 310
noncomputable def so_F (h : ab_H) (w : Int) : Int := if 0 ≤ w ∧ w ≤ 1 then (if w = 0 then so_N h (h 1 8).toNat else so_1 h (h 1 8).toNat) else -2
theorem so_N_in {h : ab_H} : ∀ n : Nat, 0 ≤ so_N h n ∧ so_N h n ≤ 310 * n
  | 0 => ⟨by unfold so_N; omega, by unfold so_N; omega⟩
  | n + 1 => by
    have a := so_N_in (h := h) n
    have b := wk_num_in (q := so_f h n) 310
    unfold so_N
    omega
theorem so_N_nx {h : ab_H} {i : Int} (hi : 0 ≤ i) : so_N h (i + 1).toNat = so_N h i.toNat + wk_num (so_f h i) 310 := by
  rw [show (i + 1).toNat = i.toNat + 1 by omega]
  show so_N h i.toNat + wk_num (so_f h (i.toNat : Int)) 310 = _
  rw [Int.toNat_of_nonneg hi]
theorem so_1_nx {h : ab_H} {i : Int} (hi : 0 ≤ i) : so_1 h (i + 1).toNat = so_k h (so_1 h i.toNat) i 310 := by
  rw [show (i + 1).toNat = i.toNat + 1 by omega]
  show so_k h (so_1 h i.toNat) (i.toNat : Int) 310 = _
  rw [Int.toNat_of_nonneg hi]
theorem so_1_keep {h : ab_H} {n : Nat} (z : so_1 h n ≠ -1) : ∀ k : Nat, so_1 h (n + k) = so_1 h n
  | 0 => rfl
  | k + 1 => by
    show so_k h (so_1 h (n + k)) _ 310 = _
    rw [so_1_keep z k]
    unfold so_k
    rw [if_pos z]
theorem so_v_in {k : Int} (hk : 0 ≤ k) (h2 : k < 310) : 1 ≤ so_v k ∧ so_v k ≤ 3010 := by
  unfold so_v
  rw [if_neg (by omega)]
  omega
theorem fs_rng {hi : Int} {q : Int → Prop} (n : fs 0 hi q ≠ -1) : 0 ≤ fs 0 hi q ∧ fs 0 hi q < hi := by
  rcases fs_ok (lo := 0) (hi := hi) (q := q) (by omega) with ⟨a, -⟩ | ⟨a, b, -⟩
  · exact absurd a n
  · exact ⟨a, b⟩
theorem so_z_1 {h : ab_H} {i : Int} : so_z h i 1 = so_v (fs 0 310 (so_f h i)) := by unfold so_z; rw [if_neg (by decide)]
theorem so_z_r {h : ab_H} {i : Int} : so_z h i 1 = -1 ∨ (1 ≤ so_z h i 1 ∧ so_z h i 1 ≤ 3010) := by
  rw [so_z_1]
  by_cases n : fs 0 310 (so_f h i) = -1
  · rw [n]; exact Or.inl (by unfold so_v; rw [if_pos rfl])
  · exact Or.inr (so_v_in (fs_rng n).1 (fs_rng n).2)
theorem so_k_n {h : ab_H} {i : Int} (z : so_z h i 1 = -1) : so_k h (-1) i 310 = -1 := by
  unfold so_k
  rw [if_neg (by decide)]
  refine if_pos (Classical.byContradiction fun n => ?_)
  rw [so_z_1] at z
  have := so_v_in (fs_rng n).1 (fs_rng n).2
  omega
theorem so_k_y {h : ab_H} {i : Int} (z : so_z h i 1 ≠ -1) : so_k h (-1) i 310 = 10000 * i + so_z h i 1 := by
  unfold so_k
  rw [if_neg (by decide), so_z_1]
  refine if_neg (fun n => z ?_)
  rw [so_z_1, n]
  unfold so_v
  rw [if_pos rfl]
def st_M (h0 : ab_H) (w i many : Int) : Prop := (w = 0 → many = so_N h0 i.toNat) ∧ (w = 1 → so_1 h0 i.toNat = -1 ∧ -i ≤ many ∧ many ≤ 0)
theorem st_0 {h0 : ab_H} {w i many : Int} (hi : 0 ≤ i) (hw : w = 0 ∨ w = 1) (w1 : w ≠ 1) (M : st_M h0 w i many) : st_M h0 w (i + 1) (many + so_z h0 i 0) := by
  refine ⟨fun z => ?_, fun z => absurd z w1⟩
  rw [so_N_nx hi, M.1 z]
  unfold so_z
  rw [if_pos rfl]
theorem st_1 {h0 : ab_H} {w i many : Int} (hi : 0 ≤ i) (w1 : w = 1) (M : st_M h0 w i many) (z : so_z h0 i 1 = -1) : st_M h0 w (i + 1) (many + so_z h0 i 1) := by
  have m1 := M.2 w1
  refine ⟨fun y => by omega, fun _ => ⟨?_, by omega, by omega⟩⟩
  rw [so_1_nx hi, m1.1, so_k_n z]
theorem st_y {h0 : ab_H} {w i many : Int} (hi : 0 ≤ i ∧ i < h0 1 8) (w1 : w = 1) (M : st_M h0 w i many) (z : so_z h0 i 1 ≠ -1) : 10000 * i + so_z h0 i 1 = so_F h0 w := by
  have m1 := M.2 w1
  have r := so_z_r (h := h0) (i := i)
  have e : so_1 h0 (i + 1).toNat = 10000 * i + so_z h0 i 1 := by rw [so_1_nx hi.1, m1.1, so_k_y z]
  have k := so_1_keep (h := h0) (n := (i + 1).toNat) (by rw [e]; omega) ((h0 1 8).toNat - (i + 1).toNat)
  rw [show (i + 1).toNat + ((h0 1 8).toNat - (i + 1).toNat) = (h0 1 8).toNat by omega, e] at k
  unfold so_F
  rw [if_pos (by omega), if_neg (by omega), k]
set_option maxHeartbeats 4000000 in
set_option maxRecDepth 100000 in
theorem lp_X6_stood {g : ab_G} {h0 : ab_H} {w : Int} {Q : Option ab_V → ab_H → Prop} (I : Inv h0) (hw : w = 0 ∨ w = 1) (hq : ∀ h z, z = so_F h0 w → CA h0 h → Q (some (a_I z)) h) : ∀ (n : Nat) (i many : Int) (h : ab_H), 0 ≤ i → i ≤ h0 1 8 → h0 1 8 - i < n → st_M h0 w i many → CA h0 h → ∀ v, Go g (ab_rm 6, 0, 0) m_X6_stood Q 16 [some (a_R 0), some (a_I w), some (a_I many), some (a_I i), v] [] h := by
  have m6 := I.ro.1
  intro n
  induction n with
  | zero => intro i many h h0i h1i hf; omega
  | succ n ih =>
    intro i many h h0i h1i hf M F v
    have e8 : h 1 8 = h0 1 8 := by rw [F.1 1 (by decide)]
    have mb : -10 ≤ many ∧ many ≤ 2000 := by
      rcases hw with z | z
      · have a := so_N_in (h := h0) i.toNat; have b := M.1 z; omega
      · have b := M.2 z; omega
    refine go_iload_n rfl rfl ?_
    refine go_aload_n rfl rfl ?_
    refine go_getR rfl f_X6_10 rfl rfl ?_ -- road
    refine go_getI rfl f_X6_176 rfl rfl rfl ?_ -- men
    refine go_icmp_ge rfl (tgt := 75) (by decide) (fun c24 => ?_) (fun c24 => ?_)
    · refine go_iload_n rfl rfl ?_
      refine go_iconst rfl ?_
      refine go_icmp_ne rfl (tgt := 84) (by decide) (fun c77 => ?_) (fun c77 => ?_)
      · refine go_iload_n rfl rfl ?_
        exact go_iret rfl (Or.inl rfl) (hq h _ (by unfold so_F; rw [if_pos (by omega), if_pos (by omega), M.1 (by omega), show i = h0 1 8 by omega]) F)
      · refine go_iconst rfl ?_
        refine go_goto rfl (tgt := 85) (by decide) ?_
        exact go_iret rfl (Or.inl rfl) (hq h _ (by unfold so_F; rw [if_pos (by omega), if_neg (by omega), ← show i = h0 1 8 by omega]; exact (M.2 c77).1.symm) F)
    · refine go_aload_n rfl rfl ?_
      refine go_iload_n rfl rfl ?_
      refine go_iload_n rfl rfl ?_
      refine go_iconst rfl ?_
      refine go_icmp_ne rfl (tgt := 38) (by decide) (fun c31 => ?_) (fun c31 => ?_)
      · refine go_iconst rfl ?_
        refine go_cV2I (M' := m_X6_stoodBy) rfl l_X6_224 k_X6_stoodBy (s_X6_stoodBy (ro_same F.k9 I.ro) (F.L I.2.2.2.1) ⟨h0i, by omega⟩) rfl rfl rfl rfl (by decide) (Nat.le_of_ble_eq_true rfl) (fun z39 h39 q39 => ?_) -- X6_stoodBy
        obtain ⟨q39e, q39f⟩ := q39
        rw [F.soz] at q39e
        have q39 : True ∧ CA h h39 := ⟨trivial, q39f⟩
        subst q39e
        have zb : 0 ≤ so_z h0 i 0 ∧ so_z h0 i 0 ≤ 310 := by unfold so_z; rw [if_pos rfl]; exact wk_num_in 310
        refine go_istore rfl (by decide) rfl ?_
        refine go_iload_n rfl rfl ?_
        refine go_iconst rfl ?_
        refine go_icmp_ne rfl (tgt := 64) (by decide) (fun c46 => ?_) (fun c46 => ?_)
        · refine go_iload_n rfl rfl ?_
          refine go_iload rfl rfl ?_
          refine go_iadd rfl (by unfold ab_iok; omega) ?_
          refine go_istore_n rfl (by decide) rfl ?_
          refine go_iinc rfl rfl (by decide) rfl (by unfold ab_iok; omega) ?_
          refine go_goto rfl (tgt := 16) (by decide) ?_
          exact ih (i + 1) _ h39 (by omega) (by omega) (by omega) (st_0 h0i hw c31 M) (F.trans q39.2) _
        · exact absurd c46 c31
      · refine go_iconst rfl ?_
        refine go_goto rfl (tgt := 39) (by decide) ?_
        refine go_cV2I (M' := m_X6_stoodBy) rfl l_X6_224 k_X6_stoodBy (s_X6_stoodBy (ro_same F.k9 I.ro) (F.L I.2.2.2.1) ⟨h0i, by omega⟩) rfl rfl rfl rfl (by decide) (Nat.le_of_ble_eq_true rfl) (fun z39 h39 q39 => ?_) -- X6_stoodBy
        obtain ⟨q39e, q39f⟩ := q39
        rw [F.soz] at q39e
        have q39 : True ∧ CA h h39 := ⟨trivial, q39f⟩
        subst q39e
        have zb := so_z_r (h := h0) (i := i)
        refine go_istore rfl (by decide) rfl ?_
        refine go_iload_n rfl rfl ?_
        refine go_iconst rfl ?_
        refine go_icmp_ne rfl (tgt := 64) (by decide) (fun c46 => ?_) (fun c46 => ?_)
        · exact absurd c31 c46
        · refine go_iload rfl rfl ?_
          refine go_iconst rfl ?_
          refine go_icmp_eq rfl (tgt := 64) (by decide) (fun c52 => ?_) (fun c52 => ?_)
          · refine go_iload_n rfl rfl ?_
            refine go_iload rfl rfl ?_
            refine go_iadd rfl (by unfold ab_iok; omega) ?_
            refine go_istore_n rfl (by decide) rfl ?_
            refine go_iinc rfl rfl (by decide) rfl (by unfold ab_iok; omega) ?_
            refine go_goto rfl (tgt := 16) (by decide) ?_
            exact ih (i + 1) _ h39 (by omega) (by omega) (by omega) (st_1 h0i c31 M c52) (F.trans q39.2) _
          · refine go_sipush rfl ?_
            refine go_iload_n rfl rfl ?_
            refine go_imul rfl (by unfold ab_iok; omega) ?_
            refine go_iload rfl rfl ?_
            refine go_iadd rfl (by unfold ab_iok; omega) ?_
            exact go_iret rfl (Or.inl rfl) (hq h39 _ (st_y ⟨h0i, by omega⟩ c31 M c52) (F.trans q39.2))
set_option maxHeartbeats 4000000 in
set_option maxRecDepth 100000 in
theorem c_stood {g : ab_G} {h : ab_H} {w : Int} (I : Inv h) : MethI g 6 m_X6_stood [a_R 0, a_I w] h (fun z h' => z = so_F h w ∧ CF h h' ∧ Inv h') := by
  refine Meth.of_go k_X6_stood (Nat.le_of_ble_eq_true rfl) ?_
  show Go g _ m_X6_stood _ 0 [some (a_R 0), some (a_I w), none, none, none] [] h
  refine go_iload_n rfl rfl ?_
  refine go_if_lt rfl (tgt := 9) (by decide) (fun c1 => ?_) (fun c1 => ?_)
  · refine go_bipush rfl ?_
    exact go_iret rfl (Or.inl rfl) ⟨_, rfl, by unfold so_F; rw [if_neg (by omega)], CF.refl h, I⟩
  · refine go_iload_n rfl rfl ?_
    refine go_iconst rfl ?_
    refine go_icmp_le rfl (tgt := 12) (by decide) (fun c6 => ?_) (fun c6 => ?_)
    · refine go_iconst rfl ?_
      refine go_istore_n rfl (by decide) rfl ?_
      refine go_iconst rfl ?_
      refine go_istore_n rfl (by decide) rfl ?_
      exact lp_X6_stood I (by omega) (fun h2 z e F => ⟨_, rfl, e, F.cf, F.inv I⟩) 8 0 0 h (by omega) I.ro.1.1 (by have := I.ro.1; omega) ⟨fun _ => rfl, fun _ => ⟨rfl, by omega, by omega⟩⟩ (CA.refl h) _
    · refine go_bipush rfl ?_
      exact go_iret rfl (Or.inl rfl) ⟨_, rfl, by unfold so_F; rw [if_neg (by omega)], CF.refl h, I⟩
