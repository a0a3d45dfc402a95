/-! stood, the reference's way -/
def SM (hb h : ab_H) : Prop := (∀ k, ¬ (k = 62 ∨ (75 ≤ k ∧ k ≤ 79) ∨ k = 73 ∨ k = 74) → h k = hb k) ∧ ∀ b, ¬ (b = 18 ∨ b = 25 ∨ b = 26) → h 62 b = hb 62 b
def SI (hb : ab_H) (i u v : Int) (h : ab_H) : Prop := SM hb h ∧ (∀ j, h 73 j = if j = i then u else hb 73 j) ∧ ∀ j, h 74 j = if j = i then v else hb 74 j
theorem SM.set {hb h : ab_H} {k : Nat} {i x : Int} (S : SM hb h) (hk : k = 73 ∨ k = 74) : SM hb (ab_hs h k i x) := ⟨fun a ha => by rw [ab_hs_f (by omega)]; exact S.1 a ha, fun b hb => by rw [ab_hs_f (by omega)]; exact S.2 b hb⟩
theorem SM.L {hb h : ab_H} (S : SM hb h) (L : iv_L hb) : iv_L h := L.of (by rw [S.1 24 (by decide)]) (S.2 27 (by decide)) (S.1 25 (by decide)) (S.1 26 (by decide)) (S.1 27 (by decide)) (S.1 28 (by decide)) (S.1 81 (by decide))
theorem SI.mr {hb h : ab_H} {i u v : Int} (I : Inv hb) (R : MR hb) (S : SI hb i u v h) (hu : 0 ≤ u ∧ u ≤ 99) (hv : 0 ≤ v ∧ v ≤ 99) : mr_in h ∧ (∀ a b, 0 ≤ a → a < h 62 9 → 0 ≤ b → b < h 62 9 → h 68 a = h 68 b → a = b) := by
  obtain ⟨⟨r1, r2, r3, r4⟩, r5⟩ := MR.in I R
  obtain ⟨S, e73, e74⟩ := S
  rw [S.2 9 (by decide), S.1 68 (by decide)]
  refine ⟨?_, r5⟩
  unfold mr_in
  rw [S.2 9 (by decide), S.2 8 (by decide), S.1 68 (by decide), S.1 69 (by decide), S.1 70 (by decide)]
  refine ⟨r1, r2, r3, fun j j0 j1 => ?_⟩
  rw [e73, e74]
  by_cases z : j = i
  · rw [if_pos z, if_pos z]; exact ⟨hu, hv⟩
  · rw [if_neg z, if_neg z]; exact r4 j j0 j1
theorem SI.run {hb h h' : ab_H} {i u v : Int} (S : SI hb i u v h) (P : ru_Post h 63 h') : SI hb i u v h' := by
  obtain ⟨S, e73, e74⟩ := S
  obtain ⟨-, P2⟩ := P
  have ek : ∀ k, ¬ (k = 62 ∨ (75 ≤ k ∧ k ≤ 79)) → h' k = h k := fun k hk => by rw [P2 k (by omega), ab_hs_f (by omega)]
  refine ⟨⟨fun k hk => (ek k (by omega)).trans (S.1 k hk), fun b hb => ?_⟩, by rw [ek 73 (by decide)]; exact e73, by rw [ek 74 (by decide)]; exact e74⟩
  rw [P2 62 (by decide), ab_hs_i (by omega)]
  exact S.2 b hb
theorem SI.lf {hb h h' : ab_H} {i u v : Int} (S : SI hb i u v h) (F : LF h h') : SI hb i u v h' := by
  obtain ⟨S, e73, e74⟩ := S
  exact ⟨⟨fun k hk => (F.1 k (by omega)).trans (S.1 k hk), fun b hb => (F.2 b (by omega)).trans (S.2 b hb)⟩, by rw [F.1 73 (by decide)]; exact e73, by rw [F.1 74 (by decide)]; exact e74⟩
theorem so_mt {hb h h' : ab_H} {i u v : Int} (I : Inv hb) (R : MR hb) (S : SI hb i u v h) (P : ru_Post h 63 h') : mtw (hb 1 8) 63 (so_W hb i u v) h' := by
  obtain ⟨S, e73, e74⟩ := S
  have ro := I.ro
  obtain ⟨P1, P2⟩ := P
  obtain ⟨R1, R2, R3, R4, R5⟩ := R
  have R2 : hb 62 9 = hb 1 8 := R2
  have e62 : ∀ b, b ≠ 18 → h' 62 b = h 62 b := fun b hb => by rw [P2 62 (by decide), ab_hs_i hb]
  have m9 : ab_hs h 62 18 63 62 9 = hb 1 8 := by rw [ab_hs_i (by decide), S.2 9 (by decide)]; exact R2
  have m8 : ab_hs h 62 18 63 62 8 = hb 1 7 := by rw [ab_hs_i (by decide), S.2 8 (by decide)]; exact R1
  have m18 : ab_hs h 62 18 63 62 18 = 63 := ab_hs_eq
  have l0 : ab_hs h 62 18 63 72 0 = hb 7 2 := by rw [ab_hs_f (by decide), S.1 72 (by decide)]; exact I.2.2.1.1.2.2.1
  have l1 : ab_hs h 62 18 63 72 1 = hb 7 3 := by rw [ab_hs_f (by decide), S.1 72 (by decide)]; exact I.2.2.1.1.2.2.2
  have p1 : wk_eq (hb 1 8) (md_S (ab_hs h 62 18 63)) (cr_S hb) := by
    intro j j0 j1
    obtain ⟨a, b, c⟩ := R4 j j0 (show j < hb 62 9 by rw [R2]; exact j1)
    have a : hb 68 j = hb 3 j := a
    have b : hb 69 j = hb 4 j := b
    refine ⟨?_, ?_, rfl⟩
    · show 2 * ab_hs h 62 18 63 68 j = 2 * hb 3 j
      rw [ab_hs_f (by decide), S.1 68 (by decide), a]
    · show ab_hs h 62 18 63 69 j = hb 4 j
      rw [ab_hs_f (by decide), S.1 69 (by decide), b]
  have p2 : ∀ j, 0 ≤ j → j < hb 1 8 → md_a (ab_hs h 62 18 63) j = cr_a hb j ∧ md_b (ab_hs h 62 18 63) j = cr_b (hS hb i u v) j ∧ md_c (ab_hs h 62 18 63) j = cr_c (hS hb i u v) j := by
    intro j j0 j1
    obtain ⟨a, b, c⟩ := R4 j j0 (show j < hb 62 9 by rw [R2]; exact j1)
    have c : hb 70 j = hb 5 j := c
    have w := I.2.2.1.2 j j0 (by have := ro.1; omega)
    unfold md_a md_b md_c cr_a cr_b cr_c
    rw [ab_hs_f (by decide), ab_hs_f (by decide), ab_hs_f (by decide), S.1 70 (by decide), c, e73, e74, hS_8, hS_9, w.2.1, w.2.2]
    exact ⟨rfl, rfl, rfl⟩
  refine ⟨⟨?_, ?_, ro.1, by decide⟩, fun t a t0 t1 a0 a1 aw => ?_⟩
  · rw [e62 9 (by decide), S.2 9 (by decide)]; exact R2
  · rw [P2 62 (by decide), ab_hs_eq]
  · obtain ⟨q1, -, -⟩ := P1 t.toNat (by omega)
    rw [m9, m8, m18, l0, l1] at q1
    have q2 := wk_at_congr (E := 2 * hb 1 7) (l0 := hb 7 2) (l1 := hb 7 3) (w := 63) ro.1.2 p1 p2 t.toNat a a0 a1
    have q3 := q1 a a0 a1 aw
    have et : ((t.toNat : Nat) : Int) = t := Int.toNat_of_nonneg t0
    rw [et] at q3
    have e : so_W hb i u v t = _ := so_tW
    rw [e]
    exact ⟨q3.1.trans q2.1, q3.2.1.trans q2.2.1, q3.2.2.trans q2.2.2⟩
theorem wk_num_no {q : Int → Prop} : ∀ n : Nat, (∀ j : Int, 0 ≤ j → j < n → ¬ q j) → wk_num q n = 0
  | 0, _ => rfl
  | n + 1, h => by
    unfold wk_num
    rw [wk_num_no n (fun j j0 j1 => h j j0 (by omega)), rd_f (h n (by omega) (by omega))]
    rfl
theorem so_late {hb h : ab_H} {i u v z : Int} (S : SM hb h) (L : iv_L hb) (e : z = wk_num (fun l => ¬ tb_lt (hb 1 8) (so_W hb i u v) (h 25 l) (h 26 l) (h 27 l) = h 28 l) (h 24 5).toNat) : z = 0 ↔ FF hb i u v := by
  rw [S.1 25 (by decide), S.1 26 (by decide), S.1 27 (by decide), S.1 28 (by decide), S.1 24 (by decide)] at e
  have n12 := L.1
  constructor
  · intro z0 j j0 j1
    exact Classical.byContradiction fun y => wk_num_0 _ (by rw [← e, z0]; omega) j j0 (by omega) y
  · intro y
    rw [e]
    exact wk_num_no _ (fun j j0 j1 n => n (y j j0 (by omega)))
def sm_M (hb : ab_H) (i k many first : Int) : Prop := many = so_N hb i.toNat + wk_num (so_f hb i) k.toNat ∧ first = so_k hb (so_1 hb i.toNat) i k
theorem fs_nx {q : Int → Prop} {k : Int} (hk : 0 ≤ k) : fs 0 (k + 1) q = if fs 0 k q ≠ -1 then fs 0 k q else haveI := Classical.propDecidable (q k); if q k then k else -1 := by
  refine (fs_eq (by omega) ?_).symm
  rcases fs_ok (lo := 0) (hi := k) (q := q) (by omega) with ⟨a, b⟩ | ⟨a, b, c, d⟩
  · rw [if_neg (fun y => y a)]
    by_cases z : q k
    · rw [if_pos z]; exact Or.inr ⟨hk, by omega, z, fun j j0 j1 => b j j0 j1⟩
    · rw [if_neg z]
      refine Or.inl ⟨rfl, fun j j0 j1 => ?_⟩
      by_cases y : j = k
      · rw [y]; exact z
      · exact b j j0 (by omega)
  · rw [if_pos (by omega)]; exact Or.inr ⟨a, by omega, c, d⟩
theorem so_k_0 {h : ab_H} {x i k : Int} (hk : 0 ≤ k) (n : ¬ so_f h i k) : so_k h x i (k + 1) = so_k h x i k := by
  have e : fs 0 (k + 1) (so_f h i) = fs 0 k (so_f h i) := by
    rw [fs_nx hk]
    by_cases z : fs 0 k (so_f h i) = -1
    · rw [if_neg (fun y => y z), if_neg n, z]
    · rw [if_pos z]
  unfold so_k
  rw [e]
theorem so_k_1 {h : ab_H} {x i k : Int} (hk : 0 ≤ k) (n : so_f h i k) (z : so_k h x i k = -1) (hi : 0 ≤ i) : so_k h x i (k + 1) = 10000 * i + 100 * (k / 10) + (k % 10 + 1) := by
  unfold so_k at z ⊢
  by_cases y : x = -1
  · rw [if_neg (fun w => w y)] at z ⊢
    have f : fs 0 k (so_f h i) = -1 := by
      refine Classical.byContradiction fun w => ?_
      rw [if_neg w] at z
      have r := fs_rng w
      unfold so_v at z
      rw [if_neg w] at z
      omega
    have e : fs 0 (k + 1) (so_f h i) = k := by rw [fs_nx hk, if_neg (fun y => y f), if_pos n]
    rw [e, if_neg (by omega)]
    unfold so_v
    rw [if_neg (by omega)]
    omega
  · rw [if_pos y] at z; exact absurd z y
theorem so_k_2 {h : ab_H} {x i k : Int} (hk : 0 ≤ k) (z : so_k h x i k ≠ -1) : so_k h x i (k + 1) = so_k h x i k := by
  by_cases y : x = -1
  · have f : fs 0 k (so_f h i) ≠ -1 := fun w => z (by unfold so_k; rw [if_neg (fun v => v y), if_pos w])
    have e : fs 0 (k + 1) (so_f h i) = fs 0 k (so_f h i) := by rw [fs_nx hk, if_pos f]
    unfold so_k
    rw [e]
  · unfold so_k
    rw [if_pos y, if_pos y]
theorem sm_n {hb : ab_H} {i k many first : Int} (hk : 0 ≤ k) (M : sm_M hb i k many first) (n : ¬ so_f hb i k) : sm_M hb i (k + 1) (many + 0) first := ⟨by rw [wk_num_nx hk, rd_f n, M.1]; omega, by rw [so_k_0 hk n]; exact M.2⟩
theorem sm_y {hb : ab_H} {i k many first : Int} (hi : 0 ≤ i) (hk : 0 ≤ k) (M : sm_M hb i k many first) (n : so_f hb i k) (z : first = -1) : sm_M hb i (k + 1) (many + 1) (10000 * i + 100 * (k / 10) + (k % 10 + 1)) := ⟨by rw [wk_num_nx hk, rd_t n, M.1]; omega, (so_k_1 hk n (by rw [← M.2]; exact z) hi).symm⟩
theorem sm_k {hb : ab_H} {i k many first : Int} (hk : 0 ≤ k) (M : sm_M hb i k many first) (n : so_f hb i k) (z : first ≠ -1) : sm_M hb i (k + 1) (many + 1) first := ⟨by rw [wk_num_nx hk, rd_t n, M.1]; omega, by rw [so_k_2 hk (by rw [← M.2]; exact z)]; exact M.2⟩
set_option maxHeartbeats 4000000 in
set_option maxRecDepth 100000 in
theorem lp_X7_s1 {g : ab_G} {hb h : ab_H} {w i k many first x5 x6 s : Int} {Q : Option ab_V → ab_H → Prop} (hi : 0 ≤ i ∧ i < 6) (hk : 0 ≤ k ∧ k < 310) (M : sm_M hb i k many first) (hs : s = rd_bool (so_f hb i k)) (e73 : h 73 i = k / 10) (e74 : h 74 i = k % 10 + 1) (K : ∀ many first, sm_M hb i (k + 1) many first → Go g (ab_rm 6, 0, 0) m_X7_stood Q 52 [some (a_R 62), some (a_I w), some (a_I many), some (a_I first), some (a_I i), some (a_I x5), some (a_I x6), some (a_I (k + 1)), some (a_I s)] [] h) : Go g (ab_rm 6, 0, 0) m_X7_stood Q 106 [some (a_R 62), some (a_I w), some (a_I many), some (a_I first), some (a_I i), some (a_I x5), some (a_I x6), some (a_I k), some (a_I s)] [] h := by
  have mb := wk_num_in (q := so_f hb i) k.toNat
  have mc := so_N_in (h := hb) i.toNat
  have me := M.1
  refine go_iload rfl rfl ?_
  refine go_if_eq rfl (tgt := 144) (by decide) (fun c108 => ?_) (fun c108 => ?_)
  · refine go_iload_n rfl rfl ?_
    refine go_istore_n rfl (by decide) rfl ?_
    refine go_iload_n rfl rfl ?_
    refine go_iload rfl rfl ?_
    refine go_if_eq rfl (tgt := 156) (by decide) (fun c149 => ?_) (fun c149 => ?_)
    · refine go_iconst rfl ?_
      refine go_iadd rfl (by unfold ab_iok; omega) ?_
      refine go_istore_n rfl (by decide) rfl ?_
      refine go_iinc rfl rfl (by decide) rfl (by unfold ab_iok; omega) ?_
      refine go_goto rfl (tgt := 52) (by decide) ?_
      exact K _ _ (sm_n hk.1 M (rd_n0 (by rw [← hs]; exact c108)))
    · exact absurd c108 c149
  · refine go_iload_n rfl rfl ?_
    refine go_iconst rfl ?_
    refine go_icmp_ne rfl (tgt := 144) (by decide) (fun c113 => ?_) (fun c113 => ?_)
    · refine go_iload_n rfl rfl ?_
      refine go_istore_n rfl (by decide) rfl ?_
      refine go_iload_n rfl rfl ?_
      refine go_iload rfl rfl ?_
      refine go_if_eq rfl (tgt := 156) (by decide) (fun c149 => ?_) (fun c149 => ?_)
      · exact absurd c149 c108
      · refine go_iconst rfl ?_
        refine go_goto rfl (tgt := 157) (by decide) ?_
        refine go_iadd rfl (by unfold ab_iok; omega) ?_
        refine go_istore_n rfl (by decide) rfl ?_
        refine go_iinc rfl rfl (by decide) rfl (by unfold ab_iok; omega) ?_
        refine go_goto rfl (tgt := 52) (by decide) ?_
        exact K _ _ (sm_k hk.1 M (rd_n1 (by rw [← hs]; exact c108)) c113)
    · refine go_sipush rfl ?_
      refine go_iload rfl rfl ?_
      refine go_imul rfl (by unfold ab_iok; omega) ?_
      refine go_bipush rfl ?_
      refine go_aload_n rfl rfl ?_
      refine go_getR rfl f_X7_40 rfl rfl ?_ -- standFrom
      refine go_iload rfl rfl ?_
      refine go_iald rfl rfl (by omega) (by omega) ?_
      rw [e73]
      refine go_imul rfl (by unfold ab_iok; omega) ?_
      refine go_iadd rfl (by unfold ab_iok; omega) ?_
      refine go_aload_n rfl rfl ?_
      refine go_getR rfl f_X7_43 rfl rfl ?_ -- standMany
      refine go_iload rfl rfl ?_
      refine go_iald rfl rfl (by omega) (by omega) ?_
      rw [e74]
      refine go_iadd rfl (by unfold ab_iok; omega) ?_
      refine go_goto rfl (tgt := 145) (by decide) ?_
      refine go_istore_n rfl (by decide) rfl ?_
      refine go_iload_n rfl rfl ?_
      refine go_iload rfl rfl ?_
      refine go_if_eq rfl (tgt := 156) (by decide) (fun c149 => ?_) (fun c149 => ?_)
      · exact absurd c149 c108
      · refine go_iconst rfl ?_
        refine go_goto rfl (tgt := 157) (by decide) ?_
        refine go_iadd rfl (by unfold ab_iok; omega) ?_
        refine go_istore_n rfl (by decide) rfl ?_
        refine go_iinc rfl rfl (by decide) rfl (by unfold ab_iok; omega) ?_
        refine go_goto rfl (tgt := 52) (by decide) ?_
        exact K _ _ (sm_y hi.1 hk.1 M (rd_n1 (by rw [← hs]; exact c108)) c113)
set_option maxHeartbeats 4000000 in
set_option maxRecDepth 100000 in
theorem lp_X7_s2 {g : ab_G} {hb : ab_H} {w i x5 x6 : Int} {Q : Option ab_V → ab_H → Prop} (I : Inv hb) (R : MR hb) (hi : 0 ≤ i ∧ i < hb 1 8) (K : ∀ h many first k v, sm_M hb i 310 many first → (SM hb h ∧ (∀ j, j ≠ i → h 73 j = hb 73 j) ∧ ∀ j, j ≠ i → h 74 j = hb 74 j) → Go g (ab_rm 6, 0, 0) m_X7_stood Q 165 [some (a_R 62), some (a_I w), some (a_I many), some (a_I first), some (a_I i), some (a_I x5), some (a_I x6), some (a_I k), v] [] h) : ∀ (n : Nat) (k many first : Int) (h : ab_H), 0 ≤ k → k ≤ 310 → 310 - k < n → sm_M hb i k many first → (SM hb h ∧ (∀ j, j ≠ i → h 73 j = hb 73 j) ∧ ∀ j, j ≠ i → h 74 j = hb 74 j) → ∀ v, Go g (ab_rm 6, 0, 0) m_X7_stood Q 52 [some (a_R 62), some (a_I w), some (a_I many), some (a_I first), some (a_I i), some (a_I x5), some (a_I x6), some (a_I k), v] [] h := by
  have m6 := I.ro.1
  intro n
  induction n with
  | zero => intro k many first h h0k h1k hf; omega
  | succ n ih =>
    intro k many first h h0k h1k hf M S v
    refine go_iload rfl rfl ?_
    refine go_sipush rfl ?_
    refine go_icmp_ge rfl (tgt := 165) (by decide) (fun c57 => ?_) (fun c57 => ?_)
    · exact K h many first k _ (by rw [show k = 310 by omega] at M; exact M) S
    · refine go_aload_n rfl rfl ?_
      refine go_getR rfl f_X7_40 rfl rfl ?_ -- standFrom
      refine go_iload rfl rfl ?_
      refine go_iload rfl rfl ?_
      refine go_bipush rfl ?_
      refine go_idiv rfl (by omega) ?_
      rw [ab_idv (by omega) (by omega)]
      refine go_iast rfl rfl (by omega) (by omega) ?_
      refine go_aload_n rfl rfl ?_
      refine go_getR rfl f_X7_43 rfl rfl ?_ -- standMany
      refine go_iload rfl rfl ?_
      refine go_iload rfl rfl ?_
      refine go_bipush rfl ?_
      refine go_irem rfl (by omega) ?_
      rw [ab_irm (by omega) (by omega)]
      refine go_iconst rfl ?_
      refine go_iadd rfl (by unfold ab_iok; omega) ?_
      refine go_iast rfl rfl (by omega) (by omega) ?_
      have S1 : SI hb i (k / 10) (k % 10 + 1) (ab_hs (ab_hs h 73 i (k / 10)) 74 i (k % 10 + 1)) := ⟨(S.1.set (Or.inl rfl)).set (Or.inr rfl), fun j => by rw [ab_hs_f (by decide)]; by_cases y : j = i; rw [y, ab_hs_eq, if_pos rfl]; rw [ab_hs_i y, if_neg y, S.2.1 j y], fun j => by by_cases y : j = i; rw [y, ab_hs_eq, if_pos rfl]; rw [ab_hs_i y, if_neg y, ab_hs_f (by decide), S.2.2 j y]⟩
      refine go_aload_n rfl rfl ?_
      refine go_bipush rfl ?_
      refine go_cV1V (M' := m_X7_runs) rfl l_X7_190 k_X7_runs (s_X7_runs (SI.mr I R S1 (by omega) (by omega)).1 (by decide) (SI.mr I R S1 (by omega) (by omega)).2) rfl rfl rfl rfl (by decide) (Nat.le_of_ble_eq_true rfl) (fun h89 q89 => ?_) -- X7_runs
      have S2 := S1.run q89
      refine go_aload_n rfl rfl ?_
      refine go_cV0I (M' := m_X7_lateOf) rfl l_X7_278 k_X7_lateOf (s_X7_lateOf (so_mt I R S1 q89) (so_pm I.ro) (S2.1.L I.2.2.2.1)) rfl rfl rfl rfl (by decide) (Nat.le_of_ble_eq_true rfl) (fun z93 h93 q93 => ?_) -- X7_lateOf
      have S3 := S2.lf q93.2
      refine go_if_ne rfl (tgt := 103) (by decide) (fun c96 => ?_) (fun c96 => ?_)
      · refine go_iconst rfl ?_
        refine go_istore rfl (by decide) rfl ?_
        exact lp_X7_s1 ⟨hi.1, by omega⟩ ⟨h0k, by omega⟩ M (rd_f (fun y => c96 ((so_late S2.1 I.2.2.2.1 q93.1).mpr y))).symm (by rw [S3.2.1, if_pos rfl]) (by rw [S3.2.2, if_pos rfl]) (fun many2 first2 M2 => ih (k + 1) many2 first2 h93 (by omega) (by omega) (by omega) M2 ⟨S3.1, fun j hj => by rw [S3.2.1, if_neg hj], fun j hj => by rw [S3.2.2, if_neg hj]⟩ _)
      · refine go_iconst rfl ?_
        refine go_goto rfl (tgt := 104) (by decide) ?_
        refine go_istore rfl (by decide) rfl ?_
        exact lp_X7_s1 ⟨hi.1, by omega⟩ ⟨h0k, by omega⟩ M (rd_t ((so_late S2.1 I.2.2.2.1 q93.1).mp c96)).symm (by rw [S3.2.1, if_pos rfl]) (by rw [S3.2.2, if_pos rfl]) (fun many2 first2 M2 => ih (k + 1) many2 first2 h93 (by omega) (by omega) (by omega) M2 ⟨S3.1, fun j hj => by rw [S3.2.1, if_neg hj], fun j hj => by rw [S3.2.2, if_neg hj]⟩ _)
theorem so_k_z {h : ab_H} {x i : Int} : so_k h x i 0 = x := by
  unfold so_k
  by_cases y : x = -1
  · rw [if_neg (fun w => w y), y]
    exact if_pos (fs_eq (lo := 0) (hi := 0) (z := -1) (by omega) (Or.inl ⟨rfl, fun j j0 j1 => by omega⟩)).symm
  · rw [if_pos y]
set_option maxHeartbeats 4000000 in
set_option maxRecDepth 100000 in
theorem lp_X7_s3 {g : ab_G} {hb : ab_H} {w : Int} {Q : Option ab_V → ab_H → Prop} (I : Inv hb) (R : MR hb) (hw : 0 ≤ w ∧ w ≤ 1) (hq : ∀ h z, z = so_F hb w → (SM hb h ∧ h 73 = hb 73 ∧ h 74 = hb 74) → Q (some (a_I z)) h) : ∀ (n : Nat) (i many first : Int) (h : ab_H), 0 ≤ i → i ≤ hb 1 8 → hb 1 8 - i < n → (many = so_N hb i.toNat ∧ first = so_1 hb i.toNat) → (SM hb h ∧ h 73 = hb 73 ∧ h 74 = hb 74) → ∀ v5 v6 v7 v8, Go g (ab_rm 6, 0, 0) m_X7_stood Q 22 [some (a_R 62), some (a_I w), some (a_I many), some (a_I first), some (a_I i), v5, v6, v7, v8] [] h := by
  have m6 := I.ro.1
  intro n
  induction n with
  | zero => intro i many first h h0i h1i hf; omega
  | succ n ih =>
    intro i many first h h0i h1i hf M S v5 v6 v7 v8
    have e9 : h 62 9 = hb 1 8 := by rw [S.1.2 9 (by decide)]; exact R.2.1
    refine go_iload rfl rfl ?_
    refine go_aload_n rfl rfl ?_
    refine go_getI rfl f_X7_110 rfl rfl rfl ?_ -- men
    refine go_icmp_ge rfl (tgt := 189) (by decide) (fun c28 => ?_) (fun c28 => ?_)
    · refine go_iload_n rfl rfl ?_
      refine go_if_ne rfl (tgt := 197) (by decide) (fun c190 => ?_) (fun c190 => ?_)
      · refine go_iload_n rfl rfl ?_
        exact go_iret rfl (Or.inl rfl) (hq h _ (by unfold so_F; rw [if_pos (by omega), if_neg c190, M.2, show i = hb 1 8 by omega]) S)
      · refine go_iload_n rfl rfl ?_
        refine go_goto rfl (tgt := 198) (by decide) ?_
        exact go_iret rfl (Or.inl rfl) (hq h _ (by unfold so_F; rw [if_pos (by omega), if_pos c190, M.1, show i = hb 1 8 by omega]) S)
    · refine go_aload_n rfl rfl ?_
      refine go_getR rfl f_X7_40 rfl rfl ?_ -- standFrom
      refine go_iload rfl rfl ?_
      refine go_iald rfl rfl (by omega) (by omega) ?_
      refine go_istore rfl (by decide) rfl ?_
      refine go_aload_n rfl rfl ?_
      refine go_getR rfl f_X7_43 rfl rfl ?_ -- standMany
      refine go_iload rfl rfl ?_
      refine go_iald rfl rfl (by omega) (by omega) ?_
      refine go_istore rfl (by decide) rfl ?_
      refine go_iconst rfl ?_
      refine go_istore rfl (by decide) rfl ?_
      refine lp_X7_s2 I R ⟨h0i, by omega⟩ (fun h2 many2 first2 k2 v2 M2 S2 => ?_) 312 0 many first h (by omega) (by omega) (by omega) ⟨by rw [show (0 : Int).toNat = 0 from rfl, M.1]; show so_N hb i.toNat = so_N hb i.toNat + 0; omega, by rw [M.2, so_k_z]⟩ ⟨S.1, fun j _ => by rw [S.2.1], fun j _ => by rw [S.2.2]⟩ _
      refine go_aload_n rfl rfl ?_
      refine go_getR rfl f_X7_40 rfl rfl ?_ -- standFrom
      refine go_iload rfl rfl ?_
      refine go_iload rfl rfl ?_
      refine go_iast rfl rfl (by omega) (by omega) ?_
      refine go_aload_n rfl rfl ?_
      refine go_getR rfl f_X7_43 rfl rfl ?_ -- standMany
      refine go_iload rfl rfl ?_
      refine go_iload rfl rfl ?_
      refine go_iast rfl rfl (by omega) (by omega) ?_
      refine go_iinc rfl rfl (by decide) rfl (by unfold ab_iok; omega) ?_
      refine go_goto rfl (tgt := 22) (by decide) ?_
      exact ih (i + 1) many2 first2 _ (by omega) (by omega) (by omega) ⟨by rw [so_N_nx h0i]; exact M2.1, by rw [so_1_nx h0i]; exact M2.2⟩ ⟨(S2.1.set (Or.inl rfl)).set (Or.inr rfl), funext fun j => by rw [ab_hs_f (by decide)]; by_cases y : j = i; rw [y, ab_hs_eq, S.2.1]; rw [ab_hs_i y, S2.2.1 j y], funext fun j => by by_cases y : j = i; rw [y, ab_hs_eq, S.2.2]; rw [ab_hs_i y, ab_hs_f (by decide), S2.2.2 j y]⟩ _ _ _ _
theorem SM.mf {hb h : ab_H} (S : (SM hb h ∧ h 73 = hb 73 ∧ h 74 = hb 74)) : MF hb h := by
  refine ⟨fun k hk => ?_, fun b hb2 => S.1.2 b (by omega)⟩
  by_cases e3 : k = 73
  · subst e3; exact S.2.1
  · by_cases e4 : k = 74
    · subst e4; exact S.2.2
    · exact S.1.1 k (by omega)
theorem RF.so {h h' : ab_H} (F : RF h h') : so_f h' = so_f h := so_same (fun k hk => F.1 k (by omega)) (fun k hk => F.1 k (by omega)) (by rw [F.1 24 (by decide)])
theorem so_N_same0 {h h' : ab_H} (e : so_f h' = so_f h) : ∀ n, so_N h' n = so_N h n
  | 0 => rfl
  | n + 1 => by unfold so_N; rw [so_N_same0 e n, e]
theorem so_1_same0 {h h' : ab_H} (e : so_f h' = so_f h) : ∀ n, so_1 h' n = so_1 h n
  | 0 => rfl
  | n + 1 => by unfold so_1 so_k; rw [so_1_same0 e n, e]
theorem so_N_same {h h' : ab_H} (F : RF h h') (n : Nat) : so_N h' n = so_N h n := so_N_same0 F.so n
theorem so_1_same {h h' : ab_H} (F : RF h h') (n : Nat) : so_1 h' n = so_1 h n := so_1_same0 F.so n
set_option maxHeartbeats 4000000 in
set_option maxRecDepth 100000 in
theorem j_stood {g : ab_G} {h : ab_H} {w : Int} (I : Inv h) : MethI g 6 m_X7_stood [a_R 62, a_I w] h (fun z h' => z = so_F h w ∧ MF h h' ∧ Inv h') := by
  refine Meth.of_go k_X7_stood (Nat.le_of_ble_eq_true rfl) ?_
  show Go g _ m_X7_stood _ 0 [some (a_R 62), some (a_I w), none, none, none, none, none, none, none] [] h
  refine go_iload_n rfl rfl ?_
  refine go_cS1I (M' := m_X7_isTwo) rfl l_X7_149 k_X7_isTwo (s_X7_isTwo) rfl (by decide) (Nat.le_of_ble_eq_true rfl) (fun z1 h1 q1 => ?_) -- X7_isTwo
  obtain ⟨rfl, rfl⟩ := q1
  refine go_if_ne rfl (tgt := 10) (by decide) (fun c4 => ?_) (fun c4 => ?_)
  · refine go_aload_n rfl rfl ?_
    refine go_cV0I (M' := m_X7_reads) rfl l_X7_140 k_X7_reads (j_reads I) rfl rfl rfl rfl (by decide) (Nat.le_of_ble_eq_true rfl) (fun z11 h11 q11 => ?_) -- X7_reads
    obtain ⟨-, F1, R1, I1⟩ := q11
    refine go_pop rfl ?_
    refine go_iconst rfl ?_
    refine go_istore_n rfl (by decide) rfl ?_
    refine go_iconst rfl ?_
    refine go_istore_n rfl (by decide) rfl ?_
    refine go_iconst rfl ?_
    refine go_istore rfl (by decide) rfl ?_
    have m6 := I1.ro.1
    exact lp_X7_s3 I1 R1 (rd_n1 c4) (fun h2 z e S => ⟨_, rfl, by rw [e]; unfold so_F; rw [so_N_same F1, so_1_same F1, F1.1 1 (by decide)], F1.mf.trans (SM.mf S), I1.mf (SM.mf S)⟩) 8 0 0 (-1) h11 (by omega) (by omega) (by omega) ⟨rfl, rfl⟩ ⟨⟨fun _ _ => rfl, fun _ _ => rfl⟩, rfl, rfl⟩ _ _ _ _
  · refine go_bipush rfl ?_
    exact go_iret rfl (Or.inl rfl) ⟨_, rfl, by unfold so_F; rw [if_neg (rd_n0 c4)], MF.refl h, I⟩
theorem so_F_same {h h' : ab_H} (F : CF h h') (w : Int) : so_F h' w = so_F h w := by
  have e : so_f h' = so_f h := so_same F.k9 (fun k hk => F.1 k (by omega)) (F.2.2 5 (by decide))
  unfold so_F
  rw [so_N_same0 e, so_1_same0 e, F.k9 1 (by omega)]
theorem op_stood {g : ab_G} {h : ab_H} {w : Int} (I : Inv h) : opI g 6 6 m_X6_stood m_X7_stood [a_I w] h := op_q (F := fun h => so_F h w) I (c_stood I) (fun h I => j_stood I) (fun h' F => so_F_same F w)
