/-! the latest minute -/
theorem bt_0 : ∀ k : Int, ¬ wk_tb 0 k = true := fun k => by unfold wk_tb; simp
theorem tb_bt_in {m : Int} {W : tb_W} {t p : Int} (hP : tb_p1 m (W t).2.2) (h : tb_bt m W t p ≠ -1) : 0 ≤ tb_bt m W t p ∧ tb_bt m W t p < m := by
  have F : Fst 0 m (fun i => (W t).1 i = 2 * p) (tb_f m W t p) := fs_ok (by omega)
  unfold tb_bt at h ⊢
  rcases F with ⟨a, -⟩ | ⟨a, b, -⟩
  · rw [if_pos a] at h; exact absurd rfl h
  · rw [if_neg (by omega)]; exact hP.1 _ a b
theorem tb_H_in {m : Int} {W : tb_W} {t b : Int} (hP : tb_p1 m (W t).2.2) (hb : 0 ≤ b ∧ b < m) : (0 ≤ tb_H m W t b ∧ tb_H m W t b < m) ∧ (W t).2.2 (tb_H m W t b) = b := by
  have F : Fst 0 m (fun i => (W t).2.2 i = b) (tb_H m W t b) := fs_ok (by omega)
  rcases F with ⟨a, c⟩ | ⟨a, c, d, -⟩
  · obtain ⟨i, i0, i1, i2⟩ := hP.2.2 b hb.1 hb.2
    exact absurd i2 (c i i0 i1)
  · exact ⟨⟨a, c⟩, d⟩
theorem tb_H_eq {m : Int} {W : tb_W} {t b i : Int} (hP : tb_p1 m (W t).2.2) (hi : 0 ≤ i ∧ i < m) (e : (W t).2.2 i = b) : tb_H m W t b = i := by
  have hb := hP.1 i hi.1 hi.2
  rw [e] at hb
  have := tb_H_in hP hb
  exact hP.2.1 _ _ this.1.1 this.1.2 hi.1 hi.2 (this.2.trans e.symm)
theorem tb_bp_P {m : Int} {W : tb_W} {t b : Int} (hP : tb_p1 m (W t).2.2) (hb : 0 ≤ b ∧ b < m) : tb_bp m W t b = (W t).1 (tb_H m W t b) := by
  have := tb_H_in hP hb
  unfold tb_bp
  rw [if_neg (by omega)]
theorem tb_bp_iff {m : Int} {W : tb_W} {t b v : Int} (hP : tb_p1 m (W t).2.2) (hb : 0 ≤ b ∧ b < m) : tb_bp m W t b = v ↔ ∃ i, 0 ≤ i ∧ i < m ∧ (W t).1 i = v ∧ (W t).2.2 i = b := by
  have := tb_H_in hP hb
  rw [tb_bp_P hP hb]
  constructor
  · intro z; exact ⟨_, this.1.1, this.1.2, z, this.2⟩
  · rintro ⟨i, i0, i1, i2, i3⟩; rw [tb_H_eq hP ⟨i0, i1⟩ i3]; exact i2
def tb_at (m : Int) (W : tb_W) (t p : Int) (b : Int) : Prop := ∃ i, 0 ≤ i ∧ i < m ∧ (W t).1 i = 2 * p ∧ (W t).2.2 i = b
def bs_I (m : Int) (W : tb_W) (t p i z : Int) : Prop := (0 ≤ z ∧ z < 64) ∧ ∀ b, 0 ≤ b → b < 6 → (wk_tb z b = true ↔ ∃ j, 0 ≤ j ∧ j < i ∧ (W t).1 j = 2 * p ∧ (W t).2.2 j = b)
theorem bs_f {m : Int} {W : tb_W} {t p i z : Int} (hi : 0 ≤ i) (I : bs_I m W t p i z) (h : ¬ (W t).1 i = 2 * p) : bs_I m W t p (i + 1) z := by
  refine ⟨I.1, fun b b0 b1 => ⟨fun q => ?_, fun q => ?_⟩⟩
  · obtain ⟨j, a, c, d⟩ := (I.2 b b0 b1).mp q; exact ⟨j, a, by omega, d⟩
  · obtain ⟨j, a, c, d⟩ := q
    refine (I.2 b b0 b1).mpr ⟨j, a, ?_, d⟩
    by_cases e : j = i
    · subst e; exact absurd d.1 h
    · omega
theorem bs_t {m : Int} {W : tb_W} {t p i z : Int} (hi : 0 ≤ i) (I : bs_I m W t p i z) (h : (W t).1 i = 2 * p) (hb : 0 ≤ (W t).2.2 i ∧ (W t).2.2 i < 6) : bs_I m W t p (i + 1) (ab_ior z (ab_ishl 1 ((W t).2.2 i))) := by
  obtain ⟨w1, w2, w3⟩ := wk_or I.1 hb
  refine ⟨⟨w1, w2⟩, fun b b0 b1 => ?_⟩
  rw [w3 b b0 b1, Bool.or_eq_true, I.2 b b0 b1, decide_eq_true_iff]
  constructor
  · rintro (⟨j, a, c, d⟩ | q)
    · exact ⟨j, a, by omega, d⟩
    · exact ⟨i, hi, by omega, h, q.symm⟩
  · rintro ⟨j, a, c, d⟩
    by_cases e : j = i
    · subst e; exact Or.inr d.2.symm
    · exact Or.inl ⟨j, a, by omega, d⟩
set_option maxHeartbeats 4000000 in
set_option maxRecDepth 100000 in
theorem lp_X0_bagsThere {g : ab_G} {h : ab_H} {W : tb_W} {m p t : Int} {Q : Option ab_V → ab_H → Prop} (C : ct m W h) (ht : 0 ≤ t ∧ t ≤ 400) (hp : 0 ≤ p ∧ p ≤ 40) (hP : tb_p1 m (W t).2.2) (hq : ∀ z, bs_I m W t p m z → Q (some (a_I z)) h) : ∀ (f : Nat) (i z : Int), 0 ≤ i → i ≤ m → m - i < f → bs_I m W t p i z → Go g (ab_rm 1, 0, 0) m_X0_bagsThere Q 5 [some (a_R 18), some (a_I p), some (a_I t), some (a_I z), some (a_I i)] [] h := by
  have e5 := C.1
  have e6 := C.2.1
  intro f
  induction f with
  | zero => intro i z h0i h1 hf; omega
  | succ f ih =>
    intro i z h0i h1 hf I
    refine go_iload rfl rfl ?_
    refine go_aload_n rfl rfl ?_
    refine go_getI rfl f_X0_29 rfl rfl rfl ?_ -- men
    refine go_icmp_ge rfl (tgt := 49) (by decide) (fun c11 => ?_) (fun c11 => ?_)
    · refine go_iload_n rfl rfl ?_
      exact go_iret rfl (Or.inl rfl) (hq z (by rw [show i = m by omega] at I; exact I))
    · refine go_aload_n rfl rfl ?_
      refine go_getR rfl f_X0_11 rfl rfl ?_ -- place
      refine go_iload rfl rfl ?_
      refine go_aald rfl rfl (by omega) (by omega) (rf_19 i.toNat (by omega)) ?_
      refine go_iload_n rfl rfl ?_
      refine go_iald rfl (kd_pl (by omega)) (by omega) (by omega) ?_
      rw [(C.2.2 t i ht.1 ht.2 h0i (by omega)).1]
      refine go_iconst rfl ?_
      refine go_iload_n rfl rfl ?_
      refine go_imul rfl (by unfold ab_iok; omega) ?_
      refine go_icmp_ne rfl (tgt := 43) (by decide) (fun c26 => ?_) (fun c26 => ?_)
      · refine go_iinc rfl rfl (by decide) rfl (by unfold ab_iok; omega) ?_
        refine go_goto rfl (tgt := 5) (by decide) ?_
        exact ih (i + 1) _ (by omega) (by omega) (by omega) (bs_f h0i I c26)
      · refine go_iload_n rfl rfl ?_
        refine go_iconst rfl ?_
        refine go_aload_n rfl rfl ?_
        refine go_getR rfl f_X0_19 rfl rfl ?_ -- load
        refine go_iload rfl rfl ?_
        refine go_aald rfl rfl (by omega) (by omega) (rf_21 i.toNat (by omega)) ?_
        refine go_iload_n rfl rfl ?_
        refine go_iald rfl (kd_bg (by omega)) (by omega) (by omega) ?_
        rw [(C.2.2 t i ht.1 ht.2 h0i (by omega)).2.2]
        refine go_ishl rfl ?_
        refine go_ior rfl ?_
        refine go_istore_n rfl (by decide) rfl ?_
        refine go_iinc rfl rfl (by decide) rfl (by unfold ab_iok; omega) ?_
        refine go_goto rfl (tgt := 5) (by decide) ?_
        exact ih (i + 1) _ (by omega) (by omega) (by omega) (bs_t h0i I c26 (by have := hP.1 i h0i (by omega); omega))
set_option maxHeartbeats 4000000 in
set_option maxRecDepth 100000 in
theorem s_X0_bagsThere {g : ab_G} {h : ab_H} {W : tb_W} {m p t : Int} (C : ct m W h) (ht : 0 ≤ t ∧ t ≤ 400) (hp : 0 ≤ p ∧ p ≤ 40) (hP : tb_p1 m (W t).2.2) : MethI g 1 m_X0_bagsThere [a_R 18, a_I p, a_I t] h (fun z h' => h = h' ∧ bs_I m W t p m z) := by
  refine Meth.of_go k_X0_bagsThere (Nat.le_of_ble_eq_true rfl) ?_
  show Go g _ m_X0_bagsThere _ 0 [some (a_R 18), some (a_I p), some (a_I t), none, none] [] h
  refine go_iconst rfl ?_
  refine go_istore_n rfl (by decide) rfl ?_
  refine go_iconst rfl ?_
  refine go_istore rfl (by decide) rfl ?_
  exact lp_X0_bagsThere C ht hp hP (fun z F => ⟨_, rfl, rfl, F⟩) 8 0 0 (by omega) C.2.1.1 (by have := C.2.1; omega) ⟨by omega, fun b b0 b1 => ⟨fun z => absurd z (bt_0 b), fun ⟨j, a, c, d⟩ => by omega⟩⟩
/-- a letter given in at half minute t comes by T -/
def tb_cm (m : Int) (W : tb_W) (p q T t : Int) : Prop := ∃ k, t ≤ k ∧ k ≤ T ∧ tb_bt m W k p ≠ -1 ∧ (∀ j, t ≤ j → j < k → tb_bt m W j p = -1) ∧ ∃ s, k ≤ s ∧ s ≤ T ∧ tb_bp m W s (tb_bt m W k p) = 2 * q
theorem tb_cm_n {m : Int} {W : tb_W} {p q T t : Int} (h : tb_bt m W t p = -1) : tb_cm m W p q T t ↔ tb_cm m W p q T (t + 1) := by
  constructor
  · rintro ⟨k, k0, k1, k2, k3, k4⟩
    refine ⟨k, ?_, k1, k2, fun j j0 j1 => k3 j (by omega) j1, k4⟩
    by_cases e : k = t
    · subst e; exact absurd h k2
    · omega
  · rintro ⟨k, k0, k1, k2, k3, k4⟩
    refine ⟨k, by omega, k1, k2, fun j j0 j1 => ?_, k4⟩
    by_cases e : j = t
    · subst e; exact h
    · exact k3 j (by omega) j1
theorem tb_cm_t {m : Int} {W : tb_W} {p q T t : Int} (h : tb_bt m W t p ≠ -1) (ht : t ≤ T) : tb_cm m W p q T t ↔ ∃ s, t ≤ s ∧ s ≤ T ∧ tb_bp m W s (tb_bt m W t p) = 2 * q := by
  constructor
  · rintro ⟨k, k0, k1, k2, k3, k4⟩
    by_cases e : k = t
    · subst e; exact k4
    · exact absurd (k3 t (by omega) (by omega)) h
  · intro z; exact ⟨t, by omega, ht, h, fun j j0 j1 => by omega, z⟩
/-- the greatest minute -/
def Lst (q : Int → Prop) (z : Int) : Prop := (z = -1 ∧ ∀ u, 0 ≤ u → u ≤ 199 → ¬ q u) ∨ (0 ≤ z ∧ z ≤ 199 ∧ q z ∧ ∀ u, z < u → u ≤ 199 → ¬ q u)
def lm_I (m : Int) (W : tb_W) (p q T t it cs : Int) : Prop := (0 ≤ it ∧ it < 64) ∧ (∀ b, 0 ≤ b → b < m → (wk_tb it b = true ↔ ∃ s, t < s ∧ s ≤ T ∧ tb_bp m W s b = 2 * q)) ∧ cs = rd_bool (tb_cm m W p q T (t + 1)) ∧ ∀ u, u ≤ 199 → t < 2 * u → ¬ tb_cm m W p q T (2 * u)
theorem wk_ior0 : ∀ a, a < 64 → ∀ b, b < 64 → ab_ior (Int.ofNat a) (Int.ofNat b) = Int.ofNat (a ||| b) ∧ a ||| b < 64 := by decide +kernel
theorem wk_ior {a b : Int} (ha : 0 ≤ a ∧ a < 64) (hb : 0 ≤ b ∧ b < 64) : (0 ≤ ab_ior a b ∧ ab_ior a b < 64) ∧ ∀ k, wk_tb (ab_ior a b) k = (wk_tb a k || wk_tb b k) := by
  have h := wk_ior0 a.toNat (by omega) b.toNat (by omega)
  rw [show Int.ofNat a.toNat = a by exact Int.toNat_of_nonneg ha.1, show Int.ofNat b.toNat = b by exact Int.toNat_of_nonneg hb.1] at h
  refine ⟨⟨by rw [h.1]; exact Int.natCast_nonneg _, by rw [h.1]; exact Int.ofNat_lt.mpr h.2⟩, fun k => ?_⟩
  unfold wk_tb
  rw [h.1]
  exact Nat.testBit_or _ _ _
theorem lm_it {m : Int} {W : tb_W} {p q T t it cs z : Int} (hm : m ≤ 6) (hP : tb_p1 m (W t).2.2) (ht : t ≤ T) (I : lm_I m W p q T t it cs) (hz : bs_I m W t q m z) : (0 ≤ ab_ior it z ∧ ab_ior it z < 64) ∧ ∀ b, 0 ≤ b → b < m → (wk_tb (ab_ior it z) b = true ↔ ∃ s, t - 1 < s ∧ s ≤ T ∧ tb_bp m W s b = 2 * q) := by
  obtain ⟨o1, o2⟩ := wk_ior I.1 hz.1
  refine ⟨o1, fun b b0 b1 => ?_⟩
  rw [o2, Bool.or_eq_true, I.2.1 b b0 b1, hz.2 b b0 (by omega), ← tb_bp_iff hP ⟨b0, b1⟩]
  constructor
  · rintro (⟨s, s0, s1, s2⟩ | y)
    · exact ⟨s, by omega, s1, s2⟩
    · exact ⟨t, by omega, ht, y⟩
  · rintro ⟨s, s0, s1, s2⟩
    by_cases e : s = t
    · subst e; exact Or.inr s2
    · exact Or.inl ⟨s, by omega, s1, s2⟩
theorem lm_nx {m : Int} {W : tb_W} {p q T t it cs it' cs' : Int} (I : lm_I m W p q T t it cs) (h1 : (0 ≤ it' ∧ it' < 64) ∧ ∀ b, 0 ≤ b → b < m → (wk_tb it' b = true ↔ ∃ s, t - 1 < s ∧ s ≤ T ∧ tb_bp m W s b = 2 * q)) (h2 : cs' = rd_bool (tb_cm m W p q T t)) (h3 : ¬ (tb_cm m W p q T t ∧ ∃ u, u ≤ 199 ∧ t = 2 * u)) : lm_I m W p q T (t - 1) it' cs' := by
  refine ⟨h1.1, h1.2, by rw [show t - 1 + 1 = t by omega]; exact h2, fun u u1 u2 z => ?_⟩
  by_cases e : t = 2 * u
  · subst e; exact h3 ⟨z, u, u1, rfl⟩
  · exact I.2.2.2 u u1 (by omega) z
theorem ab_dv {x y : Int} (hx : 0 ≤ x ∧ x ≤ 2147483647) (hy : 1 ≤ y ∧ y ≤ 2147483647) : Int32.ofInt x / Int32.ofInt y = Int32.ofInt (x / y) := by
  have q1 : 0 ≤ x / y := Int.ediv_nonneg hx.1 (by omega)
  have q2 : x / y ≤ x := Int.ediv_le_self _ hx.1
  rw [← Int32.toInt_inj, Int32.toInt_div, ab_ti (by unfold ab_iok; omega), ab_ti (by unfold ab_iok; omega), ab_ti (by unfold ab_iok; omega), Int.tdiv_eq_ediv_of_nonneg hx.1]
  exact Int.bmod_eq_of_le (by omega) (by omega)
theorem ab_idv {x y : Int} (hx : 0 ≤ x ∧ x ≤ 2147483647) (hy : 1 ≤ y ∧ y ≤ 2147483647) : ab_idiv x y = x / y := by
  have q1 : 0 ≤ x / y := Int.ediv_nonneg hx.1 (by omega)
  have q2 : x / y ≤ x := Int.ediv_le_self _ hx.1
  unfold ab_idiv
  rw [ab_dv hx hy, ab_ti (by unfold ab_iok; omega)]
theorem ab_irm {x y : Int} (hx : 0 ≤ x ∧ x ≤ 2147483647) (hy : 1 ≤ y ∧ y ≤ 2147483647) : ab_irem x y = x % y := by
  have q1 := Int.emod_nonneg x (show y ≠ 0 by omega)
  have q2 := Int.emod_lt_of_pos x (show 0 < y by omega)
  have q3 := Int.emod_def x y
  unfold ab_irem
  rw [ab_dv hx hy, ← Int32.ofInt_mul, ← Int32.ofInt_sub, Int.mul_comm, ← q3, ab_ti (by unfold ab_iok; omega)]
set_option maxHeartbeats 4000000 in
set_option maxRecDepth 100000 in
theorem lp_X0_latestMinute {g : ab_G} {h : ab_H} {W : tb_W} {m p q T : Int} {Q : Option ab_V → ab_H → Prop} (C : ct m W h) (hW : tb_pm m W) (hT : T ≤ 400) (hp : 0 ≤ p ∧ p ≤ 40) (hq : 0 ≤ q ∧ q ≤ 40) (hz : ∀ z, Lst (fun u => tb_cm m W p q T (2 * u)) z → Q (some (a_I z)) h) : ∀ (f : Nat) (t it cs : Int), -1 ≤ t → t ≤ T → t + 1 < f → lm_I m W p q T t it cs → ∀ v, Go g (ab_rm 2, 0, 0) m_X0_latestMinute Q 9 [some (a_R 18), some (a_I p), some (a_I q), some (a_I T), some (a_I it), some (a_I cs), some (a_I t), v] [] h := by
  have e6 := C.2.1
  intro f
  induction f with
  | zero => intro t it cs h0t h1 hf; omega
  | succ f ih =>
    intro t it cs h0t h1 hf I v
    have I1 := I.1
    refine go_iload rfl rfl ?_
    refine go_if_lt rfl (tgt := 91) (by decide) (fun c11 => ?_) (fun c11 => ?_)
    · refine go_iconst rfl ?_
      exact go_iret rfl (Or.inl rfl) (hz _ (Or.inl ⟨rfl, fun u u0 u1 => I.2.2.2 u u1 (by omega)⟩))
    · refine go_iload rfl rfl ?_
      refine go_aload_n rfl rfl ?_
      refine go_iload_n rfl rfl ?_
      refine go_iload rfl rfl ?_
      refine go_cV2I (M' := m_X0_bagsThere) rfl l_X0_68 k_X0_bagsThere (s_X0_bagsThere C (by omega) hq (hW t (by omega) (by omega))) rfl rfl rfl rfl (by decide) (Nat.le_of_ble_eq_true rfl) (fun z20 h20 q20 => ?_) -- X0_bagsThere
      obtain ⟨rfl, q20⟩ := q20
      have o1 := lm_it C.2.1.2 (hW t (by omega) (by omega)) (by omega) I q20
      refine go_ior rfl ?_
      refine go_istore rfl (by decide) rfl ?_
      refine go_aload_n rfl rfl ?_
      refine go_iload_n rfl rfl ?_
      refine go_iload rfl rfl ?_
      refine go_cV2I (M' := m_X0_bagThere) rfl l_X0_58 k_X0_bagThere (s_X0_bagThere C (by omega) hp) rfl rfl rfl rfl (by decide) (Nat.le_of_ble_eq_true rfl) (fun z30 h30 q30 => ?_) -- X0_bagThere
      obtain ⟨rfl, rfl⟩ := q30
      refine go_istore rfl (by decide) rfl ?_
      refine go_iload rfl rfl ?_
      refine go_iconst rfl ?_
      refine go_icmp_eq rfl (tgt := 58) (by decide) (fun c38 => ?_) (fun c38 => ?_)
      · have hcs : cs = rd_bool (tb_cm m W p q T t) := by rw [I.2.2.1]; exact rd_iff (tb_cm_n c38).symm
        refine go_iload rfl rfl ?_
        refine go_if_eq rfl (tgt := 85) (by decide) (fun c60 => ?_) (fun c60 => ?_)
        · refine go_iinc rfl rfl (by decide) rfl (by unfold ab_iok; omega) ?_
          refine go_goto rfl (tgt := 9) (by decide) ?_
          exact ih (t - 1) _ _ (by omega) (by omega) (by omega) (lm_nx I o1 hcs (fun z => rd_n0 (hcs.symm.trans c60) z.1)) _
        · refine go_iload rfl rfl ?_
          refine go_iconst rfl ?_
          refine go_irem rfl (by omega) ?_
          rw [ab_irm (by omega) (by omega)]
          refine go_if_ne rfl (tgt := 85) (by decide) (fun c67 => ?_) (fun c67 => ?_)
          · refine go_iinc rfl rfl (by decide) rfl (by unfold ab_iok; omega) ?_
            refine go_goto rfl (tgt := 9) (by decide) ?_
            exact ih (t - 1) _ _ (by omega) (by omega) (by omega) (lm_nx I o1 hcs (fun ⟨a, u, b, c⟩ => by omega)) _
          · refine go_iload rfl rfl ?_
            refine go_iconst rfl ?_
            refine go_idiv rfl (by omega) ?_
            rw [ab_idv (by omega) (by omega)]
            refine go_sipush rfl ?_
            refine go_icmp_gt rfl (tgt := 85) (by decide) (fun c77 => ?_) (fun c77 => ?_)
            · refine go_iinc rfl rfl (by decide) rfl (by unfold ab_iok; omega) ?_
              refine go_goto rfl (tgt := 9) (by decide) ?_
              exact ih (t - 1) _ _ (by omega) (by omega) (by omega) (lm_nx I o1 hcs (fun ⟨a, u, b, c⟩ => by omega)) _
            · refine go_iload rfl rfl ?_
              refine go_iconst rfl ?_
              refine go_idiv rfl (by omega) ?_
              rw [ab_idv (by omega) (by omega)]
              exact go_iret rfl (Or.inl rfl) (hz _ (Or.inr ⟨by omega, by omega, by show tb_cm m W p q T (2 * (t / 2)); rw [show 2 * (t / 2) = t by omega]; exact rd_n1 (fun y => c60 (hcs.trans y)), fun u u0 u1 => I.2.2.2 u u1 (by omega)⟩))
      · refine go_iload rfl rfl ?_
        refine go_iload rfl rfl ?_
        refine go_ishr rfl ?_
        refine go_iconst rfl ?_
        refine go_iand rfl ?_
        have hbi := tb_bt_in (hW t (by omega) (by omega)) c38
        rw [wk_bit o1.1 (by omega)]
        have hcm := (tb_cm_t (q := q) c38 (show t ≤ T by omega)).trans ((o1.2 (tb_bt m W t p) hbi.1 hbi.2).trans ⟨fun ⟨s, a, b, c⟩ => ⟨s, by omega, b, c⟩, fun ⟨s, a, b, c⟩ => ⟨s, by omega, b, c⟩⟩).symm
        refine go_if_eq rfl (tgt := 55) (by decide) (fun c48 => ?_) (fun c48 => ?_)
        · refine go_iconst rfl ?_
          have hcs : (0 : Int) = rd_bool (tb_cm m W p q T t) := (rd_f (fun y => by have z := hcm.mp y; rw [if_pos z] at c48; omega)).symm
          refine go_istore rfl (by decide) rfl ?_
          refine go_iload rfl rfl ?_
          refine go_if_eq rfl (tgt := 85) (by decide) (fun c60 => ?_) (fun c60 => ?_)
          · refine go_iinc rfl rfl (by decide) rfl (by unfold ab_iok; omega) ?_
            refine go_goto rfl (tgt := 9) (by decide) ?_
            exact ih (t - 1) _ _ (by omega) (by omega) (by omega) (lm_nx I o1 hcs (fun z => rd_n0 (hcs.symm.trans c60) z.1)) _
          · exact absurd rfl c60
        · refine go_iconst rfl ?_
          refine go_goto rfl (tgt := 56) (by decide) ?_
          have hcs : (1 : Int) = rd_bool (tb_cm m W p q T t) := (rd_t (hcm.mpr (Classical.byContradiction fun y => c48 (if_neg y)))).symm
          refine go_istore rfl (by decide) rfl ?_
          refine go_iload rfl rfl ?_
          refine go_if_eq rfl (tgt := 85) (by decide) (fun c60 => ?_) (fun c60 => ?_)
          · exact absurd c60 (by decide)
          · refine go_iload rfl rfl ?_
            refine go_iconst rfl ?_
            refine go_irem rfl (by omega) ?_
            rw [ab_irm (by omega) (by omega)]
            refine go_if_ne rfl (tgt := 85) (by decide) (fun c67 => ?_) (fun c67 => ?_)
            · refine go_iinc rfl rfl (by decide) rfl (by unfold ab_iok; omega) ?_
              refine go_goto rfl (tgt := 9) (by decide) ?_
              exact ih (t - 1) _ _ (by omega) (by omega) (by omega) (lm_nx I o1 hcs (fun ⟨a, u, b, c⟩ => by omega)) _
            · refine go_iload rfl rfl ?_
              refine go_iconst rfl ?_
              refine go_idiv rfl (by omega) ?_
              rw [ab_idv (by omega) (by omega)]
              refine go_sipush rfl ?_
              refine go_icmp_gt rfl (tgt := 85) (by decide) (fun c77 => ?_) (fun c77 => ?_)
              · refine go_iinc rfl rfl (by decide) rfl (by unfold ab_iok; omega) ?_
                refine go_goto rfl (tgt := 9) (by decide) ?_
                exact ih (t - 1) _ _ (by omega) (by omega) (by omega) (lm_nx I o1 hcs (fun ⟨a, u, b, c⟩ => by omega)) _
              · refine go_iload rfl rfl ?_
                refine go_iconst rfl ?_
                refine go_idiv rfl (by omega) ?_
                rw [ab_idv (by omega) (by omega)]
                exact go_iret rfl (Or.inl rfl) (hz _ (Or.inr ⟨by omega, by omega, by show tb_cm m W p q T (2 * (t / 2)); rw [show 2 * (t / 2) = t by omega]; exact rd_n1 (fun y => c60 (hcs.trans y)), fun u u0 u1 => I.2.2.2 u u1 (by omega)⟩))
set_option maxHeartbeats 4000000 in
set_option maxRecDepth 100000 in
theorem s_X0_latestMinute {g : ab_G} {h : ab_H} {W : tb_W} {m p q T : Int} (C : ct m W h) (hW : tb_pm m W) (hT : 0 ≤ T ∧ T ≤ 400) (hp : 0 ≤ p ∧ p ≤ 40) (hq : 0 ≤ q ∧ q ≤ 40) : MethI g 2 m_X0_latestMinute [a_R 18, a_I p, a_I q, a_I T] h (fun z h' => h = h' ∧ Lst (fun u => tb_cm m W p q T (2 * u)) z) := by
  refine Meth.of_go k_X0_latestMinute (Nat.le_of_ble_eq_true rfl) ?_
  show Go g _ m_X0_latestMinute _ 0 [some (a_R 18), some (a_I p), some (a_I q), some (a_I T), none, none, none, none] [] h
  refine go_iconst rfl ?_
  refine go_istore rfl (by decide) rfl ?_
  refine go_iconst rfl ?_
  refine go_istore rfl (by decide) rfl ?_
  refine go_iload_n rfl rfl ?_
  refine go_istore rfl (by decide) rfl ?_
  exact lp_X0_latestMinute C hW hT.2 hp hq (fun z F => ⟨_, rfl, rfl, F⟩) 500 T 0 0 (by omega) (by omega) (by omega) ⟨by omega, fun b b0 b1 => ⟨fun z => absurd z (bt_0 b), fun ⟨j, a, c, d⟩ => by omega⟩, (rd_f (fun ⟨k, a, b, c⟩ => by omega)).symm, fun u u0 u1 ⟨k, a, b, c⟩ => by omega⟩ _
