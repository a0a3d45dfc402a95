/-! houses served -/
def vi (m w : Int) (W : tb_W) (p t : Int) : Prop := ∃ i, 0 ≤ i ∧ i < m ∧ wk_tb w i = true ∧ (W t).1 i = 2 * p
def sv (h : ab_H) (w n g : Int) : Prop := ∀ r, 0 ≤ r → r < n / g → ∀ j, 0 ≤ j → j < h 1 9 → ∃ t, 2 * g * r ≤ t ∧ t < 2 * g * r + 2 * g ∧ vi (h 1 8) w (tW h w) (h 6 j) t
def WF (h h' : ab_H) : Prop := ∀ k, ¬ (10 ≤ k ∧ k ≤ 17) → h' k = h k
theorem wk_ext0 : ∀ a, a < 64 → ∀ b, b < 64 → (∀ k, k < 6 → Nat.testBit a k = Nat.testBit b k) → a = b := by decide +kernel
theorem wk_ext {a b : Int} (ha : 0 ≤ a ∧ a < 64) (hb : 0 ≤ b ∧ b < 64) (h : ∀ k, 0 ≤ k → k < 6 → wk_tb a k = wk_tb b k) : a = b := by
  have := wk_ext0 a.toNat (by omega) b.toNat (by omega) (fun k hk => h k (by omega) (by omega))
  omega
def hv_I (h : ab_H) (i z : Int) : Prop := (0 ≤ z ∧ z < 64) ∧ ∀ k, 0 ≤ k → k < 6 → (wk_tb z k = true ↔ k < i ∧ ∃ j, 0 ≤ j ∧ j < h 10 7 ∧ wk_tb (h 10 8) j = true ∧ h 11 j = 2 * h 6 k)
theorem hv_f {h : ab_H} {i z : Int} (hi : 0 ≤ i) (I : hv_I h i z) (n : ∀ j, 0 ≤ j → j < h 10 7 → ¬ (wk_tb (h 10 8) j = true ∧ h 11 j = 2 * h 6 i)) : hv_I h (i + 1) z := by
  refine ⟨I.1, fun k k0 k1 => (I.2 k k0 k1).trans ⟨fun ⟨a, b⟩ => ⟨by omega, b⟩, fun ⟨a, j, j0, j1, j2, j3⟩ => ⟨?_, j, j0, j1, j2, j3⟩⟩⟩
  by_cases e : k = i
  · subst e; exact absurd ⟨j2, j3⟩ (n j j0 j1)
  · omega
theorem hv_t {h : ab_H} {i z j : Int} (hi : 0 ≤ i ∧ i < 6) (I : hv_I h i z) (y : 0 ≤ j ∧ j < h 10 7 ∧ wk_tb (h 10 8) j = true ∧ h 11 j = 2 * h 6 i) : hv_I h (i + 1) (ab_ior z (ab_ishl 1 i)) := by
  obtain ⟨w1, w2, w3⟩ := wk_or I.1 hi
  refine ⟨⟨w1, w2⟩, fun k k0 k1 => ?_⟩
  rw [w3 k k0 k1, Bool.or_eq_true, I.2 k k0 k1, decide_eq_true_iff]
  constructor
  · rintro (⟨a, b⟩ | e)
    · exact ⟨by omega, b⟩
    · subst e; exact ⟨by omega, j, y⟩
  · rintro ⟨a, b⟩
    by_cases e : k = i
    · exact Or.inr e
    · exact Or.inl ⟨by omega, b⟩
set_option maxHeartbeats 4000000 in
set_option maxRecDepth 100000 in
theorem lp_X6_housesVisited {g : ab_G} {h : ab_H} {Q : Option ab_V → ab_H → Prop} (hm : 0 ≤ h 10 7 ∧ h 10 7 ≤ 6) (hw : 0 ≤ h 10 8 ∧ h 10 8 < 64) (h9 : 0 ≤ h 1 9 ∧ h 1 9 ≤ 6) (hH : ∀ i, 0 ≤ i → i < h 1 9 → 0 ≤ h 6 i ∧ h 6 i ≤ 40) (hq : ∀ z, hv_I h (h 1 9) z → Q (some (a_I z)) h) : ∀ (f : Nat) (i z : Int), 0 ≤ i → i ≤ h 1 9 → h 1 9 - i < f → hv_I h i z → Go g (ab_rm 2, 0, 0) m_X6_housesVisited Q 4 [some (a_R 0), some (a_I z), some (a_I i)] [] h := by
  intro f
  induction f with
  | zero => intro i z h0i h1 hf; omega
  | succ f ih =>
    intro i z h0i h1 hf J
    refine go_iload_n rfl rfl ?_
    refine go_aload_n rfl rfl ?_
    refine go_getR rfl f_X6_10 rfl rfl ?_ -- road
    refine go_getI rfl f_X6_86 rfl rfl rfl ?_ -- houses
    refine go_icmp_ge rfl (tgt := 49) (by decide) (fun c12 => ?_) (fun c12 => ?_)
    · refine go_iload_n rfl rfl ?_
      exact go_iret rfl (Or.inl rfl) (hq z (by rw [show i = h 1 9 by omega] at J; exact J))
    · have y6 := hH i h0i (by omega)
      refine go_aload_n rfl rfl ?_
      refine go_getR rfl f_X6_26 rfl rfl ?_ -- walk
      refine go_iconst rfl ?_
      refine go_aload_n rfl rfl ?_
      refine go_getR rfl f_X6_10 rfl rfl ?_ -- road
      refine go_getR rfl f_X6_89 rfl rfl ?_ -- housePace
      refine go_iload_n rfl rfl ?_
      refine go_iald rfl rfl (by omega) (by omega) ?_
      refine go_imul rfl (by unfold ab_iok; omega) ?_
      refine go_cV1I (M' := m_X5_firstThere) rfl l_X6_338 k_X5_firstThere (s_X5_firstThere hm hw) rfl rfl rfl rfl (by decide) (Nat.le_of_ble_eq_true rfl) (fun z30 h30 q30 => ?_) -- X5_firstThere
      obtain ⟨rfl, q30⟩ := q30
      refine go_iconst rfl ?_
      refine go_icmp_eq rfl (tgt := 43) (by decide) (fun c34 => ?_) (fun c34 => ?_)
      · refine go_iinc rfl rfl (by decide) rfl (by unfold ab_iok; omega) ?_
        refine go_goto rfl (tgt := 4) (by decide) ?_
        exact ih (i + 1) _ (by omega) (by omega) (by omega) (by rcases q30 with ⟨-, y⟩ | ⟨y0, -⟩; exact hv_f h0i J y; omega)
      · refine go_iload_n rfl rfl ?_
        refine go_iconst rfl ?_
        refine go_iload_n rfl rfl ?_
        refine go_ishl rfl ?_
        refine go_ior rfl ?_
        refine go_istore_n rfl (by decide) rfl ?_
        refine go_iinc rfl rfl (by decide) rfl (by unfold ab_iok; omega) ?_
        refine go_goto rfl (tgt := 4) (by decide) ?_
        exact ih (i + 1) _ (by omega) (by omega) (by omega) (by rcases q30 with ⟨y, -⟩ | ⟨y0, y1, y2, -⟩; exact absurd y c34; exact hv_t ⟨h0i, by omega⟩ J ⟨y0, y1, y2.1, y2.2⟩)
set_option maxHeartbeats 4000000 in
set_option maxRecDepth 100000 in
theorem s_X6_housesVisited {g : ab_G} {h : ab_H} (hm : 0 ≤ h 10 7 ∧ h 10 7 ≤ 6) (hw : 0 ≤ h 10 8 ∧ h 10 8 < 64) (h9 : 0 ≤ h 1 9 ∧ h 1 9 ≤ 6) (hH : ∀ i, 0 ≤ i → i < h 1 9 → 0 ≤ h 6 i ∧ h 6 i ≤ 40) : MethI g 2 m_X6_housesVisited [a_R 0] h (fun z h' => h = h' ∧ hv_I h (h 1 9) z) := by
  refine Meth.of_go k_X6_housesVisited (Nat.le_of_ble_eq_true rfl) ?_
  show Go g _ m_X6_housesVisited _ 0 [some (a_R 0), none, none] [] h
  refine go_iconst rfl ?_
  refine go_istore_n rfl (by decide) rfl ?_
  refine go_iconst rfl ?_
  refine go_istore_n rfl (by decide) rfl ?_
  exact lp_X6_housesVisited hm hw h9 hH (fun z F => ⟨_, rfl, rfl, F⟩) 8 0 0 (by omega) (by omega) (by omega) ⟨by omega, fun k k0 k1 => ⟨fun z => absurd z (bt_0 k), fun y => absurd y.1 (by omega)⟩⟩
theorem bk_mod {row r t : Int} (hr : 1 ≤ row) (h0 : row * r ≤ t) (h1 : t < row * r + row) : (t + 1) % row = 0 ↔ t + 1 = row * r + row := by
  have e : t + 1 = (t + 1 - row * r) + row * r := by omega
  have e2 : (t + 1) % row = (t + 1 - row * r) % row := by
    rw [e, Int.add_mul_emod_self_left, show t + 1 - row * r + row * r - row * r = t + 1 - row * r by omega]
  rw [e2]
  by_cases z : t + 1 - row * r = row
  · rw [z, Int.emod_self]; exact ⟨fun _ => by omega, fun _ => rfl⟩
  · rw [Int.emod_eq_of_lt (by omega) (by omega)]
    exact ⟨fun y => by omega, fun y => by omega⟩
theorem bk_N {n g : Int} (hn : 1 ≤ n ∧ n ≤ 200) (hg : 1 ≤ g ∧ g ≤ 99) : 0 ≤ n / g ∧ n / g ≤ 200 ∧ 2 * g * (n / g) ≤ 2 * n ∧ 0 ≤ 2 * g * (n / g) := by
  have a := Int.ediv_nonneg (show 0 ≤ n by omega) (show 0 ≤ g by omega)
  have b := Int.ediv_le_self g (show 0 ≤ n by omega)
  have c := Int.ediv_mul_le n (show g ≠ 0 by omega)
  refine ⟨a, by omega, ?_, Int.mul_nonneg (by omega) a⟩
  rw [Int.mul_assoc, Int.mul_comm g]
  omega
theorem bk_lt {row r N t : Int} (hr : 1 ≤ row) (h0 : row * r ≤ t) (h1 : t < row * N) : r < N := by
  apply Int.lt_of_mul_lt_mul_left (a := row) _ (by omega)
  omega
/-- while a walk is watched: block r, the houses seen in it -/
def se_J (H : Int) (V : Int → Int → Prop) (row r t seen : Int) : Prop := (row * r ≤ t ∧ t < row * r + row ∧ 0 ≤ r) ∧ (∀ q, 0 ≤ q → q < r → ∀ j, 0 ≤ j → j < H → ∃ s, row * q ≤ s ∧ s < row * q + row ∧ V j s) ∧ (0 ≤ seen ∧ seen < 64) ∧ ∀ k, 0 ≤ k → k < 6 → (wk_tb seen k = true ↔ k < H ∧ ∃ s, row * r ≤ s ∧ s < t ∧ V k s)
theorem se_or {H : Int} {V : Int → Int → Prop} {row r t seen z : Int} (J : se_J H V row r t seen) (hz : 0 ≤ z ∧ z < 64) (hv : ∀ k, 0 ≤ k → k < 6 → (wk_tb z k = true ↔ k < H ∧ V k t)) : (0 ≤ ab_ior seen z ∧ ab_ior seen z < 64) ∧ ∀ k, 0 ≤ k → k < 6 → (wk_tb (ab_ior seen z) k = true ↔ k < H ∧ ∃ s, row * r ≤ s ∧ s < t + 1 ∧ V k s) := by
  obtain ⟨o1, o2⟩ := wk_ior J.2.2.1 hz
  refine ⟨o1, fun k k0 k1 => ?_⟩
  rw [o2, Bool.or_eq_true, J.2.2.2 k k0 k1, hv k k0 k1]
  constructor
  · rintro (⟨a, s, s0, s1, s2⟩ | ⟨a, b⟩)
    · exact ⟨a, s, s0, by omega, s2⟩
    · exact ⟨a, t, J.1.1, by omega, b⟩
  · rintro ⟨a, s, s0, s1, s2⟩
    by_cases e : s = t
    · subst e; exact Or.inr ⟨a, s2⟩
    · exact Or.inl ⟨a, s, s0, by omega, s2⟩
theorem se_in {H : Int} {V : Int → Int → Prop} {row r t seen seen' : Int} (J : se_J H V row r t seen) (h1 : ¬ t + 1 = row * r + row) (o : (0 ≤ seen' ∧ seen' < 64) ∧ ∀ k, 0 ≤ k → k < 6 → (wk_tb seen' k = true ↔ k < H ∧ ∃ s, row * r ≤ s ∧ s < t + 1 ∧ V k s)) : se_J H V row r (t + 1) seen' := ⟨by have := J.1; omega, J.2.1, o.1, o.2⟩
theorem se_all {H seen : Int} {q : Int → Prop} (hH : 0 ≤ H ∧ H ≤ 6) (hs : 0 ≤ seen ∧ seen < 64) (o : ∀ k, 0 ≤ k → k < 6 → (wk_tb seen k = true ↔ k < H ∧ q k)) : seen = am_n H ↔ ∀ j, 0 ≤ j → j < H → q j := by
  obtain ⟨a1, a2⟩ := am_in hH
  constructor
  · intro e j j0 j1
    have := (a2 j j0 (by omega)).mpr j1
    rw [← e] at this
    exact ((o j j0 (by omega)).mp this).2
  · intro y
    refine wk_ext hs a1 (fun k k0 k1 => ?_)
    rw [Bool.eq_iff_iff, o k k0 k1, a2 k k0 k1]
    exact ⟨fun z => z.1, fun z => ⟨z, y k k0 z⟩⟩
theorem se_next {H : Int} {V : Int → Int → Prop} {row r t seen : Int} (hr : 1 ≤ row) (J : se_J H V row r t seen) (h1 : t + 1 = row * r + row) (o : ∀ j, 0 ≤ j → j < H → ∃ s, row * r ≤ s ∧ s < t + 1 ∧ V j s) : se_J H V row (r + 1) (t + 1) 0 := by
  have e : row * (r + 1) = row * r + row := by rw [Int.mul_add, Int.mul_one]
  refine ⟨by have := J.1; omega, fun q q0 q1 => ?_, by omega, fun k k0 k1 => ⟨fun z => absurd z (bt_0 k), fun ⟨a, s, s0, s1, s2⟩ => by omega⟩⟩
  by_cases e2 : q = r
  · subst e2; intro j j0 j1; obtain ⟨s, s0, s1, s2⟩ := o j j0 j1; exact ⟨s, s0, by omega, s2⟩
  · exact J.2.1 q q0 (by omega)
theorem sv_V {h0 h1 h : ab_H} {w t p : Int} (hr : ro_in h0) (hw : 0 ≤ w ∧ w < 64) (I : sw_I h0 w (h0 1 8) h1) (R : rw_at h1 t.toNat h) : (∃ j, 0 ≤ j ∧ j < h 10 7 ∧ wk_tb (h 10 8) j = true ∧ h 11 j = 2 * p) ↔ vi (h0 1 8) w (tW h0 w) p t := by
  have e7 : h 10 7 = h0 1 8 := by rw [R.2.2.2.2.2.1 7 (by decide)]; exact I.1.1
  have e8 : h 10 8 = w := by rw [R.2.2.2.2.2.1 8 (by decide)]; exact I.1.2.1
  have E := sw_W hr hw I t.toNat
  have e0 : h1 10 7 = h0 1 8 := I.1.1
  rw [e7, e8]
  have key : ∀ j, 0 ≤ j → j < h0 1 8 → h 11 j = (tW h0 w t).1 j := fun j j0 j1 => (R.1 j j0 (by rw [e0]; exact j1)).1.trans (E j j0 j1).1
  constructor
  · rintro ⟨j, j0, j1, j2, j3⟩; exact ⟨j, j0, j1, j2, by rw [← key j j0 j1]; exact j3⟩
  · rintro ⟨j, j0, j1, j2, j3⟩; exact ⟨j, j0, j1, j2, by rw [key j j0 j1]; exact j3⟩
theorem sv_end {H N row t r seen : Int} {V : Int → Int → Prop} (hr : 1 ≤ row) (J : se_J H V row r t seen) (h1 : t = row * N) : ∀ q, 0 ≤ q → q < N → ∀ j, 0 ≤ j → j < H → ∃ s, row * q ≤ s ∧ s < row * q + row ∧ V j s := by
  intro q q0 q1
  refine J.2.1 q q0 ?_
  have : N < r + 1 := by
    apply Int.lt_of_mul_lt_mul_left (a := row) _ (by omega)
    have e : row * (r + 1) = row * r + row := by rw [Int.mul_add, Int.mul_one]
    have := J.1
    omega
  omega
set_option maxHeartbeats 4000000 in
set_option maxRecDepth 100000 in
theorem lp_X6_serve {g : ab_G} {h0 h1 : ab_H} {w n gg row N : Int} {Q : Option ab_V → ab_H → Prop} (hr : ro_in h0) (hw : 0 ≤ w ∧ w < 64) (hb0 : ∀ k, h0 1 8 ≤ k → k < 6 → ¬ wk_tb w k = true) (I : sw_I h0 w (h0 1 8) h1) (h9 : 0 ≤ h0 1 9 ∧ h0 1 9 ≤ 6) (hH : ∀ i, 0 ≤ i → i < h0 1 9 → 0 ≤ h0 6 i ∧ h0 6 i ≤ h0 1 7) (hrow : 1 ≤ row) (hr2 : row ≤ 200) (hN : row * N ≤ 400) (hq : ∀ h z, z = rd_bool (∀ q, 0 ≤ q → q < N → ∀ j, 0 ≤ j → j < h0 1 9 → ∃ s, row * q ≤ s ∧ s < row * q + row ∧ vi (h0 1 8) w (tW h0 w) (h0 6 j) s) → WF h0 h → Q (some (a_I z)) h) : ∀ (f : Nat) (t seen r : Int) (h : ab_H), 0 ≤ t → t ≤ row * N → row * N - t < f → se_J (h0 1 9) (fun k s => vi (h0 1 8) w (tW h0 w) (h0 6 k) s) row r t seen → WF h0 h → rw_at h1 (t - 1).toNat h → Go g (ab_rm 4, 0, 0) m_X6_serve Q 55 [some (a_R 0), some (a_I w), some (a_I n), some (a_I gg), some (a_I (am_n (h0 1 9))), some (a_I row), some (a_I (row * N)), some (a_I seen), some (a_I t)] [] h := by
  have hE : 1 ≤ h1 10 9 := by rw [I.1.2.2.1]; have := hr.2.1; omega
  have hb : ∀ k, h1 10 7 ≤ k → k < 6 → ¬ wk_tb (h1 10 8) k = true := by rw [I.1.1, I.1.2.1]; exact hb0
  intro f
  induction f with
  | zero => intro t seen r h h0t h1 hf; omega
  | succ f ih =>
    intro t seen r h h0t h1t hf J F R
    have J3 := J.2.2.1
    have am := (am_in h9).1
    refine go_iload rfl rfl ?_
    refine go_iload rfl rfl ?_
    refine go_icmp_ge rfl (tgt := 111) (by decide) (fun c59 => ?_) (fun c59 => ?_)
    · refine go_iconst rfl ?_
      exact go_iret rfl (Or.inr ⟨rfl, by omega⟩) (hq h 1 (rd_t (sv_end hrow J (by omega))).symm F)
    · refine go_iload rfl rfl ?_
      refine go_if_le rfl (tgt := 74) (by decide) (fun c64 => ?_) (fun c64 => ?_)
      · have FF : WF h0 h := F
        have RR : rw_at h1 t.toNat h := by rw [show t.toNat = (t - 1).toNat by omega]; exact R
        refine go_iload rfl rfl ?_
        refine go_aload_n rfl rfl ?_
        refine go_cV0I (M' := m_X6_housesVisited) rfl l_X6_335 k_X6_housesVisited (s_X6_housesVisited (by rw [RR.2.2.2.2.2.1 7 (by decide), I.1.1]; exact hr.1) (by rw [RR.2.2.2.2.2.1 8 (by decide), I.1.2.1]; exact hw) (by rw [FF 1 (by decide)]; exact h9) (by rw [FF 1 (by decide), FF 6 (by decide)]; intro i i0 i1; have := hH i i0 i1; have := hr.2.1; omega)) rfl rfl rfl rfl (by decide) (Nat.le_of_ble_eq_true rfl) (fun z77 h77 q77 => ?_) -- X6_housesVisited
        obtain ⟨rfl, q77⟩ := q77
        have hv : ∀ k, 0 ≤ k → k < 6 → (wk_tb z77 k = true ↔ k < h0 1 9 ∧ vi (h0 1 8) w (tW h0 w) (h0 6 k) t) := fun k k0 k1 => by rw [q77.2 k k0 k1, sv_V hr hw I RR, FF 1 (by decide), FF 6 (by decide)]
        have o := se_or J q77.1 hv
        refine go_ior rfl ?_
        refine go_istore rfl (by decide) rfl ?_
        refine go_iload rfl rfl ?_
        refine go_iconst rfl ?_
        refine go_iadd rfl (by unfold ab_iok; omega) ?_
        refine go_iload rfl rfl ?_
        refine go_irem rfl (by omega) ?_
        rw [ab_irm (by omega) (by omega)]
        refine go_if_ne rfl (tgt := 105) (by decide) (fun c90 => ?_) (fun c90 => ?_)
        · refine go_iinc rfl rfl (by decide) rfl (by unfold ab_iok; omega) ?_
          refine go_goto rfl (tgt := 55) (by decide) ?_
          exact ih (t + 1) _ r h (by omega) (by omega) (by omega) (se_in J (fun z => c90 ((bk_mod hrow J.1.1 J.1.2.1).mpr z)) o) FF (by rw [show t + 1 - 1 = t by omega]; exact RR)
        · refine go_iload rfl rfl ?_
          refine go_iload rfl rfl ?_
          refine go_icmp_eq rfl (tgt := 102) (by decide) (fun c97 => ?_) (fun c97 => ?_)
          · refine go_iconst rfl ?_
            refine go_istore rfl (by decide) rfl ?_
            refine go_iinc rfl rfl (by decide) rfl (by unfold ab_iok; omega) ?_
            refine go_goto rfl (tgt := 55) (by decide) ?_
            exact ih (t + 1) _ (r + 1) h (by omega) (by omega) (by omega) (se_next hrow J ((bk_mod hrow J.1.1 J.1.2.1).mp c90) ((se_all h9 o.1 o.2).mp c97)) FF (by rw [show t + 1 - 1 = t by omega]; exact RR)
          · refine go_iconst rfl ?_
            exact go_iret rfl (Or.inr ⟨rfl, by omega⟩) (hq h 0 (rd_f (fun z => c97 ((se_all h9 o.1 o.2).mpr (fun j j0 j1 => by obtain ⟨s, s0, s1, s2⟩ := z r J.1.2.2 (bk_lt hrow J.1.1 (by omega)) j j0 j1; exact ⟨s, s0, by have y := (bk_mod hrow J.1.1 J.1.2.1).mp c90; omega, s2⟩)))).symm FF)
      · refine go_aload_n rfl rfl ?_
        refine go_getR rfl f_X6_26 rfl rfl ?_ -- walk
        refine go_cV0V (M' := m_X5_step) rfl l_X6_332 k_X5_step (s_X5_step R.2.2.2.2.2.2 (by rw [R.2.2.2.2.2.1 7 (by decide), R.2.2.2.2.2.1 8 (by decide)]; exact hb)) rfl rfl rfl rfl (by decide) (Nat.le_of_ble_eq_true rfl) (fun h71 q71 => ?_) -- X5_step
        have FF : WF h0 h71 := fun k hk => (q71.2.2.2.2.1 k (by omega)).trans (F k hk)
        have RR : rw_at h1 t.toNat h71 := by have z := rw_next hE (by omega) hb R q71; rw [show (t - 1).toNat + 1 = t.toNat by omega] at z; exact z
        refine go_iload rfl rfl ?_
        refine go_aload_n rfl rfl ?_
        refine go_cV0I (M' := m_X6_housesVisited) rfl l_X6_335 k_X6_housesVisited (s_X6_housesVisited (by rw [RR.2.2.2.2.2.1 7 (by decide), I.1.1]; exact hr.1) (by rw [RR.2.2.2.2.2.1 8 (by decide), I.1.2.1]; exact hw) (by rw [FF 1 (by decide)]; exact h9) (by rw [FF 1 (by decide), FF 6 (by decide)]; intro i i0 i1; have := hH i i0 i1; have := hr.2.1; omega)) rfl rfl rfl rfl (by decide) (Nat.le_of_ble_eq_true rfl) (fun z77 h77 q77 => ?_) -- X6_housesVisited
        obtain ⟨rfl, q77⟩ := q77
        have hv : ∀ k, 0 ≤ k → k < 6 → (wk_tb z77 k = true ↔ k < h0 1 9 ∧ vi (h0 1 8) w (tW h0 w) (h0 6 k) t) := fun k k0 k1 => by rw [q77.2 k k0 k1, sv_V hr hw I RR, FF 1 (by decide), FF 6 (by decide)]
        have o := se_or J q77.1 hv
        refine go_ior rfl ?_
        refine go_istore rfl (by decide) rfl ?_
        refine go_iload rfl rfl ?_
        refine go_iconst rfl ?_
        refine go_iadd rfl (by unfold ab_iok; omega) ?_
        refine go_iload rfl rfl ?_
        refine go_irem rfl (by omega) ?_
        rw [ab_irm (by omega) (by omega)]
        refine go_if_ne rfl (tgt := 105) (by decide) (fun c90 => ?_) (fun c90 => ?_)
        · refine go_iinc rfl rfl (by decide) rfl (by unfold ab_iok; omega) ?_
          refine go_goto rfl (tgt := 55) (by decide) ?_
          exact ih (t + 1) _ r h71 (by omega) (by omega) (by omega) (se_in J (fun z => c90 ((bk_mod hrow J.1.1 J.1.2.1).mpr z)) o) FF (by rw [show t + 1 - 1 = t by omega]; exact RR)
        · refine go_iload rfl rfl ?_
          refine go_iload rfl rfl ?_
          refine go_icmp_eq rfl (tgt := 102) (by decide) (fun c97 => ?_) (fun c97 => ?_)
          · refine go_iconst rfl ?_
            refine go_istore rfl (by decide) rfl ?_
            refine go_iinc rfl rfl (by decide) rfl (by unfold ab_iok; omega) ?_
            refine go_goto rfl (tgt := 55) (by decide) ?_
            exact ih (t + 1) _ (r + 1) h71 (by omega) (by omega) (by omega) (se_next hrow J ((bk_mod hrow J.1.1 J.1.2.1).mp c90) ((se_all h9 o.1 o.2).mp c97)) FF (by rw [show t + 1 - 1 = t by omega]; exact RR)
          · refine go_iconst rfl ?_
            exact go_iret rfl (Or.inr ⟨rfl, by omega⟩) (hq h71 0 (rd_f (fun z => c97 ((se_all h9 o.1 o.2).mpr (fun j j0 j1 => by obtain ⟨s, s0, s1, s2⟩ := z r J.1.2.2 (bk_lt hrow J.1.1 (by omega)) j j0 j1; exact ⟨s, s0, by have y := (bk_mod hrow J.1.1 J.1.2.1).mp c90; omega, s2⟩)))).symm FF)
set_option maxHeartbeats 4000000 in
set_option maxRecDepth 100000 in
theorem c_serve {g : ab_G} {h : ab_H} {w n gg : Int} (I : Inv h) (hw : 0 ≤ w ∧ w < 64) (hb0 : ∀ k, h 1 8 ≤ k → k < 6 → ¬ wk_tb w k = true) (hn : 1 ≤ n ∧ n ≤ 200) (hg : 1 ≤ gg ∧ gg ≤ 99) : MethI g 4 m_X6_serve [a_R 0, a_I w, a_I n, a_I gg] h (fun z h' => z = rd_bool (sv h w n gg) ∧ WF h h') := by
  refine Meth.of_go k_X6_serve (Nat.le_of_ble_eq_true rfl) ?_
  show Go g _ m_X6_serve _ 0 [some (a_R 0), some (a_I w), some (a_I n), some (a_I gg), none, none, none, none, none] [] h
  have bN := bk_N hn hg
  have bM : n / gg * (2 * gg) = 2 * gg * (n / gg) := Int.mul_comm _ _
  refine go_iload_n rfl rfl ?_
  refine go_iconst rfl ?_
  refine go_icmp_ge rfl (tgt := 7) (by decide) (fun c2 => ?_) (fun c2 => ?_)
  · refine go_iconst rfl ?_
    refine go_aload_n rfl rfl ?_
    refine go_getR rfl f_X6_10 rfl rfl ?_ -- road
    refine go_getI rfl f_X6_86 rfl rfl rfl ?_ -- houses
    refine go_ishl rfl ?_
    refine go_iconst rfl ?_
    refine go_isub rfl (show ab_iok (am_n (h 1 9)) by have := (am_in I.hs.1).1; unfold ab_iok; omega) ?_
    refine go_istore rfl (by decide) rfl ?_
    refine go_iconst rfl ?_
    refine go_iload_n rfl rfl ?_
    refine go_imul rfl (by unfold ab_iok; omega) ?_
    refine go_istore rfl (by decide) rfl ?_
    refine go_iload_n rfl rfl ?_
    refine go_iload_n rfl rfl ?_
    refine go_idiv rfl (by omega) ?_
    rw [ab_idv (by omega) (by omega)]
    refine go_iload rfl rfl ?_
    refine go_imul rfl (by unfold ab_iok; omega) ?_
    rw [Int.mul_comm (n / gg)]
    refine go_istore rfl (by decide) rfl ?_
    refine go_iconst rfl ?_
    refine go_istore rfl (by decide) rfl ?_
    refine go_aload_n rfl rfl ?_
    refine go_getR rfl f_X6_26 rfl rfl ?_ -- walk
    refine go_aload_n rfl rfl ?_
    refine go_getR rfl f_X6_10 rfl rfl ?_ -- road
    refine go_aload_n rfl rfl ?_
    refine go_getR rfl f_X6_19 rfl rfl ?_ -- use
    refine go_iload_n rfl rfl ?_
    refine go_cV3V (M' := m_X5_start) rfl l_X6_321 k_X5_start (s_X5_start I.ro) rfl rfl rfl rfl (by decide) (Nat.le_of_ble_eq_true rfl) (fun h49 q49 => ?_) -- X5_start
    refine go_iconst rfl ?_
    refine go_istore rfl (by decide) rfl ?_
    exact lp_X6_serve (n := n) (gg := gg) I.ro hw hb0 q49 I.hs.1 I.hs.2 (row := 2 * gg) (N := n / gg) (by omega) (by omega) (by omega) (fun h2 z e F => ⟨_, rfl, e, F⟩) 500 0 0 0 h49 (by omega) (by omega) (by omega) ⟨by rw [Int.mul_zero]; omega, fun q q0 q1 => by omega, by omega, fun k k0 k1 => ⟨fun z => absurd z (bt_0 k), fun ⟨a, s, s0, s1, s2⟩ => by omega⟩⟩ (fun k hk => q49.2.2 k (by omega)) (sw_R I.ro hw q49).1
  · exact absurd c2 (by omega)
