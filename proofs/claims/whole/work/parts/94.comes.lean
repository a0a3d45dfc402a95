/-! the letters told, while men walk: comesNow, comeAsTold -/
def cw (m t : Int) (W : tb_W) (h : ab_H) : Prop := (h 10 7 = m ∧ (0 ≤ m ∧ m ≤ 6)) ∧ (0 ≤ h 10 8 ∧ h 10 8 < 64) ∧ (∀ j, 0 ≤ j → j < m → wk_tb (h 10 8) j = true) ∧ h 10 12 = t ∧ ∀ j, 0 ≤ j → j < m → h 11 j = (W t).1 j ∧ h 14 j = (W t).2.2 j
theorem cw.of {m t : Int} {W : tb_W} {h h' : ab_H} (C : cw m t W h) (e : ∀ k, 10 ≤ k → k ≤ 17 → h' k = h k) : cw m t W h' := by
  unfold cw
  rw [e 10 (by decide) (by decide), e 11 (by decide) (by decide), e 14 (by decide) (by decide)]
  exact C
theorem cw_f {m t p z : Int} {W : tb_W} {h : ab_H} (C : cw m t W h) (q : (z = -1 ∧ (∀ j, 0 ≤ j → j < h 10 7 → ¬ (wk_tb (h 10 8) j = true ∧ h 11 j = 2 * p))) ∨ (0 ≤ z ∧ z < h 10 7 ∧ (wk_tb (h 10 8) z = true ∧ h 11 z = 2 * p) ∧ ∀ j, 0 ≤ j → j < z → ¬ (wk_tb (h 10 8) j = true ∧ h 11 j = 2 * p))) : z = tb_f m W t p := by
  obtain ⟨⟨e7, -⟩, -, mk, -, rw⟩ := C
  rw [e7] at q
  refine fs_eq (by omega) ?_
  rcases q with ⟨a, b⟩ | ⟨a, b, ⟨c, d⟩, e⟩
  · exact Or.inl ⟨a, fun j j0 j1 y => b j j0 j1 ⟨mk j j0 j1, (rw j j0 j1).1.trans y⟩⟩
  · exact Or.inr ⟨a, b, (rw z a b).1.symm.trans d, fun j j0 j1 y => e j j0 j1 ⟨mk j j0 (by omega), (rw j j0 (by omega)).1.trans y⟩⟩
theorem cw_b {m t b p z : Int} {W : tb_W} {h : ab_H} (C : cw m t W h) (hp : 0 ≤ p) (q : (z = 0 ∧ (∀ j, 0 ≤ j → j < h 10 7 → ¬ (wk_tb (h 10 8) j = true ∧ h 14 j = b))) ∨ (∃ i, 0 ≤ i ∧ i < h 10 7 ∧ (wk_tb (h 10 8) i = true ∧ h 14 i = b) ∧ (∀ j, 0 ≤ j → j < i → ¬ (wk_tb (h 10 8) j = true ∧ h 14 j = b)) ∧ z = rd_bool (h 11 i = 2 * p))) : z = rd_bool (tb_bp m W t b = 2 * p) := by
  obtain ⟨⟨e7, -⟩, -, mk, -, rw⟩ := C
  rw [e7] at q
  rcases q with ⟨a, c⟩ | ⟨i, a, c, ⟨d, d'⟩, e, f⟩
  · have y : -1 = tb_H m W t b := fs_eq (by omega) (Or.inl ⟨rfl, fun j j0 j1 y => c j j0 j1 ⟨mk j j0 j1, (rw j j0 j1).2.trans y⟩⟩)
    rw [a, rd_f]
    unfold tb_bp
    rw [if_pos y.symm]
    omega
  · have y : i = tb_H m W t b := fs_eq (by omega) (Or.inr ⟨a, c, (rw i a c).2.symm.trans d', fun j j0 j1 y => e j j0 j1 ⟨mk j j0 (by omega), (rw j j0 (by omega)).2.trans y⟩⟩)
    rw [f]
    unfold tb_bp
    rw [← y, if_neg (by omega), (rw i a c).1]
def cn_P (m : Int) (W : tb_W) (t l : Int) (h : ab_H) (z : Int) (h' : ab_H) : Prop := z = rd_bool (cn_now m W (h 25 l) (h 26 l) (h 27 l) t (h 29 l)) ∧ h' 29 l = (if z = 1 then -2 else cn_x m W (h 25 l) (h 26 l) t (h 29 l)) ∧ (∀ j, j ≠ l → h' 29 j = h 29 j) ∧ ∀ k, k ≠ 29 → h' k = h k
theorem cn_end0 {m t l : Int} {W : tb_W} {h h2 : ab_H} (e29 : h2 29 l = cn_x m W (h 25 l) (h 26 l) t (h 29 l)) (ej : ∀ j, j ≠ l → h2 29 j = h 29 j) (ek : ∀ k, k ≠ 29 → h2 k = h k) (n : ¬ (h2 29 l ≠ -1 ∧ tb_bp m W t (h2 29 l) = 2 * h2 27 l)) : cn_P m W t l h 0 h2 := by
  rw [e29, ek 27 (by decide)] at n
  exact ⟨(rd_f n).symm, by rw [if_neg (by decide)]; exact e29, ej, ek⟩
theorem cn_end1 {m t l : Int} {W : tb_W} {h h2 : ab_H} (e29 : h2 29 l = cn_x m W (h 25 l) (h 26 l) t (h 29 l)) (ej : ∀ j, j ≠ l → h2 29 j = h 29 j) (ek : ∀ k, k ≠ 29 → h2 k = h k) (n : h2 29 l ≠ -1 ∧ tb_bp m W t (h2 29 l) = 2 * h2 27 l) : cn_P m W t l h 1 (ab_hs h2 29 l (-2)) := by
  rw [e29, ek 27 (by decide)] at n
  exact ⟨(rd_t n).symm, by rw [if_pos rfl, ab_hs_eq], fun j hj => by rw [ab_hs_i hj]; exact ej j hj, fun k hk => by rw [ab_hs_f hk]; exact ek k hk⟩
set_option maxHeartbeats 4000000 in
set_option maxRecDepth 100000 in
theorem cn_go {g : ab_G} {h h2 : ab_H} {m t l : Int} {W : tb_W} {v : Option ab_V} (C : cw m t W h) (hl : 0 ≤ l ∧ l < 12) (L : lt_ok (h 25 l) (h 26 l) (h 27 l) (h 28 l)) (e29 : h2 29 l = cn_x m W (h 25 l) (h 26 l) t (h 29 l)) (ej : ∀ j, j ≠ l → h2 29 j = h 29 j) (ek : ∀ k, k ≠ 29 → h2 k = h k) : Go g (ab_rm 2, 0, 0) m_X1_comesNow (fun r h' => ∃ z, r = some (a_I z) ∧ cn_P m W t l h z h') 59 [some (a_R 24), some (a_I l), some (a_R 10), v] [] h2 := by
  have C2 : cw m t W h2 := C.of (fun k _ _ => ek k (by omega))
  have L27 : 0 ≤ h2 27 l ∧ h2 27 l ≤ 40 := by rw [ek 27 (by decide)]; exact L.2.2.1
  refine go_aload_n rfl rfl ?_
  refine go_getR rfl f_X1_24 rfl rfl ?_ -- inBag
  refine go_iload_n rfl rfl ?_
  refine go_iald rfl rfl (by omega) (by omega) ?_
  refine go_iconst rfl ?_
  refine go_icmp_eq rfl (tgt := 90) (by decide) (fun c66 => ?_) (fun c66 => ?_)
  · refine go_iconst rfl ?_
    exact go_iret rfl (Or.inr ⟨rfl, by omega⟩) (⟨_, rfl, cn_end0 e29 ej ek (fun y => y.1 c66)⟩)
  · refine go_aload_n rfl rfl ?_
    refine go_aload_n rfl rfl ?_
    refine go_getR rfl f_X1_24 rfl rfl ?_ -- inBag
    refine go_iload_n rfl rfl ?_
    refine go_iald rfl rfl (by omega) (by omega) ?_
    refine go_iconst rfl ?_
    refine go_aload_n rfl rfl ?_
    refine go_getR rfl f_X1_18 rfl rfl ?_ -- to
    refine go_iload_n rfl rfl ?_
    refine go_iald rfl rfl (by omega) (by omega) ?_
    refine go_imul rfl (by unfold ab_iok; omega) ?_
    refine go_cV2I (M' := m_X5_isBagAt) rfl l_X1_59 k_X5_isBagAt (s_X5_isBagAt (by rw [C2.1.1]; exact C2.1.2) C2.2.1) rfl rfl rfl rfl (by decide) (Nat.le_of_ble_eq_true rfl) (fun z84 h84 q84 => ?_) -- X5_isBagAt
    obtain ⟨rfl, q84⟩ := q84
    obtain rfl := cw_b C2 (by omega) q84
    refine go_if_ne rfl (tgt := 92) (by decide) (fun c87 => ?_) (fun c87 => ?_)
    · refine go_aload_n rfl rfl ?_
      refine go_getR rfl f_X1_24 rfl rfl ?_ -- inBag
      refine go_iload_n rfl rfl ?_
      refine go_bipush rfl ?_
      refine go_iast rfl rfl (by omega) (by omega) ?_
      refine go_iconst rfl ?_
      exact go_iret rfl (Or.inr ⟨rfl, by omega⟩) (⟨_, rfl, cn_end1 e29 ej ek ⟨c66, rd_n1 c87⟩⟩)
    · refine go_iconst rfl ?_
      exact go_iret rfl (Or.inr ⟨rfl, by omega⟩) (⟨_, rfl, cn_end0 e29 ej ek (fun y => rd_n0 c87 y.2)⟩)
set_option maxHeartbeats 4000000 in
set_option maxRecDepth 100000 in
theorem s_X1_comesNow {g : ab_G} {h : ab_H} {m t l : Int} {W : tb_W} (C : cw m t W h) (hl : 0 ≤ l ∧ l < 12) (L : lt_ok (h 25 l) (h 26 l) (h 27 l) (h 28 l)) : MethI g 2 m_X1_comesNow [a_R 24, a_I l, a_R 10] h (fun z h' => cn_P m W t l h z h') := by
  refine Meth.of_go k_X1_comesNow (Nat.le_of_ble_eq_true rfl) ?_
  show Go g _ m_X1_comesNow _ 0 [some (a_R 24), some (a_I l), some (a_R 10), none] [] h
  have L1 := L.1
  have L2 := L.2.1
  refine go_aload_n rfl rfl ?_
  refine go_getR rfl f_X1_24 rfl rfl ?_ -- inBag
  refine go_iload_n rfl rfl ?_
  refine go_iald rfl rfl (by omega) (by omega) ?_
  refine go_iconst rfl ?_
  refine go_icmp_ne rfl (tgt := 59) (by decide) (fun c7 => ?_) (fun c7 => ?_)
  · exact cn_go C hl L (by unfold cn_x; rw [if_neg (fun y => c7 y.1)]) (fun _ _ => rfl) (fun _ _ => rfl)
  · refine go_aload_n rfl rfl ?_
    refine go_getI rfl f_X1_49 rfl rfl rfl ?_ -- time
    refine go_iconst rfl ?_
    refine go_aload_n rfl rfl ?_
    refine go_getR rfl f_X1_15 rfl rfl ?_ -- minute
    refine go_iload_n rfl rfl ?_
    refine go_iald rfl rfl (by omega) (by omega) ?_
    refine go_imul rfl (by unfold ab_iok; omega) ?_
    refine go_icmp_lt rfl (tgt := 59) (by decide) (fun c22 => ?_) (fun c22 => ?_)
    · exact cn_go C hl L (by unfold cn_x; rw [if_neg (by rw [← C.2.2.2.1]; omega)]) (fun _ _ => rfl) (fun _ _ => rfl)
    · refine go_aload_n rfl rfl ?_
      refine go_iconst rfl ?_
      refine go_aload_n rfl rfl ?_
      refine go_getR rfl f_X1_9 rfl rfl ?_ -- from
      refine go_iload_n rfl rfl ?_
      refine go_iald rfl rfl (by omega) (by omega) ?_
      refine go_imul rfl (by unfold ab_iok; omega) ?_
      refine go_cV1I (M' := m_X5_firstThere) rfl l_X1_52 k_X5_firstThere (s_X5_firstThere (by rw [C.1.1]; exact C.1.2) C.2.1) rfl rfl rfl rfl (by decide) (Nat.le_of_ble_eq_true rfl) (fun z34 h34 q34 => ?_) -- X5_firstThere
      obtain ⟨rfl, q34⟩ := q34
      have e34 := cw_f C q34
      refine go_istore_n rfl (by decide) rfl ?_
      refine go_aload_n rfl rfl ?_
      refine go_getR rfl f_X1_24 rfl rfl ?_ -- inBag
      refine go_iload_n rfl rfl ?_
      refine go_iload_n rfl rfl ?_
      refine go_iconst rfl ?_
      refine go_icmp_ne rfl (tgt := 52) (by decide) (fun c45 => ?_) (fun c45 => ?_)
      · have b34 : 0 ≤ z34 ∧ z34 < m := by rw [e34]; exact tb_f_in (by rw [← e34]; exact c45)
        have hm := C.1.2
        refine go_aload_n rfl rfl ?_
        refine go_getR rfl f_X1_56 rfl rfl ?_ -- load
        refine go_iload_n rfl rfl ?_
        refine go_iald rfl rfl (by omega) (by omega) ?_
        refine go_iast rfl rfl (by omega) (by omega) ?_
        exact cn_go C hl L (by rw [ab_hs_eq, (C.2.2.2.2 z34 b34.1 b34.2).2]; unfold cn_x tb_bt; rw [if_pos ⟨c7, by rw [← C.2.2.2.1]; omega⟩, ← e34, if_neg c45]) (fun j hj => ab_hs_i hj) (fun k hk => ab_hs_f hk)
      · refine go_iconst rfl ?_
        refine go_goto rfl (tgt := 58) (by decide) ?_
        refine go_iast rfl rfl (by omega) (by omega) ?_
        exact cn_go C hl L (by rw [ab_hs_eq]; unfold cn_x tb_bt; rw [if_pos ⟨c7, by rw [← C.2.2.2.1]; omega⟩, ← e34, if_pos c45]) (fun j hj => ab_hs_i hj) (fun k hk => ab_hs_f hk)
def LJ (h0 : ab_H) (m : Int) (W : tb_W) (t j x : Int) : Prop := cl_J m W (h0 25 j) (h0 26 j) (h0 27 j) (h0 28 j) t x
theorem wk_num_in {q : Int → Prop} : ∀ n : Nat, 0 ≤ wk_num q n ∧ wk_num q n ≤ n
  | 0 => ⟨by unfold wk_num; omega, by unfold wk_num; omega⟩
  | n + 1 => by
    have := wk_num_in (q := q) n
    have z := rd_01 (q n)
    unfold wk_num
    omega
theorem wk_num_0 {q : Int → Prop} : ∀ n : Nat, wk_num q n ≤ 0 → ∀ j : Int, 0 ≤ j → j < n → ¬ q j
  | 0, _, j, j0, j1 => by omega
  | n + 1, h, j, j0, j1 => by
    have i := wk_num_in (q := q) n
    have z := rd_01 (q n)
    unfold wk_num at h
    by_cases e : j = n
    · subst e; exact rd_n0 (by omega)
    · exact wk_num_0 n (by omega) j j0 (by omega)
theorem wk_num_dn {q q' : Int → Prop} {l : Int} (l0 : 0 ≤ l) (ql : q l) (nl : ¬ q' l) (e : ∀ j, j ≠ l → (q' j ↔ q j)) : ∀ n : Nat, l < n → wk_num q' n = wk_num q n - 1
  | 0, h => by omega
  | n + 1, h => by
    unfold wk_num
    by_cases z : l = n
    · rw [wk_num_congr (q := q') (q' := q) n (fun k k0 k1 => e k (by omega)), ← z, rd_t ql, rd_f nl]; omega
    · rw [wk_num_dn l0 ql nl e n (by omega), rd_iff (e n (fun y => z y.symm))]; omega
def ct_J (h0 : ab_H) (m : Int) (W : tb_W) (t l : Int) (h : ab_H) : Prop := (∀ j, 0 ≤ j → j < l → LJ h0 m W (t + 1) j (h 29 j)) ∧ ∀ j, l ≤ j → j < h0 24 5 → LJ h0 m W t j (h 29 j)
theorem ct_nx {h0 h h' : ab_H} {m t l : Int} {W : tb_W} (hl : 0 ≤ l ∧ l < h0 24 5) (J : ct_J h0 m W t l h) (ej : ∀ j, j ≠ l → h' 29 j = h 29 j) (n : LJ h0 m W (t + 1) l (h' 29 l)) : ct_J h0 m W t (l + 1) h' := by
  refine ⟨fun j j0 j1 => ?_, fun j j0 j1 => ?_⟩
  · by_cases e : j = l
    · subst e; exact n
    · rw [ej j e]; exact J.1 j j0 (by omega)
  · rw [ej j (by omega)]; exact J.2 j (by omega) j1
theorem LJ_gone {h0 : ab_H} {m t j : Int} {W : tb_W} (J : LJ h0 m W t j (-2)) : LJ h0 m W (t + 1) j (-2) := by
  rcases J with ⟨a, b, c, d⟩ | ⟨a, -⟩
  · exact Or.inl ⟨a, b, c, by omega⟩
  · exact absurd rfl a
theorem LJ_now {h0 : ab_H} {m t j x : Int} {W : tb_W} (hu : 0 ≤ h0 26 j) (ht : 0 ≤ t ∧ t ≤ 400) (J : LJ h0 m W t j x) (hx : x ≠ -2) (n : cn_now m W (h0 25 j) (h0 26 j) (h0 27 j) t x) : tb_lt m W (h0 25 j) (h0 26 j) (h0 27 j) = t := by
  rcases J with ⟨a, -⟩ | ⟨-, -, c⟩
  · exact absurd a hx
  · exact cn_t hu ht c n
theorem LJ_not {h0 : ab_H} {m t j x : Int} {W : tb_W} (hu : 0 ≤ h0 26 j) (ht : 0 ≤ t ∧ t ≤ 400) (J : LJ h0 m W t j x) (hx : x ≠ -2) (n : ¬ cn_now m W (h0 25 j) (h0 26 j) (h0 27 j) t x) : tb_lt m W (h0 25 j) (h0 26 j) (h0 27 j) ≠ t := by
  rcases J with ⟨a, -⟩ | ⟨-, -, c⟩
  · exact absurd a hx
  · exact cn_n hu ht c n
theorem LJ_on {h0 : ab_H} {m t j x : Int} {W : tb_W} (hP : tb_pm m W) (hu : 0 ≤ h0 26 j) (ht : 0 ≤ t ∧ t ≤ 400) (J : LJ h0 m W t j x) (hx : x ≠ -2) (n : ¬ cn_now m W (h0 25 j) (h0 26 j) (h0 27 j) t x) (hd : h0 28 j ≠ t) : LJ h0 m W (t + 1) j (cn_x m W (h0 25 j) (h0 26 j) t x) := by
  rcases J with ⟨a, -⟩ | ⟨-, b, c⟩
  · exact absurd a hx
  · exact Or.inr ⟨cn_2 hP ht hx, by omega, cn_f hu ht c n⟩
theorem LJ_come {h0 : ab_H} {m t j x : Int} {W : tb_W} (hu : 0 ≤ h0 26 j) (ht : 0 ≤ t ∧ t ≤ 400) (J : LJ h0 m W t j x) (hx : x ≠ -2) (n : cn_now m W (h0 25 j) (h0 26 j) (h0 27 j) t x) (hd : h0 28 j = t) : LJ h0 m W (t + 1) j (-2) := Or.inl ⟨rfl, (LJ_now hu ht J hx n).trans hd.symm, by omega, by omega⟩
/-- one letter's turn: the class's answer and its row behind it -/
theorem cn_use {h0 hI h h' : ab_H} {m t l z : Int} {W : tb_W} (e25 : ∀ k, 25 ≤ k → k ≤ 28 → hI k = h0 k) (F : ∀ k, k ≠ 29 → h k = hI k) (P : cn_P m W t l h z h') : z = rd_bool (cn_now m W (h0 25 l) (h0 26 l) (h0 27 l) t (h 29 l)) ∧ h' 29 l = (if z = 1 then -2 else cn_x m W (h0 25 l) (h0 26 l) t (h 29 l)) ∧ (∀ j, j ≠ l → h' 29 j = h 29 j) ∧ ∀ k, k ≠ 29 → h' k = hI k := by
  unfold cn_P at P
  rw [F 25 (by decide), F 26 (by decide), F 27 (by decide), e25 25 (by decide) (by decide), e25 26 (by decide) (by decide), e25 27 (by decide) (by decide)] at P
  exact ⟨P.1, P.2.1, P.2.2.1, fun k hk => (P.2.2.2 k hk).trans (F k hk)⟩
set_option maxHeartbeats 4000000 in
set_option maxRecDepth 100000 in
theorem lp_X1_ct2 {g : ab_G} {h0 hI : ab_H} {m t : Int} {W : tb_W} {Q : Option ab_V → ab_H → Prop} (hP : tb_pm m W) (ht : 0 ≤ t ∧ t ≤ 400) (L : iv_L h0) (C : cw m t W hI) (e5 : hI 24 5 = h0 24 5) (e25 : ∀ k, 25 ≤ k → k ≤ 28 → hI k = h0 k) (Kf : ∀ h j, 0 ≤ j → j < h0 24 5 → ¬ (tb_lt m W (h0 25 j) (h0 26 j) (h0 27 j) = t ↔ h0 28 j = t) → (∀ k, k ≠ 29 → h k = hI k) → Q (some (a_I 0)) h) (K : ∀ h op l v, (∀ j, 0 ≤ j → j < h0 24 5 → LJ h0 m W (t + 1) j (h 29 j)) → op = wk_num (fun j => h 29 j ≠ -2) (h0 24 5).toNat → (∀ k, k ≠ 29 → h k = hI k) → Go g (ab_rm 4, 0, 0) m_X1_comeAsTold Q 119 [some (a_R 24), some (a_R 10), some (a_I op), some (a_I t), some (a_I l), v] [] h) : ∀ (f : Nat) (l op : Int) (h : ab_H), 0 ≤ l → l ≤ h0 24 5 → h0 24 5 - l < f → ct_J h0 m W t l h → op = wk_num (fun j => h 29 j ≠ -2) (h0 24 5).toNat → (∀ k, k ≠ 29 → h k = hI k) → ∀ v, Go g (ab_rm 4, 0, 0) m_X1_comeAsTold Q 47 [some (a_R 24), some (a_R 10), some (a_I op), some (a_I t), some (a_I l), v] [] h := by
  have n12 := L.1
  intro f
  induction f with
  | zero => intro l op h h0l h1l hf; omega
  | succ f ih =>
    intro l op h h0l h1l hf J J2 F v
    have op12 := wk_num_in (q := fun j => h 29 j ≠ -2) (h0 24 5).toNat
    have hs5 : h 24 5 = h0 24 5 := by rw [F 24 (by decide)]; exact e5
    refine go_iload rfl rfl ?_
    refine go_aload_n rfl rfl ?_
    refine go_getI rfl f_X1_27 rfl rfl rfl ?_ -- size
    refine go_icmp_ge rfl (tgt := 119) (by decide) (fun c53 => ?_) (fun c53 => ?_)
    · exact K h op l _ (fun j j0 j1 => J.1 j j0 (by omega)) J2 F
    · have ll := (L.2.2 l h0l (by omega)).1
      have lu : 0 ≤ h0 26 l := ll.2.1.1
      have Jl := J.2 l (by omega) (by omega)
      refine go_aload_n rfl rfl ?_
      refine go_getR rfl f_X1_24 rfl rfl ?_ -- inBag
      refine go_iload rfl rfl ?_
      refine go_iald rfl rfl (by omega) (by omega) ?_
      refine go_bipush rfl ?_
      refine go_icmp_eq rfl (tgt := 113) (by decide) (fun c65 => ?_) (fun c65 => ?_)
      · refine go_iinc rfl rfl (by decide) rfl (by unfold ab_iok; omega) ?_
        refine go_goto rfl (tgt := 47) (by decide) ?_
        exact ih (l + 1) _ h (by omega) (by omega) (by omega) (ct_nx ⟨h0l, by omega⟩ J (fun _ _ => rfl) (by have z := J.2 l (by omega) (by omega); rw [c65] at z ⊢; exact LJ_gone z)) J2 F _
      · refine go_aload_n rfl rfl ?_
        refine go_iload rfl rfl ?_
        refine go_aload_n rfl rfl ?_
        refine go_cV2I (M' := m_X1_comesNow) rfl l_X1_45 k_X1_comesNow (s_X1_comesNow (C.of (fun k _ _ => F k (by omega))) ⟨h0l, by omega⟩ (by rw [F 25 (by decide), F 26 (by decide), F 27 (by decide), F 28 (by decide), e25 25 (by decide) (by decide), e25 26 (by decide) (by decide), e25 27 (by decide) (by decide), e25 28 (by decide) (by decide)]; exact ll)) rfl rfl rfl rfl (by decide) (Nat.le_of_ble_eq_true rfl) (fun z72 h72 q72 => ?_) -- X1_comesNow
        obtain ⟨u1, u2, u3, u4⟩ := cn_use e25 F q72
        have u01 : z72 = 0 ∨ z72 = 1 := by rw [u1]; exact rd_01 _
        refine go_istore rfl (by decide) rfl ?_
        refine go_iload rfl rfl ?_
        have e28 : h72 28 = h0 28 := (u4 28 (by decide)).trans (e25 28 (by decide) (by decide))
        refine go_aload_n rfl rfl ?_
        refine go_getR rfl f_X1_21 rfl rfl ?_ -- told
        refine go_iload rfl rfl ?_
        refine go_iald rfl rfl (by omega) (by omega) ?_
        refine go_iload_n rfl rfl ?_
        refine go_icmp_ne rfl (tgt := 94) (by decide) (fun c87 => ?_) (fun c87 => ?_)
        · have d28 : h0 28 l ≠ t := by rw [← e28]; exact c87
          refine go_iconst rfl ?_
          refine go_icmp_eq rfl (tgt := 100) (by decide) (fun c95 => ?_) (fun c95 => ?_)
          · refine go_iload_n rfl rfl ?_
            refine go_iload rfl rfl ?_
            refine go_if_eq rfl (tgt := 110) (by decide) (fun c103 => ?_) (fun c103 => ?_)
            · refine go_iconst rfl ?_
              refine go_isub rfl (by unfold ab_iok; omega) ?_
              refine go_istore_n rfl (by decide) rfl ?_
              refine go_iinc rfl rfl (by decide) rfl (by unfold ab_iok; omega) ?_
              refine go_goto rfl (tgt := 47) (by decide) ?_
              exact ih (l + 1) _ h72 (by omega) (by omega) (by omega) (ct_nx ⟨h0l, by omega⟩ J u3 (by rw [u2, if_neg (by omega)]; exact LJ_on hP lu ht Jl c65 (rd_n0 (by omega)) d28)) (by rw [J2, Int.sub_zero]; exact wk_num_congr _ (fun j j0 j1 => by by_cases y : j = l; rw [y, u2, if_neg (by omega)]; exact ⟨fun _ => cn_2 hP ht c65, fun _ => c65⟩; rw [u3 j y])) u4 _
            · exact absurd c95 (by omega)
          · refine go_iconst rfl ?_
            exact go_iret rfl (Or.inr ⟨rfl, by omega⟩) (Kf h72 l h0l (by omega) (fun y => by have := y.mp (LJ_now lu ht Jl c65 (rd_n1 (by omega))); omega) u4)
        · have d28 : h0 28 l = t := by rw [← e28]; exact c87
          refine go_iconst rfl ?_
          refine go_goto rfl (tgt := 95) (by decide) ?_
          refine go_icmp_eq rfl (tgt := 100) (by decide) (fun c95 => ?_) (fun c95 => ?_)
          · refine go_iload_n rfl rfl ?_
            refine go_iload rfl rfl ?_
            refine go_if_eq rfl (tgt := 110) (by decide) (fun c103 => ?_) (fun c103 => ?_)
            · exact absurd c103 (by omega)
            · refine go_iconst rfl ?_
              refine go_goto rfl (tgt := 111) (by decide) ?_
              refine go_isub rfl (by unfold ab_iok; omega) ?_
              refine go_istore_n rfl (by decide) rfl ?_
              refine go_iinc rfl rfl (by decide) rfl (by unfold ab_iok; omega) ?_
              refine go_goto rfl (tgt := 47) (by decide) ?_
              exact ih (l + 1) _ h72 (by omega) (by omega) (by omega) (ct_nx ⟨h0l, by omega⟩ J u3 (by rw [u2, if_pos (by omega)]; exact LJ_come lu ht Jl c65 (rd_n1 (by omega)) d28)) (by rw [J2, wk_num_dn (q := fun j => h 29 j ≠ -2) (q' := fun j => h72 29 j ≠ -2) h0l c65 (by rw [u2, if_pos (by omega)]; exact fun y => y rfl) (fun j hj => by rw [u3 j hj]) _ (by omega)]) u4 _
          · refine go_iconst rfl ?_
            exact go_iret rfl (Or.inr ⟨rfl, by omega⟩) (Kf h72 l h0l (by omega) (fun y => LJ_not lu ht Jl c65 (rd_n0 (by omega)) (y.mpr d28)) u4)
def CA (h0 h : ab_H) : Prop := (∀ k, ¬ ((10 ≤ k ∧ k ≤ 17) ∨ k = 24 ∨ k = 29) → h k = h0 k) ∧ ∀ b, b ≠ 6 → h 24 b = h0 24 b
theorem cw_R {h0 h : ab_H} {m t : Int} {W : tb_W} (em : h0 10 7 = m) (hm : 0 ≤ m ∧ m ≤ 6) (hw : 0 ≤ h0 10 8 ∧ h0 10 8 < 64) (mk : ∀ j, 0 ≤ j → j < m → wk_tb (h0 10 8) j = true) (hW : ∀ s : Nat, s ≤ 400 → wk_eq m (wk_at (h0 10 9) (h0 15) (h0 16) (h0 17) (h0 10 7) (h0 10 10) (h0 10 11) (h0 10 8) (wk_row h0) s) (W s)) (ht : 0 ≤ t ∧ t ≤ 400) (R : rw_at h0 t.toNat h) : cw m t W h := by
  have et : ((t.toNat : Nat) : Int) = t := Int.toNat_of_nonneg ht.1
  have e8 : h 10 8 = h0 10 8 := R.2.2.2.2.2.1 8 (by decide)
  refine ⟨⟨by rw [R.2.2.2.2.2.1 7 (by decide)]; exact em, hm⟩, by rw [e8]; exact hw, by rw [e8]; exact mk, by rw [R.2.1]; exact et, fun j j0 j1 => ?_⟩
  have a := R.1 j j0 (by rw [em]; exact j1)
  have b := hW t.toNat (by omega) j j0 j1
  rw [et] at b
  exact ⟨a.1.trans b.1, a.2.2.trans b.2.2⟩
theorem ct_end {h0 h : ab_H} {m : Int} {W : tb_W} (L : iv_L h0) (J : ∀ j, 0 ≤ j → j < h0 24 5 → LJ h0 m W 401 j (h 29 j)) (e6 : h 24 6 = 400) : ca_P h0 m W 1 (h 24 6) := by
  rw [e6]
  refine ⟨by omega, Or.inl ⟨rfl, fun j j0 j1 => ⟨?_, Or.inl rfl⟩⟩⟩
  have ll := (L.2.2 j j0 j1).1
  have ld := ll.2.2.2
  rcases J j j0 j1 with ⟨-, b, -⟩ | ⟨-, b, c⟩
  · exact b
  · rw [← (fj_end ll.2.1.1 c).2]; omega
theorem ct_all {h0 h : ab_H} {m t : Int} {W : tb_W} (n12 : 0 ≤ h0 24 5 ∧ h0 24 5 ≤ 12) (ht : 0 ≤ t ∧ t ≤ 400) (J : ∀ j, 0 ≤ j → j < h0 24 5 → LJ h0 m W t j (h 29 j)) (z : wk_num (fun j => h 29 j ≠ -2) (h0 24 5).toNat ≤ 0) (e6 : (t = 0 → h 24 6 = 0) ∧ (1 ≤ t → h 24 6 = t - 1)) : ca_P h0 m W 1 (h 24 6) := by
  refine ⟨by omega, Or.inl ⟨rfl, fun j j0 j1 => ?_⟩⟩
  have g : h 29 j = -2 := Classical.byContradiction fun y => wk_num_0 _ z j j0 (by omega) y
  rcases J j j0 j1 with ⟨-, b, c, d⟩ | ⟨a, -⟩
  · exact ⟨b, Or.inr ⟨c, by omega⟩⟩
  · exact absurd g a
set_option maxHeartbeats 4000000 in
set_option maxRecDepth 100000 in
theorem lp_X1_ct {g : ab_G} {h0 : ab_H} {m : Int} {W : tb_W} {Q : Option ab_V → ab_H → Prop} (hP : tb_pm m W) (L : iv_L h0) (em : h0 10 7 = m) (hm : 0 ≤ m ∧ m ≤ 6) (hw : 0 ≤ h0 10 8 ∧ h0 10 8 < 64) (mk : ∀ j, 0 ≤ j → j < m → wk_tb (h0 10 8) j = true) (hW : ∀ s : Nat, s ≤ 400 → wk_eq m (wk_at (h0 10 9) (h0 15) (h0 16) (h0 17) (h0 10 7) (h0 10 10) (h0 10 11) (h0 10 8) (wk_row h0) s) (W s)) (hE : 1 ≤ h0 10 9) (hb : ∀ k, h0 10 7 ≤ k → k < 6 → ¬ wk_tb (h0 10 8) k = true) (hq : ∀ h z, ca_P h0 m W z (h 24 6) → CA h0 h → Q (some (a_I z)) h) : ∀ (f : Nat) (t op : Int) (h : ab_H), 0 ≤ t → t ≤ 401 → 401 - t < f → (∀ j, 0 ≤ j → j < h0 24 5 → LJ h0 m W t j (h 29 j)) → op = wk_num (fun j => h 29 j ≠ -2) (h0 24 5).toNat → rw_at h0 (t - 1).toNat h → ((t = 0 → h 24 6 = 0) ∧ (1 ≤ t → h 24 6 = t - 1)) → CA h0 h → ∀ v4 v5, Go g (ab_rm 4, 0, 0) m_X1_comeAsTold Q 20 [some (a_R 24), some (a_R 10), some (a_I op), some (a_I t), v4, v5] [] h := by
  have n12 := L.1
  intro f
  induction f with
  | zero => intro t op h h0t h1t hf; omega
  | succ f ih =>
    intro t op h h0t h1t hf J J2 R e6 F v4 v5
    refine go_iload_n rfl rfl ?_
    refine go_sipush rfl ?_
    refine go_icmp_gt rfl (tgt := 125) (by decide) (fun c24 => ?_) (fun c24 => ?_)
    · refine go_iconst rfl ?_
      exact go_iret rfl (Or.inr ⟨rfl, by omega⟩) (hq h 1 (ct_end L (by rw [show t = 401 by omega] at J; exact J) (by have := e6.2 (by omega); omega)) F)
    · refine go_iload_n rfl rfl ?_
      refine go_if_le rfl (tgt := 125) (by decide) (fun c28 => ?_) (fun c28 => ?_)
      · refine go_iconst rfl ?_
        exact go_iret rfl (Or.inr ⟨rfl, by omega⟩) (hq h 1 (ct_all n12 ⟨h0t, by omega⟩ J (by omega) e6) F)
      · refine go_iload_n rfl rfl ?_
        refine go_if_le rfl (tgt := 39) (by decide) (fun c32 => ?_) (fun c32 => ?_)
        · have RR : rw_at h0 t.toNat h := by rw [show t.toNat = (t - 1).toNat by omega]; exact R
          have FF : CA h0 h := F
          have JJ := J
          have JO := J2
          refine go_aload_n rfl rfl ?_
          refine go_iload_n rfl rfl ?_
          refine go_putI rfl f_X1_31 rfl rfl rfl ?_ -- decided
          refine go_iconst rfl ?_
          refine go_istore rfl (by decide) rfl ?_
          have hIk : ∀ k, k ≠ 24 → ab_hs h 24 6 t k = h k := fun k hk => ab_hs_f hk
          have RI : rw_at h0 t.toNat (ab_hs h 24 6 t) := rw_frame RR (fun k _ _ => hIk k (by omega))
          have eI6 : ab_hs h 24 6 t 24 6 = t := ab_hs_eq
          have eI : ∀ b, b ≠ 6 → ab_hs h 24 6 t 24 b = h0 24 b := fun b hb => by rw [ab_hs_i hb]; exact FF.2 b hb
          have eIk : ∀ k, ¬ ((10 ≤ k ∧ k ≤ 17) ∨ k = 24 ∨ k = 29) → ab_hs h 24 6 t k = h0 k := fun k hk => (hIk k (by omega)).trans (FF.1 k hk)
          refine lp_X1_ct2 (h0 := h0) (hI := ab_hs h 24 6 t) hP ⟨h0t, by omega⟩ L (cw_R em hm hw mk hW ⟨h0t, by omega⟩ RI) (eI 5 (by decide)) (fun k _ _ => eIk k (by omega)) (fun h2 j j0 j1 n F2 => hq _ _ (by rw [F2 24 (by decide), eI6]; exact ⟨by omega, Or.inr ⟨rfl, j, j0, j1, n⟩⟩) ⟨fun k hk => (F2 k (by omega)).trans (eIk k hk), fun b hb => by rw [F2 24 (by decide)]; exact eI b hb⟩) (fun h2 op2 l2 v2 J3 J4 F2 => ?_) 14 0 op _ (by omega) n12.1 (by omega) ⟨fun j j0 j1 => by omega, fun j j0 j1 => by rw [hIk 29 (by decide)]; exact JJ j j0 j1⟩ (by rw [hIk 29 (by decide)]; exact JO) (fun _ _ => rfl) _
          refine go_iinc rfl rfl (by decide) rfl (by unfold ab_iok; omega) ?_
          refine go_goto rfl (tgt := 20) (by decide) ?_
          exact ih (t + 1) op2 h2 (by omega) (by omega) (by omega) J3 J4 (by rw [show (t + 1 - 1).toNat = t.toNat by omega]; exact rw_frame RI (fun k _ _ => F2 k (by omega))) ⟨fun y => by omega, fun _ => by rw [F2 24 (by decide), eI6]; omega⟩ ⟨fun k hk => (F2 k (by omega)).trans (eIk k hk), fun b hb => by rw [F2 24 (by decide)]; exact eI b hb⟩ _ _
        · refine go_aload_n rfl rfl ?_
          refine go_cV0V (M' := m_X5_step) rfl l_X1_40 k_X5_step (s_X5_step R.2.2.2.2.2.2 (by rw [R.2.2.2.2.2.1 7 (by decide), R.2.2.2.2.2.1 8 (by decide)]; exact hb)) rfl rfl rfl rfl (by decide) (Nat.le_of_ble_eq_true rfl) (fun h36 q36 => ?_) -- X5_step
          have RR : rw_at h0 t.toNat h36 := by have z := rw_next hE (by omega) hb R q36; rw [show (t - 1).toNat + 1 = t.toNat by omega] at z; exact z
          have FF : CA h0 h36 := ⟨fun k hk => (q36.2.2.2.2.1 k (by omega)).trans (F.1 k hk), fun b hb => by rw [q36.2.2.2.2.1 24 (by decide)]; exact F.2 b hb⟩
          have e29 : h36 29 = h 29 := q36.2.2.2.2.1 29 (by decide)
          have JJ : ∀ j, 0 ≤ j → j < h0 24 5 → LJ h0 m W t j (h36 29 j) := by rw [e29]; exact J
          have JO : op = wk_num (fun j => h36 29 j ≠ -2) (h0 24 5).toNat := by rw [e29]; exact J2
          refine go_aload_n rfl rfl ?_
          refine go_iload_n rfl rfl ?_
          refine go_putI rfl f_X1_31 rfl rfl rfl ?_ -- decided
          refine go_iconst rfl ?_
          refine go_istore rfl (by decide) rfl ?_
          have hIk : ∀ k, k ≠ 24 → ab_hs h36 24 6 t k = h36 k := fun k hk => ab_hs_f hk
          have RI : rw_at h0 t.toNat (ab_hs h36 24 6 t) := rw_frame RR (fun k _ _ => hIk k (by omega))
          have eI6 : ab_hs h36 24 6 t 24 6 = t := ab_hs_eq
          have eI : ∀ b, b ≠ 6 → ab_hs h36 24 6 t 24 b = h0 24 b := fun b hb => by rw [ab_hs_i hb]; exact FF.2 b hb
          have eIk : ∀ k, ¬ ((10 ≤ k ∧ k ≤ 17) ∨ k = 24 ∨ k = 29) → ab_hs h36 24 6 t k = h0 k := fun k hk => (hIk k (by omega)).trans (FF.1 k hk)
          refine lp_X1_ct2 (h0 := h0) (hI := ab_hs h36 24 6 t) hP ⟨h0t, by omega⟩ L (cw_R em hm hw mk hW ⟨h0t, by omega⟩ RI) (eI 5 (by decide)) (fun k _ _ => eIk k (by omega)) (fun h2 j j0 j1 n F2 => hq _ _ (by rw [F2 24 (by decide), eI6]; exact ⟨by omega, Or.inr ⟨rfl, j, j0, j1, n⟩⟩) ⟨fun k hk => (F2 k (by omega)).trans (eIk k hk), fun b hb => by rw [F2 24 (by decide)]; exact eI b hb⟩) (fun h2 op2 l2 v2 J3 J4 F2 => ?_) 14 0 op _ (by omega) n12.1 (by omega) ⟨fun j j0 j1 => by omega, fun j j0 j1 => by rw [hIk 29 (by decide)]; exact JJ j j0 j1⟩ (by rw [hIk 29 (by decide)]; exact JO) (fun _ _ => rfl) _
          refine go_iinc rfl rfl (by decide) rfl (by unfold ab_iok; omega) ?_
          refine go_goto rfl (tgt := 20) (by decide) ?_
          exact ih (t + 1) op2 h2 (by omega) (by omega) (by omega) J3 J4 (by rw [show (t + 1 - 1).toNat = t.toNat by omega]; exact rw_frame RI (fun k _ _ => F2 k (by omega))) ⟨fun y => by omega, fun _ => by rw [F2 24 (by decide), eI6]; omega⟩ ⟨fun k hk => (F2 k (by omega)).trans (eIk k hk), fun b hb => by rw [F2 24 (by decide)]; exact eI b hb⟩ _ _
theorem wk_num_all {q : Int → Prop} : ∀ n : Nat, (∀ j : Int, 0 ≤ j → j < n → q j) → wk_num q n = n
  | 0, _ => rfl
  | n + 1, h => by
    unfold wk_num
    rw [wk_num_all n (fun j j0 j1 => h j j0 (by omega)), rd_t (h n (by omega) (by omega))]
    omega
set_option maxHeartbeats 4000000 in
set_option maxRecDepth 100000 in
theorem s_X1_comeAsTold {g : ab_G} {h : ab_H} {m : Int} {W : tb_W} (hP : tb_pm m W) (L : iv_L h) (em : h 10 7 = m) (hm : 0 ≤ m ∧ m ≤ 6) (hw : 0 ≤ h 10 8 ∧ h 10 8 < 64) (mk : ∀ j, 0 ≤ j → j < m → wk_tb (h 10 8) j = true) (hW : ∀ s : Nat, s ≤ 400 → wk_eq m (wk_at (h 10 9) (h 15) (h 16) (h 17) (h 10 7) (h 10 10) (h 10 11) (h 10 8) (wk_row h) s) (W s)) (hE : 1 ≤ h 10 9) (hb : ∀ k, h 10 7 ≤ k → k < 6 → ¬ wk_tb (h 10 8) k = true) (R : rw_at h 0 h) : MethI g 4 m_X1_comeAsTold [a_R 24, a_R 10] h (fun z h' => ca_P h m W z (h' 24 6) ∧ CA h h') := by
  refine Meth.of_go k_X1_comeAsTold (Nat.le_of_ble_eq_true rfl) ?_
  show Go g _ m_X1_comeAsTold _ 0 [some (a_R 24), some (a_R 10), none, none, none, none] [] h
  have n12 := L.1
  refine go_aload_n rfl rfl ?_
  refine go_getR rfl f_X1_24 rfl rfl ?_ -- inBag
  refine go_iconst rfl ?_
  refine go_cS2V (M' := m_J7_fill_53178) rfl l_X1_34 k_J7_fill_53178 (s_J7_fill_53178 (n := 12) rfl (by omega)) rfl (by decide) (Nat.le_of_ble_eq_true rfl) (fun h5 q5 => ?_) -- J7_fill_53178
  refine go_aload_n rfl rfl ?_
  refine go_getI rfl f_X1_27 rfl rfl rfl ?_ -- size
  refine go_istore_n rfl (by decide) rfl ?_
  refine go_aload_n rfl rfl ?_
  refine go_iconst rfl ?_
  refine go_putI rfl f_X1_31 rfl rfl rfl ?_ -- decided
  refine go_iconst rfl ?_
  refine go_istore_n rfl (by decide) rfl ?_
  have e24 : h5 24 5 = h 24 5 := q5.2 24 5 (by omega)
  refine lp_X1_ct hP L em hm hw mk hW hE hb (fun h2 z P F => ⟨_, rfl, P, F⟩) 500 0 _ _ (by omega) (by omega) (by omega) (fun j j0 j1 => ?_) ?_ (rw_frame R (fun k _ _ => ?_)) ⟨fun _ => ab_hs_eq, fun y => by omega⟩ ⟨fun k hk => ?_, fun b hb => ?_⟩ _ _
  · rw [ab_hs_f (by decide), q5.1 j j0 (by omega)]; exact cl_0 (L.2.2 j j0 j1).1.2.1.1 (L.2.2 j j0 j1).1.2.2.2.1
  · rw [ab_hs_f (by decide), e24]; have y := wk_num_all (q := fun j => h5 29 j ≠ -2) (h 24 5).toNat (fun j j0 j1 => by rw [q5.1 j j0 (by omega)]; decide); omega
  · rw [ab_hs_f (by omega)]; exact funext fun b => q5.2 k b (by omega)
  · rw [ab_hs_f (by omega)]; exact funext fun b => q5.2 k b (by omega)
  · rw [ab_hs_i hb]; exact q5.2 24 b (by omega)
