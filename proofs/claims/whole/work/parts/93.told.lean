/-! digest of both; when told letters come, over a walk that is cut off -/
section DGS
variable {h h' : ab_H}
theorem D_same (F : CF h h') : D_F h' = D_F h := by
  have e9 := F.k9
  have e1 : S_c h' = S_c h := by funext k a; unfold S_c; rw [F.co]
  have e2 : ∀ i, S_b h' i = S_b h i := fun i => by funext k a; unfold S_b; rw [bg_same e9]
  have e3 : ∀ i t, S_m h' i t = S_m h i t := fun i t => by funext k a; unfold S_m; rw [mn_same e9]
  have e4 : ∀ i, nx_i h' i = nx_i h i := fun i => by unfold nx_i; rw [e9 1 (by omega)]
  have e5 : S_n h' = S_n h := by
    funext i a
    unfold S_n S_a5 S_a4 S_a3
    rw [e2, e3, e3, e4, cd_same e9, mt_same e9, TA_same e9, e9 1 (by omega)]
  have e6 : S_h h' = S_h h := by
    funext j a
    unfold S_h TW
    rw [tW_same e9, e9 1 (by omega), e9 6 (by omega)]
  unfold D_F D_3 D_2 D_1
  rw [e1, e5, e6, ms_same e9, tr_same e9, ag_same e9, gvr_same e9, gvr_same e9, sv_same e9, fe_same e9, F.la, e9 1 (by omega)]
end DGS
def opL (g : ab_G) (d d' : Nat) (X Y : ab_M) (as : List ab_V) (h : ab_H) : Prop := MethL g d X (a_R 0 :: as) h (fun z h1 => MethL g d' Y (a_R 62 :: as) h1 (fun z' h2 => z' = z ∧ Inv h2))
theorem op_digest {g : ab_G} {h : ab_H} (I : Inv h) : opL g 8 8 m_X6_digest m_X7_digest [] h := by
  refine (c_digest I).mono (fun r h1 ⟨z, ez, e1, F1, I1⟩ => ⟨z, ez, ?_⟩)
  refine (j_digest I1).mono (fun r' h2 ⟨z', ez', e2, F2, I2⟩ => ⟨z', ez', ?_, I2⟩)
  rw [e1, e2, D_same F1]
section TBC
variable {m : Int} {W W' : tb_W}
theorem tb_f_c {t p : Int} (e : wk_eq m (W t) (W' t)) : tb_f m W t p = tb_f m W' t p := fs_congr (by omega) (fun j j0 j1 => by rw [(e j j0 j1).1])
theorem tb_H_c {t b : Int} (e : wk_eq m (W t) (W' t)) : tb_H m W t b = tb_H m W' t b := fs_congr (by omega) (fun j j0 j1 => by rw [(e j j0 j1).2.2])
theorem tb_f_in {t p : Int} (n : tb_f m W t p ≠ -1) : 0 ≤ tb_f m W t p ∧ tb_f m W t p < m := by
  have k : Fst 0 m (fun i => (W t).1 i = 2 * p) (tb_f m W t p) := fs_ok (by omega)
  rcases k with ⟨z, -⟩ | ⟨a, b, -⟩
  · exact absurd z n
  · exact ⟨a, b⟩
theorem tb_Hn {t b : Int} (n : tb_H m W t b ≠ -1) : 0 ≤ tb_H m W t b ∧ tb_H m W t b < m := by
  have k : Fst 0 m (fun i => (W t).2.2 i = b) (tb_H m W t b) := fs_ok (by omega)
  rcases k with ⟨z, -⟩ | ⟨a, b, -⟩
  · exact absurd z n
  · exact ⟨a, b⟩
theorem tb_bt_c {t p : Int} (e : wk_eq m (W t) (W' t)) : tb_bt m W t p = tb_bt m W' t p := by
  unfold tb_bt
  rw [← tb_f_c e]
  by_cases n : tb_f m W t p = -1
  · rw [if_pos n, if_pos n]
  · rw [if_neg n, if_neg n]
    exact (e _ (tb_f_in n).1 (tb_f_in n).2).2.2
theorem tb_bp_c {t b : Int} (e : wk_eq m (W t) (W' t)) : tb_bp m W t b = tb_bp m W' t b := by
  unfold tb_bp
  rw [← tb_H_c e]
  by_cases n : tb_H m W t b = -1
  · rw [if_pos n, if_pos n]
  · rw [if_neg n, if_neg n]
    exact (e _ (tb_Hn n).1 (tb_Hn n).2).1
theorem tb_lt_rng {p u q : Int} (hu : 0 ≤ u) : tb_lt m W p u q = -1 ∨ (0 ≤ tb_lt m W p u q ∧ tb_lt m W p u q ≤ 400) := by
  unfold tb_lt
  by_cases n : tb_tk m W p u = -1
  · rw [if_pos n]; exact Or.inl rfl
  · rw [if_neg n]
    obtain ⟨k0, k1, kb⟩ := tb_tk_in hu n
    have k : Fst (tb_tk m W p u) 401 (fun t => tb_bp m W t (tb_lb m W p u) = 2 * q) (tb_bc m W (tb_lb m W p u) (tb_tk m W p u) q) := fs_ok (by omega)
    rcases k with ⟨z, -⟩ | ⟨a, b, -⟩
    · exact Or.inl z
    · exact Or.inr ⟨by omega, by omega⟩
theorem tb_lt_loc {p u q D s : Int} (hu : 0 ≤ u) (hD : D ≤ 400) (e : ∀ t, 0 ≤ t → t ≤ D → wk_eq m (W t) (W' t)) (s0 : 0 ≤ s) (s1 : s ≤ D) (h : tb_lt m W p u q = s) : tb_lt m W' p u q = s := by
  by_cases n : tb_tk m W p u = -1
  · unfold tb_lt at h; rw [if_pos n] at h; omega
  · obtain ⟨k0, k1, kb⟩ := tb_tk_in hu n
    have eb : tb_lb m W p u = tb_bt m W (tb_tk m W p u) p := by unfold tb_lb; rw [if_neg n]
    have h2 : tb_bc m W (tb_lb m W p u) (tb_tk m W p u) q = s := by unfold tb_lt at h; rw [if_neg n] at h; exact h
    rw [eb] at h2
    have hf : Fst (2 * u) 401 (fun t => tb_bt m W t p ≠ -1) (tb_tk m W p u) := fs_ok (by omega)
    have hc : Fst (tb_tk m W p u) 401 (fun t => tb_bp m W t (tb_bt m W (tb_tk m W p u) p) = 2 * q) (tb_bc m W (tb_bt m W (tb_tk m W p u) p) (tb_tk m W p u) q) := fs_ok (by omega)
    rw [h2] at hc
    revert n k0 k1 kb hf hc
    generalize tb_tk m W p u = k
    intro n k0 k1 kb hf hc
    have kn : ∀ j, 2 * u ≤ j → j < k → tb_bt m W j p = -1 := by
      rcases hf with ⟨z, -⟩ | ⟨-, -, -, z⟩
      · exact absurd z n
      · intro j j0 j1; exact Classical.byContradiction (fun y => z j j0 j1 y)
    rcases hc with ⟨z, -⟩ | ⟨c0, c1, c2, c3⟩
    · omega
    · have eb2 : tb_bt m W k p = tb_bt m W' k p := tb_bt_c (e k (by omega) (by omega))
      have r := fl_hit (W := W') (p := p) (u := u) (q := q) (t := s) (k := k) hu k0 c0 (by omega) (by rw [← eb2]; exact kb) (fun j j0 j1 => by rw [← tb_bt_c (e j (by omega) (by omega))]; exact kn j j0 j1) (fun j j0 j1 => by rw [← eb2, ← tb_bp_c (e j (by omega) (by omega))]; exact c3 j j0 j1) (by rw [← eb2, ← tb_bp_c (e s s0 s1)]; exact c2)
      exact r.2.symm
end TBC
/-- a told letter at half minute t: it came as told, or it lies in its bag, or it is not taken yet -/
def cl_J (m : Int) (W : tb_W) (p u q d t x : Int) : Prop := (x = -2 ∧ tb_lt m W p u q = d ∧ 0 ≤ d ∧ d < t) ∨ (x ≠ -2 ∧ ¬ (0 ≤ d ∧ d < t) ∧ fl_J m W p u q t x (-1))
noncomputable def cn_x (m : Int) (W : tb_W) (p u t x : Int) : Int := if x = -1 ∧ 2 * u ≤ t then tb_bt m W t p else x
def cn_now (m : Int) (W : tb_W) (p u q t x : Int) : Prop := cn_x m W p u t x ≠ -1 ∧ tb_bp m W t (cn_x m W p u t x) = 2 * q
section CLJ
variable {m : Int} {W : tb_W} {p u q d t x : Int}
theorem cl_0 (hu : 0 ≤ u) (hd : -1 ≤ d) : cl_J m W p u q d 0 (-1) := Or.inr ⟨by decide, by omega, Or.inl ⟨rfl, rfl, fun j j0 j1 => by omega⟩⟩
theorem tb_bt_2 (hP : tb_pm m W) (ht : 0 ≤ t ∧ t ≤ 400) (n : tb_bt m W t p ≠ -1) : 0 ≤ tb_bt m W t p ∧ tb_bt m W t p < m := by
  unfold tb_bt at n ⊢
  by_cases z : tb_f m W t p = -1
  · rw [if_pos z] at n; exact absurd rfl n
  · rw [if_neg z]
    exact (hP t ht.1 ht.2).1 _ (tb_f_in z).1 (tb_f_in z).2
theorem cn_2 (hP : tb_pm m W) (ht : 0 ≤ t ∧ t ≤ 400) (hx : x ≠ -2) : cn_x m W p u t x ≠ -2 := by
  unfold cn_x
  by_cases z : x = -1 ∧ 2 * u ≤ t
  · rw [if_pos z]
    intro y
    have := tb_bt_2 (p := p) hP ht (by omega)
    omega
  · rw [if_neg z]; exact hx
/-- he who does not come at t -/
theorem cn_f (hu : 0 ≤ u) (ht : 0 ≤ t ∧ t ≤ 400) (J : fl_J m W p u q t x (-1)) (n : ¬ cn_now m W p u q t x) : fl_J m W p u q (t + 1) (cn_x m W p u t x) (-1) := by
  unfold cn_now at n
  by_cases z : 2 * u ≤ t
  · exact fj_nx hu ⟨z, ht.2⟩ J (fun y => by unfold cn_x; rw [if_neg (by omega)]) (fun y => by unfold cn_x; rw [if_pos ⟨y, z⟩]) (Or.inr ⟨n, rfl⟩)
  · have e : cn_x m W p u t x = x := by unfold cn_x; rw [if_neg (by omega)]
    rw [e]
    rcases J with ⟨a, -, b⟩ | ⟨k, k0, -⟩ | ⟨-, -, b⟩
    · exact Or.inl ⟨a, rfl, fun j j0 j1 => by omega⟩
    · omega
    · exact absurd rfl b
theorem cn_t (hu : 0 ≤ u) (ht : 0 ≤ t ∧ t ≤ 400) (J : fl_J m W p u q t x (-1)) (n : cn_now m W p u q t x) : tb_lt m W p u q = t := by
  unfold cn_now at n
  have z : 2 * u ≤ t := by
    refine Classical.byContradiction fun z => ?_
    rw [show cn_x m W p u t x = x by unfold cn_x; rw [if_neg (by omega)]] at n
    rcases J with ⟨a, -, b⟩ | ⟨k, k0, -⟩ | ⟨-, -, b⟩
    · exact n.1 a
    · omega
    · exact absurd rfl b
  have r := fj_nx (lt' := t) hu ⟨z, ht.2⟩ J (lb' := cn_x m W p u t x) (fun y => by unfold cn_x; rw [if_neg (by omega)]) (fun y => by unfold cn_x; rw [if_pos ⟨y, z⟩]) (Or.inl ⟨n.1, n.2, rfl⟩)
  rcases r with ⟨-, b, -⟩ | ⟨k, k0, -, -, -, b, -⟩ | ⟨-, b, -⟩
  · omega
  · omega
  · exact b.symm
theorem cn_n (hu : 0 ≤ u) (ht : 0 ≤ t ∧ t ≤ 400) (J : fl_J m W p u q t x (-1)) (n : ¬ cn_now m W p u q t x) : tb_lt m W p u q ≠ t := by
  intro e
  have r := cn_f hu ht J n
  revert r
  generalize cn_x m W p u t x = y
  intro r
  have key : ∀ k, 2 * u ≤ k → k ≤ 400 → tb_bt m W k p ≠ -1 → (∀ j, 2 * u ≤ j → j < k → tb_bt m W j p = -1) → tb_tk m W p u = k := fun k a b c d => fl_tk hu a b c d
  by_cases nk : tb_tk m W p u = -1
  · unfold tb_lt at e; rw [if_pos nk] at e; omega
  · obtain ⟨k0, k1, kb⟩ := tb_tk_in hu nk
    have eb : tb_lb m W p u = tb_bt m W (tb_tk m W p u) p := by unfold tb_lb; rw [if_neg nk]
    have h2 : tb_bc m W (tb_lb m W p u) (tb_tk m W p u) q = t := by unfold tb_lt at e; rw [if_neg nk] at e; exact e
    have hc : Fst (tb_tk m W p u) 401 (fun s => tb_bp m W s (tb_lb m W p u) = 2 * q) (tb_bc m W (tb_lb m W p u) (tb_tk m W p u) q) := fs_ok (by omega)
    rw [h2] at hc
    rcases hc with ⟨z, -⟩ | ⟨c0, c1, c2, -⟩
    · omega
    · rcases r with ⟨-, -, b⟩ | ⟨k, ⟨l0, l1⟩, lb, ln, ey, -, b⟩ | ⟨-, -, b⟩
      · exact kb (b _ k0 (by omega))
      · have ek := key k l0 (by omega) lb ln
        rw [eb, ek, ← ey] at c2
        exact b t (by omega) (by omega) c2
      · exact absurd rfl b
end CLJ
def fits (h : ab_H) (m : Int) (W : tb_W) : Prop := ∀ j, 0 ≤ j → j < h 24 5 → tb_lt m W (h 25 j) (h 26 j) (h 27 j) = h 28 j
/-- what comeAsTold says, and up to which half minute it looked -/
def ca_P (h : ab_H) (m : Int) (W : tb_W) (z D : Int) : Prop := (0 ≤ D ∧ D ≤ 400) ∧ ((z = 1 ∧ ∀ j, 0 ≤ j → j < h 24 5 → tb_lt m W (h 25 j) (h 26 j) (h 27 j) = h 28 j ∧ (D = 400 ∨ (0 ≤ h 28 j ∧ h 28 j ≤ D))) ∨ (z = 0 ∧ ∃ j, 0 ≤ j ∧ j < h 24 5 ∧ ¬ (tb_lt m W (h 25 j) (h 26 j) (h 27 j) = D ↔ h 28 j = D)))
theorem ca_fits {h : ab_H} {m : Int} {W W' : tb_W} {z D : Int} (L : iv_L h) (P : ca_P h m W z D) (e : ∀ t, 0 ≤ t → t ≤ D → wk_eq m (W t) (W' t)) : z = rd_bool (fits h m W') := by
  obtain ⟨⟨D0, D1⟩, P⟩ := P
  have e' : ∀ t, 0 ≤ t → t ≤ D → wk_eq m (W' t) (W t) := fun t a b => (e t a b).symm
  rcases P with ⟨hz, P⟩ | ⟨hz, j, j0, j1, n⟩
  · rw [rd_t, hz]
    intro j j0 j1
    obtain ⟨a, b⟩ := P j j0 j1
    have lk := (L.2.2 j j0 j1).1
    have hu : 0 ≤ h 26 j := lk.2.1.1
    by_cases s : 0 ≤ h 28 j
    · refine tb_lt_loc hu D1 e s ?_ a
      rcases b with b | b
      · have := lk.2.2.2; omega
      · exact b.2
    · have d1 : h 28 j = -1 := by have := lk.2.2.2; omega
      have D4 : D = 400 := by rcases b with b | b; exact b; omega
      rcases tb_lt_rng (m := m) (W := W') (p := h 25 j) (u := h 26 j) (q := h 27 j) hu with r | ⟨r0, r1⟩
      · rw [r, d1]
      · have := tb_lt_loc hu D1 e' r0 (by omega) rfl
        rw [a] at this
        omega
  · rw [rd_f, hz]
    intro y
    have lk := (L.2.2 j j0 j1).1
    have hu : 0 ≤ h 26 j := lk.2.1.1
    have yj := y j j0 j1
    apply n
    constructor
    · intro x
      have := tb_lt_loc hu D1 e D0 (by omega) x
      omega
    · intro x
      exact tb_lt_loc hu D1 e' D0 (by omega) (yj.trans x)
