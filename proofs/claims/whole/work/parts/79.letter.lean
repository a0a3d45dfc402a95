/-! a letter, the reference's way -/
def LF (h h' : ab_H) : Prop := (∀ k, k ≠ 62 → h' k = h k) ∧ ∀ b, ¬ (b = 25 ∨ b = 26) → h' 62 b = h 62 b
theorem LF.refl (h : ab_H) : LF h h := ⟨fun _ _ => rfl, fun _ _ => rfl⟩
theorem LF.trans {h h' h'' : ab_H} (a : LF h h') (b : LF h' h'') : LF h h'' := ⟨fun k hk => (b.1 k hk).trans (a.1 k hk), fun k hk => (b.2 k hk).trans (a.2 k hk)⟩
theorem LF.set {h h' : ab_H} (F : LF h h') {i v : Int} (hi : i = 25 ∨ i = 26) : LF h (ab_hs h' 62 i v) := ⟨fun k hk => by rw [ab_hs_f hk]; exact F.1 k hk, fun b hb => by rw [ab_hs_i (by omega)]; exact F.2 b hb⟩
theorem LF.mf {h h' : ab_H} (F : LF h h') : MF h h' := ⟨fun k hk => F.1 k (by omega), fun b hb => F.2 b (by omega)⟩
theorem LF.mtw {h h' : ab_H} (F : LF h h') {m w : Int} {W : tb_W} (T : mtw m w W h) : mtw m w W h' := by
  refine ⟨⟨by rw [F.2 9 (by decide)]; exact T.1.1, by rw [F.2 18 (by decide)]; exact T.1.2.1, T.1.2.2⟩, ?_⟩
  rw [F.1 75 (by decide), F.1 76 (by decide), F.1 77 (by decide)]
  exact T.2
theorem LF.MR {h h' : ab_H} (F : LF h h') (R : MR h) : MR h' := by
  refine ⟨by rw [F.2 8 (by decide), F.1 1 (by decide)]; exact R.1, ?_⟩
  have e1 : md_ps h' = md_ps h := by unfold md_ps; rw [F.2 9 (by decide), F.2 13 (by decide), F.1 68 (by decide), F.1 69 (by decide), F.1 70 (by decide), F.1 71 (by decide)]
  have e2 : rd_ps h' = rd_ps h := by unfold rd_ps; rw [F.1 1 (by decide), F.1 3 (by decide), F.1 4 (by decide), F.1 5 (by decide), F.1 6 (by decide)]
  rw [e1, e2]; exact R.2
theorem LF.MT {h0 h h' : ab_H} (F : LF h h') (T : MT h0 h) : MT h0 h' := by
  refine ⟨F.mtw T.1, ?_, F.MR T.2.2⟩
  unfold mtm; rw [F.1 78 (by decide)]; exact T.2.1
def fl_J (m : Int) (W : tb_W) (p u q t lb lt : Int) : Prop := (lb = -1 ∧ lt = -1 ∧ ∀ j, 2 * u ≤ j → j < t → tb_bt m W j p = -1) ∨ (∃ k, (2 * u ≤ k ∧ k < t) ∧ tb_bt m W k p ≠ -1 ∧ (∀ j, 2 * u ≤ j → j < k → tb_bt m W j p = -1) ∧ lb = tb_bt m W k p ∧ lt = -1 ∧ ∀ j, k ≤ j → j < t → ¬ tb_bp m W j lb = 2 * q) ∨ (lb = tb_lb m W p u ∧ lt = tb_lt m W p u q ∧ lt ≠ -1)
theorem fl_tk {m : Int} {W : tb_W} {p u k : Int} (hu : 0 ≤ u) (k0 : 2 * u ≤ k) (k1 : k ≤ 400) (kb : tb_bt m W k p ≠ -1) (kn : ∀ j, 2 * u ≤ j → j < k → tb_bt m W j p = -1) : tb_tk m W p u = k := (fs_eq (by omega) (Or.inr ⟨k0, by omega, kb, fun j j0 j1 z => z (kn j j0 j1)⟩)).symm
theorem fj_end {m : Int} {W : tb_W} {p u q lb lt : Int} (hu : 0 ≤ u) (J : fl_J m W p u q 401 lb lt) : lb = tb_lb m W p u ∧ lt = tb_lt m W p u q := by
  rcases J with ⟨a, b, c⟩ | ⟨k, k0, kb, kn, e1, e2, e3⟩ | ⟨a, b, -⟩
  · have e : tb_tk m W p u = -1 := (fs_eq (by omega) (Or.inl ⟨rfl, fun j j0 j1 z => z (c j j0 j1)⟩)).symm
    unfold tb_lt tb_lb
    rw [if_pos e, if_pos e]
    exact ⟨a, b⟩
  · have e := fl_tk hu k0.1 (by omega) kb kn
    unfold tb_lt tb_lb
    rw [e, if_neg (by omega), if_neg (by omega)]
    refine ⟨e1, e2.trans ?_⟩
    exact fs_eq (by omega) (Or.inl ⟨rfl, fun j j0 j1 z => e3 j j0 j1 (by rw [e1]; exact z)⟩)
  · exact ⟨a, b⟩
theorem fl_hit {m : Int} {W : tb_W} {p u q t k : Int} (hu : 0 ≤ u) (k0 : 2 * u ≤ k) (kt : k ≤ t) (t1 : t ≤ 400) (kb : tb_bt m W k p ≠ -1) (kn : ∀ j, 2 * u ≤ j → j < k → tb_bt m W j p = -1) (hn : ∀ j, k ≤ j → j < t → ¬ tb_bp m W j (tb_bt m W k p) = 2 * q) (h : tb_bp m W t (tb_bt m W k p) = 2 * q) : tb_bt m W k p = tb_lb m W p u ∧ t = tb_lt m W p u q := by
  have e := fl_tk hu k0 (by omega) kb kn
  unfold tb_lt tb_lb
  rw [e, if_neg (by omega), if_neg (by omega)]
  exact ⟨rfl, fs_eq (by omega) (Or.inr ⟨kt, by omega, h, hn⟩)⟩
theorem fj_nx {m : Int} {W : tb_W} {p u q t lb lb' lt' : Int} (hu : 0 ≤ u) (ht : 2 * u ≤ t ∧ t ≤ 400) (J : fl_J m W p u q t lb (-1)) (h1 : lb ≠ -1 → lb' = lb) (h2 : lb = -1 → lb' = tb_bt m W t p) (h3 : (lb' ≠ -1 ∧ tb_bp m W t lb' = 2 * q ∧ lt' = t) ∨ (¬ (lb' ≠ -1 ∧ tb_bp m W t lb' = 2 * q) ∧ lt' = -1)) : fl_J m W p u q (t + 1) lb' lt' := by
  rcases J with ⟨a, b, c⟩ | ⟨k, k0, kb, kn, e1, e2, e3⟩ | ⟨a, b, c⟩
  · have e := h2 a
    by_cases z : tb_bt m W t p = -1
    · refine Or.inl ⟨e.trans z, ?_, fun j j0 j1 => ?_⟩
      · rcases h3 with ⟨x, -⟩ | ⟨-, x⟩
        · exact absurd (e.trans z) x
        · exact x
      · by_cases y : j = t
        · subst y; exact z
        · exact c j j0 (by omega)
    · rcases h3 with ⟨x, y, w⟩ | ⟨x, w⟩
      · rw [e] at y
        have := fl_hit hu ht.1 (Int.le_refl t) ht.2 z c (fun j j0 j1 => by omega) y
        exact Or.inr (Or.inr ⟨e.trans this.1, w.trans this.2, by omega⟩)
      · refine Or.inr (Or.inl ⟨t, by omega, z, c, e, w, fun j j0 j1 y => x ⟨fun v => z (e.symm.trans v), ?_⟩⟩)
        rw [show t = j by omega]; exact y
  · have e := h1 (by rw [e1]; exact kb)
    rcases h3 with ⟨x, y, w⟩ | ⟨x, w⟩
    · rw [e, e1] at y
      rw [e1] at e3
      have := fl_hit hu k0.1 (by omega) ht.2 kb kn e3 y
      exact Or.inr (Or.inr ⟨(e.trans e1).trans this.1, w.trans this.2, by omega⟩)
    · refine Or.inr (Or.inl ⟨k, by omega, kb, kn, e.trans e1, w, fun j j0 j1 y => ?_⟩)
      rw [e] at y
      by_cases v : j = t
      · subst v; exact x ⟨fun v => kb (e1.symm.trans (e.symm.trans v)), by rw [e]; exact y⟩
      · exact e3 j j0 (by omega) y
  · exact absurd rfl c
theorem fj_in {m : Int} {W : tb_W} {p u q t lb lb' : Int} (hP : tb_pm m W) (hu : 0 ≤ u) (ht : 2 * u ≤ t ∧ t ≤ 400) (J : fl_J m W p u q t lb (-1)) (h1 : lb ≠ -1 → lb' = lb) (h2 : lb = -1 → lb' = tb_bt m W t p) (h : lb' ≠ -1) : 0 ≤ lb' ∧ lb' < m := by
  rcases J with ⟨a, b, c⟩ | ⟨k, k0, kb, kn, e1, e2, e3⟩ | ⟨a, b, c⟩
  · have e := h2 a
    rw [e] at h ⊢
    exact tb_bt_in (hP t (by omega) (by omega)) h
  · have e := h1 (by rw [e1]; exact kb)
    rw [e, e1]
    exact tb_bt_in (hP k (by omega) (by omega)) kb
  · exact absurd rfl c
/-- the inner search: the first on the pace -/
def fi_J (m : Int) (W : tb_W) (p t i lb0 lb : Int) : Prop := (lb0 ≠ -1 ∧ lb = lb0) ∨ (lb0 = -1 ∧ ((lb = -1 ∧ ∀ j, 0 ≤ j → j < i → ¬ (W t).1 j = 2 * p) ∨ (lb ≠ -1 ∧ lb = tb_bt m W t p)))
theorem fi_t {m : Int} {W : tb_W} {p t i lb0 : Int} (hP : tb_p1 m (W t).2.2) (hi : 0 ≤ i ∧ i < m) (J : fi_J m W p t i lb0 (-1)) (h : (W t).1 i = 2 * p) : fi_J m W p t (i + 1) lb0 ((W t).2.2 i) := by
  rcases J with ⟨a, b⟩ | ⟨a, ⟨b, c⟩ | ⟨b, c⟩⟩
  · exact absurd b.symm a
  · refine Or.inr ⟨a, Or.inr ⟨by have := hP.1 i hi.1 hi.2; omega, ?_⟩⟩
    have : tb_f m W t p = i := (fs_eq (by omega) (Or.inr ⟨hi.1, hi.2, h, c⟩)).symm
    unfold tb_bt
    rw [this, if_neg (by omega)]
  · exact absurd rfl b
theorem fi_f {m : Int} {W : tb_W} {p t i lb0 : Int} (J : fi_J m W p t i lb0 (-1)) (h : ¬ (W t).1 i = 2 * p) : fi_J m W p t (i + 1) lb0 (-1) := by
  rcases J with ⟨a, b⟩ | ⟨a, ⟨b, c⟩ | ⟨b, c⟩⟩
  · exact absurd b.symm a
  · refine Or.inr ⟨a, Or.inl ⟨b, fun j j0 j1 => ?_⟩⟩
    by_cases e : j = i
    · subst e; exact h
    · exact c j j0 (by omega)
  · exact absurd rfl b
theorem fi_end {m : Int} {W : tb_W} {p t lb0 lb : Int} (J : fi_J m W p t m lb0 lb) : (lb0 ≠ -1 → lb = lb0) ∧ (lb0 = -1 → lb = tb_bt m W t p) := by
  rcases J with ⟨a, b⟩ | ⟨a, ⟨b, c⟩ | ⟨b, c⟩⟩
  · exact ⟨fun _ => b, fun z => absurd z a⟩
  · refine ⟨fun z => absurd a z, fun _ => ?_⟩
    have : tb_f m W t p = -1 := (fs_eq (by omega) (Or.inl ⟨rfl, c⟩)).symm
    unfold tb_bt
    rw [if_pos this]; exact b
  · exact ⟨fun z => absurd a z, fun _ => c⟩
theorem fi_out {m : Int} {W : tb_W} {p t i lb0 lb : Int} (J : fi_J m W p t i lb0 lb) (h : lb ≠ -1) : (lb0 ≠ -1 → lb = lb0) ∧ (lb0 = -1 → lb = tb_bt m W t p) := by
  rcases J with ⟨a, b⟩ | ⟨a, ⟨b, c⟩ | ⟨b, c⟩⟩
  · exact ⟨fun _ => b, fun z => absurd z a⟩
  · exact absurd b h
  · exact ⟨fun z => absurd a z, fun _ => c⟩
set_option maxHeartbeats 4000000 in
set_option maxRecDepth 100000 in
theorem lp_X7_letterIn {g : ab_G} {h0 : ab_H} {W : tb_W} {m p u q t : Int} {Q : Option ab_V → ab_H → Prop} (T0 : mtw m 63 W h0) (hP : tb_p1 m (W t).2.2) (hp : 0 ≤ p ∧ p ≤ 40) (ht : 0 ≤ t ∧ t ≤ 400) (K : ∀ h, ((h0 62 25 ≠ -1 → h 62 25 = h0 62 25) ∧ (h0 62 25 = -1 → h 62 25 = tb_bt m W t p)) → h 62 26 = -1 → LF h0 h → ∀ i, Go g (ab_rm 4, 0, 0) m_X7_findLetter Q 97 [some (a_R 62), some (a_I p), some (a_I u), some (a_I q), some (a_I t), some (a_I i)] [] h) : ∀ (f : Nat) (i : Int) (h : ab_H), 0 ≤ i → i ≤ m → m - i < f → fi_J m W p t i (h0 62 25) (h 62 25) → h 62 26 = -1 → LF h0 h → Go g (ab_rm 4, 0, 0) m_X7_findLetter Q 34 [some (a_R 62), some (a_I p), some (a_I u), some (a_I q), some (a_I t), some (a_I i)] [] h := by
  intro f
  induction f with
  | zero => intro i h h0i h1 hf; omega
  | succ f ih =>
    intro i h h0i h1 hf J h26 F
    have T := F.mtw T0
    obtain ⟨⟨e9, e18, hm, hw⟩, -⟩ := id T
    refine go_iload rfl rfl ?_
    refine go_aload_n rfl rfl ?_
    refine go_getI rfl f_X7_110 rfl rfl rfl ?_ -- men
    refine go_icmp_ge rfl (tgt := 97) (by decide) (fun c40 => ?_) (fun c40 => ?_)
    · exact K h (fi_end (by rw [show i = m by omega] at J; exact J)) h26 F _
    · refine go_aload_n rfl rfl ?_
      refine go_getI rfl f_X7_229 rfl rfl rfl ?_ -- letterBag
      refine go_iconst rfl ?_
      refine go_icmp_ne rfl (tgt := 97) (by decide) (fun c48 => ?_) (fun c48 => ?_)
      · exact K h (fi_out J c48) h26 F _
      · have bt := wk_all (show 0 ≤ i ∧ i < 6 by omega)
        refine go_aload_n rfl rfl ?_
        refine go_aload_n rfl rfl ?_
        refine go_getR rfl f_X7_46 rfl rfl ?_ -- places
        refine go_bipush rfl ?_
        refine go_iload rfl rfl ?_
        refine go_imul rfl (by unfold ab_iok; omega) ?_
        refine go_iload rfl rfl ?_
        refine go_iadd rfl (by unfold ab_iok; omega) ?_
        refine go_iald rfl rfl (by omega) (by omega) ?_
        rw [(T.2 t i (by omega) (by omega) h0i (by omega) bt).1]
        refine go_iconst rfl ?_
        refine go_iload_n rfl rfl ?_
        refine go_imul rfl (by unfold ab_iok; omega) ?_
        refine go_icmp_ne rfl (tgt := 87) (by decide) (fun c68 => ?_) (fun c68 => ?_)
        · refine go_iconst rfl ?_
          refine go_putI rfl f_X7_229 rfl rfl rfl ?_ -- letterBag
          refine go_iinc rfl rfl (by decide) rfl (by unfold ab_iok; omega) ?_
          refine go_goto rfl (tgt := 34) (by decide) ?_
          exact ih (i + 1) _ (by omega) (by omega) (by omega) (by rw [ab_hs_eq]; exact fi_f (c48 ▸ J) c68) (by rw [ab_hs_i (by decide)]; exact h26) (F.set (Or.inl rfl))
        · refine go_aload_n rfl rfl ?_
          refine go_getR rfl f_X7_52 rfl rfl ?_ -- bags
          refine go_bipush rfl ?_
          refine go_iload rfl rfl ?_
          refine go_imul rfl (by unfold ab_iok; omega) ?_
          refine go_iload rfl rfl ?_
          refine go_iadd rfl (by unfold ab_iok; omega) ?_
          refine go_iald rfl rfl (by omega) (by omega) ?_
          rw [(T.2 t i (by omega) (by omega) h0i (by omega) bt).2.2]
          refine go_goto rfl (tgt := 88) (by decide) ?_
          refine go_putI rfl f_X7_229 rfl rfl rfl ?_ -- letterBag
          refine go_iinc rfl rfl (by decide) rfl (by unfold ab_iok; omega) ?_
          refine go_goto rfl (tgt := 34) (by decide) ?_
          exact ih (i + 1) _ (by omega) (by omega) (by omega) (by rw [ab_hs_eq]; exact fi_t hP ⟨h0i, by omega⟩ (c48 ▸ J) c68) (by rw [ab_hs_i (by decide)]; exact h26) (F.set (Or.inl rfl))
set_option maxHeartbeats 4000000 in
set_option maxRecDepth 100000 in
theorem lp_X7_findLetter {g : ab_G} {h0 : ab_H} {W : tb_W} {m p u q : Int} {Q : Option ab_V → ab_H → Prop} (T0 : mtw m 63 W h0) (hP : tb_pm m W) (hp : 0 ≤ p ∧ p ≤ 40) (hu : 0 ≤ u ∧ u ≤ 199) (hqq : 0 ≤ q ∧ q ≤ 40) (hq : ∀ h, (h 62 25 = tb_lb m W p u ∧ h 62 26 = tb_lt m W p u q) → LF h0 h → Q none h) : ∀ (f : Nat) (t : Int) (h : ab_H), 2 * u ≤ t → t ≤ 401 → 401 - t < f → fl_J m W p u q t (h 62 25) (h 62 26) → LF h0 h → ∀ v, Go g (ab_rm 4, 0, 0) m_X7_findLetter Q 15 [some (a_R 62), some (a_I p), some (a_I u), some (a_I q), some (a_I t), v] [] h := by
  intro f
  induction f with
  | zero => intro t h h0t h1 hf; omega
  | succ f ih =>
    intro t h h0t h1 hf J F v
    have T := F.mtw T0
    obtain ⟨⟨e9, e18, hm, hw⟩, -⟩ := id T
    refine go_iload rfl rfl ?_
    refine go_sipush rfl ?_
    refine go_icmp_ge rfl (tgt := 133) (by decide) (fun c20 => ?_) (fun c20 => ?_)
    · exact go_ret rfl rfl (hq h (fj_end hu.1 (by rw [show t = 401 by omega] at J; exact J)) F)
    · refine go_aload_n rfl rfl ?_
      refine go_getI rfl f_X7_232 rfl rfl rfl ?_ -- letterTime
      refine go_iconst rfl ?_
      refine go_icmp_ne rfl (tgt := 133) (by decide) (fun c28 => ?_) (fun c28 => ?_)
      · exact go_ret rfl rfl (hq h (by rcases J with z | ⟨k, z⟩ | z; exact absurd z.2.1 c28; exact absurd z.2.2.2.2.1 c28; exact ⟨z.1, z.2.1⟩) F)
      · refine go_iconst rfl ?_
        refine go_istore rfl (by decide) rfl ?_
        have h26 := c28
        refine lp_X7_letterIn T (hP t (by omega) (by omega)) hp (by omega) (fun h2 k1 k26 F2 i => ?_) 8 0 h (by omega) (by omega) (by omega) (by by_cases z : h 62 25 = -1; exact Or.inr ⟨z, Or.inl ⟨z, fun j j0 j1 => by omega⟩⟩; exact Or.inl ⟨z, rfl⟩) h26 (LF.refl h)
        refine go_aload_n rfl rfl ?_
        refine go_getI rfl f_X7_229 rfl rfl rfl ?_ -- letterBag
        refine go_iconst rfl ?_
        refine go_icmp_eq rfl (tgt := 127) (by decide) (fun c102 => ?_) (fun c102 => ?_)
        · refine go_iinc rfl rfl (by decide) rfl (by unfold ab_iok; omega) ?_
          refine go_goto rfl (tgt := 15) (by decide) ?_
          exact ih (t + 1) _ (by omega) (by omega) (by omega) (fj_nx hu.1 (by omega) (h26 ▸ J) k1.1 k1.2 (Or.inr ⟨fun z => z.1 c102, k26⟩)) (F.trans F2) _
        · refine go_aload_n rfl rfl ?_
          refine go_aload_n rfl rfl ?_
          refine go_getI rfl f_X7_229 rfl rfl rfl ?_ -- letterBag
          refine go_iload rfl rfl ?_
          refine go_cV2I (M' := m_X7_bagPlace) rfl l_X7_205 k_X7_bagPlace (s_X7_bagPlace (F2.mtw T) (by omega) (hP t (by omega) (by omega)) (fj_in hP hu.1 (by omega) (h26 ▸ J) k1.1 k1.2 c102)) rfl rfl rfl rfl (by decide) (Nat.le_of_ble_eq_true rfl) (fun z112 h112 q112 => ?_) -- X7_bagPlace
          obtain ⟨rfl, rfl⟩ := q112
          refine go_iconst rfl ?_
          refine go_iload_n rfl rfl ?_
          refine go_imul rfl (by unfold ab_iok; omega) ?_
          refine go_icmp_ne rfl (tgt := 127) (by decide) (fun c118 => ?_) (fun c118 => ?_)
          · refine go_iinc rfl rfl (by decide) rfl (by unfold ab_iok; omega) ?_
            refine go_goto rfl (tgt := 15) (by decide) ?_
            exact ih (t + 1) _ (by omega) (by omega) (by omega) (fj_nx hu.1 (by omega) (h26 ▸ J) k1.1 k1.2 (Or.inr ⟨fun z => c118 z.2, k26⟩)) (F.trans F2) _
          · refine go_aload_n rfl rfl ?_
            refine go_iload rfl rfl ?_
            refine go_putI rfl f_X7_232 rfl rfl rfl ?_ -- letterTime
            refine go_iinc rfl rfl (by decide) rfl (by unfold ab_iok; omega) ?_
            refine go_goto rfl (tgt := 15) (by decide) ?_
            exact ih (t + 1) _ (by omega) (by omega) (by omega) (by rw [ab_hs_eq, ab_hs_i (by decide)]; exact fj_nx hu.1 (by omega) (h26 ▸ J) k1.1 k1.2 (Or.inl ⟨c102, c118, rfl⟩)) (F.trans (F2.set (Or.inr rfl))) _
set_option maxHeartbeats 4000000 in
set_option maxRecDepth 100000 in
theorem s_X7_findLetter {g : ab_G} {h : ab_H} {W : tb_W} {m p u q : Int} (T : mtw m 63 W h) (hP : tb_pm m W) (hp : 0 ≤ p ∧ p ≤ 40) (hu : 0 ≤ u ∧ u ≤ 199) (hq : 0 ≤ q ∧ q ≤ 40) : MethV g 4 m_X7_findLetter [a_R 62, a_I p, a_I u, a_I q] h (fun h' => h' 62 25 = tb_lb m W p u ∧ h' 62 26 = tb_lt m W p u q ∧ LF h h') := by
  refine Meth.of_go k_X7_findLetter (Nat.le_of_ble_eq_true rfl) ?_
  show Go g _ m_X7_findLetter _ 0 [some (a_R 62), some (a_I p), some (a_I u), some (a_I q), none, none] [] h
  refine go_aload_n rfl rfl ?_
  refine go_iconst rfl ?_
  refine go_putI rfl f_X7_229 rfl rfl rfl ?_ -- letterBag
  refine go_aload_n rfl rfl ?_
  refine go_iconst rfl ?_
  refine go_putI rfl f_X7_232 rfl rfl rfl ?_ -- letterTime
  refine go_iconst rfl ?_
  refine go_iload_n rfl rfl ?_
  refine go_imul rfl (by unfold ab_iok; omega) ?_
  refine go_istore rfl (by decide) rfl ?_
  exact lp_X7_findLetter T hP hp hu hq (fun h2 e F => ⟨rfl, e.1, e.2, F⟩) 500 (2 * u) _ (by omega) (by omega) (by omega) (Or.inl ⟨by rw [ab_hs_i (by decide), ab_hs_eq], ab_hs_eq, fun j j0 j1 => by omega⟩) (((LF.refl h).set (Or.inl rfl)).set (Or.inr rfl)) _
set_option maxHeartbeats 4000000 in
set_option maxRecDepth 100000 in
theorem s_X7_isPace {g : ab_G} {h : ab_H} {v : Int}  : MethI g 2 m_X7_isPace [a_R 62, a_I v] h (fun z h' => h = h' ∧ z = rd_bool (0 ≤ v ∧ v ≤ h 62 8)) := by
  refine Meth.of_go k_X7_isPace (Nat.le_of_ble_eq_true rfl) ?_
  show Go g _ m_X7_isPace _ 0 [some (a_R 62), some (a_I v)] [] h
  refine go_iload_n rfl rfl ?_
  refine go_i2l rfl ?_
  refine go_lconst (z := 0) rfl ?_
  refine go_aload_n rfl rfl ?_
  refine go_getI rfl f_X7_107 rfl rfl rfl ?_ -- length
  refine go_i2l rfl ?_
  refine go_cS3I (M' := m_X7_in) rfl l_X7_68 k_X7_in (s_X7_in) rfl (by decide) (Nat.le_of_ble_eq_true rfl) (fun z8 h8 q8 => ?_) -- X7_in
  obtain ⟨rfl, rfl⟩ := q8
  exact go_iret rfl (Or.inr ⟨rfl, rd_01 _⟩) ⟨_, rfl, rfl, rfl⟩
