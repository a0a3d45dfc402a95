/-! what holds between the class's cells and the reference's at every call -/
noncomputable def rd_C (tx : Int → Int) (n : Int) : Int × ps_T := ps_all tx n (0, fun _ => 0, fun _ => 0, fun _ => 0, 0, fun _ => 0)
def rd_OK (tx : Int → Int) (n f len : Int) (s : ps_T) : Prop := f = (rd_C tx n).1 ∧ ((rd_C tx n).1 = -1 → len = rd_num tx 0 ∧ ps_sim s (rd_C tx n).2) ∧ ((rd_C tx n).1 ≠ -1 → len = 1 ∧ s.1 = 0 ∧ s.2.2.2.2.1 = 0)
theorem ps_sim.symm {s s' : ps_T} (h : ps_sim s s') : ps_sim s' s := ⟨h.1.symm, h.2.1.symm, fun i i0 i1 => by have := h.2.2.1 i i0 (by rw [h.1]; exact i1); exact ⟨this.1.symm, this.2.1.symm, this.2.2.symm⟩, fun i i0 i1 => (h.2.2.2 i i0 (by rw [h.2.1]; exact i1)).symm⟩
theorem ps_sim.trans {s s' s'' : ps_T} (h : ps_sim s s') (k : ps_sim s' s'') : ps_sim s s'' := ⟨h.1.trans k.1, h.2.1.trans k.2.1, fun i i0 i1 => by have a := h.2.2.1 i i0 i1; have b := k.2.2.1 i i0 (by rw [← h.1]; exact i1); exact ⟨a.1.trans b.1, a.2.1.trans b.2.1, a.2.2.trans b.2.2⟩, fun i i0 i1 => (h.2.2.2 i i0 i1).trans (k.2.2.2 i i0 (by rw [← h.2.1]; exact i1))⟩
theorem ps_sim.zero {s s' : ps_T} (a : s.1 = 0) (b : s'.1 = 0) (c : s.2.2.2.2.1 = 0) (d : s'.2.2.2.2.1 = 0) : ps_sim s s' := ⟨a.trans b.symm, c.trans d.symm, fun i i0 i1 => by omega, fun i i0 i1 => by omega⟩
theorem ps_ok.sim {len : Int} {s s' : ps_T} (h : ps_ok len s') (e : ps_sim s s') : ps_ok len s := by
  obtain ⟨h1, h2, h3, h4⟩ := h
  obtain ⟨e1, e2, e3, e4⟩ := e
  refine ⟨by unfold ps_in at h1 ⊢; rw [e1, e2]; exact h1, fun i i0 i1 => ?_, fun i j i0 i1 j0 j1 z => ?_, fun i i0 i1 => ?_⟩
  · have := e3 i i0 i1; rw [this.1, this.2.1, this.2.2]; exact h2 i i0 (by rw [← e1]; exact i1)
  · rw [(e3 i i0 i1).1, (e3 j j0 j1).1] at z; exact h3 i j i0 (by rw [← e1]; exact i1) j0 (by rw [← e1]; exact j1) z
  · rw [e4 i i0 i1]; exact h4 i i0 (by rw [← e2]; exact i1)
theorem rd_OK.ok {tx : Int → Int} {n f len : Int} {s : ps_T} (h : rd_OK tx n f len s) : (1 ≤ len ∧ len ≤ 40) ∧ ps_ok len s := by
  by_cases z : (rd_C tx n).1 = -1
  · obtain ⟨e1, e2⟩ := h.2.1 z
    have k := ps_all_k (tx := tx) (n := n) (ps_ok_0 _ _ _ _ _) z
    rw [e1]
    exact ⟨k.1, k.2.sim e2⟩
  · obtain ⟨e1, e2, e3⟩ := h.2.2 z
    rw [e1]
    exact ⟨by omega, (ps_ok_0 1 (fun _ => 0) (fun _ => 0) (fun _ => 0) (fun _ => 0)).sim (ps_sim.zero e2 rfl e3 rfl)⟩
theorem rd_OK.same {tx : Int → Int} {n f len f' len' : Int} {s s' : ps_T} (h : rd_OK tx n f len s) (h' : rd_OK tx n f' len' s') : f = f' ∧ len = len' ∧ ps_sim s s' := by
  refine ⟨h.1.trans h'.1.symm, ?_⟩
  by_cases z : (rd_C tx n).1 = -1
  · obtain ⟨e1, e2⟩ := h.2.1 z
    obtain ⟨d1, d2⟩ := h'.2.1 z
    exact ⟨e1.trans d1.symm, e2.trans d2.symm⟩
  · obtain ⟨e1, e2, e3⟩ := h.2.2 z
    obtain ⟨d1, d2, d3⟩ := h'.2.2 z
    exact ⟨e1.trans d1.symm, ps_sim.zero e2 d2 e3 d3⟩
theorem rd_OK.congr {tx tx' : Int → Int} {n f len : Int} {s : ps_T} (ht : ∀ i, 0 ≤ i → i < n → tx i = tx' i) (h : rd_OK tx n f len s) : rd_OK tx' n f len s := by
  have e := ps_all_c ht (ps_sim_0 (fun _ => 0) (fun _ => 0) (fun _ => 0) (fun _ => 0) (fun _ => 0) (fun _ => 0) (fun _ => 0) (fun _ => 0))
  have e1 : (rd_C tx n).1 = (rd_C tx' n).1 := e.1
  have e2 : ps_sim (rd_C tx n).2 (rd_C tx' n).2 := e.2
  refine ⟨h.1.trans e1, fun z => ?_, fun z => h.2.2 (fun y => z (e1 ▸ y))⟩
  obtain ⟨d1, d2⟩ := h.2.1 (e1.trans z)
  refine ⟨d1.trans ?_, d2.trans e2⟩
  have w : rd_wr tx n 0 1 40 = -1 := Classical.byContradiction fun y => by
    have z2 := e1.trans z
    unfold rd_C ps_all at z2
    rw [if_pos y] at z2
    exact y z2
  exact rd_num_w ht w (by omega)
theorem ps_Post.ok {h h' : ab_H} (P : ps_Post h h') : rd_OK (h' 2) (h' 1 5) (h' 1 6) (h' 1 7) (rd_ps h') := by
  have e := ps_all_c (n := h 1 5) (fun i _ _ => (rfl : h 2 i = h 2 i)) (ps_sim_0 (h 3) (h 4) (h 5) (h 6) (fun _ => 0) (fun _ => 0) (fun _ => 0) (fun _ => 0))
  have e1 : (ps_R h).1 = (rd_C (h 2) (h 1 5)).1 := e.1
  have e2 : ps_sim (ps_R h).2 (rd_C (h 2) (h 1 5)).2 := e.2
  obtain ⟨p1, p2, p3, p4, p5⟩ := P
  rw [p4 2 (by decide), p5]
  refine ⟨p1.trans e1, fun z => ?_, fun z => p3 (fun y => z (e1 ▸ y))⟩
  obtain ⟨q1, q2⟩ := p2 (e1.trans z)
  exact ⟨q1, by rw [q2]; exact e2⟩
theorem md_Post.ok {h h' : ab_H} {z : Int} (P : md_Post h z h') : rd_OK (h 67) (h 62 6) z (h' 62 8) (md_ps h') := by
  have e := ps_all_c (n := h 62 6) (fun i _ _ => (rfl : h 67 i = h 67 i)) (ps_sim_0 (h 68) (h 69) (h 70) (h 71) (fun _ => 0) (fun _ => 0) (fun _ => 0) (fun _ => 0))
  have e1 : (md_R h).1 = (rd_C (h 67) (h 62 6)).1 := e.1
  have e2 : ps_sim (md_R h).2 (rd_C (h 67) (h 62 6)).2 := e.2
  obtain ⟨p1, p2, p3, p4, p5⟩ := P
  refine ⟨p1.trans e1, fun z => ?_, fun z => p3 (fun y => z (e1 ▸ y))⟩
  obtain ⟨q1, q2⟩ := p2 (e1.trans z)
  exact ⟨q1, by rw [q2]; exact e2⟩
def iv_T (h : ab_H) : Prop := (0 ≤ h 1 5 ∧ h 1 5 ≤ 80) ∧ h 62 6 = h 1 5 ∧ ∀ i, 0 ≤ i → i < h 1 5 → h 2 i = h 67 i
def iv_R (h : ab_H) : Prop := rd_OK (h 2) (h 1 5) (h 1 6) (h 1 7) (rd_ps h)
def iv_U (h : ab_H) : Prop := ((0 ≤ h 7 2 ∧ h 7 2 ≤ 2) ∧ (0 ≤ h 7 3 ∧ h 7 3 ≤ 1) ∧ h 72 0 = h 7 2 ∧ h 72 1 = h 7 3) ∧ ∀ i, 0 ≤ i → i < 6 → ((0 ≤ h 8 i ∧ h 8 i ≤ 99) ∧ (0 ≤ h 9 i ∧ h 9 i ≤ 99)) ∧ h 73 i = h 8 i ∧ h 74 i = h 9 i
def iv_L (h : ab_H) : Prop := (0 ≤ h 24 5 ∧ h 24 5 ≤ 12) ∧ h 62 27 = h 24 5 ∧ ∀ l, 0 ≤ l → l < h 24 5 → lt_ok (h 25 l) (h 26 l) (h 27 l) (h 28 l) ∧ h 81 (4 * l) = h 25 l ∧ h 81 (4 * l + 1) = h 26 l ∧ h 81 (4 * l + 2) = h 27 l ∧ h 81 (4 * l + 3) = h 28 l
def iv_S1 (h : ab_H) (s : Int) : Prop := (h 33 s = -1 ∧ h 63 s = -1) ∨ ((0 ≤ h 33 s ∧ h 33 s ≤ 60) ∧ (0 ≤ h 32 s ∧ h 32 s ≤ 2) ∧ h 63 s = h 32 s ∧ h 64 s = h 33 s ∧ ∀ i, 0 ≤ i → i < h 33 s → h 65 (60 * s + i) = h (58 + s.toNat) i)
def iv_S (h : ab_H) : Prop := ∀ s, 0 ≤ s → s < 4 → iv_S1 h s
def iv_F (h : ab_H) : Prop := h 62 4 = h 0 7
def iv_C (h : ab_H) : Prop := h 0 6 = 0 → cr_OK h
def Inv (h : ab_H) : Prop := iv_T h ∧ iv_R h ∧ iv_U h ∧ iv_L h ∧ iv_S h ∧ iv_F h ∧ iv_C h
theorem Inv.ro {h : ab_H} (I : Inv h) : ro_in h := by
  have k := I.2.1.ok
  refine ⟨⟨k.2.1.1, k.2.1.2.1⟩, k.1, fun i i0 i1 => k.2.2.1 i i0 i1, fun i i0 i1 => (I.2.2.1.2 i i0 i1).1⟩
theorem Inv.hs {h : ab_H} (I : Inv h) : (0 ≤ h 1 9 ∧ h 1 9 ≤ 6) ∧ ∀ i, 0 ≤ i → i < h 1 9 → 0 ≤ h 6 i ∧ h 6 i ≤ h 1 7 := by
  have k := I.2.1.ok
  exact ⟨⟨k.2.1.2.2.1, k.2.1.2.2.2⟩, k.2.2.2.2⟩
theorem Inv.ds {h : ab_H} (I : Inv h) : ∀ a b, 0 ≤ a → a < h 1 8 → 0 ≤ b → b < h 1 8 → h 3 a = h 3 b → a = b := I.2.1.ok.2.2.2.1
/-- the class answered, its scratch apart -/
def CF (h h' : ab_H) : Prop := (∀ k, ¬ (k = 0 ∨ k = 24 ∨ (10 ≤ k ∧ k ≤ 18) ∨ k = 23 ∨ k = 29 ∨ (34 ≤ k ∧ k < 58)) → h' k = h k) ∧ (∀ b, b ≠ 6 → h' 0 b = h 0 b) ∧ ∀ b, b ≠ 6 → h' 24 b = h 24 b
def MF (h h' : ab_H) : Prop := (∀ k, ¬ (k = 62 ∨ k = 66 ∨ (68 ≤ k ∧ k ≤ 71) ∨ (75 ≤ k ∧ k ≤ 80)) → h' k = h k) ∧ ∀ b, (b = 4 ∨ b = 6 ∨ b = 27) → h' 62 b = h 62 b
theorem CF.refl (h : ab_H) : CF h h := ⟨fun _ _ => rfl, fun _ _ => rfl, fun _ _ => rfl⟩
theorem MF.refl (h : ab_H) : MF h h := ⟨fun _ _ => rfl, fun _ _ => rfl⟩
theorem CF.trans {h h' h'' : ab_H} (a : CF h h') (b : CF h' h'') : CF h h'' := ⟨fun k hk => (b.1 k hk).trans (a.1 k hk), fun k hk => (b.2.1 k hk).trans (a.2.1 k hk), fun k hk => (b.2.2 k hk).trans (a.2.2 k hk)⟩
theorem MF.trans {h h' h'' : ab_H} (a : MF h h') (b : MF h' h'') : MF h h'' := ⟨fun k hk => (b.1 k hk).trans (a.1 k hk), fun k hk => (b.2 k hk).trans (a.2 k hk)⟩
theorem iv_S1.of {h h' : ab_H} {s : Int} (e32 : h' 32 s = h 32 s) (e33 : h' 33 s = h 33 s) (e63 : h' 63 s = h 63 s) (e64 : h' 64 s = h 64 s) (e65 : ∀ i, 0 ≤ i → i < 60 → h' 65 (60 * s + i) = h 65 (60 * s + i)) (ek : h' (58 + s.toNat) = h (58 + s.toNat)) (I : iv_S1 h s) : iv_S1 h' s := by
  unfold iv_S1 at I ⊢
  rw [e32, e33, e63, e64, ek]
  rcases I with I | ⟨a, b, c, d, e⟩
  · exact Or.inl I
  · exact Or.inr ⟨a, b, c, d, fun i i0 i1 => by rw [e65 i i0 (by omega)]; exact e i i0 i1⟩
theorem cr_OK.of {h h' : ab_H} (hm6 : h 1 8 ≤ 6) (e : ∀ k, (1 ≤ k ∧ k ≤ 9) ∨ k = 18 ∨ k = 23 ∨ (34 ≤ k ∧ k < 58) → h' k = h k) (c : cr_OK h) : cr_OK h' := by
  obtain ⟨-, -, -, -, s1, s2, s3⟩ := cr_same (h := h) (h' := h') (fun k hk => e k (Or.inl hk))
  unfold cr_OK at c ⊢
  rw [e 18 (by omega), e 1 (by omega), e 23 (by omega), s1, s2, s3]
  refine ⟨c.1, fun s hs => ⟨fun i i0 i1 => ?_, (c.2 s hs).2⟩⟩
  rw [e (34 + i.toNat) (by omega), e (40 + i.toNat) (by omega), e (46 + i.toNat) (by omega), e (52 + i.toNat) (by omega)]
  exact (c.2 s hs).1 i i0 i1
theorem Inv.cf {h h' : ab_H} (I : Inv h) (F : CF h h') (c : iv_C h') : Inv h' := by
  obtain ⟨I1, I2, I3, I4, I5, I6, I7⟩ := I
  obtain ⟨F1, F2, F3⟩ := F
  refine ⟨?_, ?_, ?_, ?_, fun s s0 s1 => ?_, ?_, c⟩
  · unfold iv_T; rw [F1 1 (by decide), F1 62 (by decide), F1 2 (by decide), F1 67 (by decide)]; exact I1
  · unfold iv_R rd_ps; rw [F1 1 (by decide), F1 2 (by decide), F1 3 (by decide), F1 4 (by decide), F1 5 (by decide), F1 6 (by decide)]; exact I2
  · unfold iv_U; rw [F1 7 (by decide), F1 72 (by decide), F1 8 (by decide), F1 9 (by decide), F1 73 (by decide), F1 74 (by decide)]; exact I3
  · unfold iv_L; rw [F3 5 (by decide), F1 62 (by decide), F1 25 (by decide), F1 26 (by decide), F1 27 (by decide), F1 28 (by decide), F1 81 (by decide)]; exact I4
  · exact (I5 s s0 s1).of (by rw [F1 32 (by decide)]) (by rw [F1 33 (by decide)]) (by rw [F1 63 (by decide)]) (by rw [F1 64 (by decide)]) (fun _ _ _ => by rw [F1 65 (by decide)]) (F1 _ (by omega))
  · unfold iv_F; rw [F1 62 (by decide), F2 7 (by decide)]; exact I6
theorem Inv.mf {h h' : ab_H} (I : Inv h) (F : MF h h') : Inv h' := by
  obtain ⟨I1, I2, I3, I4, I5, I6, I7⟩ := I
  obtain ⟨F1, F2⟩ := F
  refine ⟨?_, ?_, ?_, ?_, fun s s0 s1 => ?_, ?_, fun z => ?_⟩
  · unfold iv_T; rw [F1 1 (by decide), F2 6 (by decide), F1 2 (by decide), F1 67 (by decide)]; exact I1
  · unfold iv_R rd_ps; rw [F1 1 (by decide), F1 2 (by decide), F1 3 (by decide), F1 4 (by decide), F1 5 (by decide), F1 6 (by decide)]; exact I2
  · unfold iv_U; rw [F1 7 (by decide), F1 72 (by decide), F1 8 (by decide), F1 9 (by decide), F1 73 (by decide), F1 74 (by decide)]; exact I3
  · unfold iv_L; rw [F1 24 (by decide), F2 27 (by decide), F1 25 (by decide), F1 26 (by decide), F1 27 (by decide), F1 28 (by decide), F1 81 (by decide)]; exact I4
  · exact (I5 s s0 s1).of (by rw [F1 32 (by decide)]) (by rw [F1 33 (by decide)]) (by rw [F1 63 (by decide)]) (by rw [F1 64 (by decide)]) (fun _ _ _ => by rw [F1 65 (by decide)]) (F1 _ (by omega))
  · unfold iv_F; rw [F2 4 (by decide), F1 0 (by decide)]; exact I6
  · rw [F1 0 (by decide)] at z; exact (I7 z).of I2.ok.2.1.2.1 (fun k hk => F1 k (by omega))
/-- the reference's road is the class's -/
def MR (h : ab_H) : Prop := h 62 8 = h 1 7 ∧ ps_sim (md_ps h) (rd_ps h)
theorem MR.in {h : ab_H} (I : Inv h) (R : MR h) : mr_in h ∧ (∀ a b, 0 ≤ a → a < h 62 9 → 0 ≤ b → b < h 62 9 → h 68 a = h 68 b → a = b) := by
  have k := I.2.1.ok.2.sim R.2
  rw [← R.1] at k
  have l := I.2.1.ok.1
  rw [← R.1] at l
  exact ⟨⟨⟨k.1.1, k.1.2.1⟩, l, fun i i0 i1 => k.2.1 i i0 i1, fun i i0 i1 => by have := I.2.2.1.2 i i0 i1; rw [this.2.1, this.2.2]; exact this.1⟩, k.2.2.1⟩
