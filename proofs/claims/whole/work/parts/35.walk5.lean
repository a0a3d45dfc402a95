/-! all groups of a half minute -/
theorem wk_num_congr {q q' : Int → Prop} : ∀ n : Nat, (∀ k : Int, 0 ≤ k → k < n → (q k ↔ q' k)) → wk_num q n = wk_num q' n
  | 0, _ => rfl
  | n + 1, h => by rw [wk_num, wk_num, wk_num_congr n (fun k k0 k1 => h k k0 (by omega)), rd_iff (h n (by omega) (by omega))]
theorem wk_last_congr {q q' : Int → Prop} : ∀ n : Nat, (∀ k : Int, 0 ≤ k → k < n → (q k ↔ q' k)) → wk_last q n = wk_last q' n
  | 0, _ => rfl
  | n + 1, h => by
    have e := wk_last_congr n (fun k k0 k1 => h k k0 (by omega))
    have i := h n (by omega) (by omega)
    by_cases z : q n
    · rw [wk_last, wk_last, if_pos z, if_pos (i.mp z)]
    · rw [wk_last, wk_last, if_neg z, if_neg (fun y => z (i.mpr y)), e]
theorem wk_prv_congr {q q' : Int → Prop} {j : Int} (hj : j ≤ 6) (h : ∀ k : Int, 0 ≤ k → k < 6 → (q k ↔ q' k)) : wk_prv q j = wk_prv q' j := by
  unfold wk_prv
  rw [wk_last_congr 6 h, wk_last_congr j.toNat (fun k k0 k1 => h k k0 (by omega))]
theorem wk_G_eq {m w : Int} {pl : Int → Int} {i k : Int} (h : pl k = pl i) : wk_G m w pl k = wk_G m w pl i := by
  funext j
  unfold wk_G
  rw [h]
theorem wk_new_eq {m w : Int} {pl bf : Int → Int} {i k : Int} (hi : wk_G m w pl i i) (hk : wk_G m w pl i k) : wk_new m w pl bf k ↔ wk_new m w pl bf i := by
  unfold wk_new
  rw [wk_G_eq hk.2.2.2]
  constructor
  · rintro ⟨j, j1, j2⟩
    by_cases e : bf k = bf i
    · exact ⟨j, j1, by rw [← e]; exact j2⟩
    · exact ⟨k, hk, e⟩
  · rintro ⟨j, j1, j2⟩
    by_cases e : bf k = bf i
    · exact ⟨j, j1, by rw [e]; exact j2⟩
    · exact ⟨i, hi, fun z => e z.symm⟩
/-- k's group is done: its first stands ahead of i -/
def st_dn (h0 : ab_H) (i k : Int) : Prop := wk_tb (h0 10 8) k = true ∧ ∃ j, 0 ≤ j ∧ j < i ∧ wk_tb (h0 10 8) j = true ∧ h0 11 j = h0 11 k
def st_I (h0 : ab_H) (i left : Int) (h : ab_H) : Prop := (0 ≤ left ∧ left < 64) ∧ (∀ k, 0 ≤ k → k < 6 → (wk_tb left k = true ↔ wk_tb (h0 10 8) k = true ∧ ¬ st_dn h0 i k)) ∧ (∀ k, 0 ≤ k → k < (h0 10 7) → (st_dn h0 i k → h 13 k = wk_fcm (h0 10 7) (h0 10 10) (h0 10 11) (h0 10 8) (h0 12) (h0 11, h0 13, h0 14) k ∧ h 14 k = wk_bgm (h0 10 7) (h0 10 10) (h0 10 11) (h0 10 8) (h0 12) (h0 11, h0 13, h0 14) k) ∧ (¬ st_dn h0 i k → h 13 k = h0 13 k ∧ h 14 k = h0 14 k)) ∧ (0 ≤ h 10 13 ∧ h 10 13 < 68719476736) ∧ (∀ a b, 0 ≤ a → a < 6 → 0 ≤ b → b < 6 → (pr_tb (h 10 13) a b = true ↔ st_dn h0 i a ∧ wk_met (h0 10 7) (h0 10 8) (h0 12) (h0 11, h0 13, h0 14) a b)) ∧ (∀ k, ¬ (k = 10 ∨ k = 13 ∨ k = 14) → h k = h0 k) ∧ ∀ b, b ≠ 13 → h 10 b = h0 10 b
theorem st_dn_skip {h0 : ab_H} {i k : Int} (h : ¬ (wk_tb (h0 10 8) i = true ∧ ¬ st_dn h0 i i)) : st_dn h0 (i + 1) k ↔ st_dn h0 i k := by
  constructor
  · rintro ⟨z1, j, j0, j1, j2, j3⟩
    by_cases e : j = i
    · subst e
      by_cases y : st_dn h0 j j
      · obtain ⟨-, j', a, b, c, d⟩ := y
        exact ⟨z1, j', a, b, c, d.trans j3⟩
      · exact absurd ⟨j2, y⟩ h
    · exact ⟨z1, j, j0, by omega, j2, j3⟩
  · rintro ⟨z1, j, j0, j1, j2, j3⟩
    exact ⟨z1, j, j0, by omega, j2, j3⟩
theorem st_skip {h0 h : ab_H} {i left : Int} (I : st_I h0 i left h) (hi : 0 ≤ i ∧ i < 6) (hl : ¬ wk_tb left i = true) : st_I h0 (i + 1) left h := by
  obtain ⟨I0, I1, I2, I3, I4, I5, I6⟩ := I
  have hs : ∀ k, st_dn h0 (i + 1) k ↔ st_dn h0 i k := fun k => st_dn_skip (fun z => hl ((I1 i hi.1 hi.2).mpr z))
  exact ⟨I0, fun k k0 k1 => by rw [hs k]; exact I1 k k0 k1, fun k k0 k1 => by rw [hs k]; exact I2 k k0 k1, I3, fun a b a0 a1 b0 b1 => by rw [hs a]; exact I4 a b a0 a1 b0 b1, I5, I6⟩
/-- the group of i, the first of it -/
def st_gr (h0 : ab_H) (i gr : Int) : Prop := (0 ≤ gr ∧ gr < 64) ∧ ∀ k, 0 ≤ k → k < 6 → (wk_tb gr k = true ↔ wk_G (h0 10 7) (h0 10 8) (h0 11) i k)
theorem st_dn_next {h0 : ab_H} {i k : Int} (hi : 0 ≤ i) (hw : wk_tb (h0 10 8) i = true) : st_dn h0 (i + 1) k ↔ st_dn h0 i k ∨ (wk_tb (h0 10 8) k = true ∧ h0 11 k = h0 11 i) := by
  constructor
  · rintro ⟨z1, j, j0, j1, j2, j3⟩
    by_cases e : j = i
    · subst e; exact Or.inr ⟨z1, j3.symm⟩
    · exact Or.inl ⟨z1, j, j0, by omega, j2, j3⟩
  · rintro (⟨z1, j, j0, j1, j2, j3⟩ | ⟨z1, z2⟩)
    · exact ⟨z1, j, j0, by omega, j2, j3⟩
    · exact ⟨z1, i, hi, by omega, hw, z2.symm⟩
theorem st_left {h0 : ab_H} {i left gr : Int} (hm : 0 ≤ (h0 10 7) ∧ (h0 10 7) ≤ 6) (hb : ∀ k, (h0 10 7) ≤ k → k < 6 → ¬ wk_tb (h0 10 8) k = true) (hi : 0 ≤ i ∧ i < (h0 10 7)) (I0 : 0 ≤ left ∧ left < 64) (I1 : ∀ k, 0 ≤ k → k < 6 → (wk_tb left k = true ↔ wk_tb (h0 10 8) k = true ∧ ¬ st_dn h0 i k)) (hl : wk_tb left i = true) (g0 : st_gr h0 i gr) : (0 ≤ ab_iand left (ab_ixor gr (-1)) ∧ ab_iand left (ab_ixor gr (-1)) < 64) ∧ ∀ k, 0 ≤ k → k < 6 → (wk_tb (ab_iand left (ab_ixor gr (-1))) k = true ↔ wk_tb (h0 10 8) k = true ∧ ¬ st_dn h0 (i + 1) k) := by
  obtain ⟨d1, d2, d3⟩ := wk_del I0 g0.1
  refine ⟨⟨d1, d2⟩, fun k k0 k1 => ?_⟩
  have hw := ((I1 i hi.1 (by omega)).mp hl).1
  rw [d3 k k0 k1, st_dn_next hi.1 hw]
  simp only [Bool.and_eq_true, Bool.not_eq_true', Bool.eq_false_iff, ne_eq]
  rw [I1 k k0 k1, g0.2 k k0 k1]
  constructor
  · rintro ⟨⟨a1, a2⟩, a3⟩
    refine ⟨a1, ?_⟩
    rintro (z | z)
    · exact a2 z
    · exact a3 ⟨k0, by
        by_cases q : k < (h0 10 7)
        · exact q
        · exact absurd a1 (hb k (by omega) k1), a1, z.2⟩
  · rintro ⟨a1, a2⟩
    exact ⟨⟨a1, fun z => a2 (Or.inl z)⟩, fun z => a2 (Or.inr ⟨a1, z.2.2.2⟩)⟩
/-- nobody of the group is new -/
theorem st_none {h0 h : ab_H} {i left gr : Int} (hm : 0 ≤ (h0 10 7) ∧ (h0 10 7) ≤ 6) (hb : ∀ k, (h0 10 7) ≤ k → k < 6 → ¬ wk_tb (h0 10 8) k = true) (hi : 0 ≤ i ∧ i < (h0 10 7)) (I : st_I h0 i left h) (hl : wk_tb left i = true) (g0 : st_gr h0 i gr) (hn : ¬ wk_new (h0 10 7) (h0 10 8) (h0 11) (h0 12) i) : st_I h0 (i + 1) (ab_iand left (ab_ixor gr (-1))) h := by
  obtain ⟨I0, I1, I2, I3, I4, I5, I6⟩ := I
  obtain ⟨L0, L1⟩ := st_left hm hb hi I0 I1 hl g0
  obtain ⟨hw, hd⟩ := (I1 i hi.1 (by omega)).mp hl
  have hii : wk_G (h0 10 7) (h0 10 8) (h0 11) i i := ⟨hi.1, hi.2, hw, rfl⟩
  have key : ∀ k, 0 ≤ k → k < 6 → wk_tb (h0 10 8) k = true → h0 11 k = h0 11 i → k < (h0 10 7) ∧ ¬ st_dn h0 i k ∧ ¬ wk_act (h0 10 7) (h0 10 8) (h0 11) (h0 12) k := by
    intro k k0 k1 a b
    have km : k < (h0 10 7) := by
      by_cases q : k < (h0 10 7)
      · exact q
      · exact absurd a (hb k (by omega) k1)
    refine ⟨km, ?_, fun z => hn ((wk_new_eq hii ⟨k0, km, a, b⟩).mp z.2)⟩
    rintro ⟨-, j, j0, j1, j2, j3⟩
    exact hd ⟨hw, j, j0, j1, j2, j3.trans b⟩
  refine ⟨L0, L1, fun k k0 k1 => ?_, I3, fun a b a0 a1 b0 b1 => ?_, I5, I6⟩
  · rw [st_dn_next hi.1 hw]
    refine ⟨?_, fun z => (I2 k k0 k1).2 (fun y => z (Or.inl y))⟩
    rintro (z | z)
    · exact (I2 k k0 k1).1 z
    · obtain ⟨-, k2, k3⟩ := key k k0 (by omega) z.1 z.2
      refine ⟨((I2 k k0 k1).2 k2).1.trans ?_, ((I2 k k0 k1).2 k2).2.trans ?_⟩
      · unfold wk_fcm; exact (if_neg (fun y => k3 y.1)).symm
      · unfold wk_bgm; exact (if_neg (fun y => k3 y.1)).symm
  · rw [I4 a b a0 a1 b0 b1, st_dn_next hi.1 hw]
    constructor
    · rintro ⟨z1, z2⟩; exact ⟨Or.inl z1, z2⟩
    · rintro ⟨z1 | z1, z2⟩
      · exact ⟨z1, z2⟩
      · exact absurd z2.1 (key a a0 a1 z1.1 z1.2).2.2
/-- the group meets -/
theorem st_meet {h0 h h2 : ab_H} {i left gr : Int} (hm : 0 ≤ (h0 10 7) ∧ (h0 10 7) ≤ 6) (hb : ∀ k, (h0 10 7) ≤ k → k < 6 → ¬ wk_tb (h0 10 8) k = true) (hi : 0 ≤ i ∧ i < (h0 10 7)) (I : st_I h0 i left h) (hl : wk_tb left i = true) (g0 : st_gr h0 i gr) (hn : wk_new (h0 10 7) (h0 10 8) (h0 11) (h0 12) i) (P : mt_Post h gr h2) : st_I h0 (i + 1) (ab_iand left (ab_ixor gr (-1))) h2 := by
  obtain ⟨I0, I1, I2, I3, I4, I5, I6⟩ := I
  obtain ⟨L0, L1⟩ := st_left hm hb hi I0 I1 hl g0
  obtain ⟨hw, hd⟩ := (I1 i hi.1 (by omega)).mp hl
  obtain ⟨P1, P2, P3, P4, P5, P6⟩ := P
  have hii : wk_G (h0 10 7) (h0 10 8) (h0 11) i i := ⟨hi.1, hi.2, hw, rfl⟩
  have cnt : wk_num (fun k => wk_tb gr k = true) 6 = wk_num (wk_G (h0 10 7) (h0 10 8) (h0 11) i) 6 := wk_num_congr 6 (fun k k0 k1 => g0.2 k k0 (by omega))
  have prv : ∀ j, j ≤ 6 → wk_prv (fun k => wk_tb gr k = true) j = wk_prv (wk_G (h0 10 7) (h0 10 8) (h0 11) i) j := fun j hj => wk_prv_congr hj (fun k k0 k1 => g0.2 k k0 k1)
  rw [cnt, I6 7 (by decide), I6 10 (by decide), I6 11 (by decide)] at P1 P2
  rw [I6 7 (by decide)] at P4
  have nd : ∀ k, h0 11 k = h0 11 i → ¬ st_dn h0 i k := by
    rintro k b ⟨-, j, j0, j1, j2, j3⟩
    exact hd ⟨hw, j, j0, j1, j2, j3.trans b⟩
  refine ⟨L0, L1, fun k k0 k1 => ?_, P3, fun a b a0 a1 b0 b1 => ?_, fun k hk => (P5 k hk).trans (I5 k hk), fun b hb => (P6 b hb).trans (I6 b hb)⟩
  · rw [st_dn_next hi.1 hw]
    by_cases z : wk_tb (h0 10 8) k = true ∧ h0 11 k = h0 11 i
    · have gk : wk_G (h0 10 7) (h0 10 8) (h0 11) i k := ⟨k0, k1, z.1, z.2⟩
      have tk : wk_tb gr k = true := (g0.2 k k0 (by omega)).mpr gk
      have ac : wk_act (h0 10 7) (h0 10 8) (h0 11) (h0 12) k := ⟨z.1, (wk_new_eq hii gk).mpr hn⟩
      have old := (I2 k k0 k1).2 (nd k z.2)
      refine ⟨fun _ => ⟨?_, ?_⟩, fun y => absurd (Or.inr z) y⟩
      · unfold wk_fcm
        rw [wk_G_eq z.2]
        by_cases t : wk_turn (h0 10 10) (h0 10 11) (wk_num (wk_G (h0 10 7) (h0 10 8) (h0 11) i) 6)
        · rw [(P1 k k0 k1).1 ⟨tk, t⟩, old.1]; exact (if_pos ⟨ac, t⟩).symm
        · rw [(P1 k k0 k1).2 (fun y => t y.2), old.1]; exact (if_neg (fun y => t y.2)).symm
      · unfold wk_bgm
        rw [wk_G_eq z.2]
        by_cases t : wk_chg (h0 10 10) (h0 10 11) (wk_num (wk_G (h0 10 7) (h0 10 8) (h0 11) i) 6)
        · rw [(P2 k k0 k1).1 ⟨tk, t⟩, prv k (by omega)]
          have hp : wk_G (h0 10 7) (h0 10 8) (h0 11) i (wk_prv (wk_G (h0 10 7) (h0 10 8) (h0 11) i) k) := by
            unfold wk_prv
            split
            · rcases wk_last_spec (q := wk_G (h0 10 7) (h0 10 8) (h0 11) i) 6 with ⟨a1, a2⟩ | ⟨a1, a2, a3, -⟩
              · exact absurd hii (a2 i hi.1 (by omega))
              · exact a3
            · rename_i ne
              rcases wk_last_spec (q := wk_G (h0 10 7) (h0 10 8) (h0 11) i) k.toNat with ⟨a1, a2⟩ | ⟨a1, a2, a3, -⟩
              · exact absurd a1 ne
              · exact a3
          rw [((I2 _ hp.1 hp.2.1).2 (nd _ hp.2.2.2)).2]
          exact (if_pos ⟨ac, t⟩).symm
        · rw [(P2 k k0 k1).2 (fun y => t y.2), old.2]; exact (if_neg (fun y => t y.2)).symm
    · have tk : ¬ wk_tb gr k = true := fun y => z ⟨((g0.2 k k0 (by omega)).mp y).2.2.1, ((g0.2 k k0 (by omega)).mp y).2.2.2⟩
      rw [(P1 k k0 k1).2 (fun y => tk y.1), (P2 k k0 k1).2 (fun y => tk y.1)]
      exact ⟨fun y => (I2 k k0 k1).1 (y.elim id (fun x => absurd x z)), fun y => (I2 k k0 k1).2 (fun x => y (Or.inl x))⟩
  · rw [P4 a b a0 a1 b0 b1, I4 a b a0 a1 b0 b1, st_dn_next hi.1 hw, g0.2 a a0 a1, g0.2 b b0 b1]
    constructor
    · rintro (⟨z1, z2⟩ | ⟨z1, z2, z3, z4⟩)
      · exact ⟨Or.inl z1, z2⟩
      · refine ⟨Or.inr ⟨z2.2.2.1, z2.2.2.2⟩, ⟨z2.2.2.1, (wk_new_eq hii z2).mpr hn⟩, ?_, z4⟩
        show wk_G (h0 10 7) (h0 10 8) (h0 11) a b
        rw [wk_G_eq z2.2.2.2]; exact z3
    · rintro ⟨z1 | z1, z2⟩
      · exact Or.inl ⟨z1, z2⟩
      · have ga := z2.2.1
        have am : a < (h0 10 7) := by
          by_cases q : a < (h0 10 7)
          · exact q
          · exact absurd z1.1 (hb a (by omega) a1)
        change wk_G (h0 10 7) (h0 10 8) (h0 11) a b at ga
        rw [wk_G_eq z1.2] at ga
        exact Or.inr ⟨am, ⟨a0, am, z1.1, z1.2⟩, ga, z2.2.2⟩
