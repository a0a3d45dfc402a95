/-! the reference: all half minutes -/
def md_S (h : ab_H) : wk_S := (fun j => 2 * h 68 j, h 69, fun j => j)
def r0_I (h0 : ab_H) (i : Int) (h : ab_H) : Prop := (∀ j, 0 ≤ j → j < i → h 75 j = 2 * h0 68 j ∧ h 76 j = h0 69 j ∧ h 77 j = j) ∧ ∀ k b, ¬ ((k = 75 ∨ k = 76 ∨ k = 77) ∧ 0 ≤ b ∧ b < i) → h k b = h0 k b
/-- the cells that a run may write -/
def rn_F (h0 h : ab_H) : Prop := ∀ k, ¬ (k = 75 ∨ k = 76 ∨ k = 77 ∨ k = 78 ∨ k = 79) → h k = h0 k
def rn_at (h0 : ab_H) (s : Nat) (h : ab_H) : Prop := wk_eqW (h0 62 9) (h0 62 18) (md_row h s) (wk_at (2 * h0 62 8) (md_a h0) (md_b h0) (md_c h0) (h0 62 9) (h0 72 0) (h0 72 1) (h0 62 18) (md_S h0) s) ∧ md_ok h s ∧ ∀ a b, 0 ≤ a → a < h0 62 9 → 0 ≤ b → b < 6 → h 78 (36 * s + 6 * a + b) = rd_bool (wk_mt (2 * h0 62 8) (md_a h0) (md_b h0) (md_c h0) (h0 62 9) (h0 72 0) (h0 72 1) (h0 62 18) (md_S h0) s a b)
def rn_I (h0 : ab_H) (t : Int) (h : ab_H) : Prop := (∀ s : Nat, (s : Int) < t → rn_at h0 s h) ∧ rn_F h0 h
def ig_I (h1 : ab_H) (t i : Int) (h : ab_H) : Prop := (∀ j, 0 ≤ j → j < i → h 75 (6 * t + j) = mg_p h1 j t ∧ h 76 (6 * t + j) = mg_f h1 j t ∧ h 77 (6 * t + j) = h1 77 (6 * t + j - 6)) ∧ ∀ k b, ¬ ((k = 75 ∨ k = 76 ∨ k = 77) ∧ 6 * t ≤ b ∧ b < 6 * t + i) → h k b = h1 k b
theorem mg_same {h h1 : ab_H} {i t : Int} (e62 : h 62 = h1 62) (e70 : h 70 = h1 70) (e73 : h 73 = h1 73) (e74 : h 74 = h1 74) (e75 : h 75 (6 * t + i - 6) = h1 75 (6 * t + i - 6)) (e76 : h 76 (6 * t + i - 6) = h1 76 (6 * t + i - 6)) : mg_p h i t = mg_p h1 i t ∧ mg_f h i t = mg_f h1 i t := by
  unfold mg_p mg_f md_a md_b md_c
  rw [e62, e70, e73, e74, e75, e76]
  exact ⟨rfl, rfl⟩
theorem ig_next {h h1 h' : ab_H} {i t : Int} (hm : h1 62 9 ≤ 6) (hi : 0 ≤ i ∧ i < h1 62 9) (I : ig_I h1 t i h) (P : mg_Post h i t h') : ig_I h1 t (i + 1) h' := by
  obtain ⟨I1, I2⟩ := I
  obtain ⟨P1, P2, P3, P4⟩ := P
  have e : ∀ k, ¬ (k = 75 ∨ k = 76 ∨ k = 77) → h k = h1 k := fun k hk => funext fun b => I2 k b (fun z => hk z.1)
  obtain ⟨m1, m2⟩ := mg_same (i := i) (t := t) (e 62 (by decide)) (e 70 (by decide)) (e 73 (by decide)) (e 74 (by decide)) (I2 75 _ (by omega)) (I2 76 _ (by omega))
  refine ⟨fun j j0 j1 => ?_, fun k b hk => ?_⟩
  · by_cases z : j = i
    · subst z; exact ⟨P1.trans m1, P2.trans m2, P3.trans (I2 77 _ (by omega))⟩
    · rw [P4 75 _ (by omega), P4 76 _ (by omega), P4 77 _ (by omega)]
      exact I1 j j0 (by omega)
  · rw [P4 k b (by omega)]; exact I2 k b (by omega)
/-- who is there goes on as the walk has it -/
theorem ig_go {h1 h2 : ab_H} {t : Int} (I : ig_I h1 t (h1 62 9) h2) : wk_eqW (h1 62 9) (h1 62 18) (md_row h2 t) (wk_go (2 * h1 62 8) (md_a h1) (md_b h1) (md_c h1) (h1 62 18) (t - 1) (md_row h1 (t - 1))) := by
  intro j j0 j1 jw
  obtain ⟨a1, a2, a3⟩ := I.1 j j0 j1
  have e6 : 6 * t + j - 6 = 6 * (t - 1) + j := by omega
  refine ⟨?_, ?_, ?_⟩
  · show h2 75 (6 * t + j) = (if _ then h1 75 (6 * (t - 1) + j) + wk_fc (2 * h1 62 8) (h1 75 (6 * (t - 1) + j)) (h1 76 (6 * (t - 1) + j)) else h1 75 (6 * (t - 1) + j))
    rw [a1]
    unfold mg_p
    rw [e6]
    by_cases z : wk_std (md_a h1) (md_b h1) (md_c h1) j (t - 1)
    · rw [if_pos z, if_neg (fun y => y.2 z)]
    · rw [if_neg z, if_pos ⟨jw, z⟩]
  · show h2 76 (6 * t + j) = (if _ then wk_fc (2 * h1 62 8) (h1 75 (6 * (t - 1) + j)) (h1 76 (6 * (t - 1) + j)) else h1 76 (6 * (t - 1) + j))
    rw [a2]
    unfold mg_f
    rw [e6]
    by_cases z : wk_std (md_a h1) (md_b h1) (md_c h1) j (t - 1)
    · rw [if_pos z, if_neg (fun y => y.2 z)]
    · rw [if_neg z, if_pos ⟨jw, z⟩]
  · show h2 77 (6 * t + j) = h1 77 (6 * (t - 1) + j)
    rw [a3, e6]
theorem ig_ok {h1 h2 : ab_H} {t : Int} (hL : 1 ≤ h1 62 8) (ho : md_ok h1 (t - 1)) (I : ig_I h1 t (h1 62 9) h2) : md_ok h2 t := by
  intro j j0 j1
  have e62 : h2 62 = h1 62 := funext fun b => I.2 62 b (by omega)
  rw [e62] at j1 ⊢
  obtain ⟨a1, a2, a3⟩ := I.1 j j0 j1
  have o := ho j j0 j1
  rw [a1, a2]
  unfold mg_p mg_f
  rw [show 6 * t + j - 6 = 6 * (t - 1) + j by omega]
  have k : (0 ≤ h1 75 (6 * (t - 1) + j) + wk_fc (2 * h1 62 8) (h1 75 (6 * (t - 1) + j)) (h1 76 (6 * (t - 1) + j)) ∧ h1 75 (6 * (t - 1) + j) + wk_fc (2 * h1 62 8) (h1 75 (6 * (t - 1) + j)) (h1 76 (6 * (t - 1) + j)) ≤ 2 * h1 62 8) ∧ (wk_fc (2 * h1 62 8) (h1 75 (6 * (t - 1) + j)) (h1 76 (6 * (t - 1) + j)) = 1 ∨ wk_fc (2 * h1 62 8) (h1 75 (6 * (t - 1) + j)) (h1 76 (6 * (t - 1) + j)) = -1) := by
    unfold wk_fc
    by_cases z : (h1 76 (6 * (t - 1) + j) = 1 ∧ h1 75 (6 * (t - 1) + j) = 2 * h1 62 8) ∨ (¬ h1 76 (6 * (t - 1) + j) = 1 ∧ h1 75 (6 * (t - 1) + j) = 0)
    · rw [if_pos z]; omega
    · rw [if_neg z]; omega
  by_cases z : wk_std (md_a h1) (md_b h1) (md_c h1) j (t - 1)
  · rw [if_pos z, if_pos z]; exact o
  · rw [if_neg z, if_neg z]; exact k
theorem rn_next {h0 h1 h2 h3 : ab_H} {t : Int} (hm : 0 ≤ h0 62 9 ∧ h0 62 9 ≤ 6) (hL : 1 ≤ h0 62 8) (ht : 1 ≤ t) (R : rn_I h0 t h1) (I : ig_I h1 t (h0 62 9) h2) (M : me_Post h2 t h3) : rn_I h0 (t + 1) h3 := by
  obtain ⟨R1, R2⟩ := R
  have e1 : ∀ k, ¬ (k = 75 ∨ k = 76 ∨ k = 77 ∨ k = 78 ∨ k = 79) → h1 k = h0 k := R2
  have x62 := e1 62 (by decide)
  have I' : ig_I h1 t (h1 62 9) h2 := by rw [x62]; exact I
  have e2 : ∀ k, ¬ (k = 75 ∨ k = 76 ∨ k = 77) → h2 k = h1 k := fun k hk => funext fun b => I.2 k b (fun z => hk z.1)
  have y62 : h2 62 = h0 62 := (e2 62 (by decide)).trans x62
  have y72 : h2 72 = h0 72 := (e2 72 (by decide)).trans (e1 72 (by decide))
  obtain ⟨M1, M2, M3⟩ := M
  rw [y62, y72] at M1
  rw [y62] at M2 M3
  have tt : (((t - 1).toNat : Nat) : Int) = t - 1 := Int.toNat_of_nonneg (by omega)
  have prev := R1 (t - 1).toNat (by omega)
  unfold rn_at at prev
  rw [tt] at prev
  have pa : md_a h1 = md_a h0 := by unfold md_a; rw [e1 70 (by decide)]
  have pb : md_b h1 = md_b h0 := by unfold md_b; rw [e1 73 (by decide)]
  have pc : md_c h1 = md_c h0 := by unfold md_c; rw [e1 73 (by decide), e1 74 (by decide)]
  have g0 := ig_go I'
  rw [x62, pa, pb, pc] at g0
  have g1 := g0.trans (wk_goW prev.1 (fun _ _ _ => ⟨rfl, rfl, rfl⟩))
  have bf : ∀ j, 0 ≤ j → j < h0 62 9 → wk_tb (h0 62 18) j = true → h2 75 (6 * (t - 1) + j) = (wk_at (2 * h0 62 8) (md_a h0) (md_b h0) (md_c h0) (h0 62 9) (h0 72 0) (h0 72 1) (h0 62 18) (md_S h0) (t - 1).toNat).1 j := fun j j0 j1 jw => by rw [I.2 75 _ (by omega)]; exact (prev.1 j j0 j1 jw).1
  have okh : md_ok h2 t := ig_ok (by rw [x62]; exact hL) prev.2.1 I'
  refine ⟨fun s hs => ?_, fun k hk => ?_⟩
  · by_cases z : (s : Int) = t
    · have es : s = (t - 1).toNat + 1 := by omega
      refine ⟨?_, ?_, ?_⟩
      · rw [z]
        have mw := wk_meetW (l0 := h0 72 0) (l1 := h0 72 1) hm.2 g1 bf
        rw [es]
        refine wk_eqW.trans ?_ (wk_eqW.trans mw ?_)
        · intro j j0 j1 jw
          obtain ⟨q1, q2⟩ := M1 j j0 j1
          exact ⟨M3 75 _ (by omega) (by omega) (by decide), q1, q2⟩
        · intro j j0 j1 jw
          rw [wk_at, tt]
          exact ⟨rfl, rfl, rfl⟩
      · rw [z]
        intro j j0 j1
        have e62 : h3 62 = h0 62 := funext fun b => (M3 62 b (by omega) (by omega) (by decide)).trans (by rw [y62])
        rw [e62] at j1 ⊢
        have o := okh j j0 (by rw [y62]; exact j1)
        rw [y62] at o
        rw [M3 75 _ (by omega) (by omega) (by decide), (M1 j j0 j1).1]
        exact ⟨o.1, wk_fcm_pm o.2⟩
      · intro a b a0 a1 b0 b1
        rw [z, M2 a b a0 a1 b0 b1, es]
        refine rd_iff ((wk_metW g1 bf ⟨a0, a1⟩).trans ?_)
        show _ ↔ wk_mets _ _ _ _ _ _ _ _ _ _
        rw [tt]
        exact Iff.rfl
    · obtain ⟨q1, q2, q3⟩ := R1 s (by omega)
      have row : ∀ k, (k = 75 ∨ k = 76 ∨ k = 77) → ∀ j, 0 ≤ j → j < 6 → h3 k (6 * s + j) = h1 k (6 * s + j) := fun k hk j j0 j1 => by rw [M3 k _ (by omega) (by omega) (by omega)]; exact I.2 k _ (by omega)
      refine ⟨fun j j0 j1 jw => ?_, fun j j0 j1 => ?_, fun a b a0 a1 b0 b1 => ?_⟩
      · obtain ⟨z1, z2, z3⟩ := q1 j j0 j1 jw
        exact ⟨(row 75 (by decide) j j0 (by omega)).trans z1, (row 76 (by decide) j j0 (by omega)).trans z2, (row 77 (by decide) j j0 (by omega)).trans z3⟩
      · have e62 : h3 62 = h0 62 := funext fun b => (M3 62 b (by omega) (by omega) (by decide)).trans (by rw [y62])
        rw [e62] at j1 ⊢
        rw [row 75 (by decide) j j0 (by omega), row 76 (by decide) j j0 (by omega)]
        have := q2 j j0 (by rw [x62]; exact j1)
        rw [x62] at this
        exact this
      · rw [M3 78 _ (by omega) (by omega) (by decide), I.2 78 _ (by omega)]
        exact q3 a b a0 a1 b0 b1
  · funext b
    rw [M3 k b (by omega) (by omega) (by omega), I.2 k b (by omega)]
    rw [e1 k hk]
/-- at the beginning nobody meets -/
theorem rn_first {h0 h1 h2 : ab_H} (hm : 0 ≤ h0 62 9 ∧ h0 62 9 ≤ 6) (hr : mr_in h0) (hd : ∀ a b, 0 ≤ a → a < h0 62 9 → 0 ≤ b → b < h0 62 9 → h0 68 a = h0 68 b → a = b) (I : r0_I h0 (h0 62 9) h1) (M : me_Post h1 0 h2) : rn_I h0 1 h2 := by
  have e1 : ∀ k, ¬ (k = 75 ∨ k = 76 ∨ k = 77) → h1 k = h0 k := fun k hk => funext fun b => I.2 k b (fun z => hk z.1)
  have x62 := e1 62 (by decide)
  obtain ⟨M1, M2, M3⟩ := M
  rw [x62] at M1 M2 M3
  have na : ∀ (bf : Int → Int) k, 0 ≤ k → k < h0 62 9 → ¬ wk_act (h0 62 9) (h0 62 18) (md_row h1 0).1 bf k := by
    rintro bf k k0 k1 ⟨-, j, ⟨j0, j1, jw, j3⟩, j4⟩
    have a := (I.1 j j0 j1).1
    have b := (I.1 k k0 k1).1
    have j3' : h1 75 (6 * 0 + j) = h1 75 (6 * 0 + k) := j3
    rw [show 6 * 0 + j = j by omega, show 6 * 0 + k = k by omega, a, b] at j3'
    have := hd j k j0 j1 k0 k1 (by omega)
    subst this
    exact j4 rfl
  have fcb : ∀ k, 0 ≤ k → k < h0 62 9 → h2 76 (6 * 0 + k) = h1 76 k ∧ h2 77 (6 * 0 + k) = h1 77 k ∧ h2 75 (6 * 0 + k) = h1 75 k := by
    intro k k0 k1
    obtain ⟨q1, q2⟩ := M1 k k0 k1
    rw [q1, q2, M3 75 _ (by omega) (by omega) (by decide)]
    unfold wk_fcm wk_bgm
    rw [if_neg (fun y => na _ k k0 k1 y.1), if_neg (fun y => na _ k k0 k1 y.1), show 6 * 0 + k = k by omega]
    refine ⟨?_, ?_, rfl⟩
    · show h1 76 (6 * 0 + k) = _; rw [show 6 * 0 + k = k by omega]
    · show h1 77 (6 * 0 + k) = _; rw [show 6 * 0 + k = k by omega]
  refine ⟨fun s hs => ?_, fun k hk => ?_⟩
  · have es : s = 0 := by omega
    subst es
    refine ⟨fun j j0 j1 jw => ?_, fun j j0 j1 => ?_, fun a b a0 a1 b0 b1 => ?_⟩
    · obtain ⟨z1, z2, z3⟩ := fcb j j0 j1
      obtain ⟨w1, w2, w3⟩ := I.1 j j0 j1
      exact ⟨z3.trans w1, z1.trans w2, z2.trans w3⟩
    · have e62 : h2 62 = h0 62 := funext fun b => (M3 62 b (by omega) (by omega) (by decide)).trans (by rw [x62])
      rw [e62] at j1 ⊢
      obtain ⟨z1, z2, z3⟩ := fcb j j0 j1
      obtain ⟨w1, w2, w3⟩ := I.1 j j0 j1
      have r := hr.2.2.1 j j0 j1
      show (0 ≤ h2 75 (6 * 0 + j) ∧ _) ∧ (h2 76 (6 * 0 + j) = 1 ∨ h2 76 (6 * 0 + j) = -1)
      rw [z1, w2]
      have : h2 75 (6 * ((0 : Nat) : Int) + j) = 2 * h0 68 j := z3.trans w1
      rw [show h2 75 (6 * 0 + j) = 2 * h0 68 j from z3.trans w1]
      exact ⟨by omega, r.2.1⟩
    · have q := M2 a b a0 a1 b0 b1
      show h2 78 (36 * 0 + 6 * a + b) = _
      rw [q]
      exact rd_iff ⟨fun z => absurd z.1 (na _ a a0 a1), fun z => z.elim⟩
  · funext b
    rw [M3 k b (by omega) (by omega) (by omega), e1 k (by omega)]
