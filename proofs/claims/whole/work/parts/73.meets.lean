/-! who met whom: sums -/
theorem sm_congr {f f' : Int → Int} : ∀ k : Nat, (∀ j : Int, 0 ≤ j → j < k → f j = f' j) → sm f k = sm f' k
  | 0, _ => rfl
  | k + 1, h => by rw [sm, sm, sm_congr k (fun j j0 j1 => h j j0 (by omega)), h k (by omega) (by omega)]
theorem sm_add {f f' : Int → Int} : ∀ k : Nat, sm (fun j => f j + f' j) k = sm f k + sm f' k
  | 0 => rfl
  | k + 1 => by rw [sm, sm, sm, sm_add k]; omega
theorem sm_0 : ∀ k : Nat, sm (fun _ => 0) k = 0
  | 0 => rfl
  | k + 1 => by rw [sm, sm_0 k]; rfl
theorem sm_swap {f : Int → Int → Int} (n : Nat) : ∀ k : Nat, sm (fun t => sm (fun a => f t a) k) n = sm (fun a => sm (fun t => f t a) n) k
  | 0 => sm_0 n
  | k + 1 => by
    rw [sm, ← sm_swap n k, ← sm_add]
    rfl
theorem sm_zero {f : Int → Int} {m : Nat} : ∀ k : Nat, (∀ j : Int, m ≤ j → j < m + k → f j = 0) → sm f (m + k) = sm f m
  | 0, _ => rfl
  | k + 1, h => by
    show sm f (m + k) + f ((m + k : Nat) : Int) = sm f m
    rw [sm_zero k (fun j j0 j1 => h j j0 (by omega)), h _ (by omega) (by omega)]
    omega
theorem wn_sm {q : Int → Prop} : ∀ k : Nat, wk_num q k = sm (fun t => rd_bool (q t)) k
  | 0 => rfl
  | k + 1 => by rw [wk_num, sm, wn_sm k]
/-- the meetings of a half minute -/
noncomputable def pn (m : Int) (M : Int → Int → Prop) : Int := sm (fun a => sm (fun b => rd_bool (M a b)) a.toNat) m.toNat
theorem wk_met_sym {m w : Int} {bf : Int → Int} {S : wk_S} {i j : Int} (hi : 0 ≤ i ∧ i < m) (h : wk_met m w bf S i j) : wk_met m w bf S j i := by
  obtain ⟨⟨a1, k, k1, k2⟩, g, n⟩ := h
  have ge : wk_G m w S.1 j = wk_G m w S.1 i := by funext x; unfold wk_G; rw [g.2.2.2]
  refine ⟨⟨g.2.2.1, ?_⟩, ⟨hi.1, hi.2, a1, g.2.2.2.symm⟩, fun z => n z.symm⟩
  by_cases z : bf j = bf i
  · exact ⟨k, by rw [ge]; exact k1, by rw [z]; exact k2⟩
  · exact ⟨i, ⟨hi.1, hi.2, a1, g.2.2.2.symm⟩, fun y => z y.symm⟩
theorem TM_sym {h : ab_H} {t i j : Int} (hi : 0 ≤ i ∧ i < h 1 8) (M : TM h t i j) : TM h t j i ∧ (0 ≤ j ∧ j < h 1 8) ∧ j ≠ i := by
  unfold TM tM cr_M at M ⊢
  cases e : t.toNat with
  | zero => rw [e] at M; exact M.elim
  | succ s => rw [e] at M; exact ⟨wk_met_sym hi M, ⟨M.2.1.1, M.2.1.2.1⟩, M.2.2⟩
theorem pr_Z (P : Int) (a b : Int) : pr_tb P a b = P.toNat.testBit (6 * a + b).toNat := rfl
theorem bt_if (n k : Nat) : ((if n.testBit k = true then 1 else 0 : Nat) : Int) = rd_bool (n.testBit k = true) := by
  by_cases h : n.testBit k = true
  · rw [if_pos h, rd_t h]; rfl
  · rw [if_neg h, rd_f h]; rfl
theorem bt_pairs {P : Int} (sy : ∀ a b, 0 ≤ a → a < 6 → 0 ≤ b → b < 6 → pr_tb P a b = true → pr_tb P b a = true ∧ b ≠ a) : ((bt_c P.toNat 36 : Nat) : Int) = 2 * pn 6 (fun a b => pr_tb P a b = true) := by
  have d : ∀ a, 0 ≤ a → a < 6 → rd_bool (pr_tb P a a = true) = 0 := fun a a0 a1 => rd_f (fun z => (sy a a a0 a1 a0 a1 z).2 rfl)
  have s : ∀ a b, 0 ≤ a → a < 6 → 0 ≤ b → b < 6 → rd_bool (pr_tb P a b = true) = rd_bool (pr_tb P b a = true) := fun a b a0 a1 b0 b1 => rd_iff ⟨fun z => (sy a b a0 a1 b0 b1 z).1, fun z => (sy b a b0 b1 a0 a1 z).1⟩
  have d0 : rd_bool (P.toNat.testBit 0 = true) = 0 := d 0 (by omega) (by omega)
  have d1 : rd_bool (P.toNat.testBit 7 = true) = 0 := d 1 (by omega) (by omega)
  have d2 : rd_bool (P.toNat.testBit 14 = true) = 0 := d 2 (by omega) (by omega)
  have d3 : rd_bool (P.toNat.testBit 21 = true) = 0 := d 3 (by omega) (by omega)
  have d4 : rd_bool (P.toNat.testBit 28 = true) = 0 := d 4 (by omega) (by omega)
  have d5 : rd_bool (P.toNat.testBit 35 = true) = 0 := d 5 (by omega) (by omega)
  have s10 : rd_bool (P.toNat.testBit 6 = true) = rd_bool (P.toNat.testBit 1 = true) := s 1 0 (by omega) (by omega) (by omega) (by omega)
  have s20 : rd_bool (P.toNat.testBit 12 = true) = rd_bool (P.toNat.testBit 2 = true) := s 2 0 (by omega) (by omega) (by omega) (by omega)
  have s21 : rd_bool (P.toNat.testBit 13 = true) = rd_bool (P.toNat.testBit 8 = true) := s 2 1 (by omega) (by omega) (by omega) (by omega)
  have s30 : rd_bool (P.toNat.testBit 18 = true) = rd_bool (P.toNat.testBit 3 = true) := s 3 0 (by omega) (by omega) (by omega) (by omega)
  have s31 : rd_bool (P.toNat.testBit 19 = true) = rd_bool (P.toNat.testBit 9 = true) := s 3 1 (by omega) (by omega) (by omega) (by omega)
  have s32 : rd_bool (P.toNat.testBit 20 = true) = rd_bool (P.toNat.testBit 15 = true) := s 3 2 (by omega) (by omega) (by omega) (by omega)
  have s40 : rd_bool (P.toNat.testBit 24 = true) = rd_bool (P.toNat.testBit 4 = true) := s 4 0 (by omega) (by omega) (by omega) (by omega)
  have s41 : rd_bool (P.toNat.testBit 25 = true) = rd_bool (P.toNat.testBit 10 = true) := s 4 1 (by omega) (by omega) (by omega) (by omega)
  have s42 : rd_bool (P.toNat.testBit 26 = true) = rd_bool (P.toNat.testBit 16 = true) := s 4 2 (by omega) (by omega) (by omega) (by omega)
  have s43 : rd_bool (P.toNat.testBit 27 = true) = rd_bool (P.toNat.testBit 22 = true) := s 4 3 (by omega) (by omega) (by omega) (by omega)
  have s50 : rd_bool (P.toNat.testBit 30 = true) = rd_bool (P.toNat.testBit 5 = true) := s 5 0 (by omega) (by omega) (by omega) (by omega)
  have s51 : rd_bool (P.toNat.testBit 31 = true) = rd_bool (P.toNat.testBit 11 = true) := s 5 1 (by omega) (by omega) (by omega) (by omega)
  have s52 : rd_bool (P.toNat.testBit 32 = true) = rd_bool (P.toNat.testBit 17 = true) := s 5 2 (by omega) (by omega) (by omega) (by omega)
  have s53 : rd_bool (P.toNat.testBit 33 = true) = rd_bool (P.toNat.testBit 23 = true) := s 5 3 (by omega) (by omega) (by omega) (by omega)
  have s54 : rd_bool (P.toNat.testBit 34 = true) = rd_bool (P.toNat.testBit 29 = true) := s 5 4 (by omega) (by omega) (by omega) (by omega)
  have e1 : ((bt_c P.toNat 36 : Nat) : Int) = rd_bool (P.toNat.testBit 0 = true) + rd_bool (P.toNat.testBit 1 = true) + rd_bool (P.toNat.testBit 2 = true) + rd_bool (P.toNat.testBit 3 = true) + rd_bool (P.toNat.testBit 4 = true) + rd_bool (P.toNat.testBit 5 = true) + rd_bool (P.toNat.testBit 6 = true) + rd_bool (P.toNat.testBit 7 = true) + rd_bool (P.toNat.testBit 8 = true) + rd_bool (P.toNat.testBit 9 = true) + rd_bool (P.toNat.testBit 10 = true) + rd_bool (P.toNat.testBit 11 = true) + rd_bool (P.toNat.testBit 12 = true) + rd_bool (P.toNat.testBit 13 = true) + rd_bool (P.toNat.testBit 14 = true) + rd_bool (P.toNat.testBit 15 = true) + rd_bool (P.toNat.testBit 16 = true) + rd_bool (P.toNat.testBit 17 = true) + rd_bool (P.toNat.testBit 18 = true) + rd_bool (P.toNat.testBit 19 = true) + rd_bool (P.toNat.testBit 20 = true) + rd_bool (P.toNat.testBit 21 = true) + rd_bool (P.toNat.testBit 22 = true) + rd_bool (P.toNat.testBit 23 = true) + rd_bool (P.toNat.testBit 24 = true) + rd_bool (P.toNat.testBit 25 = true) + rd_bool (P.toNat.testBit 26 = true) + rd_bool (P.toNat.testBit 27 = true) + rd_bool (P.toNat.testBit 28 = true) + rd_bool (P.toNat.testBit 29 = true) + rd_bool (P.toNat.testBit 30 = true) + rd_bool (P.toNat.testBit 31 = true) + rd_bool (P.toNat.testBit 32 = true) + rd_bool (P.toNat.testBit 33 = true) + rd_bool (P.toNat.testBit 34 = true) + rd_bool (P.toNat.testBit 35 = true) := by
    simp only [bt_c, Int.natCast_add, bt_if, Int.natCast_zero, Int.zero_add]
  have e2 : pn 6 (fun a b => pr_tb P a b = true) = (rd_bool (P.toNat.testBit 6 = true)) + (rd_bool (P.toNat.testBit 12 = true) + rd_bool (P.toNat.testBit 13 = true)) + (rd_bool (P.toNat.testBit 18 = true) + rd_bool (P.toNat.testBit 19 = true) + rd_bool (P.toNat.testBit 20 = true)) + (rd_bool (P.toNat.testBit 24 = true) + rd_bool (P.toNat.testBit 25 = true) + rd_bool (P.toNat.testBit 26 = true) + rd_bool (P.toNat.testBit 27 = true)) + (rd_bool (P.toNat.testBit 30 = true) + rd_bool (P.toNat.testBit 31 = true) + rd_bool (P.toNat.testBit 32 = true) + rd_bool (P.toNat.testBit 33 = true) + rd_bool (P.toNat.testBit 34 = true)) := by
    show (((((((0 : Int) + 0) + (0 + _)) + (0 + _ + _)) + (0 + _ + _ + _)) + (0 + _ + _ + _ + _)) + (0 + _ + _ + _ + _ + _)) = _
    simp only [Int.zero_add, Int.add_zero]
    rfl
  rw [e1, e2]
  omega
