/-! bits of small masks; how men walk and meet -/
def wk_tb (a i : Int) : Bool := a.toNat.testBit i.toNat
theorem wk_bit0 : ∀ a, a < 64 → ∀ i, i < 6 → ab_iand (ab_ishr (Int.ofNat a) (Int.ofNat i)) 1 = if (Nat.testBit a i) = true then 1 else 0 := by decide +kernel
theorem wk_bit {a i : Int} (ha : 0 ≤ a ∧ a < 64) (hi : 0 ≤ i ∧ i < 6) : ab_iand (ab_ishr a i) 1 = if wk_tb a i = true then 1 else 0 := by
  have := wk_bit0 a.toNat (by omega) i.toNat (by omega)
  rw [show Int.ofNat a.toNat = a by exact Int.toNat_of_nonneg ha.1, show Int.ofNat i.toNat = i by exact Int.toNat_of_nonneg hi.1] at this
  exact this
theorem wk_or0 : ∀ a, a < 64 → ∀ j, j < 6 → ab_ior (Int.ofNat a) (ab_ishl 1 (Int.ofNat j)) = Int.ofNat (a ||| 2 ^ j) ∧ a ||| 2 ^ j < 64 := by decide +kernel
theorem wk_shl0 : ∀ j, j < 6 → ab_ishl 1 (Int.ofNat j) = Int.ofNat (2 ^ j) ∧ 2 ^ j < 64 := by decide +kernel
theorem wk_del0 : ∀ a, a < 64 → ∀ g, g < 64 → ab_iand (Int.ofNat a) (ab_ixor (Int.ofNat g) (-1)) = Int.ofNat (a &&& (63 - g)) := by decide +kernel
theorem wk_del1 : ∀ a, a < 64 → ∀ g, g < 64 → ∀ k, k < 6 → (a &&& (63 - g)).testBit k = (a.testBit k && !g.testBit k) ∧ a &&& (63 - g) < 64 := by decide +kernel
theorem wk_orb : ∀ a, a < 64 → ∀ j, j < 6 → ∀ k, k < 6 → (a ||| 2 ^ j).testBit k = (a.testBit k || decide (k = j)) := by decide +kernel
theorem wk_sing : ∀ j, j < 6 → ∀ k, k < 6 → (2 ^ j).testBit k = decide (k = j) := by decide +kernel
theorem wk_or {a j : Int} (ha : 0 ≤ a ∧ a < 64) (hj : 0 ≤ j ∧ j < 6) : 0 ≤ ab_ior a (ab_ishl 1 j) ∧ ab_ior a (ab_ishl 1 j) < 64 ∧ ∀ k, 0 ≤ k → k < 6 → wk_tb (ab_ior a (ab_ishl 1 j)) k = (wk_tb a k || decide (k = j)) := by
  have h := wk_or0 a.toNat (by omega) j.toNat (by omega)
  rw [show Int.ofNat a.toNat = a by exact Int.toNat_of_nonneg ha.1, show Int.ofNat j.toNat = j by exact Int.toNat_of_nonneg hj.1] at h
  refine ⟨by rw [h.1]; exact Int.natCast_nonneg _, by rw [h.1]; exact Int.ofNat_lt.mpr h.2, fun k k0 k1 => ?_⟩
  unfold wk_tb
  rw [h.1]
  show (a.toNat ||| 2 ^ j.toNat).testBit k.toNat = _
  rw [wk_orb a.toNat (by omega) j.toNat (by omega) k.toNat (by omega)]
  congr 1
  exact decide_eq_decide.mpr (by omega)
theorem wk_shl {j : Int} (hj : 0 ≤ j ∧ j < 6) : 0 ≤ ab_ishl 1 j ∧ ab_ishl 1 j < 64 ∧ ∀ k, 0 ≤ k → k < 6 → wk_tb (ab_ishl 1 j) k = decide (k = j) := by
  have h := wk_shl0 j.toNat (by omega)
  rw [show Int.ofNat j.toNat = j by exact Int.toNat_of_nonneg hj.1] at h
  refine ⟨by rw [h.1]; exact Int.natCast_nonneg _, by rw [h.1]; exact Int.ofNat_lt.mpr h.2, fun k k0 k1 => ?_⟩
  unfold wk_tb
  rw [h.1]
  show (2 ^ j.toNat).testBit k.toNat = _
  rw [wk_sing j.toNat (by omega) k.toNat (by omega)]
  exact decide_eq_decide.mpr (by omega)
theorem wk_del {a g : Int} (ha : 0 ≤ a ∧ a < 64) (hg : 0 ≤ g ∧ g < 64) : 0 ≤ ab_iand a (ab_ixor g (-1)) ∧ ab_iand a (ab_ixor g (-1)) < 64 ∧ ∀ k, 0 ≤ k → k < 6 → wk_tb (ab_iand a (ab_ixor g (-1))) k = (wk_tb a k && !wk_tb g k) := by
  have h := wk_del0 a.toNat (by omega) g.toNat (by omega)
  rw [show Int.ofNat a.toNat = a by exact Int.toNat_of_nonneg ha.1, show Int.ofNat g.toNat = g by exact Int.toNat_of_nonneg hg.1] at h
  refine ⟨by rw [h]; exact Int.natCast_nonneg _, by rw [h]; exact Int.ofNat_lt.mpr (wk_del1 a.toNat (by omega) g.toNat (by omega) 0 (by omega)).2, fun k k0 k1 => ?_⟩
  unfold wk_tb
  rw [h]
  exact (wk_del1 a.toNat (by omega) g.toNat (by omega) k.toNat (by omega)).1
/-- STANDS at half minute t; the direction in which one goes on -/
abbrev wk_std (a b c : Int → Int) (i t : Int) : Prop := t < a i ∨ (b i ≤ t ∧ t < c i)
def wk_fc (E pl fc : Int) : Int := if (fc = 1 ∧ pl = E) ∨ (¬ fc = 1 ∧ pl = 0) then -fc else fc
/-- places, directions, bags -/
abbrev wk_S : Type := (Int → Int) × (Int → Int) × (Int → Int)
def wk_go (E : Int) (a b c : Int → Int) (w t : Int) (S : wk_S) : wk_S := (fun i => if wk_tb w i = true ∧ ¬ wk_std a b c i t then S.1 i + wk_fc E (S.1 i) (S.2.1 i) else S.1 i, fun i => if wk_tb w i = true ∧ ¬ wk_std a b c i t then wk_fc E (S.1 i) (S.2.1 i) else S.2.1 i, S.2.2)
/-- those who are together with i -/
def wk_G (m w : Int) (pl : Int → Int) (i j : Int) : Prop := 0 ≤ j ∧ j < m ∧ wk_tb w j = true ∧ pl j = pl i
def wk_new (m w : Int) (pl bf : Int → Int) (i : Int) : Prop := ∃ j, wk_G m w pl i j ∧ bf j ≠ bf i
noncomputable def wk_num (q : Int → Prop) : Nat → Int
  | 0 => 0
  | k + 1 => wk_num q k + rd_bool (q k)
noncomputable def wk_last (q : Int → Prop) : Nat → Int
  | 0 => -1
  | k + 1 => haveI := Classical.propDecidable (q k); if q k then (k : Int) else wk_last q k
noncomputable def wk_prv (q : Int → Prop) (i : Int) : Int := if wk_last q i.toNat = -1 then wk_last q 6 else wk_last q i.toNat
abbrev wk_turn (l0 l1 c : Int) : Prop := (c = 2 ∧ l0 ≠ 2) ∨ (c ≠ 2 ∧ l1 = 1)
abbrev wk_chg (l0 l1 c : Int) : Prop := (c = 2 ∧ l0 ≠ 1) ∨ (c ≠ 2 ∧ l1 = 1)
def wk_act (m w : Int) (pl bf : Int → Int) (i : Int) : Prop := wk_tb w i = true ∧ wk_new m w pl bf i
noncomputable def wk_fcm (m l0 l1 w : Int) (bf : Int → Int) (S : wk_S) (i : Int) : Int := haveI := Classical.propDecidable (wk_act m w S.1 bf i ∧ wk_turn l0 l1 (wk_num (wk_G m w S.1 i) 6)); if wk_act m w S.1 bf i ∧ wk_turn l0 l1 (wk_num (wk_G m w S.1 i) 6) then -S.2.1 i else S.2.1 i
noncomputable def wk_bgm (m l0 l1 w : Int) (bf : Int → Int) (S : wk_S) (i : Int) : Int := haveI := Classical.propDecidable (wk_act m w S.1 bf i ∧ wk_chg l0 l1 (wk_num (wk_G m w S.1 i) 6)); if wk_act m w S.1 bf i ∧ wk_chg l0 l1 (wk_num (wk_G m w S.1 i) 6) then S.2.2 (wk_prv (wk_G m w S.1 i) i) else S.2.2 i
/-- the meetings of a half minute; who met whom -/
noncomputable def wk_meet (m l0 l1 w : Int) (bf : Int → Int) (S : wk_S) : wk_S := (S.1, wk_fcm m l0 l1 w bf S, wk_bgm m l0 l1 w bf S)
def wk_met (m w : Int) (bf : Int → Int) (S : wk_S) (i j : Int) : Prop := wk_act m w S.1 bf i ∧ wk_G m w S.1 i j ∧ j ≠ i
