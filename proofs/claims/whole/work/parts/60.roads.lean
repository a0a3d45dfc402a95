/-! the text's answer: its bounds; two texts and two beginnings alike -/
def ps_ok (len : Int) (s : ps_T) : Prop := ps_in s ∧ (∀ i, 0 ≤ i → i < s.1 → (0 ≤ s.2.1 i ∧ s.2.1 i ≤ len) ∧ (s.2.2.1 i = 1 ∨ s.2.2.1 i = -1) ∧ (0 ≤ s.2.2.2.1 i ∧ s.2.2.2.1 i ≤ 40)) ∧ (∀ i j, 0 ≤ i → i < s.1 → 0 ≤ j → j < s.1 → s.2.1 i = s.2.1 j → i = j) ∧ ∀ i, 0 ≤ i → i < s.2.2.2.2.1 → 0 ≤ s.2.2.2.2.2 i ∧ s.2.2.2.2.2 i ≤ len
theorem ps_house_k {tx : Int → Int} {n len a : Int} {s : ps_T} (h : ps_ok len s) (ha : 0 ≤ a) : ps_ok len (ps_house tx n len a s).2 := by
  by_cases q : ps_hw tx n len a s = -1
  · rw [ps_house_ok q]
    have c6 : ¬ 6 ≤ s.2.2.2.2.1 := fun z => by unfold ps_hw at q; rw [if_pos z] at q; omega
    have w : rd_wr tx n (a + 1) 0 len = -1 := by unfold ps_hw at q; rw [if_neg c6] at q; exact q
    have r := rd_wr_in w (by omega)
    obtain ⟨h1, h2, h3, h4⟩ := h
    refine ⟨?_, h2, h3, fun i i0 i1 => ?_⟩
    · unfold ps_in at h1 ⊢; dsimp only; omega
    · show 0 ≤ ps_up s.2.2.2.2.2 s.2.2.2.2.1 (rd_num tx (a + 1)) i ∧ ps_up s.2.2.2.2.2 s.2.2.2.2.1 (rd_num tx (a + 1)) i ≤ len
      unfold ps_up
      by_cases e : i = s.2.2.2.2.1
      · rw [if_pos e]; exact r
      · rw [if_neg e]; dsimp only at i1; exact h4 i i0 (by omega)
  · rw [ps_house_bad rfl q]; exact h
theorem ps_man_k {tx : Int → Int} {n len a : Int} {s : ps_T} (h : ps_ok len s) (ha : 0 ≤ a) : ps_ok len (ps_man tx n len a s).2 := by
  by_cases q : ps_mw tx n len a s = -1
  · rw [ps_man_ok q]
    have c6 : ¬ 6 ≤ s.1 := fun z => by rw [ps_mw_6 z] at q; omega
    have w1 : rd_wr tx n a 0 len = -1 := Classical.byContradiction fun z => z (by rw [ps_mw_w c6 z] at q; exact q)
    have w2 : ¬ ps_tkn s (rd_num tx a) := fun z => by rw [ps_mw_t c6 w1 z] at q; omega
    have w3 : rd_isB tx n (a + 2) 117 ∨ rd_isB tx n (a + 2) 100 := Classical.byContradiction fun z => by rw [ps_mw_b c6 w1 w2 (fun y => z (Or.inl y)) (fun y => z (Or.inr y))] at q; omega
    rw [ps_mw_3 c6 w1 w2 w3] at q
    have r1 := rd_wr_in w1 ha
    have r3 := rd_wr_in q (by omega)
    obtain ⟨h1, h2, h3, h4⟩ := h
    refine ⟨?_, fun i i0 i1 => ?_, fun i j i0 i1 j0 j1 => ?_, h4⟩
    · unfold ps_in at h1 ⊢; dsimp only; omega
    · dsimp only at i1 ⊢
      unfold ps_up
      by_cases e : i = s.1
      · rw [if_pos e, if_pos e, if_pos e]
        refine ⟨r1, ?_, r3⟩
        split
        · exact Or.inl rfl
        · exact Or.inr rfl
      · rw [if_neg e, if_neg e, if_neg e]; exact h2 i i0 (by omega)
    · dsimp only at i1 j1 ⊢
      unfold ps_up
      by_cases e : i = s.1
      · by_cases f : j = s.1
        · intro _; omega
        · rw [if_pos e, if_neg f]; intro z; exact absurd ⟨j, j0, by omega, z.symm⟩ w2
      · by_cases f : j = s.1
        · rw [if_neg e, if_pos f]; intro z; exact absurd ⟨i, i0, by omega, z⟩ w2
        · rw [if_neg e, if_neg f]; exact h3 i j i0 (by omega) j0 (by omega)
  · rw [ps_man_bad rfl q]; exact h
theorem ps_one_k {tx : Int → Int} {n len a : Int} {s : ps_T} (h : ps_ok len s) (ha : 0 ≤ a) : ps_ok len (ps_one tx n len a s).2 := by
  unfold ps_one
  split
  · exact ps_house_k h (by omega)
  · exact ps_man_k h (by omega)
theorem ps_run_k {tx : Int → Int} {n len : Int} : ∀ (f : Nat) (a : Int) (s : ps_T), ps_ok len s → 0 ≤ a → ps_ok len (ps_run tx n len f a s).2
  | 0, _, _, h, _ => h
  | f + 1, a, s, h, ha => by
    rw [ps_run]
    split
    · exact h
    · split
      · exact h
      · split
        · exact ps_one_k h ha
        · exact ps_run_k f _ _ (ps_one_k h ha) (by split <;> omega)
/-- alike below their counts -/
def ps_sim (s s' : ps_T) : Prop := s.1 = s'.1 ∧ s.2.2.2.2.1 = s'.2.2.2.2.1 ∧ (∀ i, 0 ≤ i → i < s.1 → s.2.1 i = s'.2.1 i ∧ s.2.2.1 i = s'.2.2.1 i ∧ s.2.2.2.1 i = s'.2.2.2.1 i) ∧ ∀ i, 0 ≤ i → i < s.2.2.2.2.1 → s.2.2.2.2.2 i = s'.2.2.2.2.2 i
section PSC
variable {tx tx' : Int → Int} {n : Int}
theorem rd_fig_c (ht : ∀ i, 0 ≤ i → i < n → tx i = tx' i) (i : Int) : rd_fig tx n i ↔ rd_fig tx' n i := by
  constructor
  · rintro ⟨a, b, c, d⟩; rw [ht i a b] at c d; exact ⟨a, b, c, d⟩
  · rintro ⟨a, b, c, d⟩; rw [← ht i a b] at c d; exact ⟨a, b, c, d⟩
theorem rd_isB_c (ht : ∀ i, 0 ≤ i → i < n → tx i = tx' i) (i b : Int) : rd_isB tx n i b ↔ rd_isB tx' n i b := by
  constructor
  · rintro ⟨a, b, c⟩; rw [ht i a b] at c; exact ⟨a, b, c⟩
  · rintro ⟨a, b, c⟩; rw [← ht i a b] at c; exact ⟨a, b, c⟩
theorem rd_num_c (ht : ∀ i, 0 ≤ i → i < n → tx i = tx' i) {i : Int} (h1 : rd_fig tx n i) (h2 : rd_fig tx n (i + 1)) : rd_num tx i = rd_num tx' i := by
  unfold rd_num
  rw [ht i h1.1 h1.2.1, ht (i + 1) h2.1 h2.2.1]
theorem rd_wr_c (ht : ∀ i, 0 ≤ i → i < n → tx i = tx' i) (i lo hi : Int) : rd_wr tx n i lo hi = rd_wr tx' n i lo hi := by
  unfold rd_wr
  by_cases h1 : rd_fig tx n i
  · rw [if_pos h1, if_pos ((rd_fig_c ht i).mp h1)]
    by_cases h2 : rd_fig tx n (i + 1)
    · rw [if_pos h2, if_pos ((rd_fig_c ht (i + 1)).mp h2), rd_num_c ht h1 h2]
    · rw [if_neg h2, if_neg (fun z => h2 ((rd_fig_c ht (i + 1)).mpr z))]
  · rw [if_neg h1, if_neg (fun z => h1 ((rd_fig_c ht i).mpr z))]
theorem rd_num_w (ht : ∀ i, 0 ≤ i → i < n → tx i = tx' i) {i lo hi : Int} (h : rd_wr tx n i lo hi = -1) (hi0 : 0 ≤ i) : rd_num tx i = rd_num tx' i := by
  have := rd_wr_ok h hi0
  exact rd_num_c ht this.1 this.2
theorem ps_house_c (ht : ∀ i, 0 ≤ i → i < n → tx i = tx' i) {len a : Int} {s s' : ps_T} (ha : 0 ≤ a) (h : ps_sim s s') : (ps_house tx n len a s).1 = (ps_house tx' n len a s').1 ∧ ps_sim (ps_house tx n len a s).2 (ps_house tx' n len a s').2 := by
  have ew : ps_hw tx n len a s = ps_hw tx' n len a s' := by unfold ps_hw; rw [h.2.1, rd_wr_c ht]
  by_cases q : ps_hw tx n len a s = -1
  · rw [ps_house_ok q, ps_house_ok (ew ▸ q)]
    have c6 : ¬ 6 ≤ s.2.2.2.2.1 := fun z => by unfold ps_hw at q; rw [if_pos z] at q; omega
    have w : rd_wr tx n (a + 1) 0 len = -1 := by unfold ps_hw at q; rw [if_neg c6] at q; exact q
    have e := rd_num_w ht w (by omega)
    obtain ⟨h1, h2, h3, h4⟩ := h
    refine ⟨rfl, h1, by dsimp only; rw [h2], h3, fun i i0 i1 => ?_⟩
    dsimp only at i1 ⊢
    unfold ps_up
    rw [← h2]
    by_cases z : i = s.2.2.2.2.1
    · rw [if_pos z, if_pos z, e]
    · rw [if_neg z, if_neg z]; exact h4 i i0 (by omega)
  · rw [ps_house_bad rfl q, ps_house_bad rfl (fun z => q (ew.trans z))]
    exact ⟨ew, h⟩
theorem ps_tkn_c {s s' : ps_T} (h : ps_sim s s') (v : Int) : ps_tkn s v ↔ ps_tkn s' v := by
  unfold ps_tkn
  constructor
  · rintro ⟨i, a, b, c⟩; exact ⟨i, a, by rw [← h.1]; exact b, by rw [← (h.2.2.1 i a b).1]; exact c⟩
  · rintro ⟨i, a, b, c⟩; rw [← h.1] at b; exact ⟨i, a, b, by rw [(h.2.2.1 i a b).1]; exact c⟩
theorem ps_man_c (ht : ∀ i, 0 ≤ i → i < n → tx i = tx' i) {len a : Int} {s s' : ps_T} (ha : 0 ≤ a) (h : ps_sim s s') : (ps_man tx n len a s).1 = (ps_man tx' n len a s').1 ∧ ps_sim (ps_man tx n len a s).2 (ps_man tx' n len a s').2 := by
  have hB := fun b => rd_isB_c ht (a + 2) b
  have ew : ps_mw tx n len a s = ps_mw tx' n len a s' := by
    by_cases c6 : 6 ≤ s.1
    · rw [ps_mw_6 c6, ps_mw_6 (h.1 ▸ c6)]
    · have c6' : ¬ 6 ≤ s'.1 := h.1 ▸ c6
      by_cases w : rd_wr tx n a 0 len = -1
      · have w' : rd_wr tx' n a 0 len = -1 := by rw [← rd_wr_c ht]; exact w
        have en := rd_num_w ht w ha
        by_cases tk : ps_tkn s (rd_num tx a)
        · rw [ps_mw_t c6 w tk, ps_mw_t c6' w' (by rw [← en]; exact (ps_tkn_c h _).mp tk)]
        · have tk' : ¬ ps_tkn s' (rd_num tx' a) := by rw [← en]; exact fun z => tk ((ps_tkn_c h _).mpr z)
          by_cases u : rd_isB tx n (a + 2) 117 ∨ rd_isB tx n (a + 2) 100
          · rw [ps_mw_3 c6 w tk u, ps_mw_3 c6' w' tk' (u.imp (hB 117).mp (hB 100).mp), rd_wr_c ht]
          · rw [ps_mw_b c6 w tk (fun z => u (Or.inl z)) (fun z => u (Or.inr z)), ps_mw_b c6' w' tk' (fun z => u (Or.inl ((hB 117).mpr z))) (fun z => u (Or.inr ((hB 100).mpr z)))]
      · rw [ps_mw_w c6 w, ps_mw_w c6' (by rw [← rd_wr_c ht]; exact w), rd_wr_c ht]
  by_cases q : ps_mw tx n len a s = -1
  · rw [ps_man_ok q, ps_man_ok (ew ▸ q)]
    have c6 : ¬ 6 ≤ s.1 := fun z => by rw [ps_mw_6 z] at q; omega
    have w1 : rd_wr tx n a 0 len = -1 := Classical.byContradiction fun z => z (by rw [ps_mw_w c6 z] at q; exact q)
    have w2 : ¬ ps_tkn s (rd_num tx a) := fun z => by rw [ps_mw_t c6 w1 z] at q; omega
    have w3 : rd_isB tx n (a + 2) 117 ∨ rd_isB tx n (a + 2) 100 := Classical.byContradiction fun z => by rw [ps_mw_b c6 w1 w2 (fun y => z (Or.inl y)) (fun y => z (Or.inr y))] at q; omega
    rw [ps_mw_3 c6 w1 w2 w3] at q
    have e1 := rd_num_w ht w1 ha
    have e3 := rd_num_w ht q (by omega)
    obtain ⟨h1, h2, h3, h4⟩ := h
    refine ⟨rfl, by dsimp only; rw [h1], h2, fun i i0 i1 => ?_, h4⟩
    dsimp only at i1 ⊢
    unfold ps_up
    rw [← h1]
    have hb : (if rd_isB tx n (a + 2) 117 then (1 : Int) else -1) = if rd_isB tx' n (a + 2) 117 then 1 else -1 := by
      by_cases u : rd_isB tx n (a + 2) 117
      · rw [if_pos u, if_pos ((hB 117).mp u)]
      · rw [if_neg u, if_neg (fun z => u ((hB 117).mpr z))]
    by_cases z : i = s.1
    · rw [if_pos z, if_pos z, if_pos z, if_pos z, if_pos z, if_pos z, e1, e3, hb]; exact ⟨rfl, rfl, rfl⟩
    · rw [if_neg z, if_neg z, if_neg z, if_neg z, if_neg z, if_neg z]; exact h3 i i0 (by omega)
  · rw [ps_man_bad rfl q, ps_man_bad rfl (fun z => q (ew.trans z))]
    exact ⟨ew, h⟩
theorem ps_one_c (ht : ∀ i, 0 ≤ i → i < n → tx i = tx' i) {len a : Int} {s s' : ps_T} (ha : 0 ≤ a) (h : ps_sim s s') : (ps_one tx n len a s).1 = (ps_one tx' n len a s').1 ∧ ps_sim (ps_one tx n len a s).2 (ps_one tx' n len a s').2 := by
  unfold ps_one
  by_cases u : rd_isB tx n (a + 1) 104
  · rw [if_pos u, if_pos ((rd_isB_c ht _ _).mp u)]; exact ps_house_c ht (by omega) h
  · rw [if_neg u, if_neg (fun z => u ((rd_isB_c ht _ _).mpr z))]; exact ps_man_c ht (by omega) h
theorem ps_run_c (ht : ∀ i, 0 ≤ i → i < n → tx i = tx' i) {len : Int} : ∀ (f : Nat) (a : Int) (s s' : ps_T), 0 ≤ a → ps_sim s s' → (ps_run tx n len f a s).1 = (ps_run tx' n len f a s').1 ∧ ps_sim (ps_run tx n len f a s).2 (ps_run tx' n len f a s').2
  | 0, _, _, _, _, h => ⟨rfl, h⟩
  | f + 1, a, s, s', ha, h => by
    obtain ⟨o1, o2⟩ := ps_one_c ht (len := len) ha h
    rw [ps_run, ps_run]
    by_cases z : n ≤ a
    · rw [if_pos z, if_pos z]; exact ⟨rfl, h⟩
    · rw [if_neg z, if_neg z]
      by_cases u : rd_isB tx n a 59
      · rw [if_neg (show ¬ ¬ rd_isB tx n a 59 from fun y => y u), if_neg (show ¬ ¬ rd_isB tx' n a 59 from fun y => y ((rd_isB_c ht _ _).mp u))]
        by_cases v : (ps_one tx n len a s).1 = -1
        · rw [if_neg (show ¬ (ps_one tx n len a s).1 ≠ -1 from fun y => y v), if_neg (show ¬ (ps_one tx' n len a s').1 ≠ -1 from fun y => y (o1 ▸ v))]
          have eo : (if rd_isB tx n (a + 1) 104 then (4 : Int) else 6) = if rd_isB tx' n (a + 1) 104 then 4 else 6 := by
            by_cases x : rd_isB tx n (a + 1) 104
            · rw [if_pos x, if_pos ((rd_isB_c ht _ _).mp x)]
            · rw [if_neg x, if_neg (fun y => x ((rd_isB_c ht _ _).mpr y))]
          rw [← eo]
          exact ps_run_c ht f _ _ _ (by have := ha; split <;> omega) o2
        · rw [if_pos (show (ps_one tx n len a s).1 ≠ -1 from v), if_pos (show (ps_one tx' n len a s').1 ≠ -1 from fun y => v (o1.trans y))]; exact ⟨o1, o2⟩
      · rw [if_pos u, if_pos (fun y => u ((rd_isB_c ht _ _).mpr y))]; exact ⟨rfl, h⟩
theorem ps_all_c (ht : ∀ i, 0 ≤ i → i < n → tx i = tx' i) {s s' : ps_T} (h : ps_sim s s') : (ps_all tx n s).1 = (ps_all tx' n s').1 ∧ ps_sim (ps_all tx n s).2 (ps_all tx' n s').2 := by
  unfold ps_all
  have e := rd_wr_c ht 0 1 40
  by_cases z : rd_wr tx n 0 1 40 = -1
  · rw [if_neg (fun y => y z), if_neg (fun y => y (e ▸ z)), rd_num_w ht z (by omega)]
    exact ps_run_c ht 80 2 _ _ (by omega) h
  · rw [if_pos z, if_pos (fun y => z (e.trans y))]; exact ⟨e, h⟩
end PSC
theorem ps_all_k {tx : Int → Int} {n : Int} {s : ps_T} (hs : ps_ok (rd_num tx 0) s) (h : (ps_all tx n s).1 = -1) : (1 ≤ rd_num tx 0 ∧ rd_num tx 0 ≤ 40) ∧ ps_ok (rd_num tx 0) (ps_all tx n s).2 := by
  unfold ps_all at h ⊢
  by_cases z : rd_wr tx n 0 1 40 ≠ -1
  · rw [if_pos z] at h; exact absurd h z
  · rw [if_neg z]
    have w : rd_wr tx n 0 1 40 = -1 := Classical.byContradiction fun y => z y
    exact ⟨rd_wr_in w (by omega), ps_run_k 80 2 s hs (by omega)⟩
theorem ps_ok_0 (len : Int) (a b c d : Int → Int) : ps_ok len (0, a, b, c, 0, d) := ⟨by unfold ps_in; dsimp only; omega, fun i i0 i1 => absurd (show i < (0 : Int) from i1) (by omega), fun i j i0 i1 => absurd (show i < (0 : Int) from i1) (by omega), fun i i0 i1 => absurd (show i < (0 : Int) from i1) (by omega)⟩
theorem ps_sim_0 (a b c d a' b' c' d' : Int → Int) : ps_sim (0, a, b, c, 0, d) (0, a', b', c', 0, d') := ⟨rfl, rfl, fun i i0 i1 => absurd (show i < (0 : Int) from i1) (by omega), fun i i0 i1 => absurd (show i < (0 : Int) from i1) (by omega)⟩
