/-! the first of a row; the tables of a walk -/
def Fst (lo hi : Int) (q : Int → Prop) (z : Int) : Prop := (z = -1 ∧ ∀ j, lo ≤ j → j < hi → ¬ q j) ∨ (lo ≤ z ∧ z < hi ∧ q z ∧ ∀ j, lo ≤ j → j < z → ¬ q j)
theorem Fst.uniq {lo hi z z' : Int} {q : Int → Prop} (h0 : 0 ≤ lo) (a : Fst lo hi q z) (b : Fst lo hi q z') : z = z' := by
  rcases a with ⟨a1, a2⟩ | ⟨a1, a2, a3, a4⟩ <;> rcases b with ⟨b1, b2⟩ | ⟨b1, b2, b3, b4⟩
  · omega
  · exact absurd b3 (a2 _ b1 b2)
  · exact absurd a3 (b2 _ a1 a2)
  · rcases Int.lt_trichotomy z z' with y | y | y
    · exact absurd a3 (b4 _ a1 y)
    · exact y
    · exact absurd b3 (a4 _ b1 y)
noncomputable def fsn (q : Int → Prop) (lo : Int) : Nat → Int
  | 0 => -1
  | k + 1 => haveI := Classical.propDecidable (q (lo + k)); if fsn q lo k = -1 then (if q (lo + k) then lo + k else -1) else fsn q lo k
noncomputable def fs (lo hi : Int) (q : Int → Prop) : Int := fsn q lo (hi - lo).toNat
theorem fsn_ok {q : Int → Prop} {lo : Int} (h0 : 0 ≤ lo) : ∀ k : Nat, Fst lo (lo + k) q (fsn q lo k)
  | 0 => Or.inl ⟨rfl, fun j j0 j1 => by omega⟩
  | k + 1 => by
    rw [fsn]
    rcases fsn_ok (q := q) h0 k with ⟨a1, a2⟩ | ⟨a1, a2, a3, a4⟩
    · rw [if_pos a1]
      by_cases z : q (lo + k)
      · rw [if_pos z]; exact Or.inr ⟨by omega, by omega, z, a2⟩
      · rw [if_neg z]
        refine Or.inl ⟨rfl, fun j j0 j1 => ?_⟩
        by_cases e : j = lo + k
        · subst e; exact z
        · exact a2 j j0 (by omega)
    · rw [if_neg (by omega)]
      exact Or.inr ⟨a1, by omega, a3, a4⟩
theorem fs_ok {lo hi : Int} {q : Int → Prop} (h0 : 0 ≤ lo) : Fst lo hi q (fs lo hi q) := by
  unfold fs
  by_cases z : lo ≤ hi
  · have := fsn_ok (q := q) h0 (hi - lo).toNat
    rw [show lo + ((hi - lo).toNat : Int) = hi by omega] at this
    exact this
  · rw [show (hi - lo).toNat = 0 by omega]
    exact Or.inl ⟨rfl, fun j j0 j1 => by omega⟩
theorem fs_eq {lo hi z : Int} {q : Int → Prop} (h0 : 0 ≤ lo) (a : Fst lo hi q z) : z = fs lo hi q := a.uniq h0 (fs_ok h0)
theorem Fst.congr {lo hi z : Int} {q q' : Int → Prop} (a : Fst lo hi q z) (h : ∀ j, lo ≤ j → j < hi → (q j ↔ q' j)) : Fst lo hi q' z := by
  rcases a with ⟨a1, a2⟩ | ⟨a1, a2, a3, a4⟩
  · exact Or.inl ⟨a1, fun j j0 j1 z => a2 j j0 j1 ((h j j0 j1).mpr z)⟩
  · exact Or.inr ⟨a1, a2, (h _ a1 a2).mp a3, fun j j0 j1 z => a4 j j0 j1 ((h j j0 (by omega)).mpr z)⟩
theorem fs_congr {lo hi : Int} {q q' : Int → Prop} (h0 : 0 ≤ lo) (h : ∀ j, lo ≤ j → j < hi → (q j ↔ q' j)) : fs lo hi q = fs lo hi q' := fs_eq h0 ((fs_ok h0).congr h)
abbrev tb_W : Type := Int → wk_S
/-- who holds a bag, where it is; who is first on a pace, his bag; when it is taken, when it comes -/
noncomputable def tb_H (m : Int) (W : tb_W) (t b : Int) : Int := fs 0 m (fun i => (W t).2.2 i = b)
noncomputable def tb_bp (m : Int) (W : tb_W) (t b : Int) : Int := if tb_H m W t b = -1 then -1 else (W t).1 (tb_H m W t b)
noncomputable def tb_f (m : Int) (W : tb_W) (t p : Int) : Int := fs 0 m (fun i => (W t).1 i = 2 * p)
noncomputable def tb_bt (m : Int) (W : tb_W) (t p : Int) : Int := if tb_f m W t p = -1 then -1 else (W t).2.2 (tb_f m W t p)
noncomputable def tb_tk (m : Int) (W : tb_W) (p u : Int) : Int := fs (2 * u) 401 (fun t => tb_bt m W t p ≠ -1)
noncomputable def tb_bc (m : Int) (W : tb_W) (b s p : Int) : Int := fs s 401 (fun t => tb_bp m W t b = 2 * p)
noncomputable def tb_lb (m : Int) (W : tb_W) (p u : Int) : Int := if tb_tk m W p u = -1 then -1 else tb_bt m W (tb_tk m W p u) p
noncomputable def tb_lt (m : Int) (W : tb_W) (p u q : Int) : Int := if tb_tk m W p u = -1 then -1 else tb_bc m W (tb_lb m W p u) (tb_tk m W p u) q
/-- each bag has one man -/
def tb_p1 (m : Int) (B : Int → Int) : Prop := (∀ i, 0 ≤ i → i < m → 0 ≤ B i ∧ B i < m) ∧ (∀ i j, 0 ≤ i → i < m → 0 ≤ j → j < m → B i = B j → i = j) ∧ ∀ b, 0 ≤ b → b < m → ∃ i, 0 ≤ i ∧ i < m ∧ B i = b
def tb_pm (m : Int) (W : tb_W) : Prop := ∀ t, 0 ≤ t → t ≤ 400 → tb_p1 m (W t).2.2
theorem pg_sur : ∀ (n : Nat) (f : Nat → Nat), (∀ i, i < n → f i < n) → (∀ i j, i < n → j < n → f i = f j → i = j) → ∀ b, b < n → ∃ i, i < n ∧ f i = b
  | 0, _, _, _, b, hb => by omega
  | n + 1, f, h1, h2, b, hb => by
    by_cases hx : ∃ i, i < n ∧ f i = n
    · obtain ⟨k, k1, k2⟩ := hx
      have hn : f n < n := by
        have := h1 n (by omega)
        have : f n ≠ n := fun z => by have := h2 n k (by omega) (by omega) (by omega); omega
        omega
      by_cases hbn : b = n
      · exact ⟨k, by omega, by omega⟩
      · obtain ⟨i, i1, i2⟩ := pg_sur n (fun i => if f i = n then f n else f i) (fun i hi => by
            split
            · exact hn
            · have := h1 i (by omega); omega) (fun i j hi hj e => by
            by_cases a : f i = n
            · by_cases c : f j = n
              · exact h2 i j (by omega) (by omega) (by omega)
              · rw [if_pos a, if_neg c] at e; have := h2 n j (by omega) (by omega) e; omega
            · by_cases c : f j = n
              · rw [if_neg a, if_pos c] at e; have := h2 i n (by omega) (by omega) e; omega
              · rw [if_neg a, if_neg c] at e; exact h2 i j (by omega) (by omega) e) b (by omega)
        by_cases a : f i = n
        · rw [if_pos a] at i2; exact ⟨n, by omega, i2⟩
        · rw [if_neg a] at i2; exact ⟨i, by omega, i2⟩
    · have h1' : ∀ i, i < n → f i < n := fun i hi => by
        have := h1 i (by omega)
        have : f i ≠ n := fun z => hx ⟨i, hi, z⟩
        omega
      have ih := pg_sur n f h1' (fun i j hi hj e => h2 i j (by omega) (by omega) e)
      by_cases hfn : f n = n
      · by_cases hbn : b = n
        · exact ⟨n, by omega, by omega⟩
        · obtain ⟨i, i1, i2⟩ := ih b (by omega); exact ⟨i, by omega, i2⟩
      · have := h1 n (by omega)
        obtain ⟨i, i1, i2⟩ := ih (f n) (by omega)
        have := h2 i n (by omega) (by omega) i2
        omega
theorem tb_p1_of {m : Int} {B : Int → Int} (h1 : ∀ i, 0 ≤ i → i < m → 0 ≤ B i ∧ B i < m) (h2 : ∀ i j, 0 ≤ i → i < m → 0 ≤ j → j < m → B i = B j → i = j) : tb_p1 m B := by
  refine ⟨h1, h2, fun b b0 b1 => ?_⟩
  obtain ⟨i, i1, i2⟩ := pg_sur m.toNat (fun i => (B i).toNat) (fun i hi => by have := h1 i (by omega) (by omega); omega) (fun i j hi hj e => by
    have a := h1 i (by omega) (by omega)
    have c := h1 j (by omega) (by omega)
    have := h2 i j (by omega) (by omega) (by omega) (by omega) (by omega)
    omega) b.toNat (by omega)
  have a := h1 i (by omega) (by omega)
  exact ⟨i, by omega, by omega, by omega⟩
theorem gl_ex (q : Int → Prop) : ∀ k : Nat, ∃ n e, gl_I q k n e
  | 0 => ⟨0, fun _ => 0, gl_0⟩
  | k + 1 => by
    obtain ⟨n, e, h⟩ := gl_ex q k
    by_cases z : q k
    · exact ⟨n + 1, ps_up e n k, by have := gl_t (by omega) h z; exact this⟩
    · exact ⟨n, e, by have := gl_f (by omega) h z; exact this⟩
theorem wk_prv_inj {q : Int → Prop} {m : Int} (hm : 0 ≤ m ∧ m ≤ 6) (hq : ∀ k, m ≤ k → ¬ q k) {i j : Int} (hi : 0 ≤ i) (hj : 0 ≤ j) (qi : q i) (qj : q j) (e : wk_prv q i = wk_prv q j) : i = j := by
  obtain ⟨n, f, G⟩ := gl_ex q m.toNat
  rw [Int.toNat_of_nonneg hm.1] at G
  have im : i < m := Int.not_le.mp fun z => hq i z qi
  have jm : j < m := Int.not_le.mp fun z => hq j z qj
  obtain ⟨a, a0, a1, a2⟩ := G.2.2.2.1 i hi im qi
  obtain ⟨b, b0, b1, b2⟩ := G.2.2.2.1 j hj jm qj
  have pa := gl_prv hm hq G ⟨a0, a1⟩
  have pb := gl_prv hm hq G ⟨b0, b1⟩
  rw [a2] at pa
  rw [b2] at pb
  rw [pa, pb] at e
  have inj : ∀ c d, 0 ≤ c → c < n → 0 ≤ d → d < n → f c = f d → c = d := fun c d c0 c1 d0 d1 z => by
    rcases Int.lt_trichotomy c d with y | y | y
    · have := G.2.2.1 c d c0 y d1; omega
    · exact y
    · have := G.2.2.1 d c d0 y c1; omega
  have : a = b := by
    by_cases za : a = 0 <;> by_cases zb : b = 0
    · omega
    · rw [if_pos za, if_neg zb] at e; have := inj _ _ (by omega) (by omega) (by omega) (by omega) e; omega
    · rw [if_neg za, if_pos zb] at e; have := inj _ _ (by omega) (by omega) (by omega) (by omega) e; omega
    · rw [if_neg za, if_neg zb] at e; have := inj _ _ (by omega) (by omega) (by omega) (by omega) e; omega
  rw [← a2, ← b2, this]
theorem wk_bgm_p1 {m l0 l1 w : Int} {bf : Int → Int} {S : wk_S} (hm : 0 ≤ m ∧ m ≤ 6) (h : tb_p1 m S.2.2) : tb_p1 m (wk_bgm m l0 l1 w bf S) := by
  have key : ∀ i, 0 ≤ i → i < m → ∃ k, (0 ≤ k ∧ k < m) ∧ wk_bgm m l0 l1 w bf S i = S.2.2 k ∧ ((k = i ∧ ¬ (wk_act m w S.1 bf i ∧ wk_chg l0 l1 (wk_num (wk_G m w S.1 i) 6))) ∨ (wk_act m w S.1 bf i ∧ wk_chg l0 l1 (wk_num (wk_G m w S.1 i) 6) ∧ k = wk_prv (wk_G m w S.1 i) i ∧ wk_G m w S.1 i k)) := fun i i0 i1 => by
    unfold wk_bgm
    by_cases z : wk_act m w S.1 bf i ∧ wk_chg l0 l1 (wk_num (wk_G m w S.1 i) 6)
    · have g := wk_prv_in (w := w) (pl := S.1) hm.2 (i := i) ⟨i0, i1, z.1.1, rfl⟩
      exact ⟨_, ⟨g.1, g.2.1⟩, by rw [if_pos z], Or.inr ⟨z.1, z.2, rfl, g⟩⟩
    · exact ⟨i, ⟨i0, i1⟩, by rw [if_neg z], Or.inl ⟨rfl, z⟩⟩
  have geq : ∀ i k, S.1 k = S.1 i → wk_G m w S.1 k = wk_G m w S.1 i := fun i k e => by
    funext j; unfold wk_G; rw [e]
  have act : ∀ i k, S.1 k = S.1 i → wk_tb w k = true → wk_act m w S.1 bf i → (0 ≤ i ∧ i < m) → wk_act m w S.1 bf k := fun i k e hk ha hi => by
    obtain ⟨a1, j, a2, a3⟩ := ha
    refine ⟨hk, ?_⟩
    by_cases z : bf k = bf i
    · exact ⟨j, by rw [geq i k e]; exact a2, by rw [z]; exact a3⟩
    · exact ⟨i, ⟨hi.1, hi.2, a1, e.symm⟩, fun y => z y.symm⟩
  refine tb_p1_of (fun i i0 i1 => ?_) (fun i j i0 i1 j0 j1 e => ?_)
  · obtain ⟨k, k1, k2, -⟩ := key i i0 i1
    rw [k2]; exact h.1 k k1.1 k1.2
  · obtain ⟨k, k1, k2, k3⟩ := key i i0 i1
    obtain ⟨l, l1, l2, l3⟩ := key j j0 j1
    rw [k2, l2] at e
    have ekl := h.2.1 k l k1.1 k1.2 l1.1 l1.2 e
    subst ekl
    rcases k3 with ⟨ki, kn⟩ | ⟨ka, kc, kp, kG⟩ <;> rcases l3 with ⟨li, ln⟩ | ⟨la, lc, lp, lG⟩
    · omega
    · exfalso; subst ki
      exact kn ⟨act j k lG.2.2.2 lG.2.2.1 la ⟨j0, j1⟩, by rw [geq j k lG.2.2.2]; exact lc⟩
    · exfalso; subst li
      exact ln ⟨act i k kG.2.2.2 kG.2.2.1 ka ⟨i0, i1⟩, by rw [geq i k kG.2.2.2]; exact kc⟩
    · have ge : wk_G m w S.1 i = wk_G m w S.1 j := (geq i k kG.2.2.2).symm.trans (geq j k lG.2.2.2)
      rw [← ge] at lp
      exact wk_prv_inj hm (fun x hx hG => by have := hG.2.1; omega) i0 j0 ⟨i0, i1, ka.1, rfl⟩ (by rw [ge]; exact ⟨j0, j1, la.1, rfl⟩) (kp.symm.trans lp)
theorem wk_at_p1 {E m l0 l1 w : Int} {a b c : Int → Int} {S0 : wk_S} (hm : 0 ≤ m ∧ m ≤ 6) (h : tb_p1 m S0.2.2) : ∀ t, tb_p1 m (wk_at E a b c m l0 l1 w S0 t).2.2
  | 0 => h
  | t + 1 => wk_bgm_p1 (S := wk_go E a b c w t (wk_at E a b c m l0 l1 w S0 t)) hm (wk_at_p1 hm h t)
theorem cr_W_p1 {h : ab_H} (hm : 0 ≤ h 1 8 ∧ h 1 8 ≤ 6) (w : Int) (t : Nat) : tb_p1 (h 1 8) (cr_W h w t).2.2 := wk_at_p1 hm ⟨fun i i0 i1 => ⟨i0, i1⟩, fun i j _ _ _ _ e => e, fun b b0 b1 => ⟨b, b0, b1, rfl⟩⟩ t
/-- masks alike for the men -/
theorem wk_G_mask {m w w' : Int} (hw : ∀ j, 0 ≤ j → j < m → wk_tb w j = wk_tb w' j) (pl : Int → Int) (i : Int) : wk_G m w pl i = wk_G m w' pl i := by
  funext j
  unfold wk_G
  exact propext ⟨fun z => ⟨z.1, z.2.1, (hw j z.1 z.2.1) ▸ z.2.2.1, z.2.2.2⟩, fun z => ⟨z.1, z.2.1, (hw j z.1 z.2.1).symm ▸ z.2.2.1, z.2.2.2⟩⟩
theorem wk_act_mask {m w w' : Int} (hw : ∀ j, 0 ≤ j → j < m → wk_tb w j = wk_tb w' j) (pl bf : Int → Int) {i : Int} (hi : 0 ≤ i ∧ i < m) : wk_act m w pl bf i = wk_act m w' pl bf i := by
  unfold wk_act wk_new
  rw [wk_G_mask hw, hw i hi.1 hi.2]
theorem wk_go_mask {m E w w' t : Int} {a b c : Int → Int} (hw : ∀ j, 0 ≤ j → j < m → wk_tb w j = wk_tb w' j) (S : wk_S) : wk_eq m (wk_go E a b c w t S) (wk_go E a b c w' t S) := by
  intro j j0 j1
  unfold wk_go
  dsimp only
  rw [hw j j0 j1]
  exact ⟨rfl, rfl, rfl⟩
theorem wk_meet_mask {m l0 l1 w w' : Int} {bf : Int → Int} (hw : ∀ j, 0 ≤ j → j < m → wk_tb w j = wk_tb w' j) (S : wk_S) : wk_eq m (wk_meet m l0 l1 w bf S) (wk_meet m l0 l1 w' bf S) := by
  intro j j0 j1
  refine ⟨rfl, ?_, ?_⟩
  · show wk_fcm m l0 l1 w bf S j = wk_fcm m l0 l1 w' bf S j
    unfold wk_fcm
    rw [wk_act_mask hw S.1 bf ⟨j0, j1⟩, wk_G_mask hw]
  · show wk_bgm m l0 l1 w bf S j = wk_bgm m l0 l1 w' bf S j
    unfold wk_bgm
    rw [wk_act_mask hw S.1 bf ⟨j0, j1⟩, wk_G_mask hw]
theorem wk_at_mask {E m l0 l1 w w' : Int} {a b c : Int → Int} {S0 : wk_S} (hm : m ≤ 6) (hw : ∀ j, 0 ≤ j → j < m → wk_tb w j = wk_tb w' j) : ∀ t, wk_eq m (wk_at E a b c m l0 l1 w S0 t) (wk_at E a b c m l0 l1 w' S0 t)
  | 0 => fun _ _ _ => ⟨rfl, rfl, rfl⟩
  | t + 1 => ((wk_step_congr hm (wk_at_mask hm hw t) (fun _ _ _ => ⟨rfl, rfl, rfl⟩)).trans (wk_meet_congr hm (wk_go_mask hw _) (fun _ _ _ => rfl))).trans (wk_meet_mask hw _)
theorem wk_mt_mask {E m l0 l1 w w' : Int} {a b c : Int → Int} {S0 : wk_S} (hm : m ≤ 6) (hw : ∀ j, 0 ≤ j → j < m → wk_tb w j = wk_tb w' j) (t : Nat) {i : Int} (hi : 0 ≤ i ∧ i < m) (j : Int) : wk_mt E a b c m l0 l1 w S0 t i j ↔ wk_mt E a b c m l0 l1 w' S0 t i j := by
  cases t with
  | zero => exact Iff.rfl
  | succ t =>
    show wk_met _ _ _ _ _ _ ↔ wk_met _ _ _ _ _ _
    have e := wk_at_mask (E := E) (l0 := l0) (l1 := l1) (a := a) (b := b) (c := c) (S0 := S0) hm hw t
    rw [wk_met_congr ((wk_go_congr e (fun _ _ _ => ⟨rfl, rfl, rfl⟩)).trans (wk_go_mask hw _)) (fun j j0 j1 => (e j j0 j1).1) hi]
    unfold wk_met
    rw [wk_act_mask hw _ _ hi, wk_G_mask hw]
