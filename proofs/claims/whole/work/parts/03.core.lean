/-! THE ABSTRACT LAYER: a fixed world of 82 cells (0..61 the class's, 62..81 the reference's), ints and longs as Int -/
def ab_nth {α : Type} : List α → Nat → Option α
  | [], _ => none
  | a :: _, 0 => some a
  | _ :: l, n + 1 => ab_nth l n
def ab_set {α : Type} : List α → Nat → α → List α
  | [], _, _ => []
  | _ :: l, 0, v => v :: l
  | a :: l, n + 1, v => a :: ab_set l n v
theorem ab_nth_set_ne {α : Type} (v : α) : ∀ (l : List α) (i j : Nat), j ≠ i → ab_nth (ab_set l i v) j = ab_nth l j
  | [], _, _, _ => rfl
  | _ :: _, 0, 0, h => absurd rfl h
  | _ :: _, 0, _ + 1, _ => rfl
  | _ :: _, _ + 1, 0, _ => rfl
  | _ :: l, i + 1, j + 1, h => ab_nth_set_ne v l i j (fun q => h (by rw [q]))
theorem ab_nth_set_eq {α : Type} {v w : α} : ∀ (l : List α) (i : Nat), ab_nth (ab_set l i v) i = some w → w = v
  | [], _, h => by cases h
  | _ :: _, 0, h => by cases h; rfl
  | _ :: l, i + 1, h => ab_nth_set_eq l i h
abbrev ab_V : Type := Int ⊕ (Int ⊕ Nat)
abbrev a_I (z : Int) : ab_V := Sum.inl z
abbrev a_L (z : Int) : ab_V := Sum.inr (Sum.inl z)
abbrev a_R (k : Nat) : ab_V := Sum.inr (Sum.inr k)
/-- a heap: cell, place (a field's number, an index), number -/
abbrev ab_H : Type := Nat → Int → Int
/-- launch, addresses, classes, array classes (int, boolean, long, int[]), the script -/
abbrev ab_G : Type := Launch × (Nat → Nat) × va_G × (Nat → ClassId) × (Nat × (Nat → Int32))
def ab_cv (g : ab_G) : ab_V → Value
  | .inl z => .int (Int32.ofInt z)
  | .inr (.inl z) => .long (Int64.ofInt z)
  | .inr (.inr k) => .ref (g.2.1 k)
def ab_kdL : List (Nat ⊕ (Nat × Nat)) := [.inl 6, .inl 2, .inr (0, 80), .inr (0, 6), .inr (0, 6), .inr (0, 6), .inr (0, 6), .inl 4, .inr (0, 6), .inr (0, 6),
  .inl 5, .inr (0, 6), .inr (0, 6), .inr (0, 6), .inr (0, 6), .inr (0, 6), .inr (0, 6), .inr (0, 6),
  .inl 0, .inr (3, 6), .inr (3, 6), .inr (3, 6), .inr (3, 6), .inr (2, 401),
  .inl 1, .inr (0, 12), .inr (0, 12), .inr (0, 12), .inr (0, 12), .inr (0, 12),
  .inl 3, .inr (3, 4), .inr (0, 4), .inr (0, 4),
  .inr (0, 401), .inr (0, 401), .inr (0, 401), .inr (0, 401), .inr (0, 401), .inr (0, 401), .inr (0, 401), .inr (0, 401), .inr (0, 401), .inr (0, 401), .inr (0, 401), .inr (0, 401),
  .inr (0, 401), .inr (0, 401), .inr (0, 401), .inr (0, 401), .inr (0, 401), .inr (0, 401), .inr (0, 401), .inr (0, 401), .inr (0, 401), .inr (0, 401), .inr (0, 401), .inr (0, 401),
  .inr (0, 60), .inr (0, 60), .inr (0, 60), .inr (0, 60),
  .inl 7, .inr (0, 4), .inr (0, 4), .inr (0, 240), .inr (0, 60), .inr (0, 80), .inr (0, 6), .inr (0, 6), .inr (0, 6), .inr (0, 6), .inr (0, 2), .inr (0, 6), .inr (0, 6),
  .inr (0, 2406), .inr (0, 2406), .inr (0, 2406), .inr (1, 14436), .inr (0, 6), .inr (0, 401), .inr (0, 48)]
def ab_kd (k : Nat) : Option (Nat ⊕ (Nat × Nat)) := ab_nth ab_kdL k
def ab_rfL : List (List (Option Nat)) := [[some 1, some 7, some 10, some 18, some 24, some 30], [some 2, some 3, some 4, some 5, some 6], [], [], [], [], [], [some 8, some 9], [], [],
  [some 11, some 12, some 13, some 14, some 15, some 16, some 17], [], [], [], [], [], [], [],
  [some 19, some 20, some 21, some 22, some 23], [some 34, some 35, some 36, some 37, some 38, some 39], [some 40, some 41, some 42, some 43, some 44, some 45], [some 46, some 47, some 48, some 49, some 50, some 51], [some 52, some 53, some 54, some 55, some 56, some 57], [],
  [some 25, some 26, some 27, some 28, some 29], [], [], [], [], [],
  [some 31, some 32, some 33], [some 58, some 59, some 60, some 61], [], [],
  [], [], [], [], [], [], [], [], [], [], [], [], [], [], [], [], [], [], [], [], [], [], [], [], [], [], [], [],
  [some 63, some 64, some 65, some 66, none, some 67, none, none, none, none, some 68, some 69, some 70, none, some 71, some 72, some 73, some 74, none, some 75, some 76, some 77, some 78, some 79, some 80, none, none, none, some 81]]
def ab_rf (k j : Nat) : Option Nat := match ab_nth ab_rfL k with
  | some l => match ab_nth l j with
    | some (some r) => some r
    | _ => none
  | none => none
/-- fields of type long: Walk.pairs -/
def ab_lg (ci j : Nat) : Bool := ci == 5 && j == 13
def ab_nf (ci : Nat) : Nat := (ab_nth [6, 7, 10, 3, 4, 14, 8, 29] ci).getD 0
def ab_fv (g : ab_G) (h : ab_H) (k ci j : Nat) : Value := match ab_rf k j with
  | some r => .ref (g.2.1 r)
  | none => if ab_lg ci j = true then .long (Int64.ofInt (h k j)) else .int (Int32.ofInt (h k j))
def ab_ce (g : ab_G) (h : ab_H) (k : Nat) : va_E := match ab_kd k with
  | some (.inl ci) => .inr (ci, (List.range (ab_nf ci)).map (ab_fv g h k ci))
  | some (.inr (0, n)) => .inl (g.2.2.2.1 0, n, .inl (fun j => Int32.ofInt (h k j)))
  | some (.inr (1, n)) => .inl (g.2.2.2.1 1, n, .inl (fun j => Int32.ofInt (h k j)))
  | some (.inr (2, n)) => .inl (g.2.2.2.1 2, n, .inr (.inl (fun j => Int64.ofInt (h k j))))
  | some (.inr (_, n)) => .inl (g.2.2.2.1 3, n, .inr (.inr (.inr (.inr (fun j => (ab_rf k j).map g.2.1)))))
  | none => .inr (0, [])
def ab_ws (g : ab_G) (h : ab_H) : va_W := (List.range 82).map (fun k => (g.2.1 k, ab_ce g h k))
abbrev ab_ty (g : ab_G) : List (ClassId × FieldType) := [(g.2.2.2.1 0, .int), (g.2.2.2.1 1, .boolean), (g.2.2.2.1 2, .long), (g.2.2.2.1 3, .array .int)]
/-- one number of the heap is another -/
def ab_hs (h : ab_H) (k : Nat) (i v : Int) : ab_H := fun a b => if a = k ∧ b = i then v else h a b
theorem ab_hs_ne {h : ab_H} {k a : Nat} {i v b : Int} (n : ¬ (a = k ∧ b = i)) : ab_hs h k i v a b = h a b := if_neg n
theorem ab_hs_k {h : ab_H} {k a : Nat} {i v b : Int} (n : a ≠ k) : ab_hs h k i v a b = h a b := if_neg (fun q => n q.1)
theorem ab_hs_i {h : ab_H} {k a : Nat} {i v b : Int} (n : b ≠ i) : ab_hs h k i v a b = h a b := if_neg (fun q => n q.2)
theorem ab_hs_eq {h : ab_H} {k : Nat} {i v : Int} : ab_hs h k i v k i = v := if_pos ⟨rfl, rfl⟩
theorem ab_fv_ne {g : ab_G} {h h' : ab_H} {k : Nat} (e : ∀ b, h' k b = h k b) (ci j : Nat) : ab_fv g h' k ci j = ab_fv g h k ci j := by
  unfold ab_fv
  rw [e]
theorem ab_ce_ne {g : ab_G} {h h' : ab_H} {k : Nat} (e : ∀ b, h' k b = h k b) : ab_ce g h' k = ab_ce g h k := by
  have e1 : ab_fv g h' k = ab_fv g h k := by funext ci j; exact ab_fv_ne e ci j
  have e2 : h' k = h k := funext e
  unfold ab_ce
  rw [e1, e2]
theorem ab_ws_at {g : ab_G} {h : ab_H} {k : Nat} (hk : k < 82) : (ab_ws g h)[k]? = some (g.2.1 k, ab_ce g h k) := by
  unfold ab_ws
  rw [List.getElem?_map, List.getElem?_range hk]
  rfl
theorem ab_ws_set {g : ab_G} {h h' : ab_H} {k : Nat} (hk : k < 82) (e : ∀ a, a ≠ k → ∀ b, h' a b = h a b) : (ab_ws g h).set k (g.2.1 k, ab_ce g h' k) = ab_ws g h' := by
  apply List.ext_getElem?
  intro i
  by_cases hi : i < 82
  · rw [ab_ws_at hi]
    by_cases hik : i = k
    · subst hik
      rw [List.getElem?_set_self (by simp [ab_ws]; exact hk)]
    · rw [List.getElem?_set_ne (Ne.symm hik), ab_ws_at hi, ab_ce_ne (e i hik)]
  · rw [List.getElem?_eq_none (by simp [ab_ws]; omega), List.getElem?_eq_none (by simp [ab_ws]; omega)]
theorem ab_kd_lt {k : Nat} {q : Nat ⊕ (Nat × Nat)} (h : ab_kd k = some q) : k < 82 := by
  have key : ∀ {α : Type} (l : List α) (n : Nat) (a : α), ab_nth l n = some a → n < l.length := by
    intro α l
    induction l with
    | nil => intro n a h; cases h
    | cons b l ih =>
      intro n a h
      cases n with
      | zero => simp
      | succ n => have := ih n a h; simp; omega
  exact key ab_kdL k q h
/-- what fits -/
def ab_iok (z : Int) : Prop := -2147483648 ≤ z ∧ z ≤ 2147483647
def ab_lok (z : Int) : Prop := -9223372036854775808 ≤ z ∧ z ≤ 9223372036854775807
def ab_isL (k : Nat) (i : Int) : Prop := (k = 10 ∧ i = 13) ∨ k = 23
def ab_okH (h : ab_H) : Prop := (∀ k i, ab_lok (h k i)) ∧ ∀ k i, ¬ ab_isL k i → ab_iok (h k i)
def ab_okV : ab_V → Prop
  | .inl z => ab_iok z
  | .inr (.inl z) => ab_lok z
  | .inr (.inr _) => True
def ab_okS (ρ : List (Option ab_V)) (st : List ab_V) (h : ab_H) : Prop := ab_okH h ∧ (∀ v ∈ st, ab_okV v) ∧ ∀ k v, ab_nth ρ k = some (some v) → ab_okV v
theorem ab_okS.top {ρ : List (Option ab_V)} {st : List ab_V} {v : ab_V} {h : ab_H} (q : ab_okS ρ (v :: st) h) : ab_okV v := q.2.1 v List.mem_cons_self
theorem ab_okS.tl {ρ : List (Option ab_V)} {st : List ab_V} {v : ab_V} {h : ab_H} (q : ab_okS ρ (v :: st) h) : ab_okS ρ st h := ⟨q.1, fun w hw => q.2.1 w (List.mem_cons_of_mem _ hw), q.2.2⟩
theorem ab_okS.cons {ρ : List (Option ab_V)} {st : List ab_V} {v : ab_V} {h : ab_H} (q : ab_okS ρ st h) (hv : ab_okV v) : ab_okS ρ (v :: st) h := ⟨q.1, fun w hw => (List.mem_cons.mp hw).elim (fun e => e ▸ hv) (q.2.1 w), q.2.2⟩
theorem ab_okS.hp {ρ : List (Option ab_V)} {st : List ab_V} {h h' : ab_H} (q : ab_okS ρ st h) (hh : ab_okH h') : ab_okS ρ st h' := ⟨hh, q.2.1, q.2.2⟩
theorem ab_okS.loc {ρ : List (Option ab_V)} {st : List ab_V} {h : ab_H} (q : ab_okS ρ st h) {i : Nat} {w : Option ab_V} (hw : ∀ v, w = some v → ab_okV v) : ab_okS (ab_set ρ i w) st h := by
  refine ⟨q.1, q.2.1, fun k v hk => ?_⟩
  by_cases e : k = i
  · subst e
    exact hw v (ab_nth_set_eq _ _ hk).symm
  · rw [ab_nth_set_ne _ _ _ _ e] at hk
    exact q.2.2 k v hk
theorem ab_okH.set {h : ab_H} (q : ab_okH h) {k : Nat} {i v : Int} (hv : ab_iok v) : ab_okH (ab_hs h k i v) := by
  refine ⟨fun a b => ?_, fun a b hn => ?_⟩ <;> unfold ab_hs <;> split
  · unfold ab_iok at hv; unfold ab_lok; omega
  · exact q.1 a b
  · exact hv
  · exact q.2 a b hn
theorem ab_okH.setL {h : ab_H} (q : ab_okH h) {k : Nat} {i v : Int} (hk : ab_isL k i) (hv : ab_lok v) : ab_okH (ab_hs h k i v) := by
  refine ⟨fun a b => ?_, fun a b hn => ?_⟩ <;> unfold ab_hs <;> split
  · exact hv
  · exact q.1 a b
  · rename_i e; exact absurd (e.1 ▸ e.2 ▸ hk) hn
  · exact q.2 a b hn
theorem ab_ti {z : Int} (h : ab_iok z) : (Int32.ofInt z).toInt = z := Int32.toInt_ofInt_of_le (by have := h.1; omega) (by have := h.2; omega)
theorem ab_tl {z : Int} (h : ab_lok z) : (Int64.ofInt z).toInt = z := Int64.toInt_ofInt_of_le (by have := h.1; omega) (by have := h.2; omega)
theorem ab_lt {x y : Int} (hx : ab_iok x) (hy : ab_iok y) : Int32.ofInt x < Int32.ofInt y ↔ x < y := by rw [Int32.lt_iff_toInt_lt, ab_ti hx, ab_ti hy]
theorem ab_le {x y : Int} (hx : ab_iok x) (hy : ab_iok y) : Int32.ofInt x ≤ Int32.ofInt y ↔ x ≤ y := by rw [Int32.le_iff_toInt_le, ab_ti hx, ab_ti hy]
theorem ab_eq {x y : Int} (hx : ab_iok x) (hy : ab_iok y) : Int32.ofInt x = Int32.ofInt y ↔ x = y := by rw [← Int32.toInt_inj, ab_ti hx, ab_ti hy]
theorem ab_iok0 : ab_iok 0 := by unfold ab_iok; omega
theorem ab_okI (x : Int32) : ab_iok x.toInt := by
  have h1 := x.toInt_lt
  have h2 := x.le_toInt
  unfold ab_iok
  omega
theorem ab_okL (x : Int64) : ab_lok x.toInt := by
  have h1 := x.toInt_lt
  have h2 := x.le_toInt
  unfold ab_lok
  omega
theorem ab_in {i : Int} {n : Nat} (h0 : 0 ≤ i) (h1 : i < n) (hn : n < 2147483648) : vp_in (Int32.ofInt i) n ∧ (Int32.ofInt i).toNatClampNeg = i.toNat := by
  have hk : ab_iok i := by unfold ab_iok; omega
  have e : (Int32.ofInt i).toNatClampNeg = i.toNat := by
    show (Int32.ofInt i).toInt.toNat = _
    rw [ab_ti hk]
  refine ⟨?_, e⟩
  rintro (q | q)
  · have : Int32.ofInt i < Int32.ofInt 0 := q
    rw [ab_lt hk ab_iok0] at this
    omega
  · rw [e] at q
    omega
/-- the locals -/
def ab_lr (g : ab_G) (ls : Array Slot) (n : Nat) (ρ : List (Option ab_V)) : Prop := ls.size = n ∧ lv_wf ls ∧ ∀ k v, ab_nth ρ k = some (some v) → ls[k]? = some (.val (ab_cv g v))
def ab_ll (g : ab_G) (ρ : List (Option ab_V)) : List (Nat × Value) := (List.range ρ.length).filterMap (fun k => match ab_nth ρ k with
  | some (some v) => some (k, ab_cv g v)
  | _ => none)
theorem ab_ll_mem {g : ab_G} {ρ : List (Option ab_V)} {q : Nat × Value} : q ∈ ab_ll g ρ ↔ ∃ v, ab_nth ρ q.1 = some (some v) ∧ q.2 = ab_cv g v := by
  have key : ∀ {α : Type} (l : List α) (n : Nat) (a : α), ab_nth l n = some a → n < l.length := by
    intro α l
    induction l with
    | nil => intro n a h; cases h
    | cons b l ih =>
      intro n a h
      cases n with
      | zero => simp
      | succ n => have := ih n a h; simp; omega
  unfold ab_ll
  rw [List.mem_filterMap]
  constructor
  · rintro ⟨k, -, hk⟩
    split at hk
    · rename_i v hv
      cases hk
      exact ⟨v, hv, rfl⟩
    · cases hk
  · rintro ⟨v, h1, h2⟩
    refine ⟨q.1, List.mem_range.mpr (key _ _ _ h1), ?_⟩
    rw [h1]
    obtain ⟨a, b⟩ := q
    cases h2
    rfl
theorem ab_lr.has {g : ab_G} {ls : Array Slot} {n : Nat} {ρ : List (Option ab_V)} (h : ab_lr g ls n ρ) : lv_has ls n (ab_ll g ρ) := by
  refine ⟨h.1, h.2.1, fun q hq => ?_⟩
  obtain ⟨v, h1, h2⟩ := ab_ll_mem.mp hq
  rw [h2]
  exact h.2.2 _ v h1
/-- the place ahead holds no long -/
def ab_free (ρ : List (Option ab_V)) : Nat → Bool
  | 0 => true
  | i + 1 => match ab_nth ρ i with
    | some (some (.inr (.inl _))) => false
    | _ => true
theorem ab_cat1 {g : ab_G} {v : ab_V} (h : (ab_cv g v).category = 2) : ∃ z, v = a_L z := by
  rcases v with z | z | k
  · cases h
  · exact ⟨z, rfl⟩
  · cases h
theorem ab_free_ne {g : ab_G} {ρ : List (Option ab_V)} {i k : Nat} {v : ab_V} (hf : ab_free ρ i = true) (hk : ab_nth ρ k = some (some v)) (e : k + 1 = i) : ¬ (ab_cv g v).category = 2 := by
  intro hc
  obtain ⟨z, rfl⟩ := ab_cat1 hc
  subst e
  simp only [ab_free, hk] at hf
  cases hf
theorem ab_lr.set1 {g : ab_G} {ls : Array Slot} {n i : Nat} {ρ : List (Option ab_V)} {w : ab_V} (hf : ab_free ρ i = true) (h : lv_has ls n ((i, ab_cv g w) :: (ab_ll g ρ).filter (fun q => !(q.1 == i) && !(q.1 + 1 == i && q.2.category == 2)))) : ab_lr g ls n (ab_set ρ i (some w)) := by
  refine ⟨h.1, h.2.1, fun k v hk => ?_⟩
  by_cases e : k = i
  · subst e
    have := ab_nth_set_eq _ _ hk
    cases this
    exact h.2.2 (k, ab_cv g w) List.mem_cons_self
  · rw [ab_nth_set_ne _ _ _ _ e] at hk
    refine h.2.2 (k, ab_cv g v) (List.mem_cons_of_mem _ (List.mem_filter.mpr ⟨ab_ll_mem.mpr ⟨v, hk, rfl⟩, ?_⟩))
    simp only [Bool.and_eq_true, Bool.not_eq_true', beq_eq_false_iff_ne, ne_eq, Bool.and_eq_false_iff]
    refine ⟨e, ?_⟩
    by_cases e2 : k + 1 = i
    · exact Or.inr (ab_free_ne hf hk e2)
    · exact Or.inl e2
theorem ab_lr.set2 {g : ab_G} {ls : Array Slot} {n i : Nat} {ρ : List (Option ab_V)} {w : ab_V} (hf : ab_free ρ i = true) (h : lv_has ls n ((i, ab_cv g w) :: (ab_ll g ρ).filter (fun q => !(q.1 == i) && (!(q.1 == i + 1) && !(q.1 + 1 == i && q.2.category == 2))))) : ab_lr g ls n (ab_set (ab_set ρ (i + 1) none) i (some w)) := by
  refine ⟨h.1, h.2.1, fun k v hk => ?_⟩
  by_cases e : k = i
  · subst e
    have := ab_nth_set_eq _ _ hk
    cases this
    exact h.2.2 (k, ab_cv g w) List.mem_cons_self
  · rw [ab_nth_set_ne _ _ _ _ e] at hk
    by_cases e1 : k = i + 1
    · subst e1
      have := ab_nth_set_eq _ _ hk
      cases this
    · rw [ab_nth_set_ne _ _ _ _ e1] at hk
      refine h.2.2 (k, ab_cv g v) (List.mem_cons_of_mem _ (List.mem_filter.mpr ⟨ab_ll_mem.mpr ⟨v, hk, rfl⟩, ?_⟩))
      simp only [Bool.and_eq_true, Bool.not_eq_true', beq_eq_false_iff_ne, ne_eq, Bool.and_eq_false_iff]
      refine ⟨e, e1, ?_⟩
      by_cases e2 : k + 1 = i
      · exact Or.inr (ab_free_ne hf hk e2)
      · exact Or.inl e2
/-- the words: those that travel, and the nest's -/
def ab_tb : List Cond := lw_tbl.filter goodWord
def ab_isN : Cond → Bool
  | .fieldLinkNest .. => true
  | .methodLinkNest .. => true
  | _ => false
def ab_nw : List Cond := lw_tbl.filter ab_isN
theorem ab_tb_in {i : Nat} {w : Cond} (h : tables_1[i]? = some w) (hw : goodWord w = true) : w ∈ ab_tb := List.mem_filter.mpr ⟨List.mem_append_right _ (List.mem_of_getElem? h), hw⟩
theorem ab_nw_in {i : Nat} {w : Cond} (h : tables_1[i]? = some w) (hw : ab_isN w = true) : w ∈ ab_nw := List.mem_filter.mpr ⟨List.mem_append_right _ (List.mem_of_getElem? h), hw⟩
theorem ab_sel_in {i : Nat} {q : MethodName × Nat} (h : lw_privs[i]? = some q) (hw : goodWord (Cond.selects q.1.cls q.1 q.1) = true) : Cond.selects q.1.cls q.1 q.1 ∈ ab_tb := List.mem_filter.mpr ⟨List.mem_append_left _ (List.mem_map.mpr ⟨q, List.mem_of_getElem? h, rfl⟩), hw⟩
/-- a method: name, code, locals, what it returns, how many parameters, its instructions by their places -/
abbrev ab_M : Type := MethodName × ByteArray × Nat × Option FieldType × Nat × List (Option (Instr × Nat))
def ab_DOk (M : ab_M) : Prop := ∀ pc i len, ab_nth M.2.2.2.2.2 pc = some (some (i, len)) → decode M.2.1 pc = .ok (i, len)
def ab_MOk (M : ab_M) : Prop := Cond.code M.1 M.2.1 M.2.2.1 M.2.2.2.1 ∈ ab_tb ∧ plainName M.1.cls = true ∧ (M.1.cls ≠ "java/lang/invoke/MethodHandle" ∧ M.1.cls ≠ "java/lang/invoke/VarHandle" ∧ (parseMethodDescriptor M.1.desc).map (fun d => d.parameters.length) = some M.2.2.2.2.1) ∧ M.2.2.1 ≤ 16 ∧ Cond.initialized M.1.cls ∈ ab_tb ∧ M.1.cls ≠ "PostmenMeetLaw" ∧ ab_DOk M
def ab_chk (b : ByteArray) : Nat → List (Option (Instr × Nat)) → Bool
  | _, [] => true
  | pc, none :: l => ab_chk b (pc + 1) l
  | pc, some q :: l => (match decode b pc with
    | .ok r => decide (r = q)
    | .error _ => false) && ab_chk b (pc + 1) l
theorem ab_chk_ok {b : ByteArray} : ∀ (l : List (Option (Instr × Nat))) (p0 pc : Nat) (i : Instr) (len : Nat), ab_chk b p0 l = true → ab_nth l pc = some (some (i, len)) → decode b (p0 + pc) = .ok (i, len)
  | [], _, _, _, _, _, h => by cases h
  | none :: l, p0, 0, _, _, _, h => by cases h
  | none :: l, p0, pc + 1, i, len, hc, h => by
    have := ab_chk_ok l (p0 + 1) pc i len hc h
    rw [show p0 + (pc + 1) = p0 + 1 + pc by omega]
    exact this
  | some q :: l, p0, 0, i, len, hc, h => by
    cases h
    simp only [ab_chk, Bool.and_eq_true] at hc
    have h1 := hc.1
    show decode b p0 = _
    split at h1
    · rename_i r hr
      rw [hr, of_decide_eq_true h1]
    · cases h1
  | some q :: l, p0, pc + 1, i, len, hc, h => by
    simp only [ab_chk, Bool.and_eq_true] at hc
    have := ab_chk_ok l (p0 + 1) pc i len hc.2 h
    rw [show p0 + (pc + 1) = p0 + 1 + pc by omega]
    exact this
theorem ab_DOk.of {M : ab_M} (h : ab_chk M.2.1 0 M.2.2.2.2.2 = true) : ab_DOk M := fun pc i len hn => by
  have := ab_chk_ok _ 0 pc i len h hn
  rw [Nat.zero_add] at this
  exact this
