/-! fields, arrays -/
theorem ab_cls0 : (∀ w ∈ u_ws RX0 TX0 6, w ∈ tables_1 ∧ goodWord w = true) ∧ (∀ w ∈ u_ws RX1 TX1 7, w ∈ tables_1 ∧ goodWord w = true) ∧ (∀ w ∈ u_ws RX2 TX2 10, w ∈ tables_1 ∧ goodWord w = true) ∧ (∀ w ∈ u_ws RX3 TX3 3, w ∈ tables_1 ∧ goodWord w = true) := by decide +kernel
theorem ab_cls1 : (∀ w ∈ u_ws RX4 TX4 4, w ∈ tables_1 ∧ goodWord w = true) ∧ (∀ w ∈ u_ws RX5 TX5 14, w ∈ tables_1 ∧ goodWord w = true) ∧ (∀ w ∈ u_ws RX6 TX6 8, w ∈ tables_1 ∧ goodWord w = true) := by decide +kernel
theorem ab_cls2 : (∀ w ∈ u_ws RX7 TX7 29, w ∈ tables_1 ∧ goodWord w = true) := by decide +kernel
theorem ab_tbm {ws : List Cond} (h : ∀ w ∈ ws, w ∈ tables_1 ∧ goodWord w = true) : ∀ w ∈ ws, w ∈ ab_tb := fun w hw => List.mem_filter.mpr ⟨List.mem_append_right _ (h w hw).1, (h w hw).2⟩
def ab_CF (C : String) (T : u_T) (N : Nat) : Prop := (∀ w ∈ u_ws C T N, w ∈ ab_tb) ∧ (∃ ty0 : Nat → FieldType, ∀ k, k < N → parseFieldDescriptor (T k).2.2.1 = some (ty0 k)) ∧ ∀ a, a < N → ∀ b, b < N → a ≠ b → (T a).2.1 ≠ (T b).2.1
theorem ab_cls {ci : Nat} {C : String} {T : u_T} {N : Nat} (h : vwCl[ci]? = some (C, T, N)) : ab_CF C T N ∧ ab_nf ci = N := by
  match ci, h with
  | 0, h => cases h; exact ⟨⟨ab_tbm ab_cls0.1, ⟨_, tyX0_ok⟩, nmX0⟩, rfl⟩
  | 1, h => cases h; exact ⟨⟨ab_tbm ab_cls0.2.1, ⟨_, tyX1_ok⟩, nmX1⟩, rfl⟩
  | 2, h => cases h; exact ⟨⟨ab_tbm ab_cls0.2.2.1, ⟨_, tyX2_ok⟩, nmX2⟩, rfl⟩
  | 3, h => cases h; exact ⟨⟨ab_tbm ab_cls0.2.2.2, ⟨_, tyX3_ok⟩, nmX3⟩, rfl⟩
  | 4, h => cases h; exact ⟨⟨ab_tbm ab_cls1.1, ⟨_, tyX4_ok⟩, nmX4⟩, rfl⟩
  | 5, h => cases h; exact ⟨⟨ab_tbm ab_cls1.2.1, ⟨_, tyX5_ok⟩, nmX5⟩, rfl⟩
  | 6, h => cases h; exact ⟨⟨ab_tbm ab_cls1.2.2, ⟨_, tyX6_ok⟩, nmX6⟩, rfl⟩
  | 7, h => cases h; exact ⟨⟨ab_tbm ab_cls2, ⟨_, tyX7_ok⟩, nmX7⟩, rfl⟩
  | k + 8, h => simp [vwCl] at h
def ab_FL (own : String) (idx ci j : Nat) (jz : Int) (ds : String) (fin : Bool) : Prop := ∃ (C : String) (T : u_T) (N : Nat), vwCl[ci]? = some (C, T, N) ∧ j < N ∧ (j : Int) = jz ∧ (T j).2.2.1 = ds ∧ (T j).2.2.2 = fin ∧
  (Cond.fieldLink own idx (T j).1 (T j).2.1 (T j).2.2.1 ∈ ab_tb ∨ ∃ host, Cond.fieldLinkNest own idx (T j).1 (T j).2.1 (T j).2.2.1 host ∈ ab_nw)
theorem ab_ce_o {g : ab_G} {h : ab_H} {k ci : Nat} (hk : ab_kd k = some (.inl ci)) : ab_ce g h k = .inr (ci, (List.range (ab_nf ci)).map (ab_fv g h k ci)) := by
  unfold ab_ce
  rw [hk]
theorem ab_ce_i {g : ab_G} {h : ab_H} {k n : Nat} (hk : ab_kd k = some (.inr (0, n))) : ab_ce g h k = .inl (g.2.2.2.1 0, n, .inl (fun j => Int32.ofInt (h k j))) := by
  unfold ab_ce
  rw [hk]
  rfl
theorem ab_ce_z {g : ab_G} {h : ab_H} {k n : Nat} (hk : ab_kd k = some (.inr (1, n))) : ab_ce g h k = .inl (g.2.2.2.1 1, n, .inl (fun j => Int32.ofInt (h k j))) := by
  unfold ab_ce
  rw [hk]
  rfl
theorem ab_ce_l {g : ab_G} {h : ab_H} {k n : Nat} (hk : ab_kd k = some (.inr (2, n))) : ab_ce g h k = .inl (g.2.2.2.1 2, n, .inr (.inl (fun j => Int64.ofInt (h k j)))) := by
  unfold ab_ce
  rw [hk]
  rfl
theorem ab_ce_r {g : ab_G} {h : ab_H} {k n : Nat} (hk : ab_kd k = some (.inr (3, n))) : ab_ce g h k = .inl (g.2.2.2.1 3, n, .inr (.inr (.inr (.inr (fun j => (ab_rf k j).map g.2.1))))) := by
  unfold ab_ce
  rw [hk]
  rfl
theorem ab_kd_n {k t n : Nat} (hk : ab_kd k = some (.inr (t, n))) : n < 2147483648 := by
  have key : ∀ (l : List (Nat ⊕ (Nat × Nat))) (i : Nat) (q : Nat ⊕ (Nat × Nat)), ab_nth l i = some q → q ∈ l := by
    intro l
    induction l with
    | nil => intro i q h; cases h
    | cons b l ih =>
      intro i q h
      cases i with
      | zero => cases h; exact List.mem_cons_self
      | succ i => exact List.mem_cons_of_mem _ (ih i q h)
  have all : ∀ q ∈ ab_kdL, (match q with | .inl _ => true | .inr (_, n) => decide (n < 2147483648)) = true := by decide
  have := all _ (key _ _ _ hk)
  simpa using this
theorem ab_nL_o {k ci j : Nat} (hk : ab_kd k = some (.inl ci)) (hlg : ab_lg ci j = false) : ¬ ab_isL k (j : Int) := by
  rintro (⟨q1, q2⟩ | q1)
  · subst q1
    cases hk
    have : j = 13 := by omega
    subst this
    cases hlg
  · subst q1
    cases hk
theorem ab_nL_a {k t n : Nat} {i : Int} (hk : ab_kd k = some (.inr (t, n))) (ht : t ≠ 2) : ¬ ab_isL k i := by
  rintro (⟨q1, -⟩ | q1)
  · subst q1
    cases hk
  · subst q1
    cases hk
    exact ht rfl
theorem ab_L_a {k n : Nat} {i : Int} (hk : ab_kd k = some (.inr (2, n))) : ab_isL k i := by
  have all : ∀ k, k < 82 → k ≠ 23 → (match ab_kd k with | some (.inr (2, _)) => true | _ => false) = false := by decide
  by_cases e : k = 23
  · exact Or.inr e
  · have := all k (ab_kd_lt hk) e
    rw [hk] at this
    cases this
theorem ab_fv_r {g : ab_G} {h : ab_H} {k ci j r : Nat} (hr : ab_rf k j = some r) : ab_fv g h k ci j = .ref (g.2.1 r) := by unfold ab_fv; rw [hr]
theorem ab_fv_i {g : ab_G} {h : ab_H} {k ci j : Nat} (hr : ab_rf k j = none) (hl : ab_lg ci j = false) : ab_fv g h k ci j = .int (Int32.ofInt (h k j)) := by unfold ab_fv; rw [hr, hl]; rfl
theorem ab_fv_l {g : ab_G} {h : ab_H} {k ci j : Nat} (hr : ab_rf k j = none) (hl : ab_lg ci j = true) : ab_fv g h k ci j = .long (Int64.ofInt (h k j)) := by unfold ab_fv; rw [hr, hl]; rfl
theorem ab_fs_set {g : ab_G} {h h' : ab_H} {k ci j n : Nat} {v : Value} (hv : ab_fv g h' k ci j = v) (ho : ∀ i : Nat, i ≠ j → h' k i = h k i) : ((List.range n).map (ab_fv g h k ci)).set j v = (List.range n).map (ab_fv g h' k ci) := by
  apply List.ext_getElem?
  intro i
  by_cases hi : i < n
  · by_cases e : i = j
    · subst e
      rw [List.getElem?_set_self (by simp; exact hi), List.getElem?_map, List.getElem?_range hi, ← hv]
      rfl
    · rw [List.getElem?_set_ne (Ne.symm e), List.getElem?_map, List.getElem?_map, List.getElem?_range hi]
      show some (ab_fv g h k ci i) = some (ab_fv g h' k ci i)
      unfold ab_fv
      rw [ho i e]
  · rw [List.getElem?_eq_none (by simp; omega), List.getElem?_eq_none (by simp; omega)]
theorem ab_ft (v : Int32) : narrow .int (.int v) = .int v := rfl
section GOM
variable {g : ab_G} {E : ab_E} {M : ab_M} {Q : Option ab_V → ab_H → Prop} {pc : Nat} {ρ : List (Option ab_V)} {st : List ab_V} {h : ab_H}
theorem go_get {idx ci j k : Nat} {jz : Int} {ds : String} {fin : Bool} {v : ab_V} (hi : ab_at M pc (.getfield idx) 3) (hf : ab_FL M.1.cls idx ci j jz ds fin) (hk : ab_kd k = some (.inl ci)) (hv : ab_fv g h k ci j = ab_cv g v) (hok2 : ab_okH h → ab_okV v) (K : Go g E M Q (pc + 3) ρ (v :: st) h) : Go g E M Q pc ρ (a_R k :: st) h := by
  intro A p e s m args below meth c Qm C T H locs ls hP hD hS hl hok
  obtain ⟨C0, T0, N0, h1, h2, -, -, -, h3⟩ := hf
  obtain ⟨⟨c1, -, -⟩, c2⟩ := ab_cls h1
  have hws := ab_ws_at (g := g) (h := h) (ab_kd_lt hk)
  rw [ab_ce_o hk] at hws
  have hv2 : ((List.range (ab_nf ci)).map (ab_fv g h k ci))[j]? = some (ab_cv g v) := by
    rw [List.getElem?_map, List.getElem?_range (by omega), ← hv]; rfl
  have KK := K A p e s m args below meth c Qm C T H locs ls hP hD hS hl (hok.tl.cons (hok2 hok.1))
  rcases h3 with h3 | ⟨host, h3⟩
  · exact va_get C.1 C.2.1 C.2.2.2.2.2.2.1 c1 C.2.2.2.2.2.1 C.2.2.2.2.2.2.2.2.1 hP k hws h1 j h2 (C.2.2.2.2.2.2.1 _ h3) (fun _ q => q) hv2 (C.dec hi) KK
  · exact va_getN C.1 C.2.1 C.2.2.2.2.2.2.1 c1 C.2.2.2.2.2.1 C.2.2.2.2.2.2.2.2.1 hP k hws h1 j h2 (va_Nw.use rfl (C.2.2.2.2.2.2.2.1 _ h3)) (fun _ q => q) hv2 (C.dec hi) KK
theorem go_getI {idx ci j k : Nat} {jz : Int} {ds : String} {fin : Bool} (hi : ab_at M pc (.getfield idx) 3) (hf : ab_FL M.1.cls idx ci j jz ds fin) (hk : ab_kd k = some (.inl ci)) (hr : ab_rf k j = none) (hlg : ab_lg ci j = false) (K : Go g E M Q (pc + 3) ρ (a_I (h k jz) :: st) h) : Go g E M Q pc ρ (a_R k :: st) h := by
  have e : (j : Int) = jz := by obtain ⟨_, _, _, _, _, e, _⟩ := hf; exact e
  subst e
  exact go_get hi hf hk (v := a_I (h k j)) (ab_fv_i hr hlg) (fun q => q.2 k j (ab_nL_o hk hlg)) K
theorem go_getL {idx ci j k : Nat} {jz : Int} {ds : String} {fin : Bool} (hi : ab_at M pc (.getfield idx) 3) (hf : ab_FL M.1.cls idx ci j jz ds fin) (hk : ab_kd k = some (.inl ci)) (hr : ab_rf k j = none) (hlg : ab_lg ci j = true) (K : Go g E M Q (pc + 3) ρ (a_L (h k jz) :: st) h) : Go g E M Q pc ρ (a_R k :: st) h := by
  have e : (j : Int) = jz := by obtain ⟨_, _, _, _, _, e, _⟩ := hf; exact e
  subst e
  exact go_get hi hf hk (v := a_L (h k j)) (ab_fv_l hr hlg) (fun q => q.1 k j) K
theorem go_getR {idx ci j k r : Nat} {jz : Int} {ds : String} {fin : Bool} (hi : ab_at M pc (.getfield idx) 3) (hf : ab_FL M.1.cls idx ci j jz ds fin) (hk : ab_kd k = some (.inl ci)) (hr : ab_rf k j = some r) (K : Go g E M Q (pc + 3) ρ (a_R r :: st) h) : Go g E M Q pc ρ (a_R k :: st) h :=
  go_get hi hf hk (v := a_R r) (ab_fv_r hr) (fun _ => trivial) K
theorem go_put {idx ci j k : Nat} {jz : Int} {ds : String} {v : ab_V} {h' : ab_H} {ty : FieldType} (hi : ab_at M pc (.putfield idx) 3) (hf : ab_FL M.1.cls idx ci j jz ds false) (hk : ab_kd k = some (.inl ci)) (hty : parseFieldDescriptor ds = some ty) (hn : narrow ty (ab_cv g v) = ab_cv g v) (hft : fits ty (ab_cv g v) = true) (hv : ab_fv g h' k ci j = ab_cv g v) (ho : ∀ a b, ¬ (a = k ∧ b = (j : Int)) → h' a b = h a b) (hok2 : ab_okH h → ab_okV v → ab_okH h') (K : Go g E M Q (pc + 3) ρ st h') : Go g E M Q pc ρ (v :: a_R k :: st) h := by
  intro A p e s m args below meth c Qm C T H locs ls hP hD hS hl hok
  obtain ⟨C0, T0, N0, h1, h2, -, h4, h5, h3⟩ := hf
  obtain ⟨⟨c1, ⟨ty0, c3⟩, c4⟩, c2⟩ := ab_cls h1
  have hws := ab_ws_at (g := g) (h := h) (ab_kd_lt hk)
  rw [ab_ce_o hk] at hws
  have e1 : (ab_ws g h).set k (g.2.1 k, .inr (ci, ((List.range (ab_nf ci)).map (ab_fv g h k ci)).set j (ab_cv g v))) = ab_ws g h' := by
    rw [ab_fs_set (h' := h') hv (fun i hne => ho k i (fun q => hne (by have := q.2; omega))), ← ab_ce_o (g := g) (h := h') hk]
    exact ab_ws_set (ab_kd_lt hk) (fun a ha b => ho a b (fun q => ha q.1))
  have hl2 : j < ((List.range (ab_nf ci)).map (ab_fv g h k ci)).length := by simp; omega
  have KK := fun H1 locs1 => K A p e s m args below meth c Qm C T H1 locs1 ls
  have hok3 := hok.tl.tl.hp (hok2 hok.1 hok.top)
  rcases h3 with h3 | ⟨host, h3⟩
  · refine va_put C.1 C.2.1 C.2.2.2.2.2.2.1 c1 ty0 c3 c4 C.2.2.2.2.2.1 C.2.2.2.2.2.2.2.2.1 hP hD hS k hws h1 j h2 (C.2.2.2.2.2.2.1 _ h3) (fun _ q => q) h5 (by rw [h4]; exact hty) hn hft hl2 (C.dec hi) (fun H1 locs1 hP1 hD1 hS1 => ?_)
    rw [e1] at hP1 hD1
    exact KK H1 locs1 hP1 hD1 hS1 hl hok3
  · refine va_putN C.1 C.2.1 C.2.2.2.2.2.2.1 c1 ty0 c3 c4 C.2.2.2.2.2.1 C.2.2.2.2.2.2.2.2.1 hP hD hS k hws h1 j h2 (va_Nw.use rfl (C.2.2.2.2.2.2.2.1 _ h3)) (fun _ q => q) h5 (by rw [h4]; exact hty) hn hft hl2 (C.dec hi) (fun H1 locs1 hP1 hD1 hS1 => ?_)
    rw [e1] at hP1 hD1
    exact KK H1 locs1 hP1 hD1 hS1 hl hok3
theorem go_putI {idx ci j k : Nat} {jz z : Int} (hi : ab_at M pc (.putfield idx) 3) (hf : ab_FL M.1.cls idx ci j jz "I" false) (hk : ab_kd k = some (.inl ci)) (hr : ab_rf k j = none) (hlg : ab_lg ci j = false) (K : Go g E M Q (pc + 3) ρ st (ab_hs h k jz z)) : Go g E M Q pc ρ (a_I z :: a_R k :: st) h := by
  have e : (j : Int) = jz := by obtain ⟨_, _, _, _, _, e, _⟩ := hf; exact e
  subst e
  exact go_put hi hf hk (ty := .int) (by decide +kernel) rfl rfl (by rw [ab_fv_i hr hlg, ab_hs_eq]; rfl) (fun a b n => ab_hs_ne n) (fun q1 q2 => q1.set q2) K
theorem go_putZ {idx ci j k : Nat} {jz z : Int} (hi : ab_at M pc (.putfield idx) 3) (hf : ab_FL M.1.cls idx ci j jz "Z" false) (hk : ab_kd k = some (.inl ci)) (hr : ab_rf k j = none) (hlg : ab_lg ci j = false) (hz : z = 0 ∨ z = 1) (K : Go g E M Q (pc + 3) ρ st (ab_hs h k jz z)) : Go g E M Q pc ρ (a_I z :: a_R k :: st) h := by
  have e : (j : Int) = jz := by obtain ⟨_, _, _, _, _, e, _⟩ := hf; exact e
  subst e
  refine go_put hi hf hk (ty := .boolean) (by decide +kernel) ?_ ?_ (by rw [ab_fv_i hr hlg, ab_hs_eq]; rfl) (fun a b n => ab_hs_ne n) (fun q1 q2 => q1.set q2) K
  · rcases hz with rfl | rfl <;> rfl
  · rcases hz with rfl | rfl <;> rfl
theorem go_putL {idx ci j k : Nat} {jz z : Int} (hi : ab_at M pc (.putfield idx) 3) (hf : ab_FL M.1.cls idx ci j jz "J" false) (hk : ab_kd k = some (.inl ci)) (hr : ab_rf k j = none) (hlg : ab_lg ci j = true) (hL : ab_isL k j) (K : Go g E M Q (pc + 3) ρ st (ab_hs h k jz z)) : Go g E M Q pc ρ (a_L z :: a_R k :: st) h := by
  have e : (j : Int) = jz := by obtain ⟨_, _, _, _, _, e, _⟩ := hf; exact e
  subst e
  exact go_put hi hf hk (ty := .long) (by decide +kernel) rfl rfl (by rw [ab_fv_l hr hlg, ab_hs_eq]; rfl) (fun a b n => ab_hs_ne n) (fun q1 q2 => q1.setL hL q2) K
theorem go_iald {k n : Nat} {i : Int} (hi : ab_at M pc .iaload 1) (hk : ab_kd k = some (.inr (0, n))) (h0 : 0 ≤ i) (h1 : i < n) (K : Go g E M Q (pc + 1) ρ (a_I (h k i) :: st) h) : Go g E M Q pc ρ (a_I i :: a_R k :: st) h := by
  intro A p e s m args below meth c Qm C T H locs ls hP hD hS hl hok
  have hws := ab_ws_at (g := g) (h := h) (ab_kd_lt hk)
  rw [ab_ce_i hk] at hws
  obtain ⟨q1, q2⟩ := ab_in h0 h1 (ab_kd_n hk)
  refine va_iald C.1 C.2.1 C.2.2.2.2.2.2.2.2.1 hP k 0 hws rfl q1 (C.dec hi) ?_
  have := K A p e s m args below meth c Qm C T H locs ls hP hD hS hl (hok.tl.tl.cons (hok.1.2 k i (ab_nL_a hk (by decide))))
  rw [q2, Int.toNat_of_nonneg h0]
  exact this
theorem go_zald {k n : Nat} {i : Int} (hi : ab_at M pc .baload 1) (hk : ab_kd k = some (.inr (1, n))) (h0 : 0 ≤ i) (h1 : i < n) (K : Go g E M Q (pc + 1) ρ (a_I (h k i) :: st) h) : Go g E M Q pc ρ (a_I i :: a_R k :: st) h := by
  intro A p e s m args below meth c Qm C T H locs ls hP hD hS hl hok
  have hws := ab_ws_at (g := g) (h := h) (ab_kd_lt hk)
  rw [ab_ce_z hk] at hws
  obtain ⟨q1, q2⟩ := ab_in h0 h1 (ab_kd_n hk)
  refine va_zald C.1 C.2.1 C.2.2.2.2.2.2.2.2.1 hP k 1 hws rfl q1 (C.dec hi) ?_
  have := K A p e s m args below meth c Qm C T H locs ls hP hD hS hl (hok.tl.tl.cons (hok.1.2 k i (ab_nL_a hk (by decide))))
  rw [q2, Int.toNat_of_nonneg h0]
  exact this
theorem go_lald {k n : Nat} {i : Int} (hi : ab_at M pc .laload 1) (hk : ab_kd k = some (.inr (2, n))) (h0 : 0 ≤ i) (h1 : i < n) (K : Go g E M Q (pc + 1) ρ (a_L (h k i) :: st) h) : Go g E M Q pc ρ (a_I i :: a_R k :: st) h := by
  intro A p e s m args below meth c Qm C T H locs ls hP hD hS hl hok
  have hws := ab_ws_at (g := g) (h := h) (ab_kd_lt hk)
  rw [ab_ce_l hk] at hws
  obtain ⟨q1, q2⟩ := ab_in h0 h1 (ab_kd_n hk)
  refine va_lald C.1 C.2.1 C.2.2.2.2.2.2.2.2.1 hP k 2 hws rfl q1 (C.dec hi) ?_
  have := K A p e s m args below meth c Qm C T H locs ls hP hD hS hl (hok.tl.tl.cons (hok.1.1 k i))
  rw [q2, Int.toNat_of_nonneg h0]
  exact this
theorem go_aald {k n r : Nat} {i : Int} (hi : ab_at M pc .aaload 1) (hk : ab_kd k = some (.inr (3, n))) (h0 : 0 ≤ i) (h1 : i < n) (hr : ab_rf k i.toNat = some r) (K : Go g E M Q (pc + 1) ρ (a_R r :: st) h) : Go g E M Q pc ρ (a_I i :: a_R k :: st) h := by
  intro A p e s m args below meth c Qm C T H locs ls hP hD hS hl hok
  have hws := ab_ws_at (g := g) (h := h) (ab_kd_lt hk)
  rw [ab_ce_r hk] at hws
  obtain ⟨q1, q2⟩ := ab_in h0 h1 (ab_kd_n hk)
  have hlt : (Int32.ofInt i).toNatClampNeg < n := Nat.not_le.mp fun q => q1 (Or.inr q)
  have KK := K A p e s m args below meth c Qm C T H locs ls hP hD hS hl (hok.tl.tl.cons (v := a_R r) trivial)
  exact W.aald (v := .ref (g.2.1 r)) (ty := .array .int) C.1 C.2.1 (hP k _ hws) ((C.2.2.2.2.2.2.2.2.1.2 3 _ rfl).1 n (fun j => va_rf ((ab_rf k j).map g.2.1))) rfl (fun q => by cases q) (by show ¬ (Int32.ofInt i < 0 ∨ (arrV _ _ _).slots.size ≤ _); rw [arrV_size]; exact q1) (by show (arrV _ _ _).slots[_]? = _; rw [arrV_read _ _ hlt, q2]; show some (va_rf ((ab_rf k i.toNat).map g.2.1)) = _; rw [hr]; rfl) rfl rfl (C.dec hi) KK
theorem ab_st_i {g : ab_G} {h : ab_H} {k n t : Nat} {i z : Int} (hk : ab_kd k = some (.inr (t, n))) (h0 : 0 ≤ i) (mk : (Nat → Int32) → va_E) (he : ∀ h : ab_H, ab_ce g h k = mk (fun j => Int32.ofInt (h k j))) : (ab_ws g h).set k (g.2.1 k, mk (upd (fun j => Int32.ofInt (h k j)) i.toNat (Int32.ofInt z))) = ab_ws g (ab_hs h k i z) := by
  have e : upd (fun j => Int32.ofInt (h k j)) i.toNat (Int32.ofInt z) = fun j : Nat => Int32.ofInt (ab_hs h k i z k j) := by
    funext j
    unfold upd ab_hs
    by_cases q : j = i.toNat
    · subst q
      simp [Int.toNat_of_nonneg h0]
    · have : ¬ ((j : Int) = i) := by omega
      simp [q, this]
  rw [e, ← he (ab_hs h k i z)]
  exact ab_ws_set (ab_kd_lt hk) (fun a ha b => ab_hs_k ha)
theorem go_iast {k n : Nat} {i z : Int} (hi : ab_at M pc .iastore 1) (hk : ab_kd k = some (.inr (0, n))) (h0 : 0 ≤ i) (h1 : i < n) (K : Go g E M Q (pc + 1) ρ st (ab_hs h k i z)) : Go g E M Q pc ρ (a_I z :: a_I i :: a_R k :: st) h := by
  intro A p e s m args below meth c Qm C T H locs ls hP hD hS hl hok
  have hws := ab_ws_at (g := g) (h := h) (ab_kd_lt hk)
  rw [ab_ce_i hk] at hws
  obtain ⟨q1, q2⟩ := ab_in h0 h1 (ab_kd_n hk)
  refine va_iast C.1 C.2.1 C.2.2.2.2.2.2.2.2.1 hP hD hS k 0 hws rfl q1 (C.dec hi) (fun H1 locs1 hP1 hD1 hS1 => ?_)
  rw [q2, ab_st_i hk h0 (fun f => .inl (g.2.2.2.1 0, n, .inl f)) (fun h => ab_ce_i hk)] at hP1 hD1
  exact K A p e s m args below meth c Qm C T H1 locs1 ls hP1 hD1 hS1 hl (hok.tl.tl.tl.hp (hok.1.set hok.top))
theorem go_zast {k n : Nat} {i z : Int} (hi : ab_at M pc .bastore 1) (hk : ab_kd k = some (.inr (1, n))) (h0 : 0 ≤ i) (h1 : i < n) (hz : z = 0 ∨ z = 1) (K : Go g E M Q (pc + 1) ρ st (ab_hs h k i z)) : Go g E M Q pc ρ (a_I z :: a_I i :: a_R k :: st) h := by
  intro A p e s m args below meth c Qm C T H locs ls hP hD hS hl hok
  have hws := ab_ws_at (g := g) (h := h) (ab_kd_lt hk)
  rw [ab_ce_z hk] at hws
  obtain ⟨q1, q2⟩ := ab_in h0 h1 (ab_kd_n hk)
  refine va_zast C.1 C.2.1 C.2.2.2.2.2.2.2.2.1 hP hD hS k 1 hws rfl q1 (C.dec hi) (fun H1 locs1 hP1 hD1 hS1 => ?_)
  have e2 : vp_nar .boolean (Int32.ofInt z) = Int32.ofInt z := by rcases hz with rfl | rfl <;> rfl
  rw [e2, q2, ab_st_i hk h0 (fun f => .inl (g.2.2.2.1 1, n, .inl f)) (fun h => ab_ce_z hk)] at hP1 hD1
  exact K A p e s m args below meth c Qm C T H1 locs1 ls hP1 hD1 hS1 hl (hok.tl.tl.tl.hp (hok.1.set hok.top))
theorem go_last {k n : Nat} {i z : Int} (hi : ab_at M pc .lastore 1) (hk : ab_kd k = some (.inr (2, n))) (h0 : 0 ≤ i) (h1 : i < n) (K : Go g E M Q (pc + 1) ρ st (ab_hs h k i z)) : Go g E M Q pc ρ (a_L z :: a_I i :: a_R k :: st) h := by
  intro A p e s m args below meth c Qm C T H locs ls hP hD hS hl hok
  have hws := ab_ws_at (g := g) (h := h) (ab_kd_lt hk)
  rw [ab_ce_l hk] at hws
  obtain ⟨q1, q2⟩ := ab_in h0 h1 (ab_kd_n hk)
  refine va_last C.1 C.2.1 C.2.2.2.2.2.2.2.2.1 hP hD hS k 2 hws rfl q1 (C.dec hi) (fun H1 locs1 hP1 hD1 hS1 => ?_)
  have e1 : vp_updL (fun j => Int64.ofInt (h k j)) i.toNat (Int64.ofInt z) = fun j : Nat => Int64.ofInt (ab_hs h k i z k j) := by
    funext j
    unfold vp_updL ab_hs
    by_cases q : j = i.toNat
    · subst q
      simp [Int.toNat_of_nonneg h0]
    · have : ¬ ((j : Int) = i) := by omega
      simp [q, this]
  rw [q2, e1, ← ab_ce_l (g := g) (h := ab_hs h k i z) hk, ab_ws_set (ab_kd_lt hk) (fun a ha b => ab_hs_k ha)] at hP1 hD1
  exact K A p e s m args below meth c Qm C T H1 locs1 ls hP1 hD1 hS1 hl (hok.tl.tl.tl.hp (hok.1.setL (ab_L_a hk) hok.top))
theorem go_alen {k n : Nat} (hi : ab_at M pc .arraylength 1) (hk : ab_kd k = some (.inr (0, n))) (K : Go g E M Q (pc + 1) ρ (a_I n :: st) h) : Go g E M Q pc ρ (a_R k :: st) h := by
  intro A p e s m args below meth c Qm C T H locs ls hP hD hS hl hok
  have hws := ab_ws_at (g := g) (h := h) (ab_kd_lt hk)
  rw [ab_ce_i hk] at hws
  have hn := ab_kd_n hk
  exact va_alen C.1 C.2.1 C.2.2.2.2.2.2.2.2.1 hP k 0 hws rfl (v := Int32.ofInt (n : Int)) Int32.ofInt_eq_ofNat.symm (C.dec hi) (K A p e s m args below meth c Qm C T H locs ls hP hD hS hl (hok.tl.cons (show ab_iok n by unfold ab_iok; omega)))
/-- the law's own script: cell 82 -/
theorem go_sld {i : Int} (hM : M.1 = x) (hi : ab_at M pc .iaload 1) (h0 : 0 ≤ i) (h1 : i < g.2.2.2.2.1) (hL : g.2.2.2.2.1 < 2147483648) (K : Go g E M Q (pc + 1) ρ (a_I (g.2.2.2.2.2 i.toNat).toInt :: st) h) : Go g E M Q pc ρ (a_I i :: a_R 82 :: st) h := by
  intro A p e s m args below meth c Qm C T H locs ls hP hD hS hl hok
  obtain ⟨x1, x2, x3⟩ := C.2.2.2.2.2.2.2.2.2.2 hM
  obtain ⟨q1, q2⟩ := ab_in h0 h1 hL
  refine va_sld C.1 C.2.1 x1 x2 x3 hS q1 (C.dec hi) ?_
  have := K A p e s m args below meth c Qm C T H locs ls hP hD hS hl (hok.tl.tl.cons (ab_okI _))
  rw [q2]
  simpa only [List.map_cons, ab_cv, Int32.ofInt_toInt] using this
theorem go_slen (hM : M.1 = x) (hi : ab_at M pc .arraylength 1) (hL : g.2.2.2.2.1 < 2147483648) (K : Go g E M Q (pc + 1) ρ (a_I (g.2.2.2.2.1 : Int) :: st) h) : Go g E M Q pc ρ (a_R 82 :: st) h := by
  intro A p e s m args below meth c Qm C T H locs ls hP hD hS hl hok
  obtain ⟨x1, x2, x3⟩ := C.2.2.2.2.2.2.2.2.2.2 hM
  refine va_slen C.1 C.2.1 x1 x2 x3 hS (C.dec hi) ?_
  have := K A p e s m args below meth c Qm C T H locs ls hP hD hS hl (hok.tl.cons (show ab_iok (g.2.2.2.2.1 : Int) by unfold ab_iok; omega))
  rw [← Int32.ofInt_eq_ofNat]
  exact this
end GOM
