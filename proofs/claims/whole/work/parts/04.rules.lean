/-! THE ROWS OF THE ABSTRACT LAYER: Go: from this place, with these locals, this stack and this heap, the method comes to its end with Q -/
def ab_C (g : ab_G) (M : ab_M) (A : Nat → Prop) (p : Program) (s : State) (m : MethodId) (args : Array Value) (meth : Method) (c : Code) : Prop :=
  p.tables.exec = Jvm.exec ∧ c.code = M.2.1 ∧ c.maxLocals = M.2.2.1 ∧ meth.sig.returnType = M.2.2.2.1 ∧ meth.locks = false ∧ s.vm.findClass M.1.cls = some m.cls ∧ (∀ w ∈ ab_tb, w.before args s = true) ∧ (∀ w ∈ ab_nw, va_Nw w s) ∧ va_K g.2.2.1 vwCl (ab_ty g) s ∧ ab_DOk M ∧
  (M.1 = x → va_X (g.2.1 82) g.2.2.2.2.1 g.2.2.2.2.2 s s.heap ∧ g.2.1 82 < s.heap.size ∧ ¬ A (g.2.1 82))
def ab_rt (M : ab_M) (pc : Nat) (r : Option ab_V) : Prop := (r = none ∧ decode M.2.1 pc = .ok (.return_, 1) ∧ M.2.2.2.1 = none) ∨ (∃ z, r = some (a_I z) ∧ decode M.2.1 pc = .ok (.ireturn, 1) ∧ (M.2.2.2.1 = some .int ∨ (M.2.2.2.1 = some .boolean ∧ (z = 0 ∨ z = 1)))) ∨ (∃ z, r = some (a_L z) ∧ decode M.2.1 pc = .ok (.lreturn, 1) ∧ M.2.2.2.1 = some .long)
abbrev ab_E : Type := Room × Nat × Nat
def ab_Ret (g : ab_G) (E : ab_E) (M : ab_M) (Q : Option ab_V → ab_H → Prop) (A : Nat → Prop) (p : Program) (e : Env) (s : State) (m : MethodId) (args : Array Value) (below : List Frame) (meth : Method) (c : Code) (Qm : State → Prop) : Prop :=
  ∀ (H : Heap) (locs : List Loc) (ls : Array Slot) (pc : Nat) (r : Option ab_V) (h : ab_H), Q r h → ab_okH h → (∀ v, r = some v → ab_okV v) → va_P g.2.2.1 vwCl (ab_ws g h) H → va_D A (ab_ws g h) → va_S A s.heap H locs → ab_rt M pc r → W p g.1 e E.1 s m args below meth c H locs E.2.1 E.2.2 Qm (F0 m pc ls (r.toList.map (ab_cv g)))
def Go (g : ab_G) (E : ab_E) (M : ab_M) (Q : Option ab_V → ab_H → Prop) (pc : Nat) (ρ : List (Option ab_V)) (st : List ab_V) (h : ab_H) : Prop :=
  ∀ (A : Nat → Prop) (p : Program) (e : Env) (s : State) (m : MethodId) (args : Array Value) (below : List Frame) (meth : Method) (c : Code) (Qm : State → Prop), ab_C g M A p s m args meth c → ab_Ret g E M Q A p e s m args below meth c Qm → ∀ (H : Heap) (locs : List Loc) (ls : Array Slot), va_P g.2.2.1 vwCl (ab_ws g h) H → va_D A (ab_ws g h) → va_S A s.heap H locs → ab_lr g ls M.2.2.1 ρ → ab_okS ρ st h →
    W p g.1 e E.1 s m args below meth c H locs E.2.1 E.2.2 Qm (F0 m pc ls (st.map (ab_cv g)))
abbrev ab_at (M : ab_M) (pc : Nat) (i : Instr) (len : Nat) : Prop := ab_nth M.2.2.2.2.2 pc = some (some (i, len))
section GO
variable {g : ab_G} {E : ab_E} {M : ab_M} {Q : Option ab_V → ab_H → Prop} {pc : Nat} {ρ : List (Option ab_V)} {st : List ab_V} {h : ab_H}
theorem ab_C.dec {A : Nat → Prop} {p : Program} {s : State} {m : MethodId} {args : Array Value} {meth : Method} {c : Code} (C : ab_C g M A p s m args meth c) {i : Instr} {len : Nat} (hi : ab_at M pc i len) : decode M.2.1 pc = .ok (i, len) := C.2.2.2.2.2.2.2.2.2.1 pc i len hi
/-- what is known of the heap may be used -/
theorem go_ok (K : ab_okS ρ st h → Go g E M Q pc ρ st h) : Go g E M Q pc ρ st h := fun A p e s m args below meth c Qm C T H locs ls hP hD hS hl hok => K hok A p e s m args below meth c Qm C T H locs ls hP hD hS hl hok
theorem go_top {x y : Int} (e : x = y) (K : Go g E M Q pc ρ (a_I y :: st) h) : Go g E M Q pc ρ (a_I x :: st) h := e ▸ K
theorem go_heap {h' : ab_H} (e : h = h') (K : Go g E M Q pc ρ st h') : Go g E M Q pc ρ st h := e ▸ K
theorem go_iconst {n : Int} (hi : ab_at M pc (.iconst n) 1) (K : Go g E M Q (pc + 1) ρ (a_I n :: st) h) (hz : ab_iok n := by unfold ab_iok; omega) : Go g E M Q pc ρ st h := by
  intro A p e s m args below meth c Qm C T H locs ls hP hD hS hl hok
  exact lv_iconst C.1 C.2.1 (C.dec hi) rfl (K A p e s m args below meth c Qm C T H locs ls hP hD hS hl (hok.cons hz))
theorem go_bipush {n : Int} (hi : ab_at M pc (.bipush n) 2) (K : Go g E M Q (pc + 2) ρ (a_I n :: st) h) (hz : -128 ≤ n ∧ n ≤ 127 := by omega) : Go g E M Q pc ρ st h := by
  intro A p e s m args below meth c Qm C T H locs ls hP hD hS hl hok
  refine lv_bipush C.1 C.2.1 (C.dec hi) (v := Int32.ofInt n) ?_ (K A p e s m args below meth c Qm C T H locs ls hP hD hS hl (hok.cons (show ab_iok n by unfold ab_iok; omega)))
  rw [← Int32.toInt_inj, ab_ti (show ab_iok n by unfold ab_iok; omega)]
  show (Int8.ofInt n).toInt32.toInt = n
  rw [Int8.toInt_toInt32]
  exact Int8.toInt_ofInt_of_le (by omega) (by omega)
theorem go_sipush {n : Int} (hi : ab_at M pc (.sipush n) 3) (K : Go g E M Q (pc + 3) ρ (a_I n :: st) h) (hz : -32768 ≤ n ∧ n ≤ 32767 := by omega) : Go g E M Q pc ρ st h := by
  intro A p e s m args below meth c Qm C T H locs ls hP hD hS hl hok
  refine lv_sipush C.1 C.2.1 (C.dec hi) (v := Int32.ofInt n) ?_ (K A p e s m args below meth c Qm C T H locs ls hP hD hS hl (hok.cons (show ab_iok n by unfold ab_iok; omega)))
  rw [← Int32.toInt_inj, ab_ti (show ab_iok n by unfold ab_iok; omega)]
  show (Int16.ofInt n).toInt32.toInt = n
  rw [Int16.toInt_toInt32]
  exact Int16.toInt_ofInt_of_le (by omega) (by omega)
theorem go_lconst {n : Fin 2} {z : Int} (hi : ab_at M pc (.lconst n) 1) (K : Go g E M Q (pc + 1) ρ (a_L z :: st) h) (hz : ((n : Nat) : Int) = z := by rfl) : Go g E M Q pc ρ st h := by
  intro A p e s m args below meth c Qm C T H locs ls hP hD hS hl hok
  subst hz
  have hn := n.isLt
  exact lv_lconst C.1 C.2.1 (C.dec hi) (v := Int64.ofInt (n : Nat)) Int64.ofInt_eq_ofNat.symm (K A p e s m args below meth c Qm C T H locs ls hP hD hS hl (hok.cons (show ab_lok (n : Nat) by unfold ab_lok; omega)))
theorem go_ldc {idx : Nat} {v : Int32} {z : Int} (hi : ab_at M pc (.ldc idx) 2) (hw : Cond.constant M.1.cls idx v ∈ ab_tb) (K : Go g E M Q (pc + 2) ρ (a_I z :: st) h) (hz : v.toInt = z := by decide) : Go g E M Q pc ρ st h := by
  intro A p e s m args below meth c Qm C T H locs ls hP hD hS hl hok
  subst hz
  refine lv_ldc C.1 C.2.1 C.2.2.2.2.2.1 (C.2.2.2.2.2.2.1 _ hw) (C.dec hi) ?_
  have := K A p e s m args below meth c Qm C T H locs ls hP hD hS hl (hok.cons (ab_okI v))
  simpa only [List.map_cons, ab_cv, Int32.ofInt_toInt] using this
theorem go_ldc2 {idx : Nat} {v : Int64} {z : Int} (hi : ab_at M pc (.ldc2_w idx) 3) (hw : Cond.constantLong M.1.cls idx v ∈ ab_tb) (K : Go g E M Q (pc + 3) ρ (a_L z :: st) h) (hz : v.toInt = z := by decide) : Go g E M Q pc ρ st h := by
  intro A p e s m args below meth c Qm C T H locs ls hP hD hS hl hok
  subst hz
  refine lv_ldc2 C.1 C.2.1 C.2.2.2.2.2.1 (C.2.2.2.2.2.2.1 _ hw) (C.dec hi) ?_
  have := K A p e s m args below meth c Qm C T H locs ls hP hD hS hl (hok.cons (ab_okL v))
  simpa only [List.map_cons, ab_cv, Int64.ofInt_toInt] using this
theorem go_iload_n {k : Fin 4} {z : Int} (hi : ab_at M pc (.iload_n k) 1) (hv : ab_nth ρ (k : Nat) = some (some (a_I z))) (K : Go g E M Q (pc + 1) ρ (a_I z :: st) h) : Go g E M Q pc ρ st h := by
  intro A p e s m args below meth c Qm C T H locs ls hP hD hS hl hok
  exact lv_iload_n C.1 C.2.1 (C.dec hi) rfl (hl.2.2 _ _ hv) (K A p e s m args below meth c Qm C T H locs ls hP hD hS hl (hok.cons (hok.2.2 _ _ hv)))
theorem go_iload {k : Nat} {z : Int} (hi : ab_at M pc (.iload k) 2) (hv : ab_nth ρ k = some (some (a_I z))) (K : Go g E M Q (pc + 2) ρ (a_I z :: st) h) : Go g E M Q pc ρ st h := by
  intro A p e s m args below meth c Qm C T H locs ls hP hD hS hl hok
  exact lv_iload C.1 C.2.1 (C.dec hi) (hl.2.2 _ _ hv) (K A p e s m args below meth c Qm C T H locs ls hP hD hS hl (hok.cons (hok.2.2 _ _ hv)))
theorem go_lload_n {k : Fin 4} {z : Int} (hi : ab_at M pc (.lload_n k) 1) (hv : ab_nth ρ (k : Nat) = some (some (a_L z))) (K : Go g E M Q (pc + 1) ρ (a_L z :: st) h) : Go g E M Q pc ρ st h := by
  intro A p e s m args below meth c Qm C T H locs ls hP hD hS hl hok
  exact lv_lload_n C.1 C.2.1 (C.dec hi) rfl (hl.2.2 _ _ hv) (K A p e s m args below meth c Qm C T H locs ls hP hD hS hl (hok.cons (hok.2.2 _ _ hv)))
theorem go_lload {k : Nat} {z : Int} (hi : ab_at M pc (.lload k) 2) (hv : ab_nth ρ k = some (some (a_L z))) (K : Go g E M Q (pc + 2) ρ (a_L z :: st) h) : Go g E M Q pc ρ st h := by
  intro A p e s m args below meth c Qm C T H locs ls hP hD hS hl hok
  exact lv_lload C.1 C.2.1 (C.dec hi) (hl.2.2 _ _ hv) (K A p e s m args below meth c Qm C T H locs ls hP hD hS hl (hok.cons (hok.2.2 _ _ hv)))
theorem go_aload_n {k : Fin 4} {z : Nat} (hi : ab_at M pc (.aload_n k) 1) (hv : ab_nth ρ (k : Nat) = some (some (a_R z))) (K : Go g E M Q (pc + 1) ρ (a_R z :: st) h) : Go g E M Q pc ρ st h := by
  intro A p e s m args below meth c Qm C T H locs ls hP hD hS hl hok
  exact lv_aload_n C.1 C.2.1 (C.dec hi) rfl (hl.2.2 _ _ hv) (K A p e s m args below meth c Qm C T H locs ls hP hD hS hl (hok.cons (hok.2.2 _ _ hv)))
theorem go_aload {k : Nat} {z : Nat} (hi : ab_at M pc (.aload k) 2) (hv : ab_nth ρ k = some (some (a_R z))) (K : Go g E M Q (pc + 2) ρ (a_R z :: st) h) : Go g E M Q pc ρ st h := by
  intro A p e s m args below meth c Qm C T H locs ls hP hD hS hl hok
  exact lv_aload C.1 C.2.1 (C.dec hi) (hl.2.2 _ _ hv) (K A p e s m args below meth c Qm C T H locs ls hP hD hS hl (hok.cons (hok.2.2 _ _ hv)))
theorem go_istore_n {k : Fin 4} {z : Int} (hi : ab_at M pc (.istore_n k) 1) (hn : (k : Nat) < M.2.2.1) (hf : ab_free ρ (k : Nat) = true) (K : Go g E M Q (pc + 1) (ab_set ρ (k : Nat) (some (a_I z))) st h) : Go g E M Q pc ρ (a_I z :: st) h := by
  intro A p e s m args below meth c Qm C T H locs ls hP hD hS hl hok
  exact lv_istore_n C.1 C.2.1 (C.dec hi) rfl hl.has hn rfl (fun ls2 hl2 => K A p e s m args below meth c Qm C T H locs ls2 hP hD hS (ab_lr.set1 (w := a_I z) hf hl2) (hok.tl.loc (fun v e => by cases e; exact hok.top)))
theorem go_istore {k : Nat} {z : Int} (hi : ab_at M pc (.istore k) 2) (hn : k < M.2.2.1) (hf : ab_free ρ k = true) (K : Go g E M Q (pc + 2) (ab_set ρ k (some (a_I z))) st h) : Go g E M Q pc ρ (a_I z :: st) h := by
  intro A p e s m args below meth c Qm C T H locs ls hP hD hS hl hok
  exact lv_istore C.1 C.2.1 (C.dec hi) hl.has hn rfl (fun ls2 hl2 => K A p e s m args below meth c Qm C T H locs ls2 hP hD hS (ab_lr.set1 (w := a_I z) hf hl2) (hok.tl.loc (fun v e => by cases e; exact hok.top)))
theorem go_astore_n {k : Fin 4} {z : Nat} (hi : ab_at M pc (.astore_n k) 1) (hn : (k : Nat) < M.2.2.1) (hf : ab_free ρ (k : Nat) = true) (K : Go g E M Q (pc + 1) (ab_set ρ (k : Nat) (some (a_R z))) st h) : Go g E M Q pc ρ (a_R z :: st) h := by
  intro A p e s m args below meth c Qm C T H locs ls hP hD hS hl hok
  exact lv_astore_n C.1 C.2.1 (C.dec hi) rfl hl.has hn rfl (fun ls2 hl2 => K A p e s m args below meth c Qm C T H locs ls2 hP hD hS (ab_lr.set1 (w := a_R z) hf hl2) (hok.tl.loc (fun v e => by cases e; exact hok.top)))
theorem go_astore {k : Nat} {z : Nat} (hi : ab_at M pc (.astore k) 2) (hn : k < M.2.2.1) (hf : ab_free ρ k = true) (K : Go g E M Q (pc + 2) (ab_set ρ k (some (a_R z))) st h) : Go g E M Q pc ρ (a_R z :: st) h := by
  intro A p e s m args below meth c Qm C T H locs ls hP hD hS hl hok
  exact lv_astore C.1 C.2.1 (C.dec hi) hl.has hn rfl (fun ls2 hl2 => K A p e s m args below meth c Qm C T H locs ls2 hP hD hS (ab_lr.set1 (w := a_R z) hf hl2) (hok.tl.loc (fun v e => by cases e; exact hok.top)))
theorem go_lstore_n {k : Fin 4} {z : Int} (hi : ab_at M pc (.lstore_n k) 1) (hn : (k : Nat) + 1 < M.2.2.1) (hf : ab_free ρ (k : Nat) = true) (K : Go g E M Q (pc + 1) (ab_set (ab_set ρ ((k : Nat) + 1) none) (k : Nat) (some (a_L z))) st h) : Go g E M Q pc ρ (a_L z :: st) h := by
  intro A p e s m args below meth c Qm C T H locs ls hP hD hS hl hok
  exact lv_lstore_n C.1 C.2.1 (C.dec hi) rfl hl.has hn rfl (fun ls2 hl2 => K A p e s m args below meth c Qm C T H locs ls2 hP hD hS (ab_lr.set2 (w := a_L z) hf hl2) ((hok.tl.loc (i := (k : Nat) + 1) (w := none) (fun v e => by cases e)).loc (fun v e => by cases e; exact hok.top)))
theorem go_lstore {k : Nat} {z : Int} (hi : ab_at M pc (.lstore k) 2) (hn : k + 1 < M.2.2.1) (hf : ab_free ρ k = true) (K : Go g E M Q (pc + 2) (ab_set (ab_set ρ (k + 1) none) k (some (a_L z))) st h) : Go g E M Q pc ρ (a_L z :: st) h := by
  intro A p e s m args below meth c Qm C T H locs ls hP hD hS hl hok
  exact lv_lstore C.1 C.2.1 (C.dec hi) hl.has hn rfl (fun ls2 hl2 => K A p e s m args below meth c Qm C T H locs ls2 hP hD hS (ab_lr.set2 (w := a_L z) hf hl2) ((hok.tl.loc (i := k + 1) (w := none) (fun v e => by cases e)).loc (fun v e => by cases e; exact hok.top)))
theorem go_iinc {k : Nat} {n z : Int} (hi : ab_at M pc (.iinc k n) 3) (hv : ab_nth ρ k = some (some (a_I z))) (hn : k < M.2.2.1) (hf : ab_free ρ k = true) (hz : ab_iok (z + n)) (K : Go g E M Q (pc + 3) (ab_set ρ k (some (a_I (z + n)))) st h) : Go g E M Q pc ρ st h := by
  intro A p e s m args below meth c Qm C T H locs ls hP hD hS hl hok
  obtain ⟨j, hj⟩ := List.getElem?_of_mem (ab_ll_mem (g := g) (q := (k, .int (Int32.ofInt z))).mpr ⟨a_I z, hv, rfl⟩)
  exact lv_iinc C.1 C.2.1 (C.dec hi) hl.has hj (v := Int32.ofInt (z + n)) (Int32.ofInt_add z n).symm hn rfl (fun ls2 hl2 => K A p e s m args below meth c Qm C T H locs ls2 hP hD hS (ab_lr.set1 (w := a_I (z + n)) hf hl2) (hok.loc (fun v e => by cases e; exact hz)))
theorem go_iadd {x y : Int} (hi : ab_at M pc .iadd 1) (hz : ab_iok (x + y)) (K : Go g E M Q (pc + 1) ρ (a_I (x + y) :: st) h) : Go g E M Q pc ρ (a_I y :: a_I x :: st) h := by
  intro A p e s m args below meth c Qm C T H locs ls hP hD hS hl hok
  refine lv_iadd C.1 C.2.1 (C.dec hi) ?_
  rw [← Int32.ofInt_add]
  exact K A p e s m args below meth c Qm C T H locs ls hP hD hS hl (hok.tl.tl.cons hz)
theorem go_isub {x y : Int} (hi : ab_at M pc .isub 1) (hz : ab_iok (x - y)) (K : Go g E M Q (pc + 1) ρ (a_I (x - y) :: st) h) : Go g E M Q pc ρ (a_I y :: a_I x :: st) h := by
  intro A p e s m args below meth c Qm C T H locs ls hP hD hS hl hok
  refine lv_isub C.1 C.2.1 (C.dec hi) ?_
  rw [← Int32.ofInt_sub]
  exact K A p e s m args below meth c Qm C T H locs ls hP hD hS hl (hok.tl.tl.cons hz)
theorem go_imul {x y : Int} (hi : ab_at M pc .imul 1) (hz : ab_iok (x * y)) (K : Go g E M Q (pc + 1) ρ (a_I (x * y) :: st) h) : Go g E M Q pc ρ (a_I y :: a_I x :: st) h := by
  intro A p e s m args below meth c Qm C T H locs ls hP hD hS hl hok
  refine lv_imul C.1 C.2.1 (C.dec hi) ?_
  rw [← Int32.ofInt_mul]
  exact K A p e s m args below meth c Qm C T H locs ls hP hD hS hl (hok.tl.tl.cons hz)
def ab_iand (x y : Int) : Int := (Int32.ofInt x &&& Int32.ofInt y).toInt
theorem go_iand {x y : Int} (hi : ab_at M pc .iand 1) (K : Go g E M Q (pc + 1) ρ (a_I (ab_iand x y) :: st) h) : Go g E M Q pc ρ (a_I y :: a_I x :: st) h := by
  intro A p e s m args below meth c Qm C T H locs ls hP hD hS hl hok
  refine lv_iand C.1 C.2.1 (C.dec hi) ?_
  have := K A p e s m args below meth c Qm C T H locs ls hP hD hS hl (hok.tl.tl.cons (v := a_I (ab_iand x y)) (ab_okI _))
  simpa only [List.map_cons, ab_cv, ab_iand, Int32.ofInt_toInt] using this
def ab_ior (x y : Int) : Int := (Int32.ofInt x ||| Int32.ofInt y).toInt
theorem go_ior {x y : Int} (hi : ab_at M pc .ior 1) (K : Go g E M Q (pc + 1) ρ (a_I (ab_ior x y) :: st) h) : Go g E M Q pc ρ (a_I y :: a_I x :: st) h := by
  intro A p e s m args below meth c Qm C T H locs ls hP hD hS hl hok
  refine lv_ior C.1 C.2.1 (C.dec hi) ?_
  have := K A p e s m args below meth c Qm C T H locs ls hP hD hS hl (hok.tl.tl.cons (v := a_I (ab_ior x y)) (ab_okI _))
  simpa only [List.map_cons, ab_cv, ab_ior, Int32.ofInt_toInt] using this
def ab_ixor (x y : Int) : Int := (Int32.ofInt x ^^^ Int32.ofInt y).toInt
theorem go_ixor {x y : Int} (hi : ab_at M pc .ixor 1) (K : Go g E M Q (pc + 1) ρ (a_I (ab_ixor x y) :: st) h) : Go g E M Q pc ρ (a_I y :: a_I x :: st) h := by
  intro A p e s m args below meth c Qm C T H locs ls hP hD hS hl hok
  refine lv_ixor C.1 C.2.1 (C.dec hi) ?_
  have := K A p e s m args below meth c Qm C T H locs ls hP hD hS hl (hok.tl.tl.cons (v := a_I (ab_ixor x y)) (ab_okI _))
  simpa only [List.map_cons, ab_cv, ab_ixor, Int32.ofInt_toInt] using this
def ab_ishl (x y : Int) : Int := (Int32.ofInt x <<< (Int32.ofInt y &&& 31)).toInt
theorem go_ishl {x y : Int} (hi : ab_at M pc .ishl 1) (K : Go g E M Q (pc + 1) ρ (a_I (ab_ishl x y) :: st) h) : Go g E M Q pc ρ (a_I y :: a_I x :: st) h := by
  intro A p e s m args below meth c Qm C T H locs ls hP hD hS hl hok
  refine lv_ishl C.1 C.2.1 (C.dec hi) ?_
  have := K A p e s m args below meth c Qm C T H locs ls hP hD hS hl (hok.tl.tl.cons (v := a_I (ab_ishl x y)) (ab_okI _))
  simpa only [List.map_cons, ab_cv, ab_ishl, Int32.ofInt_toInt] using this
def ab_ishr (x y : Int) : Int := (Int32.ofInt x >>> (Int32.ofInt y &&& 31)).toInt
theorem go_ishr {x y : Int} (hi : ab_at M pc .ishr 1) (K : Go g E M Q (pc + 1) ρ (a_I (ab_ishr x y) :: st) h) : Go g E M Q pc ρ (a_I y :: a_I x :: st) h := by
  intro A p e s m args below meth c Qm C T H locs ls hP hD hS hl hok
  refine lv_ishr C.1 C.2.1 (C.dec hi) ?_
  have := K A p e s m args below meth c Qm C T H locs ls hP hD hS hl (hok.tl.tl.cons (v := a_I (ab_ishr x y)) (ab_okI _))
  simpa only [List.map_cons, ab_cv, ab_ishr, Int32.ofInt_toInt] using this
def ab_iushr (x y : Int) : Int := ((Int32.ofInt x).toUInt32 >>> ((Int32.ofInt y).toUInt32 &&& Int32.toUInt32 31)).toInt32.toInt
theorem go_iushr {x y : Int} (hi : ab_at M pc .iushr 1) (K : Go g E M Q (pc + 1) ρ (a_I (ab_iushr x y) :: st) h) : Go g E M Q pc ρ (a_I y :: a_I x :: st) h := by
  intro A p e s m args below meth c Qm C T H locs ls hP hD hS hl hok
  refine lv_iushr C.1 C.2.1 (C.dec hi) rfl ?_
  have := K A p e s m args below meth c Qm C T H locs ls hP hD hS hl (hok.tl.tl.cons (v := a_I (ab_iushr x y)) (ab_okI _))
  simpa only [List.map_cons, ab_cv, ab_iushr, Int32.ofInt_toInt] using this
def ab_idiv (x y : Int) : Int := (Int32.ofInt x / Int32.ofInt y).toInt
theorem go_idiv {x y : Int} (hi : ab_at M pc .idiv 1) (hn : y ≠ 0) (K : Go g E M Q (pc + 1) ρ (a_I (ab_idiv x y) :: st) h) : Go g E M Q pc ρ (a_I y :: a_I x :: st) h := by
  intro A p e s m args below meth c Qm C T H locs ls hP hD hS hl hok
  refine lv_idiv C.1 C.2.1 (C.dec hi) (fun q => hn ((ab_eq hok.top ab_iok0).mp q)) ?_
  have := K A p e s m args below meth c Qm C T H locs ls hP hD hS hl (hok.tl.tl.cons (v := a_I (ab_idiv x y)) (ab_okI _))
  simpa only [List.map_cons, ab_cv, ab_idiv, Int32.ofInt_toInt] using this
def ab_irem (x y : Int) : Int := (Int32.ofInt x - Int32.ofInt x / Int32.ofInt y * Int32.ofInt y).toInt
theorem go_irem {x y : Int} (hi : ab_at M pc .irem 1) (hn : y ≠ 0) (K : Go g E M Q (pc + 1) ρ (a_I (ab_irem x y) :: st) h) : Go g E M Q pc ρ (a_I y :: a_I x :: st) h := by
  intro A p e s m args below meth c Qm C T H locs ls hP hD hS hl hok
  refine lv_irem C.1 C.2.1 (C.dec hi) (fun q => hn ((ab_eq hok.top ab_iok0).mp q)) ?_
  have := K A p e s m args below meth c Qm C T H locs ls hP hD hS hl (hok.tl.tl.cons (v := a_I (ab_irem x y)) (ab_okI _))
  simpa only [List.map_cons, ab_cv, ab_irem, Int32.ofInt_toInt] using this
theorem go_ineg {x : Int} (hi : ab_at M pc .ineg 1) (hz : ab_iok (-x)) (K : Go g E M Q (pc + 1) ρ (a_I (-x) :: st) h) : Go g E M Q pc ρ (a_I x :: st) h := by
  intro A p e s m args below meth c Qm C T H locs ls hP hD hS hl hok
  refine lv_ineg C.1 C.2.1 (C.dec hi) ?_
  rw [← Int32.ofInt_neg]
  exact K A p e s m args below meth c Qm C T H locs ls hP hD hS hl (hok.tl.cons hz)
def ab_ladd (x y : Int) : Int := (Int64.ofInt x + Int64.ofInt y).toInt
theorem go_ladd {x y : Int} (hi : ab_at M pc .ladd 1) (K : Go g E M Q (pc + 1) ρ (a_L (ab_ladd x y) :: st) h) : Go g E M Q pc ρ (a_L y :: a_L x :: st) h := by
  intro A p e s m args below meth c Qm C T H locs ls hP hD hS hl hok
  refine lv_ladd C.1 C.2.1 (C.dec hi) ?_
  have := K A p e s m args below meth c Qm C T H locs ls hP hD hS hl (hok.tl.tl.cons (v := a_L (ab_ladd x y)) (ab_okL _))
  simpa only [List.map_cons, ab_cv, ab_ladd, Int64.ofInt_toInt] using this
def ab_lmul (x y : Int) : Int := (Int64.ofInt x * Int64.ofInt y).toInt
theorem go_lmul {x y : Int} (hi : ab_at M pc .lmul 1) (K : Go g E M Q (pc + 1) ρ (a_L (ab_lmul x y) :: st) h) : Go g E M Q pc ρ (a_L y :: a_L x :: st) h := by
  intro A p e s m args below meth c Qm C T H locs ls hP hD hS hl hok
  refine lv_lmul C.1 C.2.1 (C.dec hi) ?_
  have := K A p e s m args below meth c Qm C T H locs ls hP hD hS hl (hok.tl.tl.cons (v := a_L (ab_lmul x y)) (ab_okL _))
  simpa only [List.map_cons, ab_cv, ab_lmul, Int64.ofInt_toInt] using this
def ab_lsub (x y : Int) : Int := (Int64.ofInt x - Int64.ofInt y).toInt
theorem go_lsub {x y : Int} (hi : ab_at M pc .lsub 1) (K : Go g E M Q (pc + 1) ρ (a_L (ab_lsub x y) :: st) h) : Go g E M Q pc ρ (a_L y :: a_L x :: st) h := by
  intro A p e s m args below meth c Qm C T H locs ls hP hD hS hl hok
  refine lv_lsub C.1 C.2.1 (C.dec hi) ?_
  have := K A p e s m args below meth c Qm C T H locs ls hP hD hS hl (hok.tl.tl.cons (v := a_L (ab_lsub x y)) (ab_okL _))
  simpa only [List.map_cons, ab_cv, ab_lsub, Int64.ofInt_toInt] using this
def ab_land (x y : Int) : Int := (Int64.ofInt x &&& Int64.ofInt y).toInt
theorem go_land {x y : Int} (hi : ab_at M pc .land 1) (K : Go g E M Q (pc + 1) ρ (a_L (ab_land x y) :: st) h) : Go g E M Q pc ρ (a_L y :: a_L x :: st) h := by
  intro A p e s m args below meth c Qm C T H locs ls hP hD hS hl hok
  refine lv_land C.1 C.2.1 (C.dec hi) ?_
  have := K A p e s m args below meth c Qm C T H locs ls hP hD hS hl (hok.tl.tl.cons (v := a_L (ab_land x y)) (ab_okL _))
  simpa only [List.map_cons, ab_cv, ab_land, Int64.ofInt_toInt] using this
def ab_lor (x y : Int) : Int := (Int64.ofInt x ||| Int64.ofInt y).toInt
theorem go_lor {x y : Int} (hi : ab_at M pc .lor 1) (K : Go g E M Q (pc + 1) ρ (a_L (ab_lor x y) :: st) h) : Go g E M Q pc ρ (a_L y :: a_L x :: st) h := by
  intro A p e s m args below meth c Qm C T H locs ls hP hD hS hl hok
  refine lv_lor C.1 C.2.1 (C.dec hi) ?_
  have := K A p e s m args below meth c Qm C T H locs ls hP hD hS hl (hok.tl.tl.cons (v := a_L (ab_lor x y)) (ab_okL _))
  simpa only [List.map_cons, ab_cv, ab_lor, Int64.ofInt_toInt] using this
def ab_lshl (x y : Int) : Int := (Int64.ofInt x <<< ((Int32.ofInt y).toInt64 &&& 63)).toInt
theorem go_lshl {x y : Int} (hi : ab_at M pc .lshl 1) (K : Go g E M Q (pc + 1) ρ (a_L (ab_lshl x y) :: st) h) : Go g E M Q pc ρ (a_I y :: a_L x :: st) h := by
  intro A p e s m args below meth c Qm C T H locs ls hP hD hS hl hok
  refine lv_lshl C.1 C.2.1 (C.dec hi) rfl ?_
  have := K A p e s m args below meth c Qm C T H locs ls hP hD hS hl (hok.tl.tl.cons (v := a_L (ab_lshl x y)) (ab_okL _))
  simpa only [List.map_cons, ab_cv, ab_lshl, Int64.ofInt_toInt] using this
def ab_lshr (x y : Int) : Int := (Int64.ofInt x >>> ((Int32.ofInt y).toInt64 &&& 63)).toInt
theorem go_lshr {x y : Int} (hi : ab_at M pc .lshr 1) (K : Go g E M Q (pc + 1) ρ (a_L (ab_lshr x y) :: st) h) : Go g E M Q pc ρ (a_I y :: a_L x :: st) h := by
  intro A p e s m args below meth c Qm C T H locs ls hP hD hS hl hok
  refine lv_lshr C.1 C.2.1 (C.dec hi) rfl ?_
  have := K A p e s m args below meth c Qm C T H locs ls hP hD hS hl (hok.tl.tl.cons (v := a_L (ab_lshr x y)) (ab_okL _))
  simpa only [List.map_cons, ab_cv, ab_lshr, Int64.ofInt_toInt] using this
def ab_lushr (x y : Int) : Int := ((Int64.ofInt x).toUInt64 >>> ((Int32.ofInt y).toInt64.toUInt64 &&& Int64.toUInt64 63)).toInt64.toInt
theorem go_lushr {x y : Int} (hi : ab_at M pc .lushr 1) (K : Go g E M Q (pc + 1) ρ (a_L (ab_lushr x y) :: st) h) : Go g E M Q pc ρ (a_I y :: a_L x :: st) h := by
  intro A p e s m args below meth c Qm C T H locs ls hP hD hS hl hok
  refine lv_lushr C.1 C.2.1 (C.dec hi) rfl ?_
  have := K A p e s m args below meth c Qm C T H locs ls hP hD hS hl (hok.tl.tl.cons (v := a_L (ab_lushr x y)) (ab_okL _))
  simpa only [List.map_cons, ab_cv, ab_lushr, Int64.ofInt_toInt] using this
theorem go_i2l {x : Int} (hi : ab_at M pc .i2l 1) (K : Go g E M Q (pc + 1) ρ (a_L x :: st) h) : Go g E M Q pc ρ (a_I x :: st) h := by
  intro A p e s m args below meth c Qm C T H locs ls hP hD hS hl hok
  have hx : ab_iok x := hok.top
  have hx2 : ab_lok x := by unfold ab_iok at hx; unfold ab_lok; omega
  refine lv_i2l C.1 C.2.1 (C.dec hi) (v := Int64.ofInt x) ?_ (K A p e s m args below meth c Qm C T H locs ls hP hD hS hl (hok.tl.cons hx2))
  rw [← Int64.toInt_inj, Int32.toInt_toInt64, ab_ti hx, ab_tl hx2]
def ab_l2i (x : Int) : Int := (Int64.ofInt x).toInt32.toInt
theorem go_l2i {x : Int} (hi : ab_at M pc .l2i 1) (K : Go g E M Q (pc + 1) ρ (a_I (ab_l2i x) :: st) h) : Go g E M Q pc ρ (a_L x :: st) h := by
  intro A p e s m args below meth c Qm C T H locs ls hP hD hS hl hok
  refine lv_l2i C.1 C.2.1 (C.dec hi) rfl ?_
  have := K A p e s m args below meth c Qm C T H locs ls hP hD hS hl (hok.tl.cons (v := a_I (ab_l2i x)) (ab_okI _))
  simpa only [List.map_cons, ab_cv, ab_l2i, Int32.ofInt_toInt] using this
def ab_i2b (x : Int) : Int := (Int32.ofInt x).toInt8.toInt32.toInt
theorem go_i2b {x : Int} (hi : ab_at M pc .i2b 1) (K : Go g E M Q (pc + 1) ρ (a_I (ab_i2b x) :: st) h) : Go g E M Q pc ρ (a_I x :: st) h := by
  intro A p e s m args below meth c Qm C T H locs ls hP hD hS hl hok
  refine lv_i2b C.1 C.2.1 (C.dec hi) rfl ?_
  have := K A p e s m args below meth c Qm C T H locs ls hP hD hS hl (hok.tl.cons (v := a_I (ab_i2b x)) (ab_okI _))
  simpa only [List.map_cons, ab_cv, ab_i2b, Int32.ofInt_toInt] using this
def ab_i2s (x : Int) : Int := (Int32.ofInt x).toInt16.toInt32.toInt
theorem go_i2s {x : Int} (hi : ab_at M pc .i2s 1) (K : Go g E M Q (pc + 1) ρ (a_I (ab_i2s x) :: st) h) : Go g E M Q pc ρ (a_I x :: st) h := by
  intro A p e s m args below meth c Qm C T H locs ls hP hD hS hl hok
  refine lv_i2s C.1 C.2.1 (C.dec hi) rfl ?_
  have := K A p e s m args below meth c Qm C T H locs ls hP hD hS hl (hok.tl.cons (v := a_I (ab_i2s x)) (ab_okI _))
  simpa only [List.map_cons, ab_cv, ab_i2s, Int32.ofInt_toInt] using this
def ab_lcmp (x y : Int) : Int := if x < y then -1 else if y < x then 1 else 0
theorem go_lcmp {x y : Int} (hi : ab_at M pc .lcmp 1) (K : Go g E M Q (pc + 1) ρ (a_I (ab_lcmp x y) :: st) h) : Go g E M Q pc ρ (a_L y :: a_L x :: st) h := by
  intro A p e s m args below meth c Qm C T H locs ls hP hD hS hl hok
  have hy : ab_lok y := hok.top
  have hx : ab_lok x := hok.tl.top
  refine W.lcmp C.1 C.2.1 (C.dec hi) ?_
  have hv : ab_iok (ab_lcmp x y) := by unfold ab_lcmp ab_iok; split <;> (try split) <;> omega
  have := K A p e s m args below meth c Qm C T H locs ls hP hD hS hl (hok.tl.tl.cons (v := a_I (ab_lcmp x y)) hv)
  have e : lg_cmp (Int64.ofInt x) (Int64.ofInt y) = Int32.ofInt (ab_lcmp x y) := by
    have e1 : Int64.ofInt y < Int64.ofInt x ↔ y < x := by rw [Int64.lt_iff_toInt_lt, ab_tl hx, ab_tl hy]
    have e2 : Int64.ofInt x = Int64.ofInt y ↔ x = y := by rw [← Int64.toInt_inj, ab_tl hx, ab_tl hy]
    simp only [lg_cmp, ab_lcmp, e1, e2]
    rcases Int.lt_trichotomy x y with q | q | q
    · simp [q, show ¬ y < x by omega, show ¬ x = y by omega]
    · simp [q]
    · simp [q, show ¬ x < y by omega]
  rw [e]
  exact this
theorem go_dup {v : ab_V} (hi : ab_at M pc .dup 1) (K : Go g E M Q (pc + 1) ρ (v :: v :: st) h) (hc : ∀ z, v ≠ a_L z := by intro z q; cases q) : Go g E M Q pc ρ (v :: st) h := by
  intro A p e s m args below meth c Qm C T H locs ls hP hD hS hl hok
  have h1 : (ab_cv g v).category = 1 := by rcases lv_cat (ab_cv g v) with q | q; exact q; obtain ⟨z, hz⟩ := ab_cat1 q; exact absurd hz (hc z)
  exact lv_dup C.1 C.2.1 (C.dec hi) h1 (K A p e s m args below meth c Qm C T H locs ls hP hD hS hl (hok.cons hok.top))
theorem go_pop {v : ab_V} (hi : ab_at M pc .pop 1) (K : Go g E M Q (pc + 1) ρ st h) (hc : ∀ z, v ≠ a_L z := by intro z q; cases q) : Go g E M Q pc ρ (v :: st) h := by
  intro A p e s m args below meth c Qm C T H locs ls hP hD hS hl hok
  have h1 : (ab_cv g v).category = 1 := by rcases lv_cat (ab_cv g v) with q | q; exact q; obtain ⟨z, hz⟩ := ab_cat1 q; exact absurd hz (hc z)
  exact lv_pop C.1 C.2.1 (C.dec hi) h1 (K A p e s m args below meth c Qm C T H locs ls hP hD hS hl hok.tl)
theorem go_dup2 {x : Int} {k : Nat} (hi : ab_at M pc .dup2 1) (K : Go g E M Q (pc + 1) ρ (a_I x :: a_R k :: a_I x :: a_R k :: st) h) : Go g E M Q pc ρ (a_I x :: a_R k :: st) h := by
  intro A p e s m args below meth c Qm C T H locs ls hP hD hS hl hok
  exact lv_dup2_11 C.1 C.2.1 (C.dec hi) rfl rfl (K A p e s m args below meth c Qm C T H locs ls hP hD hS hl ((hok.cons (v := a_R k) trivial).cons hok.top))
theorem go_icmp_eq {x y off : Int} {tgt : Nat} (hi : ab_at M pc (.if_icmp .eq off) 3) (ht : (pc : Int) + off = (tgt : Int)) (kt : x = y → Go g E M Q (tgt) ρ st h) (kf : ¬ x = y → Go g E M Q (pc + 3) ρ st h) : Go g E M Q pc ρ (a_I y :: a_I x :: st) h := by
  intro A p e s m args below meth c Qm C T H locs ls hP hD hS hl hok
  have hy : ab_iok y := hok.top
  have hx : ab_iok x := hok.tl.top
  have hq := hok.tl.tl
  exact lv_icmp_eq C.1 C.2.1 (C.dec hi) ht (fun q => kt ((ab_eq hx hy).mp q) A p e s m args below meth c Qm C T H locs ls hP hD hS hl hq) (fun q => kf (fun z => q ((ab_eq hx hy).mpr z)) A p e s m args below meth c Qm C T H locs ls hP hD hS hl hq)
theorem go_if_eq {x off : Int} {tgt : Nat} (hi : ab_at M pc (.ifCond .eq off) 3) (ht : (pc : Int) + off = (tgt : Int)) (kt : x = 0 → Go g E M Q (tgt) ρ st h) (kf : ¬ x = 0 → Go g E M Q (pc + 3) ρ st h) : Go g E M Q pc ρ (a_I x :: st) h := by
  intro A p e s m args below meth c Qm C T H locs ls hP hD hS hl hok
  have hx : ab_iok x := hok.top
  have hy := ab_iok0
  have hq := hok.tl
  exact lv_if_eq C.1 C.2.1 (C.dec hi) ht (fun q => kt ((ab_eq hx hy).mp q) A p e s m args below meth c Qm C T H locs ls hP hD hS hl hq) (fun q => kf (fun z => q ((ab_eq hx hy).mpr z)) A p e s m args below meth c Qm C T H locs ls hP hD hS hl hq)
theorem go_icmp_ne {x y off : Int} {tgt : Nat} (hi : ab_at M pc (.if_icmp .ne off) 3) (ht : (pc : Int) + off = (tgt : Int)) (kt : ¬ x = y → Go g E M Q (tgt) ρ st h) (kf : x = y → Go g E M Q (pc + 3) ρ st h) : Go g E M Q pc ρ (a_I y :: a_I x :: st) h := by
  intro A p e s m args below meth c Qm C T H locs ls hP hD hS hl hok
  have hy : ab_iok y := hok.top
  have hx : ab_iok x := hok.tl.top
  have hq := hok.tl.tl
  exact lv_icmp_ne C.1 C.2.1 (C.dec hi) ht (fun q => kt (fun z => q ((ab_eq hx hy).mpr z)) A p e s m args below meth c Qm C T H locs ls hP hD hS hl hq) (fun q => kf ((ab_eq hx hy).mp q) A p e s m args below meth c Qm C T H locs ls hP hD hS hl hq)
theorem go_if_ne {x off : Int} {tgt : Nat} (hi : ab_at M pc (.ifCond .ne off) 3) (ht : (pc : Int) + off = (tgt : Int)) (kt : ¬ x = 0 → Go g E M Q (tgt) ρ st h) (kf : x = 0 → Go g E M Q (pc + 3) ρ st h) : Go g E M Q pc ρ (a_I x :: st) h := by
  intro A p e s m args below meth c Qm C T H locs ls hP hD hS hl hok
  have hx : ab_iok x := hok.top
  have hy := ab_iok0
  have hq := hok.tl
  exact lv_if_ne C.1 C.2.1 (C.dec hi) ht (fun q => kt (fun z => q ((ab_eq hx hy).mpr z)) A p e s m args below meth c Qm C T H locs ls hP hD hS hl hq) (fun q => kf ((ab_eq hx hy).mp q) A p e s m args below meth c Qm C T H locs ls hP hD hS hl hq)
theorem go_icmp_lt {x y off : Int} {tgt : Nat} (hi : ab_at M pc (.if_icmp .lt off) 3) (ht : (pc : Int) + off = (tgt : Int)) (kt : x < y → Go g E M Q (tgt) ρ st h) (kf : ¬ x < y → Go g E M Q (pc + 3) ρ st h) : Go g E M Q pc ρ (a_I y :: a_I x :: st) h := by
  intro A p e s m args below meth c Qm C T H locs ls hP hD hS hl hok
  have hy : ab_iok y := hok.top
  have hx : ab_iok x := hok.tl.top
  have hq := hok.tl.tl
  exact lv_icmp_lt C.1 C.2.1 (C.dec hi) ht (fun q => kt ((ab_lt hx hy).mp q) A p e s m args below meth c Qm C T H locs ls hP hD hS hl hq) (fun q => kf (fun z => q ((ab_lt hx hy).mpr z)) A p e s m args below meth c Qm C T H locs ls hP hD hS hl hq)
theorem go_if_lt {x off : Int} {tgt : Nat} (hi : ab_at M pc (.ifCond .lt off) 3) (ht : (pc : Int) + off = (tgt : Int)) (kt : x < 0 → Go g E M Q (tgt) ρ st h) (kf : ¬ x < 0 → Go g E M Q (pc + 3) ρ st h) : Go g E M Q pc ρ (a_I x :: st) h := by
  intro A p e s m args below meth c Qm C T H locs ls hP hD hS hl hok
  have hx : ab_iok x := hok.top
  have hy := ab_iok0
  have hq := hok.tl
  exact lv_if_lt C.1 C.2.1 (C.dec hi) ht (fun q => kt ((ab_lt hx hy).mp q) A p e s m args below meth c Qm C T H locs ls hP hD hS hl hq) (fun q => kf (fun z => q ((ab_lt hx hy).mpr z)) A p e s m args below meth c Qm C T H locs ls hP hD hS hl hq)
theorem go_icmp_ge {x y off : Int} {tgt : Nat} (hi : ab_at M pc (.if_icmp .ge off) 3) (ht : (pc : Int) + off = (tgt : Int)) (kt : y ≤ x → Go g E M Q (tgt) ρ st h) (kf : ¬ y ≤ x → Go g E M Q (pc + 3) ρ st h) : Go g E M Q pc ρ (a_I y :: a_I x :: st) h := by
  intro A p e s m args below meth c Qm C T H locs ls hP hD hS hl hok
  have hy : ab_iok y := hok.top
  have hx : ab_iok x := hok.tl.top
  have hq := hok.tl.tl
  exact lv_icmp_ge C.1 C.2.1 (C.dec hi) ht (fun q => kt ((ab_le hy hx).mp q) A p e s m args below meth c Qm C T H locs ls hP hD hS hl hq) (fun q => kf (fun z => q ((ab_le hy hx).mpr z)) A p e s m args below meth c Qm C T H locs ls hP hD hS hl hq)
theorem go_if_ge {x off : Int} {tgt : Nat} (hi : ab_at M pc (.ifCond .ge off) 3) (ht : (pc : Int) + off = (tgt : Int)) (kt : 0 ≤ x → Go g E M Q (tgt) ρ st h) (kf : ¬ 0 ≤ x → Go g E M Q (pc + 3) ρ st h) : Go g E M Q pc ρ (a_I x :: st) h := by
  intro A p e s m args below meth c Qm C T H locs ls hP hD hS hl hok
  have hx : ab_iok x := hok.top
  have hy := ab_iok0
  have hq := hok.tl
  exact lv_if_ge C.1 C.2.1 (C.dec hi) ht (fun q => kt ((ab_le hy hx).mp q) A p e s m args below meth c Qm C T H locs ls hP hD hS hl hq) (fun q => kf (fun z => q ((ab_le hy hx).mpr z)) A p e s m args below meth c Qm C T H locs ls hP hD hS hl hq)
theorem go_icmp_gt {x y off : Int} {tgt : Nat} (hi : ab_at M pc (.if_icmp .gt off) 3) (ht : (pc : Int) + off = (tgt : Int)) (kt : y < x → Go g E M Q (tgt) ρ st h) (kf : ¬ y < x → Go g E M Q (pc + 3) ρ st h) : Go g E M Q pc ρ (a_I y :: a_I x :: st) h := by
  intro A p e s m args below meth c Qm C T H locs ls hP hD hS hl hok
  have hy : ab_iok y := hok.top
  have hx : ab_iok x := hok.tl.top
  have hq := hok.tl.tl
  exact lv_icmp_gt C.1 C.2.1 (C.dec hi) ht (fun q => kt ((ab_lt hy hx).mp q) A p e s m args below meth c Qm C T H locs ls hP hD hS hl hq) (fun q => kf (fun z => q ((ab_lt hy hx).mpr z)) A p e s m args below meth c Qm C T H locs ls hP hD hS hl hq)
theorem go_if_gt {x off : Int} {tgt : Nat} (hi : ab_at M pc (.ifCond .gt off) 3) (ht : (pc : Int) + off = (tgt : Int)) (kt : 0 < x → Go g E M Q (tgt) ρ st h) (kf : ¬ 0 < x → Go g E M Q (pc + 3) ρ st h) : Go g E M Q pc ρ (a_I x :: st) h := by
  intro A p e s m args below meth c Qm C T H locs ls hP hD hS hl hok
  have hx : ab_iok x := hok.top
  have hy := ab_iok0
  have hq := hok.tl
  exact lv_if_gt C.1 C.2.1 (C.dec hi) ht (fun q => kt ((ab_lt hy hx).mp q) A p e s m args below meth c Qm C T H locs ls hP hD hS hl hq) (fun q => kf (fun z => q ((ab_lt hy hx).mpr z)) A p e s m args below meth c Qm C T H locs ls hP hD hS hl hq)
theorem go_icmp_le {x y off : Int} {tgt : Nat} (hi : ab_at M pc (.if_icmp .le off) 3) (ht : (pc : Int) + off = (tgt : Int)) (kt : x ≤ y → Go g E M Q (tgt) ρ st h) (kf : ¬ x ≤ y → Go g E M Q (pc + 3) ρ st h) : Go g E M Q pc ρ (a_I y :: a_I x :: st) h := by
  intro A p e s m args below meth c Qm C T H locs ls hP hD hS hl hok
  have hy : ab_iok y := hok.top
  have hx : ab_iok x := hok.tl.top
  have hq := hok.tl.tl
  exact lv_icmp_le C.1 C.2.1 (C.dec hi) ht (fun q => kt ((ab_le hx hy).mp q) A p e s m args below meth c Qm C T H locs ls hP hD hS hl hq) (fun q => kf (fun z => q ((ab_le hx hy).mpr z)) A p e s m args below meth c Qm C T H locs ls hP hD hS hl hq)
theorem go_if_le {x off : Int} {tgt : Nat} (hi : ab_at M pc (.ifCond .le off) 3) (ht : (pc : Int) + off = (tgt : Int)) (kt : x ≤ 0 → Go g E M Q (tgt) ρ st h) (kf : ¬ x ≤ 0 → Go g E M Q (pc + 3) ρ st h) : Go g E M Q pc ρ (a_I x :: st) h := by
  intro A p e s m args below meth c Qm C T H locs ls hP hD hS hl hok
  have hx : ab_iok x := hok.top
  have hy := ab_iok0
  have hq := hok.tl
  exact lv_if_le C.1 C.2.1 (C.dec hi) ht (fun q => kt ((ab_le hx hy).mp q) A p e s m args below meth c Qm C T H locs ls hP hD hS hl hq) (fun q => kf (fun z => q ((ab_le hx hy).mpr z)) A p e s m args below meth c Qm C T H locs ls hP hD hS hl hq)
theorem go_goto {off : Int} {tgt : Nat} (hi : ab_at M pc (.goto off) 3) (ht : (pc : Int) + off = (tgt : Int)) (K : Go g E M Q (tgt) ρ st h) : Go g E M Q pc ρ st h := by
  intro A p e s m args below meth c Qm C T H locs ls hP hD hS hl hok
  exact lv_goto C.1 C.2.1 (C.dec hi) ht (K A p e s m args below meth c Qm C T H locs ls hP hD hS hl hok)
theorem go_tableIn {x dflt lo hi off : Int} {offs : Array Int} {len tgt : Nat} (hd : ab_at M pc (.tableswitch dflt lo hi offs) len) (h1 : lo ≤ x) (h2 : x ≤ hi) (ho : offs[(x - lo).toNat]? = some off) (ht : (pc : Int) + off = (tgt : Int)) (K : Go g E M Q (tgt) ρ st h) : Go g E M Q pc ρ (a_I x :: st) h := by
  intro A p e s m args below meth c Qm C T H locs ls hP hD hS hl hok
  have ex := ab_ti (z := x) hok.top
  exact lv_tableIn C.1 C.2.1 (C.dec hd) (by rw [ex]; omega) (by rw [ex]; omega) (by rw [ex]; exact ho) ht (K A p e s m args below meth c Qm C T H locs ls hP hD hS hl hok.tl)
theorem go_tableOut {x dflt lo hi : Int} {offs : Array Int} {len tgt : Nat} (hd : ab_at M pc (.tableswitch dflt lo hi offs) len) (h1 : x < lo ∨ hi < x) (ht : (pc : Int) + dflt = (tgt : Int)) (K : Go g E M Q (tgt) ρ st h) : Go g E M Q pc ρ (a_I x :: st) h := by
  intro A p e s m args below meth c Qm C T H locs ls hP hD hS hl hok
  have ex := ab_ti (z := x) hok.top
  exact lv_tableOut C.1 C.2.1 (C.dec hd) (by rw [ex]; exact h1) ht (K A p e s m args below meth c Qm C T H locs ls hP hD hS hl hok.tl)
theorem go_iret {z : Int} (hi : ab_at M pc .ireturn 1) (hr : M.2.2.2.1 = some .int ∨ (M.2.2.2.1 = some .boolean ∧ (z = 0 ∨ z = 1))) (hq : Q (some (a_I z)) h) : Go g E M Q pc ρ [a_I z] h := by
  intro A p e s m args below meth c Qm C T H locs ls hP hD hS hl hok
  exact T H locs ls pc (some (a_I z)) h hq hok.1 (fun v e => by cases e; exact hok.top) hP hD hS (Or.inr (Or.inl ⟨z, rfl, C.dec hi, hr⟩))
theorem go_lret {z : Int} (hi : ab_at M pc .lreturn 1) (hr : M.2.2.2.1 = some .long) (hq : Q (some (a_L z)) h) : Go g E M Q pc ρ [a_L z] h := by
  intro A p e s m args below meth c Qm C T H locs ls hP hD hS hl hok
  exact T H locs ls pc (some (a_L z)) h hq hok.1 (fun v e => by cases e; exact hok.top) hP hD hS (Or.inr (Or.inr ⟨z, rfl, C.dec hi, hr⟩))
theorem go_ret (hi : ab_at M pc .return_ 1) (hr : M.2.2.2.1 = none) (hq : Q none h) : Go g E M Q pc ρ [] h := by
  intro A p e s m args below meth c Qm C T H locs ls hP hD hS hl hok
  exact T H locs ls pc none h hq hok.1 (fun v e => by cases e) hP hD hS (Or.inl ⟨rfl, C.dec hi, hr⟩)
end GO
