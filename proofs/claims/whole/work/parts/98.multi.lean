/-! rows of rows of ints: 'multianewarray' of two dimensions, as a row over worlds -/
def mu_f (h : Nat) : Nat → Nat → Value
  | 0 => fun _ => .null
  | i + 1 => updV (mu_f h i) i (.ref (h + 1 + i))
theorem mu_val (h : Nat) : ∀ i j : Nat, mu_f h i j = va_rf (if j < i then some (h + 1 + j) else none)
  | 0, j => by rw [if_neg (by omega)]; rfl
  | i + 1, j => by
    show updV (mu_f h i) i (.ref (h + 1 + i)) j = _
    unfold updV
    by_cases e : j = i
    · subst e; rw [if_pos rfl, if_pos (by omega)]; rfl
    · rw [if_neg e, mu_val h i j]
      by_cases z : j < i
      · rw [if_pos z, if_pos (by omega)]
      · rw [if_neg z, if_neg (by omega)]
abbrev mu_i (cI : ClassId) (K : Nat) : Cell := arrV cI K (fun _ => .int 0)
/-- the state with the outer row and i of its inner rows -/
def mu_S (s : State) (cA cI : ClassId) (N K : Nat) : Nat → State
  | 0 => s.pushCell (arrV cA N (mu_f s.heap.size 0))
  | i + 1 => ((mu_S s cA cI N K i).pushCell (mu_i cI K)).setCell s.heap.size (arrV cA N (mu_f s.heap.size (i + 1)))
theorem mu_at (s : State) (cA cI : ClassId) (N K : Nat) : ∀ i : Nat, (mu_S s cA cI N K i).heap.size = s.heap.size + 1 + i ∧ (mu_S s cA cI N K i).vm = s.vm ∧ (mu_S s cA cI N K i).slotsUsed = s.slotsUsed + N + i * K ∧
    ∀ q : Nat, (mu_S s cA cI N K i).heap[q]? = if q = s.heap.size then some (arrV cA N (mu_f s.heap.size i)) else if s.heap.size < q ∧ q ≤ s.heap.size + i then some (mu_i cI K) else s.heap[q]?
  | 0 => by
    refine ⟨by simp [mu_S, State.pushCell], rfl, by simp [mu_S, State.pushCell, arrV_size], fun q => ?_⟩
    show (s.heap.push _)[q]? = _
    rw [Array.getElem?_push]
    by_cases e : q = s.heap.size
    · rw [if_pos e, if_pos e]
    · rw [if_neg e, if_neg e, if_neg (by omega)]
  | i + 1 => by
    obtain ⟨a, b, d, f⟩ := mu_at s cA cI N K i
    refine ⟨?_, b, ?_, fun q => ?_⟩
    · show (((mu_S s cA cI N K i).heap.push _).setIfInBounds _ _).size = _
      rw [Array.size_setIfInBounds, Array.size_push, a]
      omega
    · show (mu_S s cA cI N K i).slotsUsed + (mu_i cI K).slots.size = _
      rw [d, arrV_size, Nat.succ_mul]
      omega
    · show (((mu_S s cA cI N K i).heap.push (mu_i cI K)).setIfInBounds s.heap.size (arrV cA N (mu_f s.heap.size (i + 1))))[q]? = _
      rw [Array.getElem?_setIfInBounds, Array.size_push, a]
      by_cases e : q = s.heap.size
      · rw [if_pos e.symm, if_pos (by omega), if_pos e]
      · rw [if_neg (fun z => e z.symm), if_neg e, Array.getElem?_push, a]
        by_cases z : q = s.heap.size + 1 + i
        · rw [if_pos z, if_pos (by omega)]
        · rw [if_neg z, f q, if_neg e]
          by_cases w : s.heap.size < q ∧ q ≤ s.heap.size + i
          · rw [if_pos w, if_pos (by omega)]
          · rw [if_neg w, if_neg (by omega)]
theorem mu_top (s : State) (f : JFrame) (cA cI : ClassId) (N K : Nat) : ∀ i : Nat, mu_S (s.setTop f) cA cI N K i = (mu_S s cA cI N K i).setTop f
  | 0 => rfl
  | i + 1 => by
    unfold mu_S
    rw [mu_top s f cA cI N K i]
    simp only [State.heap_setTop, State.pushCell_setTop, State.setCell_setTop]
section MU
variable {p : Program} {l : Launch} {e : Env} {R : Room} {s : State} {m : MethodId} {args : Array Value} {below : List Frame} {meth : Method} {c : Code} {T : State} {locs : List Loc} {cells slots : Nat}
theorem mu_stand (X : Stand p l e R s m args below meth c T locs cells slots) (cA cI : ClassId) (N K : Nat) : ∀ i : Nat, ∃ L : List Loc, (∀ x ∈ L, x ∈ locs ∨ x.base = T.heap.size) ∧ Stand p l e R s m args below meth c (mu_S T cA cI N K i) L (cells + 1 + i) (slots + N + i * K)
  | 0 => by
    have h := X.pushed (arrV cA N (mu_f T.heap.size 0))
    rw [arrV_size] at h
    exact ⟨locs, fun x hx => Or.inl hx, by rw [Nat.zero_mul]; exact h⟩
  | i + 1 => by
    obtain ⟨L, hL, Xi⟩ := mu_stand X cA cI N K i
    obtain ⟨a, -, -, f⟩ := mu_at T cA cI N K i
    have hc : ((mu_S T cA cI N K i).pushCell (mu_i cI K)).heap[T.heap.size]? = some (arrV cA N (mu_f T.heap.size i)) := by
      show ((mu_S T cA cI N K i).heap.push _)[T.heap.size]? = _
      rw [Array.getElem?_push, if_neg (by omega), f, if_pos rfl]
    have h := (Xi.pushed (mu_i cI K)).stored hc i (.ref (T.heap.size + 1 + i))
    rw [arrV_store, arrV_size] at h
    refine ⟨L ++ [⟨T.heap.size, i⟩], fun x hx => ?_, ?_⟩
    · rcases List.mem_append.mp hx with z | z
      · exact hL x z
      · rw [List.mem_singleton.mp z]; exact Or.inr rfl
    · rw [show slots + N + (i + 1) * K = slots + N + i * K + K by rw [Nat.succ_mul]; omega]
      exact h
end MU
section MW
variable {E : CtlPost} {e : Env} {d : Bool} {acts : List Action} {s : State}
theorem mu_make1 {cI cc : ClassId} {kI : Class} {k : Int32} {K : Nat} (hkI : s.vm.classes[cI]? = some kI) (hI : kI.kind = .array cc .int) (hk : ¬ k < 0) (hK : k.toNatClampNeg = K) (hl : ¬ K > e.platform.arrayLengthLimit) (hh : ¬ K * 4 > e.platform.maxHeapBytes) (h1 : s.heap.size < e.platform.maxCells) (h2 : s.slotsUsed + K ≤ e.platform.maxSlots) {Q : Addr → Pre} (hq : ∀ acts', Q s.heap.size d acts' (s.pushCell (mu_i cI K))) : wp (multianewarray.make cI [k]) Q E e d acts s := by
  subst hK
  rw [multianewarray.make]
  simp only [wp_bind', W.ite, hk, if_false, wp_pure', W.theClass, hkI, hI, Option.some.injEq, exists_eq_left']
  refine W.newArray_of hkI hI hl hh h1 h2 rfl (fun acts' => ?_)
  have := hq acts'
  rw [mu_i, ← arrV_new] at this
  exact this
theorem mu_make2 {cA cI cc : ClassId} {kA kI : Class} {n k : Int32} {N K : Nat} (hkA : s.vm.classes[cA]? = some kA) (hA : kA.kind = .array cI (.array .int)) (hkI : s.vm.classes[cI]? = some kI) (hI : kI.kind = .array cc .int) (hn : ¬ n < 0) (hk : ¬ k < 0) (hN : n.toNatClampNeg = N) (hK : k.toNatClampNeg = K)
    (hl1 : ¬ N > e.platform.arrayLengthLimit) (hh1 : ¬ N * 4 > e.platform.maxHeapBytes) (hl : ¬ K > e.platform.arrayLengthLimit) (hh : ¬ K * 4 > e.platform.maxHeapBytes) (h1 : s.heap.size + 1 + N ≤ e.platform.maxCells) (h2 : s.slotsUsed + N + N * K ≤ e.platform.maxSlots) {Q : Addr → Pre} (hq : ∀ d' acts', Q s.heap.size d' acts' (mu_S s cA cI N K N)) : wp (multianewarray.make cA [n, k]) Q E e d acts s := by
  have hNK := Nat.zero_le (N * K)
  rw [multianewarray.make]
  simp only [wp_bind', W.ite, hn, if_false, wp_pure', W.theClass, hkA, hA, Option.some.injEq, exists_eq_left', hN]
  refine W.newArray_of hkA hA hl1 hh1 (by omega) (by omega) rfl (fun acts' => ?_)
  have hfind : ([k].find? (· < 0)) = none := by simp [hk]
  simp only [hfind]
  rw [ite_self, wp_bind', Std.Legacy.Range.forIn_eq_forIn_range']
  have hsz : ([:N] : Std.Legacy.Range).size = N := by simp [Std.Legacy.Range.size]
  rw [hsz]
  have e0 : (s.pushCell { cls := cA, slots := Array.replicate N .null } : State) = mu_S s cA cI N K 0 := by
    show s.pushCell _ = s.pushCell _
    rw [show (mu_f s.heap.size 0) = fun _ => Value.null from rfl, ← arrV_new]
  rw [e0]
  refine wp_forIn_inv (fun r s' => ∃ i, i ≤ N ∧ r = List.range' i (N - i) ∧ s' = mu_S s cA cI N K i) _ _ ⟨0, Nat.zero_le _, rfl, rfl⟩ (fun x r s' d' acts2 Q' hI2 hnext => ?_) (fun s' d' acts2 hI2 => ?_)
  · obtain ⟨i, hi, hr, rfl⟩ := hI2
    have hlt : i < N := by
      refine Nat.lt_of_le_of_ne hi (fun z => ?_)
      rw [z, Nat.sub_self] at hr
      cases hr
    rw [show N - i = (N - (i + 1)) + 1 by omega, List.range'_succ] at hr
    obtain ⟨rfl, rfl⟩ := List.cons.inj hr
    obtain ⟨a, b, u, f⟩ := mu_at s cA cI N K x
    have hm : x * K + K ≤ N * K := by
      have := Nat.mul_le_mul_right K (show x + 1 ≤ N from hlt)
      rw [Nat.succ_mul] at this
      exact this
    simp only [wp_bind']
    refine mu_make1 (by rw [b]; exact hkI) hI hk hK hl hh (by rw [a]; omega) (by rw [u]; omega) (fun acts3 => ?_)
    simp only [wp_bind', W.writeLoc, wp_pure']
    have hc : ((mu_S s cA cI N K x).pushCell (mu_i cI K)).heap[s.heap.size]? = some (arrV cA N (mu_f s.heap.size x)) := by
      show ((mu_S s cA cI N K x).heap.push _)[s.heap.size]? = _
      rw [Array.getElem?_push, if_neg (by omega), f, if_pos rfl]
    refine ⟨_, hc, (fun z => by cases z), by rw [arrV_size]; exact hlt, ?_, hnext _ _ _ ⟨x + 1, hlt, rfl, ?_⟩⟩
    · show State.fitsSlot _ cA .none x _ = true
      simp [State.fitsSlot, State.slotType?, b, hkA, hA]
      rfl
    · rw [arrV_store, a]; rfl
  · obtain ⟨i, hi, hr, rfl⟩ := hI2
    have : i = N := by
      refine Nat.le_antisymm hi (Nat.le_of_not_lt fun z => ?_)
      rw [show N - i = (N - (i + 1)) + 1 by omega, List.range'_succ] at hr
      cases hr
    subst this
    simp only [wp_pure']
    exact hq _ _
end MW
/-- the class of int[][] is there, and its component is that of int[] -/
def mu_K (s : State) : Prop := ∃ (cI cA : ClassId) (kA : Class), s.vm.findClass "[I" = some cI ∧ s.vm.classes[cA]? = some kA ∧ kA.kind = .array cI (.array .int) ∧ s.vm.findClass "[[I" = some cA
theorem mu_K.moved {s U : State} (hvm : s.vm.Alike U.vm) (h : mu_K s) : mu_K U := by
  obtain ⟨cI, cA, kA, h1, h2, h3, h4⟩ := h
  obtain ⟨k', hk', he⟩ := hvm.2.2 _ _ h2
  exact ⟨cI, cA, k', by rw [hvm.findClass]; exact h1, hk', by rw [he]; exact h3, by rw [hvm.findClass]; exact h4⟩
theorem mu_over {args : Array Value} {s : State} (h : (Cond.arrayOver (.array .int)).before args s = true) : mu_K s := by
  have h : (Cond.arrayOver (.array .int)).holds args s none s [] = true := h
  simp only [Cond.holds, Cond.value, beq_iff_eq] at h
  cases hc : s.vm.findClass (FieldType.array .int).toString with
  | none => simp [hc] at h
  | some cI =>
    simp only [hc, Option.bind_some, Option.bind_eq_some_iff, Option.map_eq_some_iff] at h
    obtain ⟨cA, hi, kA, hk, hb⟩ := h
    obtain ⟨hlt, hp, -⟩ := Array.findIdx?_eq_some_iff_getElem.mp hi
    have e : s.vm.classes[cA] = kA := (Array.getElem?_eq_some_iff.mp hk).2
    rw [e] at hp
    cases hq : kA.kind with
    | array co ty =>
      rw [hq] at hb hp
      simp at hb hp
      exact ⟨cI, cA, kA, hc, hk, by rw [hq, hp, hb.1], hb.2⟩
    | _ => rw [hq] at hb; simp at hb
section MR2
variable {p : Program} {l : Launch} {e : Env} {R : Room} {s : State} {m : MethodId} {args : Array Value} {below : List Frame} {meth : Method} {c : Code} {H : Heap} {locs : List Loc} {cells slots : Nat} {Q : State → Prop}
/-- the row over the machine -/
theorem mu_W {cc : ByteArray} (hexec : p.tables.exec = Jvm.exec) (hb : c.code = cc) {own : String} {index pc N K : Nat} {ls : Array Slot} {rest : List Value} (hown : s.vm.findClass own = some m.cls) (hlink : (Cond.classLink own index "[[I").before args s = true) (hover : mu_K s) (harr : (Cond.arrayClass .int).before args s = true) (hdg : decode cc pc = .ok (.multianewarray index 2, 4)) {n k : Int32} (hn : ¬ n < 0) (hk : ¬ k < 0) (hN : n.toNatClampNeg = N) (hK : k.toNatClampNeg = K) (b1 : N ≤ 1000) (b2 : K ≤ 1000) (hcells : cells + (1 + N) ≤ R.cells) (hslots : slots + (N + N * K) ≤ R.slots)
    (kk : ∀ (H1 : Heap) (L : List Loc) (cA cI : ClassId), s.vm.findClass "[[I" = some cA → s.vm.findClass "[I" = some cI → H1.size = H.size + 1 + N → (∀ q : Nat, H1[q]? = if q = H.size then some (arrV cA N (mu_f H.size N)) else if H.size < q ∧ q ≤ H.size + N then some (mu_i cI K) else H[q]?) → (∀ x ∈ L, x ∈ locs ∨ x.base = H.size) →
      W p l e R s m args below meth c H1 L (cells + 1 + N) (slots + N + N * K) Q (F0 m (pc + 4) ls (.ref H.size :: rest))) : W p l e R s m args below meth c H locs cells slots Q (F0 m pc ls (.int k :: .int n :: rest)) := by
  intro T hT X
  subst hT; subst hb
  have hpl : e.platform.magicAccessors = ({} : Platform).magicAccessors := by rw [X.admits.platform]
  obtain ⟨cI, cA, kA, hcI, hkA, hA, hcA⟩ := hover
  obtain ⟨cI2, kI, cc2, hcI2, hkI, hI⟩ := Cond.arrayClass_spec harr
  cases Option.some.inj (hcI2.symm.trans hcI)
  obtain ⟨c0, hc0, hcl⟩ := Cond.classLink_spec hown hlink e.platform hpl
  cases hcA.symm.trans hc0
  obtain ⟨hg1, hw1, hr1⟩ := State.classEntry (e := e) X.warmed hcl
  generalize T.vm.noted m.cls index (.cls cA) = vm1 at hg1 hw1 hr1
  obtain ⟨kA1, hkA1, eA⟩ := hw1.alike.2.2 _ _ hkA
  obtain ⟨kI1, hkI1, eI⟩ := hw1.alike.2.2 _ _ hkI
  obtain ⟨L, hL, X1⟩ := mu_stand (X.noted hw1) cA cI N K N
  obtain ⟨a1, a2, a3, a4⟩ := mu_at (T.setVm vm1) cA cI N K N
  obtain ⟨r1, r2⟩ := X.roomAbove hcells hslots
  obtain ⟨t, st, qt⟩ := kk (mu_S (T.setVm vm1) cA cI N K N).heap L cA cI hcA hcI a1 a4 hL _ rfl X1
  refine ⟨t, ?_, qt⟩
  have hl1 : ¬ N > e.platform.arrayLengthLimit := by rw [Launch.admits_arrayLengthLimit X.admits]; omega
  have hh1 : ¬ N * 4 > e.platform.maxHeapBytes := by rw [Launch.admits_maxHeapBytes X.admits]; omega
  have hl2 : ¬ K > e.platform.arrayLengthLimit := by rw [Launch.admits_arrayLengthLimit X.admits]; omega
  have hh2 : ¬ K * 4 > e.platform.maxHeapBytes := by rw [Launch.admits_maxHeapBytes X.admits]; omega
  jvm_step X.here [hexec, hdg]
  simp only [multianewarray.sem, wp_bind', W.resolveClassAt_links (State.method?_setTop (F0 m pc ls (.int k :: .int n :: rest)) X.here.top) hg1]
  rw [W.popN, if_neg (by decide)]
  refine ⟨F0 m pc ls (.int k :: .int n :: rest), State.topJava?_setTop' (s := T.setVm vm1) (F0 m pc ls (.int k :: .int n :: rest)) X.here.top, [.int n, .int k], rest, rfl, rfl, ?_⟩
  simp only [List.mapM_cons, List.mapM_nil, wp_bind', wp_pure']
  refine mu_make2 (kA := kA1) (kI := kI1) hkA1 (by rw [eA]; exact hA) hkI1 (by rw [eI]; exact hI) hn hk hN hK hl1 hh1 hl2 hh2 (by show T.heap.size + 1 + N ≤ _; omega) (by show T.slotsUsed + N + N * K ≤ _; omega) (fun d' acts' => ?_)
  have eS : ((T.setTop (F0 m pc ls (.int k :: .int n :: rest))).setVm vm1).setTop { (F0 m pc ls (.int k :: .int n :: rest)) with stack := rest } = (T.setVm vm1).setTop { (F0 m pc ls (.int k :: .int n :: rest)) with stack := rest } := by
    show ((T.setVm vm1).setTop (F0 m pc ls (.int k :: .int n :: rest))).setTop _ = _
    rw [State.setTop_setTop]
  rw [eS, mu_top]
  simp only [wp_bind', W.mark, W.pushRef, State.setTop_setTop, State.heap_setTop]
  refine ⟨_, State.topJava?_setTop' _ X1.here.top, fun acts => ?_⟩
  simp [jvm, X1.here.top]
  exact st
end MR2
