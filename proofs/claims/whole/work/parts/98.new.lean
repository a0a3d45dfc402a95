/-! new rows over worlds, their classes known ahead -/
abbrev nc_ty (tc : Nat → ClassId) : List (ClassId × FieldType) := [(tc 0, .int), (tc 1, .boolean), (tc 2, .long), (tc 3, .array .int)]
/-- inner rows of an array of arrays at q -/
def nc_rows (cI : ClassId) (K q : Nat) : Nat → va_W
  | 0 => []
  | N + 1 => nc_rows cI K q N ++ [(q + 1 + N, .inl (cI, K, .inl (fun _ => 0)))]
theorem nc_rows_at {cI : ClassId} {K q : Nat} : ∀ (N k : Nat) (x : Nat × va_E), (nc_rows cI K q N)[k]? = some x → k < N ∧ x = (q + 1 + k, .inl (cI, K, .inl (fun _ => 0)))
  | 0, k, x, h => by cases h
  | N + 1, k, x, h => by
    have hl : ∀ N, (nc_rows cI K q N).length = N := by
      intro N
      induction N with
      | zero => rfl
      | succ N ih => show (nc_rows cI K q N ++ [_]).length = _; rw [List.length_append, ih]; rfl
    have h : (nc_rows cI K q N ++ [(q + 1 + N, Sum.inl (cI, K, Sum.inl (fun _ => 0)))])[k]? = some x := h
    by_cases z : k < N
    · rw [List.getElem?_append_left (by rw [hl]; exact z)] at h
      obtain ⟨a, b⟩ := nc_rows_at N k x h
      exact ⟨by omega, b⟩
    · rw [List.getElem?_append_right (by rw [hl]; omega), hl] at h
      have z1 : k - N < 1 := (List.getElem?_eq_some_iff.mp h).1
      rw [show k - N = 0 by omega] at h
      cases h
      exact ⟨by omega, by rw [show k = N by omega]⟩
abbrev nc_multi (cA cI : ClassId) (N K q : Nat) : va_W := (q, .inl (cA, N, .inr (.inr (.inr (.inr (fun j => if j < N then some (q + 1 + j) else none)))))) :: nc_rows cI K q N
theorem nc_multi_at {cA cI : ClassId} {N K q k : Nat} {x : Nat × va_E} (h : (nc_multi cA cI N K q)[k]? = some x) : x.1 = q + k ∧ k ≤ N := by
  cases k with
  | zero => cases h; exact ⟨rfl, Nat.zero_le _⟩
  | succ k =>
    obtain ⟨a, b⟩ := nc_rows_at N k x h
    rw [b]
    exact ⟨by show q + 1 + k = q + (k + 1); omega, by omega⟩
section NC
variable {p : Program} {l : Launch} {e : Env} {R : Room} {s : State} {m : MethodId} {args : Array Value} {below : List Frame} {meth : Method} {c : Code} {H H0 : Heap} {locs : List Loc} {cells slots : Nat} {Q : State → Prop} {A : Nat → Prop} {D : va_G} {cl : List vw_C} {ws : va_W} {tc : Nat → ClassId}
theorem nc_arr {cc : ByteArray} {pc : Nat} {ls : Array Slot} {rest : List Value} (hexec : p.tables.exec = Jvm.exec) (hb : c.code = cc) {atype : ArrayType} (harr : (Cond.arrayClass (newarray.typeOf atype)).before args s = true) {ty : FieldType} (hty : newarray.typeOf atype = ty) (hK : va_K D cl (nc_ty tc) s) (hP : va_P D cl ws H) (hD : va_D A ws) (hS : va_S A H0 H locs) (hA : ∀ q, H0.size ≤ q → A q) {t0 : Nat} {cA : ClassId} (ht : (nc_ty tc)[t0]? = some (cA, ty)) (hra : ∀ (U : State) (cA : ClassId), va_RA U cA ty = (U.vm.findClass ("[" ++ ty.toString) = some cA))
    {n : Int32} {N' : Nat} {a0 : vp_A} (ha : ∀ cA : ClassId, vp_cell cA a0 = arrV cA N' (fun _ => defaultValue ty)) (hn : ¬ n < 0) (hN : n.toNatClampNeg = N') (hbytes : N' * componentBytes ty ≤ 536870912) (hcells : cells + 1 ≤ R.cells) (hslots : slots + N' ≤ R.slots) (hdg : decode cc pc = .ok (.newarray atype, 2))
    (kk : ∀ (q : Nat) (H1 : Heap), va_P D cl (ws ++ [(q, .inl (cA, a0))]) H1 → va_D A (ws ++ [(q, .inl (cA, a0))]) → va_S A H0 H1 locs →
      W p l e R s m args below meth c H1 locs (cells + 1) (slots + N') Q (F0 m (pc + 2) ls (.ref q :: rest))) : W p l e R s m args below meth c H locs cells slots Q (F0 m pc ls (.int n :: rest)) := by
  refine va_newa hexec hb harr hty hK hP hD hS hA ha hn hN hbytes hcells hslots hdg (fun q cB H1 hK1 hP1 hD1 hS1 => ?_)
  have h1 := (hK.2 t0 _ ht).2
  have h2 := (hK1.2 4 (cB, ty) (by rfl)).2
  rw [hra] at h1 h2
  cases Option.some.inj (h2.symm.trans h1)
  exact kk q H1 hP1 hD1 hS1
theorem nc_mul {cc : ByteArray} (hexec : p.tables.exec = Jvm.exec) (hb : c.code = cc) {own : String} {index pc N K : Nat} {ls : Array Slot} {rest : List Value} (hown : s.vm.findClass own = some m.cls) (hlink : (Cond.classLink own index "[[I").before args s = true) (hover : mu_K s) (harr : (Cond.arrayClass .int).before args s = true) (hdg : decode cc pc = .ok (.multianewarray index 2, 4)) (hK : va_K D cl (nc_ty tc) s) (hP : va_P D cl ws H) (hD : va_D A ws) (hS : va_S A H0 H locs) (hA : ∀ q, H0.size ≤ q → A q) {n k : Int32} (hn : ¬ n < 0) (hk : ¬ k < 0) (hN : n.toNatClampNeg = N) (hKk : k.toNatClampNeg = K) (b1 : N ≤ 1000) (b2 : K ≤ 1000) (hcells : cells + (1 + N) ≤ R.cells) (hslots : slots + (N + N * K) ≤ R.slots)
    (kk : ∀ (q : Nat) (H1 : Heap) (locs1 : List Loc), va_P D cl (ws ++ nc_multi (tc 3) (tc 0) N K q) H1 → va_D A (ws ++ nc_multi (tc 3) (tc 0) N K q) → va_S A H0 H1 locs1 →
      W p l e R s m args below meth c H1 locs1 (cells + 1 + N) (slots + N + N * K) Q (F0 m (pc + 4) ls (.ref q :: rest))) : W p l e R s m args below meth c H locs cells slots Q (F0 m pc ls (.int k :: .int n :: rest)) := by
  refine mu_W hexec hb hown hlink hover harr hdg hn hk hN hKk b1 b2 hcells hslots (fun H1 L cA cI hcA hcI hz hq hL => ?_)
  have k0 : s.vm.findClass "[I" = some (tc 0) := (hK.2 0 _ rfl).2
  have k3 : s.vm.findClass "[[I" = some (tc 3) := (hK.2 3 _ rfl).2
  cases Option.some.inj (hcA.symm.trans k3)
  cases Option.some.inj (hcI.symm.trans k0)
  have old : ∀ q : Nat, q < H.size → H1[q]? = H[q]? := fun q h => by rw [hq, if_neg (by omega), if_neg (by omega)]
  refine kk H.size H1 L (va_P.app (hP.kept (fun i x hx => old _ (hP i x hx).lt)) (fun i x hx => ?_)) (va_D.app hD ⟨fun i j x y hx hy hxy => ?_, fun i x hx => ?_⟩ (fun i j x y hx hy hxy => ?_)) ⟨by have := hS.1; omega, fun q h1 h2 => (old q (Nat.lt_of_lt_of_le h1 hS.1)).trans (hS.2.1 q h1 h2), fun x hx => ?_⟩
  · cases i with
    | zero =>
      cases hx
      show H1[H.size]? = some (arrV (tc 3) N (fun j => va_rf (if j < N then some (H.size + 1 + j) else none)))
      rw [hq, if_pos rfl, show mu_f H.size N = fun j => va_rf (if j < N then some (H.size + 1 + j) else none) from funext fun j => mu_val H.size N j]
    | succ i =>
      obtain ⟨a, b⟩ := nc_rows_at N i x hx
      rw [b]
      show H1[H.size + 1 + i]? = some (arrV (tc 0) K (fun j => .int 0))
      rw [hq, if_neg (by omega), if_pos (by omega)]
  · have a := nc_multi_at hx
    have b := nc_multi_at hy
    omega
  · rw [(nc_multi_at hx).1]; exact hA _ (by have := hS.1; omega)
  · have a := (hP i x hx).lt
    have b := nc_multi_at hy
    omega
  · rcases hL x hx with z | z
    · exact hS.2.2 x z
    · rw [z]; exact hA _ hS.1
end NC
