/-! constructors called: the worlds before and behind -/
def nc_B (D : va_G) (tc : Nat → ClassId) (sz : Nat) (ws : va_W) (U : State) : Prop := U.heap.size = sz ∧ va_P D vwCl ws U.heap ∧ va_K D vwCl (nc_ty tc) U ∧ va_D (fun _ => True) ws ∧ (∀ w ∈ ab_nw, va_Nw w U) ∧ mu_K U
def nc_E (D : va_G) (tc : Nat → ClassId) (A : Nat → Prop) (ws : va_W) (t : State) : Prop := va_P D vwCl ws t.heap ∧ va_K D vwCl (nc_ty tc) t ∧ va_D A ws
theorem nc_last {ws : va_W} {x : Nat × va_E} : (ws ++ [x])[ws.length]? = some x := by simp
theorem nc_left {ws w1 : va_W} {k : Nat} {x : Nat × va_E} (h : ws[k]? = some x) : (ws ++ w1)[k]? = some x := by
  rw [List.getElem?_append_left (List.getElem?_eq_some_iff.mp h).1]
  exact h
theorem nc_one {x y : Nat × va_E} {k : Nat} (h : [x][k]? = some y) : y = x := by
  have z : k < 1 := (List.getElem?_eq_some_iff.mp h).1
  rw [show k = 0 by omega] at h
  cases h
  rfl
section NCC
variable {p : Program} {l : Launch} {e : Env} {R : Room} {s : State} {m : MethodId} {args : Array Value} {below : List Frame} {meth : Method} {c : Code} {H H0 : Heap} {locs : List Loc} {cells slots : Nat} {Q : State → Prop} {A : Nat → Prop} {D : va_G} {ws : va_W} {tc : Nat → ClassId} {q : Nat} {e0 : va_E}
theorem nc_pre (hP : va_P D vwCl (ws ++ [(q, e0)]) H) (hK : va_K D vwCl (nc_ty tc) s) (hN : ∀ w ∈ ab_nw, va_Nw w s) (hM : mu_K s) : PreS s H (va_Pc [.ref q] (nc_B D tc H.size [(q, e0)])) [.ref q] := by
  refine ⟨fun a U gf mk z => ?_, fun U hU hW => ⟨rfl, by rw [hU], fun k x hx => ?_, va_K.moved hW.alike hK, ⟨fun i j x y hx hy _ => ?_, fun _ _ _ => trivial⟩, ab_nw_warm hW hN, hM.moved hW.alike⟩⟩
  · obtain ⟨z0, z1, z2, z3, z4, z5, z6⟩ := z
    exact ⟨z0, z1, z2, va_K.moved (u := U) (U := U.calling gf mk a) (Vm.Alike.refl U.vm) z3, z4, ab_nw_same (s := U) (U := U.calling gf mk a) rfl z5, z6.moved (U := U.calling gf mk a) (Vm.Alike.refl U.vm)⟩
  · rw [nc_one hx, hU]; exact hP _ _ nc_last
  · have a : i < 1 := (List.getElem?_eq_some_iff.mp hx).1
    have b : j < 1 := (List.getElem?_eq_some_iff.mp hy).1
    omega
theorem nc_call {pc : Nat} {ls : Array Slot} {rest st0 : List Value} {mc ms : Nat} {a0 : Array Value} {w1 : (Nat → Nat) → va_W} (hr : va_Run p l e R s m args below meth c H locs cells slots mc ms (F0 m pc ls st0) rest (va_Qv (fun _ : Nat → Nat => True) (fun u t => nc_E D tc (va_A [(q, e0)] H.size) (w1 u) t) (va_A [(q, e0)] H.size) a0) (va_A [(q, e0)] H.size)) (hP : va_P D vwCl (ws ++ [(q, e0)]) H) (hD : va_D A (ws ++ [(q, e0)])) (hS : va_S A H0 H locs) (hA : ∀ q, H0.size ≤ q → A q)
    (kk : ∀ (u : Nat → Nat) (H1 : Heap) (locs1 : List Loc), va_P D vwCl (ws ++ w1 u) H1 → va_D A (ws ++ w1 u) → va_S A H0 H1 locs1 → W p l e R s m args below meth c H1 locs1 (cells + mc) (slots + ms) Q (F0 m (pc + 3) ls rest)) : W p l e R s m args below meth c H locs cells slots Q (F0 m pc ls st0) := by
  have hF : ∀ z, va_A [(q, e0)] H.size z → A z := by
    rintro z (⟨k, e1, h⟩ | h)
    · have := nc_one h
      cases this
      exact hD.2 _ _ nc_last
    · exact hA z (Nat.le_trans hS.1 h)
  have apart : ∀ (k : Nat) (x : Nat × va_E), ws[k]? = some x → x.1 < H.size ∧ ¬ va_A [(q, e0)] H.size x.1 := by
    intro k x hx
    have hl := (hP k x (nc_left hx)).lt
    refine ⟨hl, ?_⟩
    rintro (⟨j, e1, h⟩ | h)
    · have h2 := nc_one h
      have e2 : x.1 = q := congrArg Prod.fst h2
      have := hD.1 k ws.length x (q, e0) (nc_left hx) nc_last e2
      have := (List.getElem?_eq_some_iff.mp hx).1
      omega
    · omega
  refine va_callv hr hS (fun z _ h => hF z h) hF (fun u t H1 locs1 ht hvm _ hB hz hk hS1 => ?_)
  obtain ⟨hP1, -, hD1⟩ := hB
  rw [ht] at hP1
  refine kk u H1 locs1 (va_P.app (fun k x hx => (hP k x (nc_left hx)).kept (hk x.1 (apart k x hx).1 (apart k x hx).2)) hP1) (va_D.app ⟨fun i j x y hx hy hxy => hD.1 i j x y (nc_left hx) (nc_left hy) hxy, fun k x hx => hD.2 k x (nc_left hx)⟩ (hD1.weaken (fun k x _ h => hF x.1 h)) (fun i j x y hx hy hxy => ?_)) hS1
  exact (apart i x hx).2 (by rw [hxy]; exact hD1.2 j y hy)
end NCC
