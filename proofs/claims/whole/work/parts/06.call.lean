/-! methods and calls -/
def ab_W (g : ab_G) (h : ab_H) (U : State) : Prop := va_P g.2.2.1 vwCl (ab_ws g h) U.heap ∧ va_K g.2.2.1 vwCl (ab_ty g) U ∧ va_D (fun _ => True) (ab_ws g h) ∧ ∀ w ∈ ab_nw, va_Nw w U
def ab_A (g : ab_G) : Nat → Prop := fun q => ∃ k, k < 82 ∧ q = g.2.1 k
def ab_rm (d : Nat) : Room := { frames := d, cells := 0, slots := 0, locals := 35 * d }
def Meth (g : ab_G) (d : Nat) (M : ab_M) (as : List ab_V) (h : ab_H) (Q : Option ab_V → ab_H → Prop) : Prop := ab_okH h → (∀ v ∈ as, ab_okV v) →
  Met g.1 M.1 (Cond.code M.1 M.2.1 M.2.2.1 M.2.2.2.1 :: ab_tb) (ab_rm d) (va_Pc (as.map (ab_cv g)) (ab_W g h)) (fun _ s0 oc t => (∃ (r : Option ab_V) (h' : ab_H), oc = .returned (r.map (ab_cv g)) ∧ Q r h' ∧ ab_okH h' ∧ (∀ v, r = some v → ab_okV v) ∧ ab_W g h' t) ∧ va_F (ab_A g) s0 t) 0 0 (ab_A g)
def ab_el : List ab_V → List (Option ab_V)
  | [] => []
  | .inr (.inl z) :: l => some (a_L z) :: none :: ab_el l
  | v :: l => some v :: ab_el l
theorem ab_el_len {g : ab_G} : ∀ (as : List ab_V), (lg_sl (as.map (ab_cv g))).length = (ab_el as).length
  | [] => rfl
  | .inl z :: l => by
    have := ab_el_len (g := g) l
    simp [lg_sl, ab_cv, ab_el, Value.category] at this ⊢
    omega
  | .inr (.inl z) :: l => by
    have := ab_el_len (g := g) l
    simp [lg_sl, ab_cv, ab_el, Value.category] at this ⊢
    omega
  | .inr (.inr z) :: l => by
    have := ab_el_len (g := g) l
    simp [lg_sl, ab_cv, ab_el, Value.category] at this ⊢
    omega
theorem ab_nth_rep (n : Nat) (v : ab_V) : ∀ k, ab_nth (List.replicate n (none : Option ab_V)) k ≠ some (some v) := by
  induction n with
  | zero => intro k q; cases q
  | succ n ih =>
    intro k q
    cases k with
    | zero => cases q
    | succ k => exact ih k q
theorem ab_el_arg {g : ab_G} (n : Nat) (v : ab_V) : ∀ (as : List ab_V) (i k : Nat), ab_nth (ab_el as ++ List.replicate n none) k = some (some v) → (i + k, ab_cv g v) ∈ lv_args i (as.map (ab_cv g))
  | [], i, k, h => absurd h (ab_nth_rep n v k)
  | .inl z :: l, i, 0, h => by cases h; exact List.mem_cons_self
  | .inl z :: l, i, k + 1, h => by
    have := ab_el_arg (g := g) n v l (i + 1) k h
    rw [show i + (k + 1) = i + 1 + k by omega]
    exact List.mem_cons_of_mem _ this
  | .inr (.inr z) :: l, i, 0, h => by cases h; exact List.mem_cons_self
  | .inr (.inr z) :: l, i, k + 1, h => by
    have := ab_el_arg (g := g) n v l (i + 1) k h
    rw [show i + (k + 1) = i + 1 + k by omega]
    exact List.mem_cons_of_mem _ this
  | .inr (.inl z) :: l, i, 0, h => by cases h; exact List.mem_cons_self
  | .inr (.inl z) :: l, i, 1, h => by cases h
  | .inr (.inl z) :: l, i, k + 2, h => by
    have := ab_el_arg (g := g) n v l (i + 2) k h
    rw [show i + (k + 2) = i + 2 + k by omega]
    exact List.mem_cons_of_mem _ this
theorem ab_el_ok (n : Nat) (v : ab_V) : ∀ (as : List ab_V) (k : Nat), ab_nth (ab_el as ++ List.replicate n none) k = some (some v) → v ∈ as
  | [], k, h => absurd h (ab_nth_rep n v k)
  | .inl z :: l, 0, h => by cases h; exact List.mem_cons_self
  | .inl z :: l, k + 1, h => List.mem_cons_of_mem _ (ab_el_ok n v l k h)
  | .inr (.inr z) :: l, 0, h => by cases h; exact List.mem_cons_self
  | .inr (.inr z) :: l, k + 1, h => List.mem_cons_of_mem _ (ab_el_ok n v l k h)
  | .inr (.inl z) :: l, 0, h => by cases h; exact List.mem_cons_self
  | .inr (.inl z) :: l, 1, h => by cases h
  | .inr (.inl z) :: l, k + 2, h => List.mem_cons_of_mem _ (ab_el_ok n v l k h)
theorem ab_nw_warm {s U : State} (hW : s.WarmedH U.vm) (h : ∀ w ∈ ab_nw, va_Nw w s) : ∀ w ∈ ab_nw, va_Nw w U := by
  intro w hw
  have h1 := h w hw
  have h2 := (List.mem_filter.mp hw).2
  unfold ab_isN at h2
  split at h2
  · exact va_Nw.warmF hW h1
  · exact va_Nw.warmM hW h1
  · cases h2
theorem ab_nw_same {s U : State} (hv : s.vm = U.vm) (h : ∀ w ∈ ab_nw, va_Nw w s) : ∀ w ∈ ab_nw, va_Nw w U := by
  intro w hw
  have h1 := h w hw
  have h2 := (List.mem_filter.mp hw).2
  unfold ab_isN at h2
  split at h2
  · exact va_Nw.same rfl hv h1
  · exact va_Nw.same rfl hv h1
  · cases h2
theorem ab_nar (z : Int) (h : z = 0 ∨ z = 1) : narrow .boolean (.int (Int32.ofInt z)) = .int (Int32.ofInt z) := by rcases h with rfl | rfl <;> rfl
set_option maxHeartbeats 4000000 in
theorem Meth.of_go {g : ab_G} {d : Nat} {M : ab_M} {as : List ab_V} {h : ab_H} {Q : Option ab_V → ab_H → Prop} (hM : ab_MOk M) (hn : (ab_el as).length ≤ M.2.2.1) (K : Go g (ab_rm d, 0, 0) M Q 0 (ab_el as ++ List.replicate (M.2.2.1 - (ab_el as).length) none) [] h) : Meth g d M as h Q := by
  intro hH hA
  obtain ⟨m1, m2, m3, m4, m5, m6, m7⟩ := hM
  refine Met.ofW (cc := M.2.1) (maxL := M.2.2.1) (ret := M.2.2.2.1) m2 rfl ?_
  intro p e s m args below meth c s₁ B hml hv
  obtain ⟨rfl, hP, hK, hD, hN⟩ := hv
  have hts : ∀ w ∈ Cond.code M.1 M.2.1 M.2.2.1 M.2.2.2.1 :: ab_tb, w.before (as.map (ab_cv g)).toArray s = true := atoms_spec (ws := Cond.code M.1 M.2.1 M.2.2.1 M.2.2.2.1 :: ab_tb) B.pre
  have hown : s.vm.findClass M.1.cls = some m.cls := findClass_of_methodNamed B.named
  have hlocks : meth.locks = false := B.notSynchronized
  have C : ab_C g M (ab_A g) p s m (as.map (ab_cv g)).toArray meth c := ⟨B.exec, B.bytes, hml, B.returns, hlocks, hown, fun w hw => hts w (List.mem_cons_of_mem _ hw), hN, hK, m7, fun q => absurd (by rw [q]; rfl) m6⟩
  have hl := lv_entry (as.map (ab_cv g)) (n := M.2.2.1) (by rw [ab_el_len]; exact hn)
  rw [lg_entry_eq]
  rw [ab_el_len] at hl ⊢
  generalize (lg_sl (as.map (ab_cv g)) ++ List.replicate (M.2.2.1 - (ab_el as).length) Slot.unset).toArray = ls at hl ⊢
  have hlr : ab_lr g ls M.2.2.1 (ab_el as ++ List.replicate (M.2.2.1 - (ab_el as).length) none) := ⟨hl.1, hl.2.1, fun k v q => by
    have := hl.2.2 _ (ab_el_arg (g := g) _ v as 0 k q)
    simpa using this⟩
  have hD2 : va_D (ab_A g) (ab_ws g h) := ⟨hD.1, fun k q hk => by
    have hk2 : k < 82 := by
      have := (List.getElem?_eq_some_iff.mp hk).1
      simpa [ab_ws] using this
    rw [ab_ws_at hk2] at hk
    cases hk
    exact ⟨k, hk2, rfl⟩⟩
  refine K (ab_A g) p e s m _ below meth c _ C ?_ s.heap [] ls hP hD2 va_S.rf hlr ⟨hH, (fun v hv => by cases hv), fun k v q => hA v (ab_el_ok _ v as k q)⟩
  intro H locs ls2 pc r h2 hq hh hr hP2 hD3 hS2 hrt
  have fin : ∀ t : State, t.heap = H → s.WarmedH t.vm → (∃ (r' : Option ab_V) (h' : ab_H), Outcome.returned (r.map (ab_cv g)) = .returned (r'.map (ab_cv g)) ∧ Q r' h' ∧ ab_okH h' ∧ (∀ v, r' = some v → ab_okV v) ∧ ab_W g h' t) ∧ va_F (ab_A g) s t := fun t ht hW =>
    ⟨⟨r, h2, rfl, hq, hh, hr, by rw [← ht] at hP2; exact hP2, va_K.moved hW.alike hK, hD3.weaken (fun _ _ _ _ => trivial), ab_nw_warm hW hN⟩, hS2.F ht⟩
  rcases hrt with ⟨rfl, hd, h0⟩ | ⟨z, rfl, hd, h0 | ⟨h0, hz⟩⟩ | ⟨z, rfl, hd, h0⟩
  · exact W.vret B.exec B.bytes (by rw [B.returns, h0]) fin hS2.2.2 hd hlocks
  · exact W.iret B.exec B.bytes (by rw [B.returns, h0]) fin hS2.2.2 hd hlocks
  · exact W.zret (ty := .boolean) B.exec B.bytes (by rw [B.returns, h0]) (ab_nar z hz) fin hS2.2.2 hd hlocks
  · exact W.lret B.exec B.bytes (by rw [B.returns, h0]) fin hS2.2.2 hd hlocks
/-- of an int's answer, of no answer, of a long's -/
abbrev MethI (g : ab_G) (d : Nat) (M : ab_M) (as : List ab_V) (h : ab_H) (Q : Int → ab_H → Prop) : Prop := Meth g d M as h (fun r h' => ∃ z, r = some (a_I z) ∧ Q z h')
abbrev MethL (g : ab_G) (d : Nat) (M : ab_M) (as : List ab_V) (h : ab_H) (Q : Int → ab_H → Prop) : Prop := Meth g d M as h (fun r h' => ∃ z, r = some (a_L z) ∧ Q z h')
abbrev MethV (g : ab_G) (d : Nat) (M : ab_M) (as : List ab_V) (h : ab_H) (Q : ab_H → Prop) : Prop := Meth g d M as h (fun r h' => r = none ∧ Q h')
theorem Meth.mono {g : ab_G} {d : Nat} {M : ab_M} {as : List ab_V} {h : ab_H} {Q Q' : Option ab_V → ab_H → Prop} (hm : Meth g d M as h Q) (hq : ∀ r h', Q r h' → Q' r h') : Meth g d M as h Q' := by
  intro hH hA
  have h1 := hm hH hA
  unfold Met MetFree at h1 ⊢
  intro p e a1 a2 a3 s m args below b1 b2 b3 b4
  obtain ⟨k, o, c1, c2, c3, ⟨⟨r, h', d1, d2, d3⟩, d4⟩, d5⟩ := h1 p e a1 a2 a3 s m args below b1 b2 b3 b4
  exact ⟨k, o, c1, c2, c3, ⟨⟨r, h', d1, hq r h' d2, d3⟩, d4⟩, d5⟩
def ab_cat : ab_V → Nat
  | .inr (.inl _) => 2
  | _ => 1
def ab_cats (st : List ab_V) : Nat := (st.map ab_cat).sum
theorem ab_cats_eq {g : ab_G} (st : List ab_V) : ((st.map (ab_cv g)).map fun v => v.category).sum = ab_cats st := by
  unfold ab_cats
  rw [List.map_map]
  congr 1
  apply List.map_congr_left
  intro v _
  rcases v with z | z | z <;> rfl
theorem ab_blind {g : ab_G} {h : ab_H} {av : List Value} : FrameBlind (va_Pc av (ab_W g h)) := by
  intro a U gf mk q
  obtain ⟨q0, q1, q2, q3, q4⟩ := q
  exact ⟨q0, q1, va_K.moved (u := U) (U := U.calling gf mk a) (Vm.Alike.refl U.vm) q2, q3, ab_nw_same (s := U) (U := U.calling gf mk a) rfl q4⟩
theorem ab_good (M : ab_M) (hM : ab_MOk M) : GoodIn ab_tb (Cond.code M.1 M.2.1 M.2.2.1 M.2.2.2.1 :: ab_tb) := by
  intro w hw
  have h1 : w ∈ ab_tb := by
    rcases List.mem_cons.mp hw with rfl | h
    · exact hM.1
    · exact h
  exact ⟨h1, good_of_word (List.mem_filter.mp h1).2⟩
/-- what a call of an instance's method, of a static one, needs of the tables -/
def ab_LV (own : String) (idx : Nat) (y : MethodName) : Prop := (Cond.methodLink own idx y ∈ ab_tb ∨ ∃ host, Cond.methodLinkNest own idx y host ∈ ab_nw) ∧ Cond.instanceMethod y ∈ ab_tb ∧ Cond.selects y.cls y y ∈ ab_tb
def ab_LS (own : String) (idx : Nat) (y : MethodName) : Prop := (Cond.methodLink own idx y ∈ ab_tb ∨ ∃ host, Cond.methodLinkNest own idx y host ∈ ab_nw) ∧ Cond.static y ∈ ab_tb
def ab_room (E : ab_E) (d : Nat) (M : ab_M) : Prop := d + 1 ≤ E.1.frames ∧ 8 + (M.2.2.1 + 11) + 35 * d ≤ E.1.locals ∧ E.2.1 ≤ E.1.cells ∧ E.2.2 ≤ E.1.slots
theorem ab_room_of {d d' : Nat} {M : ab_M} (hM : ab_MOk M) (h : d < d') : ab_room (ab_rm d', 0, 0) d M := by
  have := hM.2.2.2.1
  refine ⟨h, ?_, Nat.le_refl _, Nat.le_refl _⟩
  show 8 + (M.2.2.1 + 11) + 35 * d ≤ 35 * d'
  omega
theorem ab_okS.back {ρ : List (Option ab_V)} {st : List ab_V} {h h' : ab_H} {r : Option ab_V} (q : ab_okS ρ st h) (hh : ab_okH h') (hr : ∀ v, r = some v → ab_okV v) : ab_okS ρ (r.toList ++ st) h' := by
  refine ⟨hh, fun v hv => ?_, q.2.2⟩
  rcases List.mem_append.mp hv with z | z
  · cases r with
    | none => cases z
    | some w =>
      have e5 : v = w := by simpa using z
      rw [e5]
      exact hr w rfl
  · exact q.2.1 v z
section GOC
variable {g : ab_G} {E : ab_E} {M : ab_M} {Q : Option ab_V → ab_H → Prop} {pc : Nat} {ρ : List (Option ab_V)} {st : List ab_V} {h : ab_H}
/-- behind a call -/
theorem ab_behind {p : Program} {e : Env} {s : State} {m : MethodId} {args : Array Value} {below : List Frame} {meth : Method} {c : Code} {Qm : State → Prop} {A : Nat → Prop} {H : Heap} {locs : List Loc} {ls : Array Slot} {st0 : List Value} {a : Array Value} {Q' : Option ab_V → ab_H → Prop} (C : ab_C g M A p s m args meth c) (T : ab_Ret g E M Q A p e s m args below meth c Qm) (hP : va_P g.2.2.1 vwCl (ab_ws g h) H) (hD : va_D A (ab_ws g h)) (hS : va_S A s.heap H locs) (hl : ab_lr g ls M.2.2.1 ρ) (hok : ab_okS ρ st h)
    (hr : va_Run p g.1 e E.1 s m args below meth c H locs E.2.1 E.2.2 0 0 (F0 m pc ls st0) (st.map (ab_cv g)) ((fun _ s0 oc t => (∃ (r : Option ab_V) (h' : ab_H), oc = .returned (r.map (ab_cv g)) ∧ Q' r h' ∧ ab_okH h' ∧ (∀ v, r = some v → ab_okV v) ∧ ab_W g h' t) ∧ va_F (ab_A g) s0 t : Array Value → State → Outcome → State → Prop) a) (ab_A g))
    (K : ∀ r h', Q' r h' → Go g E M Q (pc + 3) ρ (r.toList ++ st) h') : W p g.1 e E.1 s m args below meth c H locs E.2.1 E.2.2 Qm (F0 m pc ls st0) := by
  intro T1 hT1 X
  obtain ⟨v, st₀, t, T', L, h0, X', hL, e1, e2, ⟨⟨r, h', hv, hq, hh, hvo, w1, w2, w3, w4⟩, hz, hk⟩, st1⟩ := hr T1 hT1 X
  cases hv
  rw [h0] at hz hk
  have hsub : ∀ q, ab_A g q → A q := by
    rintro q ⟨k, hk1, rfl⟩
    exact hD.2 k _ (ab_ws_at hk1)
  have hD' : va_D A (ab_ws g h') := ⟨w3.1, fun k q hk => by
    have hk2 : k < 82 := by
      have := (List.getElem?_eq_some_iff.mp hk).1
      simpa [ab_ws] using this
    rw [ab_ws_at hk2] at hk
    cases hk
    exact hD.2 k (g.2.1 k, ab_ce g h k) (ab_ws_at hk2)⟩
  have KK := K r h' hq A p e s m args below meth c Qm C T T'.heap (locs ++ L) ls (by rw [e1]; exact w1) hD'
    ⟨Nat.le_trans hS.1 (by rw [e1]; exact hz), fun q h1 h2 => by rw [e1, hk q (Nat.lt_of_lt_of_le h1 hS.1) (fun z => h2 (hsub q z))]; exact hS.2.1 q h1 h2, fun q hq => by
      rcases List.mem_append.mp hq with h | h
      · exact hS.2.2 q h
      · exact hsub _ (hL q h)⟩ hl (ab_okS.back hok hh hvo)
  have e3 : (r.toList ++ st).map (ab_cv g) = (r.map (ab_cv g)).toList ++ st.map (ab_cv g) := by cases r <;> simp
  rw [e3] at KK
  obtain ⟨t2, a1, b1⟩ := KK T' rfl X'
  exact ⟨t2, st1 t2 a1, b1⟩
theorem go_callV {M' : ab_M} {d idx k ci : Nat} {C0 : String} {T0 : u_T} {N0 : Nat} {as : List ab_V} {Q' : Option ab_V → ab_H → Prop} (hi : ab_at M pc (.invokevirtual idx) 3) (hln : ab_LV M.1.cls idx M'.1) (hM : ab_MOk M') (hk : ab_kd k = some (.inl ci)) (hc : vwCl[ci]? = some (C0, T0, N0)) (hc2 : C0 = M'.1.cls) (hn : as.length = M'.2.2.2.2.1) (hE : ab_room E d M') (hcat : ab_cats st ≤ 8) (hm : Meth g d M' (a_R k :: as) h Q') (K : ∀ r h', Q' r h' → Go g E M Q (pc + 3) ρ (r.toList ++ st) h') : Go g E M Q pc ρ (as.reverse ++ a_R k :: st) h := by
  intro A p e s m args below meth c Qm C T H locs ls hP hD hS hl hok
  have hokst : ab_okS ρ st h := ⟨hok.1, fun v hv => hok.2.1 v (List.mem_append_right _ (List.mem_cons_of_mem _ hv)), hok.2.2⟩
  have hm2 := hm hok.1 (fun v hv => by
    rcases List.mem_cons.mp hv with rfl | q
    · exact trivial
    · exact hok.2.1 v (List.mem_append_left _ (List.mem_reverse.mpr q)))
  have hws := ab_ws_at (g := g) (h := h) (ab_kd_lt hk)
  rw [ab_ce_o hk] at hws
  have hK := C.2.2.2.2.2.2.2.2.1
  have hts := C.2.2.2.2.2.2.1
  have pre : PreV s H M'.1.cls (g.2.1 k) (va_Pc ((a_R k :: as).map (ab_cv g)) (ab_W g h)) (as.map (ab_cv g)) := ⟨ab_blind, by rw [← hc2]; exact va_recv hK hP hc hws, fun U hU hW => ⟨rfl, by rw [hU]; exact hP, va_K.moved hW.alike hK, hD.weaken (fun _ _ _ _ => trivial), ab_nw_warm hW C.2.2.2.2.2.2.2.1⟩⟩
  have hst : (as.reverse ++ a_R k :: st).map (ab_cv g) = (as.map (ab_cv g)).reverse ++ .ref (g.2.1 k) :: st.map (ab_cv g) := by simp [ab_cv]
  obtain ⟨h1, h2, h3⟩ := hln
  have hfix : CallFix p m c M.2.1 M.2.2.1 s args ab_tb M.1.cls := ⟨C.1, C.2.1, C.2.2.1, C.2.2.2.2.2.1, hts⟩
  have hcat2 : 2 * (F0 m pc ls ((as.reverse ++ a_R k :: st).map (ab_cv g))).monitorRoom + ((st.map (ab_cv g)).map fun v => v.category).sum ≤ 8 := lv_room (by rw [ab_cats_eq]; exact hcat)
  rcases h1 with h1 | ⟨host, h1⟩
  · exact ab_behind (M := M) (a := #[]) C T hP hD hS hl hokst (va_runV (g := F0 m pc ls ((as.reverse ++ a_R k :: st).map (ab_cv g))) hfix hm2 ⟨callB_of (ws' := ab_tb) M'.2.2.2.2.1 hts (ab_good M' hM) rfl rfl rfl (hts _ hM.2.2.2.2.1) (hts _ h1) hM.2.2.1 ⟨hE.1, hE.2.1⟩, hts _ h2, hts _ h3⟩ pre rfl (by rw [List.length_map]; exact hn) hl.1 hst hcat2 (C.dec hi) ⟨hE.2.2.1, hE.2.2.2⟩) K
  · exact ab_behind (M := M) (a := #[]) C T hP hD hS hl hokst (va_runVN (g := F0 m pc ls ((as.reverse ++ a_R k :: st).map (ab_cv g))) hfix hm2 ⟨va_cnB (ws' := ab_tb) M'.2.2.2.2.1 hts (ab_good M' hM) rfl rfl rfl (C.2.2.2.2.2.2.2.1 _ h1) (hts _ hM.2.2.2.2.1) hM.2.2.1 ⟨hE.1, hE.2.1⟩, hts _ h2, hts _ h3⟩ pre rfl (by rw [List.length_map]; exact hn) hl.1 hst hcat2 (C.dec hi) ⟨hE.2.2.1, hE.2.2.2⟩) K
theorem go_callS {M' : ab_M} {d idx : Nat} {as : List ab_V} {Q' : Option ab_V → ab_H → Prop} (hi : ab_at M pc (.invokestatic idx) 3) (hln : ab_LS M.1.cls idx M'.1) (hM : ab_MOk M') (hn : as.length = M'.2.2.2.2.1) (hE : ab_room E d M') (hcat : ab_cats st ≤ 8) (hm : Meth g d M' as h Q') (K : ∀ r h', Q' r h' → Go g E M Q (pc + 3) ρ (r.toList ++ st) h') : Go g E M Q pc ρ (as.reverse ++ st) h := by
  intro A p e s m args below meth c Qm C T H locs ls hP hD hS hl hok
  have hokst : ab_okS ρ st h := ⟨hok.1, fun v hv => hok.2.1 v (List.mem_append_right _ hv), hok.2.2⟩
  have hm2 := hm hok.1 (fun v hv => hok.2.1 v (List.mem_append_left _ (List.mem_reverse.mpr hv)))
  have hK := C.2.2.2.2.2.2.2.2.1
  have hts := C.2.2.2.2.2.2.1
  have pre : PreS s H (va_Pc (as.map (ab_cv g)) (ab_W g h)) (as.map (ab_cv g)) := ⟨ab_blind, fun U hU hW => ⟨rfl, by rw [hU]; exact hP, va_K.moved hW.alike hK, hD.weaken (fun _ _ _ _ => trivial), ab_nw_warm hW C.2.2.2.2.2.2.2.1⟩⟩
  have hst : (as.reverse ++ st).map (ab_cv g) = (as.map (ab_cv g)).reverse ++ st.map (ab_cv g) := by simp
  obtain ⟨h1, h2⟩ := hln
  have hfix : CallFix p m c M.2.1 M.2.2.1 s args ab_tb M.1.cls := ⟨C.1, C.2.1, C.2.2.1, C.2.2.2.2.2.1, hts⟩
  have hcat2 : 2 * (F0 m pc ls ((as.reverse ++ st).map (ab_cv g))).monitorRoom + ((st.map (ab_cv g)).map fun v => v.category).sum ≤ 8 := lv_room (by rw [ab_cats_eq]; exact hcat)
  rcases h1 with h1 | ⟨host, h1⟩
  · exact ab_behind (M := M) (a := #[]) C T hP hD hS hl hokst (va_runS (g := F0 m pc ls ((as.reverse ++ st).map (ab_cv g))) hfix hm2 ⟨callB_of (ws' := ab_tb) M'.2.2.2.2.1 hts (ab_good M' hM) rfl rfl rfl (hts _ hM.2.2.2.2.1) (hts _ h1) hM.2.2.1 ⟨hE.1, hE.2.1⟩, hts _ h2⟩ pre rfl (by rw [List.length_map]; exact hn) hl.1 hst hcat2 (C.dec hi) ⟨hE.2.2.1, hE.2.2.2⟩) K
  · exact ab_behind (M := M) (a := #[]) C T hP hD hS hl hokst (va_runSN (g := F0 m pc ls ((as.reverse ++ st).map (ab_cv g))) hfix hm2 ⟨va_cnB (ws' := ab_tb) M'.2.2.2.2.1 hts (ab_good M' hM) rfl rfl rfl (C.2.2.2.2.2.2.2.1 _ h1) (hts _ hM.2.2.2.2.1) hM.2.2.1 ⟨hE.1, hE.2.1⟩, hts _ h2, trivial⟩ pre rfl (by rw [List.length_map]; exact hn) hl.1 hst hcat2 (C.dec hi) ⟨hE.2.2.1, hE.2.2.2⟩) K
end GOC
