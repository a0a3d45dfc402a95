/-! THE CLAIM OUT OF ONE WALK OF THE LAW'S BODY. Your part is whole_start (and what it stands on); all else here is the same for every law, but numbers. -/
def R_law : String := "PostmenMeetLaw"
def lw_Pr (b : Addr) (xs : List Int32) (args : Array Value) (s : State) : Prop := args = #[.ref b] ∧ s.IntsAt b xs ∧ xs.length ≤ 3072 ∧ (Jvm.Cond.and given_1 narrow_1).before args s = true
def lw_Q (_ : Array Value) (s : State) (o : Outcome) (t : State) : Prop := o = .returned (some (.int 1)) ∧ Framed s o t [] 600000 7302249
def lw_Z (below : List Frame) (a : Array Value) (s : State) : State → Prop := fun t => ∃ o, t.status = .running ∧ Ended t below o ∧ lw_Q a s o t
/-- the law's own end, with 1 on the stack, nothing written that was there before, its room as the claim has it -/
theorem lw_ret {p : Program} {l : Launch} {e : Env} {s : State} {m : MethodId} {below : List Frame} {meth : Method} {c : Code} {b : Nat} (hx : p.tables.exec = Jvm.exec) (hb : c.code = code) (hr : meth.sig.returnType = ret) (hlocks : meth.locks = false) {pc : Nat} {H : Heap} {ls : Array Slot} (hdg : decode code pc = .ok (.ireturn, 1)) : W p l e room_1 s m #[Value.ref b] below meth c H [] 600000 7302249 (lw_Z below #[Value.ref b] s) (F0 m pc ls [.int 1]) := by
  intro T hT X
  obtain ⟨fs, hret, hrun, hended, hW, hframe⟩ := X.leave (v := some (.int 1)) (hlocks := hlocks) (fun h => by rw [hr] at h; cases h)
  have hmeth' : T.vm.method? m = some meth := X.method'
  refine ⟨T.setFrames fs, ?_, .returned (some (.int 1)), hrun, hended, rfl, ⟨_, rfl⟩, hW, hframe⟩
  jvm_step X.here [X.here.top, hx, hb, hdg, hmeth', hr, ret, narrow_b1]
  (try refine ⟨rfl, ?_⟩); (try refine ⟨rfl, ?_⟩)
  first | (intro acts; rw [hret _ acts rfl rfl rfl]) | rw [hret _ _ rfl rfl rfl]
  exact Steps.refl _
/-- what holds at the law's entry: the machine, the code, the tables' words (any of lw_tbl by 'hts w (by decide +kernel)'), the script of L ints xs at the cell b, what the Statement gives of the start (any of its parts by flat_of_before) -/
def lw_At (p : Program) (s : State) (m : MethodId) (meth : Method) (c : Code) (b L : Nat) (xs : Nat → Int32) : Prop :=
  p.tables.exec = Jvm.exec ∧ c.code = code ∧ meth.sig.returnType = ret ∧ c.maxLocals = 4 ∧ s.vm.findClass R_law = some m.cls ∧ (∀ w ∈ lw_tbl, w.before #[Value.ref b] s = true) ∧ va_X b L xs s s.heap ∧ b < s.heap.size ∧ meth.locks = false ∧ (Jvm.Cond.and given_1 narrow_1).before #[Value.ref b] s = true
theorem dl_0 : decode code 0 = .ok (.new 7, 3) := by decide +kernel
theorem dl_3 : decode code 3 = .ok (.dup, 1) := by decide +kernel
theorem dl_4 : decode code 4 = .ok (.invokespecial 9, 3) := by decide +kernel
theorem dl_7 : decode code 7 = .ok (.astore_n 1, 1) := by decide +kernel
theorem dl_8 : decode code 8 = .ok (.new 10, 3) := by decide +kernel
theorem dl_11 : decode code 11 = .ok (.dup, 1) := by decide +kernel
theorem dl_12 : decode code 12 = .ok (.invokespecial 12, 3) := by decide +kernel
theorem dl_15 : decode code 15 = .ok (.astore_n 2, 1) := by decide +kernel
def lw_Qr (r : Option ab_V) (_ : ab_H) : Prop := r = some (a_I 1)
set_option maxHeartbeats 4000000 in
set_option maxRecDepth 100000 in
theorem whole_start {p : Program} {e : Env} {s : State} {m : MethodId} {below : List Frame} {meth : Method} {c : Code} (l : Launch) {b L : Nat} {xs : Nat → Int32} (hL : L ≤ 3072) (C0 : lw_At p s m meth c b L xs) : W p l e room_1 s m #[Value.ref b] below meth c s.heap [] 0 0 (lw_Z below #[Value.ref b] s) (entryFrame m ([Value.ref b] : List Value).toArray 4) := by
  obtain ⟨hx, hb, hr, hml, hown, hts0, hX, hbl, hlocks, hgv⟩ := id C0
  have hts : ∀ w ∈ ab_tb, w.before #[Value.ref b] s = true := fun w hw => hts0 w (List.mem_filter.mp hw).1
  have hN : ∀ w ∈ ab_nw, va_Nw w s := fun w hw => by
    have h2 := (List.mem_filter.mp hw).2
    have h1 := hts0 w (List.mem_filter.mp hw).1
    unfold ab_isN at h2
    split at h2
    · exact va_Nw.of rfl h1
    · exact va_Nw.of rfl h1
    · cases h2
  have hA : ∀ q : Nat, s.heap.size ≤ q → (fun q : Nat => s.heap.size ≤ q) q := fun _ h => h
  have hbA : ¬ (fun q : Nat => s.heap.size ≤ q) b := Nat.not_le.mpr hbl
  obtain ⟨c0, i0, k0⟩ := u_known (C := RX0) (T := TX0) (N := 6) (n := 6) hts (ab_cls (ci := 0) rfl).1.1 (hts _ (ab_t1 (i := 157) rfl rfl))
  obtain ⟨c1, i1, k1⟩ := u_known (C := RX1) (T := TX1) (N := 7) (n := 7) hts (ab_cls (ci := 1) rfl).1.1 (hts _ (ab_t1 (i := 191) rfl rfl))
  obtain ⟨c2, i2, k2⟩ := u_known (C := RX2) (T := TX2) (N := 10) (n := 10) hts (ab_cls (ci := 2) rfl).1.1 (hts _ (ab_t1 (i := 23) rfl rfl))
  obtain ⟨c3, i3, k3⟩ := u_known (C := RX3) (T := TX3) (N := 3) (n := 3) hts (ab_cls (ci := 3) rfl).1.1 (hts _ (ab_t1 (i := 225) rfl rfl))
  obtain ⟨c4, i4, k4⟩ := u_known (C := RX4) (T := TX4) (N := 4) (n := 4) hts (ab_cls (ci := 4) rfl).1.1 (hts _ (ab_t1 (i := 75) rfl rfl))
  obtain ⟨c5, i5, k5⟩ := u_known (C := RX5) (T := TX5) (N := 14) (n := 14) hts (ab_cls (ci := 5) rfl).1.1 (hts _ (ab_t1 (i := 102) rfl rfl))
  obtain ⟨c6, i6, k6⟩ := u_known (C := RX6) (T := TX6) (N := 8) (n := 8) hts (ab_cls (ci := 6) rfl).1.1 (hts _ (ab_t1 (i := 15) rfl rfl))
  obtain ⟨c7, i7, k7⟩ := u_known (C := RX7) (T := TX7) (N := 29) (n := 29) hts (ab_cls (ci := 7) rfl).1.1 (hts _ (ab_t3 (i := 187) rfl rfl))
  obtain ⟨dC, dI, hKc⟩ : ∃ (dC : Nat → ClassId) (dI : Nat → Nat → Nat), ∀ (k : Nat) (q : vw_C), vwCl[k]? = some q → u_Kn s q.1 q.2.1 q.2.2 (dC k) (dI k) := by
    refine ⟨fun k => match k with | 0 => c0 | 1 => c1 | 2 => c2 | 3 => c3 | 4 => c4 | 5 => c5 | 6 => c6 | _ => c7, fun k => match k with | 0 => i0 | 1 => i1 | 2 => i2 | 3 => i3 | 4 => i4 | 5 => i5 | 6 => i6 | _ => i7, ?_⟩
    intro k q hq
    match k, hq with
    | 0, hq => cases hq; exact k0
    | 1, hq => cases hq; exact k1
    | 2, hq => cases hq; exact k2
    | 3, hq => cases hq; exact k3
    | 4, hq => cases hq; exact k4
    | 5, hq => cases hq; exact k5
    | 6, hq => cases hq; exact k6
    | 7, hq => cases hq; exact k7
    | k + 8, hq => simp [vwCl] at hq
  have hM : mu_K s := mu_over (hts0 _ (List.mem_append_right _ (show _ ∈ tables_1_1 ++ (tables_1_2 ++ (tables_1_3 ++ (tables_1_4 ++ tables_1_5))) from List.mem_append_left _ (List.mem_of_getElem? (l := tables_1_1) (i := 163) rfl))))
  obtain ⟨cI, cA, kA, hcI, hkA, hkindA, hcA⟩ := id hM
  obtain ⟨cI2, kI, cc1, hcI2, hkI, hkindI⟩ := Cond.arrayClass_spec (hts _ (ab_t1 (i := 73) rfl rfl))
  cases Option.some.inj (hcI2.symm.trans hcI)
  obtain ⟨cZ, kZ, cc2, hcZ, hkZ, hkindZ⟩ := Cond.arrayClass_spec (hts _ (ab_t4 (i := 40) rfl rfl))
  obtain ⟨cJ, kJ, cc3, hcJ, hkJ, hkindJ⟩ := Cond.arrayClass_spec (hts _ (ab_t1 (i := 189) rfl rfl))
  obtain ⟨tc, hK⟩ : ∃ tc : Nat → ClassId, va_K (dC, dI) vwCl (nc_ty tc) s := by
    refine ⟨fun k => match k with | 0 => cI | 1 => cZ | 2 => cJ | _ => cA, hKc, fun k q hq => ?_⟩
    match k, hq with
    | 0, hq => cases hq; exact ⟨fun n z => ⟨fun k h => (by cases h), kI, hkI, cc1, hkindI⟩, hcI2⟩
    | 1, hq => cases hq; exact ⟨fun n z => ⟨fun k h => (by cases h), kZ, hkZ, cc2, hkindZ⟩, hcZ⟩
    | 2, hq => cases hq; exact ⟨fun n z => ⟨fun k h => (by cases h), kJ, hkJ, cc3, hkindJ⟩, hcJ⟩
    | 3, hq => cases hq; exact ⟨fun n z => ⟨fun k h => (by cases h), kA, hkA, cI, hkindA⟩, hcA⟩
    | k + 4, hq => simp at hq
  have hS : va_S (fun q : Nat => s.heap.size ≤ q) s.heap s.heap [] := va_S.rf
  have hP : va_P (dC, dI) vwCl [] s.heap := fun k q h => by simp at h
  have hD : va_D (fun q : Nat => s.heap.size ≤ q) [] := ⟨fun i j p q h => by simp at h, fun k q h => by simp at h⟩
  have hl := lv_entry ([.ref b]) (n := 4) (Nat.le_of_ble_eq_true rfl)
  rw [lg_entry_eq]
  generalize (lg_sl ([.ref b]) ++ List.replicate (4 - (lg_sl ([.ref b])).length) Slot.unset).toArray = ls at hl ⊢
  have hl : lv_has ls 4 [(0, .ref b)] := hl
  refine va_new (ci := 6) (fs := o_X6) (C := RX6) (T := TX6) (N := 8) hx hb hts (ab_cls (ci := 6) rfl).1.1 tyX6 tyX6_ok hown (hts _ (ab_t1 (i := 14) rfl rfl)) (hts _ (ab_t1 (i := 15) rfl rfl)) (hts _ (ab_t1 (i := 1) rfl rfl)) hK hP hD hS hA rfl (by decide +kernel) (Nat.le_of_ble_eq_true rfl) (Nat.le_of_ble_eq_true rfl) dl_0 (fun q0 H hP hD hS => ?_)
  refine lv_dup hx hb dl_3 rfl ?_
  refine nc_call (ws := []) (w1 := fun u => W_X6 tc q0 u) (va_runI (As := []) (rest := [.ref q0]) ⟨hx, hb, hml, hown, hts⟩ (n_X6_init l (dC, dI) tc q0 H.size) (cwI (ws' := ab_tb) 0 hts (nc_good (ab_t1 (i := 18) rfl rfl)) rfl rfl rfl (hts _ (ab_t1 (i := 1) rfl rfl)) (hts _ (ab_t1 (i := 16) rfl rfl)) (hts _ (ab_t1 (i := 17) rfl rfl)) rfl (by decide +kernel) ⟨Nat.le_of_ble_eq_true rfl, Nat.le_of_ble_eq_true rfl⟩) (nc_pre (ws := []) hP hK hN hM) rfl rfl hl.1 rfl (lv_room (Nat.le_of_ble_eq_true rfl)) dl_4 ⟨Nat.le_of_ble_eq_true rfl, Nat.le_of_ble_eq_true rfl⟩) hP hD hS hA (fun u6 H locs hP hD hS => ?_)
  refine lv_astore_n (lv' := [(1, .ref q0), (0, .ref b)]) hx hb dl_7 rfl hl (by decide) rfl (fun ls hl => ?_)
  refine va_new (ci := 7) (fs := o_X7) (C := RX7) (T := TX7) (N := 29) hx hb hts (ab_cls (ci := 7) rfl).1.1 tyX7 tyX7_ok hown (hts _ (ab_t3 (i := 186) rfl rfl)) (hts _ (ab_t3 (i := 187) rfl rfl)) (hts _ (ab_t1 (i := 8) rfl rfl)) hK hP hD hS hA rfl (by decide +kernel) (Nat.le_of_ble_eq_true rfl) (Nat.le_of_ble_eq_true rfl) dl_8 (fun q8 H hP hD hS => ?_)
  refine lv_dup hx hb dl_11 rfl ?_
  refine nc_call (ws := W_X6 tc q0 u6) (w1 := fun u => W_X7 tc q8 u) (va_runI (As := []) (rest := [.ref q8]) ⟨hx, hb, hml, hown, hts⟩ (n_X7_init l (dC, dI) tc q8 H.size) (cwI (ws' := ab_tb) 0 hts (nc_good (ab_t3 (i := 190) rfl rfl)) rfl rfl rfl (hts _ (ab_t1 (i := 8) rfl rfl)) (hts _ (ab_t3 (i := 188) rfl rfl)) (hts _ (ab_t3 (i := 189) rfl rfl)) rfl (by decide +kernel) ⟨Nat.le_of_ble_eq_true rfl, Nat.le_of_ble_eq_true rfl⟩) (nc_pre (ws := W_X6 tc q0 u6) hP hK hN hM) rfl rfl hl.1 rfl (lv_room (Nat.le_of_ble_eq_true rfl)) dl_12 ⟨Nat.le_of_ble_eq_true rfl, Nat.le_of_ble_eq_true rfl⟩) hP hD hS hA (fun u7 H locs hP hD hS => ?_)
  refine lv_astore_n (lv' := [(2, .ref q8), (1, .ref q0), (0, .ref b)]) hx hb dl_15 rfl hl (by decide) rfl (fun ls hl => ?_)
  refine W.widen (k := 82) (n := 33135) (by omega) (by omega) ?_
  have K : Go (lw_g l (dC, dI) tc L xs b q0 q8 u6 u7) lw_E m_law lw_Qr 16 [some (a_R 82), some (a_R 0), some (a_R 62), none] [] h00 := by
    refine go_iconst rfl ?_
    refine go_istore_n rfl (by decide) rfl ?_
    exact law_loop (g := lw_g l (dC, dI) tc L xs b q0 q8 u6 u7) hL (fun _ => rfl) (L + 1) 0 h00 (by omega) (show (0 : Int) ≤ (L : Int) by omega) (show (L : Int) - 0 < ((L + 1 : Nat) : Int) by omega) h00_inv
  refine K (fun q : Nat => s.heap.size ≤ q) p e s m #[Value.ref b] below meth c (lw_Z below #[Value.ref b] s) ⟨hx, hb, hml, hr, hlocks, hown, hts, hN, hK, k_law, fun _ => ⟨hX, hbl, hbA⟩⟩ ?_ H locs ls (wz_P hP) (wz_D hD) hS ⟨hl.1, hl.2.1, fun k v hk => ?_⟩ ⟨h00_ok, (fun v hv => by cases hv), fun k v hk => ?_⟩
  · intro H2 locs2 ls2 pc r h2 hq hh hv hP2 hD2 hS2 hrt
    have hq : r = some (a_I 1) := hq
    subst hq
    have hd : decode code pc = .ok (.ireturn, 1) := by
      rcases hrt with ⟨z, -⟩ | ⟨z, -, hd, -⟩ | ⟨z, hz, -⟩
      · cases z
      · exact hd
      · cases hz
    exact va_forget (fun q hq => hS2.2.2 q hq) (W.widen (k := 600000) (n := 7302249) (Nat.le_of_ble_eq_true rfl) (Nat.le_of_ble_eq_true rfl) (lw_ret hx hb hr hlocks hd))
  · match k, hk with
    | 0, hk => cases hk; exact lv_at hl 2 rfl
    | 1, hk => cases hk; exact lv_at hl 1 rfl
    | 2, hk => cases hk; exact lv_at hl 0 rfl
    | 3, hk => cases hk
    | k + 4, hk => cases hk
  · match k, hk with
    | 0, hk => cases hk; exact trivial
    | 1, hk => cases hk; exact trivial
    | 2, hk => cases hk; exact trivial
    | 3, hk => cases hk
    | k + 4, hk => cases hk
