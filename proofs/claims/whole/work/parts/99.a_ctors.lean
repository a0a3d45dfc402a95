/-! constructors of Road, Use, Walk, Letters (a program wrote this part: tools/p99a.py) -/
theorem nc_good {y : MethodName} {b : ByteArray} {n : Nat} {r : Option FieldType} (h : Cond.code y b n r ∈ ab_tb) : GoodIn ab_tb (Cond.code y b n r :: ab_tb) := by
  intro w hw
  have h1 : w ∈ ab_tb := by
    rcases List.mem_cons.mp hw with rfl | h2
    · exact h
    · exact h2
  exact ⟨h1, good_of_word (List.mem_filter.mp h1).2⟩
theorem dc_X2_0 : decode cX2_init 0 = .ok (.aload_n 0, 1) := by decide +kernel
theorem dc_X2_1 : decode cX2_init 1 = .ok (.invokespecial 3, 3) := by decide +kernel
theorem dc_X2_4 : decode cX2_init 4 = .ok (.aload_n 0, 1) := by decide +kernel
theorem dc_X2_5 : decode cX2_init 5 = .ok (.bipush 80, 2) := by decide +kernel
theorem dc_X2_7 : decode cX2_init 7 = .ok (.newarray .int, 2) := by decide +kernel
theorem dc_X2_9 : decode cX2_init 9 = .ok (.putfield 9, 3) := by decide +kernel
theorem dc_X2_12 : decode cX2_init 12 = .ok (.aload_n 0, 1) := by decide +kernel
theorem dc_X2_13 : decode cX2_init 13 = .ok (.bipush 6, 2) := by decide +kernel
theorem dc_X2_15 : decode cX2_init 15 = .ok (.newarray .int, 2) := by decide +kernel
theorem dc_X2_17 : decode cX2_init 17 = .ok (.putfield 15, 3) := by decide +kernel
theorem dc_X2_20 : decode cX2_init 20 = .ok (.aload_n 0, 1) := by decide +kernel
theorem dc_X2_21 : decode cX2_init 21 = .ok (.bipush 6, 2) := by decide +kernel
theorem dc_X2_23 : decode cX2_init 23 = .ok (.newarray .int, 2) := by decide +kernel
theorem dc_X2_25 : decode cX2_init 25 = .ok (.putfield 18, 3) := by decide +kernel
theorem dc_X2_28 : decode cX2_init 28 = .ok (.aload_n 0, 1) := by decide +kernel
theorem dc_X2_29 : decode cX2_init 29 = .ok (.bipush 6, 2) := by decide +kernel
theorem dc_X2_31 : decode cX2_init 31 = .ok (.newarray .int, 2) := by decide +kernel
theorem dc_X2_33 : decode cX2_init 33 = .ok (.putfield 21, 3) := by decide +kernel
theorem dc_X2_36 : decode cX2_init 36 = .ok (.aload_n 0, 1) := by decide +kernel
theorem dc_X2_37 : decode cX2_init 37 = .ok (.bipush 6, 2) := by decide +kernel
theorem dc_X2_39 : decode cX2_init 39 = .ok (.newarray .int, 2) := by decide +kernel
theorem dc_X2_41 : decode cX2_init 41 = .ok (.putfield 24, 3) := by decide +kernel
theorem dc_X2_44 : decode cX2_init 44 = .ok (.aload_n 0, 1) := by decide +kernel
theorem dc_X2_45 : decode cX2_init 45 = .ok (.iconst 0, 1) := by decide +kernel
theorem dc_X2_46 : decode cX2_init 46 = .ok (.putfield 27, 3) := by decide +kernel
theorem dc_X2_49 : decode cX2_init 49 = .ok (.aload_n 0, 1) := by decide +kernel
theorem dc_X2_50 : decode cX2_init 50 = .ok (.iconst 0, 1) := by decide +kernel
theorem dc_X2_51 : decode cX2_init 51 = .ok (.putfield 31, 3) := by decide +kernel
theorem dc_X2_54 : decode cX2_init 54 = .ok (.aload_n 0, 1) := by decide +kernel
theorem dc_X2_55 : decode cX2_init 55 = .ok (.iconst 1, 1) := by decide +kernel
theorem dc_X2_56 : decode cX2_init 56 = .ok (.putfield 34, 3) := by decide +kernel
theorem dc_X2_59 : decode cX2_init 59 = .ok (.aload_n 0, 1) := by decide +kernel
theorem dc_X2_60 : decode cX2_init 60 = .ok (.iconst 0, 1) := by decide +kernel
theorem dc_X2_61 : decode cX2_init 61 = .ok (.putfield 37, 3) := by decide +kernel
theorem dc_X2_64 : decode cX2_init 64 = .ok (.aload_n 0, 1) := by decide +kernel
theorem dc_X2_65 : decode cX2_init 65 = .ok (.iconst 0, 1) := by decide +kernel
theorem dc_X2_66 : decode cX2_init 66 = .ok (.putfield 40, 3) := by decide +kernel
theorem dc_X2_69 : decode cX2_init 69 = .ok (.return_, 1) := by decide +kernel
abbrev o_X2 : List Value := [.null, .null, .null, .null, .null, .int 0, .int 0, .int 0, .int 0, .int 0]
abbrev W_X2 (tc : Nat → ClassId) (a : Nat) (u : Nat → Nat) : va_W := [(a, .inr (2, [.ref (u 0), .ref (u 1), .ref (u 2), .ref (u 3), .ref (u 4), .int 0, .int 0, .int 1, .int 0, .int 0])), ((u 0), .inl (tc 0, 80, .inl (fun _ => 0))), ((u 1), .inl (tc 0, 6, .inl (fun _ => 0))), ((u 2), .inl (tc 0, 6, .inl (fun _ => 0))), ((u 3), .inl (tc 0, 6, .inl (fun _ => 0))), ((u 4), .inl (tc 0, 6, .inl (fun _ => 0)))]
set_option maxHeartbeats 4000000 in
set_option maxRecDepth 100000 in
theorem n_X2_init (l : Launch) (D : va_G) (tc : Nat → ClassId) (a sz : Nat) : Met l yX2_init (Cond.code yX2_init cX2_init 1 none :: ab_tb) { frames := 1, cells := 5, slots := 104, locals := 12 } (va_Pc [.ref a] (nc_B D tc sz [(a, .inr (2, o_X2))])) (va_Qv (fun _ : Nat → Nat => True) (fun u t => nc_E D tc (va_A [(a, .inr (2, o_X2))] sz) (W_X2 tc a u) t) (va_A [(a, .inr (2, o_X2))] sz)) 5 104 (va_A [(a, .inr (2, o_X2))] sz) := by
  refine Met.ofW (cc := cX2_init) (maxL := 1) (ret := none) (by decide) rfl ?_
  intro p e s m args below meth c s₁ B hml hv
  obtain ⟨rfl, hsz, hP, hK, hD0, hN, hM⟩ := hv
  have hx := B.exec
  have hb := B.bytes
  have hr := B.returns
  have hts : ∀ w ∈ ab_tb, w.before _ s = true := fun w hw => (atoms_spec (ws := Cond.code yX2_init cX2_init 1 none :: ab_tb) B.pre) w (List.mem_cons_of_mem _ hw)
  have hown : s.vm.findClass RX2 = some m.cls := findClass_of_methodNamed B.named
  have hlocks := B.notSynchronized
  have hin : meth.name = "<init>" := (name_of_methodNamed B.named B.method).1
  subst hsz
  have hD := hD0.self (sz := s.heap.size)
  generalize hAe : va_A [(a, .inr (2, o_X2))] s.heap.size = A at hD ⊢
  have hA : ∀ q : Nat, s.heap.size ≤ q → A q := fun q h => by rw [← hAe]; exact Or.inr h
  have hS : va_S A s.heap s.heap [] := va_S.rf
  have hl := lv_entry ([.ref a]) (n := 1) (Nat.le_of_ble_eq_true rfl)
  rw [lg_entry_eq]
  generalize (lg_sl ([.ref a]) ++ List.replicate (1 - (lg_sl ([.ref a])).length) Slot.unset).toArray = ls at hl ⊢
  have hl : lv_has ls 1 [(0, .ref a)] := hl
  refine lv_aload_n hx hb dc_X2_0 rfl (lv_at hl 0 rfl) ?_
  refine W.objInit hx hb hown (hts _ (ab_t1 (i := 27) rfl rfl)) (hts _ (ab_t1 (i := 20) rfl rfl)) (hts _ (ab_t1 (i := 21) rfl rfl)) rfl (by rw [hml]; exact hl.1) rfl dc_X2_1 (Nat.le_of_ble_eq_true rfl) (Nat.le_of_ble_eq_true rfl) ?_
  refine W.eq (g2 := F0 m 4 ls []) rfl ?_
  refine lv_aload_n hx hb dc_X2_4 rfl (lv_at hl 0 rfl) ?_
  refine lv_bipush (v := 80) hx hb dc_X2_5 (by decide) ?_
  refine nc_arr (t0 := 0) (ty := .int) (N' := 80) (a0 := (80, .inl (fun _ => 0))) hx hb (hts _ (ab_t1 (i := 73) rfl rfl)) rfl hK hP hD hS hA rfl (fun _ _ => rfl) (fun _ => rfl) (by decide) rfl (by decide) (Nat.le_of_ble_eq_true rfl) (Nat.le_of_ble_eq_true rfl) dc_X2_7 (fun q7 H hP hD hS => ?_)
  have hP : va_P D vwCl [(a, .inr (2, [.null, .null, .null, .null, .null, .int 0, .int 0, .int 0, .int 0, .int 0])), (q7, .inl (tc 0, 80, .inl (fun _ => 0)))] H := hP
  have hD : va_D A [(a, .inr (2, [.null, .null, .null, .null, .null, .int 0, .int 0, .int 0, .int 0, .int 0])), (q7, .inl (tc 0, 80, .inl (fun _ => 0)))] := hD
  refine va_putF (D := D) (ci := 2) (v := .ref q7) (ty := .array .int) hx hb hts (ab_cls (ci := 2) rfl).1.1 tyX2 tyX2_ok nmX2 hown hK hP hD hS 0 rfl rfl 0 (by decide) (hts _ (ab_t1 (i := 28) rfl rfl)) (fun _ h9 => h9) rfl hin rfl (by decide +kernel) rfl rfl (Nat.le_of_ble_eq_true rfl) dc_X2_9 (fun H locs hP hD hS => ?_)
  have hP : va_P D vwCl [(a, .inr (2, [.ref q7, .null, .null, .null, .null, .int 0, .int 0, .int 0, .int 0, .int 0])), (q7, .inl (tc 0, 80, .inl (fun _ => 0)))] H := hP
  have hD : va_D A [(a, .inr (2, [.ref q7, .null, .null, .null, .null, .int 0, .int 0, .int 0, .int 0, .int 0])), (q7, .inl (tc 0, 80, .inl (fun _ => 0)))] := hD
  refine lv_aload_n hx hb dc_X2_12 rfl (lv_at hl 0 rfl) ?_
  refine lv_bipush (v := 6) hx hb dc_X2_13 (by decide) ?_
  refine nc_arr (t0 := 0) (ty := .int) (N' := 6) (a0 := (6, .inl (fun _ => 0))) hx hb (hts _ (ab_t1 (i := 73) rfl rfl)) rfl hK hP hD hS hA rfl (fun _ _ => rfl) (fun _ => rfl) (by decide) rfl (by decide) (Nat.le_of_ble_eq_true rfl) (Nat.le_of_ble_eq_true rfl) dc_X2_15 (fun q15 H hP hD hS => ?_)
  have hP : va_P D vwCl [(a, .inr (2, [.ref q7, .null, .null, .null, .null, .int 0, .int 0, .int 0, .int 0, .int 0])), (q7, .inl (tc 0, 80, .inl (fun _ => 0))), (q15, .inl (tc 0, 6, .inl (fun _ => 0)))] H := hP
  have hD : va_D A [(a, .inr (2, [.ref q7, .null, .null, .null, .null, .int 0, .int 0, .int 0, .int 0, .int 0])), (q7, .inl (tc 0, 80, .inl (fun _ => 0))), (q15, .inl (tc 0, 6, .inl (fun _ => 0)))] := hD
  refine va_putF (D := D) (ci := 2) (v := .ref q15) (ty := .array .int) hx hb hts (ab_cls (ci := 2) rfl).1.1 tyX2 tyX2_ok nmX2 hown hK hP hD hS 0 rfl rfl 1 (by decide) (hts _ (ab_t1 (i := 29) rfl rfl)) (fun _ h9 => h9) rfl hin rfl (by decide +kernel) rfl rfl (Nat.le_of_ble_eq_true rfl) dc_X2_17 (fun H locs hP hD hS => ?_)
  have hP : va_P D vwCl [(a, .inr (2, [.ref q7, .ref q15, .null, .null, .null, .int 0, .int 0, .int 0, .int 0, .int 0])), (q7, .inl (tc 0, 80, .inl (fun _ => 0))), (q15, .inl (tc 0, 6, .inl (fun _ => 0)))] H := hP
  have hD : va_D A [(a, .inr (2, [.ref q7, .ref q15, .null, .null, .null, .int 0, .int 0, .int 0, .int 0, .int 0])), (q7, .inl (tc 0, 80, .inl (fun _ => 0))), (q15, .inl (tc 0, 6, .inl (fun _ => 0)))] := hD
  refine lv_aload_n hx hb dc_X2_20 rfl (lv_at hl 0 rfl) ?_
  refine lv_bipush (v := 6) hx hb dc_X2_21 (by decide) ?_
  refine nc_arr (t0 := 0) (ty := .int) (N' := 6) (a0 := (6, .inl (fun _ => 0))) hx hb (hts _ (ab_t1 (i := 73) rfl rfl)) rfl hK hP hD hS hA rfl (fun _ _ => rfl) (fun _ => rfl) (by decide) rfl (by decide) (Nat.le_of_ble_eq_true rfl) (Nat.le_of_ble_eq_true rfl) dc_X2_23 (fun q23 H hP hD hS => ?_)
  have hP : va_P D vwCl [(a, .inr (2, [.ref q7, .ref q15, .null, .null, .null, .int 0, .int 0, .int 0, .int 0, .int 0])), (q7, .inl (tc 0, 80, .inl (fun _ => 0))), (q15, .inl (tc 0, 6, .inl (fun _ => 0))), (q23, .inl (tc 0, 6, .inl (fun _ => 0)))] H := hP
  have hD : va_D A [(a, .inr (2, [.ref q7, .ref q15, .null, .null, .null, .int 0, .int 0, .int 0, .int 0, .int 0])), (q7, .inl (tc 0, 80, .inl (fun _ => 0))), (q15, .inl (tc 0, 6, .inl (fun _ => 0))), (q23, .inl (tc 0, 6, .inl (fun _ => 0)))] := hD
  refine va_putF (D := D) (ci := 2) (v := .ref q23) (ty := .array .int) hx hb hts (ab_cls (ci := 2) rfl).1.1 tyX2 tyX2_ok nmX2 hown hK hP hD hS 0 rfl rfl 2 (by decide) (hts _ (ab_t1 (i := 32) rfl rfl)) (fun _ h9 => h9) rfl hin rfl (by decide +kernel) rfl rfl (Nat.le_of_ble_eq_true rfl) dc_X2_25 (fun H locs hP hD hS => ?_)
  have hP : va_P D vwCl [(a, .inr (2, [.ref q7, .ref q15, .ref q23, .null, .null, .int 0, .int 0, .int 0, .int 0, .int 0])), (q7, .inl (tc 0, 80, .inl (fun _ => 0))), (q15, .inl (tc 0, 6, .inl (fun _ => 0))), (q23, .inl (tc 0, 6, .inl (fun _ => 0)))] H := hP
  have hD : va_D A [(a, .inr (2, [.ref q7, .ref q15, .ref q23, .null, .null, .int 0, .int 0, .int 0, .int 0, .int 0])), (q7, .inl (tc 0, 80, .inl (fun _ => 0))), (q15, .inl (tc 0, 6, .inl (fun _ => 0))), (q23, .inl (tc 0, 6, .inl (fun _ => 0)))] := hD
  refine lv_aload_n hx hb dc_X2_28 rfl (lv_at hl 0 rfl) ?_
  refine lv_bipush (v := 6) hx hb dc_X2_29 (by decide) ?_
  refine nc_arr (t0 := 0) (ty := .int) (N' := 6) (a0 := (6, .inl (fun _ => 0))) hx hb (hts _ (ab_t1 (i := 73) rfl rfl)) rfl hK hP hD hS hA rfl (fun _ _ => rfl) (fun _ => rfl) (by decide) rfl (by decide) (Nat.le_of_ble_eq_true rfl) (Nat.le_of_ble_eq_true rfl) dc_X2_31 (fun q31 H hP hD hS => ?_)
  have hP : va_P D vwCl [(a, .inr (2, [.ref q7, .ref q15, .ref q23, .null, .null, .int 0, .int 0, .int 0, .int 0, .int 0])), (q7, .inl (tc 0, 80, .inl (fun _ => 0))), (q15, .inl (tc 0, 6, .inl (fun _ => 0))), (q23, .inl (tc 0, 6, .inl (fun _ => 0))), (q31, .inl (tc 0, 6, .inl (fun _ => 0)))] H := hP
  have hD : va_D A [(a, .inr (2, [.ref q7, .ref q15, .ref q23, .null, .null, .int 0, .int 0, .int 0, .int 0, .int 0])), (q7, .inl (tc 0, 80, .inl (fun _ => 0))), (q15, .inl (tc 0, 6, .inl (fun _ => 0))), (q23, .inl (tc 0, 6, .inl (fun _ => 0))), (q31, .inl (tc 0, 6, .inl (fun _ => 0)))] := hD
  refine va_putF (D := D) (ci := 2) (v := .ref q31) (ty := .array .int) hx hb hts (ab_cls (ci := 2) rfl).1.1 tyX2 tyX2_ok nmX2 hown hK hP hD hS 0 rfl rfl 3 (by decide) (hts _ (ab_t1 (i := 35) rfl rfl)) (fun _ h9 => h9) rfl hin rfl (by decide +kernel) rfl rfl (Nat.le_of_ble_eq_true rfl) dc_X2_33 (fun H locs hP hD hS => ?_)
  have hP : va_P D vwCl [(a, .inr (2, [.ref q7, .ref q15, .ref q23, .ref q31, .null, .int 0, .int 0, .int 0, .int 0, .int 0])), (q7, .inl (tc 0, 80, .inl (fun _ => 0))), (q15, .inl (tc 0, 6, .inl (fun _ => 0))), (q23, .inl (tc 0, 6, .inl (fun _ => 0))), (q31, .inl (tc 0, 6, .inl (fun _ => 0)))] H := hP
  have hD : va_D A [(a, .inr (2, [.ref q7, .ref q15, .ref q23, .ref q31, .null, .int 0, .int 0, .int 0, .int 0, .int 0])), (q7, .inl (tc 0, 80, .inl (fun _ => 0))), (q15, .inl (tc 0, 6, .inl (fun _ => 0))), (q23, .inl (tc 0, 6, .inl (fun _ => 0))), (q31, .inl (tc 0, 6, .inl (fun _ => 0)))] := hD
  refine lv_aload_n hx hb dc_X2_36 rfl (lv_at hl 0 rfl) ?_
  refine lv_bipush (v := 6) hx hb dc_X2_37 (by decide) ?_
  refine nc_arr (t0 := 0) (ty := .int) (N' := 6) (a0 := (6, .inl (fun _ => 0))) hx hb (hts _ (ab_t1 (i := 73) rfl rfl)) rfl hK hP hD hS hA rfl (fun _ _ => rfl) (fun _ => rfl) (by decide) rfl (by decide) (Nat.le_of_ble_eq_true rfl) (Nat.le_of_ble_eq_true rfl) dc_X2_39 (fun q39 H hP hD hS => ?_)
  have hP : va_P D vwCl [(a, .inr (2, [.ref q7, .ref q15, .ref q23, .ref q31, .null, .int 0, .int 0, .int 0, .int 0, .int 0])), (q7, .inl (tc 0, 80, .inl (fun _ => 0))), (q15, .inl (tc 0, 6, .inl (fun _ => 0))), (q23, .inl (tc 0, 6, .inl (fun _ => 0))), (q31, .inl (tc 0, 6, .inl (fun _ => 0))), (q39, .inl (tc 0, 6, .inl (fun _ => 0)))] H := hP
  have hD : va_D A [(a, .inr (2, [.ref q7, .ref q15, .ref q23, .ref q31, .null, .int 0, .int 0, .int 0, .int 0, .int 0])), (q7, .inl (tc 0, 80, .inl (fun _ => 0))), (q15, .inl (tc 0, 6, .inl (fun _ => 0))), (q23, .inl (tc 0, 6, .inl (fun _ => 0))), (q31, .inl (tc 0, 6, .inl (fun _ => 0))), (q39, .inl (tc 0, 6, .inl (fun _ => 0)))] := hD
  refine va_putF (D := D) (ci := 2) (v := .ref q39) (ty := .array .int) hx hb hts (ab_cls (ci := 2) rfl).1.1 tyX2 tyX2_ok nmX2 hown hK hP hD hS 0 rfl rfl 4 (by decide) (hts _ (ab_t1 (i := 38) rfl rfl)) (fun _ h9 => h9) rfl hin rfl (by decide +kernel) rfl rfl (Nat.le_of_ble_eq_true rfl) dc_X2_41 (fun H locs hP hD hS => ?_)
  have hP : va_P D vwCl [(a, .inr (2, [.ref q7, .ref q15, .ref q23, .ref q31, .ref q39, .int 0, .int 0, .int 0, .int 0, .int 0])), (q7, .inl (tc 0, 80, .inl (fun _ => 0))), (q15, .inl (tc 0, 6, .inl (fun _ => 0))), (q23, .inl (tc 0, 6, .inl (fun _ => 0))), (q31, .inl (tc 0, 6, .inl (fun _ => 0))), (q39, .inl (tc 0, 6, .inl (fun _ => 0)))] H := hP
  have hD : va_D A [(a, .inr (2, [.ref q7, .ref q15, .ref q23, .ref q31, .ref q39, .int 0, .int 0, .int 0, .int 0, .int 0])), (q7, .inl (tc 0, 80, .inl (fun _ => 0))), (q15, .inl (tc 0, 6, .inl (fun _ => 0))), (q23, .inl (tc 0, 6, .inl (fun _ => 0))), (q31, .inl (tc 0, 6, .inl (fun _ => 0))), (q39, .inl (tc 0, 6, .inl (fun _ => 0)))] := hD
  refine lv_aload_n hx hb dc_X2_44 rfl (lv_at hl 0 rfl) ?_
  refine lv_iconst (v := 0) hx hb dc_X2_45 (by decide) ?_
  refine va_put (D := D) (ci := 2) (v := .int 0) (ty := .int) hx hb hts (ab_cls (ci := 2) rfl).1.1 tyX2 tyX2_ok nmX2 hown hK hP hD hS 0 rfl rfl 5 (by decide) (hts _ (ab_t1 (i := 40) rfl rfl)) (fun _ h9 => h9) rfl (by decide +kernel) rfl rfl (Nat.le_of_ble_eq_true rfl) dc_X2_46 (fun H locs hP hD hS => ?_)
  have hP : va_P D vwCl [(a, .inr (2, [.ref q7, .ref q15, .ref q23, .ref q31, .ref q39, .int 0, .int 0, .int 0, .int 0, .int 0])), (q7, .inl (tc 0, 80, .inl (fun _ => 0))), (q15, .inl (tc 0, 6, .inl (fun _ => 0))), (q23, .inl (tc 0, 6, .inl (fun _ => 0))), (q31, .inl (tc 0, 6, .inl (fun _ => 0))), (q39, .inl (tc 0, 6, .inl (fun _ => 0)))] H := hP
  have hD : va_D A [(a, .inr (2, [.ref q7, .ref q15, .ref q23, .ref q31, .ref q39, .int 0, .int 0, .int 0, .int 0, .int 0])), (q7, .inl (tc 0, 80, .inl (fun _ => 0))), (q15, .inl (tc 0, 6, .inl (fun _ => 0))), (q23, .inl (tc 0, 6, .inl (fun _ => 0))), (q31, .inl (tc 0, 6, .inl (fun _ => 0))), (q39, .inl (tc 0, 6, .inl (fun _ => 0)))] := hD
  refine lv_aload_n hx hb dc_X2_49 rfl (lv_at hl 0 rfl) ?_
  refine lv_iconst (v := 0) hx hb dc_X2_50 (by decide) ?_
  refine va_put (D := D) (ci := 2) (v := .int 0) (ty := .int) hx hb hts (ab_cls (ci := 2) rfl).1.1 tyX2 tyX2_ok nmX2 hown hK hP hD hS 0 rfl rfl 6 (by decide) (hts _ (ab_t1 (i := 42) rfl rfl)) (fun _ h9 => h9) rfl (by decide +kernel) rfl rfl (Nat.le_of_ble_eq_true rfl) dc_X2_51 (fun H locs hP hD hS => ?_)
  have hP : va_P D vwCl [(a, .inr (2, [.ref q7, .ref q15, .ref q23, .ref q31, .ref q39, .int 0, .int 0, .int 0, .int 0, .int 0])), (q7, .inl (tc 0, 80, .inl (fun _ => 0))), (q15, .inl (tc 0, 6, .inl (fun _ => 0))), (q23, .inl (tc 0, 6, .inl (fun _ => 0))), (q31, .inl (tc 0, 6, .inl (fun _ => 0))), (q39, .inl (tc 0, 6, .inl (fun _ => 0)))] H := hP
  have hD : va_D A [(a, .inr (2, [.ref q7, .ref q15, .ref q23, .ref q31, .ref q39, .int 0, .int 0, .int 0, .int 0, .int 0])), (q7, .inl (tc 0, 80, .inl (fun _ => 0))), (q15, .inl (tc 0, 6, .inl (fun _ => 0))), (q23, .inl (tc 0, 6, .inl (fun _ => 0))), (q31, .inl (tc 0, 6, .inl (fun _ => 0))), (q39, .inl (tc 0, 6, .inl (fun _ => 0)))] := hD
  refine lv_aload_n hx hb dc_X2_54 rfl (lv_at hl 0 rfl) ?_
  refine lv_iconst (v := 1) hx hb dc_X2_55 (by decide) ?_
  refine va_put (D := D) (ci := 2) (v := .int 1) (ty := .int) hx hb hts (ab_cls (ci := 2) rfl).1.1 tyX2 tyX2_ok nmX2 hown hK hP hD hS 0 rfl rfl 7 (by decide) (hts _ (ab_t1 (i := 44) rfl rfl)) (fun _ h9 => h9) rfl (by decide +kernel) rfl rfl (Nat.le_of_ble_eq_true rfl) dc_X2_56 (fun H locs hP hD hS => ?_)
  have hP : va_P D vwCl [(a, .inr (2, [.ref q7, .ref q15, .ref q23, .ref q31, .ref q39, .int 0, .int 0, .int 1, .int 0, .int 0])), (q7, .inl (tc 0, 80, .inl (fun _ => 0))), (q15, .inl (tc 0, 6, .inl (fun _ => 0))), (q23, .inl (tc 0, 6, .inl (fun _ => 0))), (q31, .inl (tc 0, 6, .inl (fun _ => 0))), (q39, .inl (tc 0, 6, .inl (fun _ => 0)))] H := hP
  have hD : va_D A [(a, .inr (2, [.ref q7, .ref q15, .ref q23, .ref q31, .ref q39, .int 0, .int 0, .int 1, .int 0, .int 0])), (q7, .inl (tc 0, 80, .inl (fun _ => 0))), (q15, .inl (tc 0, 6, .inl (fun _ => 0))), (q23, .inl (tc 0, 6, .inl (fun _ => 0))), (q31, .inl (tc 0, 6, .inl (fun _ => 0))), (q39, .inl (tc 0, 6, .inl (fun _ => 0)))] := hD
  refine lv_aload_n hx hb dc_X2_59 rfl (lv_at hl 0 rfl) ?_
  refine lv_iconst (v := 0) hx hb dc_X2_60 (by decide) ?_
  refine va_put (D := D) (ci := 2) (v := .int 0) (ty := .int) hx hb hts (ab_cls (ci := 2) rfl).1.1 tyX2 tyX2_ok nmX2 hown hK hP hD hS 0 rfl rfl 8 (by decide) (hts _ (ab_t1 (i := 47) rfl rfl)) (fun _ h9 => h9) rfl (by decide +kernel) rfl rfl (Nat.le_of_ble_eq_true rfl) dc_X2_61 (fun H locs hP hD hS => ?_)
  have hP : va_P D vwCl [(a, .inr (2, [.ref q7, .ref q15, .ref q23, .ref q31, .ref q39, .int 0, .int 0, .int 1, .int 0, .int 0])), (q7, .inl (tc 0, 80, .inl (fun _ => 0))), (q15, .inl (tc 0, 6, .inl (fun _ => 0))), (q23, .inl (tc 0, 6, .inl (fun _ => 0))), (q31, .inl (tc 0, 6, .inl (fun _ => 0))), (q39, .inl (tc 0, 6, .inl (fun _ => 0)))] H := hP
  have hD : va_D A [(a, .inr (2, [.ref q7, .ref q15, .ref q23, .ref q31, .ref q39, .int 0, .int 0, .int 1, .int 0, .int 0])), (q7, .inl (tc 0, 80, .inl (fun _ => 0))), (q15, .inl (tc 0, 6, .inl (fun _ => 0))), (q23, .inl (tc 0, 6, .inl (fun _ => 0))), (q31, .inl (tc 0, 6, .inl (fun _ => 0))), (q39, .inl (tc 0, 6, .inl (fun _ => 0)))] := hD
  refine lv_aload_n hx hb dc_X2_64 rfl (lv_at hl 0 rfl) ?_
  refine lv_iconst (v := 0) hx hb dc_X2_65 (by decide) ?_
  refine va_put (D := D) (ci := 2) (v := .int 0) (ty := .int) hx hb hts (ab_cls (ci := 2) rfl).1.1 tyX2 tyX2_ok nmX2 hown hK hP hD hS 0 rfl rfl 9 (by decide) (hts _ (ab_t1 (i := 50) rfl rfl)) (fun _ h9 => h9) rfl (by decide +kernel) rfl rfl (Nat.le_of_ble_eq_true rfl) dc_X2_66 (fun H locs hP hD hS => ?_)
  have hP : va_P D vwCl [(a, .inr (2, [.ref q7, .ref q15, .ref q23, .ref q31, .ref q39, .int 0, .int 0, .int 1, .int 0, .int 0])), (q7, .inl (tc 0, 80, .inl (fun _ => 0))), (q15, .inl (tc 0, 6, .inl (fun _ => 0))), (q23, .inl (tc 0, 6, .inl (fun _ => 0))), (q31, .inl (tc 0, 6, .inl (fun _ => 0))), (q39, .inl (tc 0, 6, .inl (fun _ => 0)))] H := hP
  have hD : va_D A [(a, .inr (2, [.ref q7, .ref q15, .ref q23, .ref q31, .ref q39, .int 0, .int 0, .int 1, .int 0, .int 0])), (q7, .inl (tc 0, 80, .inl (fun _ => 0))), (q15, .inl (tc 0, 6, .inl (fun _ => 0))), (q23, .inl (tc 0, 6, .inl (fun _ => 0))), (q31, .inl (tc 0, 6, .inl (fun _ => 0))), (q39, .inl (tc 0, 6, .inl (fun _ => 0)))] := hD
  exact W.vret hx hb hr (fun t ht hW => ⟨⟨(fun k => ([q7, q15, q23, q31, q39] : List Nat).getD k 0), rfl, trivial, by rw [ht]; exact hP, va_K.moved hW.alike hK, hD⟩, hS.F ht⟩) hS.2.2 dc_X2_69
theorem dc_X4_0 : decode cX4_init 0 = .ok (.aload_n 0, 1) := by decide +kernel
theorem dc_X4_1 : decode cX4_init 1 = .ok (.invokespecial 3, 3) := by decide +kernel
theorem dc_X4_4 : decode cX4_init 4 = .ok (.aload_n 0, 1) := by decide +kernel
theorem dc_X4_5 : decode cX4_init 5 = .ok (.bipush 6, 2) := by decide +kernel
theorem dc_X4_7 : decode cX4_init 7 = .ok (.newarray .int, 2) := by decide +kernel
theorem dc_X4_9 : decode cX4_init 9 = .ok (.putfield 9, 3) := by decide +kernel
theorem dc_X4_12 : decode cX4_init 12 = .ok (.aload_n 0, 1) := by decide +kernel
theorem dc_X4_13 : decode cX4_init 13 = .ok (.bipush 6, 2) := by decide +kernel
theorem dc_X4_15 : decode cX4_init 15 = .ok (.newarray .int, 2) := by decide +kernel
theorem dc_X4_17 : decode cX4_init 17 = .ok (.putfield 15, 3) := by decide +kernel
theorem dc_X4_20 : decode cX4_init 20 = .ok (.aload_n 0, 1) := by decide +kernel
theorem dc_X4_21 : decode cX4_init 21 = .ok (.iconst 0, 1) := by decide +kernel
theorem dc_X4_22 : decode cX4_init 22 = .ok (.putfield 18, 3) := by decide +kernel
theorem dc_X4_25 : decode cX4_init 25 = .ok (.aload_n 0, 1) := by decide +kernel
theorem dc_X4_26 : decode cX4_init 26 = .ok (.iconst 0, 1) := by decide +kernel
theorem dc_X4_27 : decode cX4_init 27 = .ok (.putfield 22, 3) := by decide +kernel
theorem dc_X4_30 : decode cX4_init 30 = .ok (.return_, 1) := by decide +kernel
abbrev o_X4 : List Value := [.null, .null, .int 0, .int 0]
abbrev W_X4 (tc : Nat → ClassId) (a : Nat) (u : Nat → Nat) : va_W := [(a, .inr (4, [.ref (u 0), .ref (u 1), .int 0, .int 0])), ((u 0), .inl (tc 0, 6, .inl (fun _ => 0))), ((u 1), .inl (tc 0, 6, .inl (fun _ => 0)))]
set_option maxHeartbeats 4000000 in
set_option maxRecDepth 100000 in
theorem n_X4_init (l : Launch) (D : va_G) (tc : Nat → ClassId) (a sz : Nat) : Met l yX4_init (Cond.code yX4_init cX4_init 1 none :: ab_tb) { frames := 1, cells := 2, slots := 12, locals := 12 } (va_Pc [.ref a] (nc_B D tc sz [(a, .inr (4, o_X4))])) (va_Qv (fun _ : Nat → Nat => True) (fun u t => nc_E D tc (va_A [(a, .inr (4, o_X4))] sz) (W_X4 tc a u) t) (va_A [(a, .inr (4, o_X4))] sz)) 2 12 (va_A [(a, .inr (4, o_X4))] sz) := by
  refine Met.ofW (cc := cX4_init) (maxL := 1) (ret := none) (by decide) rfl ?_
  intro p e s m args below meth c s₁ B hml hv
  obtain ⟨rfl, hsz, hP, hK, hD0, hN, hM⟩ := hv
  have hx := B.exec
  have hb := B.bytes
  have hr := B.returns
  have hts : ∀ w ∈ ab_tb, w.before _ s = true := fun w hw => (atoms_spec (ws := Cond.code yX4_init cX4_init 1 none :: ab_tb) B.pre) w (List.mem_cons_of_mem _ hw)
  have hown : s.vm.findClass RX4 = some m.cls := findClass_of_methodNamed B.named
  have hlocks := B.notSynchronized
  have hin : meth.name = "<init>" := (name_of_methodNamed B.named B.method).1
  subst hsz
  have hD := hD0.self (sz := s.heap.size)
  generalize hAe : va_A [(a, .inr (4, o_X4))] s.heap.size = A at hD ⊢
  have hA : ∀ q : Nat, s.heap.size ≤ q → A q := fun q h => by rw [← hAe]; exact Or.inr h
  have hS : va_S A s.heap s.heap [] := va_S.rf
  have hl := lv_entry ([.ref a]) (n := 1) (Nat.le_of_ble_eq_true rfl)
  rw [lg_entry_eq]
  generalize (lg_sl ([.ref a]) ++ List.replicate (1 - (lg_sl ([.ref a])).length) Slot.unset).toArray = ls at hl ⊢
  have hl : lv_has ls 1 [(0, .ref a)] := hl
  refine lv_aload_n hx hb dc_X4_0 rfl (lv_at hl 0 rfl) ?_
  refine W.objInit hx hb hown (hts _ (ab_t1 (i := 79) rfl rfl)) (hts _ (ab_t1 (i := 20) rfl rfl)) (hts _ (ab_t1 (i := 21) rfl rfl)) rfl (by rw [hml]; exact hl.1) rfl dc_X4_1 (Nat.le_of_ble_eq_true rfl) (Nat.le_of_ble_eq_true rfl) ?_
  refine W.eq (g2 := F0 m 4 ls []) rfl ?_
  refine lv_aload_n hx hb dc_X4_4 rfl (lv_at hl 0 rfl) ?_
  refine lv_bipush (v := 6) hx hb dc_X4_5 (by decide) ?_
  refine nc_arr (t0 := 0) (ty := .int) (N' := 6) (a0 := (6, .inl (fun _ => 0))) hx hb (hts _ (ab_t1 (i := 73) rfl rfl)) rfl hK hP hD hS hA rfl (fun _ _ => rfl) (fun _ => rfl) (by decide) rfl (by decide) (Nat.le_of_ble_eq_true rfl) (Nat.le_of_ble_eq_true rfl) dc_X4_7 (fun q7 H hP hD hS => ?_)
  have hP : va_P D vwCl [(a, .inr (4, [.null, .null, .int 0, .int 0])), (q7, .inl (tc 0, 6, .inl (fun _ => 0)))] H := hP
  have hD : va_D A [(a, .inr (4, [.null, .null, .int 0, .int 0])), (q7, .inl (tc 0, 6, .inl (fun _ => 0)))] := hD
  refine va_putF (D := D) (ci := 4) (v := .ref q7) (ty := .array .int) hx hb hts (ab_cls (ci := 4) rfl).1.1 tyX4 tyX4_ok nmX4 hown hK hP hD hS 0 rfl rfl 0 (by decide) (hts _ (ab_t1 (i := 80) rfl rfl)) (fun _ h9 => h9) rfl hin rfl (by decide +kernel) rfl rfl (Nat.le_of_ble_eq_true rfl) dc_X4_9 (fun H locs hP hD hS => ?_)
  have hP : va_P D vwCl [(a, .inr (4, [.ref q7, .null, .int 0, .int 0])), (q7, .inl (tc 0, 6, .inl (fun _ => 0)))] H := hP
  have hD : va_D A [(a, .inr (4, [.ref q7, .null, .int 0, .int 0])), (q7, .inl (tc 0, 6, .inl (fun _ => 0)))] := hD
  refine lv_aload_n hx hb dc_X4_12 rfl (lv_at hl 0 rfl) ?_
  refine lv_bipush (v := 6) hx hb dc_X4_13 (by decide) ?_
  refine nc_arr (t0 := 0) (ty := .int) (N' := 6) (a0 := (6, .inl (fun _ => 0))) hx hb (hts _ (ab_t1 (i := 73) rfl rfl)) rfl hK hP hD hS hA rfl (fun _ _ => rfl) (fun _ => rfl) (by decide) rfl (by decide) (Nat.le_of_ble_eq_true rfl) (Nat.le_of_ble_eq_true rfl) dc_X4_15 (fun q15 H hP hD hS => ?_)
  have hP : va_P D vwCl [(a, .inr (4, [.ref q7, .null, .int 0, .int 0])), (q7, .inl (tc 0, 6, .inl (fun _ => 0))), (q15, .inl (tc 0, 6, .inl (fun _ => 0)))] H := hP
  have hD : va_D A [(a, .inr (4, [.ref q7, .null, .int 0, .int 0])), (q7, .inl (tc 0, 6, .inl (fun _ => 0))), (q15, .inl (tc 0, 6, .inl (fun _ => 0)))] := hD
  refine va_putF (D := D) (ci := 4) (v := .ref q15) (ty := .array .int) hx hb hts (ab_cls (ci := 4) rfl).1.1 tyX4 tyX4_ok nmX4 hown hK hP hD hS 0 rfl rfl 1 (by decide) (hts _ (ab_t1 (i := 83) rfl rfl)) (fun _ h9 => h9) rfl hin rfl (by decide +kernel) rfl rfl (Nat.le_of_ble_eq_true rfl) dc_X4_17 (fun H locs hP hD hS => ?_)
  have hP : va_P D vwCl [(a, .inr (4, [.ref q7, .ref q15, .int 0, .int 0])), (q7, .inl (tc 0, 6, .inl (fun _ => 0))), (q15, .inl (tc 0, 6, .inl (fun _ => 0)))] H := hP
  have hD : va_D A [(a, .inr (4, [.ref q7, .ref q15, .int 0, .int 0])), (q7, .inl (tc 0, 6, .inl (fun _ => 0))), (q15, .inl (tc 0, 6, .inl (fun _ => 0)))] := hD
  refine lv_aload_n hx hb dc_X4_20 rfl (lv_at hl 0 rfl) ?_
  refine lv_iconst (v := 0) hx hb dc_X4_21 (by decide) ?_
  refine va_put (D := D) (ci := 4) (v := .int 0) (ty := .int) hx hb hts (ab_cls (ci := 4) rfl).1.1 tyX4 tyX4_ok nmX4 hown hK hP hD hS 0 rfl rfl 2 (by decide) (hts _ (ab_t1 (i := 86) rfl rfl)) (fun _ h9 => h9) rfl (by decide +kernel) rfl rfl (Nat.le_of_ble_eq_true rfl) dc_X4_22 (fun H locs hP hD hS => ?_)
  have hP : va_P D vwCl [(a, .inr (4, [.ref q7, .ref q15, .int 0, .int 0])), (q7, .inl (tc 0, 6, .inl (fun _ => 0))), (q15, .inl (tc 0, 6, .inl (fun _ => 0)))] H := hP
  have hD : va_D A [(a, .inr (4, [.ref q7, .ref q15, .int 0, .int 0])), (q7, .inl (tc 0, 6, .inl (fun _ => 0))), (q15, .inl (tc 0, 6, .inl (fun _ => 0)))] := hD
  refine lv_aload_n hx hb dc_X4_25 rfl (lv_at hl 0 rfl) ?_
  refine lv_iconst (v := 0) hx hb dc_X4_26 (by decide) ?_
  refine va_put (D := D) (ci := 4) (v := .int 0) (ty := .int) hx hb hts (ab_cls (ci := 4) rfl).1.1 tyX4 tyX4_ok nmX4 hown hK hP hD hS 0 rfl rfl 3 (by decide) (hts _ (ab_t1 (i := 89) rfl rfl)) (fun _ h9 => h9) rfl (by decide +kernel) rfl rfl (Nat.le_of_ble_eq_true rfl) dc_X4_27 (fun H locs hP hD hS => ?_)
  have hP : va_P D vwCl [(a, .inr (4, [.ref q7, .ref q15, .int 0, .int 0])), (q7, .inl (tc 0, 6, .inl (fun _ => 0))), (q15, .inl (tc 0, 6, .inl (fun _ => 0)))] H := hP
  have hD : va_D A [(a, .inr (4, [.ref q7, .ref q15, .int 0, .int 0])), (q7, .inl (tc 0, 6, .inl (fun _ => 0))), (q15, .inl (tc 0, 6, .inl (fun _ => 0)))] := hD
  exact W.vret hx hb hr (fun t ht hW => ⟨⟨(fun k => ([q7, q15] : List Nat).getD k 0), rfl, trivial, by rw [ht]; exact hP, va_K.moved hW.alike hK, hD⟩, hS.F ht⟩) hS.2.2 dc_X4_30
theorem dc_X5_0 : decode cX5_init 0 = .ok (.aload_n 0, 1) := by decide +kernel
theorem dc_X5_1 : decode cX5_init 1 = .ok (.invokespecial 3, 3) := by decide +kernel
theorem dc_X5_4 : decode cX5_init 4 = .ok (.aload_n 0, 1) := by decide +kernel
theorem dc_X5_5 : decode cX5_init 5 = .ok (.bipush 6, 2) := by decide +kernel
theorem dc_X5_7 : decode cX5_init 7 = .ok (.newarray .int, 2) := by decide +kernel
theorem dc_X5_9 : decode cX5_init 9 = .ok (.putfield 9, 3) := by decide +kernel
theorem dc_X5_12 : decode cX5_init 12 = .ok (.aload_n 0, 1) := by decide +kernel
theorem dc_X5_13 : decode cX5_init 13 = .ok (.bipush 6, 2) := by decide +kernel
theorem dc_X5_15 : decode cX5_init 15 = .ok (.newarray .int, 2) := by decide +kernel
theorem dc_X5_17 : decode cX5_init 17 = .ok (.putfield 15, 3) := by decide +kernel
theorem dc_X5_20 : decode cX5_init 20 = .ok (.aload_n 0, 1) := by decide +kernel
theorem dc_X5_21 : decode cX5_init 21 = .ok (.bipush 6, 2) := by decide +kernel
theorem dc_X5_23 : decode cX5_init 23 = .ok (.newarray .int, 2) := by decide +kernel
theorem dc_X5_25 : decode cX5_init 25 = .ok (.putfield 18, 3) := by decide +kernel
theorem dc_X5_28 : decode cX5_init 28 = .ok (.aload_n 0, 1) := by decide +kernel
theorem dc_X5_29 : decode cX5_init 29 = .ok (.bipush 6, 2) := by decide +kernel
theorem dc_X5_31 : decode cX5_init 31 = .ok (.newarray .int, 2) := by decide +kernel
theorem dc_X5_33 : decode cX5_init 33 = .ok (.putfield 21, 3) := by decide +kernel
theorem dc_X5_36 : decode cX5_init 36 = .ok (.aload_n 0, 1) := by decide +kernel
theorem dc_X5_37 : decode cX5_init 37 = .ok (.bipush 6, 2) := by decide +kernel
theorem dc_X5_39 : decode cX5_init 39 = .ok (.newarray .int, 2) := by decide +kernel
theorem dc_X5_41 : decode cX5_init 41 = .ok (.putfield 24, 3) := by decide +kernel
theorem dc_X5_44 : decode cX5_init 44 = .ok (.aload_n 0, 1) := by decide +kernel
theorem dc_X5_45 : decode cX5_init 45 = .ok (.bipush 6, 2) := by decide +kernel
theorem dc_X5_47 : decode cX5_init 47 = .ok (.newarray .int, 2) := by decide +kernel
theorem dc_X5_49 : decode cX5_init 49 = .ok (.putfield 27, 3) := by decide +kernel
theorem dc_X5_52 : decode cX5_init 52 = .ok (.aload_n 0, 1) := by decide +kernel
theorem dc_X5_53 : decode cX5_init 53 = .ok (.bipush 6, 2) := by decide +kernel
theorem dc_X5_55 : decode cX5_init 55 = .ok (.newarray .int, 2) := by decide +kernel
theorem dc_X5_57 : decode cX5_init 57 = .ok (.putfield 30, 3) := by decide +kernel
theorem dc_X5_60 : decode cX5_init 60 = .ok (.aload_n 0, 1) := by decide +kernel
theorem dc_X5_61 : decode cX5_init 61 = .ok (.iconst 0, 1) := by decide +kernel
theorem dc_X5_62 : decode cX5_init 62 = .ok (.putfield 33, 3) := by decide +kernel
theorem dc_X5_65 : decode cX5_init 65 = .ok (.aload_n 0, 1) := by decide +kernel
theorem dc_X5_66 : decode cX5_init 66 = .ok (.iconst 0, 1) := by decide +kernel
theorem dc_X5_67 : decode cX5_init 67 = .ok (.putfield 37, 3) := by decide +kernel
theorem dc_X5_70 : decode cX5_init 70 = .ok (.aload_n 0, 1) := by decide +kernel
theorem dc_X5_71 : decode cX5_init 71 = .ok (.iconst 2, 1) := by decide +kernel
theorem dc_X5_72 : decode cX5_init 72 = .ok (.putfield 40, 3) := by decide +kernel
theorem dc_X5_75 : decode cX5_init 75 = .ok (.aload_n 0, 1) := by decide +kernel
theorem dc_X5_76 : decode cX5_init 76 = .ok (.iconst 0, 1) := by decide +kernel
theorem dc_X5_77 : decode cX5_init 77 = .ok (.putfield 43, 3) := by decide +kernel
theorem dc_X5_80 : decode cX5_init 80 = .ok (.aload_n 0, 1) := by decide +kernel
theorem dc_X5_81 : decode cX5_init 81 = .ok (.iconst 0, 1) := by decide +kernel
theorem dc_X5_82 : decode cX5_init 82 = .ok (.putfield 46, 3) := by decide +kernel
theorem dc_X5_85 : decode cX5_init 85 = .ok (.aload_n 0, 1) := by decide +kernel
theorem dc_X5_86 : decode cX5_init 86 = .ok (.iconst 0, 1) := by decide +kernel
theorem dc_X5_87 : decode cX5_init 87 = .ok (.putfield 49, 3) := by decide +kernel
theorem dc_X5_90 : decode cX5_init 90 = .ok (.aload_n 0, 1) := by decide +kernel
theorem dc_X5_91 : decode cX5_init 91 = .ok (.lconst 0, 1) := by decide +kernel
theorem dc_X5_92 : decode cX5_init 92 = .ok (.putfield 52, 3) := by decide +kernel
theorem dc_X5_95 : decode cX5_init 95 = .ok (.return_, 1) := by decide +kernel
abbrev o_X5 : List Value := [.null, .null, .null, .null, .null, .null, .null, .int 0, .int 0, .int 0, .int 0, .int 0, .int 0, .long 0]
abbrev W_X5 (tc : Nat → ClassId) (a : Nat) (u : Nat → Nat) : va_W := [(a, .inr (5, [.ref (u 0), .ref (u 1), .ref (u 2), .ref (u 3), .ref (u 4), .ref (u 5), .ref (u 6), .int 0, .int 0, .int 2, .int 0, .int 0, .int 0, .long 0])), ((u 0), .inl (tc 0, 6, .inl (fun _ => 0))), ((u 1), .inl (tc 0, 6, .inl (fun _ => 0))), ((u 2), .inl (tc 0, 6, .inl (fun _ => 0))), ((u 3), .inl (tc 0, 6, .inl (fun _ => 0))), ((u 4), .inl (tc 0, 6, .inl (fun _ => 0))), ((u 5), .inl (tc 0, 6, .inl (fun _ => 0))), ((u 6), .inl (tc 0, 6, .inl (fun _ => 0)))]
set_option maxHeartbeats 4000000 in
set_option maxRecDepth 100000 in
theorem n_X5_init (l : Launch) (D : va_G) (tc : Nat → ClassId) (a sz : Nat) : Met l yX5_init (Cond.code yX5_init cX5_init 1 none :: ab_tb) { frames := 1, cells := 7, slots := 42, locals := 12 } (va_Pc [.ref a] (nc_B D tc sz [(a, .inr (5, o_X5))])) (va_Qv (fun _ : Nat → Nat => True) (fun u t => nc_E D tc (va_A [(a, .inr (5, o_X5))] sz) (W_X5 tc a u) t) (va_A [(a, .inr (5, o_X5))] sz)) 7 42 (va_A [(a, .inr (5, o_X5))] sz) := by
  refine Met.ofW (cc := cX5_init) (maxL := 1) (ret := none) (by decide) rfl ?_
  intro p e s m args below meth c s₁ B hml hv
  obtain ⟨rfl, hsz, hP, hK, hD0, hN, hM⟩ := hv
  have hx := B.exec
  have hb := B.bytes
  have hr := B.returns
  have hts : ∀ w ∈ ab_tb, w.before _ s = true := fun w hw => (atoms_spec (ws := Cond.code yX5_init cX5_init 1 none :: ab_tb) B.pre) w (List.mem_cons_of_mem _ hw)
  have hown : s.vm.findClass RX5 = some m.cls := findClass_of_methodNamed B.named
  have hlocks := B.notSynchronized
  have hin : meth.name = "<init>" := (name_of_methodNamed B.named B.method).1
  subst hsz
  have hD := hD0.self (sz := s.heap.size)
  generalize hAe : va_A [(a, .inr (5, o_X5))] s.heap.size = A at hD ⊢
  have hA : ∀ q : Nat, s.heap.size ≤ q → A q := fun q h => by rw [← hAe]; exact Or.inr h
  have hS : va_S A s.heap s.heap [] := va_S.rf
  have hl := lv_entry ([.ref a]) (n := 1) (Nat.le_of_ble_eq_true rfl)
  rw [lg_entry_eq]
  generalize (lg_sl ([.ref a]) ++ List.replicate (1 - (lg_sl ([.ref a])).length) Slot.unset).toArray = ls at hl ⊢
  have hl : lv_has ls 1 [(0, .ref a)] := hl
  refine lv_aload_n hx hb dc_X5_0 rfl (lv_at hl 0 rfl) ?_
  refine W.objInit hx hb hown (hts _ (ab_t1 (i := 106) rfl rfl)) (hts _ (ab_t1 (i := 20) rfl rfl)) (hts _ (ab_t1 (i := 21) rfl rfl)) rfl (by rw [hml]; exact hl.1) rfl dc_X5_1 (Nat.le_of_ble_eq_true rfl) (Nat.le_of_ble_eq_true rfl) ?_
  refine W.eq (g2 := F0 m 4 ls []) rfl ?_
  refine lv_aload_n hx hb dc_X5_4 rfl (lv_at hl 0 rfl) ?_
  refine lv_bipush (v := 6) hx hb dc_X5_5 (by decide) ?_
  refine nc_arr (t0 := 0) (ty := .int) (N' := 6) (a0 := (6, .inl (fun _ => 0))) hx hb (hts _ (ab_t1 (i := 73) rfl rfl)) rfl hK hP hD hS hA rfl (fun _ _ => rfl) (fun _ => rfl) (by decide) rfl (by decide) (Nat.le_of_ble_eq_true rfl) (Nat.le_of_ble_eq_true rfl) dc_X5_7 (fun q7 H hP hD hS => ?_)
  have hP : va_P D vwCl [(a, .inr (5, [.null, .null, .null, .null, .null, .null, .null, .int 0, .int 0, .int 0, .int 0, .int 0, .int 0, .long 0])), (q7, .inl (tc 0, 6, .inl (fun _ => 0)))] H := hP
  have hD : va_D A [(a, .inr (5, [.null, .null, .null, .null, .null, .null, .null, .int 0, .int 0, .int 0, .int 0, .int 0, .int 0, .long 0])), (q7, .inl (tc 0, 6, .inl (fun _ => 0)))] := hD
  refine va_putF (D := D) (ci := 5) (v := .ref q7) (ty := .array .int) hx hb hts (ab_cls (ci := 5) rfl).1.1 tyX5 tyX5_ok nmX5 hown hK hP hD hS 0 rfl rfl 0 (by decide) (hts _ (ab_t1 (i := 107) rfl rfl)) (fun _ h9 => h9) rfl hin rfl (by decide +kernel) rfl rfl (Nat.le_of_ble_eq_true rfl) dc_X5_9 (fun H locs hP hD hS => ?_)
  have hP : va_P D vwCl [(a, .inr (5, [.ref q7, .null, .null, .null, .null, .null, .null, .int 0, .int 0, .int 0, .int 0, .int 0, .int 0, .long 0])), (q7, .inl (tc 0, 6, .inl (fun _ => 0)))] H := hP
  have hD : va_D A [(a, .inr (5, [.ref q7, .null, .null, .null, .null, .null, .null, .int 0, .int 0, .int 0, .int 0, .int 0, .int 0, .long 0])), (q7, .inl (tc 0, 6, .inl (fun _ => 0)))] := hD
  refine lv_aload_n hx hb dc_X5_12 rfl (lv_at hl 0 rfl) ?_
  refine lv_bipush (v := 6) hx hb dc_X5_13 (by decide) ?_
  refine nc_arr (t0 := 0) (ty := .int) (N' := 6) (a0 := (6, .inl (fun _ => 0))) hx hb (hts _ (ab_t1 (i := 73) rfl rfl)) rfl hK hP hD hS hA rfl (fun _ _ => rfl) (fun _ => rfl) (by decide) rfl (by decide) (Nat.le_of_ble_eq_true rfl) (Nat.le_of_ble_eq_true rfl) dc_X5_15 (fun q15 H hP hD hS => ?_)
  have hP : va_P D vwCl [(a, .inr (5, [.ref q7, .null, .null, .null, .null, .null, .null, .int 0, .int 0, .int 0, .int 0, .int 0, .int 0, .long 0])), (q7, .inl (tc 0, 6, .inl (fun _ => 0))), (q15, .inl (tc 0, 6, .inl (fun _ => 0)))] H := hP
  have hD : va_D A [(a, .inr (5, [.ref q7, .null, .null, .null, .null, .null, .null, .int 0, .int 0, .int 0, .int 0, .int 0, .int 0, .long 0])), (q7, .inl (tc 0, 6, .inl (fun _ => 0))), (q15, .inl (tc 0, 6, .inl (fun _ => 0)))] := hD
  refine va_putF (D := D) (ci := 5) (v := .ref q15) (ty := .array .int) hx hb hts (ab_cls (ci := 5) rfl).1.1 tyX5 tyX5_ok nmX5 hown hK hP hD hS 0 rfl rfl 1 (by decide) (hts _ (ab_t1 (i := 109) rfl rfl)) (fun _ h9 => h9) rfl hin rfl (by decide +kernel) rfl rfl (Nat.le_of_ble_eq_true rfl) dc_X5_17 (fun H locs hP hD hS => ?_)
  have hP : va_P D vwCl [(a, .inr (5, [.ref q7, .ref q15, .null, .null, .null, .null, .null, .int 0, .int 0, .int 0, .int 0, .int 0, .int 0, .long 0])), (q7, .inl (tc 0, 6, .inl (fun _ => 0))), (q15, .inl (tc 0, 6, .inl (fun _ => 0)))] H := hP
  have hD : va_D A [(a, .inr (5, [.ref q7, .ref q15, .null, .null, .null, .null, .null, .int 0, .int 0, .int 0, .int 0, .int 0, .int 0, .long 0])), (q7, .inl (tc 0, 6, .inl (fun _ => 0))), (q15, .inl (tc 0, 6, .inl (fun _ => 0)))] := hD
  refine lv_aload_n hx hb dc_X5_20 rfl (lv_at hl 0 rfl) ?_
  refine lv_bipush (v := 6) hx hb dc_X5_21 (by decide) ?_
  refine nc_arr (t0 := 0) (ty := .int) (N' := 6) (a0 := (6, .inl (fun _ => 0))) hx hb (hts _ (ab_t1 (i := 73) rfl rfl)) rfl hK hP hD hS hA rfl (fun _ _ => rfl) (fun _ => rfl) (by decide) rfl (by decide) (Nat.le_of_ble_eq_true rfl) (Nat.le_of_ble_eq_true rfl) dc_X5_23 (fun q23 H hP hD hS => ?_)
  have hP : va_P D vwCl [(a, .inr (5, [.ref q7, .ref q15, .null, .null, .null, .null, .null, .int 0, .int 0, .int 0, .int 0, .int 0, .int 0, .long 0])), (q7, .inl (tc 0, 6, .inl (fun _ => 0))), (q15, .inl (tc 0, 6, .inl (fun _ => 0))), (q23, .inl (tc 0, 6, .inl (fun _ => 0)))] H := hP
  have hD : va_D A [(a, .inr (5, [.ref q7, .ref q15, .null, .null, .null, .null, .null, .int 0, .int 0, .int 0, .int 0, .int 0, .int 0, .long 0])), (q7, .inl (tc 0, 6, .inl (fun _ => 0))), (q15, .inl (tc 0, 6, .inl (fun _ => 0))), (q23, .inl (tc 0, 6, .inl (fun _ => 0)))] := hD
  refine va_putF (D := D) (ci := 5) (v := .ref q23) (ty := .array .int) hx hb hts (ab_cls (ci := 5) rfl).1.1 tyX5 tyX5_ok nmX5 hown hK hP hD hS 0 rfl rfl 2 (by decide) (hts _ (ab_t1 (i := 110) rfl rfl)) (fun _ h9 => h9) rfl hin rfl (by decide +kernel) rfl rfl (Nat.le_of_ble_eq_true rfl) dc_X5_25 (fun H locs hP hD hS => ?_)
  have hP : va_P D vwCl [(a, .inr (5, [.ref q7, .ref q15, .ref q23, .null, .null, .null, .null, .int 0, .int 0, .int 0, .int 0, .int 0, .int 0, .long 0])), (q7, .inl (tc 0, 6, .inl (fun _ => 0))), (q15, .inl (tc 0, 6, .inl (fun _ => 0))), (q23, .inl (tc 0, 6, .inl (fun _ => 0)))] H := hP
  have hD : va_D A [(a, .inr (5, [.ref q7, .ref q15, .ref q23, .null, .null, .null, .null, .int 0, .int 0, .int 0, .int 0, .int 0, .int 0, .long 0])), (q7, .inl (tc 0, 6, .inl (fun _ => 0))), (q15, .inl (tc 0, 6, .inl (fun _ => 0))), (q23, .inl (tc 0, 6, .inl (fun _ => 0)))] := hD
  refine lv_aload_n hx hb dc_X5_28 rfl (lv_at hl 0 rfl) ?_
  refine lv_bipush (v := 6) hx hb dc_X5_29 (by decide) ?_
  refine nc_arr (t0 := 0) (ty := .int) (N' := 6) (a0 := (6, .inl (fun _ => 0))) hx hb (hts _ (ab_t1 (i := 73) rfl rfl)) rfl hK hP hD hS hA rfl (fun _ _ => rfl) (fun _ => rfl) (by decide) rfl (by decide) (Nat.le_of_ble_eq_true rfl) (Nat.le_of_ble_eq_true rfl) dc_X5_31 (fun q31 H hP hD hS => ?_)
  have hP : va_P D vwCl [(a, .inr (5, [.ref q7, .ref q15, .ref q23, .null, .null, .null, .null, .int 0, .int 0, .int 0, .int 0, .int 0, .int 0, .long 0])), (q7, .inl (tc 0, 6, .inl (fun _ => 0))), (q15, .inl (tc 0, 6, .inl (fun _ => 0))), (q23, .inl (tc 0, 6, .inl (fun _ => 0))), (q31, .inl (tc 0, 6, .inl (fun _ => 0)))] H := hP
  have hD : va_D A [(a, .inr (5, [.ref q7, .ref q15, .ref q23, .null, .null, .null, .null, .int 0, .int 0, .int 0, .int 0, .int 0, .int 0, .long 0])), (q7, .inl (tc 0, 6, .inl (fun _ => 0))), (q15, .inl (tc 0, 6, .inl (fun _ => 0))), (q23, .inl (tc 0, 6, .inl (fun _ => 0))), (q31, .inl (tc 0, 6, .inl (fun _ => 0)))] := hD
  refine va_putF (D := D) (ci := 5) (v := .ref q31) (ty := .array .int) hx hb hts (ab_cls (ci := 5) rfl).1.1 tyX5 tyX5_ok nmX5 hown hK hP hD hS 0 rfl rfl 3 (by decide) (hts _ (ab_t1 (i := 112) rfl rfl)) (fun _ h9 => h9) rfl hin rfl (by decide +kernel) rfl rfl (Nat.le_of_ble_eq_true rfl) dc_X5_33 (fun H locs hP hD hS => ?_)
  have hP : va_P D vwCl [(a, .inr (5, [.ref q7, .ref q15, .ref q23, .ref q31, .null, .null, .null, .int 0, .int 0, .int 0, .int 0, .int 0, .int 0, .long 0])), (q7, .inl (tc 0, 6, .inl (fun _ => 0))), (q15, .inl (tc 0, 6, .inl (fun _ => 0))), (q23, .inl (tc 0, 6, .inl (fun _ => 0))), (q31, .inl (tc 0, 6, .inl (fun _ => 0)))] H := hP
  have hD : va_D A [(a, .inr (5, [.ref q7, .ref q15, .ref q23, .ref q31, .null, .null, .null, .int 0, .int 0, .int 0, .int 0, .int 0, .int 0, .long 0])), (q7, .inl (tc 0, 6, .inl (fun _ => 0))), (q15, .inl (tc 0, 6, .inl (fun _ => 0))), (q23, .inl (tc 0, 6, .inl (fun _ => 0))), (q31, .inl (tc 0, 6, .inl (fun _ => 0)))] := hD
  refine lv_aload_n hx hb dc_X5_36 rfl (lv_at hl 0 rfl) ?_
  refine lv_bipush (v := 6) hx hb dc_X5_37 (by decide) ?_
  refine nc_arr (t0 := 0) (ty := .int) (N' := 6) (a0 := (6, .inl (fun _ => 0))) hx hb (hts _ (ab_t1 (i := 73) rfl rfl)) rfl hK hP hD hS hA rfl (fun _ _ => rfl) (fun _ => rfl) (by decide) rfl (by decide) (Nat.le_of_ble_eq_true rfl) (Nat.le_of_ble_eq_true rfl) dc_X5_39 (fun q39 H hP hD hS => ?_)
  have hP : va_P D vwCl [(a, .inr (5, [.ref q7, .ref q15, .ref q23, .ref q31, .null, .null, .null, .int 0, .int 0, .int 0, .int 0, .int 0, .int 0, .long 0])), (q7, .inl (tc 0, 6, .inl (fun _ => 0))), (q15, .inl (tc 0, 6, .inl (fun _ => 0))), (q23, .inl (tc 0, 6, .inl (fun _ => 0))), (q31, .inl (tc 0, 6, .inl (fun _ => 0))), (q39, .inl (tc 0, 6, .inl (fun _ => 0)))] H := hP
  have hD : va_D A [(a, .inr (5, [.ref q7, .ref q15, .ref q23, .ref q31, .null, .null, .null, .int 0, .int 0, .int 0, .int 0, .int 0, .int 0, .long 0])), (q7, .inl (tc 0, 6, .inl (fun _ => 0))), (q15, .inl (tc 0, 6, .inl (fun _ => 0))), (q23, .inl (tc 0, 6, .inl (fun _ => 0))), (q31, .inl (tc 0, 6, .inl (fun _ => 0))), (q39, .inl (tc 0, 6, .inl (fun _ => 0)))] := hD
  refine va_putF (D := D) (ci := 5) (v := .ref q39) (ty := .array .int) hx hb hts (ab_cls (ci := 5) rfl).1.1 tyX5 tyX5_ok nmX5 hown hK hP hD hS 0 rfl rfl 4 (by decide) (hts _ (ab_t1 (i := 115) rfl rfl)) (fun _ h9 => h9) rfl hin rfl (by decide +kernel) rfl rfl (Nat.le_of_ble_eq_true rfl) dc_X5_41 (fun H locs hP hD hS => ?_)
  have hP : va_P D vwCl [(a, .inr (5, [.ref q7, .ref q15, .ref q23, .ref q31, .ref q39, .null, .null, .int 0, .int 0, .int 0, .int 0, .int 0, .int 0, .long 0])), (q7, .inl (tc 0, 6, .inl (fun _ => 0))), (q15, .inl (tc 0, 6, .inl (fun _ => 0))), (q23, .inl (tc 0, 6, .inl (fun _ => 0))), (q31, .inl (tc 0, 6, .inl (fun _ => 0))), (q39, .inl (tc 0, 6, .inl (fun _ => 0)))] H := hP
  have hD : va_D A [(a, .inr (5, [.ref q7, .ref q15, .ref q23, .ref q31, .ref q39, .null, .null, .int 0, .int 0, .int 0, .int 0, .int 0, .int 0, .long 0])), (q7, .inl (tc 0, 6, .inl (fun _ => 0))), (q15, .inl (tc 0, 6, .inl (fun _ => 0))), (q23, .inl (tc 0, 6, .inl (fun _ => 0))), (q31, .inl (tc 0, 6, .inl (fun _ => 0))), (q39, .inl (tc 0, 6, .inl (fun _ => 0)))] := hD
  refine lv_aload_n hx hb dc_X5_44 rfl (lv_at hl 0 rfl) ?_
  refine lv_bipush (v := 6) hx hb dc_X5_45 (by decide) ?_
  refine nc_arr (t0 := 0) (ty := .int) (N' := 6) (a0 := (6, .inl (fun _ => 0))) hx hb (hts _ (ab_t1 (i := 73) rfl rfl)) rfl hK hP hD hS hA rfl (fun _ _ => rfl) (fun _ => rfl) (by decide) rfl (by decide) (Nat.le_of_ble_eq_true rfl) (Nat.le_of_ble_eq_true rfl) dc_X5_47 (fun q47 H hP hD hS => ?_)
  have hP : va_P D vwCl [(a, .inr (5, [.ref q7, .ref q15, .ref q23, .ref q31, .ref q39, .null, .null, .int 0, .int 0, .int 0, .int 0, .int 0, .int 0, .long 0])), (q7, .inl (tc 0, 6, .inl (fun _ => 0))), (q15, .inl (tc 0, 6, .inl (fun _ => 0))), (q23, .inl (tc 0, 6, .inl (fun _ => 0))), (q31, .inl (tc 0, 6, .inl (fun _ => 0))), (q39, .inl (tc 0, 6, .inl (fun _ => 0))), (q47, .inl (tc 0, 6, .inl (fun _ => 0)))] H := hP
  have hD : va_D A [(a, .inr (5, [.ref q7, .ref q15, .ref q23, .ref q31, .ref q39, .null, .null, .int 0, .int 0, .int 0, .int 0, .int 0, .int 0, .long 0])), (q7, .inl (tc 0, 6, .inl (fun _ => 0))), (q15, .inl (tc 0, 6, .inl (fun _ => 0))), (q23, .inl (tc 0, 6, .inl (fun _ => 0))), (q31, .inl (tc 0, 6, .inl (fun _ => 0))), (q39, .inl (tc 0, 6, .inl (fun _ => 0))), (q47, .inl (tc 0, 6, .inl (fun _ => 0)))] := hD
  refine va_putF (D := D) (ci := 5) (v := .ref q47) (ty := .array .int) hx hb hts (ab_cls (ci := 5) rfl).1.1 tyX5 tyX5_ok nmX5 hown hK hP hD hS 0 rfl rfl 5 (by decide) (hts _ (ab_t1 (i := 116) rfl rfl)) (fun _ h9 => h9) rfl hin rfl (by decide +kernel) rfl rfl (Nat.le_of_ble_eq_true rfl) dc_X5_49 (fun H locs hP hD hS => ?_)
  have hP : va_P D vwCl [(a, .inr (5, [.ref q7, .ref q15, .ref q23, .ref q31, .ref q39, .ref q47, .null, .int 0, .int 0, .int 0, .int 0, .int 0, .int 0, .long 0])), (q7, .inl (tc 0, 6, .inl (fun _ => 0))), (q15, .inl (tc 0, 6, .inl (fun _ => 0))), (q23, .inl (tc 0, 6, .inl (fun _ => 0))), (q31, .inl (tc 0, 6, .inl (fun _ => 0))), (q39, .inl (tc 0, 6, .inl (fun _ => 0))), (q47, .inl (tc 0, 6, .inl (fun _ => 0)))] H := hP
  have hD : va_D A [(a, .inr (5, [.ref q7, .ref q15, .ref q23, .ref q31, .ref q39, .ref q47, .null, .int 0, .int 0, .int 0, .int 0, .int 0, .int 0, .long 0])), (q7, .inl (tc 0, 6, .inl (fun _ => 0))), (q15, .inl (tc 0, 6, .inl (fun _ => 0))), (q23, .inl (tc 0, 6, .inl (fun _ => 0))), (q31, .inl (tc 0, 6, .inl (fun _ => 0))), (q39, .inl (tc 0, 6, .inl (fun _ => 0))), (q47, .inl (tc 0, 6, .inl (fun _ => 0)))] := hD
  refine lv_aload_n hx hb dc_X5_52 rfl (lv_at hl 0 rfl) ?_
  refine lv_bipush (v := 6) hx hb dc_X5_53 (by decide) ?_
  refine nc_arr (t0 := 0) (ty := .int) (N' := 6) (a0 := (6, .inl (fun _ => 0))) hx hb (hts _ (ab_t1 (i := 73) rfl rfl)) rfl hK hP hD hS hA rfl (fun _ _ => rfl) (fun _ => rfl) (by decide) rfl (by decide) (Nat.le_of_ble_eq_true rfl) (Nat.le_of_ble_eq_true rfl) dc_X5_55 (fun q55 H hP hD hS => ?_)
  have hP : va_P D vwCl [(a, .inr (5, [.ref q7, .ref q15, .ref q23, .ref q31, .ref q39, .ref q47, .null, .int 0, .int 0, .int 0, .int 0, .int 0, .int 0, .long 0])), (q7, .inl (tc 0, 6, .inl (fun _ => 0))), (q15, .inl (tc 0, 6, .inl (fun _ => 0))), (q23, .inl (tc 0, 6, .inl (fun _ => 0))), (q31, .inl (tc 0, 6, .inl (fun _ => 0))), (q39, .inl (tc 0, 6, .inl (fun _ => 0))), (q47, .inl (tc 0, 6, .inl (fun _ => 0))), (q55, .inl (tc 0, 6, .inl (fun _ => 0)))] H := hP
  have hD : va_D A [(a, .inr (5, [.ref q7, .ref q15, .ref q23, .ref q31, .ref q39, .ref q47, .null, .int 0, .int 0, .int 0, .int 0, .int 0, .int 0, .long 0])), (q7, .inl (tc 0, 6, .inl (fun _ => 0))), (q15, .inl (tc 0, 6, .inl (fun _ => 0))), (q23, .inl (tc 0, 6, .inl (fun _ => 0))), (q31, .inl (tc 0, 6, .inl (fun _ => 0))), (q39, .inl (tc 0, 6, .inl (fun _ => 0))), (q47, .inl (tc 0, 6, .inl (fun _ => 0))), (q55, .inl (tc 0, 6, .inl (fun _ => 0)))] := hD
  refine va_putF (D := D) (ci := 5) (v := .ref q55) (ty := .array .int) hx hb hts (ab_cls (ci := 5) rfl).1.1 tyX5 tyX5_ok nmX5 hown hK hP hD hS 0 rfl rfl 6 (by decide) (hts _ (ab_t1 (i := 117) rfl rfl)) (fun _ h9 => h9) rfl hin rfl (by decide +kernel) rfl rfl (Nat.le_of_ble_eq_true rfl) dc_X5_57 (fun H locs hP hD hS => ?_)
  have hP : va_P D vwCl [(a, .inr (5, [.ref q7, .ref q15, .ref q23, .ref q31, .ref q39, .ref q47, .ref q55, .int 0, .int 0, .int 0, .int 0, .int 0, .int 0, .long 0])), (q7, .inl (tc 0, 6, .inl (fun _ => 0))), (q15, .inl (tc 0, 6, .inl (fun _ => 0))), (q23, .inl (tc 0, 6, .inl (fun _ => 0))), (q31, .inl (tc 0, 6, .inl (fun _ => 0))), (q39, .inl (tc 0, 6, .inl (fun _ => 0))), (q47, .inl (tc 0, 6, .inl (fun _ => 0))), (q55, .inl (tc 0, 6, .inl (fun _ => 0)))] H := hP
  have hD : va_D A [(a, .inr (5, [.ref q7, .ref q15, .ref q23, .ref q31, .ref q39, .ref q47, .ref q55, .int 0, .int 0, .int 0, .int 0, .int 0, .int 0, .long 0])), (q7, .inl (tc 0, 6, .inl (fun _ => 0))), (q15, .inl (tc 0, 6, .inl (fun _ => 0))), (q23, .inl (tc 0, 6, .inl (fun _ => 0))), (q31, .inl (tc 0, 6, .inl (fun _ => 0))), (q39, .inl (tc 0, 6, .inl (fun _ => 0))), (q47, .inl (tc 0, 6, .inl (fun _ => 0))), (q55, .inl (tc 0, 6, .inl (fun _ => 0)))] := hD
  refine lv_aload_n hx hb dc_X5_60 rfl (lv_at hl 0 rfl) ?_
  refine lv_iconst (v := 0) hx hb dc_X5_61 (by decide) ?_
  refine va_put (D := D) (ci := 5) (v := .int 0) (ty := .int) hx hb hts (ab_cls (ci := 5) rfl).1.1 tyX5 tyX5_ok nmX5 hown hK hP hD hS 0 rfl rfl 7 (by decide) (hts _ (ab_t1 (i := 118) rfl rfl)) (fun _ h9 => h9) rfl (by decide +kernel) rfl rfl (Nat.le_of_ble_eq_true rfl) dc_X5_62 (fun H locs hP hD hS => ?_)
  have hP : va_P D vwCl [(a, .inr (5, [.ref q7, .ref q15, .ref q23, .ref q31, .ref q39, .ref q47, .ref q55, .int 0, .int 0, .int 0, .int 0, .int 0, .int 0, .long 0])), (q7, .inl (tc 0, 6, .inl (fun _ => 0))), (q15, .inl (tc 0, 6, .inl (fun _ => 0))), (q23, .inl (tc 0, 6, .inl (fun _ => 0))), (q31, .inl (tc 0, 6, .inl (fun _ => 0))), (q39, .inl (tc 0, 6, .inl (fun _ => 0))), (q47, .inl (tc 0, 6, .inl (fun _ => 0))), (q55, .inl (tc 0, 6, .inl (fun _ => 0)))] H := hP
  have hD : va_D A [(a, .inr (5, [.ref q7, .ref q15, .ref q23, .ref q31, .ref q39, .ref q47, .ref q55, .int 0, .int 0, .int 0, .int 0, .int 0, .int 0, .long 0])), (q7, .inl (tc 0, 6, .inl (fun _ => 0))), (q15, .inl (tc 0, 6, .inl (fun _ => 0))), (q23, .inl (tc 0, 6, .inl (fun _ => 0))), (q31, .inl (tc 0, 6, .inl (fun _ => 0))), (q39, .inl (tc 0, 6, .inl (fun _ => 0))), (q47, .inl (tc 0, 6, .inl (fun _ => 0))), (q55, .inl (tc 0, 6, .inl (fun _ => 0)))] := hD
  refine lv_aload_n hx hb dc_X5_65 rfl (lv_at hl 0 rfl) ?_
  refine lv_iconst (v := 0) hx hb dc_X5_66 (by decide) ?_
  refine va_put (D := D) (ci := 5) (v := .int 0) (ty := .int) hx hb hts (ab_cls (ci := 5) rfl).1.1 tyX5 tyX5_ok nmX5 hown hK hP hD hS 0 rfl rfl 8 (by decide) (hts _ (ab_t1 (i := 119) rfl rfl)) (fun _ h9 => h9) rfl (by decide +kernel) rfl rfl (Nat.le_of_ble_eq_true rfl) dc_X5_67 (fun H locs hP hD hS => ?_)
  have hP : va_P D vwCl [(a, .inr (5, [.ref q7, .ref q15, .ref q23, .ref q31, .ref q39, .ref q47, .ref q55, .int 0, .int 0, .int 0, .int 0, .int 0, .int 0, .long 0])), (q7, .inl (tc 0, 6, .inl (fun _ => 0))), (q15, .inl (tc 0, 6, .inl (fun _ => 0))), (q23, .inl (tc 0, 6, .inl (fun _ => 0))), (q31, .inl (tc 0, 6, .inl (fun _ => 0))), (q39, .inl (tc 0, 6, .inl (fun _ => 0))), (q47, .inl (tc 0, 6, .inl (fun _ => 0))), (q55, .inl (tc 0, 6, .inl (fun _ => 0)))] H := hP
  have hD : va_D A [(a, .inr (5, [.ref q7, .ref q15, .ref q23, .ref q31, .ref q39, .ref q47, .ref q55, .int 0, .int 0, .int 0, .int 0, .int 0, .int 0, .long 0])), (q7, .inl (tc 0, 6, .inl (fun _ => 0))), (q15, .inl (tc 0, 6, .inl (fun _ => 0))), (q23, .inl (tc 0, 6, .inl (fun _ => 0))), (q31, .inl (tc 0, 6, .inl (fun _ => 0))), (q39, .inl (tc 0, 6, .inl (fun _ => 0))), (q47, .inl (tc 0, 6, .inl (fun _ => 0))), (q55, .inl (tc 0, 6, .inl (fun _ => 0)))] := hD
  refine lv_aload_n hx hb dc_X5_70 rfl (lv_at hl 0 rfl) ?_
  refine lv_iconst (v := 2) hx hb dc_X5_71 (by decide) ?_
  refine va_put (D := D) (ci := 5) (v := .int 2) (ty := .int) hx hb hts (ab_cls (ci := 5) rfl).1.1 tyX5 tyX5_ok nmX5 hown hK hP hD hS 0 rfl rfl 9 (by decide) (hts _ (ab_t1 (i := 120) rfl rfl)) (fun _ h9 => h9) rfl (by decide +kernel) rfl rfl (Nat.le_of_ble_eq_true rfl) dc_X5_72 (fun H locs hP hD hS => ?_)
  have hP : va_P D vwCl [(a, .inr (5, [.ref q7, .ref q15, .ref q23, .ref q31, .ref q39, .ref q47, .ref q55, .int 0, .int 0, .int 2, .int 0, .int 0, .int 0, .long 0])), (q7, .inl (tc 0, 6, .inl (fun _ => 0))), (q15, .inl (tc 0, 6, .inl (fun _ => 0))), (q23, .inl (tc 0, 6, .inl (fun _ => 0))), (q31, .inl (tc 0, 6, .inl (fun _ => 0))), (q39, .inl (tc 0, 6, .inl (fun _ => 0))), (q47, .inl (tc 0, 6, .inl (fun _ => 0))), (q55, .inl (tc 0, 6, .inl (fun _ => 0)))] H := hP
  have hD : va_D A [(a, .inr (5, [.ref q7, .ref q15, .ref q23, .ref q31, .ref q39, .ref q47, .ref q55, .int 0, .int 0, .int 2, .int 0, .int 0, .int 0, .long 0])), (q7, .inl (tc 0, 6, .inl (fun _ => 0))), (q15, .inl (tc 0, 6, .inl (fun _ => 0))), (q23, .inl (tc 0, 6, .inl (fun _ => 0))), (q31, .inl (tc 0, 6, .inl (fun _ => 0))), (q39, .inl (tc 0, 6, .inl (fun _ => 0))), (q47, .inl (tc 0, 6, .inl (fun _ => 0))), (q55, .inl (tc 0, 6, .inl (fun _ => 0)))] := hD
  refine lv_aload_n hx hb dc_X5_75 rfl (lv_at hl 0 rfl) ?_
  refine lv_iconst (v := 0) hx hb dc_X5_76 (by decide) ?_
  refine va_put (D := D) (ci := 5) (v := .int 0) (ty := .int) hx hb hts (ab_cls (ci := 5) rfl).1.1 tyX5 tyX5_ok nmX5 hown hK hP hD hS 0 rfl rfl 10 (by decide) (hts _ (ab_t1 (i := 121) rfl rfl)) (fun _ h9 => h9) rfl (by decide +kernel) rfl rfl (Nat.le_of_ble_eq_true rfl) dc_X5_77 (fun H locs hP hD hS => ?_)
  have hP : va_P D vwCl [(a, .inr (5, [.ref q7, .ref q15, .ref q23, .ref q31, .ref q39, .ref q47, .ref q55, .int 0, .int 0, .int 2, .int 0, .int 0, .int 0, .long 0])), (q7, .inl (tc 0, 6, .inl (fun _ => 0))), (q15, .inl (tc 0, 6, .inl (fun _ => 0))), (q23, .inl (tc 0, 6, .inl (fun _ => 0))), (q31, .inl (tc 0, 6, .inl (fun _ => 0))), (q39, .inl (tc 0, 6, .inl (fun _ => 0))), (q47, .inl (tc 0, 6, .inl (fun _ => 0))), (q55, .inl (tc 0, 6, .inl (fun _ => 0)))] H := hP
  have hD : va_D A [(a, .inr (5, [.ref q7, .ref q15, .ref q23, .ref q31, .ref q39, .ref q47, .ref q55, .int 0, .int 0, .int 2, .int 0, .int 0, .int 0, .long 0])), (q7, .inl (tc 0, 6, .inl (fun _ => 0))), (q15, .inl (tc 0, 6, .inl (fun _ => 0))), (q23, .inl (tc 0, 6, .inl (fun _ => 0))), (q31, .inl (tc 0, 6, .inl (fun _ => 0))), (q39, .inl (tc 0, 6, .inl (fun _ => 0))), (q47, .inl (tc 0, 6, .inl (fun _ => 0))), (q55, .inl (tc 0, 6, .inl (fun _ => 0)))] := hD
  refine lv_aload_n hx hb dc_X5_80 rfl (lv_at hl 0 rfl) ?_
  refine lv_iconst (v := 0) hx hb dc_X5_81 (by decide) ?_
  refine va_put (D := D) (ci := 5) (v := .int 0) (ty := .int) hx hb hts (ab_cls (ci := 5) rfl).1.1 tyX5 tyX5_ok nmX5 hown hK hP hD hS 0 rfl rfl 11 (by decide) (hts _ (ab_t1 (i := 122) rfl rfl)) (fun _ h9 => h9) rfl (by decide +kernel) rfl rfl (Nat.le_of_ble_eq_true rfl) dc_X5_82 (fun H locs hP hD hS => ?_)
  have hP : va_P D vwCl [(a, .inr (5, [.ref q7, .ref q15, .ref q23, .ref q31, .ref q39, .ref q47, .ref q55, .int 0, .int 0, .int 2, .int 0, .int 0, .int 0, .long 0])), (q7, .inl (tc 0, 6, .inl (fun _ => 0))), (q15, .inl (tc 0, 6, .inl (fun _ => 0))), (q23, .inl (tc 0, 6, .inl (fun _ => 0))), (q31, .inl (tc 0, 6, .inl (fun _ => 0))), (q39, .inl (tc 0, 6, .inl (fun _ => 0))), (q47, .inl (tc 0, 6, .inl (fun _ => 0))), (q55, .inl (tc 0, 6, .inl (fun _ => 0)))] H := hP
  have hD : va_D A [(a, .inr (5, [.ref q7, .ref q15, .ref q23, .ref q31, .ref q39, .ref q47, .ref q55, .int 0, .int 0, .int 2, .int 0, .int 0, .int 0, .long 0])), (q7, .inl (tc 0, 6, .inl (fun _ => 0))), (q15, .inl (tc 0, 6, .inl (fun _ => 0))), (q23, .inl (tc 0, 6, .inl (fun _ => 0))), (q31, .inl (tc 0, 6, .inl (fun _ => 0))), (q39, .inl (tc 0, 6, .inl (fun _ => 0))), (q47, .inl (tc 0, 6, .inl (fun _ => 0))), (q55, .inl (tc 0, 6, .inl (fun _ => 0)))] := hD
  refine lv_aload_n hx hb dc_X5_85 rfl (lv_at hl 0 rfl) ?_
  refine lv_iconst (v := 0) hx hb dc_X5_86 (by decide) ?_
  refine va_put (D := D) (ci := 5) (v := .int 0) (ty := .int) hx hb hts (ab_cls (ci := 5) rfl).1.1 tyX5 tyX5_ok nmX5 hown hK hP hD hS 0 rfl rfl 12 (by decide) (hts _ (ab_t1 (i := 123) rfl rfl)) (fun _ h9 => h9) rfl (by decide +kernel) rfl rfl (Nat.le_of_ble_eq_true rfl) dc_X5_87 (fun H locs hP hD hS => ?_)
  have hP : va_P D vwCl [(a, .inr (5, [.ref q7, .ref q15, .ref q23, .ref q31, .ref q39, .ref q47, .ref q55, .int 0, .int 0, .int 2, .int 0, .int 0, .int 0, .long 0])), (q7, .inl (tc 0, 6, .inl (fun _ => 0))), (q15, .inl (tc 0, 6, .inl (fun _ => 0))), (q23, .inl (tc 0, 6, .inl (fun _ => 0))), (q31, .inl (tc 0, 6, .inl (fun _ => 0))), (q39, .inl (tc 0, 6, .inl (fun _ => 0))), (q47, .inl (tc 0, 6, .inl (fun _ => 0))), (q55, .inl (tc 0, 6, .inl (fun _ => 0)))] H := hP
  have hD : va_D A [(a, .inr (5, [.ref q7, .ref q15, .ref q23, .ref q31, .ref q39, .ref q47, .ref q55, .int 0, .int 0, .int 2, .int 0, .int 0, .int 0, .long 0])), (q7, .inl (tc 0, 6, .inl (fun _ => 0))), (q15, .inl (tc 0, 6, .inl (fun _ => 0))), (q23, .inl (tc 0, 6, .inl (fun _ => 0))), (q31, .inl (tc 0, 6, .inl (fun _ => 0))), (q39, .inl (tc 0, 6, .inl (fun _ => 0))), (q47, .inl (tc 0, 6, .inl (fun _ => 0))), (q55, .inl (tc 0, 6, .inl (fun _ => 0)))] := hD
  refine lv_aload_n hx hb dc_X5_90 rfl (lv_at hl 0 rfl) ?_
  refine lv_lconst (v := 0) hx hb dc_X5_91 (by decide) ?_
  refine va_put (D := D) (ci := 5) (v := .long 0) (ty := .long) hx hb hts (ab_cls (ci := 5) rfl).1.1 tyX5 tyX5_ok nmX5 hown hK hP hD hS 0 rfl rfl 13 (by decide) (hts _ (ab_t1 (i := 125) rfl rfl)) (fun _ h9 => h9) rfl (by decide +kernel) rfl rfl (Nat.le_of_ble_eq_true rfl) dc_X5_92 (fun H locs hP hD hS => ?_)
  have hP : va_P D vwCl [(a, .inr (5, [.ref q7, .ref q15, .ref q23, .ref q31, .ref q39, .ref q47, .ref q55, .int 0, .int 0, .int 2, .int 0, .int 0, .int 0, .long 0])), (q7, .inl (tc 0, 6, .inl (fun _ => 0))), (q15, .inl (tc 0, 6, .inl (fun _ => 0))), (q23, .inl (tc 0, 6, .inl (fun _ => 0))), (q31, .inl (tc 0, 6, .inl (fun _ => 0))), (q39, .inl (tc 0, 6, .inl (fun _ => 0))), (q47, .inl (tc 0, 6, .inl (fun _ => 0))), (q55, .inl (tc 0, 6, .inl (fun _ => 0)))] H := hP
  have hD : va_D A [(a, .inr (5, [.ref q7, .ref q15, .ref q23, .ref q31, .ref q39, .ref q47, .ref q55, .int 0, .int 0, .int 2, .int 0, .int 0, .int 0, .long 0])), (q7, .inl (tc 0, 6, .inl (fun _ => 0))), (q15, .inl (tc 0, 6, .inl (fun _ => 0))), (q23, .inl (tc 0, 6, .inl (fun _ => 0))), (q31, .inl (tc 0, 6, .inl (fun _ => 0))), (q39, .inl (tc 0, 6, .inl (fun _ => 0))), (q47, .inl (tc 0, 6, .inl (fun _ => 0))), (q55, .inl (tc 0, 6, .inl (fun _ => 0)))] := hD
  exact W.vret hx hb hr (fun t ht hW => ⟨⟨(fun k => ([q7, q15, q23, q31, q39, q47, q55] : List Nat).getD k 0), rfl, trivial, by rw [ht]; exact hP, va_K.moved hW.alike hK, hD⟩, hS.F ht⟩) hS.2.2 dc_X5_95
theorem dc_X1_0 : decode cX1_init 0 = .ok (.aload_n 0, 1) := by decide +kernel
theorem dc_X1_1 : decode cX1_init 1 = .ok (.invokespecial 3, 3) := by decide +kernel
theorem dc_X1_4 : decode cX1_init 4 = .ok (.aload_n 0, 1) := by decide +kernel
theorem dc_X1_5 : decode cX1_init 5 = .ok (.bipush 12, 2) := by decide +kernel
theorem dc_X1_7 : decode cX1_init 7 = .ok (.newarray .int, 2) := by decide +kernel
theorem dc_X1_9 : decode cX1_init 9 = .ok (.putfield 9, 3) := by decide +kernel
theorem dc_X1_12 : decode cX1_init 12 = .ok (.aload_n 0, 1) := by decide +kernel
theorem dc_X1_13 : decode cX1_init 13 = .ok (.bipush 12, 2) := by decide +kernel
theorem dc_X1_15 : decode cX1_init 15 = .ok (.newarray .int, 2) := by decide +kernel
theorem dc_X1_17 : decode cX1_init 17 = .ok (.putfield 15, 3) := by decide +kernel
theorem dc_X1_20 : decode cX1_init 20 = .ok (.aload_n 0, 1) := by decide +kernel
theorem dc_X1_21 : decode cX1_init 21 = .ok (.bipush 12, 2) := by decide +kernel
theorem dc_X1_23 : decode cX1_init 23 = .ok (.newarray .int, 2) := by decide +kernel
theorem dc_X1_25 : decode cX1_init 25 = .ok (.putfield 18, 3) := by decide +kernel
theorem dc_X1_28 : decode cX1_init 28 = .ok (.aload_n 0, 1) := by decide +kernel
theorem dc_X1_29 : decode cX1_init 29 = .ok (.bipush 12, 2) := by decide +kernel
theorem dc_X1_31 : decode cX1_init 31 = .ok (.newarray .int, 2) := by decide +kernel
theorem dc_X1_33 : decode cX1_init 33 = .ok (.putfield 21, 3) := by decide +kernel
theorem dc_X1_36 : decode cX1_init 36 = .ok (.aload_n 0, 1) := by decide +kernel
theorem dc_X1_37 : decode cX1_init 37 = .ok (.bipush 12, 2) := by decide +kernel
theorem dc_X1_39 : decode cX1_init 39 = .ok (.newarray .int, 2) := by decide +kernel
theorem dc_X1_41 : decode cX1_init 41 = .ok (.putfield 24, 3) := by decide +kernel
theorem dc_X1_44 : decode cX1_init 44 = .ok (.aload_n 0, 1) := by decide +kernel
theorem dc_X1_45 : decode cX1_init 45 = .ok (.iconst 0, 1) := by decide +kernel
theorem dc_X1_46 : decode cX1_init 46 = .ok (.putfield 27, 3) := by decide +kernel
theorem dc_X1_49 : decode cX1_init 49 = .ok (.aload_n 0, 1) := by decide +kernel
theorem dc_X1_50 : decode cX1_init 50 = .ok (.iconst 0, 1) := by decide +kernel
theorem dc_X1_51 : decode cX1_init 51 = .ok (.putfield 31, 3) := by decide +kernel
theorem dc_X1_54 : decode cX1_init 54 = .ok (.return_, 1) := by decide +kernel
abbrev o_X1 : List Value := [.null, .null, .null, .null, .null, .int 0, .int 0]
abbrev W_X1 (tc : Nat → ClassId) (a : Nat) (u : Nat → Nat) : va_W := [(a, .inr (1, [.ref (u 0), .ref (u 1), .ref (u 2), .ref (u 3), .ref (u 4), .int 0, .int 0])), ((u 0), .inl (tc 0, 12, .inl (fun _ => 0))), ((u 1), .inl (tc 0, 12, .inl (fun _ => 0))), ((u 2), .inl (tc 0, 12, .inl (fun _ => 0))), ((u 3), .inl (tc 0, 12, .inl (fun _ => 0))), ((u 4), .inl (tc 0, 12, .inl (fun _ => 0)))]
set_option maxHeartbeats 4000000 in
set_option maxRecDepth 100000 in
theorem n_X1_init (l : Launch) (D : va_G) (tc : Nat → ClassId) (a sz : Nat) : Met l yX1_init (Cond.code yX1_init cX1_init 1 none :: ab_tb) { frames := 1, cells := 5, slots := 60, locals := 12 } (va_Pc [.ref a] (nc_B D tc sz [(a, .inr (1, o_X1))])) (va_Qv (fun _ : Nat → Nat => True) (fun u t => nc_E D tc (va_A [(a, .inr (1, o_X1))] sz) (W_X1 tc a u) t) (va_A [(a, .inr (1, o_X1))] sz)) 5 60 (va_A [(a, .inr (1, o_X1))] sz) := by
  refine Met.ofW (cc := cX1_init) (maxL := 1) (ret := none) (by decide) rfl ?_
  intro p e s m args below meth c s₁ B hml hv
  obtain ⟨rfl, hsz, hP, hK, hD0, hN, hM⟩ := hv
  have hx := B.exec
  have hb := B.bytes
  have hr := B.returns
  have hts : ∀ w ∈ ab_tb, w.before _ s = true := fun w hw => (atoms_spec (ws := Cond.code yX1_init cX1_init 1 none :: ab_tb) B.pre) w (List.mem_cons_of_mem _ hw)
  have hown : s.vm.findClass RX1 = some m.cls := findClass_of_methodNamed B.named
  have hlocks := B.notSynchronized
  have hin : meth.name = "<init>" := (name_of_methodNamed B.named B.method).1
  subst hsz
  have hD := hD0.self (sz := s.heap.size)
  generalize hAe : va_A [(a, .inr (1, o_X1))] s.heap.size = A at hD ⊢
  have hA : ∀ q : Nat, s.heap.size ≤ q → A q := fun q h => by rw [← hAe]; exact Or.inr h
  have hS : va_S A s.heap s.heap [] := va_S.rf
  have hl := lv_entry ([.ref a]) (n := 1) (Nat.le_of_ble_eq_true rfl)
  rw [lg_entry_eq]
  generalize (lg_sl ([.ref a]) ++ List.replicate (1 - (lg_sl ([.ref a])).length) Slot.unset).toArray = ls at hl ⊢
  have hl : lv_has ls 1 [(0, .ref a)] := hl
  refine lv_aload_n hx hb dc_X1_0 rfl (lv_at hl 0 rfl) ?_
  refine W.objInit hx hb hown (hts _ (ab_t1 (i := 195) rfl rfl)) (hts _ (ab_t1 (i := 20) rfl rfl)) (hts _ (ab_t1 (i := 21) rfl rfl)) rfl (by rw [hml]; exact hl.1) rfl dc_X1_1 (Nat.le_of_ble_eq_true rfl) (Nat.le_of_ble_eq_true rfl) ?_
  refine W.eq (g2 := F0 m 4 ls []) rfl ?_
  refine lv_aload_n hx hb dc_X1_4 rfl (lv_at hl 0 rfl) ?_
  refine lv_bipush (v := 12) hx hb dc_X1_5 (by decide) ?_
  refine nc_arr (t0 := 0) (ty := .int) (N' := 12) (a0 := (12, .inl (fun _ => 0))) hx hb (hts _ (ab_t1 (i := 73) rfl rfl)) rfl hK hP hD hS hA rfl (fun _ _ => rfl) (fun _ => rfl) (by decide) rfl (by decide) (Nat.le_of_ble_eq_true rfl) (Nat.le_of_ble_eq_true rfl) dc_X1_7 (fun q7 H hP hD hS => ?_)
  have hP : va_P D vwCl [(a, .inr (1, [.null, .null, .null, .null, .null, .int 0, .int 0])), (q7, .inl (tc 0, 12, .inl (fun _ => 0)))] H := hP
  have hD : va_D A [(a, .inr (1, [.null, .null, .null, .null, .null, .int 0, .int 0])), (q7, .inl (tc 0, 12, .inl (fun _ => 0)))] := hD
  refine va_putF (D := D) (ci := 1) (v := .ref q7) (ty := .array .int) hx hb hts (ab_cls (ci := 1) rfl).1.1 tyX1 tyX1_ok nmX1 hown hK hP hD hS 0 rfl rfl 0 (by decide) (hts _ (ab_t1 (i := 196) rfl rfl)) (fun _ h9 => h9) rfl hin rfl (by decide +kernel) rfl rfl (Nat.le_of_ble_eq_true rfl) dc_X1_9 (fun H locs hP hD hS => ?_)
  have hP : va_P D vwCl [(a, .inr (1, [.ref q7, .null, .null, .null, .null, .int 0, .int 0])), (q7, .inl (tc 0, 12, .inl (fun _ => 0)))] H := hP
  have hD : va_D A [(a, .inr (1, [.ref q7, .null, .null, .null, .null, .int 0, .int 0])), (q7, .inl (tc 0, 12, .inl (fun _ => 0)))] := hD
  refine lv_aload_n hx hb dc_X1_12 rfl (lv_at hl 0 rfl) ?_
  refine lv_bipush (v := 12) hx hb dc_X1_13 (by decide) ?_
  refine nc_arr (t0 := 0) (ty := .int) (N' := 12) (a0 := (12, .inl (fun _ => 0))) hx hb (hts _ (ab_t1 (i := 73) rfl rfl)) rfl hK hP hD hS hA rfl (fun _ _ => rfl) (fun _ => rfl) (by decide) rfl (by decide) (Nat.le_of_ble_eq_true rfl) (Nat.le_of_ble_eq_true rfl) dc_X1_15 (fun q15 H hP hD hS => ?_)
  have hP : va_P D vwCl [(a, .inr (1, [.ref q7, .null, .null, .null, .null, .int 0, .int 0])), (q7, .inl (tc 0, 12, .inl (fun _ => 0))), (q15, .inl (tc 0, 12, .inl (fun _ => 0)))] H := hP
  have hD : va_D A [(a, .inr (1, [.ref q7, .null, .null, .null, .null, .int 0, .int 0])), (q7, .inl (tc 0, 12, .inl (fun _ => 0))), (q15, .inl (tc 0, 12, .inl (fun _ => 0)))] := hD
  refine va_putF (D := D) (ci := 1) (v := .ref q15) (ty := .array .int) hx hb hts (ab_cls (ci := 1) rfl).1.1 tyX1 tyX1_ok nmX1 hown hK hP hD hS 0 rfl rfl 1 (by decide) (hts _ (ab_t1 (i := 198) rfl rfl)) (fun _ h9 => h9) rfl hin rfl (by decide +kernel) rfl rfl (Nat.le_of_ble_eq_true rfl) dc_X1_17 (fun H locs hP hD hS => ?_)
  have hP : va_P D vwCl [(a, .inr (1, [.ref q7, .ref q15, .null, .null, .null, .int 0, .int 0])), (q7, .inl (tc 0, 12, .inl (fun _ => 0))), (q15, .inl (tc 0, 12, .inl (fun _ => 0)))] H := hP
  have hD : va_D A [(a, .inr (1, [.ref q7, .ref q15, .null, .null, .null, .int 0, .int 0])), (q7, .inl (tc 0, 12, .inl (fun _ => 0))), (q15, .inl (tc 0, 12, .inl (fun _ => 0)))] := hD
  refine lv_aload_n hx hb dc_X1_20 rfl (lv_at hl 0 rfl) ?_
  refine lv_bipush (v := 12) hx hb dc_X1_21 (by decide) ?_
  refine nc_arr (t0 := 0) (ty := .int) (N' := 12) (a0 := (12, .inl (fun _ => 0))) hx hb (hts _ (ab_t1 (i := 73) rfl rfl)) rfl hK hP hD hS hA rfl (fun _ _ => rfl) (fun _ => rfl) (by decide) rfl (by decide) (Nat.le_of_ble_eq_true rfl) (Nat.le_of_ble_eq_true rfl) dc_X1_23 (fun q23 H hP hD hS => ?_)
  have hP : va_P D vwCl [(a, .inr (1, [.ref q7, .ref q15, .null, .null, .null, .int 0, .int 0])), (q7, .inl (tc 0, 12, .inl (fun _ => 0))), (q15, .inl (tc 0, 12, .inl (fun _ => 0))), (q23, .inl (tc 0, 12, .inl (fun _ => 0)))] H := hP
  have hD : va_D A [(a, .inr (1, [.ref q7, .ref q15, .null, .null, .null, .int 0, .int 0])), (q7, .inl (tc 0, 12, .inl (fun _ => 0))), (q15, .inl (tc 0, 12, .inl (fun _ => 0))), (q23, .inl (tc 0, 12, .inl (fun _ => 0)))] := hD
  refine va_putF (D := D) (ci := 1) (v := .ref q23) (ty := .array .int) hx hb hts (ab_cls (ci := 1) rfl).1.1 tyX1 tyX1_ok nmX1 hown hK hP hD hS 0 rfl rfl 2 (by decide) (hts _ (ab_t1 (i := 200) rfl rfl)) (fun _ h9 => h9) rfl hin rfl (by decide +kernel) rfl rfl (Nat.le_of_ble_eq_true rfl) dc_X1_25 (fun H locs hP hD hS => ?_)
  have hP : va_P D vwCl [(a, .inr (1, [.ref q7, .ref q15, .ref q23, .null, .null, .int 0, .int 0])), (q7, .inl (tc 0, 12, .inl (fun _ => 0))), (q15, .inl (tc 0, 12, .inl (fun _ => 0))), (q23, .inl (tc 0, 12, .inl (fun _ => 0)))] H := hP
  have hD : va_D A [(a, .inr (1, [.ref q7, .ref q15, .ref q23, .null, .null, .int 0, .int 0])), (q7, .inl (tc 0, 12, .inl (fun _ => 0))), (q15, .inl (tc 0, 12, .inl (fun _ => 0))), (q23, .inl (tc 0, 12, .inl (fun _ => 0)))] := hD
  refine lv_aload_n hx hb dc_X1_28 rfl (lv_at hl 0 rfl) ?_
  refine lv_bipush (v := 12) hx hb dc_X1_29 (by decide) ?_
  refine nc_arr (t0 := 0) (ty := .int) (N' := 12) (a0 := (12, .inl (fun _ => 0))) hx hb (hts _ (ab_t1 (i := 73) rfl rfl)) rfl hK hP hD hS hA rfl (fun _ _ => rfl) (fun _ => rfl) (by decide) rfl (by decide) (Nat.le_of_ble_eq_true rfl) (Nat.le_of_ble_eq_true rfl) dc_X1_31 (fun q31 H hP hD hS => ?_)
  have hP : va_P D vwCl [(a, .inr (1, [.ref q7, .ref q15, .ref q23, .null, .null, .int 0, .int 0])), (q7, .inl (tc 0, 12, .inl (fun _ => 0))), (q15, .inl (tc 0, 12, .inl (fun _ => 0))), (q23, .inl (tc 0, 12, .inl (fun _ => 0))), (q31, .inl (tc 0, 12, .inl (fun _ => 0)))] H := hP
  have hD : va_D A [(a, .inr (1, [.ref q7, .ref q15, .ref q23, .null, .null, .int 0, .int 0])), (q7, .inl (tc 0, 12, .inl (fun _ => 0))), (q15, .inl (tc 0, 12, .inl (fun _ => 0))), (q23, .inl (tc 0, 12, .inl (fun _ => 0))), (q31, .inl (tc 0, 12, .inl (fun _ => 0)))] := hD
  refine va_putF (D := D) (ci := 1) (v := .ref q31) (ty := .array .int) hx hb hts (ab_cls (ci := 1) rfl).1.1 tyX1 tyX1_ok nmX1 hown hK hP hD hS 0 rfl rfl 3 (by decide) (hts _ (ab_t1 (i := 202) rfl rfl)) (fun _ h9 => h9) rfl hin rfl (by decide +kernel) rfl rfl (Nat.le_of_ble_eq_true rfl) dc_X1_33 (fun H locs hP hD hS => ?_)
  have hP : va_P D vwCl [(a, .inr (1, [.ref q7, .ref q15, .ref q23, .ref q31, .null, .int 0, .int 0])), (q7, .inl (tc 0, 12, .inl (fun _ => 0))), (q15, .inl (tc 0, 12, .inl (fun _ => 0))), (q23, .inl (tc 0, 12, .inl (fun _ => 0))), (q31, .inl (tc 0, 12, .inl (fun _ => 0)))] H := hP
  have hD : va_D A [(a, .inr (1, [.ref q7, .ref q15, .ref q23, .ref q31, .null, .int 0, .int 0])), (q7, .inl (tc 0, 12, .inl (fun _ => 0))), (q15, .inl (tc 0, 12, .inl (fun _ => 0))), (q23, .inl (tc 0, 12, .inl (fun _ => 0))), (q31, .inl (tc 0, 12, .inl (fun _ => 0)))] := hD
  refine lv_aload_n hx hb dc_X1_36 rfl (lv_at hl 0 rfl) ?_
  refine lv_bipush (v := 12) hx hb dc_X1_37 (by decide) ?_
  refine nc_arr (t0 := 0) (ty := .int) (N' := 12) (a0 := (12, .inl (fun _ => 0))) hx hb (hts _ (ab_t1 (i := 73) rfl rfl)) rfl hK hP hD hS hA rfl (fun _ _ => rfl) (fun _ => rfl) (by decide) rfl (by decide) (Nat.le_of_ble_eq_true rfl) (Nat.le_of_ble_eq_true rfl) dc_X1_39 (fun q39 H hP hD hS => ?_)
  have hP : va_P D vwCl [(a, .inr (1, [.ref q7, .ref q15, .ref q23, .ref q31, .null, .int 0, .int 0])), (q7, .inl (tc 0, 12, .inl (fun _ => 0))), (q15, .inl (tc 0, 12, .inl (fun _ => 0))), (q23, .inl (tc 0, 12, .inl (fun _ => 0))), (q31, .inl (tc 0, 12, .inl (fun _ => 0))), (q39, .inl (tc 0, 12, .inl (fun _ => 0)))] H := hP
  have hD : va_D A [(a, .inr (1, [.ref q7, .ref q15, .ref q23, .ref q31, .null, .int 0, .int 0])), (q7, .inl (tc 0, 12, .inl (fun _ => 0))), (q15, .inl (tc 0, 12, .inl (fun _ => 0))), (q23, .inl (tc 0, 12, .inl (fun _ => 0))), (q31, .inl (tc 0, 12, .inl (fun _ => 0))), (q39, .inl (tc 0, 12, .inl (fun _ => 0)))] := hD
  refine va_putF (D := D) (ci := 1) (v := .ref q39) (ty := .array .int) hx hb hts (ab_cls (ci := 1) rfl).1.1 tyX1 tyX1_ok nmX1 hown hK hP hD hS 0 rfl rfl 4 (by decide) (hts _ (ab_t1 (i := 204) rfl rfl)) (fun _ h9 => h9) rfl hin rfl (by decide +kernel) rfl rfl (Nat.le_of_ble_eq_true rfl) dc_X1_41 (fun H locs hP hD hS => ?_)
  have hP : va_P D vwCl [(a, .inr (1, [.ref q7, .ref q15, .ref q23, .ref q31, .ref q39, .int 0, .int 0])), (q7, .inl (tc 0, 12, .inl (fun _ => 0))), (q15, .inl (tc 0, 12, .inl (fun _ => 0))), (q23, .inl (tc 0, 12, .inl (fun _ => 0))), (q31, .inl (tc 0, 12, .inl (fun _ => 0))), (q39, .inl (tc 0, 12, .inl (fun _ => 0)))] H := hP
  have hD : va_D A [(a, .inr (1, [.ref q7, .ref q15, .ref q23, .ref q31, .ref q39, .int 0, .int 0])), (q7, .inl (tc 0, 12, .inl (fun _ => 0))), (q15, .inl (tc 0, 12, .inl (fun _ => 0))), (q23, .inl (tc 0, 12, .inl (fun _ => 0))), (q31, .inl (tc 0, 12, .inl (fun _ => 0))), (q39, .inl (tc 0, 12, .inl (fun _ => 0)))] := hD
  refine lv_aload_n hx hb dc_X1_44 rfl (lv_at hl 0 rfl) ?_
  refine lv_iconst (v := 0) hx hb dc_X1_45 (by decide) ?_
  refine va_put (D := D) (ci := 1) (v := .int 0) (ty := .int) hx hb hts (ab_cls (ci := 1) rfl).1.1 tyX1 tyX1_ok nmX1 hown hK hP hD hS 0 rfl rfl 5 (by decide) (hts _ (ab_t1 (i := 205) rfl rfl)) (fun _ h9 => h9) rfl (by decide +kernel) rfl rfl (Nat.le_of_ble_eq_true rfl) dc_X1_46 (fun H locs hP hD hS => ?_)
  have hP : va_P D vwCl [(a, .inr (1, [.ref q7, .ref q15, .ref q23, .ref q31, .ref q39, .int 0, .int 0])), (q7, .inl (tc 0, 12, .inl (fun _ => 0))), (q15, .inl (tc 0, 12, .inl (fun _ => 0))), (q23, .inl (tc 0, 12, .inl (fun _ => 0))), (q31, .inl (tc 0, 12, .inl (fun _ => 0))), (q39, .inl (tc 0, 12, .inl (fun _ => 0)))] H := hP
  have hD : va_D A [(a, .inr (1, [.ref q7, .ref q15, .ref q23, .ref q31, .ref q39, .int 0, .int 0])), (q7, .inl (tc 0, 12, .inl (fun _ => 0))), (q15, .inl (tc 0, 12, .inl (fun _ => 0))), (q23, .inl (tc 0, 12, .inl (fun _ => 0))), (q31, .inl (tc 0, 12, .inl (fun _ => 0))), (q39, .inl (tc 0, 12, .inl (fun _ => 0)))] := hD
  refine lv_aload_n hx hb dc_X1_49 rfl (lv_at hl 0 rfl) ?_
  refine lv_iconst (v := 0) hx hb dc_X1_50 (by decide) ?_
  refine va_put (D := D) (ci := 1) (v := .int 0) (ty := .int) hx hb hts (ab_cls (ci := 1) rfl).1.1 tyX1 tyX1_ok nmX1 hown hK hP hD hS 0 rfl rfl 6 (by decide) (hts _ (ab_t1 (i := 207) rfl rfl)) (fun _ h9 => h9) rfl (by decide +kernel) rfl rfl (Nat.le_of_ble_eq_true rfl) dc_X1_51 (fun H locs hP hD hS => ?_)
  have hP : va_P D vwCl [(a, .inr (1, [.ref q7, .ref q15, .ref q23, .ref q31, .ref q39, .int 0, .int 0])), (q7, .inl (tc 0, 12, .inl (fun _ => 0))), (q15, .inl (tc 0, 12, .inl (fun _ => 0))), (q23, .inl (tc 0, 12, .inl (fun _ => 0))), (q31, .inl (tc 0, 12, .inl (fun _ => 0))), (q39, .inl (tc 0, 12, .inl (fun _ => 0)))] H := hP
  have hD : va_D A [(a, .inr (1, [.ref q7, .ref q15, .ref q23, .ref q31, .ref q39, .int 0, .int 0])), (q7, .inl (tc 0, 12, .inl (fun _ => 0))), (q15, .inl (tc 0, 12, .inl (fun _ => 0))), (q23, .inl (tc 0, 12, .inl (fun _ => 0))), (q31, .inl (tc 0, 12, .inl (fun _ => 0))), (q39, .inl (tc 0, 12, .inl (fun _ => 0)))] := hD
  exact W.vret hx hb hr (fun t ht hW => ⟨⟨(fun k => ([q7, q15, q23, q31, q39] : List Nat).getD k 0), rfl, trivial, by rw [ht]; exact hP, va_K.moved hW.alike hK, hD⟩, hS.F ht⟩) hS.2.2 dc_X1_54
