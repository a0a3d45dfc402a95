/-! the law's cases -/
abbrev lw_E : ab_E := (room_1, 82, 33135)
theorem lw_rm {d : Nat} {M' : ab_M} (hM : ab_MOk M') (hd : d ≤ 8) : ab_room lw_E d M' := by
  have := hM.2.2.2.1
  refine ⟨?_, ?_, Nat.le_of_ble_eq_true rfl, Nat.le_of_ble_eq_true rfl⟩
  · show d + 1 ≤ 9
    omega
  · show 8 + (M'.2.2.1 + 11) + 35 * d ≤ 344
    omega
theorem lw_and (v : Int) : 0 ≤ ab_iand v 31 ∧ ab_iand v 31 ≤ 31 := by
  have h : ∀ a : BitVec 32, 0 ≤ (a &&& 31#32).toInt ∧ (a &&& 31#32).toInt ≤ 31 := by
    intro a
    have h1 : (a &&& 31#32).toNat ≤ 31 := by rw [BitVec.toNat_and]; exact Nat.and_le_right
    rw [BitVec.toInt_eq_toNat_of_lt (by omega)]
    omega
  exact h (Int32.ofInt v).toBitVec
section LWC
variable {g : ab_G} {M : ab_M} {Q : Option ab_V → ab_H → Prop} {pc : Nat} {ρ : List (Option ab_V)} {st : List ab_V} {h : ab_H}
theorem lw_c0I {M' : ab_M} {d idx k ci : Nat} {C0 : String} {T0 : u_T} {N0 : Nat} {Q' : Int → ab_H → Prop} (hi : ab_at M pc (.invokevirtual idx) 3) (hln : ab_LV M.1.cls idx M'.1) (hM : ab_MOk M') (hm : MethI g d M' [a_R k] h Q') (hk : ab_kd k = some (.inl ci)) (hc : vwCl[ci]? = some (C0, T0, N0)) (hc2 : C0 = M'.1.cls) (hn : 0 = M'.2.2.2.2.1) (hd : d ≤ 8) (hcat : ab_cats st ≤ 8) (K : ∀ z h', Q' z h' → Go g lw_E M Q (pc + 3) ρ (a_I z :: st) h') : Go g lw_E M Q pc ρ (a_R k :: st) h :=
  go_callV (as := []) hi hln hM hk hc hc2 hn (lw_rm hM hd) hcat hm (by rintro _ h2 ⟨z, rfl, q⟩; exact K z h2 q)
theorem lw_c0L {M' : ab_M} {d idx k ci : Nat} {C0 : String} {T0 : u_T} {N0 : Nat} {Q' : Int → ab_H → Prop} (hi : ab_at M pc (.invokevirtual idx) 3) (hln : ab_LV M.1.cls idx M'.1) (hM : ab_MOk M') (hm : MethL g d M' [a_R k] h Q') (hk : ab_kd k = some (.inl ci)) (hc : vwCl[ci]? = some (C0, T0, N0)) (hc2 : C0 = M'.1.cls) (hn : 0 = M'.2.2.2.2.1) (hd : d ≤ 8) (hcat : ab_cats st ≤ 8) (K : ∀ z h', Q' z h' → Go g lw_E M Q (pc + 3) ρ (a_L z :: st) h') : Go g lw_E M Q pc ρ (a_R k :: st) h :=
  go_callV (as := []) hi hln hM hk hc hc2 hn (lw_rm hM hd) hcat hm (by rintro _ h2 ⟨z, rfl, q⟩; exact K z h2 q)
theorem lw_c1I {M' : ab_M} {d idx k ci : Nat} {C0 : String} {T0 : u_T} {N0 : Nat} {a1 : ab_V} {Q' : Int → ab_H → Prop} (hi : ab_at M pc (.invokevirtual idx) 3) (hln : ab_LV M.1.cls idx M'.1) (hM : ab_MOk M') (hm : MethI g d M' [a_R k, a1] h Q') (hk : ab_kd k = some (.inl ci)) (hc : vwCl[ci]? = some (C0, T0, N0)) (hc2 : C0 = M'.1.cls) (hn : 1 = M'.2.2.2.2.1) (hd : d ≤ 8) (hcat : ab_cats st ≤ 8) (K : ∀ z h', Q' z h' → Go g lw_E M Q (pc + 3) ρ (a_I z :: st) h') : Go g lw_E M Q pc ρ (a1 :: a_R k :: st) h :=
  go_callV (as := [a1]) hi hln hM hk hc hc2 hn (lw_rm hM hd) hcat hm (by rintro _ h2 ⟨z, rfl, q⟩; exact K z h2 q)
theorem lw_c2I {M' : ab_M} {d idx k ci : Nat} {C0 : String} {T0 : u_T} {N0 : Nat} {a1 a2 : ab_V} {Q' : Int → ab_H → Prop} (hi : ab_at M pc (.invokevirtual idx) 3) (hln : ab_LV M.1.cls idx M'.1) (hM : ab_MOk M') (hm : MethI g d M' [a_R k, a1, a2] h Q') (hk : ab_kd k = some (.inl ci)) (hc : vwCl[ci]? = some (C0, T0, N0)) (hc2 : C0 = M'.1.cls) (hn : 2 = M'.2.2.2.2.1) (hd : d ≤ 8) (hcat : ab_cats st ≤ 8) (K : ∀ z h', Q' z h' → Go g lw_E M Q (pc + 3) ρ (a_I z :: st) h') : Go g lw_E M Q pc ρ (a2 :: a1 :: a_R k :: st) h :=
  go_callV (as := [a1, a2]) hi hln hM hk hc hc2 hn (lw_rm hM hd) hcat hm (by rintro _ h2 ⟨z, rfl, q⟩; exact K z h2 q)
theorem lw_c3I {M' : ab_M} {d idx k ci : Nat} {C0 : String} {T0 : u_T} {N0 : Nat} {a1 a2 a3 : ab_V} {Q' : Int → ab_H → Prop} (hi : ab_at M pc (.invokevirtual idx) 3) (hln : ab_LV M.1.cls idx M'.1) (hM : ab_MOk M') (hm : MethI g d M' [a_R k, a1, a2, a3] h Q') (hk : ab_kd k = some (.inl ci)) (hc : vwCl[ci]? = some (C0, T0, N0)) (hc2 : C0 = M'.1.cls) (hn : 3 = M'.2.2.2.2.1) (hd : d ≤ 8) (hcat : ab_cats st ≤ 8) (K : ∀ z h', Q' z h' → Go g lw_E M Q (pc + 3) ρ (a_I z :: st) h') : Go g lw_E M Q pc ρ (a3 :: a2 :: a1 :: a_R k :: st) h :=
  go_callV (as := [a1, a2, a3]) hi hln hM hk hc hc2 hn (lw_rm hM hd) hcat hm (by rintro _ h2 ⟨z, rfl, q⟩; exact K z h2 q)
theorem lw_c4I {M' : ab_M} {d idx k ci : Nat} {C0 : String} {T0 : u_T} {N0 : Nat} {a1 a2 a3 a4 : ab_V} {Q' : Int → ab_H → Prop} (hi : ab_at M pc (.invokevirtual idx) 3) (hln : ab_LV M.1.cls idx M'.1) (hM : ab_MOk M') (hm : MethI g d M' [a_R k, a1, a2, a3, a4] h Q') (hk : ab_kd k = some (.inl ci)) (hc : vwCl[ci]? = some (C0, T0, N0)) (hc2 : C0 = M'.1.cls) (hn : 4 = M'.2.2.2.2.1) (hd : d ≤ 8) (hcat : ab_cats st ≤ 8) (K : ∀ z h', Q' z h' → Go g lw_E M Q (pc + 3) ρ (a_I z :: st) h') : Go g lw_E M Q pc ρ (a4 :: a3 :: a2 :: a1 :: a_R k :: st) h :=
  go_callV (as := [a1, a2, a3, a4]) hi hln hM hk hc hc2 hn (lw_rm hM hd) hcat hm (by rintro _ h2 ⟨z, rfl, q⟩; exact K z h2 q)
theorem lw_c5I {M' : ab_M} {d idx k ci : Nat} {C0 : String} {T0 : u_T} {N0 : Nat} {a1 a2 a3 a4 a5 : ab_V} {Q' : Int → ab_H → Prop} (hi : ab_at M pc (.invokevirtual idx) 3) (hln : ab_LV M.1.cls idx M'.1) (hM : ab_MOk M') (hm : MethI g d M' [a_R k, a1, a2, a3, a4, a5] h Q') (hk : ab_kd k = some (.inl ci)) (hc : vwCl[ci]? = some (C0, T0, N0)) (hc2 : C0 = M'.1.cls) (hn : 5 = M'.2.2.2.2.1) (hd : d ≤ 8) (hcat : ab_cats st ≤ 8) (K : ∀ z h', Q' z h' → Go g lw_E M Q (pc + 3) ρ (a_I z :: st) h') : Go g lw_E M Q pc ρ (a5 :: a4 :: a3 :: a2 :: a1 :: a_R k :: st) h :=
  go_callV (as := [a1, a2, a3, a4, a5]) hi hln hM hk hc hc2 hn (lw_rm hM hd) hcat hm (by rintro _ h2 ⟨z, rfl, q⟩; exact K z h2 q)
end LWC
set_option maxHeartbeats 4000000 in
set_option maxRecDepth 100000 in
theorem lc_0 {g : ab_G} {Q : Option ab_V → ab_H → Prop} {i : Int} {h : ab_H} (hL : g.2.2.2.2.1 ≤ 3072) (hi : 0 ≤ i) (hj : i + 6 ≤ g.2.2.2.2.1) (I : Inv h) (K : ∀ h', Inv h' → Go g lw_E m_law Q 1213 [some (a_R 82), some (a_R 0), some (a_R 62), some (a_I i)] [] h') : Go g lw_E m_law Q 176 [some (a_R 82), some (a_R 0), some (a_R 62), some (a_I i)] [] h := by
  refine go_aload_n rfl rfl ?_
  refine go_aload_n rfl rfl ?_
  refine go_iload_n rfl rfl ?_
  refine go_iconst rfl ?_
  refine go_iadd rfl (by unfold ab_iok; omega) ?_
  refine go_sld rfl rfl (by omega) (by omega) (by omega) ?_
  refine lw_c1I (M' := m_X6_type) rfl l_L_13 k_X6_type (op_type I) rfl rfl rfl rfl (by decide) (Nat.le_of_ble_eq_true rfl) (fun z1 h1 q1 => ?_)
  refine go_aload_n rfl rfl ?_
  refine go_aload_n rfl rfl ?_
  refine go_iload_n rfl rfl ?_
  refine go_iconst rfl ?_
  refine go_iadd rfl (by unfold ab_iok; omega) ?_
  refine go_sld rfl rfl (by omega) (by omega) (by omega) ?_
  refine lw_c1I (M' := m_X7_type) rfl l_L_17 k_X7_type q1 rfl rfl rfl rfl (by decide) (Nat.le_of_ble_eq_true rfl) (fun z2 h2 q2 => ?_)
  obtain ⟨q2, I2⟩ := q2
  exact go_icmp_eq rfl (tgt := 1213) (by decide) (fun _ => K h2 I2) (fun n => absurd q2.symm n)
set_option maxHeartbeats 4000000 in
set_option maxRecDepth 100000 in
theorem lc_1 {g : ab_G} {Q : Option ab_V → ab_H → Prop} {i : Int} {h : ab_H} (hL : g.2.2.2.2.1 ≤ 3072) (hi : 0 ≤ i) (hj : i + 6 ≤ g.2.2.2.2.1) (I : Inv h) (K : ∀ h', Inv h' → Go g lw_E m_law Q 1213 [some (a_R 82), some (a_R 0), some (a_R 62), some (a_I i)] [] h') : Go g lw_E m_law Q 199 [some (a_R 82), some (a_R 0), some (a_R 62), some (a_I i)] [] h := by
  refine go_aload_n rfl rfl ?_
  refine lw_c0I (M' := m_X6_wipe) rfl l_L_18 k_X6_wipe (op_wipe I) rfl rfl rfl rfl (by decide) (Nat.le_of_ble_eq_true rfl) (fun z1 h1 q1 => ?_)
  refine go_aload_n rfl rfl ?_
  refine lw_c0I (M' := m_X7_wipe) rfl l_L_22 k_X7_wipe q1 rfl rfl rfl rfl (by decide) (Nat.le_of_ble_eq_true rfl) (fun z2 h2 q2 => ?_)
  obtain ⟨q2, I2⟩ := q2
  exact go_icmp_eq rfl (tgt := 1213) (by decide) (fun _ => K h2 I2) (fun n => absurd q2.symm n)
set_option maxHeartbeats 4000000 in
set_option maxRecDepth 100000 in
theorem lc_2 {g : ab_G} {Q : Option ab_V → ab_H → Prop} {i : Int} {h : ab_H} (hL : g.2.2.2.2.1 ≤ 3072) (hi : 0 ≤ i) (hj : i + 6 ≤ g.2.2.2.2.1) (I : Inv h) (K : ∀ h', Inv h' → Go g lw_E m_law Q 1213 [some (a_R 82), some (a_R 0), some (a_R 62), some (a_I i)] [] h') : Go g lw_E m_law Q 212 [some (a_R 82), some (a_R 0), some (a_R 62), some (a_I i)] [] h := by
  refine go_aload_n rfl rfl ?_
  refine lw_c0I (M' := m_X6_fault) rfl l_L_23 k_X6_fault (op_fault I) rfl rfl rfl rfl (by decide) (Nat.le_of_ble_eq_true rfl) (fun z1 h1 q1 => ?_)
  refine go_aload_n rfl rfl ?_
  refine lw_c0I (M' := m_X7_fault) rfl l_L_26 k_X7_fault q1 rfl rfl rfl rfl (by decide) (Nat.le_of_ble_eq_true rfl) (fun z2 h2 q2 => ?_)
  obtain ⟨q2, I2⟩ := q2
  exact go_icmp_eq rfl (tgt := 1213) (by decide) (fun _ => K h2 I2) (fun n => absurd q2.symm n)
set_option maxHeartbeats 4000000 in
set_option maxRecDepth 100000 in
theorem lc_3 {g : ab_G} {Q : Option ab_V → ab_H → Prop} {i : Int} {h : ab_H} (hL : g.2.2.2.2.1 ≤ 3072) (hi : 0 ≤ i) (hj : i + 6 ≤ g.2.2.2.2.1) (I : Inv h) (K : ∀ h', Inv h' → Go g lw_E m_law Q 1213 [some (a_R 82), some (a_R 0), some (a_R 62), some (a_I i)] [] h') : Go g lw_E m_law Q 225 [some (a_R 82), some (a_R 0), some (a_R 62), some (a_I i)] [] h := by
  refine go_aload_n rfl rfl ?_
  refine go_aload_n rfl rfl ?_
  refine go_iload_n rfl rfl ?_
  refine go_iconst rfl ?_
  refine go_iadd rfl (by unfold ab_iok; omega) ?_
  refine go_sld rfl rfl (by omega) (by omega) (by omega) ?_
  refine go_aload_n rfl rfl ?_
  refine go_iload_n rfl rfl ?_
  refine go_iconst rfl ?_
  refine go_iadd rfl (by unfold ab_iok; omega) ?_
  refine go_sld rfl rfl (by omega) (by omega) (by omega) ?_
  refine lw_c2I (M' := m_X6_begins) rfl l_L_27 k_X6_begins (op_begins I) rfl rfl rfl rfl (by decide) (Nat.le_of_ble_eq_true rfl) (fun z1 h1 q1 => ?_)
  refine go_aload_n rfl rfl ?_
  refine go_aload_n rfl rfl ?_
  refine go_iload_n rfl rfl ?_
  refine go_iconst rfl ?_
  refine go_iadd rfl (by unfold ab_iok; omega) ?_
  refine go_sld rfl rfl (by omega) (by omega) (by omega) ?_
  refine go_aload_n rfl rfl ?_
  refine go_iload_n rfl rfl ?_
  refine go_iconst rfl ?_
  refine go_iadd rfl (by unfold ab_iok; omega) ?_
  refine go_sld rfl rfl (by omega) (by omega) (by omega) ?_
  refine lw_c2I (M' := m_X7_begins) rfl l_L_31 k_X7_begins q1 rfl rfl rfl rfl (by decide) (Nat.le_of_ble_eq_true rfl) (fun z2 h2 q2 => ?_)
  obtain ⟨q2, I2⟩ := q2
  exact go_icmp_eq rfl (tgt := 1213) (by decide) (fun _ => K h2 I2) (fun n => absurd q2.symm n)
set_option maxHeartbeats 4000000 in
set_option maxRecDepth 100000 in
theorem lc_4 {g : ab_G} {Q : Option ab_V → ab_H → Prop} {i : Int} {h : ab_H} (hL : g.2.2.2.2.1 ≤ 3072) (hi : 0 ≤ i) (hj : i + 6 ≤ g.2.2.2.2.1) (I : Inv h) (K : ∀ h', Inv h' → Go g lw_E m_law Q 1213 [some (a_R 82), some (a_R 0), some (a_R 62), some (a_I i)] [] h') : Go g lw_E m_law Q 258 [some (a_R 82), some (a_R 0), some (a_R 62), some (a_I i)] [] h := by
  refine go_aload_n rfl rfl ?_
  refine go_aload_n rfl rfl ?_
  refine go_iload_n rfl rfl ?_
  refine go_iconst rfl ?_
  refine go_iadd rfl (by unfold ab_iok; omega) ?_
  refine go_sld rfl rfl (by omega) (by omega) (by omega) ?_
  refine lw_c1I (M' := m_X6_house) rfl l_L_32 k_X6_house (op_house I) rfl rfl rfl rfl (by decide) (Nat.le_of_ble_eq_true rfl) (fun z1 h1 q1 => ?_)
  refine go_aload_n rfl rfl ?_
  refine go_aload_n rfl rfl ?_
  refine go_iload_n rfl rfl ?_
  refine go_iconst rfl ?_
  refine go_iadd rfl (by unfold ab_iok; omega) ?_
  refine go_sld rfl rfl (by omega) (by omega) (by omega) ?_
  refine lw_c1I (M' := m_X7_house) rfl l_L_35 k_X7_house q1 rfl rfl rfl rfl (by decide) (Nat.le_of_ble_eq_true rfl) (fun z2 h2 q2 => ?_)
  obtain ⟨q2, I2⟩ := q2
  exact go_icmp_eq rfl (tgt := 1213) (by decide) (fun _ => K h2 I2) (fun n => absurd q2.symm n)
set_option maxHeartbeats 4000000 in
set_option maxRecDepth 100000 in
theorem lc_5 {g : ab_G} {Q : Option ab_V → ab_H → Prop} {i : Int} {h : ab_H} (hL : g.2.2.2.2.1 ≤ 3072) (hi : 0 ≤ i) (hj : i + 6 ≤ g.2.2.2.2.1) (I : Inv h) (K : ∀ h', Inv h' → Go g lw_E m_law Q 1213 [some (a_R 82), some (a_R 0), some (a_R 62), some (a_I i)] [] h') : Go g lw_E m_law Q 281 [some (a_R 82), some (a_R 0), some (a_R 62), some (a_I i)] [] h := by
  refine go_aload_n rfl rfl ?_
  refine go_aload_n rfl rfl ?_
  refine go_iload_n rfl rfl ?_
  refine go_iconst rfl ?_
  refine go_iadd rfl (by unfold ab_iok; omega) ?_
  refine go_sld rfl rfl (by omega) (by omega) (by omega) ?_
  refine go_aload_n rfl rfl ?_
  refine go_iload_n rfl rfl ?_
  refine go_iconst rfl ?_
  refine go_iadd rfl (by unfold ab_iok; omega) ?_
  refine go_sld rfl rfl (by omega) (by omega) (by omega) ?_
  refine lw_c2I (M' := m_X6_law) rfl l_L_36 k_X6_law (op_law I) rfl rfl rfl rfl (by decide) (Nat.le_of_ble_eq_true rfl) (fun z1 h1 q1 => ?_)
  refine go_aload_n rfl rfl ?_
  refine go_aload_n rfl rfl ?_
  refine go_iload_n rfl rfl ?_
  refine go_iconst rfl ?_
  refine go_iadd rfl (by unfold ab_iok; omega) ?_
  refine go_sld rfl rfl (by omega) (by omega) (by omega) ?_
  refine go_aload_n rfl rfl ?_
  refine go_iload_n rfl rfl ?_
  refine go_iconst rfl ?_
  refine go_iadd rfl (by unfold ab_iok; omega) ?_
  refine go_sld rfl rfl (by omega) (by omega) (by omega) ?_
  refine lw_c2I (M' := m_X7_law) rfl l_L_39 k_X7_law q1 rfl rfl rfl rfl (by decide) (Nat.le_of_ble_eq_true rfl) (fun z2 h2 q2 => ?_)
  obtain ⟨q2, I2⟩ := q2
  exact go_icmp_eq rfl (tgt := 1213) (by decide) (fun _ => K h2 I2) (fun n => absurd q2.symm n)
set_option maxHeartbeats 4000000 in
set_option maxRecDepth 100000 in
theorem lc_6 {g : ab_G} {Q : Option ab_V → ab_H → Prop} {i : Int} {h : ab_H} (hL : g.2.2.2.2.1 ≤ 3072) (hi : 0 ≤ i) (hj : i + 6 ≤ g.2.2.2.2.1) (I : Inv h) (K : ∀ h', Inv h' → Go g lw_E m_law Q 1213 [some (a_R 82), some (a_R 0), some (a_R 62), some (a_I i)] [] h') : Go g lw_E m_law Q 314 [some (a_R 82), some (a_R 0), some (a_R 62), some (a_I i)] [] h := by
  refine go_aload_n rfl rfl ?_
  refine go_aload_n rfl rfl ?_
  refine go_iload_n rfl rfl ?_
  refine go_iconst rfl ?_
  refine go_iadd rfl (by unfold ab_iok; omega) ?_
  refine go_sld rfl rfl (by omega) (by omega) (by omega) ?_
  refine go_aload_n rfl rfl ?_
  refine go_iload_n rfl rfl ?_
  refine go_iconst rfl ?_
  refine go_iadd rfl (by unfold ab_iok; omega) ?_
  refine go_sld rfl rfl (by omega) (by omega) (by omega) ?_
  refine go_aload_n rfl rfl ?_
  refine go_iload_n rfl rfl ?_
  refine go_iconst rfl ?_
  refine go_iadd rfl (by unfold ab_iok; omega) ?_
  refine go_sld rfl rfl (by omega) (by omega) (by omega) ?_
  refine lw_c3I (M' := m_X6_stand) rfl l_L_40 k_X6_stand (op_stand I) rfl rfl rfl rfl (by decide) (Nat.le_of_ble_eq_true rfl) (fun z1 h1 q1 => ?_)
  refine go_aload_n rfl rfl ?_
  refine go_aload_n rfl rfl ?_
  refine go_iload_n rfl rfl ?_
  refine go_iconst rfl ?_
  refine go_iadd rfl (by unfold ab_iok; omega) ?_
  refine go_sld rfl rfl (by omega) (by omega) (by omega) ?_
  refine go_aload_n rfl rfl ?_
  refine go_iload_n rfl rfl ?_
  refine go_iconst rfl ?_
  refine go_iadd rfl (by unfold ab_iok; omega) ?_
  refine go_sld rfl rfl (by omega) (by omega) (by omega) ?_
  refine go_aload_n rfl rfl ?_
  refine go_iload_n rfl rfl ?_
  refine go_iconst rfl ?_
  refine go_iadd rfl (by unfold ab_iok; omega) ?_
  refine go_sld rfl rfl (by omega) (by omega) (by omega) ?_
  refine lw_c3I (M' := m_X7_stand) rfl l_L_44 k_X7_stand q1 rfl rfl rfl rfl (by decide) (Nat.le_of_ble_eq_true rfl) (fun z2 h2 q2 => ?_)
  obtain ⟨q2, I2⟩ := q2
  exact go_icmp_eq rfl (tgt := 1213) (by decide) (fun _ => K h2 I2) (fun n => absurd q2.symm n)
set_option maxHeartbeats 4000000 in
set_option maxRecDepth 100000 in
theorem lc_7 {g : ab_G} {Q : Option ab_V → ab_H → Prop} {i : Int} {h : ab_H} (hL : g.2.2.2.2.1 ≤ 3072) (hi : 0 ≤ i) (hj : i + 6 ≤ g.2.2.2.2.1) (I : Inv h) (K : ∀ h', Inv h' → Go g lw_E m_law Q 1213 [some (a_R 82), some (a_R 0), some (a_R 62), some (a_I i)] [] h') : Go g lw_E m_law Q 357 [some (a_R 82), some (a_R 0), some (a_R 62), some (a_I i)] [] h := by
  refine go_aload_n rfl rfl ?_
  refine go_aload_n rfl rfl ?_
  refine go_iload_n rfl rfl ?_
  refine go_iconst rfl ?_
  refine go_iadd rfl (by unfold ab_iok; omega) ?_
  refine go_sld rfl rfl (by omega) (by omega) (by omega) ?_
  refine go_aload_n rfl rfl ?_
  refine go_iload_n rfl rfl ?_
  refine go_iconst rfl ?_
  refine go_iadd rfl (by unfold ab_iok; omega) ?_
  refine go_sld rfl rfl (by omega) (by omega) (by omega) ?_
  refine go_aload_n rfl rfl ?_
  refine go_iload_n rfl rfl ?_
  refine go_iconst rfl ?_
  refine go_iadd rfl (by unfold ab_iok; omega) ?_
  refine go_sld rfl rfl (by omega) (by omega) (by omega) ?_
  refine lw_c3I (M' := m_X6_man) rfl l_L_45 k_X6_man (op_man I) rfl rfl rfl rfl (by decide) (Nat.le_of_ble_eq_true rfl) (fun z1 h1 q1 => ?_)
  refine go_aload_n rfl rfl ?_
  refine go_aload_n rfl rfl ?_
  refine go_iload_n rfl rfl ?_
  refine go_iconst rfl ?_
  refine go_iadd rfl (by unfold ab_iok; omega) ?_
  refine go_sld rfl rfl (by omega) (by omega) (by omega) ?_
  refine go_aload_n rfl rfl ?_
  refine go_iload_n rfl rfl ?_
  refine go_iconst rfl ?_
  refine go_iadd rfl (by unfold ab_iok; omega) ?_
  refine go_sld rfl rfl (by omega) (by omega) (by omega) ?_
  refine go_aload_n rfl rfl ?_
  refine go_iload_n rfl rfl ?_
  refine go_iconst rfl ?_
  refine go_iadd rfl (by unfold ab_iok; omega) ?_
  refine go_sld rfl rfl (by omega) (by omega) (by omega) ?_
  refine lw_c3I (M' := m_X7_man) rfl l_L_48 k_X7_man q1 rfl rfl rfl rfl (by decide) (Nat.le_of_ble_eq_true rfl) (fun z2 h2 q2 => ?_)
  obtain ⟨q2, I2⟩ := q2
  exact go_icmp_eq rfl (tgt := 1213) (by decide) (fun _ => K h2 I2) (fun n => absurd q2.symm n)
set_option maxHeartbeats 4000000 in
set_option maxRecDepth 100000 in
theorem lc_8 {g : ab_G} {Q : Option ab_V → ab_H → Prop} {i : Int} {h : ab_H} (hL : g.2.2.2.2.1 ≤ 3072) (hi : 0 ≤ i) (hj : i + 6 ≤ g.2.2.2.2.1) (I : Inv h) (K : ∀ h', Inv h' → Go g lw_E m_law Q 1213 [some (a_R 82), some (a_R 0), some (a_R 62), some (a_I i)] [] h') : Go g lw_E m_law Q 400 [some (a_R 82), some (a_R 0), some (a_R 62), some (a_I i)] [] h := by
  refine go_aload_n rfl rfl ?_
  refine go_aload_n rfl rfl ?_
  refine go_iload_n rfl rfl ?_
  refine go_iconst rfl ?_
  refine go_iadd rfl (by unfold ab_iok; omega) ?_
  refine go_sld rfl rfl (by omega) (by omega) (by omega) ?_
  refine go_aload_n rfl rfl ?_
  refine go_iload_n rfl rfl ?_
  refine go_iconst rfl ?_
  refine go_iadd rfl (by unfold ab_iok; omega) ?_
  refine go_sld rfl rfl (by omega) (by omega) (by omega) ?_
  refine go_aload_n rfl rfl ?_
  refine go_iload_n rfl rfl ?_
  refine go_iconst rfl ?_
  refine go_iadd rfl (by unfold ab_iok; omega) ?_
  refine go_sld rfl rfl (by omega) (by omega) (by omega) ?_
  refine lw_c3I (M' := m_X6_bag) rfl l_L_49 k_X6_bag (op_bag I) rfl rfl rfl rfl (by decide) (Nat.le_of_ble_eq_true rfl) (fun z1 h1 q1 => ?_)
  refine go_aload_n rfl rfl ?_
  refine go_aload_n rfl rfl ?_
  refine go_iload_n rfl rfl ?_
  refine go_iconst rfl ?_
  refine go_iadd rfl (by unfold ab_iok; omega) ?_
  refine go_sld rfl rfl (by omega) (by omega) (by omega) ?_
  refine go_aload_n rfl rfl ?_
  refine go_iload_n rfl rfl ?_
  refine go_iconst rfl ?_
  refine go_iadd rfl (by unfold ab_iok; omega) ?_
  refine go_sld rfl rfl (by omega) (by omega) (by omega) ?_
  refine go_aload_n rfl rfl ?_
  refine go_iload_n rfl rfl ?_
  refine go_iconst rfl ?_
  refine go_iadd rfl (by unfold ab_iok; omega) ?_
  refine go_sld rfl rfl (by omega) (by omega) (by omega) ?_
  refine lw_c3I (M' := m_X7_bag) rfl l_L_52 k_X7_bag q1 rfl rfl rfl rfl (by decide) (Nat.le_of_ble_eq_true rfl) (fun z2 h2 q2 => ?_)
  obtain ⟨q2, I2⟩ := q2
  exact go_icmp_eq rfl (tgt := 1213) (by decide) (fun _ => K h2 I2) (fun n => absurd q2.symm n)
set_option maxHeartbeats 4000000 in
set_option maxRecDepth 100000 in
theorem lc_9 {g : ab_G} {Q : Option ab_V → ab_H → Prop} {i : Int} {h : ab_H} (hL : g.2.2.2.2.1 ≤ 3072) (hi : 0 ≤ i) (hj : i + 6 ≤ g.2.2.2.2.1) (I : Inv h) (K : ∀ h', Inv h' → Go g lw_E m_law Q 1213 [some (a_R 82), some (a_R 0), some (a_R 62), some (a_I i)] [] h') : Go g lw_E m_law Q 443 [some (a_R 82), some (a_R 0), some (a_R 62), some (a_I i)] [] h := by
  refine go_aload_n rfl rfl ?_
  refine go_aload_n rfl rfl ?_
  refine go_iload_n rfl rfl ?_
  refine go_iconst rfl ?_
  refine go_iadd rfl (by unfold ab_iok; omega) ?_
  refine go_sld rfl rfl (by omega) (by omega) (by omega) ?_
  refine go_aload_n rfl rfl ?_
  refine go_iload_n rfl rfl ?_
  refine go_iconst rfl ?_
  refine go_iadd rfl (by unfold ab_iok; omega) ?_
  refine go_sld rfl rfl (by omega) (by omega) (by omega) ?_
  refine go_aload_n rfl rfl ?_
  refine go_iload_n rfl rfl ?_
  refine go_iconst rfl ?_
  refine go_iadd rfl (by unfold ab_iok; omega) ?_
  refine go_sld rfl rfl (by omega) (by omega) (by omega) ?_
  refine lw_c3I (M' := m_X6_met) rfl l_L_53 k_X6_met (op_met I) rfl rfl rfl rfl (by decide) (Nat.le_of_ble_eq_true rfl) (fun z1 h1 q1 => ?_)
  refine go_aload_n rfl rfl ?_
  refine go_aload_n rfl rfl ?_
  refine go_iload_n rfl rfl ?_
  refine go_iconst rfl ?_
  refine go_iadd rfl (by unfold ab_iok; omega) ?_
  refine go_sld rfl rfl (by omega) (by omega) (by omega) ?_
  refine go_aload_n rfl rfl ?_
  refine go_iload_n rfl rfl ?_
  refine go_iconst rfl ?_
  refine go_iadd rfl (by unfold ab_iok; omega) ?_
  refine go_sld rfl rfl (by omega) (by omega) (by omega) ?_
  refine go_aload_n rfl rfl ?_
  refine go_iload_n rfl rfl ?_
  refine go_iconst rfl ?_
  refine go_iadd rfl (by unfold ab_iok; omega) ?_
  refine go_sld rfl rfl (by omega) (by omega) (by omega) ?_
  refine lw_c3I (M' := m_X7_met) rfl l_L_56 k_X7_met q1 rfl rfl rfl rfl (by decide) (Nat.le_of_ble_eq_true rfl) (fun z2 h2 q2 => ?_)
  obtain ⟨q2, I2⟩ := q2
  exact go_icmp_eq rfl (tgt := 1213) (by decide) (fun _ => K h2 I2) (fun n => absurd q2.symm n)
set_option maxHeartbeats 4000000 in
set_option maxRecDepth 100000 in
theorem lc_10 {g : ab_G} {Q : Option ab_V → ab_H → Prop} {i : Int} {h : ab_H} (hL : g.2.2.2.2.1 ≤ 3072) (hi : 0 ≤ i) (hj : i + 6 ≤ g.2.2.2.2.1) (I : Inv h) (K : ∀ h', Inv h' → Go g lw_E m_law Q 1213 [some (a_R 82), some (a_R 0), some (a_R 62), some (a_I i)] [] h') : Go g lw_E m_law Q 486 [some (a_R 82), some (a_R 0), some (a_R 62), some (a_I i)] [] h := by
  refine go_aload_n rfl rfl ?_
  refine go_aload_n rfl rfl ?_
  refine go_iload_n rfl rfl ?_
  refine go_iconst rfl ?_
  refine go_iadd rfl (by unfold ab_iok; omega) ?_
  refine go_sld rfl rfl (by omega) (by omega) (by omega) ?_
  refine lw_c1I (M' := m_X6_meetings) rfl l_L_57 k_X6_meetings (op_meetings I) rfl rfl rfl rfl (by decide) (Nat.le_of_ble_eq_true rfl) (fun z1 h1 q1 => ?_)
  refine go_aload_n rfl rfl ?_
  refine go_aload_n rfl rfl ?_
  refine go_iload_n rfl rfl ?_
  refine go_iconst rfl ?_
  refine go_iadd rfl (by unfold ab_iok; omega) ?_
  refine go_sld rfl rfl (by omega) (by omega) (by omega) ?_
  refine lw_c1I (M' := m_X7_meetings) rfl l_L_60 k_X7_meetings q1 rfl rfl rfl rfl (by decide) (Nat.le_of_ble_eq_true rfl) (fun z2 h2 q2 => ?_)
  obtain ⟨q2, I2⟩ := q2
  exact go_icmp_eq rfl (tgt := 1213) (by decide) (fun _ => K h2 I2) (fun n => absurd q2.symm n)
set_option maxHeartbeats 4000000 in
set_option maxRecDepth 100000 in
theorem lc_11 {g : ab_G} {Q : Option ab_V → ab_H → Prop} {i : Int} {h : ab_H} (hL : g.2.2.2.2.1 ≤ 3072) (hi : 0 ≤ i) (hj : i + 6 ≤ g.2.2.2.2.1) (I : Inv h) (K : ∀ h', Inv h' → Go g lw_E m_law Q 1213 [some (a_R 82), some (a_R 0), some (a_R 62), some (a_I i)] [] h') : Go g lw_E m_law Q 509 [some (a_R 82), some (a_R 0), some (a_R 62), some (a_I i)] [] h := by
  refine go_aload_n rfl rfl ?_
  refine go_aload_n rfl rfl ?_
  refine go_iload_n rfl rfl ?_
  refine go_iconst rfl ?_
  refine go_iadd rfl (by unfold ab_iok; omega) ?_
  refine go_sld rfl rfl (by omega) (by omega) (by omega) ?_
  refine go_aload_n rfl rfl ?_
  refine go_iload_n rfl rfl ?_
  refine go_iconst rfl ?_
  refine go_iadd rfl (by unfold ab_iok; omega) ?_
  refine go_sld rfl rfl (by omega) (by omega) (by omega) ?_
  refine go_aload_n rfl rfl ?_
  refine go_iload_n rfl rfl ?_
  refine go_iconst rfl ?_
  refine go_iadd rfl (by unfold ab_iok; omega) ?_
  refine go_sld rfl rfl (by omega) (by omega) (by omega) ?_
  refine lw_c3I (M' := m_X6_carried) rfl l_L_61 k_X6_carried (op_carried I) rfl rfl rfl rfl (by decide) (Nat.le_of_ble_eq_true rfl) (fun z1 h1 q1 => ?_)
  refine go_aload_n rfl rfl ?_
  refine go_aload_n rfl rfl ?_
  refine go_iload_n rfl rfl ?_
  refine go_iconst rfl ?_
  refine go_iadd rfl (by unfold ab_iok; omega) ?_
  refine go_sld rfl rfl (by omega) (by omega) (by omega) ?_
  refine go_aload_n rfl rfl ?_
  refine go_iload_n rfl rfl ?_
  refine go_iconst rfl ?_
  refine go_iadd rfl (by unfold ab_iok; omega) ?_
  refine go_sld rfl rfl (by omega) (by omega) (by omega) ?_
  refine go_aload_n rfl rfl ?_
  refine go_iload_n rfl rfl ?_
  refine go_iconst rfl ?_
  refine go_iadd rfl (by unfold ab_iok; omega) ?_
  refine go_sld rfl rfl (by omega) (by omega) (by omega) ?_
  refine lw_c3I (M' := m_X7_carried) rfl l_L_64 k_X7_carried q1 rfl rfl rfl rfl (by decide) (Nat.le_of_ble_eq_true rfl) (fun z2 h2 q2 => ?_)
  obtain ⟨q2, I2⟩ := q2
  exact go_icmp_eq rfl (tgt := 1213) (by decide) (fun _ => K h2 I2) (fun n => absurd q2.symm n)
set_option maxHeartbeats 4000000 in
set_option maxRecDepth 100000 in
theorem lc_12 {g : ab_G} {Q : Option ab_V → ab_H → Prop} {i : Int} {h : ab_H} (hL : g.2.2.2.2.1 ≤ 3072) (hi : 0 ≤ i) (hj : i + 6 ≤ g.2.2.2.2.1) (I : Inv h) (K : ∀ h', Inv h' → Go g lw_E m_law Q 1213 [some (a_R 82), some (a_R 0), some (a_R 62), some (a_I i)] [] h') : Go g lw_E m_law Q 552 [some (a_R 82), some (a_R 0), some (a_R 62), some (a_I i)] [] h := by
  refine go_aload_n rfl rfl ?_
  refine go_aload_n rfl rfl ?_
  refine go_iload_n rfl rfl ?_
  refine go_iconst rfl ?_
  refine go_iadd rfl (by unfold ab_iok; omega) ?_
  refine go_sld rfl rfl (by omega) (by omega) (by omega) ?_
  refine go_aload_n rfl rfl ?_
  refine go_iload_n rfl rfl ?_
  refine go_iconst rfl ?_
  refine go_iadd rfl (by unfold ab_iok; omega) ?_
  refine go_sld rfl rfl (by omega) (by omega) (by omega) ?_
  refine lw_c2I (M' := m_X6_namesOff) rfl l_L_65 k_X6_namesOff (op_namesOff I) rfl rfl rfl rfl (by decide) (Nat.le_of_ble_eq_true rfl) (fun z1 h1 q1 => ?_)
  refine go_aload_n rfl rfl ?_
  refine go_aload_n rfl rfl ?_
  refine go_iload_n rfl rfl ?_
  refine go_iconst rfl ?_
  refine go_iadd rfl (by unfold ab_iok; omega) ?_
  refine go_sld rfl rfl (by omega) (by omega) (by omega) ?_
  refine go_aload_n rfl rfl ?_
  refine go_iload_n rfl rfl ?_
  refine go_iconst rfl ?_
  refine go_iadd rfl (by unfold ab_iok; omega) ?_
  refine go_sld rfl rfl (by omega) (by omega) (by omega) ?_
  refine lw_c2I (M' := m_X7_namesOff) rfl l_L_68 k_X7_namesOff q1 rfl rfl rfl rfl (by decide) (Nat.le_of_ble_eq_true rfl) (fun z2 h2 q2 => ?_)
  obtain ⟨q2, I2⟩ := q2
  exact go_icmp_eq rfl (tgt := 1213) (by decide) (fun _ => K h2 I2) (fun n => absurd q2.symm n)
set_option maxHeartbeats 4000000 in
set_option maxRecDepth 100000 in
theorem lc_13 {g : ab_G} {Q : Option ab_V → ab_H → Prop} {i : Int} {h : ab_H} (hL : g.2.2.2.2.1 ≤ 3072) (hi : 0 ≤ i) (hj : i + 6 ≤ g.2.2.2.2.1) (I : Inv h) (K : ∀ h', Inv h' → Go g lw_E m_law Q 1213 [some (a_R 82), some (a_R 0), some (a_R 62), some (a_I i)] [] h') : Go g lw_E m_law Q 585 [some (a_R 82), some (a_R 0), some (a_R 62), some (a_I i)] [] h := by
  refine go_aload_n rfl rfl ?_
  refine go_aload_n rfl rfl ?_
  refine go_iload_n rfl rfl ?_
  refine go_iconst rfl ?_
  refine go_iadd rfl (by unfold ab_iok; omega) ?_
  refine go_sld rfl rfl (by omega) (by omega) (by omega) ?_
  refine lw_c1I (M' := m_X6_isTrue) rfl l_L_69 k_X6_isTrue (op_isTrue I) rfl rfl rfl rfl (by decide) (Nat.le_of_ble_eq_true rfl) (fun z1 h1 q1 => ?_)
  refine go_aload_n rfl rfl ?_
  refine go_aload_n rfl rfl ?_
  refine go_iload_n rfl rfl ?_
  refine go_iconst rfl ?_
  refine go_iadd rfl (by unfold ab_iok; omega) ?_
  refine go_sld rfl rfl (by omega) (by omega) (by omega) ?_
  refine lw_c1I (M' := m_X7_isTrue) rfl l_L_72 k_X7_isTrue q1 rfl rfl rfl rfl (by decide) (Nat.le_of_ble_eq_true rfl) (fun z2 h2 q2 => ?_)
  obtain ⟨q2, I2⟩ := q2
  exact go_icmp_eq rfl (tgt := 1213) (by decide) (fun _ => K h2 I2) (fun n => absurd q2.symm n)
set_option maxHeartbeats 4000000 in
set_option maxRecDepth 100000 in
theorem lc_14 {g : ab_G} {Q : Option ab_V → ab_H → Prop} {i : Int} {h : ab_H} (hL : g.2.2.2.2.1 ≤ 3072) (hi : 0 ≤ i) (hj : i + 6 ≤ g.2.2.2.2.1) (I : Inv h) (K : ∀ h', Inv h' → Go g lw_E m_law Q 1213 [some (a_R 82), some (a_R 0), some (a_R 62), some (a_I i)] [] h') : Go g lw_E m_law Q 608 [some (a_R 82), some (a_R 0), some (a_R 62), some (a_I i)] [] h := by
  refine go_aload_n rfl rfl ?_
  refine lw_c0I (M' := m_X6_again) rfl l_L_73 k_X6_again (op_again I) rfl rfl rfl rfl (by decide) (Nat.le_of_ble_eq_true rfl) (fun z1 h1 q1 => ?_)
  refine go_aload_n rfl rfl ?_
  refine lw_c0I (M' := m_X7_again) rfl l_L_76 k_X7_again q1 rfl rfl rfl rfl (by decide) (Nat.le_of_ble_eq_true rfl) (fun z2 h2 q2 => ?_)
  obtain ⟨q2, I2⟩ := q2
  exact go_icmp_eq rfl (tgt := 1213) (by decide) (fun _ => K h2 I2) (fun n => absurd q2.symm n)
set_option maxHeartbeats 4000000 in
set_option maxRecDepth 100000 in
theorem lc_15 {g : ab_G} {Q : Option ab_V → ab_H → Prop} {i : Int} {h : ab_H} (hL : g.2.2.2.2.1 ≤ 3072) (hi : 0 ≤ i) (hj : i + 6 ≤ g.2.2.2.2.1) (I : Inv h) (K : ∀ h', Inv h' → Go g lw_E m_law Q 1213 [some (a_R 82), some (a_R 0), some (a_R 62), some (a_I i)] [] h') : Go g lw_E m_law Q 621 [some (a_R 82), some (a_R 0), some (a_R 62), some (a_I i)] [] h := by
  refine go_aload_n rfl rfl ?_
  refine go_aload_n rfl rfl ?_
  refine go_iload_n rfl rfl ?_
  refine go_iconst rfl ?_
  refine go_iadd rfl (by unfold ab_iok; omega) ?_
  refine go_sld rfl rfl (by omega) (by omega) (by omega) ?_
  refine go_aload_n rfl rfl ?_
  refine go_iload_n rfl rfl ?_
  refine go_iconst rfl ?_
  refine go_iadd rfl (by unfold ab_iok; omega) ?_
  refine go_sld rfl rfl (by omega) (by omega) (by omega) ?_
  refine go_aload_n rfl rfl ?_
  refine go_iload_n rfl rfl ?_
  refine go_iconst rfl ?_
  refine go_iadd rfl (by unfold ab_iok; omega) ?_
  refine go_sld rfl rfl (by omega) (by omega) (by omega) ?_
  refine go_aload_n rfl rfl ?_
  refine go_iload_n rfl rfl ?_
  refine go_iconst rfl ?_
  refine go_iadd rfl (by unfold ab_iok; omega) ?_
  refine go_sld rfl rfl (by omega) (by omega) (by omega) ?_
  refine lw_c4I (M' := m_X6_letter) rfl l_L_77 k_X6_letter (op_letter I) rfl rfl rfl rfl (by decide) (Nat.le_of_ble_eq_true rfl) (fun z1 h1 q1 => ?_)
  refine go_aload_n rfl rfl ?_
  refine go_aload_n rfl rfl ?_
  refine go_iload_n rfl rfl ?_
  refine go_iconst rfl ?_
  refine go_iadd rfl (by unfold ab_iok; omega) ?_
  refine go_sld rfl rfl (by omega) (by omega) (by omega) ?_
  refine go_aload_n rfl rfl ?_
  refine go_iload_n rfl rfl ?_
  refine go_iconst rfl ?_
  refine go_iadd rfl (by unfold ab_iok; omega) ?_
  refine go_sld rfl rfl (by omega) (by omega) (by omega) ?_
  refine go_aload_n rfl rfl ?_
  refine go_iload_n rfl rfl ?_
  refine go_iconst rfl ?_
  refine go_iadd rfl (by unfold ab_iok; omega) ?_
  refine go_sld rfl rfl (by omega) (by omega) (by omega) ?_
  refine go_aload_n rfl rfl ?_
  refine go_iload_n rfl rfl ?_
  refine go_iconst rfl ?_
  refine go_iadd rfl (by unfold ab_iok; omega) ?_
  refine go_sld rfl rfl (by omega) (by omega) (by omega) ?_
  refine lw_c4I (M' := m_X7_letter) rfl l_L_81 k_X7_letter q1 rfl rfl rfl rfl (by decide) (Nat.le_of_ble_eq_true rfl) (fun z2 h2 q2 => ?_)
  obtain ⟨q2, I2⟩ := q2
  exact go_icmp_eq rfl (tgt := 1213) (by decide) (fun _ => K h2 I2) (fun n => absurd q2.symm n)
set_option maxHeartbeats 4000000 in
set_option maxRecDepth 100000 in
theorem lc_16 {g : ab_G} {Q : Option ab_V → ab_H → Prop} {i : Int} {h : ab_H} (hL : g.2.2.2.2.1 ≤ 3072) (hi : 0 ≤ i) (hj : i + 6 ≤ g.2.2.2.2.1) (I : Inv h) (K : ∀ h', Inv h' → Go g lw_E m_law Q 1213 [some (a_R 82), some (a_R 0), some (a_R 62), some (a_I i)] [] h') : Go g lw_E m_law Q 674 [some (a_R 82), some (a_R 0), some (a_R 62), some (a_I i)] [] h := by
  refine go_aload_n rfl rfl ?_
  refine go_aload_n rfl rfl ?_
  refine go_iload_n rfl rfl ?_
  refine go_iconst rfl ?_
  refine go_iadd rfl (by unfold ab_iok; omega) ?_
  refine go_sld rfl rfl (by omega) (by omega) (by omega) ?_
  refine go_aload_n rfl rfl ?_
  refine go_iload_n rfl rfl ?_
  refine go_iconst rfl ?_
  refine go_iadd rfl (by unfold ab_iok; omega) ?_
  refine go_sld rfl rfl (by omega) (by omega) (by omega) ?_
  refine go_aload_n rfl rfl ?_
  refine go_iload_n rfl rfl ?_
  refine go_iconst rfl ?_
  refine go_iadd rfl (by unfold ab_iok; omega) ?_
  refine go_sld rfl rfl (by omega) (by omega) (by omega) ?_
  refine lw_c3I (M' := m_X6_giveIn) rfl l_L_82 k_X6_giveIn (op_giveIn I) rfl rfl rfl rfl (by decide) (Nat.le_of_ble_eq_true rfl) (fun z1 h1 q1 => ?_)
  refine go_aload_n rfl rfl ?_
  refine go_aload_n rfl rfl ?_
  refine go_iload_n rfl rfl ?_
  refine go_iconst rfl ?_
  refine go_iadd rfl (by unfold ab_iok; omega) ?_
  refine go_sld rfl rfl (by omega) (by omega) (by omega) ?_
  refine go_aload_n rfl rfl ?_
  refine go_iload_n rfl rfl ?_
  refine go_iconst rfl ?_
  refine go_iadd rfl (by unfold ab_iok; omega) ?_
  refine go_sld rfl rfl (by omega) (by omega) (by omega) ?_
  refine go_aload_n rfl rfl ?_
  refine go_iload_n rfl rfl ?_
  refine go_iconst rfl ?_
  refine go_iadd rfl (by unfold ab_iok; omega) ?_
  refine go_sld rfl rfl (by omega) (by omega) (by omega) ?_
  refine lw_c3I (M' := m_X7_giveIn) rfl l_L_85 k_X7_giveIn q1 rfl rfl rfl rfl (by decide) (Nat.le_of_ble_eq_true rfl) (fun z2 h2 q2 => ?_)
  obtain ⟨q2, I2⟩ := q2
  exact go_icmp_eq rfl (tgt := 1213) (by decide) (fun _ => K h2 I2) (fun n => absurd q2.symm n)
set_option maxHeartbeats 4000000 in
set_option maxRecDepth 100000 in
theorem lc_17 {g : ab_G} {Q : Option ab_V → ab_H → Prop} {i : Int} {h : ab_H} (hL : g.2.2.2.2.1 ≤ 3072) (hi : 0 ≤ i) (hj : i + 6 ≤ g.2.2.2.2.1) (I : Inv h) (K : ∀ h', Inv h' → Go g lw_E m_law Q 1213 [some (a_R 82), some (a_R 0), some (a_R 62), some (a_I i)] [] h') : Go g lw_E m_law Q 717 [some (a_R 82), some (a_R 0), some (a_R 62), some (a_I i)] [] h := by
  refine go_aload_n rfl rfl ?_
  refine go_aload_n rfl rfl ?_
  refine go_iload_n rfl rfl ?_
  refine go_iconst rfl ?_
  refine go_iadd rfl (by unfold ab_iok; omega) ?_
  refine go_sld rfl rfl (by omega) (by omega) (by omega) ?_
  refine go_aload_n rfl rfl ?_
  refine go_iload_n rfl rfl ?_
  refine go_iconst rfl ?_
  refine go_iadd rfl (by unfold ab_iok; omega) ?_
  refine go_sld rfl rfl (by omega) (by omega) (by omega) ?_
  refine lw_c2I (M' := m_X6_served) rfl l_L_86 k_X6_served (op_served I) rfl rfl rfl rfl (by decide) (Nat.le_of_ble_eq_true rfl) (fun z1 h1 q1 => ?_)
  refine go_aload_n rfl rfl ?_
  refine go_aload_n rfl rfl ?_
  refine go_iload_n rfl rfl ?_
  refine go_iconst rfl ?_
  refine go_iadd rfl (by unfold ab_iok; omega) ?_
  refine go_sld rfl rfl (by omega) (by omega) (by omega) ?_
  refine go_aload_n rfl rfl ?_
  refine go_iload_n rfl rfl ?_
  refine go_iconst rfl ?_
  refine go_iadd rfl (by unfold ab_iok; omega) ?_
  refine go_sld rfl rfl (by omega) (by omega) (by omega) ?_
  refine lw_c2I (M' := m_X7_served) rfl l_L_89 k_X7_served q1 rfl rfl rfl rfl (by decide) (Nat.le_of_ble_eq_true rfl) (fun z2 h2 q2 => ?_)
  obtain ⟨q2, I2⟩ := q2
  exact go_icmp_eq rfl (tgt := 1213) (by decide) (fun _ => K h2 I2) (fun n => absurd q2.symm n)
set_option maxHeartbeats 4000000 in
set_option maxRecDepth 100000 in
theorem lc_18 {g : ab_G} {Q : Option ab_V → ab_H → Prop} {i : Int} {h : ab_H} (hL : g.2.2.2.2.1 ≤ 3072) (hi : 0 ≤ i) (hj : i + 6 ≤ g.2.2.2.2.1) (I : Inv h) (K : ∀ h', Inv h' → Go g lw_E m_law Q 1213 [some (a_R 82), some (a_R 0), some (a_R 62), some (a_I i)] [] h') : Go g lw_E m_law Q 750 [some (a_R 82), some (a_R 0), some (a_R 62), some (a_I i)] [] h := by
  refine go_aload_n rfl rfl ?_
  refine go_aload_n rfl rfl ?_
  refine go_iload_n rfl rfl ?_
  refine go_iconst rfl ?_
  refine go_iadd rfl (by unfold ab_iok; omega) ?_
  refine go_sld rfl rfl (by omega) (by omega) (by omega) ?_
  refine go_aload_n rfl rfl ?_
  refine go_iload_n rfl rfl ?_
  refine go_iconst rfl ?_
  refine go_iadd rfl (by unfold ab_iok; omega) ?_
  refine go_sld rfl rfl (by omega) (by omega) (by omega) ?_
  refine lw_c2I (M' := m_X6_fewest) rfl l_L_90 k_X6_fewest (op_fewest I) rfl rfl rfl rfl (by decide) (Nat.le_of_ble_eq_true rfl) (fun z1 h1 q1 => ?_)
  refine go_aload_n rfl rfl ?_
  refine go_aload_n rfl rfl ?_
  refine go_iload_n rfl rfl ?_
  refine go_iconst rfl ?_
  refine go_iadd rfl (by unfold ab_iok; omega) ?_
  refine go_sld rfl rfl (by omega) (by omega) (by omega) ?_
  refine go_aload_n rfl rfl ?_
  refine go_iload_n rfl rfl ?_
  refine go_iconst rfl ?_
  refine go_iadd rfl (by unfold ab_iok; omega) ?_
  refine go_sld rfl rfl (by omega) (by omega) (by omega) ?_
  refine lw_c2I (M' := m_X7_fewest) rfl l_L_93 k_X7_fewest q1 rfl rfl rfl rfl (by decide) (Nat.le_of_ble_eq_true rfl) (fun z2 h2 q2 => ?_)
  obtain ⟨q2, I2⟩ := q2
  exact go_icmp_eq rfl (tgt := 1213) (by decide) (fun _ => K h2 I2) (fun n => absurd q2.symm n)
set_option maxHeartbeats 4000000 in
set_option maxRecDepth 100000 in
theorem lc_19 {g : ab_G} {Q : Option ab_V → ab_H → Prop} {i : Int} {h : ab_H} (hL : g.2.2.2.2.1 ≤ 3072) (hi : 0 ≤ i) (hj : i + 6 ≤ g.2.2.2.2.1) (I : Inv h) (K : ∀ h', Inv h' → Go g lw_E m_law Q 1213 [some (a_R 82), some (a_R 0), some (a_R 62), some (a_I i)] [] h') : Go g lw_E m_law Q 783 [some (a_R 82), some (a_R 0), some (a_R 62), some (a_I i)] [] h := by
  refine go_aload_n rfl rfl ?_
  refine go_aload_n rfl rfl ?_
  refine go_iload_n rfl rfl ?_
  refine go_iconst rfl ?_
  refine go_iadd rfl (by unfold ab_iok; omega) ?_
  refine go_sld rfl rfl (by omega) (by omega) (by omega) ?_
  refine go_aload_n rfl rfl ?_
  refine go_iload_n rfl rfl ?_
  refine go_iconst rfl ?_
  refine go_iadd rfl (by unfold ab_iok; omega) ?_
  refine go_sld rfl rfl (by omega) (by omega) (by omega) ?_
  refine go_aload_n rfl rfl ?_
  refine go_iload_n rfl rfl ?_
  refine go_iconst rfl ?_
  refine go_iadd rfl (by unfold ab_iok; omega) ?_
  refine go_sld rfl rfl (by omega) (by omega) (by omega) ?_
  refine go_aload_n rfl rfl ?_
  refine go_iload_n rfl rfl ?_
  refine go_iconst rfl ?_
  refine go_iadd rfl (by unfold ab_iok; omega) ?_
  refine go_sld rfl rfl (by omega) (by omega) (by omega) ?_
  refine lw_c4I (M' := m_X6_came) rfl l_L_94 k_X6_came (op_came I) rfl rfl rfl rfl (by decide) (Nat.le_of_ble_eq_true rfl) (fun z1 h1 q1 => ?_)
  refine go_aload_n rfl rfl ?_
  refine go_aload_n rfl rfl ?_
  refine go_iload_n rfl rfl ?_
  refine go_iconst rfl ?_
  refine go_iadd rfl (by unfold ab_iok; omega) ?_
  refine go_sld rfl rfl (by omega) (by omega) (by omega) ?_
  refine go_aload_n rfl rfl ?_
  refine go_iload_n rfl rfl ?_
  refine go_iconst rfl ?_
  refine go_iadd rfl (by unfold ab_iok; omega) ?_
  refine go_sld rfl rfl (by omega) (by omega) (by omega) ?_
  refine go_aload_n rfl rfl ?_
  refine go_iload_n rfl rfl ?_
  refine go_iconst rfl ?_
  refine go_iadd rfl (by unfold ab_iok; omega) ?_
  refine go_sld rfl rfl (by omega) (by omega) (by omega) ?_
  refine go_aload_n rfl rfl ?_
  refine go_iload_n rfl rfl ?_
  refine go_iconst rfl ?_
  refine go_iadd rfl (by unfold ab_iok; omega) ?_
  refine go_sld rfl rfl (by omega) (by omega) (by omega) ?_
  refine lw_c4I (M' := m_X7_came) rfl l_L_97 k_X7_came q1 rfl rfl rfl rfl (by decide) (Nat.le_of_ble_eq_true rfl) (fun z2 h2 q2 => ?_)
  obtain ⟨q2, I2⟩ := q2
  exact go_icmp_eq rfl (tgt := 1213) (by decide) (fun _ => K h2 I2) (fun n => absurd q2.symm n)
set_option maxHeartbeats 4000000 in
set_option maxRecDepth 100000 in
theorem lc_20 {g : ab_G} {Q : Option ab_V → ab_H → Prop} {i : Int} {h : ab_H} (hL : g.2.2.2.2.1 ≤ 3072) (hi : 0 ≤ i) (hj : i + 6 ≤ g.2.2.2.2.1) (I : Inv h) (K : ∀ h', Inv h' → Go g lw_E m_law Q 1213 [some (a_R 82), some (a_R 0), some (a_R 62), some (a_I i)] [] h') : Go g lw_E m_law Q 836 [some (a_R 82), some (a_R 0), some (a_R 62), some (a_I i)] [] h := by
  refine go_aload_n rfl rfl ?_
  refine go_aload_n rfl rfl ?_
  refine go_iload_n rfl rfl ?_
  refine go_iconst rfl ?_
  refine go_iadd rfl (by unfold ab_iok; omega) ?_
  refine go_sld rfl rfl (by omega) (by omega) (by omega) ?_
  refine lw_c1I (M' := m_X6_read) rfl l_L_98 k_X6_read (op_read I) rfl rfl rfl rfl (by decide) (Nat.le_of_ble_eq_true rfl) (fun z1 h1 q1 => ?_)
  refine go_aload_n rfl rfl ?_
  refine go_aload_n rfl rfl ?_
  refine go_iload_n rfl rfl ?_
  refine go_iconst rfl ?_
  refine go_iadd rfl (by unfold ab_iok; omega) ?_
  refine go_sld rfl rfl (by omega) (by omega) (by omega) ?_
  refine lw_c1I (M' := m_X7_read) rfl l_L_101 k_X7_read q1 rfl rfl rfl rfl (by decide) (Nat.le_of_ble_eq_true rfl) (fun z2 h2 q2 => ?_)
  obtain ⟨q2, I2⟩ := q2
  exact go_icmp_eq rfl (tgt := 1213) (by decide) (fun _ => K h2 I2) (fun n => absurd q2.symm n)
set_option maxHeartbeats 4000000 in
set_option maxRecDepth 100000 in
theorem lc_21 {g : ab_G} {Q : Option ab_V → ab_H → Prop} {i : Int} {h : ab_H} (hL : g.2.2.2.2.1 ≤ 3072) (hi : 0 ≤ i) (hj : i + 6 ≤ g.2.2.2.2.1) (I : Inv h) (K : ∀ h', Inv h' → Go g lw_E m_law Q 1213 [some (a_R 82), some (a_R 0), some (a_R 62), some (a_I i)] [] h') : Go g lw_E m_law Q 859 [some (a_R 82), some (a_R 0), some (a_R 62), some (a_I i)] [] h := by
  refine go_aload_n rfl rfl ?_
  refine lw_c0I (M' := m_X6_forget) rfl l_L_102 k_X6_forget (op_forget I) rfl rfl rfl rfl (by decide) (Nat.le_of_ble_eq_true rfl) (fun z1 h1 q1 => ?_)
  refine go_aload_n rfl rfl ?_
  refine lw_c0I (M' := m_X7_forget) rfl l_L_105 k_X7_forget q1 rfl rfl rfl rfl (by decide) (Nat.le_of_ble_eq_true rfl) (fun z2 h2 q2 => ?_)
  obtain ⟨q2, I2⟩ := q2
  exact go_icmp_eq rfl (tgt := 1213) (by decide) (fun _ => K h2 I2) (fun n => absurd q2.symm n)
set_option maxHeartbeats 4000000 in
set_option maxRecDepth 100000 in
theorem lc_22 {g : ab_G} {Q : Option ab_V → ab_H → Prop} {i : Int} {h : ab_H} (hL : g.2.2.2.2.1 ≤ 3072) (hi : 0 ≤ i) (hj : i + 6 ≤ g.2.2.2.2.1) (I : Inv h) (K : ∀ h', Inv h' → Go g lw_E m_law Q 1213 [some (a_R 82), some (a_R 0), some (a_R 62), some (a_I i)] [] h') : Go g lw_E m_law Q 872 [some (a_R 82), some (a_R 0), some (a_R 62), some (a_I i)] [] h := by
  refine go_aload_n rfl rfl ?_
  refine lw_c0I (M' := m_X6_late) rfl l_L_106 k_X6_late (op_late I) rfl rfl rfl rfl (by decide) (Nat.le_of_ble_eq_true rfl) (fun z1 h1 q1 => ?_)
  refine go_aload_n rfl rfl ?_
  refine lw_c0I (M' := m_X7_late) rfl l_L_109 k_X7_late q1 rfl rfl rfl rfl (by decide) (Nat.le_of_ble_eq_true rfl) (fun z2 h2 q2 => ?_)
  obtain ⟨q2, I2⟩ := q2
  exact go_icmp_eq rfl (tgt := 1213) (by decide) (fun _ => K h2 I2) (fun n => absurd q2.symm n)
set_option maxHeartbeats 4000000 in
set_option maxRecDepth 100000 in
theorem lc_23 {g : ab_G} {Q : Option ab_V → ab_H → Prop} {i : Int} {h : ab_H} (hL : g.2.2.2.2.1 ≤ 3072) (hi : 0 ≤ i) (hj : i + 6 ≤ g.2.2.2.2.1) (I : Inv h) (K : ∀ h', Inv h' → Go g lw_E m_law Q 1213 [some (a_R 82), some (a_R 0), some (a_R 62), some (a_I i)] [] h') : Go g lw_E m_law Q 885 [some (a_R 82), some (a_R 0), some (a_R 62), some (a_I i)] [] h := by
  refine go_aload_n rfl rfl ?_
  refine go_aload_n rfl rfl ?_
  refine go_iload_n rfl rfl ?_
  refine go_iconst rfl ?_
  refine go_iadd rfl (by unfold ab_iok; omega) ?_
  refine go_sld rfl rfl (by omega) (by omega) (by omega) ?_
  refine lw_c1I (M' := m_X6_stood) rfl l_L_110 k_X6_stood (op_stood I) rfl rfl rfl rfl (by decide) (Nat.le_of_ble_eq_true rfl) (fun z1 h1 q1 => ?_)
  refine go_aload_n rfl rfl ?_
  refine go_aload_n rfl rfl ?_
  refine go_iload_n rfl rfl ?_
  refine go_iconst rfl ?_
  refine go_iadd rfl (by unfold ab_iok; omega) ?_
  refine go_sld rfl rfl (by omega) (by omega) (by omega) ?_
  refine lw_c1I (M' := m_X7_stood) rfl l_L_113 k_X7_stood q1 rfl rfl rfl rfl (by decide) (Nat.le_of_ble_eq_true rfl) (fun z2 h2 q2 => ?_)
  obtain ⟨q2, I2⟩ := q2
  exact go_icmp_eq rfl (tgt := 1213) (by decide) (fun _ => K h2 I2) (fun n => absurd q2.symm n)
set_option maxHeartbeats 4000000 in
set_option maxRecDepth 100000 in
theorem lc_24 {g : ab_G} {Q : Option ab_V → ab_H → Prop} {i : Int} {h : ab_H} (hL : g.2.2.2.2.1 ≤ 3072) (hi : 0 ≤ i) (hj : i + 6 ≤ g.2.2.2.2.1) (I : Inv h) (K : ∀ h', Inv h' → Go g lw_E m_law Q 1213 [some (a_R 82), some (a_R 0), some (a_R 62), some (a_I i)] [] h') : Go g lw_E m_law Q 908 [some (a_R 82), some (a_R 0), some (a_R 62), some (a_I i)] [] h := by
  refine go_aload_n rfl rfl ?_
  refine go_aload_n rfl rfl ?_
  refine go_iload_n rfl rfl ?_
  refine go_iconst rfl ?_
  refine go_iadd rfl (by unfold ab_iok; omega) ?_
  refine go_sld rfl rfl (by omega) (by omega) (by omega) ?_
  refine go_aload_n rfl rfl ?_
  refine go_iload_n rfl rfl ?_
  refine go_iconst rfl ?_
  refine go_iadd rfl (by unfold ab_iok; omega) ?_
  refine go_sld rfl rfl (by omega) (by omega) (by omega) ?_
  refine go_aload_n rfl rfl ?_
  refine go_iload_n rfl rfl ?_
  refine go_iconst rfl ?_
  refine go_iadd rfl (by unfold ab_iok; omega) ?_
  refine go_sld rfl rfl (by omega) (by omega) (by omega) ?_
  refine lw_c3I (M' := m_X6_sheet) rfl l_L_114 k_X6_sheet (op_sheet I) rfl rfl rfl rfl (by decide) (Nat.le_of_ble_eq_true rfl) (fun z1 h1 q1 => ?_)
  refine go_aload_n rfl rfl ?_
  refine go_aload_n rfl rfl ?_
  refine go_iload_n rfl rfl ?_
  refine go_iconst rfl ?_
  refine go_iadd rfl (by unfold ab_iok; omega) ?_
  refine go_sld rfl rfl (by omega) (by omega) (by omega) ?_
  refine go_aload_n rfl rfl ?_
  refine go_iload_n rfl rfl ?_
  refine go_iconst rfl ?_
  refine go_iadd rfl (by unfold ab_iok; omega) ?_
  refine go_sld rfl rfl (by omega) (by omega) (by omega) ?_
  refine go_aload_n rfl rfl ?_
  refine go_iload_n rfl rfl ?_
  refine go_iconst rfl ?_
  refine go_iadd rfl (by unfold ab_iok; omega) ?_
  refine go_sld rfl rfl (by omega) (by omega) (by omega) ?_
  refine lw_c3I (M' := m_X7_sheet) rfl l_L_117 k_X7_sheet q1 rfl rfl rfl rfl (by decide) (Nat.le_of_ble_eq_true rfl) (fun z2 h2 q2 => ?_)
  obtain ⟨q2, I2⟩ := q2
  exact go_icmp_eq rfl (tgt := 1213) (by decide) (fun _ => K h2 I2) (fun n => absurd q2.symm n)
set_option maxHeartbeats 4000000 in
set_option maxRecDepth 100000 in
theorem lc_25 {g : ab_G} {Q : Option ab_V → ab_H → Prop} {i : Int} {h : ab_H} (hL : g.2.2.2.2.1 ≤ 3072) (hi : 0 ≤ i) (hj : i + 6 ≤ g.2.2.2.2.1) (I : Inv h) (K : ∀ h', Inv h' → Go g lw_E m_law Q 1213 [some (a_R 82), some (a_R 0), some (a_R 62), some (a_I i)] [] h') : Go g lw_E m_law Q 951 [some (a_R 82), some (a_R 0), some (a_R 62), some (a_I i)] [] h := by
  refine go_aload_n rfl rfl ?_
  refine go_aload_n rfl rfl ?_
  refine go_iload_n rfl rfl ?_
  refine go_iconst rfl ?_
  refine go_iadd rfl (by unfold ab_iok; omega) ?_
  refine go_sld rfl rfl (by omega) (by omega) (by omega) ?_
  refine lw_c1I (M' := m_X6_lose) rfl l_L_118 k_X6_lose (op_lose I) rfl rfl rfl rfl (by decide) (Nat.le_of_ble_eq_true rfl) (fun z1 h1 q1 => ?_)
  refine go_aload_n rfl rfl ?_
  refine go_aload_n rfl rfl ?_
  refine go_iload_n rfl rfl ?_
  refine go_iconst rfl ?_
  refine go_iadd rfl (by unfold ab_iok; omega) ?_
  refine go_sld rfl rfl (by omega) (by omega) (by omega) ?_
  refine lw_c1I (M' := m_X7_lose) rfl l_L_121 k_X7_lose q1 rfl rfl rfl rfl (by decide) (Nat.le_of_ble_eq_true rfl) (fun z2 h2 q2 => ?_)
  obtain ⟨q2, I2⟩ := q2
  exact go_icmp_eq rfl (tgt := 1213) (by decide) (fun _ => K h2 I2) (fun n => absurd q2.symm n)
set_option maxHeartbeats 4000000 in
set_option maxRecDepth 100000 in
theorem lc_26 {g : ab_G} {Q : Option ab_V → ab_H → Prop} {i : Int} {h : ab_H} (hL : g.2.2.2.2.1 ≤ 3072) (hi : 0 ≤ i) (hj : i + 6 ≤ g.2.2.2.2.1) (I : Inv h) (K : ∀ h', Inv h' → Go g lw_E m_law Q 1213 [some (a_R 82), some (a_R 0), some (a_R 62), some (a_I i)] [] h') : Go g lw_E m_law Q 974 [some (a_R 82), some (a_R 0), some (a_R 62), some (a_I i)] [] h := by
  refine go_aload_n rfl rfl ?_
  refine go_aload_n rfl rfl ?_
  refine go_iload_n rfl rfl ?_
  refine go_iconst rfl ?_
  refine go_iadd rfl (by unfold ab_iok; omega) ?_
  refine go_sld rfl rfl (by omega) (by omega) (by omega) ?_
  refine go_aload_n rfl rfl ?_
  refine go_iload_n rfl rfl ?_
  refine go_iconst rfl ?_
  refine go_iadd rfl (by unfold ab_iok; omega) ?_
  refine go_sld rfl rfl (by omega) (by omega) (by omega) ?_
  refine go_aload_n rfl rfl ?_
  refine go_iload_n rfl rfl ?_
  refine go_iconst rfl ?_
  refine go_iadd rfl (by unfold ab_iok; omega) ?_
  refine go_sld rfl rfl (by omega) (by omega) (by omega) ?_
  refine go_aload_n rfl rfl ?_
  refine go_iload_n rfl rfl ?_
  refine go_iconst rfl ?_
  refine go_iadd rfl (by unfold ab_iok; omega) ?_
  refine go_sld rfl rfl (by omega) (by omega) (by omega) ?_
  refine lw_c4I (M' := m_X6_lay) rfl l_L_122 k_X6_lay (op_lay I) rfl rfl rfl rfl (by decide) (Nat.le_of_ble_eq_true rfl) (fun z1 h1 q1 => ?_)
  refine go_aload_n rfl rfl ?_
  refine go_aload_n rfl rfl ?_
  refine go_iload_n rfl rfl ?_
  refine go_iconst rfl ?_
  refine go_iadd rfl (by unfold ab_iok; omega) ?_
  refine go_sld rfl rfl (by omega) (by omega) (by omega) ?_
  refine go_aload_n rfl rfl ?_
  refine go_iload_n rfl rfl ?_
  refine go_iconst rfl ?_
  refine go_iadd rfl (by unfold ab_iok; omega) ?_
  refine go_sld rfl rfl (by omega) (by omega) (by omega) ?_
  refine go_aload_n rfl rfl ?_
  refine go_iload_n rfl rfl ?_
  refine go_iconst rfl ?_
  refine go_iadd rfl (by unfold ab_iok; omega) ?_
  refine go_sld rfl rfl (by omega) (by omega) (by omega) ?_
  refine go_aload_n rfl rfl ?_
  refine go_iload_n rfl rfl ?_
  refine go_iconst rfl ?_
  refine go_iadd rfl (by unfold ab_iok; omega) ?_
  refine go_sld rfl rfl (by omega) (by omega) (by omega) ?_
  refine lw_c4I (M' := m_X7_lay) rfl l_L_125 k_X7_lay q1 rfl rfl rfl rfl (by decide) (Nat.le_of_ble_eq_true rfl) (fun z2 h2 q2 => ?_)
  obtain ⟨q2, I2⟩ := q2
  exact go_icmp_eq rfl (tgt := 1213) (by decide) (fun _ => K h2 I2) (fun n => absurd q2.symm n)
set_option maxHeartbeats 4000000 in
set_option maxRecDepth 100000 in
theorem lc_27 {g : ab_G} {Q : Option ab_V → ab_H → Prop} {i : Int} {h : ab_H} (hL : g.2.2.2.2.1 ≤ 3072) (hi : 0 ≤ i) (hj : i + 6 ≤ g.2.2.2.2.1) (I : Inv h) (K : ∀ h', Inv h' → Go g lw_E m_law Q 1213 [some (a_R 82), some (a_R 0), some (a_R 62), some (a_I i)] [] h') : Go g lw_E m_law Q 1027 [some (a_R 82), some (a_R 0), some (a_R 62), some (a_I i)] [] h := by
  refine go_aload_n rfl rfl ?_
  refine go_aload_n rfl rfl ?_
  refine go_iload_n rfl rfl ?_
  refine go_iconst rfl ?_
  refine go_iadd rfl (by unfold ab_iok; omega) ?_
  refine go_sld rfl rfl (by omega) (by omega) (by omega) ?_
  refine go_aload_n rfl rfl ?_
  refine go_iload_n rfl rfl ?_
  refine go_iconst rfl ?_
  refine go_iadd rfl (by unfold ab_iok; omega) ?_
  refine go_sld rfl rfl (by omega) (by omega) (by omega) ?_
  refine go_aload_n rfl rfl ?_
  refine go_iload_n rfl rfl ?_
  refine go_iconst rfl ?_
  refine go_iadd rfl (by unfold ab_iok; omega) ?_
  refine go_sld rfl rfl (by omega) (by omega) (by omega) ?_
  refine lw_c3I (M' := m_X6_get) rfl l_L_126 k_X6_get (op_get I) rfl rfl rfl rfl (by decide) (Nat.le_of_ble_eq_true rfl) (fun z1 h1 q1 => ?_)
  refine go_aload_n rfl rfl ?_
  refine go_aload_n rfl rfl ?_
  refine go_iload_n rfl rfl ?_
  refine go_iconst rfl ?_
  refine go_iadd rfl (by unfold ab_iok; omega) ?_
  refine go_sld rfl rfl (by omega) (by omega) (by omega) ?_
  refine go_aload_n rfl rfl ?_
  refine go_iload_n rfl rfl ?_
  refine go_iconst rfl ?_
  refine go_iadd rfl (by unfold ab_iok; omega) ?_
  refine go_sld rfl rfl (by omega) (by omega) (by omega) ?_
  refine go_aload_n rfl rfl ?_
  refine go_iload_n rfl rfl ?_
  refine go_iconst rfl ?_
  refine go_iadd rfl (by unfold ab_iok; omega) ?_
  refine go_sld rfl rfl (by omega) (by omega) (by omega) ?_
  refine lw_c3I (M' := m_X7_get) rfl l_L_129 k_X7_get q1 rfl rfl rfl rfl (by decide) (Nat.le_of_ble_eq_true rfl) (fun z2 h2 q2 => ?_)
  obtain ⟨q2, I2⟩ := q2
  exact go_icmp_eq rfl (tgt := 1213) (by decide) (fun _ => K h2 I2) (fun n => absurd q2.symm n)
set_option maxHeartbeats 4000000 in
set_option maxRecDepth 100000 in
theorem lc_28 {g : ab_G} {Q : Option ab_V → ab_H → Prop} {i : Int} {h : ab_H} (hL : g.2.2.2.2.1 ≤ 3072) (hi : 0 ≤ i) (hj : i + 6 ≤ g.2.2.2.2.1) (I : Inv h) (K : ∀ h', Inv h' → Go g lw_E m_law Q 1213 [some (a_R 82), some (a_R 0), some (a_R 62), some (a_I i)] [] h') : Go g lw_E m_law Q 1070 [some (a_R 82), some (a_R 0), some (a_R 62), some (a_I i)] [] h := by
  refine go_aload_n rfl rfl ?_
  refine go_aload_n rfl rfl ?_
  refine go_iload_n rfl rfl ?_
  refine go_iconst rfl ?_
  refine go_iadd rfl (by unfold ab_iok; omega) ?_
  refine go_sld rfl rfl (by omega) (by omega) (by omega) ?_
  refine go_aload_n rfl rfl ?_
  refine go_iload_n rfl rfl ?_
  refine go_iconst rfl ?_
  refine go_iadd rfl (by unfold ab_iok; omega) ?_
  refine go_sld rfl rfl (by omega) (by omega) (by omega) ?_
  refine go_aload_n rfl rfl ?_
  refine go_iload_n rfl rfl ?_
  refine go_iconst rfl ?_
  refine go_iadd rfl (by unfold ab_iok; omega) ?_
  refine go_sld rfl rfl (by omega) (by omega) (by omega) ?_
  refine go_aload_n rfl rfl ?_
  refine go_iload_n rfl rfl ?_
  refine go_iconst rfl ?_
  refine go_iadd rfl (by unfold ab_iok; omega) ?_
  refine go_sld rfl rfl (by omega) (by omega) (by omega) ?_
  refine go_aload_n rfl rfl ?_
  refine go_iload_n rfl rfl ?_
  refine go_iconst rfl ?_
  refine go_iadd rfl (by unfold ab_iok; omega) ?_
  refine go_sld rfl rfl (by omega) (by omega) (by omega) ?_
  refine lw_c5I (M' := m_X6_copy) rfl l_L_130 k_X6_copy (op_copy I) rfl rfl rfl rfl (by decide) (Nat.le_of_ble_eq_true rfl) (fun z1 h1 q1 => ?_)
  refine go_aload_n rfl rfl ?_
  refine go_aload_n rfl rfl ?_
  refine go_iload_n rfl rfl ?_
  refine go_iconst rfl ?_
  refine go_iadd rfl (by unfold ab_iok; omega) ?_
  refine go_sld rfl rfl (by omega) (by omega) (by omega) ?_
  refine go_aload_n rfl rfl ?_
  refine go_iload_n rfl rfl ?_
  refine go_iconst rfl ?_
  refine go_iadd rfl (by unfold ab_iok; omega) ?_
  refine go_sld rfl rfl (by omega) (by omega) (by omega) ?_
  refine go_aload_n rfl rfl ?_
  refine go_iload_n rfl rfl ?_
  refine go_iconst rfl ?_
  refine go_iadd rfl (by unfold ab_iok; omega) ?_
  refine go_sld rfl rfl (by omega) (by omega) (by omega) ?_
  refine go_aload_n rfl rfl ?_
  refine go_iload_n rfl rfl ?_
  refine go_iconst rfl ?_
  refine go_iadd rfl (by unfold ab_iok; omega) ?_
  refine go_sld rfl rfl (by omega) (by omega) (by omega) ?_
  refine go_aload_n rfl rfl ?_
  refine go_iload_n rfl rfl ?_
  refine go_iconst rfl ?_
  refine go_iadd rfl (by unfold ab_iok; omega) ?_
  refine go_sld rfl rfl (by omega) (by omega) (by omega) ?_
  refine lw_c5I (M' := m_X7_copy) rfl l_L_134 k_X7_copy q1 rfl rfl rfl rfl (by decide) (Nat.le_of_ble_eq_true rfl) (fun z2 h2 q2 => ?_)
  obtain ⟨q2, I2⟩ := q2
  exact go_icmp_eq rfl (tgt := 1213) (by decide) (fun _ => K h2 I2) (fun n => absurd q2.symm n)
set_option maxHeartbeats 4000000 in
set_option maxRecDepth 100000 in
theorem lc_29 {g : ab_G} {Q : Option ab_V → ab_H → Prop} {i : Int} {h : ab_H} (hL : g.2.2.2.2.1 ≤ 3072) (hi : 0 ≤ i) (hj : i + 6 ≤ g.2.2.2.2.1) (I : Inv h) (K : ∀ h', Inv h' → Go g lw_E m_law Q 1213 [some (a_R 82), some (a_R 0), some (a_R 62), some (a_I i)] [] h') : Go g lw_E m_law Q 1133 [some (a_R 82), some (a_R 0), some (a_R 62), some (a_I i)] [] h := by
  refine go_aload_n rfl rfl ?_
  refine go_aload_n rfl rfl ?_
  refine go_iload_n rfl rfl ?_
  refine go_iconst rfl ?_
  refine go_iadd rfl (by unfold ab_iok; omega) ?_
  refine go_sld rfl rfl (by omega) (by omega) (by omega) ?_
  refine go_aload_n rfl rfl ?_
  refine go_iload_n rfl rfl ?_
  refine go_iconst rfl ?_
  refine go_iadd rfl (by unfold ab_iok; omega) ?_
  refine go_sld rfl rfl (by omega) (by omega) (by omega) ?_
  refine go_aload_n rfl rfl ?_
  refine go_iload_n rfl rfl ?_
  refine go_iconst rfl ?_
  refine go_iadd rfl (by unfold ab_iok; omega) ?_
  refine go_sld rfl rfl (by omega) (by omega) (by omega) ?_
  refine lw_c3I (M' := m_X6_write) rfl l_L_135 k_X6_write (op_write I) rfl rfl rfl rfl (by decide) (Nat.le_of_ble_eq_true rfl) (fun z1 h1 q1 => ?_)
  refine go_aload_n rfl rfl ?_
  refine go_aload_n rfl rfl ?_
  refine go_iload_n rfl rfl ?_
  refine go_iconst rfl ?_
  refine go_iadd rfl (by unfold ab_iok; omega) ?_
  refine go_sld rfl rfl (by omega) (by omega) (by omega) ?_
  refine go_aload_n rfl rfl ?_
  refine go_iload_n rfl rfl ?_
  refine go_iconst rfl ?_
  refine go_iadd rfl (by unfold ab_iok; omega) ?_
  refine go_sld rfl rfl (by omega) (by omega) (by omega) ?_
  refine go_aload_n rfl rfl ?_
  refine go_iload_n rfl rfl ?_
  refine go_iconst rfl ?_
  refine go_iadd rfl (by unfold ab_iok; omega) ?_
  refine go_sld rfl rfl (by omega) (by omega) (by omega) ?_
  refine lw_c3I (M' := m_X7_write) rfl l_L_138 k_X7_write q1 rfl rfl rfl rfl (by decide) (Nat.le_of_ble_eq_true rfl) (fun z2 h2 q2 => ?_)
  obtain ⟨q2, I2⟩ := q2
  exact go_icmp_eq rfl (tgt := 1213) (by decide) (fun _ => K h2 I2) (fun n => absurd q2.symm n)
set_option maxHeartbeats 4000000 in
set_option maxRecDepth 100000 in
theorem lc_30 {g : ab_G} {Q : Option ab_V → ab_H → Prop} {i : Int} {h : ab_H} (hL : g.2.2.2.2.1 ≤ 3072) (hi : 0 ≤ i) (hj : i + 6 ≤ g.2.2.2.2.1) (I : Inv h) (K : ∀ h', Inv h' → Go g lw_E m_law Q 1213 [some (a_R 82), some (a_R 0), some (a_R 62), some (a_I i)] [] h') : Go g lw_E m_law Q 1176 [some (a_R 82), some (a_R 0), some (a_R 62), some (a_I i)] [] h := by
  refine go_aload_n rfl rfl ?_
  refine go_aload_n rfl rfl ?_
  refine go_iload_n rfl rfl ?_
  refine go_iconst rfl ?_
  refine go_iadd rfl (by unfold ab_iok; omega) ?_
  refine go_sld rfl rfl (by omega) (by omega) (by omega) ?_
  refine lw_c1I (M' := m_X6_count) rfl l_L_139 k_X6_count (op_count I) rfl rfl rfl rfl (by decide) (Nat.le_of_ble_eq_true rfl) (fun z1 h1 q1 => ?_)
  refine go_aload_n rfl rfl ?_
  refine go_aload_n rfl rfl ?_
  refine go_iload_n rfl rfl ?_
  refine go_iconst rfl ?_
  refine go_iadd rfl (by unfold ab_iok; omega) ?_
  refine go_sld rfl rfl (by omega) (by omega) (by omega) ?_
  refine lw_c1I (M' := m_X7_count) rfl l_L_142 k_X7_count q1 rfl rfl rfl rfl (by decide) (Nat.le_of_ble_eq_true rfl) (fun z2 h2 q2 => ?_)
  obtain ⟨q2, I2⟩ := q2
  exact go_icmp_eq rfl (tgt := 1213) (by decide) (fun _ => K h2 I2) (fun n => absurd q2.symm n)
set_option maxHeartbeats 4000000 in
set_option maxRecDepth 100000 in
theorem lc_31 {g : ab_G} {Q : Option ab_V → ab_H → Prop} {i : Int} {h : ab_H} (hL : g.2.2.2.2.1 ≤ 3072) (hi : 0 ≤ i) (hj : i + 6 ≤ g.2.2.2.2.1) (I : Inv h) (K : ∀ h', Inv h' → Go g lw_E m_law Q 1213 [some (a_R 82), some (a_R 0), some (a_R 62), some (a_I i)] [] h') : Go g lw_E m_law Q 1199 [some (a_R 82), some (a_R 0), some (a_R 62), some (a_I i)] [] h := by
  refine go_aload_n rfl rfl ?_
  refine lw_c0L (M' := m_X6_digest) rfl l_L_143 k_X6_digest (op_digest I) rfl rfl rfl rfl (by decide) (Nat.le_of_ble_eq_true rfl) (fun z1 h1 q1 => ?_)
  refine go_aload_n rfl rfl ?_
  refine lw_c0L (M' := m_X7_digest) rfl l_L_147 k_X7_digest q1 rfl rfl rfl rfl (by decide) (Nat.le_of_ble_eq_true rfl) (fun z2 h2 q2 => ?_)
  obtain ⟨q2, I2⟩ := q2
  refine go_lcmp rfl ?_
  exact go_if_eq rfl (tgt := 1213) (by decide) (fun _ => K h2 I2) (fun n => absurd (by rw [q2]; unfold ab_lcmp; rw [if_neg (by omega), if_neg (by omega)]) n)
set_option maxHeartbeats 4000000 in
set_option maxRecDepth 100000 in
theorem law_loop {g : ab_G} {Q : Option ab_V → ab_H → Prop} (hL : g.2.2.2.2.1 ≤ 3072) (hq : ∀ h, Q (some (a_I 1)) h) : ∀ (f : Nat) (i : Int) (h : ab_H), 0 ≤ i → i ≤ g.2.2.2.2.1 → g.2.2.2.2.1 - i < f → Inv h → Go g lw_E m_law Q 18 [some (a_R 82), some (a_R 0), some (a_R 62), some (a_I i)] [] h := by
  intro f
  induction f with
  | zero => intro i h h0i h1i hf; omega
  | succ f ih =>
    intro i h h0i h1i hf I
    refine go_iload_n rfl rfl ?_
    refine go_aload_n rfl rfl ?_
    refine go_slen rfl rfl (by omega) ?_
    refine go_bipush rfl ?_
    refine go_isub rfl (by unfold ab_iok; omega) ?_
    refine go_icmp_gt rfl (tgt := 1219) (by decide) (fun c24 => ?_) (fun c24 => ?_)
    · refine go_iconst rfl ?_
      exact go_iret rfl (Or.inr ⟨rfl, by omega⟩) (hq h)
    · have KK : ∀ h', Inv h' → Go g lw_E m_law Q 1213 [some (a_R 82), some (a_R 0), some (a_R 62), some (a_I i)] [] h' := fun h' I' => by
        refine go_iinc rfl rfl (by decide) rfl (by unfold ab_iok; omega) ?_
        refine go_goto rfl (tgt := 18) (by decide) ?_
        exact ih (i + 6) h' (by omega) (by omega) (by omega) I'
      refine go_aload_n rfl rfl ?_
      refine go_iload_n rfl rfl ?_
      refine go_sld rfl rfl (by omega) (by omega) (by omega) ?_
      refine go_bipush rfl ?_
      refine go_iand rfl ?_
      have hw := lw_and (g.2.2.2.2.2 i.toNat).toInt
      revert hw
      generalize ab_iand (g.2.2.2.2.2 i.toNat).toInt 31 = w
      intro hw
      have hc : w = 0 ∨ w = 1 ∨ w = 2 ∨ w = 3 ∨ w = 4 ∨ w = 5 ∨ w = 6 ∨ w = 7 ∨ w = 8 ∨ w = 9 ∨ w = 10 ∨ w = 11 ∨ w = 12 ∨ w = 13 ∨ w = 14 ∨ w = 15 ∨ w = 16 ∨ w = 17 ∨ w = 18 ∨ w = 19 ∨ w = 20 ∨ w = 21 ∨ w = 22 ∨ w = 23 ∨ w = 24 ∨ w = 25 ∨ w = 26 ∨ w = 27 ∨ w = 28 ∨ w = 29 ∨ w = 30 ∨ w = 31 := by omega
      rcases hc with rfl | rfl | rfl | rfl | rfl | rfl | rfl | rfl | rfl | rfl | rfl | rfl | rfl | rfl | rfl | rfl | rfl | rfl | rfl | rfl | rfl | rfl | rfl | rfl | rfl | rfl | rfl | rfl | rfl | rfl | rfl | rfl
      · refine go_tableIn (off := 143) (tgt := 176) rfl (by decide) (by decide) rfl (by decide) ?_
        exact lc_0 hL h0i (by omega) I KK
      · refine go_tableIn (off := 166) (tgt := 199) rfl (by decide) (by decide) rfl (by decide) ?_
        exact lc_1 hL h0i (by omega) I KK
      · refine go_tableIn (off := 179) (tgt := 212) rfl (by decide) (by decide) rfl (by decide) ?_
        exact lc_2 hL h0i (by omega) I KK
      · refine go_tableIn (off := 192) (tgt := 225) rfl (by decide) (by decide) rfl (by decide) ?_
        exact lc_3 hL h0i (by omega) I KK
      · refine go_tableIn (off := 225) (tgt := 258) rfl (by decide) (by decide) rfl (by decide) ?_
        exact lc_4 hL h0i (by omega) I KK
      · refine go_tableIn (off := 248) (tgt := 281) rfl (by decide) (by decide) rfl (by decide) ?_
        exact lc_5 hL h0i (by omega) I KK
      · refine go_tableIn (off := 281) (tgt := 314) rfl (by decide) (by decide) rfl (by decide) ?_
        exact lc_6 hL h0i (by omega) I KK
      · refine go_tableIn (off := 324) (tgt := 357) rfl (by decide) (by decide) rfl (by decide) ?_
        exact lc_7 hL h0i (by omega) I KK
      · refine go_tableIn (off := 367) (tgt := 400) rfl (by decide) (by decide) rfl (by decide) ?_
        exact lc_8 hL h0i (by omega) I KK
      · refine go_tableIn (off := 410) (tgt := 443) rfl (by decide) (by decide) rfl (by decide) ?_
        exact lc_9 hL h0i (by omega) I KK
      · refine go_tableIn (off := 453) (tgt := 486) rfl (by decide) (by decide) rfl (by decide) ?_
        exact lc_10 hL h0i (by omega) I KK
      · refine go_tableIn (off := 476) (tgt := 509) rfl (by decide) (by decide) rfl (by decide) ?_
        exact lc_11 hL h0i (by omega) I KK
      · refine go_tableIn (off := 519) (tgt := 552) rfl (by decide) (by decide) rfl (by decide) ?_
        exact lc_12 hL h0i (by omega) I KK
      · refine go_tableIn (off := 552) (tgt := 585) rfl (by decide) (by decide) rfl (by decide) ?_
        exact lc_13 hL h0i (by omega) I KK
      · refine go_tableIn (off := 575) (tgt := 608) rfl (by decide) (by decide) rfl (by decide) ?_
        exact lc_14 hL h0i (by omega) I KK
      · refine go_tableIn (off := 588) (tgt := 621) rfl (by decide) (by decide) rfl (by decide) ?_
        exact lc_15 hL h0i (by omega) I KK
      · refine go_tableIn (off := 641) (tgt := 674) rfl (by decide) (by decide) rfl (by decide) ?_
        exact lc_16 hL h0i (by omega) I KK
      · refine go_tableIn (off := 684) (tgt := 717) rfl (by decide) (by decide) rfl (by decide) ?_
        exact lc_17 hL h0i (by omega) I KK
      · refine go_tableIn (off := 717) (tgt := 750) rfl (by decide) (by decide) rfl (by decide) ?_
        exact lc_18 hL h0i (by omega) I KK
      · refine go_tableIn (off := 750) (tgt := 783) rfl (by decide) (by decide) rfl (by decide) ?_
        exact lc_19 hL h0i (by omega) I KK
      · refine go_tableIn (off := 803) (tgt := 836) rfl (by decide) (by decide) rfl (by decide) ?_
        exact lc_20 hL h0i (by omega) I KK
      · refine go_tableIn (off := 826) (tgt := 859) rfl (by decide) (by decide) rfl (by decide) ?_
        exact lc_21 hL h0i (by omega) I KK
      · refine go_tableIn (off := 839) (tgt := 872) rfl (by decide) (by decide) rfl (by decide) ?_
        exact lc_22 hL h0i (by omega) I KK
      · refine go_tableIn (off := 852) (tgt := 885) rfl (by decide) (by decide) rfl (by decide) ?_
        exact lc_23 hL h0i (by omega) I KK
      · refine go_tableIn (off := 875) (tgt := 908) rfl (by decide) (by decide) rfl (by decide) ?_
        exact lc_24 hL h0i (by omega) I KK
      · refine go_tableIn (off := 918) (tgt := 951) rfl (by decide) (by decide) rfl (by decide) ?_
        exact lc_25 hL h0i (by omega) I KK
      · refine go_tableIn (off := 941) (tgt := 974) rfl (by decide) (by decide) rfl (by decide) ?_
        exact lc_26 hL h0i (by omega) I KK
      · refine go_tableIn (off := 994) (tgt := 1027) rfl (by decide) (by decide) rfl (by decide) ?_
        exact lc_27 hL h0i (by omega) I KK
      · refine go_tableIn (off := 1037) (tgt := 1070) rfl (by decide) (by decide) rfl (by decide) ?_
        exact lc_28 hL h0i (by omega) I KK
      · refine go_tableIn (off := 1100) (tgt := 1133) rfl (by decide) (by decide) rfl (by decide) ?_
        exact lc_29 hL h0i (by omega) I KK
      · refine go_tableIn (off := 1143) (tgt := 1176) rfl (by decide) (by decide) rfl (by decide) ?_
        exact lc_30 hL h0i (by omega) I KK
      · refine go_tableIn (off := 1166) (tgt := 1199) rfl (by decide) (by decide) rfl (by decide) ?_
        exact lc_31 hL h0i (by omega) I KK
