/-! calls by the number of their arguments; arraycopy; Math.min -/
section GOD
variable {g : ab_G} {E : ab_E} {M : ab_M} {Q : Option ab_V → ab_H → Prop} {pc : Nat} {ρ : List (Option ab_V)} {st : List ab_V} {h : ab_H}
theorem go_ldcw {idx : Nat} {v : Int32} {z : Int} (hi : ab_at M pc (.ldc_w idx) 3) (hw : Cond.constant M.1.cls idx v ∈ ab_tb) (K : Go g E M Q (pc + 3) ρ (a_I z :: st) h) (hz : v.toInt = z := by decide) : Go g E M Q pc ρ st h := by
  intro A p e s m args below meth c Qm C T H locs ls hP hD hS hl hok
  subst hz
  refine lv_ldcw C.1 C.2.1 C.2.2.2.2.2.1 (C.2.2.2.2.2.2.1 _ hw) (C.dec hi) ?_
  have := K A p e s m args below meth c Qm C T H locs ls hP hD hS hl (hok.cons (ab_okI v))
  simpa only [List.map_cons, ab_cv, Int32.ofInt_toInt] using this
theorem go_mmin {x y : Int} {idx : Nat} (hi : ab_at M pc (.invokestatic idx) 3) (hln : ab_LS M.1.cls idx Lib.Math.min.name) (hE : 1 ≤ E.1.frames ∧ ab_cats st + 13 ≤ E.1.locals ∧ E.2.1 ≤ E.1.cells ∧ E.2.2 ≤ E.1.slots) (hcode : Cond.code Lib.Math.min.name Lib.Math.min.code 2 (some .int) ∈ ab_tb) (hini : Cond.initialized "java/lang/Math" ∈ ab_tb) (hnn : ∀ host, Cond.methodLinkNest M.1.cls idx Lib.Math.min.name host ∉ ab_nw) (K : Go g E M Q (pc + 3) ρ (a_I (if y < x then y else x) :: st) h) : Go g E M Q pc ρ (a_I y :: a_I x :: st) h := by
  intro A p e s m args below meth c Qm C T H locs ls hP hD hS hl hok
  have hy : ab_iok y := hok.top
  have hx : ab_iok x := hok.tl.top
  have hts := C.2.2.2.2.2.2.1
  obtain ⟨h1, h2⟩ := hln
  have h1 : Cond.methodLink M.1.cls idx Lib.Math.min.name ∈ ab_tb := h1.elim id (fun ⟨host, q⟩ => absurd q (hnn host))
  refine va_mmin C.1 C.2.1 (C.2.2.1.trans hl.1.symm) C.2.2.2.2.2.1 (hts _ h1) (hts _ h2) (hts _ hini) (hts _ hcode) hE.1 (by rw [ab_cats_eq]; exact hE.2.1) hE.2.2.1 hE.2.2.2 (C.dec hi) ?_
  have KK := K A p e s m args below meth c Qm C T H locs ls hP hD hS hl (hok.tl.tl.cons (v := a_I (if y < x then y else x)) (by show ab_iok _; split; exact hy; exact hx))
  have e1 : (if Int32.ofInt y < Int32.ofInt x then Int32.ofInt y else Int32.ofInt x) = Int32.ofInt (if y < x then y else x) := by
    by_cases q : y < x
    · rw [if_pos q, if_pos ((ab_lt hy hx).mpr q)]
    · rw [if_neg q, if_neg (fun z => q ((ab_lt hy hx).mp z))]
  rw [e1]
  exact KK
/-- n numbers of row k0 from i0 on come to row k1 from i1 on, as they were -/
def ab_cp (h : ab_H) (k0 : Nat) (i0 : Int) (k1 : Nat) (i1 n : Int) : ab_H := fun a b => if a = k1 ∧ i1 ≤ b ∧ b < i1 + n then h k0 (i0 + (b - i1)) else h a b
theorem go_copyi {k0 k1 n0 n1 idx : Nat} {i0 i1 n : Int} (hi : ab_at M pc (.invokestatic idx) 3) (hw1 : Cond.methodLink M.1.cls idx arraycopyName ∈ ab_tb) (hw2 : Cond.native arraycopyName ∈ ab_tb) (hw3 : Cond.static arraycopyName ∈ ab_tb) (hw4 : Cond.initialized "java/lang/System" ∈ ab_tb) (hk0 : ab_kd k0 = some (.inr (0, n0))) (hk1 : ab_kd k1 = some (.inr (0, n1))) (g0 : 0 ≤ i0) (g1 : 0 ≤ i1) (g2 : 0 ≤ n) (g3 : i0 + n ≤ n0) (g4 : i1 + n ≤ n1) (hE : 1 ≤ E.1.frames ∧ ab_cats st + (nativeFrameWords "java/lang/System" "arraycopy" 5 + 11) ≤ E.1.locals) (K : Go g E M Q (pc + 3) ρ st (ab_cp h k0 i0 k1 i1 n)) : Go g E M Q pc ρ (a_I n :: a_I i1 :: a_R k1 :: a_I i0 :: a_R k0 :: st) h := by
  intro A p e s m args below meth c Qm C T H locs ls hP hD hS hl hok
  have hts := C.2.2.2.2.2.2.1
  have hws0 := ab_ws_at (g := g) (h := h) (ab_kd_lt hk0)
  rw [ab_ce_i hk0] at hws0
  have hws1 := ab_ws_at (g := g) (h := h) (ab_kd_lt hk1)
  rw [ab_ce_i hk1] at hws1
  have b0 := ab_kd_n hk0
  have b1 := ab_kd_n hk1
  have nn : ∀ z : Int, 0 ≤ z → z < 2147483648 → ¬ Int32.ofInt z < 0 ∧ (Int32.ofInt z).toNatClampNeg = z.toNat := by
    intro z z0 z1
    have hk : ab_iok z := by unfold ab_iok; omega
    refine ⟨fun q => ?_, ?_⟩
    · have : Int32.ofInt z < Int32.ofInt 0 := q
      rw [ab_lt hk ab_iok0] at this
      omega
    · show (Int32.ofInt z).toInt.toNat = _
      rw [ab_ti hk]
  obtain ⟨p0, q0⟩ := nn i0 g0 (by omega)
  obtain ⟨p1, q1⟩ := nn i1 g1 (by omega)
  obtain ⟨p2, q2⟩ := nn n g2 (by omega)
  refine va_copyi C.1 C.2.1 (C.2.2.1.trans hl.1.symm) C.2.2.2.2.2.1 (hts _ hw1) (hts _ hw2) (hts _ hw3) (hts _ hw4) C.2.2.2.2.2.2.2.2.1 hP hD hS k0 k1 0 0 hws0 hws1 rfl rfl rfl p0 p1 p2 (by rw [q0, q2]; omega) (by rw [q1, q2]; omega) (fun i hi => rfl) hE.1 (by rw [ab_cats_eq]; exact hE.2) (C.dec hi) (fun H1 locs1 hP1 hD1 hS1 => ?_)
  have e1 : va_cpy (fun j : Nat => Int32.ofInt (h k0 j)) (fun j : Nat => Int32.ofInt (h k1 j)) (Int32.ofInt i0).toNatClampNeg (Int32.ofInt i1).toNatClampNeg (Int32.ofInt n).toNatClampNeg = fun j : Nat => Int32.ofInt (ab_cp h k0 i0 k1 i1 n k1 j) := by
    rw [q0, q1, q2]
    funext j
    unfold va_cpy ab_cp
    by_cases q : i1.toNat ≤ j ∧ j < i1.toNat + n.toNat
    · rw [if_pos q, if_pos ⟨rfl, by omega, by omega⟩]
      have e2 : ((i0.toNat + (j - i1.toNat) : Nat) : Int) = i0 + ((j : Int) - i1) := by omega
      show Int32.ofInt (h k0 ((i0.toNat + (j - i1.toNat) : Nat) : Int)) = _
      rw [e2]
    · rw [if_neg q, if_neg (by rintro ⟨-, z1, z2⟩; exact q ⟨by omega, by omega⟩)]
  rw [e1, ← ab_ce_i (g := g) (h := ab_cp h k0 i0 k1 i1 n) hk1, ab_ws_set (h' := ab_cp h k0 i0 k1 i1 n) (ab_kd_lt hk1) (fun a ha b => if_neg (fun z => ha z.1))] at hP1 hD1
  refine K A p e s m args below meth c Qm C T H1 locs1 ls hP1 hD1 hS1 hl (hok.tl.tl.tl.tl.tl.hp ⟨fun a b => ?_, fun a b hn => ?_⟩) <;> unfold ab_cp <;> split
  · exact hok.1.1 _ _
  · exact hok.1.1 _ _
  · exact hok.1.2 _ _ (ab_nL_a hk0 (by decide))
  · exact hok.1.2 _ _ hn
end GOD
section GOE
variable {g : ab_G} {d' : Nat} {M : ab_M} {Q : Option ab_V → ab_H → Prop} {pc : Nat} {ρ : List (Option ab_V)} {st : List ab_V} {h : ab_H}
theorem go_cV0I {M' : ab_M} {d idx k ci : Nat} {C0 : String} {T0 : u_T} {N0 : Nat} {Q' : Int → ab_H → Prop} (hi : ab_at M pc (.invokevirtual idx) 3) (hln : ab_LV M.1.cls idx M'.1) (hM : ab_MOk M') (hm : MethI g d M' [a_R k] h Q') (hk : ab_kd k = some (.inl ci)) (hc : vwCl[ci]? = some (C0, T0, N0)) (hc2 : C0 = M'.1.cls) (hn : 0 = M'.2.2.2.2.1) (hd : d < d') (hcat : ab_cats st ≤ 8) (K : ∀ z h', Q' z h' → Go g (ab_rm d', 0, 0) M Q (pc + 3) ρ (a_I z :: st) h') : Go g (ab_rm d', 0, 0) M Q pc ρ (a_R k :: st) h :=
  go_callV (as := []) hi hln hM hk hc hc2 hn (ab_room_of hM hd) hcat hm (by rintro _ h2 ⟨z, rfl, q⟩; exact K z h2 q)
theorem go_cV0V {M' : ab_M} {d idx k ci : Nat} {C0 : String} {T0 : u_T} {N0 : Nat} {Q' : ab_H → Prop} (hi : ab_at M pc (.invokevirtual idx) 3) (hln : ab_LV M.1.cls idx M'.1) (hM : ab_MOk M') (hm : MethV g d M' [a_R k] h Q') (hk : ab_kd k = some (.inl ci)) (hc : vwCl[ci]? = some (C0, T0, N0)) (hc2 : C0 = M'.1.cls) (hn : 0 = M'.2.2.2.2.1) (hd : d < d') (hcat : ab_cats st ≤ 8) (K : ∀ h', Q' h' → Go g (ab_rm d', 0, 0) M Q (pc + 3) ρ st h') : Go g (ab_rm d', 0, 0) M Q pc ρ (a_R k :: st) h :=
  go_callV (as := []) hi hln hM hk hc hc2 hn (ab_room_of hM hd) hcat hm (by rintro _ h2 ⟨rfl, q⟩; exact K h2 q)
theorem go_cV1I {M' : ab_M} {d idx k ci : Nat} {C0 : String} {T0 : u_T} {N0 : Nat} {a1 : ab_V} {Q' : Int → ab_H → Prop} (hi : ab_at M pc (.invokevirtual idx) 3) (hln : ab_LV M.1.cls idx M'.1) (hM : ab_MOk M') (hm : MethI g d M' [a_R k, a1] h Q') (hk : ab_kd k = some (.inl ci)) (hc : vwCl[ci]? = some (C0, T0, N0)) (hc2 : C0 = M'.1.cls) (hn : 1 = M'.2.2.2.2.1) (hd : d < d') (hcat : ab_cats st ≤ 8) (K : ∀ z h', Q' z h' → Go g (ab_rm d', 0, 0) M Q (pc + 3) ρ (a_I z :: st) h') : Go g (ab_rm d', 0, 0) M Q pc ρ (a1 :: a_R k :: st) h :=
  go_callV (as := [a1]) hi hln hM hk hc hc2 hn (ab_room_of hM hd) hcat hm (by rintro _ h2 ⟨z, rfl, q⟩; exact K z h2 q)
theorem go_cS1I {M' : ab_M} {d idx : Nat} {a1 : ab_V} {Q' : Int → ab_H → Prop} (hi : ab_at M pc (.invokestatic idx) 3) (hln : ab_LS M.1.cls idx M'.1) (hM : ab_MOk M') (hm : MethI g d M' [a1] h Q') (hn : 1 = M'.2.2.2.2.1) (hd : d < d') (hcat : ab_cats st ≤ 8) (K : ∀ z h', Q' z h' → Go g (ab_rm d', 0, 0) M Q (pc + 3) ρ (a_I z :: st) h') : Go g (ab_rm d', 0, 0) M Q pc ρ (a1 :: st) h :=
  go_callS (as := [a1]) hi hln hM hn (ab_room_of hM hd) hcat hm (by rintro _ h2 ⟨z, rfl, q⟩; exact K z h2 q)
theorem go_cV1V {M' : ab_M} {d idx k ci : Nat} {C0 : String} {T0 : u_T} {N0 : Nat} {a1 : ab_V} {Q' : ab_H → Prop} (hi : ab_at M pc (.invokevirtual idx) 3) (hln : ab_LV M.1.cls idx M'.1) (hM : ab_MOk M') (hm : MethV g d M' [a_R k, a1] h Q') (hk : ab_kd k = some (.inl ci)) (hc : vwCl[ci]? = some (C0, T0, N0)) (hc2 : C0 = M'.1.cls) (hn : 1 = M'.2.2.2.2.1) (hd : d < d') (hcat : ab_cats st ≤ 8) (K : ∀ h', Q' h' → Go g (ab_rm d', 0, 0) M Q (pc + 3) ρ st h') : Go g (ab_rm d', 0, 0) M Q pc ρ (a1 :: a_R k :: st) h :=
  go_callV (as := [a1]) hi hln hM hk hc hc2 hn (ab_room_of hM hd) hcat hm (by rintro _ h2 ⟨rfl, q⟩; exact K h2 q)
theorem go_cS1V {M' : ab_M} {d idx : Nat} {a1 : ab_V} {Q' : ab_H → Prop} (hi : ab_at M pc (.invokestatic idx) 3) (hln : ab_LS M.1.cls idx M'.1) (hM : ab_MOk M') (hm : MethV g d M' [a1] h Q') (hn : 1 = M'.2.2.2.2.1) (hd : d < d') (hcat : ab_cats st ≤ 8) (K : ∀ h', Q' h' → Go g (ab_rm d', 0, 0) M Q (pc + 3) ρ st h') : Go g (ab_rm d', 0, 0) M Q pc ρ (a1 :: st) h :=
  go_callS (as := [a1]) hi hln hM hn (ab_room_of hM hd) hcat hm (by rintro _ h2 ⟨rfl, q⟩; exact K h2 q)
theorem go_cV2I {M' : ab_M} {d idx k ci : Nat} {C0 : String} {T0 : u_T} {N0 : Nat} {a1 a2 : ab_V} {Q' : Int → ab_H → Prop} (hi : ab_at M pc (.invokevirtual idx) 3) (hln : ab_LV M.1.cls idx M'.1) (hM : ab_MOk M') (hm : MethI g d M' [a_R k, a1, a2] h Q') (hk : ab_kd k = some (.inl ci)) (hc : vwCl[ci]? = some (C0, T0, N0)) (hc2 : C0 = M'.1.cls) (hn : 2 = M'.2.2.2.2.1) (hd : d < d') (hcat : ab_cats st ≤ 8) (K : ∀ z h', Q' z h' → Go g (ab_rm d', 0, 0) M Q (pc + 3) ρ (a_I z :: st) h') : Go g (ab_rm d', 0, 0) M Q pc ρ (a2 :: a1 :: a_R k :: st) h :=
  go_callV (as := [a1, a2]) hi hln hM hk hc hc2 hn (ab_room_of hM hd) hcat hm (by rintro _ h2 ⟨z, rfl, q⟩; exact K z h2 q)
theorem go_cS2I {M' : ab_M} {d idx : Nat} {a1 a2 : ab_V} {Q' : Int → ab_H → Prop} (hi : ab_at M pc (.invokestatic idx) 3) (hln : ab_LS M.1.cls idx M'.1) (hM : ab_MOk M') (hm : MethI g d M' [a1, a2] h Q') (hn : 2 = M'.2.2.2.2.1) (hd : d < d') (hcat : ab_cats st ≤ 8) (K : ∀ z h', Q' z h' → Go g (ab_rm d', 0, 0) M Q (pc + 3) ρ (a_I z :: st) h') : Go g (ab_rm d', 0, 0) M Q pc ρ (a2 :: a1 :: st) h :=
  go_callS (as := [a1, a2]) hi hln hM hn (ab_room_of hM hd) hcat hm (by rintro _ h2 ⟨z, rfl, q⟩; exact K z h2 q)
theorem go_cV2V {M' : ab_M} {d idx k ci : Nat} {C0 : String} {T0 : u_T} {N0 : Nat} {a1 a2 : ab_V} {Q' : ab_H → Prop} (hi : ab_at M pc (.invokevirtual idx) 3) (hln : ab_LV M.1.cls idx M'.1) (hM : ab_MOk M') (hm : MethV g d M' [a_R k, a1, a2] h Q') (hk : ab_kd k = some (.inl ci)) (hc : vwCl[ci]? = some (C0, T0, N0)) (hc2 : C0 = M'.1.cls) (hn : 2 = M'.2.2.2.2.1) (hd : d < d') (hcat : ab_cats st ≤ 8) (K : ∀ h', Q' h' → Go g (ab_rm d', 0, 0) M Q (pc + 3) ρ st h') : Go g (ab_rm d', 0, 0) M Q pc ρ (a2 :: a1 :: a_R k :: st) h :=
  go_callV (as := [a1, a2]) hi hln hM hk hc hc2 hn (ab_room_of hM hd) hcat hm (by rintro _ h2 ⟨rfl, q⟩; exact K h2 q)
theorem go_cS2V {M' : ab_M} {d idx : Nat} {a1 a2 : ab_V} {Q' : ab_H → Prop} (hi : ab_at M pc (.invokestatic idx) 3) (hln : ab_LS M.1.cls idx M'.1) (hM : ab_MOk M') (hm : MethV g d M' [a1, a2] h Q') (hn : 2 = M'.2.2.2.2.1) (hd : d < d') (hcat : ab_cats st ≤ 8) (K : ∀ h', Q' h' → Go g (ab_rm d', 0, 0) M Q (pc + 3) ρ st h') : Go g (ab_rm d', 0, 0) M Q pc ρ (a2 :: a1 :: st) h :=
  go_callS (as := [a1, a2]) hi hln hM hn (ab_room_of hM hd) hcat hm (by rintro _ h2 ⟨rfl, q⟩; exact K h2 q)
theorem go_cV3I {M' : ab_M} {d idx k ci : Nat} {C0 : String} {T0 : u_T} {N0 : Nat} {a1 a2 a3 : ab_V} {Q' : Int → ab_H → Prop} (hi : ab_at M pc (.invokevirtual idx) 3) (hln : ab_LV M.1.cls idx M'.1) (hM : ab_MOk M') (hm : MethI g d M' [a_R k, a1, a2, a3] h Q') (hk : ab_kd k = some (.inl ci)) (hc : vwCl[ci]? = some (C0, T0, N0)) (hc2 : C0 = M'.1.cls) (hn : 3 = M'.2.2.2.2.1) (hd : d < d') (hcat : ab_cats st ≤ 8) (K : ∀ z h', Q' z h' → Go g (ab_rm d', 0, 0) M Q (pc + 3) ρ (a_I z :: st) h') : Go g (ab_rm d', 0, 0) M Q pc ρ (a3 :: a2 :: a1 :: a_R k :: st) h :=
  go_callV (as := [a1, a2, a3]) hi hln hM hk hc hc2 hn (ab_room_of hM hd) hcat hm (by rintro _ h2 ⟨z, rfl, q⟩; exact K z h2 q)
theorem go_cS3I {M' : ab_M} {d idx : Nat} {a1 a2 a3 : ab_V} {Q' : Int → ab_H → Prop} (hi : ab_at M pc (.invokestatic idx) 3) (hln : ab_LS M.1.cls idx M'.1) (hM : ab_MOk M') (hm : MethI g d M' [a1, a2, a3] h Q') (hn : 3 = M'.2.2.2.2.1) (hd : d < d') (hcat : ab_cats st ≤ 8) (K : ∀ z h', Q' z h' → Go g (ab_rm d', 0, 0) M Q (pc + 3) ρ (a_I z :: st) h') : Go g (ab_rm d', 0, 0) M Q pc ρ (a3 :: a2 :: a1 :: st) h :=
  go_callS (as := [a1, a2, a3]) hi hln hM hn (ab_room_of hM hd) hcat hm (by rintro _ h2 ⟨z, rfl, q⟩; exact K z h2 q)
theorem go_cV3V {M' : ab_M} {d idx k ci : Nat} {C0 : String} {T0 : u_T} {N0 : Nat} {a1 a2 a3 : ab_V} {Q' : ab_H → Prop} (hi : ab_at M pc (.invokevirtual idx) 3) (hln : ab_LV M.1.cls idx M'.1) (hM : ab_MOk M') (hm : MethV g d M' [a_R k, a1, a2, a3] h Q') (hk : ab_kd k = some (.inl ci)) (hc : vwCl[ci]? = some (C0, T0, N0)) (hc2 : C0 = M'.1.cls) (hn : 3 = M'.2.2.2.2.1) (hd : d < d') (hcat : ab_cats st ≤ 8) (K : ∀ h', Q' h' → Go g (ab_rm d', 0, 0) M Q (pc + 3) ρ st h') : Go g (ab_rm d', 0, 0) M Q pc ρ (a3 :: a2 :: a1 :: a_R k :: st) h :=
  go_callV (as := [a1, a2, a3]) hi hln hM hk hc hc2 hn (ab_room_of hM hd) hcat hm (by rintro _ h2 ⟨rfl, q⟩; exact K h2 q)
theorem go_cS3V {M' : ab_M} {d idx : Nat} {a1 a2 a3 : ab_V} {Q' : ab_H → Prop} (hi : ab_at M pc (.invokestatic idx) 3) (hln : ab_LS M.1.cls idx M'.1) (hM : ab_MOk M') (hm : MethV g d M' [a1, a2, a3] h Q') (hn : 3 = M'.2.2.2.2.1) (hd : d < d') (hcat : ab_cats st ≤ 8) (K : ∀ h', Q' h' → Go g (ab_rm d', 0, 0) M Q (pc + 3) ρ st h') : Go g (ab_rm d', 0, 0) M Q pc ρ (a3 :: a2 :: a1 :: st) h :=
  go_callS (as := [a1, a2, a3]) hi hln hM hn (ab_room_of hM hd) hcat hm (by rintro _ h2 ⟨rfl, q⟩; exact K h2 q)
theorem go_cV4I {M' : ab_M} {d idx k ci : Nat} {C0 : String} {T0 : u_T} {N0 : Nat} {a1 a2 a3 a4 : ab_V} {Q' : Int → ab_H → Prop} (hi : ab_at M pc (.invokevirtual idx) 3) (hln : ab_LV M.1.cls idx M'.1) (hM : ab_MOk M') (hm : MethI g d M' [a_R k, a1, a2, a3, a4] h Q') (hk : ab_kd k = some (.inl ci)) (hc : vwCl[ci]? = some (C0, T0, N0)) (hc2 : C0 = M'.1.cls) (hn : 4 = M'.2.2.2.2.1) (hd : d < d') (hcat : ab_cats st ≤ 8) (K : ∀ z h', Q' z h' → Go g (ab_rm d', 0, 0) M Q (pc + 3) ρ (a_I z :: st) h') : Go g (ab_rm d', 0, 0) M Q pc ρ (a4 :: a3 :: a2 :: a1 :: a_R k :: st) h :=
  go_callV (as := [a1, a2, a3, a4]) hi hln hM hk hc hc2 hn (ab_room_of hM hd) hcat hm (by rintro _ h2 ⟨z, rfl, q⟩; exact K z h2 q)
theorem go_cV4V {M' : ab_M} {d idx k ci : Nat} {C0 : String} {T0 : u_T} {N0 : Nat} {a1 a2 a3 a4 : ab_V} {Q' : ab_H → Prop} (hi : ab_at M pc (.invokevirtual idx) 3) (hln : ab_LV M.1.cls idx M'.1) (hM : ab_MOk M') (hm : MethV g d M' [a_R k, a1, a2, a3, a4] h Q') (hk : ab_kd k = some (.inl ci)) (hc : vwCl[ci]? = some (C0, T0, N0)) (hc2 : C0 = M'.1.cls) (hn : 4 = M'.2.2.2.2.1) (hd : d < d') (hcat : ab_cats st ≤ 8) (K : ∀ h', Q' h' → Go g (ab_rm d', 0, 0) M Q (pc + 3) ρ st h') : Go g (ab_rm d', 0, 0) M Q pc ρ (a4 :: a3 :: a2 :: a1 :: a_R k :: st) h :=
  go_callV (as := [a1, a2, a3, a4]) hi hln hM hk hc hc2 hn (ab_room_of hM hd) hcat hm (by rintro _ h2 ⟨rfl, q⟩; exact K h2 q)
theorem go_cV5I {M' : ab_M} {d idx k ci : Nat} {C0 : String} {T0 : u_T} {N0 : Nat} {a1 a2 a3 a4 a5 : ab_V} {Q' : Int → ab_H → Prop} (hi : ab_at M pc (.invokevirtual idx) 3) (hln : ab_LV M.1.cls idx M'.1) (hM : ab_MOk M') (hm : MethI g d M' [a_R k, a1, a2, a3, a4, a5] h Q') (hk : ab_kd k = some (.inl ci)) (hc : vwCl[ci]? = some (C0, T0, N0)) (hc2 : C0 = M'.1.cls) (hn : 5 = M'.2.2.2.2.1) (hd : d < d') (hcat : ab_cats st ≤ 8) (K : ∀ z h', Q' z h' → Go g (ab_rm d', 0, 0) M Q (pc + 3) ρ (a_I z :: st) h') : Go g (ab_rm d', 0, 0) M Q pc ρ (a5 :: a4 :: a3 :: a2 :: a1 :: a_R k :: st) h :=
  go_callV (as := [a1, a2, a3, a4, a5]) hi hln hM hk hc hc2 hn (ab_room_of hM hd) hcat hm (by rintro _ h2 ⟨z, rfl, q⟩; exact K z h2 q)
theorem go_cV5V {M' : ab_M} {d idx k ci : Nat} {C0 : String} {T0 : u_T} {N0 : Nat} {a1 a2 a3 a4 a5 : ab_V} {Q' : ab_H → Prop} (hi : ab_at M pc (.invokevirtual idx) 3) (hln : ab_LV M.1.cls idx M'.1) (hM : ab_MOk M') (hm : MethV g d M' [a_R k, a1, a2, a3, a4, a5] h Q') (hk : ab_kd k = some (.inl ci)) (hc : vwCl[ci]? = some (C0, T0, N0)) (hc2 : C0 = M'.1.cls) (hn : 5 = M'.2.2.2.2.1) (hd : d < d') (hcat : ab_cats st ≤ 8) (K : ∀ h', Q' h' → Go g (ab_rm d', 0, 0) M Q (pc + 3) ρ st h') : Go g (ab_rm d', 0, 0) M Q pc ρ (a5 :: a4 :: a3 :: a2 :: a1 :: a_R k :: st) h :=
  go_callV (as := [a1, a2, a3, a4, a5]) hi hln hM hk hc hc2 hn (ab_room_of hM hd) hcat hm (by rintro _ h2 ⟨rfl, q⟩; exact K h2 q)
end GOE
