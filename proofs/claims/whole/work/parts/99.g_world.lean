/-! the world behind both constructors is the abstract one -/
def h00 : ab_H := fun k b => if k = 0 then (if b = 6 then 1 else 0) else if k = 1 then (if b = 7 then 1 else 0) else if k = 10 then (if b = 9 then 2 else 0) else if k = 33 then -1 else if k = 63 then -1 else 0
theorem h00_rng (k : Nat) (b : Int) : -1 ≤ h00 k b ∧ h00 k b ≤ 2 := by
  unfold h00
  repeat' split
  all_goals omega
theorem h00_ok : ab_okH h00 := ⟨fun k i => by have := h00_rng k i; unfold ab_lok; omega, fun k i _ => by have := h00_rng k i; unfold ab_iok; omega⟩
theorem h00_inv : Inv h00 := by
  have nf : ¬ rd_fig (h00 2) 0 0 := by unfold rd_fig; omega
  have w : rd_wr (h00 2) 0 0 1 40 = 0 := by unfold rd_wr; rw [if_neg nf]
  have c0 : (rd_C (h00 2) 0).1 = 0 := by unfold rd_C ps_all; rw [w, if_pos (by decide)]
  refine ⟨⟨by decide, rfl, fun i i0 i1 => ?_⟩, ⟨?_, fun z => ?_, fun _ => ⟨rfl, rfl, rfl⟩⟩, ⟨⟨by decide, by decide, rfl, rfl⟩, fun i i0 i1 => ⟨⟨?_, ?_⟩, rfl, rfl⟩⟩, ⟨by decide, rfl, fun l l0 l1 => ?_⟩, fun s s0 s1 => Or.inl ⟨rfl, rfl⟩, rfl, fun z => ?_⟩
  · exact absurd (show i < (0 : Int) from i1) (by omega)
  · exact c0.symm
  · exact absurd (c0.symm.trans z) (by decide)
  · show 0 ≤ (0 : Int) ∧ (0 : Int) ≤ 99
    omega
  · show 0 ≤ (0 : Int) ∧ (0 : Int) ≤ 99
    omega
  · exact absurd (show l < (0 : Int) from l1) (by omega)
  · exact absurd (show (1 : Int) = 0 from z) (by decide)
theorem arrV_c {c : ClassId} {n : Nat} {F F' : Nat → Value} (e : ∀ j, j < n → F j = F' j) : arrV c n F = arrV c n F' := by
  have : (fun j : Fin n => F j.val) = fun j : Fin n => F' j.val := funext fun j => e j.val j.isLt
  unfold arrV
  rw [this]
theorem wz_i {D : va_G} {cl : List vw_C} {q n : Nat} {c : ClassId} {f f' : Nat → Int32} {H : Heap} (h : va_at D cl (q, .inl (c, n, .inl f)) H) (e : ∀ j, j < n → f j = f' j) : va_at D cl (q, .inl (c, n, .inl f')) H := by
  have h : H[q]? = some (arrV c n (fun j => .int (f j))) := h
  show H[q]? = some (arrV c n (fun j => .int (f' j)))
  rw [h, arrV_c (fun j hj => by rw [e j hj])]
theorem wz_l {D : va_G} {cl : List vw_C} {q n : Nat} {c : ClassId} {f f' : Nat → Int64} {H : Heap} (h : va_at D cl (q, .inl (c, n, .inr (.inl f))) H) (e : ∀ j, j < n → f j = f' j) : va_at D cl (q, .inl (c, n, .inr (.inl f'))) H := by
  have h : H[q]? = some (arrV c n (fun j => .long (f j))) := h
  show H[q]? = some (arrV c n (fun j => .long (f' j)))
  rw [h, arrV_c (fun j hj => by rw [e j hj])]
theorem wz_r {D : va_G} {cl : List vw_C} {q n : Nat} {c : ClassId} {f f' : Nat → Option Nat} {H : Heap} (h : va_at D cl (q, .inl (c, n, .inr (.inr (.inr (.inr f))))) H) (e : ∀ j, j < n → f j = f' j) : va_at D cl (q, .inl (c, n, .inr (.inr (.inr (.inr f'))))) H := by
  have h : H[q]? = some (arrV c n (fun j => va_rf (f j))) := h
  show H[q]? = some (arrV c n (fun j => va_rf (f' j)))
  rw [h, arrV_c (fun j hj => by rw [e j hj])]
theorem wz_0 {k : Nat} (hz : ∀ j, h00 k j = 0) : ∀ (n j : Nat), j < n → (0 : Int32) = Int32.ofInt (h00 k j) := fun n j _ => by rw [hz]; rfl
def lw_adr (b q0 q8 : Nat) (u6 u7 : Nat → Nat) : Nat → Nat := fun k => [q0, (u6 0), ((u6 1)), ((u6 2)), ((u6 3)), ((u6 4)), ((u6 5)), (u6 6), ((u6 7)), ((u6 8)), (u6 9), ((u6 10)), ((u6 11)), ((u6 12)), ((u6 13)), ((u6 14)), ((u6 15)), ((u6 16)), (u6 17), ((u6 18)), ((u6 19)), ((u6 20)), ((u6 21)), ((u6 22)), (u6 23), ((u6 24)), ((u6 25)), ((u6 26)), ((u6 27)), ((u6 28)), (u6 29), ((u6 30)), ((u6 31)), ((u6 32)), ((u6 18)) + 1 + 0, ((u6 18)) + 1 + 1, ((u6 18)) + 1 + 2, ((u6 18)) + 1 + 3, ((u6 18)) + 1 + 4, ((u6 18)) + 1 + 5, ((u6 19)) + 1 + 0, ((u6 19)) + 1 + 1, ((u6 19)) + 1 + 2, ((u6 19)) + 1 + 3, ((u6 19)) + 1 + 4, ((u6 19)) + 1 + 5, ((u6 20)) + 1 + 0, ((u6 20)) + 1 + 1, ((u6 20)) + 1 + 2, ((u6 20)) + 1 + 3, ((u6 20)) + 1 + 4, ((u6 20)) + 1 + 5, ((u6 21)) + 1 + 0, ((u6 21)) + 1 + 1, ((u6 21)) + 1 + 2, ((u6 21)) + 1 + 3, ((u6 21)) + 1 + 4, ((u6 21)) + 1 + 5, ((u6 30)) + 1 + 0, ((u6 30)) + 1 + 1, ((u6 30)) + 1 + 2, ((u6 30)) + 1 + 3, q8, (u7 0), (u7 1), (u7 2), (u7 3), (u7 4), (u7 5), (u7 6), (u7 7), (u7 8), (u7 9), (u7 10), (u7 11), (u7 12), (u7 13), (u7 14), (u7 15), (u7 16), (u7 17), (u7 18), b].getD k 0
def lw_g (l : Launch) (D : va_G) (tc : Nat → ClassId) (L : Nat) (xs : Nat → Int32) (b q0 q8 : Nat) (u6 u7 : Nat → Nat) : ab_G := (l, lw_adr b q0 q8 u6 u7, D, tc, (L, xs))
abbrev lw_ws (tc : Nat → ClassId) (q0 q8 : Nat) (u6 u7 : Nat → Nat) : va_W := W_X6 tc q0 u6 ++ W_X7 tc q8 u7
set_option maxHeartbeats 4000000 in
set_option maxRecDepth 100000 in
theorem wz_c0 {l : Launch} {D : va_G} {tc : Nat → ClassId} {L : Nat} {xs : Nat → Int32} {b q0 q8 : Nat} {u6 u7 : Nat → Nat} {H : Heap} (hP : va_P D vwCl (lw_ws tc q0 q8 u6 u7) H) : va_at D vwCl (lw_adr b q0 q8 u6 u7 0, ab_ce (lw_g l D tc L xs b q0 q8 u6 u7) h00 0) H := by
  rw [ab_ce_o (ci := 6) rfl]
  exact hP 0 _ rfl
set_option maxHeartbeats 4000000 in
set_option maxRecDepth 100000 in
theorem wz_c1 {l : Launch} {D : va_G} {tc : Nat → ClassId} {L : Nat} {xs : Nat → Int32} {b q0 q8 : Nat} {u6 u7 : Nat → Nat} {H : Heap} (hP : va_P D vwCl (lw_ws tc q0 q8 u6 u7) H) : va_at D vwCl (lw_adr b q0 q8 u6 u7 1, ab_ce (lw_g l D tc L xs b q0 q8 u6 u7) h00 1) H := by
  rw [ab_ce_o (ci := 2) rfl]
  exact hP 1 _ rfl
set_option maxHeartbeats 4000000 in
set_option maxRecDepth 100000 in
theorem wz_c2 {l : Launch} {D : va_G} {tc : Nat → ClassId} {L : Nat} {xs : Nat → Int32} {b q0 q8 : Nat} {u6 u7 : Nat → Nat} {H : Heap} (hP : va_P D vwCl (lw_ws tc q0 q8 u6 u7) H) : va_at D vwCl (lw_adr b q0 q8 u6 u7 2, ab_ce (lw_g l D tc L xs b q0 q8 u6 u7) h00 2) H := by
  rw [ab_ce_i (n := 80) rfl]
  exact wz_i (hP 2 _ rfl) (wz_0 (fun _ => rfl) _)
set_option maxHeartbeats 4000000 in
set_option maxRecDepth 100000 in
theorem wz_c3 {l : Launch} {D : va_G} {tc : Nat → ClassId} {L : Nat} {xs : Nat → Int32} {b q0 q8 : Nat} {u6 u7 : Nat → Nat} {H : Heap} (hP : va_P D vwCl (lw_ws tc q0 q8 u6 u7) H) : va_at D vwCl (lw_adr b q0 q8 u6 u7 3, ab_ce (lw_g l D tc L xs b q0 q8 u6 u7) h00 3) H := by
  rw [ab_ce_i (n := 6) rfl]
  exact wz_i (hP 3 _ rfl) (wz_0 (fun _ => rfl) _)
set_option maxHeartbeats 4000000 in
set_option maxRecDepth 100000 in
theorem wz_c4 {l : Launch} {D : va_G} {tc : Nat → ClassId} {L : Nat} {xs : Nat → Int32} {b q0 q8 : Nat} {u6 u7 : Nat → Nat} {H : Heap} (hP : va_P D vwCl (lw_ws tc q0 q8 u6 u7) H) : va_at D vwCl (lw_adr b q0 q8 u6 u7 4, ab_ce (lw_g l D tc L xs b q0 q8 u6 u7) h00 4) H := by
  rw [ab_ce_i (n := 6) rfl]
  exact wz_i (hP 4 _ rfl) (wz_0 (fun _ => rfl) _)
set_option maxHeartbeats 4000000 in
set_option maxRecDepth 100000 in
theorem wz_c5 {l : Launch} {D : va_G} {tc : Nat → ClassId} {L : Nat} {xs : Nat → Int32} {b q0 q8 : Nat} {u6 u7 : Nat → Nat} {H : Heap} (hP : va_P D vwCl (lw_ws tc q0 q8 u6 u7) H) : va_at D vwCl (lw_adr b q0 q8 u6 u7 5, ab_ce (lw_g l D tc L xs b q0 q8 u6 u7) h00 5) H := by
  rw [ab_ce_i (n := 6) rfl]
  exact wz_i (hP 5 _ rfl) (wz_0 (fun _ => rfl) _)
set_option maxHeartbeats 4000000 in
set_option maxRecDepth 100000 in
theorem wz_c6 {l : Launch} {D : va_G} {tc : Nat → ClassId} {L : Nat} {xs : Nat → Int32} {b q0 q8 : Nat} {u6 u7 : Nat → Nat} {H : Heap} (hP : va_P D vwCl (lw_ws tc q0 q8 u6 u7) H) : va_at D vwCl (lw_adr b q0 q8 u6 u7 6, ab_ce (lw_g l D tc L xs b q0 q8 u6 u7) h00 6) H := by
  rw [ab_ce_i (n := 6) rfl]
  exact wz_i (hP 6 _ rfl) (wz_0 (fun _ => rfl) _)
set_option maxHeartbeats 4000000 in
set_option maxRecDepth 100000 in
theorem wz_c7 {l : Launch} {D : va_G} {tc : Nat → ClassId} {L : Nat} {xs : Nat → Int32} {b q0 q8 : Nat} {u6 u7 : Nat → Nat} {H : Heap} (hP : va_P D vwCl (lw_ws tc q0 q8 u6 u7) H) : va_at D vwCl (lw_adr b q0 q8 u6 u7 7, ab_ce (lw_g l D tc L xs b q0 q8 u6 u7) h00 7) H := by
  rw [ab_ce_o (ci := 4) rfl]
  exact hP 7 _ rfl
set_option maxHeartbeats 4000000 in
set_option maxRecDepth 100000 in
theorem wz_c8 {l : Launch} {D : va_G} {tc : Nat → ClassId} {L : Nat} {xs : Nat → Int32} {b q0 q8 : Nat} {u6 u7 : Nat → Nat} {H : Heap} (hP : va_P D vwCl (lw_ws tc q0 q8 u6 u7) H) : va_at D vwCl (lw_adr b q0 q8 u6 u7 8, ab_ce (lw_g l D tc L xs b q0 q8 u6 u7) h00 8) H := by
  rw [ab_ce_i (n := 6) rfl]
  exact wz_i (hP 8 _ rfl) (wz_0 (fun _ => rfl) _)
set_option maxHeartbeats 4000000 in
set_option maxRecDepth 100000 in
theorem wz_c9 {l : Launch} {D : va_G} {tc : Nat → ClassId} {L : Nat} {xs : Nat → Int32} {b q0 q8 : Nat} {u6 u7 : Nat → Nat} {H : Heap} (hP : va_P D vwCl (lw_ws tc q0 q8 u6 u7) H) : va_at D vwCl (lw_adr b q0 q8 u6 u7 9, ab_ce (lw_g l D tc L xs b q0 q8 u6 u7) h00 9) H := by
  rw [ab_ce_i (n := 6) rfl]
  exact wz_i (hP 9 _ rfl) (wz_0 (fun _ => rfl) _)
set_option maxHeartbeats 4000000 in
set_option maxRecDepth 100000 in
theorem wz_c10 {l : Launch} {D : va_G} {tc : Nat → ClassId} {L : Nat} {xs : Nat → Int32} {b q0 q8 : Nat} {u6 u7 : Nat → Nat} {H : Heap} (hP : va_P D vwCl (lw_ws tc q0 q8 u6 u7) H) : va_at D vwCl (lw_adr b q0 q8 u6 u7 10, ab_ce (lw_g l D tc L xs b q0 q8 u6 u7) h00 10) H := by
  rw [ab_ce_o (ci := 5) rfl]
  exact hP 10 _ rfl
set_option maxHeartbeats 4000000 in
set_option maxRecDepth 100000 in
theorem wz_c11 {l : Launch} {D : va_G} {tc : Nat → ClassId} {L : Nat} {xs : Nat → Int32} {b q0 q8 : Nat} {u6 u7 : Nat → Nat} {H : Heap} (hP : va_P D vwCl (lw_ws tc q0 q8 u6 u7) H) : va_at D vwCl (lw_adr b q0 q8 u6 u7 11, ab_ce (lw_g l D tc L xs b q0 q8 u6 u7) h00 11) H := by
  rw [ab_ce_i (n := 6) rfl]
  exact wz_i (hP 11 _ rfl) (wz_0 (fun _ => rfl) _)
set_option maxHeartbeats 4000000 in
set_option maxRecDepth 100000 in
theorem wz_c12 {l : Launch} {D : va_G} {tc : Nat → ClassId} {L : Nat} {xs : Nat → Int32} {b q0 q8 : Nat} {u6 u7 : Nat → Nat} {H : Heap} (hP : va_P D vwCl (lw_ws tc q0 q8 u6 u7) H) : va_at D vwCl (lw_adr b q0 q8 u6 u7 12, ab_ce (lw_g l D tc L xs b q0 q8 u6 u7) h00 12) H := by
  rw [ab_ce_i (n := 6) rfl]
  exact wz_i (hP 12 _ rfl) (wz_0 (fun _ => rfl) _)
set_option maxHeartbeats 4000000 in
set_option maxRecDepth 100000 in
theorem wz_c13 {l : Launch} {D : va_G} {tc : Nat → ClassId} {L : Nat} {xs : Nat → Int32} {b q0 q8 : Nat} {u6 u7 : Nat → Nat} {H : Heap} (hP : va_P D vwCl (lw_ws tc q0 q8 u6 u7) H) : va_at D vwCl (lw_adr b q0 q8 u6 u7 13, ab_ce (lw_g l D tc L xs b q0 q8 u6 u7) h00 13) H := by
  rw [ab_ce_i (n := 6) rfl]
  exact wz_i (hP 13 _ rfl) (wz_0 (fun _ => rfl) _)
set_option maxHeartbeats 4000000 in
set_option maxRecDepth 100000 in
theorem wz_c14 {l : Launch} {D : va_G} {tc : Nat → ClassId} {L : Nat} {xs : Nat → Int32} {b q0 q8 : Nat} {u6 u7 : Nat → Nat} {H : Heap} (hP : va_P D vwCl (lw_ws tc q0 q8 u6 u7) H) : va_at D vwCl (lw_adr b q0 q8 u6 u7 14, ab_ce (lw_g l D tc L xs b q0 q8 u6 u7) h00 14) H := by
  rw [ab_ce_i (n := 6) rfl]
  exact wz_i (hP 14 _ rfl) (wz_0 (fun _ => rfl) _)
set_option maxHeartbeats 4000000 in
set_option maxRecDepth 100000 in
theorem wz_c15 {l : Launch} {D : va_G} {tc : Nat → ClassId} {L : Nat} {xs : Nat → Int32} {b q0 q8 : Nat} {u6 u7 : Nat → Nat} {H : Heap} (hP : va_P D vwCl (lw_ws tc q0 q8 u6 u7) H) : va_at D vwCl (lw_adr b q0 q8 u6 u7 15, ab_ce (lw_g l D tc L xs b q0 q8 u6 u7) h00 15) H := by
  rw [ab_ce_i (n := 6) rfl]
  exact wz_i (hP 15 _ rfl) (wz_0 (fun _ => rfl) _)
set_option maxHeartbeats 4000000 in
set_option maxRecDepth 100000 in
theorem wz_c16 {l : Launch} {D : va_G} {tc : Nat → ClassId} {L : Nat} {xs : Nat → Int32} {b q0 q8 : Nat} {u6 u7 : Nat → Nat} {H : Heap} (hP : va_P D vwCl (lw_ws tc q0 q8 u6 u7) H) : va_at D vwCl (lw_adr b q0 q8 u6 u7 16, ab_ce (lw_g l D tc L xs b q0 q8 u6 u7) h00 16) H := by
  rw [ab_ce_i (n := 6) rfl]
  exact wz_i (hP 16 _ rfl) (wz_0 (fun _ => rfl) _)
set_option maxHeartbeats 4000000 in
set_option maxRecDepth 100000 in
theorem wz_c17 {l : Launch} {D : va_G} {tc : Nat → ClassId} {L : Nat} {xs : Nat → Int32} {b q0 q8 : Nat} {u6 u7 : Nat → Nat} {H : Heap} (hP : va_P D vwCl (lw_ws tc q0 q8 u6 u7) H) : va_at D vwCl (lw_adr b q0 q8 u6 u7 17, ab_ce (lw_g l D tc L xs b q0 q8 u6 u7) h00 17) H := by
  rw [ab_ce_i (n := 6) rfl]
  exact wz_i (hP 17 _ rfl) (wz_0 (fun _ => rfl) _)
set_option maxHeartbeats 4000000 in
set_option maxRecDepth 100000 in
theorem wz_c18 {l : Launch} {D : va_G} {tc : Nat → ClassId} {L : Nat} {xs : Nat → Int32} {b q0 q8 : Nat} {u6 u7 : Nat → Nat} {H : Heap} (hP : va_P D vwCl (lw_ws tc q0 q8 u6 u7) H) : va_at D vwCl (lw_adr b q0 q8 u6 u7 18, ab_ce (lw_g l D tc L xs b q0 q8 u6 u7) h00 18) H := by
  rw [ab_ce_o (ci := 0) rfl]
  exact hP 18 _ rfl
set_option maxHeartbeats 4000000 in
set_option maxRecDepth 100000 in
theorem wz_c19 {l : Launch} {D : va_G} {tc : Nat → ClassId} {L : Nat} {xs : Nat → Int32} {b q0 q8 : Nat} {u6 u7 : Nat → Nat} {H : Heap} (hP : va_P D vwCl (lw_ws tc q0 q8 u6 u7) H) : va_at D vwCl (lw_adr b q0 q8 u6 u7 19, ab_ce (lw_g l D tc L xs b q0 q8 u6 u7) h00 19) H := by
  rw [ab_ce_r (n := 6) rfl]
  exact wz_r (hP 19 _ rfl) (fun j hj => by rcases (show j = 0 ∨ j = 1 ∨ j = 2 ∨ j = 3 ∨ j = 4 ∨ j = 5 by omega) with rfl | rfl | rfl | rfl | rfl | rfl <;> rfl)
set_option maxHeartbeats 4000000 in
set_option maxRecDepth 100000 in
theorem wz_c20 {l : Launch} {D : va_G} {tc : Nat → ClassId} {L : Nat} {xs : Nat → Int32} {b q0 q8 : Nat} {u6 u7 : Nat → Nat} {H : Heap} (hP : va_P D vwCl (lw_ws tc q0 q8 u6 u7) H) : va_at D vwCl (lw_adr b q0 q8 u6 u7 20, ab_ce (lw_g l D tc L xs b q0 q8 u6 u7) h00 20) H := by
  rw [ab_ce_r (n := 6) rfl]
  exact wz_r (hP 26 _ rfl) (fun j hj => by rcases (show j = 0 ∨ j = 1 ∨ j = 2 ∨ j = 3 ∨ j = 4 ∨ j = 5 by omega) with rfl | rfl | rfl | rfl | rfl | rfl <;> rfl)
set_option maxHeartbeats 4000000 in
set_option maxRecDepth 100000 in
theorem wz_c21 {l : Launch} {D : va_G} {tc : Nat → ClassId} {L : Nat} {xs : Nat → Int32} {b q0 q8 : Nat} {u6 u7 : Nat → Nat} {H : Heap} (hP : va_P D vwCl (lw_ws tc q0 q8 u6 u7) H) : va_at D vwCl (lw_adr b q0 q8 u6 u7 21, ab_ce (lw_g l D tc L xs b q0 q8 u6 u7) h00 21) H := by
  rw [ab_ce_r (n := 6) rfl]
  exact wz_r (hP 33 _ rfl) (fun j hj => by rcases (show j = 0 ∨ j = 1 ∨ j = 2 ∨ j = 3 ∨ j = 4 ∨ j = 5 by omega) with rfl | rfl | rfl | rfl | rfl | rfl <;> rfl)
set_option maxHeartbeats 4000000 in
set_option maxRecDepth 100000 in
theorem wz_c22 {l : Launch} {D : va_G} {tc : Nat → ClassId} {L : Nat} {xs : Nat → Int32} {b q0 q8 : Nat} {u6 u7 : Nat → Nat} {H : Heap} (hP : va_P D vwCl (lw_ws tc q0 q8 u6 u7) H) : va_at D vwCl (lw_adr b q0 q8 u6 u7 22, ab_ce (lw_g l D tc L xs b q0 q8 u6 u7) h00 22) H := by
  rw [ab_ce_r (n := 6) rfl]
  exact wz_r (hP 40 _ rfl) (fun j hj => by rcases (show j = 0 ∨ j = 1 ∨ j = 2 ∨ j = 3 ∨ j = 4 ∨ j = 5 by omega) with rfl | rfl | rfl | rfl | rfl | rfl <;> rfl)
set_option maxHeartbeats 4000000 in
set_option maxRecDepth 100000 in
theorem wz_c23 {l : Launch} {D : va_G} {tc : Nat → ClassId} {L : Nat} {xs : Nat → Int32} {b q0 q8 : Nat} {u6 u7 : Nat → Nat} {H : Heap} (hP : va_P D vwCl (lw_ws tc q0 q8 u6 u7) H) : va_at D vwCl (lw_adr b q0 q8 u6 u7 23, ab_ce (lw_g l D tc L xs b q0 q8 u6 u7) h00 23) H := by
  rw [ab_ce_l (n := 401) rfl]
  exact wz_l (hP 47 _ rfl) (fun j _ => rfl)
set_option maxHeartbeats 4000000 in
set_option maxRecDepth 100000 in
theorem wz_c24 {l : Launch} {D : va_G} {tc : Nat → ClassId} {L : Nat} {xs : Nat → Int32} {b q0 q8 : Nat} {u6 u7 : Nat → Nat} {H : Heap} (hP : va_P D vwCl (lw_ws tc q0 q8 u6 u7) H) : va_at D vwCl (lw_adr b q0 q8 u6 u7 24, ab_ce (lw_g l D tc L xs b q0 q8 u6 u7) h00 24) H := by
  rw [ab_ce_o (ci := 1) rfl]
  exact hP 48 _ rfl
set_option maxHeartbeats 4000000 in
set_option maxRecDepth 100000 in
theorem wz_c25 {l : Launch} {D : va_G} {tc : Nat → ClassId} {L : Nat} {xs : Nat → Int32} {b q0 q8 : Nat} {u6 u7 : Nat → Nat} {H : Heap} (hP : va_P D vwCl (lw_ws tc q0 q8 u6 u7) H) : va_at D vwCl (lw_adr b q0 q8 u6 u7 25, ab_ce (lw_g l D tc L xs b q0 q8 u6 u7) h00 25) H := by
  rw [ab_ce_i (n := 12) rfl]
  exact wz_i (hP 49 _ rfl) (wz_0 (fun _ => rfl) _)
set_option maxHeartbeats 4000000 in
set_option maxRecDepth 100000 in
theorem wz_c26 {l : Launch} {D : va_G} {tc : Nat → ClassId} {L : Nat} {xs : Nat → Int32} {b q0 q8 : Nat} {u6 u7 : Nat → Nat} {H : Heap} (hP : va_P D vwCl (lw_ws tc q0 q8 u6 u7) H) : va_at D vwCl (lw_adr b q0 q8 u6 u7 26, ab_ce (lw_g l D tc L xs b q0 q8 u6 u7) h00 26) H := by
  rw [ab_ce_i (n := 12) rfl]
  exact wz_i (hP 50 _ rfl) (wz_0 (fun _ => rfl) _)
set_option maxHeartbeats 4000000 in
set_option maxRecDepth 100000 in
theorem wz_c27 {l : Launch} {D : va_G} {tc : Nat → ClassId} {L : Nat} {xs : Nat → Int32} {b q0 q8 : Nat} {u6 u7 : Nat → Nat} {H : Heap} (hP : va_P D vwCl (lw_ws tc q0 q8 u6 u7) H) : va_at D vwCl (lw_adr b q0 q8 u6 u7 27, ab_ce (lw_g l D tc L xs b q0 q8 u6 u7) h00 27) H := by
  rw [ab_ce_i (n := 12) rfl]
  exact wz_i (hP 51 _ rfl) (wz_0 (fun _ => rfl) _)
set_option maxHeartbeats 4000000 in
set_option maxRecDepth 100000 in
theorem wz_c28 {l : Launch} {D : va_G} {tc : Nat → ClassId} {L : Nat} {xs : Nat → Int32} {b q0 q8 : Nat} {u6 u7 : Nat → Nat} {H : Heap} (hP : va_P D vwCl (lw_ws tc q0 q8 u6 u7) H) : va_at D vwCl (lw_adr b q0 q8 u6 u7 28, ab_ce (lw_g l D tc L xs b q0 q8 u6 u7) h00 28) H := by
  rw [ab_ce_i (n := 12) rfl]
  exact wz_i (hP 52 _ rfl) (wz_0 (fun _ => rfl) _)
set_option maxHeartbeats 4000000 in
set_option maxRecDepth 100000 in
theorem wz_c29 {l : Launch} {D : va_G} {tc : Nat → ClassId} {L : Nat} {xs : Nat → Int32} {b q0 q8 : Nat} {u6 u7 : Nat → Nat} {H : Heap} (hP : va_P D vwCl (lw_ws tc q0 q8 u6 u7) H) : va_at D vwCl (lw_adr b q0 q8 u6 u7 29, ab_ce (lw_g l D tc L xs b q0 q8 u6 u7) h00 29) H := by
  rw [ab_ce_i (n := 12) rfl]
  exact wz_i (hP 53 _ rfl) (wz_0 (fun _ => rfl) _)
set_option maxHeartbeats 4000000 in
set_option maxRecDepth 100000 in
theorem wz_c30 {l : Launch} {D : va_G} {tc : Nat → ClassId} {L : Nat} {xs : Nat → Int32} {b q0 q8 : Nat} {u6 u7 : Nat → Nat} {H : Heap} (hP : va_P D vwCl (lw_ws tc q0 q8 u6 u7) H) : va_at D vwCl (lw_adr b q0 q8 u6 u7 30, ab_ce (lw_g l D tc L xs b q0 q8 u6 u7) h00 30) H := by
  rw [ab_ce_o (ci := 3) rfl]
  exact hP 54 _ rfl
set_option maxHeartbeats 4000000 in
set_option maxRecDepth 100000 in
theorem wz_c31 {l : Launch} {D : va_G} {tc : Nat → ClassId} {L : Nat} {xs : Nat → Int32} {b q0 q8 : Nat} {u6 u7 : Nat → Nat} {H : Heap} (hP : va_P D vwCl (lw_ws tc q0 q8 u6 u7) H) : va_at D vwCl (lw_adr b q0 q8 u6 u7 31, ab_ce (lw_g l D tc L xs b q0 q8 u6 u7) h00 31) H := by
  rw [ab_ce_r (n := 4) rfl]
  exact wz_r (hP 55 _ rfl) (fun j hj => by rcases (show j = 0 ∨ j = 1 ∨ j = 2 ∨ j = 3 by omega) with rfl | rfl | rfl | rfl <;> rfl)
set_option maxHeartbeats 4000000 in
set_option maxRecDepth 100000 in
theorem wz_c32 {l : Launch} {D : va_G} {tc : Nat → ClassId} {L : Nat} {xs : Nat → Int32} {b q0 q8 : Nat} {u6 u7 : Nat → Nat} {H : Heap} (hP : va_P D vwCl (lw_ws tc q0 q8 u6 u7) H) : va_at D vwCl (lw_adr b q0 q8 u6 u7 32, ab_ce (lw_g l D tc L xs b q0 q8 u6 u7) h00 32) H := by
  rw [ab_ce_i (n := 4) rfl]
  exact wz_i (hP 60 _ rfl) (wz_0 (fun _ => rfl) _)
set_option maxHeartbeats 4000000 in
set_option maxRecDepth 100000 in
theorem wz_c33 {l : Launch} {D : va_G} {tc : Nat → ClassId} {L : Nat} {xs : Nat → Int32} {b q0 q8 : Nat} {u6 u7 : Nat → Nat} {H : Heap} (hP : va_P D vwCl (lw_ws tc q0 q8 u6 u7) H) : va_at D vwCl (lw_adr b q0 q8 u6 u7 33, ab_ce (lw_g l D tc L xs b q0 q8 u6 u7) h00 33) H := by
  rw [ab_ce_i (n := 4) rfl]
  exact wz_i (hP 61 _ rfl) (fun j hj => by rcases (show j = 0 ∨ j = 1 ∨ j = 2 ∨ j = 3 by omega) with rfl | rfl | rfl | rfl <;> rfl)
set_option maxHeartbeats 4000000 in
set_option maxRecDepth 100000 in
theorem wz_c34 {l : Launch} {D : va_G} {tc : Nat → ClassId} {L : Nat} {xs : Nat → Int32} {b q0 q8 : Nat} {u6 u7 : Nat → Nat} {H : Heap} (hP : va_P D vwCl (lw_ws tc q0 q8 u6 u7) H) : va_at D vwCl (lw_adr b q0 q8 u6 u7 34, ab_ce (lw_g l D tc L xs b q0 q8 u6 u7) h00 34) H := by
  rw [ab_ce_i (n := 401) rfl]
  exact wz_i (hP 20 _ rfl) (wz_0 (fun _ => rfl) _)
set_option maxHeartbeats 4000000 in
set_option maxRecDepth 100000 in
theorem wz_c35 {l : Launch} {D : va_G} {tc : Nat → ClassId} {L : Nat} {xs : Nat → Int32} {b q0 q8 : Nat} {u6 u7 : Nat → Nat} {H : Heap} (hP : va_P D vwCl (lw_ws tc q0 q8 u6 u7) H) : va_at D vwCl (lw_adr b q0 q8 u6 u7 35, ab_ce (lw_g l D tc L xs b q0 q8 u6 u7) h00 35) H := by
  rw [ab_ce_i (n := 401) rfl]
  exact wz_i (hP 21 _ rfl) (wz_0 (fun _ => rfl) _)
set_option maxHeartbeats 4000000 in
set_option maxRecDepth 100000 in
theorem wz_c36 {l : Launch} {D : va_G} {tc : Nat → ClassId} {L : Nat} {xs : Nat → Int32} {b q0 q8 : Nat} {u6 u7 : Nat → Nat} {H : Heap} (hP : va_P D vwCl (lw_ws tc q0 q8 u6 u7) H) : va_at D vwCl (lw_adr b q0 q8 u6 u7 36, ab_ce (lw_g l D tc L xs b q0 q8 u6 u7) h00 36) H := by
  rw [ab_ce_i (n := 401) rfl]
  exact wz_i (hP 22 _ rfl) (wz_0 (fun _ => rfl) _)
set_option maxHeartbeats 4000000 in
set_option maxRecDepth 100000 in
theorem wz_c37 {l : Launch} {D : va_G} {tc : Nat → ClassId} {L : Nat} {xs : Nat → Int32} {b q0 q8 : Nat} {u6 u7 : Nat → Nat} {H : Heap} (hP : va_P D vwCl (lw_ws tc q0 q8 u6 u7) H) : va_at D vwCl (lw_adr b q0 q8 u6 u7 37, ab_ce (lw_g l D tc L xs b q0 q8 u6 u7) h00 37) H := by
  rw [ab_ce_i (n := 401) rfl]
  exact wz_i (hP 23 _ rfl) (wz_0 (fun _ => rfl) _)
set_option maxHeartbeats 4000000 in
set_option maxRecDepth 100000 in
theorem wz_c38 {l : Launch} {D : va_G} {tc : Nat → ClassId} {L : Nat} {xs : Nat → Int32} {b q0 q8 : Nat} {u6 u7 : Nat → Nat} {H : Heap} (hP : va_P D vwCl (lw_ws tc q0 q8 u6 u7) H) : va_at D vwCl (lw_adr b q0 q8 u6 u7 38, ab_ce (lw_g l D tc L xs b q0 q8 u6 u7) h00 38) H := by
  rw [ab_ce_i (n := 401) rfl]
  exact wz_i (hP 24 _ rfl) (wz_0 (fun _ => rfl) _)
set_option maxHeartbeats 4000000 in
set_option maxRecDepth 100000 in
theorem wz_c39 {l : Launch} {D : va_G} {tc : Nat → ClassId} {L : Nat} {xs : Nat → Int32} {b q0 q8 : Nat} {u6 u7 : Nat → Nat} {H : Heap} (hP : va_P D vwCl (lw_ws tc q0 q8 u6 u7) H) : va_at D vwCl (lw_adr b q0 q8 u6 u7 39, ab_ce (lw_g l D tc L xs b q0 q8 u6 u7) h00 39) H := by
  rw [ab_ce_i (n := 401) rfl]
  exact wz_i (hP 25 _ rfl) (wz_0 (fun _ => rfl) _)
set_option maxHeartbeats 4000000 in
set_option maxRecDepth 100000 in
theorem wz_c40 {l : Launch} {D : va_G} {tc : Nat → ClassId} {L : Nat} {xs : Nat → Int32} {b q0 q8 : Nat} {u6 u7 : Nat → Nat} {H : Heap} (hP : va_P D vwCl (lw_ws tc q0 q8 u6 u7) H) : va_at D vwCl (lw_adr b q0 q8 u6 u7 40, ab_ce (lw_g l D tc L xs b q0 q8 u6 u7) h00 40) H := by
  rw [ab_ce_i (n := 401) rfl]
  exact wz_i (hP 27 _ rfl) (wz_0 (fun _ => rfl) _)
set_option maxHeartbeats 4000000 in
set_option maxRecDepth 100000 in
theorem wz_c41 {l : Launch} {D : va_G} {tc : Nat → ClassId} {L : Nat} {xs : Nat → Int32} {b q0 q8 : Nat} {u6 u7 : Nat → Nat} {H : Heap} (hP : va_P D vwCl (lw_ws tc q0 q8 u6 u7) H) : va_at D vwCl (lw_adr b q0 q8 u6 u7 41, ab_ce (lw_g l D tc L xs b q0 q8 u6 u7) h00 41) H := by
  rw [ab_ce_i (n := 401) rfl]
  exact wz_i (hP 28 _ rfl) (wz_0 (fun _ => rfl) _)
set_option maxHeartbeats 4000000 in
set_option maxRecDepth 100000 in
theorem wz_c42 {l : Launch} {D : va_G} {tc : Nat → ClassId} {L : Nat} {xs : Nat → Int32} {b q0 q8 : Nat} {u6 u7 : Nat → Nat} {H : Heap} (hP : va_P D vwCl (lw_ws tc q0 q8 u6 u7) H) : va_at D vwCl (lw_adr b q0 q8 u6 u7 42, ab_ce (lw_g l D tc L xs b q0 q8 u6 u7) h00 42) H := by
  rw [ab_ce_i (n := 401) rfl]
  exact wz_i (hP 29 _ rfl) (wz_0 (fun _ => rfl) _)
set_option maxHeartbeats 4000000 in
set_option maxRecDepth 100000 in
theorem wz_c43 {l : Launch} {D : va_G} {tc : Nat → ClassId} {L : Nat} {xs : Nat → Int32} {b q0 q8 : Nat} {u6 u7 : Nat → Nat} {H : Heap} (hP : va_P D vwCl (lw_ws tc q0 q8 u6 u7) H) : va_at D vwCl (lw_adr b q0 q8 u6 u7 43, ab_ce (lw_g l D tc L xs b q0 q8 u6 u7) h00 43) H := by
  rw [ab_ce_i (n := 401) rfl]
  exact wz_i (hP 30 _ rfl) (wz_0 (fun _ => rfl) _)
set_option maxHeartbeats 4000000 in
set_option maxRecDepth 100000 in
theorem wz_c44 {l : Launch} {D : va_G} {tc : Nat → ClassId} {L : Nat} {xs : Nat → Int32} {b q0 q8 : Nat} {u6 u7 : Nat → Nat} {H : Heap} (hP : va_P D vwCl (lw_ws tc q0 q8 u6 u7) H) : va_at D vwCl (lw_adr b q0 q8 u6 u7 44, ab_ce (lw_g l D tc L xs b q0 q8 u6 u7) h00 44) H := by
  rw [ab_ce_i (n := 401) rfl]
  exact wz_i (hP 31 _ rfl) (wz_0 (fun _ => rfl) _)
set_option maxHeartbeats 4000000 in
set_option maxRecDepth 100000 in
theorem wz_c45 {l : Launch} {D : va_G} {tc : Nat → ClassId} {L : Nat} {xs : Nat → Int32} {b q0 q8 : Nat} {u6 u7 : Nat → Nat} {H : Heap} (hP : va_P D vwCl (lw_ws tc q0 q8 u6 u7) H) : va_at D vwCl (lw_adr b q0 q8 u6 u7 45, ab_ce (lw_g l D tc L xs b q0 q8 u6 u7) h00 45) H := by
  rw [ab_ce_i (n := 401) rfl]
  exact wz_i (hP 32 _ rfl) (wz_0 (fun _ => rfl) _)
set_option maxHeartbeats 4000000 in
set_option maxRecDepth 100000 in
theorem wz_c46 {l : Launch} {D : va_G} {tc : Nat → ClassId} {L : Nat} {xs : Nat → Int32} {b q0 q8 : Nat} {u6 u7 : Nat → Nat} {H : Heap} (hP : va_P D vwCl (lw_ws tc q0 q8 u6 u7) H) : va_at D vwCl (lw_adr b q0 q8 u6 u7 46, ab_ce (lw_g l D tc L xs b q0 q8 u6 u7) h00 46) H := by
  rw [ab_ce_i (n := 401) rfl]
  exact wz_i (hP 34 _ rfl) (wz_0 (fun _ => rfl) _)
set_option maxHeartbeats 4000000 in
set_option maxRecDepth 100000 in
theorem wz_c47 {l : Launch} {D : va_G} {tc : Nat → ClassId} {L : Nat} {xs : Nat → Int32} {b q0 q8 : Nat} {u6 u7 : Nat → Nat} {H : Heap} (hP : va_P D vwCl (lw_ws tc q0 q8 u6 u7) H) : va_at D vwCl (lw_adr b q0 q8 u6 u7 47, ab_ce (lw_g l D tc L xs b q0 q8 u6 u7) h00 47) H := by
  rw [ab_ce_i (n := 401) rfl]
  exact wz_i (hP 35 _ rfl) (wz_0 (fun _ => rfl) _)
set_option maxHeartbeats 4000000 in
set_option maxRecDepth 100000 in
theorem wz_c48 {l : Launch} {D : va_G} {tc : Nat → ClassId} {L : Nat} {xs : Nat → Int32} {b q0 q8 : Nat} {u6 u7 : Nat → Nat} {H : Heap} (hP : va_P D vwCl (lw_ws tc q0 q8 u6 u7) H) : va_at D vwCl (lw_adr b q0 q8 u6 u7 48, ab_ce (lw_g l D tc L xs b q0 q8 u6 u7) h00 48) H := by
  rw [ab_ce_i (n := 401) rfl]
  exact wz_i (hP 36 _ rfl) (wz_0 (fun _ => rfl) _)
set_option maxHeartbeats 4000000 in
set_option maxRecDepth 100000 in
theorem wz_c49 {l : Launch} {D : va_G} {tc : Nat → ClassId} {L : Nat} {xs : Nat → Int32} {b q0 q8 : Nat} {u6 u7 : Nat → Nat} {H : Heap} (hP : va_P D vwCl (lw_ws tc q0 q8 u6 u7) H) : va_at D vwCl (lw_adr b q0 q8 u6 u7 49, ab_ce (lw_g l D tc L xs b q0 q8 u6 u7) h00 49) H := by
  rw [ab_ce_i (n := 401) rfl]
  exact wz_i (hP 37 _ rfl) (wz_0 (fun _ => rfl) _)
set_option maxHeartbeats 4000000 in
set_option maxRecDepth 100000 in
theorem wz_c50 {l : Launch} {D : va_G} {tc : Nat → ClassId} {L : Nat} {xs : Nat → Int32} {b q0 q8 : Nat} {u6 u7 : Nat → Nat} {H : Heap} (hP : va_P D vwCl (lw_ws tc q0 q8 u6 u7) H) : va_at D vwCl (lw_adr b q0 q8 u6 u7 50, ab_ce (lw_g l D tc L xs b q0 q8 u6 u7) h00 50) H := by
  rw [ab_ce_i (n := 401) rfl]
  exact wz_i (hP 38 _ rfl) (wz_0 (fun _ => rfl) _)
set_option maxHeartbeats 4000000 in
set_option maxRecDepth 100000 in
theorem wz_c51 {l : Launch} {D : va_G} {tc : Nat → ClassId} {L : Nat} {xs : Nat → Int32} {b q0 q8 : Nat} {u6 u7 : Nat → Nat} {H : Heap} (hP : va_P D vwCl (lw_ws tc q0 q8 u6 u7) H) : va_at D vwCl (lw_adr b q0 q8 u6 u7 51, ab_ce (lw_g l D tc L xs b q0 q8 u6 u7) h00 51) H := by
  rw [ab_ce_i (n := 401) rfl]
  exact wz_i (hP 39 _ rfl) (wz_0 (fun _ => rfl) _)
set_option maxHeartbeats 4000000 in
set_option maxRecDepth 100000 in
theorem wz_c52 {l : Launch} {D : va_G} {tc : Nat → ClassId} {L : Nat} {xs : Nat → Int32} {b q0 q8 : Nat} {u6 u7 : Nat → Nat} {H : Heap} (hP : va_P D vwCl (lw_ws tc q0 q8 u6 u7) H) : va_at D vwCl (lw_adr b q0 q8 u6 u7 52, ab_ce (lw_g l D tc L xs b q0 q8 u6 u7) h00 52) H := by
  rw [ab_ce_i (n := 401) rfl]
  exact wz_i (hP 41 _ rfl) (wz_0 (fun _ => rfl) _)
set_option maxHeartbeats 4000000 in
set_option maxRecDepth 100000 in
theorem wz_c53 {l : Launch} {D : va_G} {tc : Nat → ClassId} {L : Nat} {xs : Nat → Int32} {b q0 q8 : Nat} {u6 u7 : Nat → Nat} {H : Heap} (hP : va_P D vwCl (lw_ws tc q0 q8 u6 u7) H) : va_at D vwCl (lw_adr b q0 q8 u6 u7 53, ab_ce (lw_g l D tc L xs b q0 q8 u6 u7) h00 53) H := by
  rw [ab_ce_i (n := 401) rfl]
  exact wz_i (hP 42 _ rfl) (wz_0 (fun _ => rfl) _)
set_option maxHeartbeats 4000000 in
set_option maxRecDepth 100000 in
theorem wz_c54 {l : Launch} {D : va_G} {tc : Nat → ClassId} {L : Nat} {xs : Nat → Int32} {b q0 q8 : Nat} {u6 u7 : Nat → Nat} {H : Heap} (hP : va_P D vwCl (lw_ws tc q0 q8 u6 u7) H) : va_at D vwCl (lw_adr b q0 q8 u6 u7 54, ab_ce (lw_g l D tc L xs b q0 q8 u6 u7) h00 54) H := by
  rw [ab_ce_i (n := 401) rfl]
  exact wz_i (hP 43 _ rfl) (wz_0 (fun _ => rfl) _)
set_option maxHeartbeats 4000000 in
set_option maxRecDepth 100000 in
theorem wz_c55 {l : Launch} {D : va_G} {tc : Nat → ClassId} {L : Nat} {xs : Nat → Int32} {b q0 q8 : Nat} {u6 u7 : Nat → Nat} {H : Heap} (hP : va_P D vwCl (lw_ws tc q0 q8 u6 u7) H) : va_at D vwCl (lw_adr b q0 q8 u6 u7 55, ab_ce (lw_g l D tc L xs b q0 q8 u6 u7) h00 55) H := by
  rw [ab_ce_i (n := 401) rfl]
  exact wz_i (hP 44 _ rfl) (wz_0 (fun _ => rfl) _)
set_option maxHeartbeats 4000000 in
set_option maxRecDepth 100000 in
theorem wz_c56 {l : Launch} {D : va_G} {tc : Nat → ClassId} {L : Nat} {xs : Nat → Int32} {b q0 q8 : Nat} {u6 u7 : Nat → Nat} {H : Heap} (hP : va_P D vwCl (lw_ws tc q0 q8 u6 u7) H) : va_at D vwCl (lw_adr b q0 q8 u6 u7 56, ab_ce (lw_g l D tc L xs b q0 q8 u6 u7) h00 56) H := by
  rw [ab_ce_i (n := 401) rfl]
  exact wz_i (hP 45 _ rfl) (wz_0 (fun _ => rfl) _)
set_option maxHeartbeats 4000000 in
set_option maxRecDepth 100000 in
theorem wz_c57 {l : Launch} {D : va_G} {tc : Nat → ClassId} {L : Nat} {xs : Nat → Int32} {b q0 q8 : Nat} {u6 u7 : Nat → Nat} {H : Heap} (hP : va_P D vwCl (lw_ws tc q0 q8 u6 u7) H) : va_at D vwCl (lw_adr b q0 q8 u6 u7 57, ab_ce (lw_g l D tc L xs b q0 q8 u6 u7) h00 57) H := by
  rw [ab_ce_i (n := 401) rfl]
  exact wz_i (hP 46 _ rfl) (wz_0 (fun _ => rfl) _)
set_option maxHeartbeats 4000000 in
set_option maxRecDepth 100000 in
theorem wz_c58 {l : Launch} {D : va_G} {tc : Nat → ClassId} {L : Nat} {xs : Nat → Int32} {b q0 q8 : Nat} {u6 u7 : Nat → Nat} {H : Heap} (hP : va_P D vwCl (lw_ws tc q0 q8 u6 u7) H) : va_at D vwCl (lw_adr b q0 q8 u6 u7 58, ab_ce (lw_g l D tc L xs b q0 q8 u6 u7) h00 58) H := by
  rw [ab_ce_i (n := 60) rfl]
  exact wz_i (hP 56 _ rfl) (wz_0 (fun _ => rfl) _)
set_option maxHeartbeats 4000000 in
set_option maxRecDepth 100000 in
theorem wz_c59 {l : Launch} {D : va_G} {tc : Nat → ClassId} {L : Nat} {xs : Nat → Int32} {b q0 q8 : Nat} {u6 u7 : Nat → Nat} {H : Heap} (hP : va_P D vwCl (lw_ws tc q0 q8 u6 u7) H) : va_at D vwCl (lw_adr b q0 q8 u6 u7 59, ab_ce (lw_g l D tc L xs b q0 q8 u6 u7) h00 59) H := by
  rw [ab_ce_i (n := 60) rfl]
  exact wz_i (hP 57 _ rfl) (wz_0 (fun _ => rfl) _)
set_option maxHeartbeats 4000000 in
set_option maxRecDepth 100000 in
theorem wz_c60 {l : Launch} {D : va_G} {tc : Nat → ClassId} {L : Nat} {xs : Nat → Int32} {b q0 q8 : Nat} {u6 u7 : Nat → Nat} {H : Heap} (hP : va_P D vwCl (lw_ws tc q0 q8 u6 u7) H) : va_at D vwCl (lw_adr b q0 q8 u6 u7 60, ab_ce (lw_g l D tc L xs b q0 q8 u6 u7) h00 60) H := by
  rw [ab_ce_i (n := 60) rfl]
  exact wz_i (hP 58 _ rfl) (wz_0 (fun _ => rfl) _)
set_option maxHeartbeats 4000000 in
set_option maxRecDepth 100000 in
theorem wz_c61 {l : Launch} {D : va_G} {tc : Nat → ClassId} {L : Nat} {xs : Nat → Int32} {b q0 q8 : Nat} {u6 u7 : Nat → Nat} {H : Heap} (hP : va_P D vwCl (lw_ws tc q0 q8 u6 u7) H) : va_at D vwCl (lw_adr b q0 q8 u6 u7 61, ab_ce (lw_g l D tc L xs b q0 q8 u6 u7) h00 61) H := by
  rw [ab_ce_i (n := 60) rfl]
  exact wz_i (hP 59 _ rfl) (wz_0 (fun _ => rfl) _)
set_option maxHeartbeats 4000000 in
set_option maxRecDepth 100000 in
theorem wz_c62 {l : Launch} {D : va_G} {tc : Nat → ClassId} {L : Nat} {xs : Nat → Int32} {b q0 q8 : Nat} {u6 u7 : Nat → Nat} {H : Heap} (hP : va_P D vwCl (lw_ws tc q0 q8 u6 u7) H) : va_at D vwCl (lw_adr b q0 q8 u6 u7 62, ab_ce (lw_g l D tc L xs b q0 q8 u6 u7) h00 62) H := by
  rw [ab_ce_o (ci := 7) rfl]
  exact hP 62 _ rfl
set_option maxHeartbeats 4000000 in
set_option maxRecDepth 100000 in
theorem wz_c63 {l : Launch} {D : va_G} {tc : Nat → ClassId} {L : Nat} {xs : Nat → Int32} {b q0 q8 : Nat} {u6 u7 : Nat → Nat} {H : Heap} (hP : va_P D vwCl (lw_ws tc q0 q8 u6 u7) H) : va_at D vwCl (lw_adr b q0 q8 u6 u7 63, ab_ce (lw_g l D tc L xs b q0 q8 u6 u7) h00 63) H := by
  rw [ab_ce_i (n := 4) rfl]
  exact wz_i (hP 63 _ rfl) (fun j hj => by rcases (show j = 0 ∨ j = 1 ∨ j = 2 ∨ j = 3 by omega) with rfl | rfl | rfl | rfl <;> rfl)
set_option maxHeartbeats 4000000 in
set_option maxRecDepth 100000 in
theorem wz_c64 {l : Launch} {D : va_G} {tc : Nat → ClassId} {L : Nat} {xs : Nat → Int32} {b q0 q8 : Nat} {u6 u7 : Nat → Nat} {H : Heap} (hP : va_P D vwCl (lw_ws tc q0 q8 u6 u7) H) : va_at D vwCl (lw_adr b q0 q8 u6 u7 64, ab_ce (lw_g l D tc L xs b q0 q8 u6 u7) h00 64) H := by
  rw [ab_ce_i (n := 4) rfl]
  exact wz_i (hP 64 _ rfl) (wz_0 (fun _ => rfl) _)
set_option maxHeartbeats 4000000 in
set_option maxRecDepth 100000 in
theorem wz_c65 {l : Launch} {D : va_G} {tc : Nat → ClassId} {L : Nat} {xs : Nat → Int32} {b q0 q8 : Nat} {u6 u7 : Nat → Nat} {H : Heap} (hP : va_P D vwCl (lw_ws tc q0 q8 u6 u7) H) : va_at D vwCl (lw_adr b q0 q8 u6 u7 65, ab_ce (lw_g l D tc L xs b q0 q8 u6 u7) h00 65) H := by
  rw [ab_ce_i (n := 240) rfl]
  exact wz_i (hP 65 _ rfl) (wz_0 (fun _ => rfl) _)
set_option maxHeartbeats 4000000 in
set_option maxRecDepth 100000 in
theorem wz_c66 {l : Launch} {D : va_G} {tc : Nat → ClassId} {L : Nat} {xs : Nat → Int32} {b q0 q8 : Nat} {u6 u7 : Nat → Nat} {H : Heap} (hP : va_P D vwCl (lw_ws tc q0 q8 u6 u7) H) : va_at D vwCl (lw_adr b q0 q8 u6 u7 66, ab_ce (lw_g l D tc L xs b q0 q8 u6 u7) h00 66) H := by
  rw [ab_ce_i (n := 60) rfl]
  exact wz_i (hP 66 _ rfl) (wz_0 (fun _ => rfl) _)
set_option maxHeartbeats 4000000 in
set_option maxRecDepth 100000 in
theorem wz_c67 {l : Launch} {D : va_G} {tc : Nat → ClassId} {L : Nat} {xs : Nat → Int32} {b q0 q8 : Nat} {u6 u7 : Nat → Nat} {H : Heap} (hP : va_P D vwCl (lw_ws tc q0 q8 u6 u7) H) : va_at D vwCl (lw_adr b q0 q8 u6 u7 67, ab_ce (lw_g l D tc L xs b q0 q8 u6 u7) h00 67) H := by
  rw [ab_ce_i (n := 80) rfl]
  exact wz_i (hP 67 _ rfl) (wz_0 (fun _ => rfl) _)
set_option maxHeartbeats 4000000 in
set_option maxRecDepth 100000 in
theorem wz_c68 {l : Launch} {D : va_G} {tc : Nat → ClassId} {L : Nat} {xs : Nat → Int32} {b q0 q8 : Nat} {u6 u7 : Nat → Nat} {H : Heap} (hP : va_P D vwCl (lw_ws tc q0 q8 u6 u7) H) : va_at D vwCl (lw_adr b q0 q8 u6 u7 68, ab_ce (lw_g l D tc L xs b q0 q8 u6 u7) h00 68) H := by
  rw [ab_ce_i (n := 6) rfl]
  exact wz_i (hP 68 _ rfl) (wz_0 (fun _ => rfl) _)
set_option maxHeartbeats 4000000 in
set_option maxRecDepth 100000 in
theorem wz_c69 {l : Launch} {D : va_G} {tc : Nat → ClassId} {L : Nat} {xs : Nat → Int32} {b q0 q8 : Nat} {u6 u7 : Nat → Nat} {H : Heap} (hP : va_P D vwCl (lw_ws tc q0 q8 u6 u7) H) : va_at D vwCl (lw_adr b q0 q8 u6 u7 69, ab_ce (lw_g l D tc L xs b q0 q8 u6 u7) h00 69) H := by
  rw [ab_ce_i (n := 6) rfl]
  exact wz_i (hP 69 _ rfl) (wz_0 (fun _ => rfl) _)
set_option maxHeartbeats 4000000 in
set_option maxRecDepth 100000 in
theorem wz_c70 {l : Launch} {D : va_G} {tc : Nat → ClassId} {L : Nat} {xs : Nat → Int32} {b q0 q8 : Nat} {u6 u7 : Nat → Nat} {H : Heap} (hP : va_P D vwCl (lw_ws tc q0 q8 u6 u7) H) : va_at D vwCl (lw_adr b q0 q8 u6 u7 70, ab_ce (lw_g l D tc L xs b q0 q8 u6 u7) h00 70) H := by
  rw [ab_ce_i (n := 6) rfl]
  exact wz_i (hP 70 _ rfl) (wz_0 (fun _ => rfl) _)
set_option maxHeartbeats 4000000 in
set_option maxRecDepth 100000 in
theorem wz_c71 {l : Launch} {D : va_G} {tc : Nat → ClassId} {L : Nat} {xs : Nat → Int32} {b q0 q8 : Nat} {u6 u7 : Nat → Nat} {H : Heap} (hP : va_P D vwCl (lw_ws tc q0 q8 u6 u7) H) : va_at D vwCl (lw_adr b q0 q8 u6 u7 71, ab_ce (lw_g l D tc L xs b q0 q8 u6 u7) h00 71) H := by
  rw [ab_ce_i (n := 6) rfl]
  exact wz_i (hP 71 _ rfl) (wz_0 (fun _ => rfl) _)
set_option maxHeartbeats 4000000 in
set_option maxRecDepth 100000 in
theorem wz_c72 {l : Launch} {D : va_G} {tc : Nat → ClassId} {L : Nat} {xs : Nat → Int32} {b q0 q8 : Nat} {u6 u7 : Nat → Nat} {H : Heap} (hP : va_P D vwCl (lw_ws tc q0 q8 u6 u7) H) : va_at D vwCl (lw_adr b q0 q8 u6 u7 72, ab_ce (lw_g l D tc L xs b q0 q8 u6 u7) h00 72) H := by
  rw [ab_ce_i (n := 2) rfl]
  exact wz_i (hP 72 _ rfl) (wz_0 (fun _ => rfl) _)
set_option maxHeartbeats 4000000 in
set_option maxRecDepth 100000 in
theorem wz_c73 {l : Launch} {D : va_G} {tc : Nat → ClassId} {L : Nat} {xs : Nat → Int32} {b q0 q8 : Nat} {u6 u7 : Nat → Nat} {H : Heap} (hP : va_P D vwCl (lw_ws tc q0 q8 u6 u7) H) : va_at D vwCl (lw_adr b q0 q8 u6 u7 73, ab_ce (lw_g l D tc L xs b q0 q8 u6 u7) h00 73) H := by
  rw [ab_ce_i (n := 6) rfl]
  exact wz_i (hP 73 _ rfl) (wz_0 (fun _ => rfl) _)
set_option maxHeartbeats 4000000 in
set_option maxRecDepth 100000 in
theorem wz_c74 {l : Launch} {D : va_G} {tc : Nat → ClassId} {L : Nat} {xs : Nat → Int32} {b q0 q8 : Nat} {u6 u7 : Nat → Nat} {H : Heap} (hP : va_P D vwCl (lw_ws tc q0 q8 u6 u7) H) : va_at D vwCl (lw_adr b q0 q8 u6 u7 74, ab_ce (lw_g l D tc L xs b q0 q8 u6 u7) h00 74) H := by
  rw [ab_ce_i (n := 6) rfl]
  exact wz_i (hP 74 _ rfl) (wz_0 (fun _ => rfl) _)
set_option maxHeartbeats 4000000 in
set_option maxRecDepth 100000 in
theorem wz_c75 {l : Launch} {D : va_G} {tc : Nat → ClassId} {L : Nat} {xs : Nat → Int32} {b q0 q8 : Nat} {u6 u7 : Nat → Nat} {H : Heap} (hP : va_P D vwCl (lw_ws tc q0 q8 u6 u7) H) : va_at D vwCl (lw_adr b q0 q8 u6 u7 75, ab_ce (lw_g l D tc L xs b q0 q8 u6 u7) h00 75) H := by
  rw [ab_ce_i (n := 2406) rfl]
  exact wz_i (hP 75 _ rfl) (wz_0 (fun _ => rfl) _)
set_option maxHeartbeats 4000000 in
set_option maxRecDepth 100000 in
theorem wz_c76 {l : Launch} {D : va_G} {tc : Nat → ClassId} {L : Nat} {xs : Nat → Int32} {b q0 q8 : Nat} {u6 u7 : Nat → Nat} {H : Heap} (hP : va_P D vwCl (lw_ws tc q0 q8 u6 u7) H) : va_at D vwCl (lw_adr b q0 q8 u6 u7 76, ab_ce (lw_g l D tc L xs b q0 q8 u6 u7) h00 76) H := by
  rw [ab_ce_i (n := 2406) rfl]
  exact wz_i (hP 76 _ rfl) (wz_0 (fun _ => rfl) _)
set_option maxHeartbeats 4000000 in
set_option maxRecDepth 100000 in
theorem wz_c77 {l : Launch} {D : va_G} {tc : Nat → ClassId} {L : Nat} {xs : Nat → Int32} {b q0 q8 : Nat} {u6 u7 : Nat → Nat} {H : Heap} (hP : va_P D vwCl (lw_ws tc q0 q8 u6 u7) H) : va_at D vwCl (lw_adr b q0 q8 u6 u7 77, ab_ce (lw_g l D tc L xs b q0 q8 u6 u7) h00 77) H := by
  rw [ab_ce_i (n := 2406) rfl]
  exact wz_i (hP 77 _ rfl) (wz_0 (fun _ => rfl) _)
set_option maxHeartbeats 4000000 in
set_option maxRecDepth 100000 in
theorem wz_c78 {l : Launch} {D : va_G} {tc : Nat → ClassId} {L : Nat} {xs : Nat → Int32} {b q0 q8 : Nat} {u6 u7 : Nat → Nat} {H : Heap} (hP : va_P D vwCl (lw_ws tc q0 q8 u6 u7) H) : va_at D vwCl (lw_adr b q0 q8 u6 u7 78, ab_ce (lw_g l D tc L xs b q0 q8 u6 u7) h00 78) H := by
  rw [ab_ce_z (n := 14436) rfl]
  exact wz_i (hP 78 _ rfl) (wz_0 (fun _ => rfl) _)
set_option maxHeartbeats 4000000 in
set_option maxRecDepth 100000 in
theorem wz_c79 {l : Launch} {D : va_G} {tc : Nat → ClassId} {L : Nat} {xs : Nat → Int32} {b q0 q8 : Nat} {u6 u7 : Nat → Nat} {H : Heap} (hP : va_P D vwCl (lw_ws tc q0 q8 u6 u7) H) : va_at D vwCl (lw_adr b q0 q8 u6 u7 79, ab_ce (lw_g l D tc L xs b q0 q8 u6 u7) h00 79) H := by
  rw [ab_ce_i (n := 6) rfl]
  exact wz_i (hP 79 _ rfl) (wz_0 (fun _ => rfl) _)
set_option maxHeartbeats 4000000 in
set_option maxRecDepth 100000 in
theorem wz_c80 {l : Launch} {D : va_G} {tc : Nat → ClassId} {L : Nat} {xs : Nat → Int32} {b q0 q8 : Nat} {u6 u7 : Nat → Nat} {H : Heap} (hP : va_P D vwCl (lw_ws tc q0 q8 u6 u7) H) : va_at D vwCl (lw_adr b q0 q8 u6 u7 80, ab_ce (lw_g l D tc L xs b q0 q8 u6 u7) h00 80) H := by
  rw [ab_ce_i (n := 401) rfl]
  exact wz_i (hP 80 _ rfl) (wz_0 (fun _ => rfl) _)
set_option maxHeartbeats 4000000 in
set_option maxRecDepth 100000 in
theorem wz_c81 {l : Launch} {D : va_G} {tc : Nat → ClassId} {L : Nat} {xs : Nat → Int32} {b q0 q8 : Nat} {u6 u7 : Nat → Nat} {H : Heap} (hP : va_P D vwCl (lw_ws tc q0 q8 u6 u7) H) : va_at D vwCl (lw_adr b q0 q8 u6 u7 81, ab_ce (lw_g l D tc L xs b q0 q8 u6 u7) h00 81) H := by
  rw [ab_ce_i (n := 48) rfl]
  exact wz_i (hP 81 _ rfl) (wz_0 (fun _ => rfl) _)
set_option maxHeartbeats 4000000 in
set_option maxRecDepth 100000 in
theorem wz_P {l : Launch} {D : va_G} {tc : Nat → ClassId} {L : Nat} {xs : Nat → Int32} {b q0 q8 : Nat} {u6 u7 : Nat → Nat} {H : Heap} (hP : va_P D vwCl (lw_ws tc q0 q8 u6 u7) H) : va_P D vwCl (ab_ws (lw_g l D tc L xs b q0 q8 u6 u7) h00) H := by
  have key : ∀ k, k < 82 → va_at D vwCl (lw_adr b q0 q8 u6 u7 k, ab_ce (lw_g l D tc L xs b q0 q8 u6 u7) h00 k) H := fun k hk => match k, hk with
    | 0, _ => wz_c0 hP
    | 1, _ => wz_c1 hP
    | 2, _ => wz_c2 hP
    | 3, _ => wz_c3 hP
    | 4, _ => wz_c4 hP
    | 5, _ => wz_c5 hP
    | 6, _ => wz_c6 hP
    | 7, _ => wz_c7 hP
    | 8, _ => wz_c8 hP
    | 9, _ => wz_c9 hP
    | 10, _ => wz_c10 hP
    | 11, _ => wz_c11 hP
    | 12, _ => wz_c12 hP
    | 13, _ => wz_c13 hP
    | 14, _ => wz_c14 hP
    | 15, _ => wz_c15 hP
    | 16, _ => wz_c16 hP
    | 17, _ => wz_c17 hP
    | 18, _ => wz_c18 hP
    | 19, _ => wz_c19 hP
    | 20, _ => wz_c20 hP
    | 21, _ => wz_c21 hP
    | 22, _ => wz_c22 hP
    | 23, _ => wz_c23 hP
    | 24, _ => wz_c24 hP
    | 25, _ => wz_c25 hP
    | 26, _ => wz_c26 hP
    | 27, _ => wz_c27 hP
    | 28, _ => wz_c28 hP
    | 29, _ => wz_c29 hP
    | 30, _ => wz_c30 hP
    | 31, _ => wz_c31 hP
    | 32, _ => wz_c32 hP
    | 33, _ => wz_c33 hP
    | 34, _ => wz_c34 hP
    | 35, _ => wz_c35 hP
    | 36, _ => wz_c36 hP
    | 37, _ => wz_c37 hP
    | 38, _ => wz_c38 hP
    | 39, _ => wz_c39 hP
    | 40, _ => wz_c40 hP
    | 41, _ => wz_c41 hP
    | 42, _ => wz_c42 hP
    | 43, _ => wz_c43 hP
    | 44, _ => wz_c44 hP
    | 45, _ => wz_c45 hP
    | 46, _ => wz_c46 hP
    | 47, _ => wz_c47 hP
    | 48, _ => wz_c48 hP
    | 49, _ => wz_c49 hP
    | 50, _ => wz_c50 hP
    | 51, _ => wz_c51 hP
    | 52, _ => wz_c52 hP
    | 53, _ => wz_c53 hP
    | 54, _ => wz_c54 hP
    | 55, _ => wz_c55 hP
    | 56, _ => wz_c56 hP
    | 57, _ => wz_c57 hP
    | 58, _ => wz_c58 hP
    | 59, _ => wz_c59 hP
    | 60, _ => wz_c60 hP
    | 61, _ => wz_c61 hP
    | 62, _ => wz_c62 hP
    | 63, _ => wz_c63 hP
    | 64, _ => wz_c64 hP
    | 65, _ => wz_c65 hP
    | 66, _ => wz_c66 hP
    | 67, _ => wz_c67 hP
    | 68, _ => wz_c68 hP
    | 69, _ => wz_c69 hP
    | 70, _ => wz_c70 hP
    | 71, _ => wz_c71 hP
    | 72, _ => wz_c72 hP
    | 73, _ => wz_c73 hP
    | 74, _ => wz_c74 hP
    | 75, _ => wz_c75 hP
    | 76, _ => wz_c76 hP
    | 77, _ => wz_c77 hP
    | 78, _ => wz_c78 hP
    | 79, _ => wz_c79 hP
    | 80, _ => wz_c80 hP
    | 81, _ => wz_c81 hP
    | n + 82, h => absurd h (by omega)
  intro k x hx
  have hk : k < 82 := by
    have := (List.getElem?_eq_some_iff.mp hx).1
    simpa [ab_ws] using this
  rw [ab_ws_at hk] at hx
  cases hx
  exact key k hk
def lw_pi (k : Nat) : Nat := ([0, 1, 2, 3, 4, 5, 6, 7, 8, 9, 10, 11, 12, 13, 14, 15, 16, 17, 18, 19, 26, 33, 40, 47, 48, 49, 50, 51, 52, 53, 54, 55, 60, 61, 20, 21, 22, 23, 24, 25, 27, 28, 29, 30, 31, 32, 34, 35, 36, 37, 38, 39, 41, 42, 43, 44, 45, 46, 56, 57, 58, 59, 62, 63, 64, 65, 66, 67, 68, 69, 70, 71, 72, 73, 74, 75, 76, 77, 78, 79, 80, 81] : List Nat).getD k 0
theorem lw_pi_inj : ∀ i, i < 82 → ∀ j, j < 82 → lw_pi i = lw_pi j → i = j := by decide +kernel
set_option maxHeartbeats 4000000 in
set_option maxRecDepth 100000 in
theorem wz_D {A : Nat → Prop} {l : Launch} {D : va_G} {tc : Nat → ClassId} {L : Nat} {xs : Nat → Int32} {b q0 q8 : Nat} {u6 u7 : Nat → Nat} (hD : va_D A (lw_ws tc q0 q8 u6 u7)) : va_D A (ab_ws (lw_g l D tc L xs b q0 q8 u6 u7) h00) := by
  have all : (List.range 82).map (fun k => ((lw_ws tc q0 q8 u6 u7)[lw_pi k]?).map Prod.fst) = (List.range 82).map (fun k => some (lw_adr b q0 q8 u6 u7 k)) := rfl
  have key : ∀ k, k < 82 → ∃ x, (lw_ws tc q0 q8 u6 u7)[lw_pi k]? = some (lw_adr b q0 q8 u6 u7 k, x) := by
    intro k hk
    have h := congrArg (fun z => z[k]?) all
    rw [List.getElem?_map, List.getElem?_map, List.getElem?_range hk] at h
    have h : ((lw_ws tc q0 q8 u6 u7)[lw_pi k]?).map Prod.fst = some (lw_adr b q0 q8 u6 u7 k) := Option.some.inj h
    obtain ⟨⟨a, x⟩, h1, h2⟩ := Option.map_eq_some_iff.mp h
    exact ⟨x, by rw [h1, ← h2]⟩
  have at' : ∀ (k : Nat) (x : Nat × va_E), (ab_ws (lw_g l D tc L xs b q0 q8 u6 u7) h00)[k]? = some x → k < 82 ∧ x.1 = lw_adr b q0 q8 u6 u7 k := by
    intro k x hx
    have hk : k < 82 := by
      have := (List.getElem?_eq_some_iff.mp hx).1
      simpa [ab_ws] using this
    rw [ab_ws_at hk] at hx
    cases hx
    exact ⟨hk, rfl⟩
  refine ⟨fun i j x y hx hy hxy => ?_, fun k x hx => ?_⟩
  · obtain ⟨i1, ei⟩ := at' i x hx
    obtain ⟨j1, ej⟩ := at' j y hy
    obtain ⟨a, ha⟩ := key i i1
    obtain ⟨c, hc⟩ := key j j1
    exact lw_pi_inj i i1 j j1 (hD.1 _ _ _ _ ha hc (by show lw_adr b q0 q8 u6 u7 i = lw_adr b q0 q8 u6 u7 j; rw [← ei, ← ej]; exact hxy))
  · obtain ⟨k1, ek⟩ := at' k x hx
    obtain ⟨a, ha⟩ := key k k1
    rw [ek]
    exact hD.2 _ _ ha
