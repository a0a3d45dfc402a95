/-! Road: a man, the whole text -/
theorem ab_hs_f {h : ab_H} {k a : Nat} {i v : Int} (n : a ≠ k) : ab_hs h k i v a = h a := funext fun _ => ab_hs_k n
theorem rd_put_f {h : ab_H} {s : ps_T} {a : Nat} (n : ¬ (a = 1 ∨ a = 3 ∨ a = 4 ∨ a = 5 ∨ a = 6)) : rd_put h s a = h a := by
  funext b
  unfold rd_put
  rw [if_neg (fun q => n (Or.inl q.1)), if_neg (fun q => n (by omega)), if_neg (fun q => n (by omega)), if_neg (fun q => n (by omega)), if_neg (fun q => n (Or.inl q.1)), if_neg (fun q => n (by omega))]
theorem rd_put_1 {h : ab_H} {s : ps_T} {b : Int} (n : b ≠ 8 ∧ b ≠ 9) : rd_put h s 1 b = h 1 b := by
  unfold rd_put
  rw [if_neg (fun q => n.1 q.2), if_neg (by decide), if_neg (by decide), if_neg (by decide), if_neg (fun q => n.2 q.2), if_neg (by decide)]
theorem rd_put_18 {h : ab_H} {s : ps_T} : rd_put h s 1 8 = s.1 := rfl
theorem rd_put_19 {h : ab_H} {s : ps_T} : rd_put h s 1 9 = s.2.2.2.2.1 := rfl
set_option maxHeartbeats 4000000 in
set_option maxRecDepth 100000 in
theorem s_X2_takeMan {g : ab_G} {h : ab_H} {a : Int} (hb : h 1 5 ≤ 80) (hm : 0 ≤ h 1 8 ∧ h 1 8 ≤ 6) (ha : 0 ≤ a ∧ a ≤ 500) : MethI g 4 m_X2_takeMan [a_R 1, a_I a] h (fun z h' => z = (ps_man (h 2) (h 1 5) (h 1 7) a (rd_ps h)).1 ∧ h' = rd_put h (ps_man (h 2) (h 1 5) (h 1 7) a (rd_ps h)).2) := by
  refine Meth.of_go k_X2_takeMan (Nat.le_of_ble_eq_true rfl) ?_
  show Go g _ m_X2_takeMan _ 0 [some (a_R 1), some (a_I a), none] [] h
  refine go_aload_n rfl rfl ?_
  refine go_getI rfl f_X2_37 rfl rfl rfl ?_ -- men
  refine go_bipush rfl ?_
  refine go_icmp_lt rfl (tgt := 11) (by decide) (fun c6 => ?_) (fun c6 => ?_)
  · refine go_aload_n rfl rfl ?_
    refine go_iload_n rfl rfl ?_
    refine go_iconst rfl ?_
    refine go_aload_n rfl rfl ?_
    refine go_getI rfl f_X2_34 rfl rfl rfl ?_ -- length
    refine go_cV3I (M' := m_X2_wrongNumber) rfl l_X2_47 k_X2_wrongNumber (s_X2_wrongNumber hb (by omega)) rfl rfl rfl rfl (by decide) (Nat.le_of_ble_eq_true rfl) (fun z18 h18 q18 => ?_) -- X2_wrongNumber
    obtain ⟨rfl, rfl⟩ := q18
    refine go_istore_n rfl (by decide) rfl ?_
    refine go_iload_n rfl rfl ?_
    refine go_iconst rfl ?_
    refine go_icmp_eq rfl (tgt := 29) (by decide) (fun c24 => ?_) (fun c24 => ?_)
    · have f1 := rd_wr_ok c24
      refine go_aload_n rfl rfl ?_
      refine go_aload_n rfl rfl ?_
      refine go_iload_n rfl rfl ?_
      refine go_cV1I (M' := m_X2_number) rfl l_X2_51 k_X2_number (s_X2_number (by first | exact hb | (simp only [ab_hs_f, ne_eq, Nat.reduceEqDiff, not_false_eq_true]; exact hb)) (by omega)) rfl rfl rfl rfl (by decide) (Nat.le_of_ble_eq_true rfl) (fun z32 h32 q32 => ?_) -- X2_number
      try simp only [ab_hs_f, ne_eq, Nat.reduceEqDiff, not_false_eq_true] at q32
      obtain ⟨rfl, rfl⟩ := q32
      rw [if_pos f1]
      refine go_cV1I (M' := m_X2_isTaken) rfl l_X2_65 k_X2_isTaken (s_X2_isTaken hm) rfl rfl rfl rfl (by decide) (Nat.le_of_ble_eq_true rfl) (fun z35 h35 q35 => ?_) -- X2_isTaken
      obtain ⟨rfl, rfl⟩ := q35
      refine go_if_eq rfl (tgt := 43) (by decide) (fun c38 => ?_) (fun c38 => ?_)
      · have f2 := rd_n0 c38
        refine go_aload_n rfl rfl ?_
        refine go_iload_n rfl rfl ?_
        refine go_iconst rfl ?_
        refine go_iadd rfl (by unfold ab_iok; omega) ?_
        refine go_bipush rfl ?_
        refine go_cV2I (M' := m_X2_isByte) rfl l_X2_55 k_X2_isByte (s_X2_isByte (by first | exact hb | (simp only [ab_hs_f, ne_eq, Nat.reduceEqDiff, not_false_eq_true]; exact hb))) rfl rfl rfl rfl (by decide) (Nat.le_of_ble_eq_true rfl) (fun z49 h49 q49 => ?_) -- X2_isByte
        try simp only [ab_hs_f, ne_eq, Nat.reduceEqDiff, not_false_eq_true] at q49
        obtain ⟨rfl, rfl⟩ := q49
        refine go_if_ne rfl (tgt := 71) (by decide) (fun c52 => ?_) (fun c52 => ?_)
        · refine go_aload_n rfl rfl ?_
          refine go_iload_n rfl rfl ?_
          refine go_iconst rfl ?_
          refine go_iadd rfl (by unfold ab_iok; omega) ?_
          refine go_iconst rfl ?_
          refine go_bipush rfl ?_
          refine go_cV3I (M' := m_X2_wrongNumber) rfl l_X2_47 k_X2_wrongNumber (s_X2_wrongNumber hb (by omega)) rfl rfl rfl rfl (by decide) (Nat.le_of_ble_eq_true rfl) (fun z78 h78 q78 => ?_) -- X2_wrongNumber
          obtain ⟨rfl, rfl⟩ := q78
          refine go_istore_n rfl (by decide) rfl ?_
          refine go_iload_n rfl rfl ?_
          refine go_iconst rfl ?_
          refine go_icmp_eq rfl (tgt := 89) (by decide) (fun c84 => ?_) (fun c84 => ?_)
          · have f3 := rd_wr_ok c84 (by omega)
            have f4 := f1
            rw [show a + 3 + 1 = a + 4 by omega] at f3
            refine go_aload_n rfl rfl ?_
            refine go_getR rfl f_X2_15 rfl rfl ?_ -- pace
            refine go_aload_n rfl rfl ?_
            refine go_getI rfl f_X2_37 rfl rfl rfl ?_ -- men
            refine go_aload_n rfl rfl ?_
            refine go_iload_n rfl rfl ?_
            refine go_cV1I (M' := m_X2_number) rfl l_X2_51 k_X2_number (s_X2_number (by first | exact hb | (simp only [ab_hs_f, ne_eq, Nat.reduceEqDiff, not_false_eq_true]; exact hb)) (by omega)) rfl rfl rfl rfl (by decide) (Nat.le_of_ble_eq_true rfl) (fun z99 h99 q99 => ?_) -- X2_number
            try simp only [ab_hs_f, ne_eq, Nat.reduceEqDiff, not_false_eq_true] at q99
            obtain ⟨rfl, rfl⟩ := q99
            rw [if_pos f1]
            refine go_iast rfl rfl (by omega) (by omega) ?_
            refine go_aload_n rfl rfl ?_
            refine go_getR rfl f_X2_18 rfl rfl ?_ -- facing
            refine go_aload_n rfl rfl ?_
            refine go_getI rfl f_X2_37 rfl rfl rfl ?_ -- men
            simp only [ab_hs_f, ne_eq, Nat.reduceEqDiff, not_false_eq_true]
            refine go_aload_n rfl rfl ?_
            refine go_iload_n rfl rfl ?_
            refine go_iconst rfl ?_
            refine go_iadd rfl (by unfold ab_iok; omega) ?_
            refine go_bipush rfl ?_
            refine go_cV2I (M' := m_X2_isByte) rfl l_X2_55 k_X2_isByte (s_X2_isByte (by first | exact hb | (simp only [ab_hs_f, ne_eq, Nat.reduceEqDiff, not_false_eq_true]; exact hb))) rfl rfl rfl rfl (by decide) (Nat.le_of_ble_eq_true rfl) (fun z117 h117 q117 => ?_) -- X2_isByte
            try simp only [ab_hs_f, ne_eq, Nat.reduceEqDiff, not_false_eq_true] at q117
            obtain ⟨rfl, rfl⟩ := q117
            refine go_if_eq rfl (tgt := 127) (by decide) (fun c120 => ?_) (fun c120 => ?_)
            · refine go_iconst rfl ?_
              have f5 := f1
              refine go_iast rfl rfl (by omega) (by omega) ?_
              refine go_aload_n rfl rfl ?_
              refine go_getR rfl f_X2_21 rfl rfl ?_ -- setOut
              refine go_aload_n rfl rfl ?_
              refine go_getI rfl f_X2_37 rfl rfl rfl ?_ -- men
              simp only [ab_hs_f, ne_eq, Nat.reduceEqDiff, not_false_eq_true]
              refine go_aload_n rfl rfl ?_
              refine go_iload_n rfl rfl ?_
              refine go_iconst rfl ?_
              refine go_iadd rfl (by unfold ab_iok; omega) ?_
              refine go_cV1I (M' := m_X2_number) rfl l_X2_51 k_X2_number (s_X2_number (by first | exact hb | (simp only [ab_hs_f, ne_eq, Nat.reduceEqDiff, not_false_eq_true]; exact hb)) (by omega)) rfl rfl rfl rfl (by decide) (Nat.le_of_ble_eq_true rfl) (fun z141 h141 q141 => ?_) -- X2_number
              try simp only [ab_hs_f, ne_eq, Nat.reduceEqDiff, not_false_eq_true] at q141
              obtain ⟨rfl, rfl⟩ := q141
              rw [if_pos (show _ ∧ _ from ⟨f3.1, by rw [show a + 3 + 1 = a + 4 by omega]; exact f3.2⟩)]
              refine go_iast rfl rfl (by omega) (by omega) ?_
              refine go_aload_n rfl rfl ?_
              refine go_dup rfl ?_
              refine go_getI rfl f_X2_37 rfl rfl rfl ?_ -- men
              simp only [ab_hs_f, ne_eq, Nat.reduceEqDiff, not_false_eq_true]
              refine go_iconst rfl ?_
              refine go_iadd rfl (by unfold ab_iok; omega) ?_
              refine go_putI rfl f_X2_37 rfl rfl rfl ?_ -- men
              refine go_iconst rfl ?_
              exact go_iret rfl (Or.inl rfl) ⟨_, rfl, absurd (rd_n1 c52) (rd_n0 c120)⟩
            · refine go_iconst rfl ?_
              refine go_goto rfl (tgt := 128) (by decide) ?_
              have f5 := f1
              refine go_iast rfl rfl (by omega) (by omega) ?_
              refine go_aload_n rfl rfl ?_
              refine go_getR rfl f_X2_21 rfl rfl ?_ -- setOut
              refine go_aload_n rfl rfl ?_
              refine go_getI rfl f_X2_37 rfl rfl rfl ?_ -- men
              simp only [ab_hs_f, ne_eq, Nat.reduceEqDiff, not_false_eq_true]
              refine go_aload_n rfl rfl ?_
              refine go_iload_n rfl rfl ?_
              refine go_iconst rfl ?_
              refine go_iadd rfl (by unfold ab_iok; omega) ?_
              refine go_cV1I (M' := m_X2_number) rfl l_X2_51 k_X2_number (s_X2_number (by first | exact hb | (simp only [ab_hs_f, ne_eq, Nat.reduceEqDiff, not_false_eq_true]; exact hb)) (by omega)) rfl rfl rfl rfl (by decide) (Nat.le_of_ble_eq_true rfl) (fun z141 h141 q141 => ?_) -- X2_number
              try simp only [ab_hs_f, ne_eq, Nat.reduceEqDiff, not_false_eq_true] at q141
              obtain ⟨rfl, rfl⟩ := q141
              rw [if_pos (show _ ∧ _ from ⟨f3.1, by rw [show a + 3 + 1 = a + 4 by omega]; exact f3.2⟩)]
              refine go_iast rfl rfl (by omega) (by omega) ?_
              refine go_aload_n rfl rfl ?_
              refine go_dup rfl ?_
              refine go_getI rfl f_X2_37 rfl rfl rfl ?_ -- men
              simp only [ab_hs_f, ne_eq, Nat.reduceEqDiff, not_false_eq_true]
              refine go_iconst rfl ?_
              refine go_iadd rfl (by unfold ab_iok; omega) ?_
              refine go_putI rfl f_X2_37 rfl rfl rfl ?_ -- men
              refine go_iconst rfl ?_
              exact go_iret rfl (Or.inl rfl) ⟨_, rfl, by rw [rd_put_man]; unfold ps_man; rw [show ps_mw (h 2) (h 1 5) (h 1 7) a (rd_ps h) = -1 by unfold ps_mw; rw [if_neg (show ¬ 6 ≤ (rd_ps h).1 by show ¬ 6 ≤ h 1 8; omega)]; rw [if_neg (show ¬ rd_wr (h 2) (h 1 5) a 0 (h 1 7) ≠ -1 from fun q => q c24)]; rw [if_neg (show ¬ rd_bool (ps_tkn (rd_ps h) (rd_num (h 2) a)) = 1 by rw [rd_f f2]; omega)]; rw [if_neg (show ¬ (¬ rd_isB (h 2) (h 1 5) (a + 2) 117 ∧ ¬ rd_isB (h 2) (h 1 5) (a + 2) 100) from fun q => q.1 (rd_n1 c52))]; exact c84]; rw [if_pos rfl, if_pos (rd_n1 c52)]; exact ⟨rfl, rfl⟩⟩
          · refine go_iload_n rfl rfl ?_
            exact go_iret rfl (Or.inl rfl) ⟨_, rfl, by unfold ps_man; rw [show ps_mw (h 2) (h 1 5) (h 1 7) a (rd_ps h) = rd_wr (h 2) (h 1 5) (a + 3) 0 40 by unfold ps_mw; rw [if_neg (show ¬ 6 ≤ (rd_ps h).1 by show ¬ 6 ≤ h 1 8; omega)]; rw [if_neg (show ¬ rd_wr (h 2) (h 1 5) a 0 (h 1 7) ≠ -1 from fun q => q c24)]; rw [if_neg (show ¬ rd_bool (ps_tkn (rd_ps h) (rd_num (h 2) a)) = 1 by rw [rd_f f2]; omega)]; rw [if_neg (show ¬ (¬ rd_isB (h 2) (h 1 5) (a + 2) 117 ∧ ¬ rd_isB (h 2) (h 1 5) (a + 2) 100) from fun q => q.1 (rd_n1 c52))]]; rw [if_neg c84]; exact ⟨rfl, (rd_put_self h).symm⟩⟩
        · refine go_aload_n rfl rfl ?_
          refine go_iload_n rfl rfl ?_
          refine go_iconst rfl ?_
          refine go_iadd rfl (by unfold ab_iok; omega) ?_
          refine go_bipush rfl ?_
          refine go_cV2I (M' := m_X2_isByte) rfl l_X2_55 k_X2_isByte (s_X2_isByte (by first | exact hb | (simp only [ab_hs_f, ne_eq, Nat.reduceEqDiff, not_false_eq_true]; exact hb))) rfl rfl rfl rfl (by decide) (Nat.le_of_ble_eq_true rfl) (fun z61 h61 q61 => ?_) -- X2_isByte
          try simp only [ab_hs_f, ne_eq, Nat.reduceEqDiff, not_false_eq_true] at q61
          obtain ⟨rfl, rfl⟩ := q61
          refine go_if_ne rfl (tgt := 71) (by decide) (fun c64 => ?_) (fun c64 => ?_)
          · refine go_aload_n rfl rfl ?_
            refine go_iload_n rfl rfl ?_
            refine go_iconst rfl ?_
            refine go_iadd rfl (by unfold ab_iok; omega) ?_
            refine go_iconst rfl ?_
            refine go_bipush rfl ?_
            refine go_cV3I (M' := m_X2_wrongNumber) rfl l_X2_47 k_X2_wrongNumber (s_X2_wrongNumber hb (by omega)) rfl rfl rfl rfl (by decide) (Nat.le_of_ble_eq_true rfl) (fun z78 h78 q78 => ?_) -- X2_wrongNumber
            obtain ⟨rfl, rfl⟩ := q78
            refine go_istore_n rfl (by decide) rfl ?_
            refine go_iload_n rfl rfl ?_
            refine go_iconst rfl ?_
            refine go_icmp_eq rfl (tgt := 89) (by decide) (fun c84 => ?_) (fun c84 => ?_)
            · have f3 := rd_wr_ok c84 (by omega)
              have f4 := f1
              rw [show a + 3 + 1 = a + 4 by omega] at f3
              refine go_aload_n rfl rfl ?_
              refine go_getR rfl f_X2_15 rfl rfl ?_ -- pace
              refine go_aload_n rfl rfl ?_
              refine go_getI rfl f_X2_37 rfl rfl rfl ?_ -- men
              refine go_aload_n rfl rfl ?_
              refine go_iload_n rfl rfl ?_
              refine go_cV1I (M' := m_X2_number) rfl l_X2_51 k_X2_number (s_X2_number (by first | exact hb | (simp only [ab_hs_f, ne_eq, Nat.reduceEqDiff, not_false_eq_true]; exact hb)) (by omega)) rfl rfl rfl rfl (by decide) (Nat.le_of_ble_eq_true rfl) (fun z99 h99 q99 => ?_) -- X2_number
              try simp only [ab_hs_f, ne_eq, Nat.reduceEqDiff, not_false_eq_true] at q99
              obtain ⟨rfl, rfl⟩ := q99
              rw [if_pos f1]
              refine go_iast rfl rfl (by omega) (by omega) ?_
              refine go_aload_n rfl rfl ?_
              refine go_getR rfl f_X2_18 rfl rfl ?_ -- facing
              refine go_aload_n rfl rfl ?_
              refine go_getI rfl f_X2_37 rfl rfl rfl ?_ -- men
              simp only [ab_hs_f, ne_eq, Nat.reduceEqDiff, not_false_eq_true]
              refine go_aload_n rfl rfl ?_
              refine go_iload_n rfl rfl ?_
              refine go_iconst rfl ?_
              refine go_iadd rfl (by unfold ab_iok; omega) ?_
              refine go_bipush rfl ?_
              refine go_cV2I (M' := m_X2_isByte) rfl l_X2_55 k_X2_isByte (s_X2_isByte (by first | exact hb | (simp only [ab_hs_f, ne_eq, Nat.reduceEqDiff, not_false_eq_true]; exact hb))) rfl rfl rfl rfl (by decide) (Nat.le_of_ble_eq_true rfl) (fun z117 h117 q117 => ?_) -- X2_isByte
              try simp only [ab_hs_f, ne_eq, Nat.reduceEqDiff, not_false_eq_true] at q117
              obtain ⟨rfl, rfl⟩ := q117
              refine go_if_eq rfl (tgt := 127) (by decide) (fun c120 => ?_) (fun c120 => ?_)
              · refine go_iconst rfl ?_
                have f5 := f1
                refine go_iast rfl rfl (by omega) (by omega) ?_
                refine go_aload_n rfl rfl ?_
                refine go_getR rfl f_X2_21 rfl rfl ?_ -- setOut
                refine go_aload_n rfl rfl ?_
                refine go_getI rfl f_X2_37 rfl rfl rfl ?_ -- men
                simp only [ab_hs_f, ne_eq, Nat.reduceEqDiff, not_false_eq_true]
                refine go_aload_n rfl rfl ?_
                refine go_iload_n rfl rfl ?_
                refine go_iconst rfl ?_
                refine go_iadd rfl (by unfold ab_iok; omega) ?_
                refine go_cV1I (M' := m_X2_number) rfl l_X2_51 k_X2_number (s_X2_number (by first | exact hb | (simp only [ab_hs_f, ne_eq, Nat.reduceEqDiff, not_false_eq_true]; exact hb)) (by omega)) rfl rfl rfl rfl (by decide) (Nat.le_of_ble_eq_true rfl) (fun z141 h141 q141 => ?_) -- X2_number
                try simp only [ab_hs_f, ne_eq, Nat.reduceEqDiff, not_false_eq_true] at q141
                obtain ⟨rfl, rfl⟩ := q141
                rw [if_pos (show _ ∧ _ from ⟨f3.1, by rw [show a + 3 + 1 = a + 4 by omega]; exact f3.2⟩)]
                refine go_iast rfl rfl (by omega) (by omega) ?_
                refine go_aload_n rfl rfl ?_
                refine go_dup rfl ?_
                refine go_getI rfl f_X2_37 rfl rfl rfl ?_ -- men
                simp only [ab_hs_f, ne_eq, Nat.reduceEqDiff, not_false_eq_true]
                refine go_iconst rfl ?_
                refine go_iadd rfl (by unfold ab_iok; omega) ?_
                refine go_putI rfl f_X2_37 rfl rfl rfl ?_ -- men
                refine go_iconst rfl ?_
                exact go_iret rfl (Or.inl rfl) ⟨_, rfl, by rw [rd_put_man]; unfold ps_man; rw [show ps_mw (h 2) (h 1 5) (h 1 7) a (rd_ps h) = -1 by unfold ps_mw; rw [if_neg (show ¬ 6 ≤ (rd_ps h).1 by show ¬ 6 ≤ h 1 8; omega)]; rw [if_neg (show ¬ rd_wr (h 2) (h 1 5) a 0 (h 1 7) ≠ -1 from fun q => q c24)]; rw [if_neg (show ¬ rd_bool (ps_tkn (rd_ps h) (rd_num (h 2) a)) = 1 by rw [rd_f f2]; omega)]; rw [if_neg (show ¬ (¬ rd_isB (h 2) (h 1 5) (a + 2) 117 ∧ ¬ rd_isB (h 2) (h 1 5) (a + 2) 100) from fun q => q.2 (rd_n1 c64))]; exact c84]; rw [if_pos rfl, if_neg (rd_n0 c52)]; exact ⟨rfl, rfl⟩⟩
              · refine go_iconst rfl ?_
                refine go_goto rfl (tgt := 128) (by decide) ?_
                have f5 := f1
                refine go_iast rfl rfl (by omega) (by omega) ?_
                refine go_aload_n rfl rfl ?_
                refine go_getR rfl f_X2_21 rfl rfl ?_ -- setOut
                refine go_aload_n rfl rfl ?_
                refine go_getI rfl f_X2_37 rfl rfl rfl ?_ -- men
                simp only [ab_hs_f, ne_eq, Nat.reduceEqDiff, not_false_eq_true]
                refine go_aload_n rfl rfl ?_
                refine go_iload_n rfl rfl ?_
                refine go_iconst rfl ?_
                refine go_iadd rfl (by unfold ab_iok; omega) ?_
                refine go_cV1I (M' := m_X2_number) rfl l_X2_51 k_X2_number (s_X2_number (by first | exact hb | (simp only [ab_hs_f, ne_eq, Nat.reduceEqDiff, not_false_eq_true]; exact hb)) (by omega)) rfl rfl rfl rfl (by decide) (Nat.le_of_ble_eq_true rfl) (fun z141 h141 q141 => ?_) -- X2_number
                try simp only [ab_hs_f, ne_eq, Nat.reduceEqDiff, not_false_eq_true] at q141
                obtain ⟨rfl, rfl⟩ := q141
                rw [if_pos (show _ ∧ _ from ⟨f3.1, by rw [show a + 3 + 1 = a + 4 by omega]; exact f3.2⟩)]
                refine go_iast rfl rfl (by omega) (by omega) ?_
                refine go_aload_n rfl rfl ?_
                refine go_dup rfl ?_
                refine go_getI rfl f_X2_37 rfl rfl rfl ?_ -- men
                simp only [ab_hs_f, ne_eq, Nat.reduceEqDiff, not_false_eq_true]
                refine go_iconst rfl ?_
                refine go_iadd rfl (by unfold ab_iok; omega) ?_
                refine go_putI rfl f_X2_37 rfl rfl rfl ?_ -- men
                refine go_iconst rfl ?_
                exact go_iret rfl (Or.inl rfl) ⟨_, rfl, absurd (rd_n1 c120) (rd_n0 c52)⟩
            · refine go_iload_n rfl rfl ?_
              exact go_iret rfl (Or.inl rfl) ⟨_, rfl, by unfold ps_man; rw [show ps_mw (h 2) (h 1 5) (h 1 7) a (rd_ps h) = rd_wr (h 2) (h 1 5) (a + 3) 0 40 by unfold ps_mw; rw [if_neg (show ¬ 6 ≤ (rd_ps h).1 by show ¬ 6 ≤ h 1 8; omega)]; rw [if_neg (show ¬ rd_wr (h 2) (h 1 5) a 0 (h 1 7) ≠ -1 from fun q => q c24)]; rw [if_neg (show ¬ rd_bool (ps_tkn (rd_ps h) (rd_num (h 2) a)) = 1 by rw [rd_f f2]; omega)]; rw [if_neg (show ¬ (¬ rd_isB (h 2) (h 1 5) (a + 2) 117 ∧ ¬ rd_isB (h 2) (h 1 5) (a + 2) 100) from fun q => q.2 (rd_n1 c64))]]; rw [if_neg c84]; exact ⟨rfl, (rd_put_self h).symm⟩⟩
          · refine go_iload_n rfl rfl ?_
            refine go_iconst rfl ?_
            refine go_iadd rfl (by unfold ab_iok; omega) ?_
            exact go_iret rfl (Or.inl rfl) ⟨_, rfl, by unfold ps_man; rw [show ps_mw (h 2) (h 1 5) (h 1 7) a (rd_ps h) = a + 2 by unfold ps_mw; rw [if_neg (show ¬ 6 ≤ (rd_ps h).1 by show ¬ 6 ≤ h 1 8; omega)]; rw [if_neg (show ¬ rd_wr (h 2) (h 1 5) a 0 (h 1 7) ≠ -1 from fun q => q c24)]; rw [if_neg (show ¬ rd_bool (ps_tkn (rd_ps h) (rd_num (h 2) a)) = 1 by rw [rd_f f2]; omega)]; rw [if_pos (show ¬ rd_isB (h 2) (h 1 5) (a + 2) 117 ∧ ¬ rd_isB (h 2) (h 1 5) (a + 2) 100 from ⟨rd_n0 c52, rd_n0 c64⟩)]]; rw [if_neg (by omega)]; exact ⟨rfl, (rd_put_self h).symm⟩⟩
      · refine go_iload_n rfl rfl ?_
        exact go_iret rfl (Or.inl rfl) ⟨_, rfl, by unfold ps_man; rw [show ps_mw (h 2) (h 1 5) (h 1 7) a (rd_ps h) = a by unfold ps_mw; rw [if_neg (show ¬ 6 ≤ (rd_ps h).1 by show ¬ 6 ≤ h 1 8; omega)]; rw [if_neg (show ¬ rd_wr (h 2) (h 1 5) a 0 (h 1 7) ≠ -1 from fun q => q c24)]; rw [if_pos (rd_t (rd_n1 c38))]]; rw [if_neg (by omega)]; exact ⟨rfl, (rd_put_self h).symm⟩⟩
    · refine go_iload_n rfl rfl ?_
      exact go_iret rfl (Or.inl rfl) ⟨_, rfl, by unfold ps_man; rw [show ps_mw (h 2) (h 1 5) (h 1 7) a (rd_ps h) = rd_wr (h 2) (h 1 5) a 0 (h 1 7) by unfold ps_mw; rw [if_neg (show ¬ 6 ≤ (rd_ps h).1 by show ¬ 6 ≤ h 1 8; omega)]; rw [if_pos c24]]; rw [if_neg c24]; exact ⟨rfl, (rd_put_self h).symm⟩⟩
  · refine go_iload_n rfl rfl ?_
    exact go_iret rfl (Or.inl rfl) ⟨_, rfl, by unfold ps_man; rw [show ps_mw (h 2) (h 1 5) (h 1 7) a (rd_ps h) = a by unfold ps_mw; rw [if_pos (show 6 ≤ (rd_ps h).1 by show 6 ≤ h 1 8; omega)]]; rw [if_neg (by omega)]; exact ⟨rfl, (rd_put_self h).symm⟩⟩
