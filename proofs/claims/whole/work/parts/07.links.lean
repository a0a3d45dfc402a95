/-! the links: fields, methods, constants, by their places in the tables (a program wrote this part: tools/gen7.py) -/
theorem ab_t1 {i : Nat} {w : Cond} (h0 : tables_1_1[i]? = some w) (hw : goodWord w = true) : w ∈ ab_tb := by
  have h := List.mem_of_getElem? h0
  exact List.mem_filter.mpr ⟨List.mem_append_right _ (show w ∈ tables_1_1 ++ (tables_1_2 ++ (tables_1_3 ++ (tables_1_4 ++ tables_1_5))) from List.mem_append_left _ h), hw⟩
theorem ab_n1 {i : Nat} {w : Cond} (h0 : tables_1_1[i]? = some w) (hw : ab_isN w = true) : w ∈ ab_nw := by
  have h := List.mem_of_getElem? h0
  exact List.mem_filter.mpr ⟨List.mem_append_right _ (show w ∈ tables_1_1 ++ (tables_1_2 ++ (tables_1_3 ++ (tables_1_4 ++ tables_1_5))) from List.mem_append_left _ h), hw⟩
theorem ab_t2 {i : Nat} {w : Cond} (h0 : tables_1_2[i]? = some w) (hw : goodWord w = true) : w ∈ ab_tb := by
  have h := List.mem_of_getElem? h0
  exact List.mem_filter.mpr ⟨List.mem_append_right _ (show w ∈ tables_1_1 ++ (tables_1_2 ++ (tables_1_3 ++ (tables_1_4 ++ tables_1_5))) from List.mem_append_right _ (List.mem_append_left _ h)), hw⟩
theorem ab_n2 {i : Nat} {w : Cond} (h0 : tables_1_2[i]? = some w) (hw : ab_isN w = true) : w ∈ ab_nw := by
  have h := List.mem_of_getElem? h0
  exact List.mem_filter.mpr ⟨List.mem_append_right _ (show w ∈ tables_1_1 ++ (tables_1_2 ++ (tables_1_3 ++ (tables_1_4 ++ tables_1_5))) from List.mem_append_right _ (List.mem_append_left _ h)), hw⟩
theorem ab_t3 {i : Nat} {w : Cond} (h0 : tables_1_3[i]? = some w) (hw : goodWord w = true) : w ∈ ab_tb := by
  have h := List.mem_of_getElem? h0
  exact List.mem_filter.mpr ⟨List.mem_append_right _ (show w ∈ tables_1_1 ++ (tables_1_2 ++ (tables_1_3 ++ (tables_1_4 ++ tables_1_5))) from List.mem_append_right _ (List.mem_append_right _ (List.mem_append_left _ h))), hw⟩
theorem ab_n3 {i : Nat} {w : Cond} (h0 : tables_1_3[i]? = some w) (hw : ab_isN w = true) : w ∈ ab_nw := by
  have h := List.mem_of_getElem? h0
  exact List.mem_filter.mpr ⟨List.mem_append_right _ (show w ∈ tables_1_1 ++ (tables_1_2 ++ (tables_1_3 ++ (tables_1_4 ++ tables_1_5))) from List.mem_append_right _ (List.mem_append_right _ (List.mem_append_left _ h))), hw⟩
theorem ab_t4 {i : Nat} {w : Cond} (h0 : tables_1_4[i]? = some w) (hw : goodWord w = true) : w ∈ ab_tb := by
  have h := List.mem_of_getElem? h0
  exact List.mem_filter.mpr ⟨List.mem_append_right _ (show w ∈ tables_1_1 ++ (tables_1_2 ++ (tables_1_3 ++ (tables_1_4 ++ tables_1_5))) from List.mem_append_right _ (List.mem_append_right _ (List.mem_append_right _ (List.mem_append_left _ h)))), hw⟩
theorem ab_n4 {i : Nat} {w : Cond} (h0 : tables_1_4[i]? = some w) (hw : ab_isN w = true) : w ∈ ab_nw := by
  have h := List.mem_of_getElem? h0
  exact List.mem_filter.mpr ⟨List.mem_append_right _ (show w ∈ tables_1_1 ++ (tables_1_2 ++ (tables_1_3 ++ (tables_1_4 ++ tables_1_5))) from List.mem_append_right _ (List.mem_append_right _ (List.mem_append_right _ (List.mem_append_left _ h)))), hw⟩
theorem ab_t5 {i : Nat} {w : Cond} (h0 : tables_1_5[i]? = some w) (hw : goodWord w = true) : w ∈ ab_tb := by
  have h := List.mem_of_getElem? h0
  exact List.mem_filter.mpr ⟨List.mem_append_right _ (show w ∈ tables_1_1 ++ (tables_1_2 ++ (tables_1_3 ++ (tables_1_4 ++ tables_1_5))) from List.mem_append_right _ (List.mem_append_right _ (List.mem_append_right _ (List.mem_append_right _ (h))))), hw⟩
theorem ab_n5 {i : Nat} {w : Cond} (h0 : tables_1_5[i]? = some w) (hw : ab_isN w = true) : w ∈ ab_nw := by
  have h := List.mem_of_getElem? h0
  exact List.mem_filter.mpr ⟨List.mem_append_right _ (show w ∈ tables_1_1 ++ (tables_1_2 ++ (tables_1_3 ++ (tables_1_4 ++ tables_1_5))) from List.mem_append_right _ (List.mem_append_right _ (List.mem_append_right _ (List.mem_append_right _ (h))))), hw⟩
theorem f_X2_9 : ab_FL RX2 9 2 0 0 "[I" true := ⟨_, _, _, rfl, by decide, rfl, rfl, rfl, Or.inl (ab_t1 (i := 28) rfl rfl)⟩
theorem f_X2_15 : ab_FL RX2 15 2 1 1 "[I" true := ⟨_, _, _, rfl, by decide, rfl, rfl, rfl, Or.inl (ab_t1 (i := 29) rfl rfl)⟩
theorem f_X2_18 : ab_FL RX2 18 2 2 2 "[I" true := ⟨_, _, _, rfl, by decide, rfl, rfl, rfl, Or.inl (ab_t1 (i := 32) rfl rfl)⟩
theorem f_X2_21 : ab_FL RX2 21 2 3 3 "[I" true := ⟨_, _, _, rfl, by decide, rfl, rfl, rfl, Or.inl (ab_t1 (i := 35) rfl rfl)⟩
theorem f_X2_24 : ab_FL RX2 24 2 4 4 "[I" true := ⟨_, _, _, rfl, by decide, rfl, rfl, rfl, Or.inl (ab_t1 (i := 38) rfl rfl)⟩
theorem f_X2_27 : ab_FL RX2 27 2 5 5 "I" false := ⟨_, _, _, rfl, by decide, rfl, rfl, rfl, Or.inl (ab_t1 (i := 40) rfl rfl)⟩
theorem f_X2_31 : ab_FL RX2 31 2 6 6 "I" false := ⟨_, _, _, rfl, by decide, rfl, rfl, rfl, Or.inl (ab_t1 (i := 42) rfl rfl)⟩
theorem f_X2_34 : ab_FL RX2 34 2 7 7 "I" false := ⟨_, _, _, rfl, by decide, rfl, rfl, rfl, Or.inl (ab_t1 (i := 44) rfl rfl)⟩
theorem f_X2_37 : ab_FL RX2 37 2 8 8 "I" false := ⟨_, _, _, rfl, by decide, rfl, rfl, rfl, Or.inl (ab_t1 (i := 47) rfl rfl)⟩
theorem f_X2_40 : ab_FL RX2 40 2 9 9 "I" false := ⟨_, _, _, rfl, by decide, rfl, rfl, rfl, Or.inl (ab_t1 (i := 50) rfl rfl)⟩
theorem f_X4_9 : ab_FL RX4 9 4 0 0 "[I" true := ⟨_, _, _, rfl, by decide, rfl, rfl, rfl, Or.inl (ab_t1 (i := 80) rfl rfl)⟩
theorem f_X4_15 : ab_FL RX4 15 4 1 1 "[I" true := ⟨_, _, _, rfl, by decide, rfl, rfl, rfl, Or.inl (ab_t1 (i := 83) rfl rfl)⟩
theorem f_X4_18 : ab_FL RX4 18 4 2 2 "I" false := ⟨_, _, _, rfl, by decide, rfl, rfl, rfl, Or.inl (ab_t1 (i := 86) rfl rfl)⟩
theorem f_X4_22 : ab_FL RX4 22 4 3 3 "I" false := ⟨_, _, _, rfl, by decide, rfl, rfl, rfl, Or.inl (ab_t1 (i := 89) rfl rfl)⟩
theorem f_X5_9 : ab_FL RX5 9 5 0 0 "[I" true := ⟨_, _, _, rfl, by decide, rfl, rfl, rfl, Or.inl (ab_t1 (i := 107) rfl rfl)⟩
theorem f_X5_15 : ab_FL RX5 15 5 1 1 "[I" true := ⟨_, _, _, rfl, by decide, rfl, rfl, rfl, Or.inl (ab_t1 (i := 109) rfl rfl)⟩
theorem f_X5_18 : ab_FL RX5 18 5 2 2 "[I" true := ⟨_, _, _, rfl, by decide, rfl, rfl, rfl, Or.inl (ab_t1 (i := 110) rfl rfl)⟩
theorem f_X5_21 : ab_FL RX5 21 5 3 3 "[I" true := ⟨_, _, _, rfl, by decide, rfl, rfl, rfl, Or.inl (ab_t1 (i := 112) rfl rfl)⟩
theorem f_X5_24 : ab_FL RX5 24 5 4 4 "[I" true := ⟨_, _, _, rfl, by decide, rfl, rfl, rfl, Or.inl (ab_t1 (i := 115) rfl rfl)⟩
theorem f_X5_27 : ab_FL RX5 27 5 5 5 "[I" true := ⟨_, _, _, rfl, by decide, rfl, rfl, rfl, Or.inl (ab_t1 (i := 116) rfl rfl)⟩
theorem f_X5_30 : ab_FL RX5 30 5 6 6 "[I" true := ⟨_, _, _, rfl, by decide, rfl, rfl, rfl, Or.inl (ab_t1 (i := 117) rfl rfl)⟩
theorem f_X5_33 : ab_FL RX5 33 5 7 7 "I" false := ⟨_, _, _, rfl, by decide, rfl, rfl, rfl, Or.inl (ab_t1 (i := 118) rfl rfl)⟩
theorem f_X5_37 : ab_FL RX5 37 5 8 8 "I" false := ⟨_, _, _, rfl, by decide, rfl, rfl, rfl, Or.inl (ab_t1 (i := 119) rfl rfl)⟩
theorem f_X5_40 : ab_FL RX5 40 5 9 9 "I" false := ⟨_, _, _, rfl, by decide, rfl, rfl, rfl, Or.inl (ab_t1 (i := 120) rfl rfl)⟩
theorem f_X5_43 : ab_FL RX5 43 5 10 10 "I" false := ⟨_, _, _, rfl, by decide, rfl, rfl, rfl, Or.inl (ab_t1 (i := 121) rfl rfl)⟩
theorem f_X5_46 : ab_FL RX5 46 5 11 11 "I" false := ⟨_, _, _, rfl, by decide, rfl, rfl, rfl, Or.inl (ab_t1 (i := 122) rfl rfl)⟩
theorem f_X5_49 : ab_FL RX5 49 5 12 12 "I" false := ⟨_, _, _, rfl, by decide, rfl, rfl, rfl, Or.inl (ab_t1 (i := 123) rfl rfl)⟩
theorem f_X5_52 : ab_FL RX5 52 5 13 13 "J" false := ⟨_, _, _, rfl, by decide, rfl, rfl, rfl, Or.inl (ab_t1 (i := 125) rfl rfl)⟩
theorem f_X0_11 : ab_FL RX0 11 0 0 0 "[[I" true := ⟨_, _, _, rfl, by decide, rfl, rfl, rfl, Or.inl (ab_t1 (i := 164) rfl rfl)⟩
theorem f_X0_16 : ab_FL RX0 16 0 1 1 "[[I" true := ⟨_, _, _, rfl, by decide, rfl, rfl, rfl, Or.inl (ab_t1 (i := 166) rfl rfl)⟩
theorem f_X0_19 : ab_FL RX0 19 0 2 2 "[[I" true := ⟨_, _, _, rfl, by decide, rfl, rfl, rfl, Or.inl (ab_t1 (i := 168) rfl rfl)⟩
theorem f_X0_22 : ab_FL RX0 22 0 3 3 "[[I" true := ⟨_, _, _, rfl, by decide, rfl, rfl, rfl, Or.inl (ab_t1 (i := 170) rfl rfl)⟩
theorem f_X0_25 : ab_FL RX0 25 0 4 4 "[J" true := ⟨_, _, _, rfl, by decide, rfl, rfl, rfl, Or.inl (ab_t1 (i := 172) rfl rfl)⟩
theorem f_X0_29 : ab_FL RX0 29 0 5 5 "I" false := ⟨_, _, _, rfl, by decide, rfl, rfl, rfl, Or.inl (ab_t1 (i := 174) rfl rfl)⟩
theorem f_X1_9 : ab_FL RX1 9 1 0 0 "[I" true := ⟨_, _, _, rfl, by decide, rfl, rfl, rfl, Or.inl (ab_t1 (i := 196) rfl rfl)⟩
theorem f_X1_15 : ab_FL RX1 15 1 1 1 "[I" true := ⟨_, _, _, rfl, by decide, rfl, rfl, rfl, Or.inl (ab_t1 (i := 198) rfl rfl)⟩
theorem f_X1_18 : ab_FL RX1 18 1 2 2 "[I" true := ⟨_, _, _, rfl, by decide, rfl, rfl, rfl, Or.inl (ab_t1 (i := 200) rfl rfl)⟩
theorem f_X1_21 : ab_FL RX1 21 1 3 3 "[I" true := ⟨_, _, _, rfl, by decide, rfl, rfl, rfl, Or.inl (ab_t1 (i := 202) rfl rfl)⟩
theorem f_X1_24 : ab_FL RX1 24 1 4 4 "[I" true := ⟨_, _, _, rfl, by decide, rfl, rfl, rfl, Or.inl (ab_t1 (i := 204) rfl rfl)⟩
theorem f_X1_27 : ab_FL RX1 27 1 5 5 "I" false := ⟨_, _, _, rfl, by decide, rfl, rfl, rfl, Or.inl (ab_t1 (i := 205) rfl rfl)⟩
theorem f_X1_31 : ab_FL RX1 31 1 6 6 "I" false := ⟨_, _, _, rfl, by decide, rfl, rfl, rfl, Or.inl (ab_t1 (i := 207) rfl rfl)⟩
theorem f_X3_11 : ab_FL RX3 11 3 0 0 "[[I" true := ⟨_, _, _, rfl, by decide, rfl, rfl, rfl, Or.inl (ab_t1 (i := 231) rfl rfl)⟩
theorem f_X3_16 : ab_FL RX3 16 3 1 1 "[I" true := ⟨_, _, _, rfl, by decide, rfl, rfl, rfl, Or.inl (ab_t1 (i := 233) rfl rfl)⟩
theorem f_X3_20 : ab_FL RX3 20 3 2 2 "[I" true := ⟨_, _, _, rfl, by decide, rfl, rfl, rfl, Or.inl (ab_t1 (i := 235) rfl rfl)⟩
theorem f_X6_10 : ab_FL RX6 10 6 0 0 "LPostmenMeet$Road;" true := ⟨_, _, _, rfl, by decide, rfl, rfl, rfl, Or.inl (ab_t2 (i := 4) rfl rfl)⟩
theorem f_X6_19 : ab_FL RX6 19 6 1 1 "LPostmenMeet$Use;" true := ⟨_, _, _, rfl, by decide, rfl, rfl, rfl, Or.inl (ab_t2 (i := 5) rfl rfl)⟩
theorem f_X6_26 : ab_FL RX6 26 6 2 2 "LPostmenMeet$Walk;" true := ⟨_, _, _, rfl, by decide, rfl, rfl, rfl, Or.inl (ab_t2 (i := 6) rfl rfl)⟩
theorem f_X6_33 : ab_FL RX6 33 6 3 3 "LPostmenMeet$Course;" true := ⟨_, _, _, rfl, by decide, rfl, rfl, rfl, Or.inl (ab_t2 (i := 7) rfl rfl)⟩
theorem f_X6_40 : ab_FL RX6 40 6 4 4 "LPostmenMeet$Letters;" true := ⟨_, _, _, rfl, by decide, rfl, rfl, rfl, Or.inl (ab_t2 (i := 8) rfl rfl)⟩
theorem f_X6_47 : ab_FL RX6 47 6 5 5 "LPostmenMeet$Sheets;" true := ⟨_, _, _, rfl, by decide, rfl, rfl, rfl, Or.inl (ab_t2 (i := 9) rfl rfl)⟩
theorem f_X6_51 : ab_FL RX6 51 6 6 6 "Z" false := ⟨_, _, _, rfl, by decide, rfl, rfl, rfl, Or.inl (ab_t2 (i := 10) rfl rfl)⟩
theorem f_X6_55 : ab_FL RX6 55 6 7 7 "I" false := ⟨_, _, _, rfl, by decide, rfl, rfl, rfl, Or.inl (ab_t2 (i := 11) rfl rfl)⟩
theorem f_X7_7 : ab_FL RX7 7 7 0 0 "[I" true := ⟨_, _, _, rfl, by decide, rfl, rfl, rfl, Or.inl (ab_t3 (i := 192) rfl rfl)⟩
theorem f_X7_13 : ab_FL RX7 13 7 1 1 "[I" true := ⟨_, _, _, rfl, by decide, rfl, rfl, rfl, Or.inl (ab_t3 (i := 193) rfl rfl)⟩
theorem f_X7_16 : ab_FL RX7 16 7 2 2 "[I" true := ⟨_, _, _, rfl, by decide, rfl, rfl, rfl, Or.inl (ab_t3 (i := 194) rfl rfl)⟩
theorem f_X7_19 : ab_FL RX7 19 7 3 3 "[I" true := ⟨_, _, _, rfl, by decide, rfl, rfl, rfl, Or.inl (ab_t3 (i := 195) rfl rfl)⟩
theorem f_X7_74 : ab_FL RX7 74 7 4 4 "I" false := ⟨_, _, _, rfl, by decide, rfl, rfl, rfl, Or.inl (ab_t3 (i := 196) rfl rfl)⟩
theorem f_X7_22 : ab_FL RX7 22 7 5 5 "[I" true := ⟨_, _, _, rfl, by decide, rfl, rfl, rfl, Or.inl (ab_t3 (i := 197) rfl rfl)⟩
theorem f_X7_101 : ab_FL RX7 101 7 6 6 "I" false := ⟨_, _, _, rfl, by decide, rfl, rfl, rfl, Or.inl (ab_t3 (i := 198) rfl rfl)⟩
theorem f_X7_104 : ab_FL RX7 104 7 7 7 "I" false := ⟨_, _, _, rfl, by decide, rfl, rfl, rfl, Or.inl (ab_t3 (i := 199) rfl rfl)⟩
theorem f_X7_107 : ab_FL RX7 107 7 8 8 "I" false := ⟨_, _, _, rfl, by decide, rfl, rfl, rfl, Or.inl (ab_t3 (i := 200) rfl rfl)⟩
theorem f_X7_110 : ab_FL RX7 110 7 9 9 "I" false := ⟨_, _, _, rfl, by decide, rfl, rfl, rfl, Or.inl (ab_t3 (i := 201) rfl rfl)⟩
theorem f_X7_25 : ab_FL RX7 25 7 10 10 "[I" true := ⟨_, _, _, rfl, by decide, rfl, rfl, rfl, Or.inl (ab_t3 (i := 202) rfl rfl)⟩
theorem f_X7_28 : ab_FL RX7 28 7 11 11 "[I" true := ⟨_, _, _, rfl, by decide, rfl, rfl, rfl, Or.inl (ab_t3 (i := 203) rfl rfl)⟩
theorem f_X7_31 : ab_FL RX7 31 7 12 12 "[I" true := ⟨_, _, _, rfl, by decide, rfl, rfl, rfl, Or.inl (ab_t3 (i := 204) rfl rfl)⟩
theorem f_X7_113 : ab_FL RX7 113 7 13 13 "I" false := ⟨_, _, _, rfl, by decide, rfl, rfl, rfl, Or.inl (ab_t3 (i := 205) rfl rfl)⟩
theorem f_X7_34 : ab_FL RX7 34 7 14 14 "[I" true := ⟨_, _, _, rfl, by decide, rfl, rfl, rfl, Or.inl (ab_t3 (i := 206) rfl rfl)⟩
theorem f_X7_37 : ab_FL RX7 37 7 15 15 "[I" true := ⟨_, _, _, rfl, by decide, rfl, rfl, rfl, Or.inl (ab_t3 (i := 207) rfl rfl)⟩
theorem f_X7_40 : ab_FL RX7 40 7 16 16 "[I" true := ⟨_, _, _, rfl, by decide, rfl, rfl, rfl, Or.inl (ab_t3 (i := 208) rfl rfl)⟩
theorem f_X7_43 : ab_FL RX7 43 7 17 17 "[I" true := ⟨_, _, _, rfl, by decide, rfl, rfl, rfl, Or.inl (ab_t3 (i := 209) rfl rfl)⟩
theorem f_X7_156 : ab_FL RX7 156 7 18 18 "I" false := ⟨_, _, _, rfl, by decide, rfl, rfl, rfl, Or.inl (ab_t3 (i := 210) rfl rfl)⟩
theorem f_X7_46 : ab_FL RX7 46 7 19 19 "[I" true := ⟨_, _, _, rfl, by decide, rfl, rfl, rfl, Or.inl (ab_t3 (i := 211) rfl rfl)⟩
theorem f_X7_49 : ab_FL RX7 49 7 20 20 "[I" true := ⟨_, _, _, rfl, by decide, rfl, rfl, rfl, Or.inl (ab_t3 (i := 212) rfl rfl)⟩
theorem f_X7_52 : ab_FL RX7 52 7 21 21 "[I" true := ⟨_, _, _, rfl, by decide, rfl, rfl, rfl, Or.inl (ab_t3 (i := 213) rfl rfl)⟩
theorem f_X7_55 : ab_FL RX7 55 7 22 22 "[Z" true := ⟨_, _, _, rfl, by decide, rfl, rfl, rfl, Or.inl (ab_t3 (i := 214) rfl rfl)⟩
theorem f_X7_59 : ab_FL RX7 59 7 23 23 "[I" true := ⟨_, _, _, rfl, by decide, rfl, rfl, rfl, Or.inl (ab_t3 (i := 215) rfl rfl)⟩
theorem f_X7_62 : ab_FL RX7 62 7 24 24 "[I" true := ⟨_, _, _, rfl, by decide, rfl, rfl, rfl, Or.inl (ab_t3 (i := 216) rfl rfl)⟩
theorem f_X7_229 : ab_FL RX7 229 7 25 25 "I" false := ⟨_, _, _, rfl, by decide, rfl, rfl, rfl, Or.inl (ab_t3 (i := 217) rfl rfl)⟩
theorem f_X7_232 : ab_FL RX7 232 7 26 26 "I" false := ⟨_, _, _, rfl, by decide, rfl, rfl, rfl, Or.inl (ab_t3 (i := 218) rfl rfl)⟩
theorem f_X7_271 : ab_FL RX7 271 7 27 27 "I" false := ⟨_, _, _, rfl, by decide, rfl, rfl, rfl, Or.inl (ab_t3 (i := 219) rfl rfl)⟩
theorem f_X7_65 : ab_FL RX7 65 7 28 28 "[I" true := ⟨_, _, _, rfl, by decide, rfl, rfl, rfl, Or.inl (ab_t3 (i := 220) rfl rfl)⟩
theorem f_X5_66 : ab_FL RX5 66 2 1 1 "[I" true := ⟨_, _, _, rfl, by decide, rfl, rfl, rfl, Or.inr ⟨_, ab_n1 (i := 30) rfl rfl⟩⟩
theorem f_X6_76 : ab_FL RX6 76 2 1 1 "[I" true := ⟨_, _, _, rfl, by decide, rfl, rfl, rfl, Or.inr ⟨_, ab_n1 (i := 31) rfl rfl⟩⟩
theorem f_X5_69 : ab_FL RX5 69 2 2 2 "[I" true := ⟨_, _, _, rfl, by decide, rfl, rfl, rfl, Or.inr ⟨_, ab_n1 (i := 33) rfl rfl⟩⟩
theorem f_X6_80 : ab_FL RX6 80 2 2 2 "[I" true := ⟨_, _, _, rfl, by decide, rfl, rfl, rfl, Or.inr ⟨_, ab_n1 (i := 34) rfl rfl⟩⟩
theorem f_X5_70 : ab_FL RX5 70 2 3 3 "[I" true := ⟨_, _, _, rfl, by decide, rfl, rfl, rfl, Or.inr ⟨_, ab_n1 (i := 36) rfl rfl⟩⟩
theorem f_X6_83 : ab_FL RX6 83 2 3 3 "[I" true := ⟨_, _, _, rfl, by decide, rfl, rfl, rfl, Or.inr ⟨_, ab_n1 (i := 37) rfl rfl⟩⟩
theorem f_X6_89 : ab_FL RX6 89 2 4 4 "[I" true := ⟨_, _, _, rfl, by decide, rfl, rfl, rfl, Or.inr ⟨_, ab_n1 (i := 39) rfl rfl⟩⟩
theorem f_X6_59 : ab_FL RX6 59 2 5 5 "I" false := ⟨_, _, _, rfl, by decide, rfl, rfl, rfl, Or.inr ⟨_, ab_n1 (i := 41) rfl rfl⟩⟩
theorem f_X6_69 : ab_FL RX6 69 2 6 6 "I" false := ⟨_, _, _, rfl, by decide, rfl, rfl, rfl, Or.inr ⟨_, ab_n1 (i := 43) rfl rfl⟩⟩
theorem f_X5_59 : ab_FL RX5 59 2 7 7 "I" false := ⟨_, _, _, rfl, by decide, rfl, rfl, rfl, Or.inr ⟨_, ab_n1 (i := 45) rfl rfl⟩⟩
theorem f_X6_262 : ab_FL RX6 262 2 7 7 "I" false := ⟨_, _, _, rfl, by decide, rfl, rfl, rfl, Or.inr ⟨_, ab_n1 (i := 46) rfl rfl⟩⟩
theorem f_X5_56 : ab_FL RX5 56 2 8 8 "I" false := ⟨_, _, _, rfl, by decide, rfl, rfl, rfl, Or.inr ⟨_, ab_n1 (i := 48) rfl rfl⟩⟩
theorem f_X6_176 : ab_FL RX6 176 2 8 8 "I" false := ⟨_, _, _, rfl, by decide, rfl, rfl, rfl, Or.inr ⟨_, ab_n1 (i := 49) rfl rfl⟩⟩
theorem f_X6_86 : ab_FL RX6 86 2 9 9 "I" false := ⟨_, _, _, rfl, by decide, rfl, rfl, rfl, Or.inr ⟨_, ab_n1 (i := 51) rfl rfl⟩⟩
theorem f_X5_71 : ab_FL RX5 71 4 0 0 "[I" true := ⟨_, _, _, rfl, by decide, rfl, rfl, rfl, Or.inr ⟨_, ab_n1 (i := 81) rfl rfl⟩⟩
theorem f_X6_98 : ab_FL RX6 98 4 0 0 "[I" true := ⟨_, _, _, rfl, by decide, rfl, rfl, rfl, Or.inr ⟨_, ab_n1 (i := 82) rfl rfl⟩⟩
theorem f_X5_74 : ab_FL RX5 74 4 1 1 "[I" true := ⟨_, _, _, rfl, by decide, rfl, rfl, rfl, Or.inr ⟨_, ab_n1 (i := 84) rfl rfl⟩⟩
theorem f_X6_101 : ab_FL RX6 101 4 1 1 "[I" true := ⟨_, _, _, rfl, by decide, rfl, rfl, rfl, Or.inr ⟨_, ab_n1 (i := 85) rfl rfl⟩⟩
theorem f_X5_62 : ab_FL RX5 62 4 2 2 "I" false := ⟨_, _, _, rfl, by decide, rfl, rfl, rfl, Or.inr ⟨_, ab_n1 (i := 87) rfl rfl⟩⟩
theorem f_X6_92 : ab_FL RX6 92 4 2 2 "I" false := ⟨_, _, _, rfl, by decide, rfl, rfl, rfl, Or.inr ⟨_, ab_n1 (i := 88) rfl rfl⟩⟩
theorem f_X5_65 : ab_FL RX5 65 4 3 3 "I" false := ⟨_, _, _, rfl, by decide, rfl, rfl, rfl, Or.inr ⟨_, ab_n1 (i := 90) rfl rfl⟩⟩
theorem f_X6_95 : ab_FL RX6 95 4 3 3 "I" false := ⟨_, _, _, rfl, by decide, rfl, rfl, rfl, Or.inr ⟨_, ab_n1 (i := 91) rfl rfl⟩⟩
theorem f_X0_38 : ab_FL RX0 38 5 0 0 "[I" true := ⟨_, _, _, rfl, by decide, rfl, rfl, rfl, Or.inr ⟨_, ab_n1 (i := 108) rfl rfl⟩⟩
theorem f_X0_41 : ab_FL RX0 41 5 2 2 "[I" true := ⟨_, _, _, rfl, by decide, rfl, rfl, rfl, Or.inr ⟨_, ab_n1 (i := 111) rfl rfl⟩⟩
theorem f_X0_43 : ab_FL RX0 43 5 3 3 "[I" true := ⟨_, _, _, rfl, by decide, rfl, rfl, rfl, Or.inr ⟨_, ab_n1 (i := 113) rfl rfl⟩⟩
theorem f_X1_56 : ab_FL RX1 56 5 3 3 "[I" true := ⟨_, _, _, rfl, by decide, rfl, rfl, rfl, Or.inr ⟨_, ab_n1 (i := 114) rfl rfl⟩⟩
theorem f_X1_49 : ab_FL RX1 49 5 12 12 "I" false := ⟨_, _, _, rfl, by decide, rfl, rfl, rfl, Or.inr ⟨_, ab_n1 (i := 124) rfl rfl⟩⟩
theorem f_X0_45 : ab_FL RX0 45 5 13 13 "J" false := ⟨_, _, _, rfl, by decide, rfl, rfl, rfl, Or.inr ⟨_, ab_n1 (i := 126) rfl rfl⟩⟩
theorem f_X6_110 : ab_FL RX6 110 0 0 0 "[[I" true := ⟨_, _, _, rfl, by decide, rfl, rfl, rfl, Or.inr ⟨_, ab_n1 (i := 165) rfl rfl⟩⟩
theorem f_X6_114 : ab_FL RX6 114 0 1 1 "[[I" true := ⟨_, _, _, rfl, by decide, rfl, rfl, rfl, Or.inr ⟨_, ab_n1 (i := 167) rfl rfl⟩⟩
theorem f_X6_116 : ab_FL RX6 116 0 2 2 "[[I" true := ⟨_, _, _, rfl, by decide, rfl, rfl, rfl, Or.inr ⟨_, ab_n1 (i := 169) rfl rfl⟩⟩
theorem f_X6_139 : ab_FL RX6 139 0 3 3 "[[I" true := ⟨_, _, _, rfl, by decide, rfl, rfl, rfl, Or.inr ⟨_, ab_n1 (i := 171) rfl rfl⟩⟩
theorem f_X6_126 : ab_FL RX6 126 0 4 4 "[J" true := ⟨_, _, _, rfl, by decide, rfl, rfl, rfl, Or.inr ⟨_, ab_n1 (i := 173) rfl rfl⟩⟩
theorem f_X6_320 : ab_FL RX6 320 0 5 5 "I" false := ⟨_, _, _, rfl, by decide, rfl, rfl, rfl, Or.inr ⟨_, ab_n1 (i := 175) rfl rfl⟩⟩
theorem f_X6_209 : ab_FL RX6 209 1 0 0 "[I" true := ⟨_, _, _, rfl, by decide, rfl, rfl, rfl, Or.inr ⟨_, ab_n1 (i := 197) rfl rfl⟩⟩
theorem f_X6_212 : ab_FL RX6 212 1 1 1 "[I" true := ⟨_, _, _, rfl, by decide, rfl, rfl, rfl, Or.inr ⟨_, ab_n1 (i := 199) rfl rfl⟩⟩
theorem f_X6_215 : ab_FL RX6 215 1 2 2 "[I" true := ⟨_, _, _, rfl, by decide, rfl, rfl, rfl, Or.inr ⟨_, ab_n1 (i := 201) rfl rfl⟩⟩
theorem f_X6_221 : ab_FL RX6 221 1 3 3 "[I" true := ⟨_, _, _, rfl, by decide, rfl, rfl, rfl, Or.inr ⟨_, ab_n1 (i := 203) rfl rfl⟩⟩
theorem f_X6_188 : ab_FL RX6 188 1 5 5 "I" false := ⟨_, _, _, rfl, by decide, rfl, rfl, rfl, Or.inr ⟨_, ab_n1 (i := 206) rfl rfl⟩⟩
theorem f_X6_348 : ab_FL RX6 348 1 6 6 "I" false := ⟨_, _, _, rfl, by decide, rfl, rfl, rfl, Or.inr ⟨_, ab_n1 (i := 208) rfl rfl⟩⟩
theorem f_X6_204 : ab_FL RX6 204 3 0 0 "[[I" true := ⟨_, _, _, rfl, by decide, rfl, rfl, rfl, Or.inr ⟨_, ab_n1 (i := 232) rfl rfl⟩⟩
theorem f_X6_245 : ab_FL RX6 245 3 1 1 "[I" true := ⟨_, _, _, rfl, by decide, rfl, rfl, rfl, Or.inr ⟨_, ab_n1 (i := 234) rfl rfl⟩⟩
theorem f_X6_207 : ab_FL RX6 207 3 2 2 "[I" true := ⟨_, _, _, rfl, by decide, rfl, rfl, rfl, Or.inr ⟨_, ab_n1 (i := 236) rfl rfl⟩⟩
theorem v_X6_again : Cond.instanceMethod yX6_again ∈ ab_tb ∧ Cond.selects yX6_again.cls yX6_again yX6_again ∈ ab_tb := ⟨ab_t2 (i := 208) rfl rfl, ab_t2 (i := 209) rfl rfl⟩
theorem v_X6_allMen : Cond.instanceMethod yX6_allMen ∈ ab_tb ∧ Cond.selects yX6_allMen.cls yX6_allMen yX6_allMen ∈ ab_tb := ⟨ab_t2 (i := 114) rfl rfl, ab_sel_in (i := 12) (q := (yX6_allMen, _)) rfl rfl⟩
theorem v_X6_bag : Cond.instanceMethod yX6_bag ∈ ab_tb ∧ Cond.selects yX6_bag.cls yX6_bag yX6_bag ∈ ab_tb := ⟨ab_t2 (i := 163) rfl rfl, ab_t2 (i := 164) rfl rfl⟩
theorem v_X6_begins : Cond.instanceMethod yX6_begins ∈ ab_tb ∧ Cond.selects yX6_begins.cls yX6_begins yX6_begins ∈ ab_tb := ⟨ab_t2 (i := 82) rfl rfl, ab_t2 (i := 83) rfl rfl⟩
theorem v_X6_came : Cond.instanceMethod yX6_came ∈ ab_tb ∧ Cond.selects yX6_came.cls yX6_came yX6_came ∈ ab_tb := ⟨ab_t3 (i := 34) rfl rfl, ab_t3 (i := 35) rfl rfl⟩
theorem v_X6_carried : Cond.instanceMethod yX6_carried ∈ ab_tb ∧ Cond.selects yX6_carried.cls yX6_carried yX6_carried ∈ ab_tb := ⟨ab_t2 (i := 191) rfl rfl, ab_t2 (i := 192) rfl rfl⟩
theorem v_X6_copy : Cond.instanceMethod yX6_copy ∈ ab_tb ∧ Cond.selects yX6_copy.cls yX6_copy yX6_copy ∈ ab_tb := ⟨ab_t3 (i := 139) rfl rfl, ab_t3 (i := 140) rfl rfl⟩
theorem v_X6_count : Cond.instanceMethod yX6_count ∈ ab_tb ∧ Cond.selects yX6_count.cls yX6_count yX6_count ∈ ab_tb := ⟨ab_t3 (i := 157) rfl rfl, ab_t3 (i := 158) rfl rfl⟩
theorem v_X6_digest : Cond.instanceMethod yX6_digest ∈ ab_tb ∧ Cond.selects yX6_digest.cls yX6_digest yX6_digest ∈ ab_tb := ⟨ab_t3 (i := 165) rfl rfl, ab_t3 (i := 166) rfl rfl⟩
theorem v_X6_fault : Cond.instanceMethod yX6_fault ∈ ab_tb ∧ Cond.selects yX6_fault.cls yX6_fault yX6_fault ∈ ab_tb := ⟨ab_t2 (i := 78) rfl rfl, ab_t2 (i := 79) rfl rfl⟩
theorem v_X6_fewest : Cond.instanceMethod yX6_fewest ∈ ab_tb ∧ Cond.selects yX6_fewest.cls yX6_fewest yX6_fewest ∈ ab_tb := ⟨ab_t3 (i := 29) rfl rfl, ab_t3 (i := 30) rfl rfl⟩
theorem v_X6_find : Cond.instanceMethod yX6_find ∈ ab_tb ∧ Cond.selects yX6_find.cls yX6_find yX6_find ∈ ab_tb := ⟨ab_t3 (i := 58) rfl rfl, ab_sel_in (i := 38) (q := (yX6_find, _)) rfl rfl⟩
theorem v_X6_forget : Cond.instanceMethod yX6_forget ∈ ab_tb ∧ Cond.selects yX6_forget.cls yX6_forget yX6_forget ∈ ab_tb := ⟨ab_t3 (i := 61) rfl rfl, ab_t3 (i := 62) rfl rfl⟩
theorem v_X6_get : Cond.instanceMethod yX6_get ∈ ab_tb ∧ Cond.selects yX6_get.cls yX6_get yX6_get ∈ ab_tb := ⟨ab_t3 (i := 134) rfl rfl, ab_t3 (i := 135) rfl rfl⟩
theorem v_X6_giveIn : Cond.instanceMethod yX6_giveIn ∈ ab_tb ∧ Cond.selects yX6_giveIn.cls yX6_giveIn yX6_giveIn ∈ ab_tb := ⟨ab_t2 (i := 237) rfl rfl, ab_t2 (i := 238) rfl rfl⟩
theorem v_X6_house : Cond.instanceMethod yX6_house ∈ ab_tb ∧ Cond.selects yX6_house.cls yX6_house yX6_house ∈ ab_tb := ⟨ab_t2 (i := 90) rfl rfl, ab_t2 (i := 91) rfl rfl⟩
theorem v_X6_housesVisited : Cond.instanceMethod yX6_housesVisited ∈ ab_tb ∧ Cond.selects yX6_housesVisited.cls yX6_housesVisited yX6_housesVisited ∈ ab_tb := ⟨ab_t3 (i := 22) rfl rfl, ab_sel_in (i := 33) (q := (yX6_housesVisited, _)) rfl rfl⟩
theorem v_X6_isMan : Cond.instanceMethod yX6_isMan ∈ ab_tb ∧ Cond.selects yX6_isMan.cls yX6_isMan yX6_isMan ∈ ab_tb := ⟨ab_t2 (i := 87) rfl rfl, ab_sel_in (i := 10) (q := (yX6_isMan, _)) rfl rfl⟩
theorem v_X6_isPace : Cond.instanceMethod yX6_isPace ∈ ab_tb ∧ Cond.selects yX6_isPace.cls yX6_isPace yX6_isPace ∈ ab_tb := ⟨ab_t2 (i := 221) rfl rfl, ab_sel_in (i := 26) (q := (yX6_isPace, _)) rfl rfl⟩
theorem v_X6_isTrue : Cond.instanceMethod yX6_isTrue ∈ ab_tb ∧ Cond.selects yX6_isTrue.cls yX6_isTrue yX6_isTrue ∈ ab_tb := ⟨ab_t2 (i := 199) rfl rfl, ab_t2 (i := 200) rfl rfl⟩
theorem v_X6_late : Cond.instanceMethod yX6_late ∈ ab_tb ∧ Cond.selects yX6_late.cls yX6_late yX6_late ∈ ab_tb := ⟨ab_t3 (i := 65) rfl rfl, ab_t3 (i := 66) rfl rfl⟩
theorem v_X6_law : Cond.instanceMethod yX6_law ∈ ab_tb ∧ Cond.selects yX6_law.cls yX6_law yX6_law ∈ ab_tb := ⟨ab_t2 (i := 94) rfl rfl, ab_t2 (i := 95) rfl rfl⟩
theorem v_X6_lay : Cond.instanceMethod yX6_lay ∈ ab_tb ∧ Cond.selects yX6_lay.cls yX6_lay yX6_lay ∈ ab_tb := ⟨ab_t3 (i := 121) rfl rfl, ab_t3 (i := 122) rfl rfl⟩
theorem v_X6_letter : Cond.instanceMethod yX6_letter ∈ ab_tb ∧ Cond.selects yX6_letter.cls yX6_letter yX6_letter ∈ ab_tb := ⟨ab_t2 (i := 216) rfl rfl, ab_t2 (i := 217) rfl rfl⟩
theorem v_X6_lose : Cond.instanceMethod yX6_lose ∈ ab_tb ∧ Cond.selects yX6_lose.cls yX6_lose yX6_lose ∈ ab_tb := ⟨ab_t3 (i := 113) rfl rfl, ab_t3 (i := 114) rfl rfl⟩
theorem v_X6_man : Cond.instanceMethod yX6_man ∈ ab_tb ∧ Cond.selects yX6_man.cls yX6_man yX6_man ∈ ab_tb := ⟨ab_t2 (i := 102) rfl rfl, ab_t2 (i := 103) rfl rfl⟩
theorem v_X6_meetings : Cond.instanceMethod yX6_meetings ∈ ab_tb ∧ Cond.selects yX6_meetings.cls yX6_meetings yX6_meetings ∈ ab_tb := ⟨ab_t2 (i := 181) rfl rfl, ab_t2 (i := 182) rfl rfl⟩
theorem v_X6_met : Cond.instanceMethod yX6_met ∈ ab_tb ∧ Cond.selects yX6_met.cls yX6_met yX6_met ∈ ab_tb := ⟨ab_t2 (i := 176) rfl rfl, ab_t2 (i := 177) rfl rfl⟩
theorem v_X6_namesOff : Cond.instanceMethod yX6_namesOff ∈ ab_tb ∧ Cond.selects yX6_namesOff.cls yX6_namesOff yX6_namesOff ∈ ab_tb := ⟨ab_t2 (i := 195) rfl rfl, ab_t2 (i := 196) rfl rfl⟩
theorem v_X6_read : Cond.instanceMethod yX6_read ∈ ab_tb ∧ Cond.selects yX6_read.cls yX6_read yX6_read ∈ ab_tb := ⟨ab_t3 (i := 46) rfl rfl, ab_t3 (i := 47) rfl rfl⟩
theorem v_X6_refresh : Cond.instanceMethod yX6_refresh ∈ ab_tb ∧ Cond.selects yX6_refresh.cls yX6_refresh yX6_refresh ∈ ab_tb := ⟨ab_t2 (i := 110) rfl rfl, ab_sel_in (i := 11) (q := (yX6_refresh, _)) rfl rfl⟩
theorem v_X6_serve : Cond.instanceMethod yX6_serve ∈ ab_tb ∧ Cond.selects yX6_serve.cls yX6_serve yX6_serve ∈ ab_tb := ⟨ab_t3 (i := 17) rfl rfl, ab_sel_in (i := 32) (q := (yX6_serve, _)) rfl rfl⟩
theorem v_X6_served : Cond.instanceMethod yX6_served ∈ ab_tb ∧ Cond.selects yX6_served.cls yX6_served yX6_served ∈ ab_tb := ⟨ab_t3 (i := 9) rfl rfl, ab_t3 (i := 10) rfl rfl⟩
theorem v_X6_sheet : Cond.instanceMethod yX6_sheet ∈ ab_tb ∧ Cond.selects yX6_sheet.cls yX6_sheet yX6_sheet ∈ ab_tb := ⟨ab_t3 (i := 101) rfl rfl, ab_t3 (i := 102) rfl rfl⟩
theorem v_X6_stand : Cond.instanceMethod yX6_stand ∈ ab_tb ∧ Cond.selects yX6_stand.cls yX6_stand yX6_stand ∈ ab_tb := ⟨ab_t2 (i := 98) rfl rfl, ab_t2 (i := 99) rfl rfl⟩
theorem v_X6_stood : Cond.instanceMethod yX6_stood ∈ ab_tb ∧ Cond.selects yX6_stood.cls yX6_stood yX6_stood ∈ ab_tb := ⟨ab_t3 (i := 75) rfl rfl, ab_t3 (i := 76) rfl rfl⟩
theorem v_X6_stoodBy : Cond.instanceMethod yX6_stoodBy ∈ ab_tb ∧ Cond.selects yX6_stoodBy.cls yX6_stoodBy yX6_stoodBy ∈ ab_tb := ⟨ab_t3 (i := 80) rfl rfl, ab_sel_in (i := 40) (q := (yX6_stoodBy, _)) rfl rfl⟩
theorem v_X6_type : Cond.instanceMethod yX6_type ∈ ab_tb ∧ Cond.selects yX6_type.cls yX6_type yX6_type ∈ ab_tb := ⟨ab_t2 (i := 30) rfl rfl, ab_t2 (i := 31) rfl rfl⟩
theorem v_X6_wipe : Cond.instanceMethod yX6_wipe ∈ ab_tb ∧ Cond.selects yX6_wipe.cls yX6_wipe yX6_wipe ∈ ab_tb := ⟨ab_t2 (i := 74) rfl rfl, ab_t2 (i := 75) rfl rfl⟩
theorem v_X6_write : Cond.instanceMethod yX6_write ∈ ab_tb ∧ Cond.selects yX6_write.cls yX6_write yX6_write ∈ ab_tb := ⟨ab_t3 (i := 150) rfl rfl, ab_t3 (i := 151) rfl rfl⟩
theorem v_X0_asAtFirst : Cond.instanceMethod yX0_asAtFirst ∈ ab_tb ∧ Cond.selects yX0_asAtFirst.cls yX0_asAtFirst yX0_asAtFirst ∈ ab_tb := ⟨ab_t2 (i := 213) rfl rfl, ab_sel_in (i := 25) (q := (yX0_asAtFirst, _)) rfl rfl⟩
theorem v_X0_asNamesOff : Cond.instanceMethod yX0_asNamesOff ∈ ab_tb ∧ Cond.selects yX0_asNamesOff.cls yX0_asNamesOff yX0_asNamesOff ∈ ab_tb := ⟨ab_t2 (i := 204) rfl rfl, ab_sel_in (i := 24) (q := (yX0_asNamesOff, _)) rfl rfl⟩
theorem v_X0_bagComes : Cond.instanceMethod yX0_bagComes ∈ ab_tb ∧ Cond.selects yX0_bagComes.cls yX0_bagComes yX0_bagComes ∈ ab_tb := ⟨ab_t2 (i := 234) rfl rfl, ab_sel_in (i := 29) (q := (yX0_bagComes, _)) rfl rfl⟩
theorem v_X0_bagPlace : Cond.instanceMethod yX0_bagPlace ∈ ab_tb ∧ Cond.selects yX0_bagPlace.cls yX0_bagPlace yX0_bagPlace ∈ ab_tb := ⟨ab_t2 (i := 168) rfl rfl, ab_sel_in (i := 22) (q := (yX0_bagPlace, _)) rfl rfl⟩
theorem v_X0_bagThere : Cond.instanceMethod yX0_bagThere ∈ ab_tb ∧ Cond.selects yX0_bagThere.cls yX0_bagThere yX0_bagThere ∈ ab_tb := ⟨ab_t2 (i := 229) rfl rfl, ab_sel_in (i := 28) (q := (yX0_bagThere, _)) rfl rfl⟩
theorem v_X0_bagsThere : Cond.instanceMethod yX0_bagsThere ∈ ab_tb ∧ Cond.selects yX0_bagsThere.cls yX0_bagsThere yX0_bagsThere ∈ ab_tb := ⟨ab_t3 (i := 6) rfl rfl, ab_sel_in (i := 31) (q := (yX0_bagsThere, _)) rfl rfl⟩
theorem v_X0_comes : Cond.instanceMethod yX0_comes ∈ ab_tb ∧ Cond.selects yX0_comes.cls yX0_comes yX0_comes ∈ ab_tb := ⟨ab_t3 (i := 70) rfl rfl, ab_sel_in (i := 39) (q := (yX0_comes, _)) rfl rfl⟩
theorem v_X0_holder : Cond.instanceMethod yX0_holder ∈ ab_tb ∧ Cond.selects yX0_holder.cls yX0_holder yX0_holder ∈ ab_tb := ⟨ab_t2 (i := 172) rfl rfl, ab_sel_in (i := 23) (q := (yX0_holder, _)) rfl rfl⟩
theorem v_X0_latestMinute : Cond.instanceMethod yX0_latestMinute ∈ ab_tb ∧ Cond.selects yX0_latestMinute.cls yX0_latestMinute yX0_latestMinute ∈ ab_tb := ⟨ab_t3 (i := 2) rfl rfl, ab_sel_in (i := 30) (q := (yX0_latestMinute, _)) rfl rfl⟩
theorem v_X0_recordAlone : Cond.instanceMethod yX0_recordAlone ∈ ab_tb ∧ Cond.selects yX0_recordAlone.cls yX0_recordAlone yX0_recordAlone ∈ ab_tb := ⟨ab_t2 (i := 159) rfl rfl, ab_sel_in (i := 21) (q := (yX0_recordAlone, _)) rfl rfl⟩
theorem v_X0_recordTogether : Cond.instanceMethod yX0_recordTogether ∈ ab_tb ∧ Cond.selects yX0_recordTogether.cls yX0_recordTogether yX0_recordTogether ∈ ab_tb := ⟨ab_t2 (i := 126) rfl rfl, ab_sel_in (i := 15) (q := (yX0_recordTogether, _)) rfl rfl⟩
theorem v_X0_taken : Cond.instanceMethod yX0_taken ∈ ab_tb ∧ Cond.selects yX0_taken.cls yX0_taken yX0_taken ∈ ab_tb := ⟨ab_t2 (i := 225) rfl rfl, ab_sel_in (i := 27) (q := (yX0_taken, _)) rfl rfl⟩
theorem v_X1_add : Cond.instanceMethod yX1_add ∈ ab_tb ∧ Cond.selects yX1_add.cls yX1_add yX1_add ∈ ab_tb := ⟨ab_t3 (i := 43) rfl rfl, ab_sel_in (i := 36) (q := (yX1_add, _)) rfl rfl⟩
theorem v_X1_comeAsTold : Cond.instanceMethod yX1_comeAsTold ∈ ab_tb ∧ Cond.selects yX1_comeAsTold.cls yX1_comeAsTold yX1_comeAsTold ∈ ab_tb := ⟨ab_t3 (i := 85) rfl rfl, ab_sel_in (i := 41) (q := (yX1_comeAsTold, _)) rfl rfl⟩
theorem v_X1_comesNow : Cond.instanceMethod yX1_comesNow ∈ ab_tb ∧ Cond.selects yX1_comesNow.cls yX1_comesNow yX1_comesNow ∈ ab_tb := ⟨ab_t3 (i := 93) rfl rfl, ab_sel_in (i := 42) (q := (yX1_comesNow, _)) rfl rfl⟩
theorem v_X1_mayBe : Cond.instanceMethod yX1_mayBe ∈ ab_tb ∧ Cond.selects yX1_mayBe.cls yX1_mayBe yX1_mayBe ∈ ab_tb := ⟨ab_t3 (i := 39) rfl rfl, ab_sel_in (i := 35) (q := (yX1_mayBe, _)) rfl rfl⟩
theorem v_X2_append : Cond.instanceMethod yX2_append ∈ ab_tb ∧ Cond.selects yX2_append.cls yX2_append yX2_append ∈ ab_tb := ⟨ab_t2 (i := 35) rfl rfl, ab_sel_in (i := 0) (q := (yX2_append, _)) rfl rfl⟩
theorem v_X2_firstFault : Cond.instanceMethod yX2_firstFault ∈ ab_tb ∧ Cond.selects yX2_firstFault.cls yX2_firstFault yX2_firstFault ∈ ab_tb := ⟨ab_t2 (i := 43) rfl rfl, ab_sel_in (i := 2) (q := (yX2_firstFault, _)) rfl rfl⟩
theorem v_X2_isByte : Cond.instanceMethod yX2_isByte ∈ ab_tb ∧ Cond.selects yX2_isByte.cls yX2_isByte yX2_isByte ∈ ab_tb := ⟨ab_t2 (i := 59) rfl rfl, ab_sel_in (i := 6) (q := (yX2_isByte, _)) rfl rfl⟩
theorem v_X2_isFigure : Cond.instanceMethod yX2_isFigure ∈ ab_tb ∧ Cond.selects yX2_isFigure.cls yX2_isFigure yX2_isFigure ∈ ab_tb := ⟨ab_t2 (i := 51) rfl rfl, ab_sel_in (i := 4) (q := (yX2_isFigure, _)) rfl rfl⟩
theorem v_X2_isTaken : Cond.instanceMethod yX2_isTaken ∈ ab_tb ∧ Cond.selects yX2_isTaken.cls yX2_isTaken yX2_isTaken ∈ ab_tb := ⟨ab_t2 (i := 71) rfl rfl, ab_sel_in (i := 9) (q := (yX2_isTaken, _)) rfl rfl⟩
theorem v_X2_number : Cond.instanceMethod yX2_number ∈ ab_tb ∧ Cond.selects yX2_number.cls yX2_number yX2_number ∈ ab_tb := ⟨ab_t2 (i := 55) rfl rfl, ab_sel_in (i := 5) (q := (yX2_number, _)) rfl rfl⟩
theorem v_X2_parse : Cond.instanceMethod yX2_parse ∈ ab_tb ∧ Cond.selects yX2_parse.cls yX2_parse yX2_parse ∈ ab_tb := ⟨ab_t2 (i := 39) rfl rfl, ab_sel_in (i := 1) (q := (yX2_parse, _)) rfl rfl⟩
theorem v_X2_takeHouse : Cond.instanceMethod yX2_takeHouse ∈ ab_tb ∧ Cond.selects yX2_takeHouse.cls yX2_takeHouse yX2_takeHouse ∈ ab_tb := ⟨ab_t2 (i := 63) rfl rfl, ab_sel_in (i := 7) (q := (yX2_takeHouse, _)) rfl rfl⟩
theorem v_X2_takeMan : Cond.instanceMethod yX2_takeMan ∈ ab_tb ∧ Cond.selects yX2_takeMan.cls yX2_takeMan yX2_takeMan ∈ ab_tb := ⟨ab_t2 (i := 67) rfl rfl, ab_sel_in (i := 8) (q := (yX2_takeMan, _)) rfl rfl⟩
theorem v_X2_wrongNumber : Cond.instanceMethod yX2_wrongNumber ∈ ab_tb ∧ Cond.selects yX2_wrongNumber.cls yX2_wrongNumber yX2_wrongNumber ∈ ab_tb := ⟨ab_t2 (i := 47) rfl rfl, ab_sel_in (i := 3) (q := (yX2_wrongNumber, _)) rfl rfl⟩
theorem v_X3_drop : Cond.instanceMethod yX3_drop ∈ ab_tb ∧ Cond.selects yX3_drop.cls yX3_drop yX3_drop ∈ ab_tb := ⟨ab_t3 (i := 118) rfl rfl, ab_sel_in (i := 45) (q := (yX3_drop, _)) rfl rfl⟩
theorem v_X3_hasRun : Cond.instanceMethod yX3_hasRun ∈ ab_tb ∧ Cond.selects yX3_hasRun.cls yX3_hasRun yX3_hasRun ∈ ab_tb := ⟨ab_t3 (i := 144) rfl rfl, ab_sel_in (i := 48) (q := (yX3_hasRun, _)) rfl rfl⟩
theorem v_X3_isLost : Cond.instanceMethod yX3_isLost ∈ ab_tb ∧ Cond.selects yX3_isLost.cls yX3_isLost yX3_isLost ∈ ab_tb := ⟨ab_t3 (i := 54) rfl rfl, ab_sel_in (i := 37) (q := (yX3_isLost, _)) rfl rfl⟩
theorem v_X3_put : Cond.instanceMethod yX3_put ∈ ab_tb ∧ Cond.selects yX3_put.cls yX3_put yX3_put ∈ ab_tb := ⟨ab_t3 (i := 131) rfl rfl, ab_sel_in (i := 47) (q := (yX3_put, _)) rfl rfl⟩
theorem v_X3_renew : Cond.instanceMethod yX3_renew ∈ ab_tb ∧ Cond.selects yX3_renew.cls yX3_renew yX3_renew ∈ ab_tb := ⟨ab_t3 (i := 109) rfl rfl, ab_sel_in (i := 44) (q := (yX3_renew, _)) rfl rfl⟩
theorem v_X3_wrongItem : Cond.instanceMethod yX3_wrongItem ∈ ab_tb ∧ Cond.selects yX3_wrongItem.cls yX3_wrongItem yX3_wrongItem ∈ ab_tb := ⟨ab_t3 (i := 126) rfl rfl, ab_sel_in (i := 46) (q := (yX3_wrongItem, _)) rfl rfl⟩
theorem v_X4_minutesStood : Cond.instanceMethod yX4_minutesStood ∈ ab_tb ∧ Cond.selects yX4_minutesStood.cls yX4_minutesStood yX4_minutesStood ∈ ab_tb := ⟨ab_t3 (i := 162) rfl rfl, ab_sel_in (i := 49) (q := (yX4_minutesStood, _)) rfl rfl⟩
theorem v_X5_firstThere : Cond.instanceMethod yX5_firstThere ∈ ab_tb ∧ Cond.selects yX5_firstThere.cls yX5_firstThere yX5_firstThere ∈ ab_tb := ⟨ab_t3 (i := 26) rfl rfl, ab_sel_in (i := 34) (q := (yX5_firstThere, _)) rfl rfl⟩
theorem v_X5_goOn : Cond.instanceMethod yX5_goOn ∈ ab_tb ∧ Cond.selects yX5_goOn.cls yX5_goOn yX5_goOn ∈ ab_tb := ⟨ab_t2 (i := 134) rfl rfl, ab_sel_in (i := 17) (q := (yX5_goOn, _)) rfl rfl⟩
theorem v_X5_handRound : Cond.instanceMethod yX5_handRound ∈ ab_tb ∧ Cond.selects yX5_handRound.cls yX5_handRound yX5_handRound ∈ ab_tb := ⟨ab_t2 (i := 152) rfl rfl, ab_sel_in (i := 20) (q := (yX5_handRound, _)) rfl rfl⟩
theorem v_X5_isBagAt : Cond.instanceMethod yX5_isBagAt ∈ ab_tb ∧ Cond.selects yX5_isBagAt.cls yX5_isBagAt yX5_isBagAt ∈ ab_tb := ⟨ab_t3 (i := 98) rfl rfl, ab_sel_in (i := 43) (q := (yX5_isBagAt, _)) rfl rfl⟩
theorem v_X5_isStanding : Cond.instanceMethod yX5_isStanding ∈ ab_tb ∧ Cond.selects yX5_isStanding.cls yX5_isStanding yX5_isStanding ∈ ab_tb := ⟨ab_t2 (i := 138) rfl rfl, ab_sel_in (i := 18) (q := (yX5_isStanding, _)) rfl rfl⟩
theorem v_X5_meet : Cond.instanceMethod yX5_meet ∈ ab_tb ∧ Cond.selects yX5_meet.cls yX5_meet yX5_meet ∈ ab_tb := ⟨ab_t2 (i := 142) rfl rfl, ab_sel_in (i := 19) (q := (yX5_meet, _)) rfl rfl⟩
theorem v_X5_standInstead : Cond.instanceMethod yX5_standInstead ∈ ab_tb ∧ Cond.selects yX5_standInstead.cls yX5_standInstead yX5_standInstead ∈ ab_tb := ⟨ab_t2 (i := 122) rfl rfl, ab_sel_in (i := 14) (q := (yX5_standInstead, _)) rfl rfl⟩
theorem v_X5_start : Cond.instanceMethod yX5_start ∈ ab_tb ∧ Cond.selects yX5_start.cls yX5_start yX5_start ∈ ab_tb := ⟨ab_t2 (i := 118) rfl rfl, ab_sel_in (i := 13) (q := (yX5_start, _)) rfl rfl⟩
theorem v_X5_step : Cond.instanceMethod yX5_step ∈ ab_tb ∧ Cond.selects yX5_step.cls yX5_step yX5_step ∈ ab_tb := ⟨ab_t2 (i := 130) rfl rfl, ab_sel_in (i := 16) (q := (yX5_step, _)) rfl rfl⟩
theorem v_X7_acts : Cond.instanceMethod yX7_acts ∈ ab_tb ∧ Cond.selects yX7_acts.cls yX7_acts yX7_acts ∈ ab_tb := ⟨ab_t4 (i := 191) rfl rfl, ab_sel_in (i := 68) (q := (yX7_acts, _)) rfl rfl⟩
theorem v_X7_again : Cond.instanceMethod yX7_again ∈ ab_tb ∧ Cond.selects yX7_again.cls yX7_again yX7_again ∈ ab_tb := ⟨ab_t5 (i := 26) rfl rfl, ab_t5 (i := 27) rfl rfl⟩
theorem v_X7_againNow : Cond.instanceMethod yX7_againNow ∈ ab_tb ∧ Cond.selects yX7_againNow.cls yX7_againNow yX7_againNow ∈ ab_tb := ⟨ab_t5 (i := 31) rfl rfl, ab_sel_in (i := 81) (q := (yX7_againNow, _)) rfl rfl⟩
theorem v_X7_areTogether : Cond.instanceMethod yX7_areTogether ∈ ab_tb ∧ Cond.selects yX7_areTogether.cls yX7_areTogether yX7_areTogether ∈ ab_tb := ⟨ab_t4 (i := 183) rfl rfl, ab_sel_in (i := 66) (q := (yX7_areTogether, _)) rfl rfl⟩
theorem v_X7_bag : Cond.instanceMethod yX7_bag ∈ ab_tb ∧ Cond.selects yX7_bag.cls yX7_bag yX7_bag ∈ ab_tb := ⟨ab_t4 (i := 210) rfl rfl, ab_t4 (i := 211) rfl rfl⟩
theorem v_X7_bagPlace : Cond.instanceMethod yX7_bagPlace ∈ ab_tb ∧ Cond.selects yX7_bagPlace.cls yX7_bagPlace yX7_bagPlace ∈ ab_tb := ⟨ab_t4 (i := 215) rfl rfl, ab_sel_in (i := 73) (q := (yX7_bagPlace, _)) rfl rfl⟩
theorem v_X7_begins : Cond.instanceMethod yX7_begins ∈ ab_tb ∧ Cond.selects yX7_begins.cls yX7_begins yX7_begins ∈ ab_tb := ⟨ab_t4 (i := 125) rfl rfl, ab_t4 (i := 126) rfl rfl⟩
theorem v_X7_beginsOf : Cond.instanceMethod yX7_beginsOf ∈ ab_tb ∧ Cond.selects yX7_beginsOf.cls yX7_beginsOf yX7_beginsOf ∈ ab_tb := ⟨ab_t4 (i := 134) rfl rfl, ab_sel_in (i := 60) (q := (yX7_beginsOf, _)) rfl rfl⟩
theorem v_X7_came : Cond.instanceMethod yX7_came ∈ ab_tb ∧ Cond.selects yX7_came.cls yX7_came yX7_came ∈ ab_tb := ⟨ab_t5 (i := 85) rfl rfl, ab_t5 (i := 86) rfl rfl⟩
theorem v_X7_carried : Cond.instanceMethod yX7_carried ∈ ab_tb ∧ Cond.selects yX7_carried.cls yX7_carried yX7_carried ∈ ab_tb := ⟨ab_t4 (i := 238) rfl rfl, ab_t4 (i := 239) rfl rfl⟩
theorem v_X7_carriedOf : Cond.instanceMethod yX7_carriedOf ∈ ab_tb ∧ Cond.selects yX7_carriedOf.cls yX7_carriedOf yX7_carriedOf ∈ ab_tb := ⟨ab_t5 (i := 3) rfl rfl, ab_sel_in (i := 77) (q := (yX7_carriedOf, _)) rfl rfl⟩
theorem v_X7_clears : Cond.instanceMethod yX7_clears ∈ ab_tb ∧ Cond.selects yX7_clears.cls yX7_clears yX7_clears ∈ ab_tb := ⟨ab_t4 (i := 100) rfl rfl, ab_sel_in (i := 53) (q := (yX7_clears, _)) rfl rfl⟩
theorem v_X7_copy : Cond.instanceMethod yX7_copy ∈ ab_tb ∧ Cond.selects yX7_copy.cls yX7_copy yX7_copy ∈ ab_tb := ⟨ab_t4 (i := 78) rfl rfl, ab_t4 (i := 79) rfl rfl⟩
theorem v_X7_count : Cond.instanceMethod yX7_count ∈ ab_tb ∧ Cond.selects yX7_count.cls yX7_count yX7_count ∈ ab_tb := ⟨ab_t5 (i := 116) rfl rfl, ab_t5 (i := 117) rfl rfl⟩
theorem v_X7_digest : Cond.instanceMethod yX7_digest ∈ ab_tb ∧ Cond.selects yX7_digest.cls yX7_digest yX7_digest ∈ ab_tb := ⟨ab_t5 (i := 120) rfl rfl, ab_t5 (i := 121) rfl rfl⟩
theorem v_X7_fault : Cond.instanceMethod yX7_fault ∈ ab_tb ∧ Cond.selects yX7_fault.cls yX7_fault yX7_fault ∈ ab_tb := ⟨ab_t4 (i := 91) rfl rfl, ab_t4 (i := 92) rfl rfl⟩
theorem v_X7_fewest : Cond.instanceMethod yX7_fewest ∈ ab_tb ∧ Cond.selects yX7_fewest.cls yX7_fewest yX7_fewest ∈ ab_tb := ⟨ab_t5 (i := 74) rfl rfl, ab_t5 (i := 75) rfl rfl⟩
theorem v_X7_fewestOf : Cond.instanceMethod yX7_fewestOf ∈ ab_tb ∧ Cond.selects yX7_fewestOf.cls yX7_fewestOf yX7_fewestOf ∈ ab_tb := ⟨ab_t5 (i := 79) rfl rfl, ab_sel_in (i := 87) (q := (yX7_fewestOf, _)) rfl rfl⟩
theorem v_X7_find : Cond.instanceMethod yX7_find ∈ ab_tb ∧ Cond.selects yX7_find.cls yX7_find yX7_find ∈ ab_tb := ⟨ab_t4 (i := 163) rfl rfl, ab_sel_in (i := 61) (q := (yX7_find, _)) rfl rfl⟩
theorem v_X7_findAlone : Cond.instanceMethod yX7_findAlone ∈ ab_tb ∧ Cond.selects yX7_findAlone.cls yX7_findAlone yX7_findAlone ∈ ab_tb := ⟨ab_t5 (i := 15) rfl rfl, ab_sel_in (i := 79) (q := (yX7_findAlone, _)) rfl rfl⟩
theorem v_X7_findGroup : Cond.instanceMethod yX7_findGroup ∈ ab_tb ∧ Cond.selects yX7_findGroup.cls yX7_findGroup yX7_findGroup ∈ ab_tb := ⟨ab_t4 (i := 179) rfl rfl, ab_sel_in (i := 65) (q := (yX7_findGroup, _)) rfl rfl⟩
theorem v_X7_findLetter : Cond.instanceMethod yX7_findLetter ∈ ab_tb ∧ Cond.selects yX7_findLetter.cls yX7_findLetter yX7_findLetter ∈ ab_tb := ⟨ab_t5 (i := 47) rfl rfl, ab_sel_in (i := 83) (q := (yX7_findLetter, _)) rfl rfl⟩
theorem v_X7_finds : Cond.instanceMethod yX7_finds ∈ ab_tb ∧ Cond.selects yX7_finds.cls yX7_finds yX7_finds ∈ ab_tb := ⟨ab_t4 (i := 55) rfl rfl, ab_sel_in (i := 50) (q := (yX7_finds, _)) rfl rfl⟩
theorem v_X7_forget : Cond.instanceMethod yX7_forget ∈ ab_tb ∧ Cond.selects yX7_forget.cls yX7_forget yX7_forget ∈ ab_tb := ⟨ab_t5 (i := 96) rfl rfl, ab_t5 (i := 97) rfl rfl⟩
theorem v_X7_get : Cond.instanceMethod yX7_get ∈ ab_tb ∧ Cond.selects yX7_get.cls yX7_get yX7_get ∈ ab_tb := ⟨ab_t4 (i := 73) rfl rfl, ab_t4 (i := 74) rfl rfl⟩
theorem v_X7_giveIn : Cond.instanceMethod yX7_giveIn ∈ ab_tb ∧ Cond.selects yX7_giveIn.cls yX7_giveIn yX7_giveIn ∈ ab_tb := ⟨ab_t5 (i := 50) rfl rfl, ab_t5 (i := 51) rfl rfl⟩
theorem v_X7_giveInOf : Cond.instanceMethod yX7_giveInOf ∈ ab_tb ∧ Cond.selects yX7_giveInOf.cls yX7_giveInOf yX7_giveInOf ∈ ab_tb := ⟨ab_t5 (i := 55) rfl rfl, ab_sel_in (i := 84) (q := (yX7_giveInOf, _)) rfl rfl⟩
theorem v_X7_goes : Cond.instanceMethod yX7_goes ∈ ab_tb ∧ Cond.selects yX7_goes.cls yX7_goes yX7_goes ∈ ab_tb := ⟨ab_t4 (i := 199) rfl rfl, ab_sel_in (i := 70) (q := (yX7_goes, _)) rfl rfl⟩
theorem v_X7_here : Cond.instanceMethod yX7_here ∈ ab_tb ∧ Cond.selects yX7_here.cls yX7_here yX7_here ∈ ab_tb := ⟨ab_t4 (i := 108) rfl rfl, ab_sel_in (i := 55) (q := (yX7_here, _)) rfl rfl⟩
theorem v_X7_holder : Cond.instanceMethod yX7_holder ∈ ab_tb ∧ Cond.selects yX7_holder.cls yX7_holder yX7_holder ∈ ab_tb := ⟨ab_t4 (i := 219) rfl rfl, ab_sel_in (i := 74) (q := (yX7_holder, _)) rfl rfl⟩
theorem v_X7_house : Cond.instanceMethod yX7_house ∈ ab_tb ∧ Cond.selects yX7_house.cls yX7_house yX7_house ∈ ab_tb := ⟨ab_t4 (i := 137) rfl rfl, ab_t4 (i := 138) rfl rfl⟩
theorem v_X7_isMan : Cond.instanceMethod yX7_isMan ∈ ab_tb ∧ Cond.selects yX7_isMan.cls yX7_isMan yX7_isMan ∈ ab_tb := ⟨ab_t4 (i := 130) rfl rfl, ab_sel_in (i := 59) (q := (yX7_isMan, _)) rfl rfl⟩
theorem v_X7_isNew : Cond.instanceMethod yX7_isNew ∈ ab_tb ∧ Cond.selects yX7_isNew.cls yX7_isNew yX7_isNew ∈ ab_tb := ⟨ab_t4 (i := 187) rfl rfl, ab_sel_in (i := 67) (q := (yX7_isNew, _)) rfl rfl⟩
theorem v_X7_isPace : Cond.instanceMethod yX7_isPace ∈ ab_tb ∧ Cond.selects yX7_isPace.cls yX7_isPace yX7_isPace ∈ ab_tb := ⟨ab_t5 (i := 39) rfl rfl, ab_sel_in (i := 82) (q := (yX7_isPace, _)) rfl rfl⟩
theorem v_X7_isServed : Cond.instanceMethod yX7_isServed ∈ ab_tb ∧ Cond.selects yX7_isServed.cls yX7_isServed yX7_isServed ∈ ab_tb := ⟨ab_t5 (i := 71) rfl rfl, ab_sel_in (i := 86) (q := (yX7_isServed, _)) rfl rfl⟩
theorem v_X7_isTaken : Cond.instanceMethod yX7_isTaken ∈ ab_tb ∧ Cond.selects yX7_isTaken.cls yX7_isTaken yX7_isTaken ∈ ab_tb := ⟨ab_t4 (i := 122) rfl rfl, ab_sel_in (i := 58) (q := (yX7_isTaken, _)) rfl rfl⟩
theorem v_X7_isThere : Cond.instanceMethod yX7_isThere ∈ ab_tb ∧ Cond.selects yX7_isThere.cls yX7_isThere yX7_isThere ∈ ab_tb := ⟨ab_t4 (i := 175) rfl rfl, ab_sel_in (i := 64) (q := (yX7_isThere, _)) rfl rfl⟩
theorem v_X7_isTrue : Cond.instanceMethod yX7_isTrue ∈ ab_tb ∧ Cond.selects yX7_isTrue.cls yX7_isTrue yX7_isTrue ∈ ab_tb := ⟨ab_t5 (i := 18) rfl rfl, ab_t5 (i := 19) rfl rfl⟩
theorem v_X7_isTrueOf : Cond.instanceMethod yX7_isTrueOf ∈ ab_tb ∧ Cond.selects yX7_isTrueOf.cls yX7_isTrueOf yX7_isTrueOf ∈ ab_tb := ⟨ab_t5 (i := 23) rfl rfl, ab_sel_in (i := 80) (q := (yX7_isTrueOf, _)) rfl rfl⟩
theorem v_X7_lacks : Cond.instanceMethod yX7_lacks ∈ ab_tb ∧ Cond.selects yX7_lacks.cls yX7_lacks yX7_lacks ∈ ab_tb := ⟨ab_t4 (i := 67) rfl rfl, ab_sel_in (i := 51) (q := (yX7_lacks, _)) rfl rfl⟩
theorem v_X7_late : Cond.instanceMethod yX7_late ∈ ab_tb ∧ Cond.selects yX7_late.cls yX7_late yX7_late ∈ ab_tb := ⟨ab_t5 (i := 100) rfl rfl, ab_t5 (i := 101) rfl rfl⟩
theorem v_X7_lateOf : Cond.instanceMethod yX7_lateOf ∈ ab_tb ∧ Cond.selects yX7_lateOf.cls yX7_lateOf yX7_lateOf ∈ ab_tb := ⟨ab_t5 (i := 105) rfl rfl, ab_sel_in (i := 88) (q := (yX7_lateOf, _)) rfl rfl⟩
theorem v_X7_law : Cond.instanceMethod yX7_law ∈ ab_tb ∧ Cond.selects yX7_law.cls yX7_law yX7_law ∈ ab_tb := ⟨ab_t4 (i := 141) rfl rfl, ab_t4 (i := 142) rfl rfl⟩
theorem v_X7_lay : Cond.instanceMethod yX7_lay ∈ ab_tb ∧ Cond.selects yX7_lay.cls yX7_lay yX7_lay ∈ ab_tb := ⟨ab_t4 (i := 62) rfl rfl, ab_t4 (i := 63) rfl rfl⟩
theorem v_X7_letter : Cond.instanceMethod yX7_letter ∈ ab_tb ∧ Cond.selects yX7_letter.cls yX7_letter yX7_letter ∈ ab_tb := ⟨ab_t5 (i := 34) rfl rfl, ab_t5 (i := 35) rfl rfl⟩
theorem v_X7_lose : Cond.instanceMethod yX7_lose ∈ ab_tb ∧ Cond.selects yX7_lose.cls yX7_lose yX7_lose ∈ ab_tb := ⟨ab_t4 (i := 58) rfl rfl, ab_t4 (i := 59) rfl rfl⟩
theorem v_X7_man : Cond.instanceMethod yX7_man ∈ ab_tb ∧ Cond.selects yX7_man.cls yX7_man yX7_man ∈ ab_tb := ⟨ab_t4 (i := 154) rfl rfl, ab_t4 (i := 155) rfl rfl⟩
theorem v_X7_manOf : Cond.instanceMethod yX7_manOf ∈ ab_tb ∧ Cond.selects yX7_manOf.cls yX7_manOf yX7_manOf ∈ ab_tb := ⟨ab_t4 (i := 207) rfl rfl, ab_sel_in (i := 72) (q := (yX7_manOf, _)) rfl rfl⟩
theorem v_X7_meet : Cond.instanceMethod yX7_meet ∈ ab_tb ∧ Cond.selects yX7_meet.cls yX7_meet yX7_meet ∈ ab_tb := ⟨ab_t4 (i := 171) rfl rfl, ab_sel_in (i := 63) (q := (yX7_meet, _)) rfl rfl⟩
theorem v_X7_meetings : Cond.instanceMethod yX7_meetings ∈ ab_tb ∧ Cond.selects yX7_meetings.cls yX7_meetings yX7_meetings ∈ ab_tb := ⟨ab_t4 (i := 230) rfl rfl, ab_t4 (i := 231) rfl rfl⟩
theorem v_X7_meetingsOf : Cond.instanceMethod yX7_meetingsOf ∈ ab_tb ∧ Cond.selects yX7_meetingsOf.cls yX7_meetingsOf yX7_meetingsOf ∈ ab_tb := ⟨ab_t4 (i := 235) rfl rfl, ab_sel_in (i := 76) (q := (yX7_meetingsOf, _)) rfl rfl⟩
theorem v_X7_met : Cond.instanceMethod yX7_met ∈ ab_tb ∧ Cond.selects yX7_met.cls yX7_met yX7_met ∈ ab_tb := ⟨ab_t4 (i := 222) rfl rfl, ab_t4 (i := 223) rfl rfl⟩
theorem v_X7_metOf : Cond.instanceMethod yX7_metOf ∈ ab_tb ∧ Cond.selects yX7_metOf.cls yX7_metOf yX7_metOf ∈ ab_tb := ⟨ab_t4 (i := 227) rfl rfl, ab_sel_in (i := 75) (q := (yX7_metOf, _)) rfl rfl⟩
theorem v_X7_namesOff : Cond.instanceMethod yX7_namesOff ∈ ab_tb ∧ Cond.selects yX7_namesOff.cls yX7_namesOff yX7_namesOff ∈ ab_tb := ⟨ab_t5 (i := 6) rfl rfl, ab_t5 (i := 7) rfl rfl⟩
theorem v_X7_namesOffOf : Cond.instanceMethod yX7_namesOffOf ∈ ab_tb ∧ Cond.selects yX7_namesOffOf.cls yX7_namesOffOf yX7_namesOffOf ∈ ab_tb := ⟨ab_t5 (i := 11) rfl rfl, ab_sel_in (i := 78) (q := (yX7_namesOffOf, _)) rfl rfl⟩
theorem v_X7_number : Cond.instanceMethod yX7_number ∈ ab_tb ∧ Cond.selects yX7_number.cls yX7_number yX7_number ∈ ab_tb := ⟨ab_t4 (i := 104) rfl rfl, ab_sel_in (i := 54) (q := (yX7_number, _)) rfl rfl⟩
theorem v_X7_read : Cond.instanceMethod yX7_read ∈ ab_tb ∧ Cond.selects yX7_read.cls yX7_read yX7_read ∈ ab_tb := ⟨ab_t5 (i := 91) rfl rfl, ab_t5 (i := 92) rfl rfl⟩
theorem v_X7_reads : Cond.instanceMethod yX7_reads ∈ ab_tb ∧ Cond.selects yX7_reads.cls yX7_reads yX7_reads ∈ ab_tb := ⟨ab_t4 (i := 96) rfl rfl, ab_sel_in (i := 52) (q := (yX7_reads, _)) rfl rfl⟩
theorem v_X7_readsHouse : Cond.instanceMethod yX7_readsHouse ∈ ab_tb ∧ Cond.selects yX7_readsHouse.cls yX7_readsHouse yX7_readsHouse ∈ ab_tb := ⟨ab_t4 (i := 114) rfl rfl, ab_sel_in (i := 56) (q := (yX7_readsHouse, _)) rfl rfl⟩
theorem v_X7_readsMan : Cond.instanceMethod yX7_readsMan ∈ ab_tb ∧ Cond.selects yX7_readsMan.cls yX7_readsMan yX7_readsMan ∈ ab_tb := ⟨ab_t4 (i := 118) rfl rfl, ab_sel_in (i := 57) (q := (yX7_readsMan, _)) rfl rfl⟩
theorem v_X7_runs : Cond.instanceMethod yX7_runs ∈ ab_tb ∧ Cond.selects yX7_runs.cls yX7_runs yX7_runs ∈ ab_tb := ⟨ab_t4 (i := 167) rfl rfl, ab_sel_in (i := 62) (q := (yX7_runs, _)) rfl rfl⟩
theorem v_X7_served : Cond.instanceMethod yX7_served ∈ ab_tb ∧ Cond.selects yX7_served.cls yX7_served yX7_served ∈ ab_tb := ⟨ab_t5 (i := 58) rfl rfl, ab_t5 (i := 59) rfl rfl⟩
theorem v_X7_servedOf : Cond.instanceMethod yX7_servedOf ∈ ab_tb ∧ Cond.selects yX7_servedOf.cls yX7_servedOf yX7_servedOf ∈ ab_tb := ⟨ab_t5 (i := 67) rfl rfl, ab_sel_in (i := 85) (q := (yX7_servedOf, _)) rfl rfl⟩
theorem v_X7_sheet : Cond.instanceMethod yX7_sheet ∈ ab_tb ∧ Cond.selects yX7_sheet.cls yX7_sheet yX7_sheet ∈ ab_tb := ⟨ab_t4 (i := 42) rfl rfl, ab_t4 (i := 43) rfl rfl⟩
theorem v_X7_stand : Cond.instanceMethod yX7_stand ∈ ab_tb ∧ Cond.selects yX7_stand.cls yX7_stand yX7_stand ∈ ab_tb := ⟨ab_t4 (i := 148) rfl rfl, ab_t4 (i := 149) rfl rfl⟩
theorem v_X7_stands : Cond.instanceMethod yX7_stands ∈ ab_tb ∧ Cond.selects yX7_stands.cls yX7_stands yX7_stands ∈ ab_tb := ⟨ab_t4 (i := 203) rfl rfl, ab_sel_in (i := 71) (q := (yX7_stands, _)) rfl rfl⟩
theorem v_X7_stood : Cond.instanceMethod yX7_stood ∈ ab_tb ∧ Cond.selects yX7_stood.cls yX7_stood yX7_stood ∈ ab_tb := ⟨ab_t5 (i := 108) rfl rfl, ab_t5 (i := 109) rfl rfl⟩
theorem v_X7_turns : Cond.instanceMethod yX7_turns ∈ ab_tb ∧ Cond.selects yX7_turns.cls yX7_turns yX7_turns ∈ ab_tb := ⟨ab_t4 (i := 195) rfl rfl, ab_sel_in (i := 69) (q := (yX7_turns, _)) rfl rfl⟩
theorem v_X7_type : Cond.instanceMethod yX7_type ∈ ab_tb ∧ Cond.selects yX7_type.cls yX7_type yX7_type ∈ ab_tb := ⟨ab_t4 (i := 82) rfl rfl, ab_t4 (i := 83) rfl rfl⟩
theorem v_X7_wipe : Cond.instanceMethod yX7_wipe ∈ ab_tb ∧ Cond.selects yX7_wipe.cls yX7_wipe yX7_wipe ∈ ab_tb := ⟨ab_t4 (i := 87) rfl rfl, ab_t4 (i := 88) rfl rfl⟩
theorem v_X7_write : Cond.instanceMethod yX7_write ∈ ab_tb ∧ Cond.selects yX7_write.cls yX7_write yX7_write ∈ ab_tb := ⟨ab_t5 (i := 112) rfl rfl, ab_t5 (i := 113) rfl rfl⟩
theorem l_L_13 : ab_LV RL 13 yX6_type := ⟨Or.inl (ab_t2 (i := 29) rfl rfl), v_X6_type⟩
theorem l_X2_43 : ab_LV RX2 43 yX2_firstFault := ⟨Or.inl (ab_t2 (i := 41) rfl rfl), v_X2_firstFault⟩
theorem l_X2_47 : ab_LV RX2 47 yX2_wrongNumber := ⟨Or.inl (ab_t2 (i := 45) rfl rfl), v_X2_wrongNumber⟩
theorem l_X2_69 : ab_LV RX2 69 yX2_isFigure := ⟨Or.inl (ab_t2 (i := 49) rfl rfl), v_X2_isFigure⟩
theorem l_X2_51 : ab_LV RX2 51 yX2_number := ⟨Or.inl (ab_t2 (i := 53) rfl rfl), v_X2_number⟩
theorem l_X2_55 : ab_LV RX2 55 yX2_isByte := ⟨Or.inl (ab_t2 (i := 57) rfl rfl), v_X2_isByte⟩
theorem l_X2_59 : ab_LV RX2 59 yX2_takeHouse := ⟨Or.inl (ab_t2 (i := 61) rfl rfl), v_X2_takeHouse⟩
theorem l_X2_62 : ab_LV RX2 62 yX2_takeMan := ⟨Or.inl (ab_t2 (i := 65) rfl rfl), v_X2_takeMan⟩
theorem l_X2_65 : ab_LV RX2 65 yX2_isTaken := ⟨Or.inl (ab_t2 (i := 69) rfl rfl), v_X2_isTaken⟩
theorem l_L_18 : ab_LV RL 18 yX6_wipe := ⟨Or.inl (ab_t2 (i := 73) rfl rfl), v_X6_wipe⟩
theorem l_L_23 : ab_LV RL 23 yX6_fault := ⟨Or.inl (ab_t2 (i := 77) rfl rfl), v_X6_fault⟩
theorem l_L_27 : ab_LV RL 27 yX6_begins := ⟨Or.inl (ab_t2 (i := 81) rfl rfl), v_X6_begins⟩
theorem l_X6_72 : ab_LV RX6 72 yX6_isMan := ⟨Or.inl (ab_t2 (i := 85) rfl rfl), v_X6_isMan⟩
theorem l_L_32 : ab_LV RL 32 yX6_house := ⟨Or.inl (ab_t2 (i := 89) rfl rfl), v_X6_house⟩
theorem l_L_36 : ab_LV RL 36 yX6_law := ⟨Or.inl (ab_t2 (i := 93) rfl rfl), v_X6_law⟩
theorem l_L_40 : ab_LV RL 40 yX6_stand := ⟨Or.inl (ab_t2 (i := 97) rfl rfl), v_X6_stand⟩
theorem l_L_45 : ab_LV RL 45 yX6_man := ⟨Or.inl (ab_t2 (i := 101) rfl rfl), v_X6_man⟩
theorem l_X6_104 : ab_LS RX6 104 yX6_isTime := ⟨Or.inl (ab_t2 (i := 105) rfl rfl), ab_t2 (i := 106) rfl rfl⟩
theorem l_X6_107 : ab_LV RX6 107 yX6_refresh := ⟨Or.inl (ab_t2 (i := 108) rfl rfl), v_X6_refresh⟩
theorem l_X6_168 : ab_LV RX6 168 yX6_allMen := ⟨Or.inl (ab_t2 (i := 112) rfl rfl), v_X6_allMen⟩
theorem l_X5_77 : ab_LV RX5 77 yX5_standInstead := ⟨Or.inl (ab_t2 (i := 120) rfl rfl), v_X5_standInstead⟩
theorem l_X5_81 : ab_LV RX5 81 yX5_goOn := ⟨Or.inl (ab_t2 (i := 132) rfl rfl), v_X5_goOn⟩
theorem l_X5_88 : ab_LV RX5 88 yX5_isStanding := ⟨Or.inl (ab_t2 (i := 136) rfl rfl), v_X5_isStanding⟩
theorem l_X5_84 : ab_LV RX5 84 yX5_meet := ⟨Or.inl (ab_t2 (i := 140) rfl rfl), v_X5_meet⟩
theorem l_X5_92 : ab_LS RX5 92 yJ6_bitCount_0f7a4 := ⟨Or.inl (ab_t2 (i := 144) rfl rfl), ab_t2 (i := 145) rfl rfl⟩
theorem l_X5_98 : ab_LV RX5 98 yX5_handRound := ⟨Or.inl (ab_t2 (i := 150) rfl rfl), v_X5_handRound⟩
theorem l_L_49 : ab_LV RL 49 yX6_bag := ⟨Or.inl (ab_t2 (i := 162) rfl rfl), v_X6_bag⟩
theorem l_X0_51 : ab_LV RX0 51 yX0_holder := ⟨Or.inl (ab_t2 (i := 170) rfl rfl), v_X0_holder⟩
theorem l_L_53 : ab_LV RL 53 yX6_met := ⟨Or.inl (ab_t2 (i := 175) rfl rfl), v_X6_met⟩
theorem l_X6_130 : ab_LS RX6 130 yX6_pairShift := ⟨Or.inl (ab_t2 (i := 179) rfl rfl), ab_t2 (i := 155) rfl rfl⟩
theorem l_L_57 : ab_LV RL 57 yX6_meetings := ⟨Or.inl (ab_t2 (i := 180) rfl rfl), v_X6_meetings⟩
theorem l_X6_133 : ab_LS RX6 133 yJ13_bitCount_95d88 := ⟨Or.inl (ab_t2 (i := 184) rfl rfl), ab_t2 (i := 185) rfl rfl⟩
theorem l_L_61 : ab_LV RL 61 yX6_carried := ⟨Or.inl (ab_t2 (i := 190) rfl rfl), v_X6_carried⟩
theorem l_L_65 : ab_LV RL 65 yX6_namesOff := ⟨Or.inl (ab_t2 (i := 194) rfl rfl), v_X6_namesOff⟩
theorem l_L_69 : ab_LV RL 69 yX6_isTrue := ⟨Or.inl (ab_t2 (i := 198) rfl rfl), v_X6_isTrue⟩
theorem l_X0_55 : ab_LV RX0 55 yX0_bagPlace := ⟨Or.inl (ab_t2 (i := 206) rfl rfl), v_X0_bagPlace⟩
theorem l_L_73 : ab_LV RL 73 yX6_again := ⟨Or.inl (ab_t2 (i := 207) rfl rfl), v_X6_again⟩
theorem l_L_77 : ab_LV RL 77 yX6_letter := ⟨Or.inl (ab_t2 (i := 215) rfl rfl), v_X6_letter⟩
theorem l_X6_148 : ab_LV RX6 148 yX6_isPace := ⟨Or.inl (ab_t2 (i := 219) rfl rfl), v_X6_isPace⟩
theorem l_X0_58 : ab_LV RX0 58 yX0_bagThere := ⟨Or.inl (ab_t2 (i := 227) rfl rfl), v_X0_bagThere⟩
theorem l_L_82 : ab_LV RL 82 yX6_giveIn := ⟨Or.inl (ab_t2 (i := 236) rfl rfl), v_X6_giveIn⟩
theorem l_X0_68 : ab_LV RX0 68 yX0_bagsThere := ⟨Or.inl (ab_t3 (i := 4) rfl rfl), v_X0_bagsThere⟩
theorem l_L_86 : ab_LV RL 86 yX6_served := ⟨Or.inl (ab_t3 (i := 8) rfl rfl), v_X6_served⟩
theorem l_X6_164 : ab_LS RX6 164 yX6_isSpan := ⟨Or.inl (ab_t3 (i := 12) rfl rfl), ab_t3 (i := 13) rfl rfl⟩
theorem l_X6_172 : ab_LV RX6 172 yX6_serve := ⟨Or.inl (ab_t3 (i := 15) rfl rfl), v_X6_serve⟩
theorem l_X6_335 : ab_LV RX6 335 yX6_housesVisited := ⟨Or.inl (ab_t3 (i := 20) rfl rfl), v_X6_housesVisited⟩
theorem l_L_90 : ab_LV RL 90 yX6_fewest := ⟨Or.inl (ab_t3 (i := 28) rfl rfl), v_X6_fewest⟩
theorem l_X6_179 : ab_LS RX6 179 yJ6_bitCount_0f7a4 := ⟨Or.inl (ab_t3 (i := 32) rfl rfl), ab_t2 (i := 145) rfl rfl⟩
theorem l_L_94 : ab_LV RL 94 yX6_came := ⟨Or.inl (ab_t3 (i := 33) rfl rfl), v_X6_came⟩
theorem l_L_98 : ab_LV RL 98 yX6_read := ⟨Or.inl (ab_t3 (i := 45) rfl rfl), v_X6_read⟩
theorem l_X6_195 : ab_LS RX6 195 yX6_isSheet := ⟨Or.inl (ab_t3 (i := 49) rfl rfl), ab_t3 (i := 50) rfl rfl⟩
theorem l_X6_201 : ab_LV RX6 201 yX6_find := ⟨Or.inl (ab_t3 (i := 56) rfl rfl), v_X6_find⟩
theorem l_L_102 : ab_LV RL 102 yX6_forget := ⟨Or.inl (ab_t3 (i := 60) rfl rfl), v_X6_forget⟩
theorem l_L_106 : ab_LV RL 106 yX6_late := ⟨Or.inl (ab_t3 (i := 64) rfl rfl), v_X6_late⟩
theorem l_X0_61 : ab_LV RX0 61 yX0_taken := ⟨Or.inl (ab_t3 (i := 72) rfl rfl), v_X0_taken⟩
theorem l_X0_64 : ab_LV RX0 64 yX0_bagComes := ⟨Or.inl (ab_t3 (i := 73) rfl rfl), v_X0_bagComes⟩
theorem l_L_110 : ab_LV RL 110 yX6_stood := ⟨Or.inl (ab_t3 (i := 74) rfl rfl), v_X6_stood⟩
theorem l_X6_224 : ab_LV RX6 224 yX6_stoodBy := ⟨Or.inl (ab_t3 (i := 78) rfl rfl), v_X6_stoodBy⟩
theorem l_X1_34 : ab_LS RX1 34 yJ7_fill_53178 := ⟨Or.inl (ab_t3 (i := 87) rfl rfl), ab_t3 (i := 88) rfl rfl⟩
theorem l_X1_45 : ab_LV RX1 45 yX1_comesNow := ⟨Or.inl (ab_t3 (i := 91) rfl rfl), v_X1_comesNow⟩
theorem l_L_114 : ab_LV RL 114 yX6_sheet := ⟨Or.inl (ab_t3 (i := 100) rfl rfl), v_X6_sheet⟩
theorem l_X6_228 : ab_LS RX6 228 yX6_isForm := ⟨Or.inl (ab_t3 (i := 104) rfl rfl), ab_t3 (i := 105) rfl rfl⟩
theorem l_X3_23 : ab_LS RX3 23 yJ7_fill_53178 := ⟨Or.inl (ab_t3 (i := 111) rfl rfl), ab_t3 (i := 88) rfl rfl⟩
theorem l_L_118 : ab_LV RL 118 yX6_lose := ⟨Or.inl (ab_t3 (i := 112) rfl rfl), v_X6_lose⟩
theorem l_L_122 : ab_LV RL 122 yX6_lay := ⟨Or.inl (ab_t3 (i := 120) rfl rfl), v_X6_lay⟩
theorem l_X3_29 : ab_LV RX3 29 yX3_isLost := ⟨Or.inl (ab_t3 (i := 128) rfl rfl), v_X3_isLost⟩
theorem l_L_126 : ab_LV RL 126 yX6_get := ⟨Or.inl (ab_t3 (i := 133) rfl rfl), v_X6_get⟩
theorem l_L_130 : ab_LV RL 130 yX6_copy := ⟨Or.inl (ab_t3 (i := 138) rfl rfl), v_X6_copy⟩
theorem l_L_135 : ab_LV RL 135 yX6_write := ⟨Or.inl (ab_t3 (i := 149) rfl rfl), v_X6_write⟩
theorem l_X6_257 : ab_LS RX6 257 yJ9_min_7cf53 := ⟨Or.inl (ab_t3 (i := 153) rfl rfl), ab_t3 (i := 154) rfl rfl⟩
theorem l_L_139 : ab_LV RL 139 yX6_count := ⟨Or.inl (ab_t3 (i := 156) rfl rfl), v_X6_count⟩
theorem l_L_143 : ab_LV RL 143 yX6_digest := ⟨Or.inl (ab_t3 (i := 164) rfl rfl), v_X6_digest⟩
theorem l_X6_272 : ab_LV RX6 272 yX6_count := ⟨Or.inl (ab_t3 (i := 170) rfl rfl), v_X6_count⟩
theorem l_X6_275 : ab_LV RX6 275 yX6_fault := ⟨Or.inl (ab_t3 (i := 171) rfl rfl), v_X6_fault⟩
theorem l_X6_277 : ab_LV RX6 277 yX6_begins := ⟨Or.inl (ab_t3 (i := 172) rfl rfl), v_X6_begins⟩
theorem l_X6_280 : ab_LV RX6 280 yX6_man := ⟨Or.inl (ab_t3 (i := 173) rfl rfl), v_X6_man⟩
theorem l_X6_283 : ab_LV RX6 283 yX6_namesOff := ⟨Or.inl (ab_t3 (i := 174) rfl rfl), v_X6_namesOff⟩
theorem l_X6_286 : ab_LV RX6 286 yX6_met := ⟨Or.inl (ab_t3 (i := 175) rfl rfl), v_X6_met⟩
theorem l_X6_289 : ab_LV RX6 289 yX6_carried := ⟨Or.inl (ab_t3 (i := 176) rfl rfl), v_X6_carried⟩
theorem l_X6_292 : ab_LV RX6 292 yX6_house := ⟨Or.inl (ab_t3 (i := 177) rfl rfl), v_X6_house⟩
theorem l_X6_295 : ab_LV RX6 295 yX6_letter := ⟨Or.inl (ab_t3 (i := 178) rfl rfl), v_X6_letter⟩
theorem l_X6_299 : ab_LV RX6 299 yX6_meetings := ⟨Or.inl (ab_t3 (i := 179) rfl rfl), v_X6_meetings⟩
theorem l_X6_302 : ab_LV RX6 302 yX6_isTrue := ⟨Or.inl (ab_t3 (i := 180) rfl rfl), v_X6_isTrue⟩
theorem l_X6_305 : ab_LV RX6 305 yX6_again := ⟨Or.inl (ab_t3 (i := 181) rfl rfl), v_X6_again⟩
theorem l_X6_308 : ab_LV RX6 308 yX6_giveIn := ⟨Or.inl (ab_t3 (i := 182) rfl rfl), v_X6_giveIn⟩
theorem l_X6_311 : ab_LV RX6 311 yX6_served := ⟨Or.inl (ab_t3 (i := 183) rfl rfl), v_X6_served⟩
theorem l_X6_314 : ab_LV RX6 314 yX6_fewest := ⟨Or.inl (ab_t3 (i := 184) rfl rfl), v_X6_fewest⟩
theorem l_X6_317 : ab_LV RX6 317 yX6_late := ⟨Or.inl (ab_t3 (i := 185) rfl rfl), v_X6_late⟩
theorem l_L_117 : ab_LV RL 117 yX7_sheet := ⟨Or.inl (ab_t4 (i := 41) rfl rfl), v_X7_sheet⟩
theorem l_X7_80 : ab_LS RX7 80 yX7_isSheet := ⟨Or.inl (ab_t4 (i := 45) rfl rfl), ab_t4 (i := 46) rfl rfl⟩
theorem l_X7_68 : ab_LS RX7 68 yX7_in := ⟨Or.inl (ab_t4 (i := 49) rfl rfl), ab_t4 (i := 50) rfl rfl⟩
theorem l_X7_86 : ab_LV RX7 86 yX7_finds := ⟨Or.inl (ab_t4 (i := 53) rfl rfl), v_X7_finds⟩
theorem l_L_121 : ab_LV RL 121 yX7_lose := ⟨Or.inl (ab_t4 (i := 57) rfl rfl), v_X7_lose⟩
theorem l_L_125 : ab_LV RL 125 yX7_lay := ⟨Or.inl (ab_t4 (i := 61) rfl rfl), v_X7_lay⟩
theorem l_X7_90 : ab_LV RX7 90 yX7_lacks := ⟨Or.inl (ab_t4 (i := 65) rfl rfl), v_X7_lacks⟩
theorem l_X7_94 : ab_LS RX7 94 yX7_cut := ⟨Or.inl (ab_t4 (i := 69) rfl rfl), ab_t4 (i := 70) rfl rfl⟩
theorem l_L_129 : ab_LV RL 129 yX7_get := ⟨Or.inl (ab_t4 (i := 72) rfl rfl), v_X7_get⟩
theorem l_L_134 : ab_LV RL 134 yX7_copy := ⟨Or.inl (ab_t4 (i := 77) rfl rfl), v_X7_copy⟩
theorem l_L_17 : ab_LV RL 17 yX7_type := ⟨Or.inl (ab_t4 (i := 81) rfl rfl), v_X7_type⟩
theorem l_L_22 : ab_LV RL 22 yX7_wipe := ⟨Or.inl (ab_t4 (i := 86) rfl rfl), v_X7_wipe⟩
theorem l_L_26 : ab_LV RL 26 yX7_fault := ⟨Or.inl (ab_t4 (i := 90) rfl rfl), v_X7_fault⟩
theorem l_X7_140 : ab_LV RX7 140 yX7_reads := ⟨Or.inl (ab_t4 (i := 94) rfl rfl), v_X7_reads⟩
theorem l_X7_130 : ab_LV RX7 130 yX7_clears := ⟨Or.inl (ab_t4 (i := 98) rfl rfl), v_X7_clears⟩
theorem l_X7_124 : ab_LV RX7 124 yX7_number := ⟨Or.inl (ab_t4 (i := 102) rfl rfl), v_X7_number⟩
theorem l_X7_116 : ab_LV RX7 116 yX7_here := ⟨Or.inl (ab_t4 (i := 106) rfl rfl), v_X7_here⟩
theorem l_X7_133 : ab_LV RX7 133 yX7_readsHouse := ⟨Or.inl (ab_t4 (i := 112) rfl rfl), v_X7_readsHouse⟩
theorem l_X7_137 : ab_LV RX7 137 yX7_readsMan := ⟨Or.inl (ab_t4 (i := 116) rfl rfl), v_X7_readsMan⟩
theorem l_X7_127 : ab_LV RX7 127 yX7_isTaken := ⟨Or.inl (ab_t4 (i := 120) rfl rfl), v_X7_isTaken⟩
theorem l_L_31 : ab_LV RL 31 yX7_begins := ⟨Or.inl (ab_t4 (i := 124) rfl rfl), v_X7_begins⟩
theorem l_X7_143 : ab_LV RX7 143 yX7_isMan := ⟨Or.inl (ab_t4 (i := 128) rfl rfl), v_X7_isMan⟩
theorem l_X7_146 : ab_LV RX7 146 yX7_beginsOf := ⟨Or.inl (ab_t4 (i := 132) rfl rfl), v_X7_beginsOf⟩
theorem l_L_35 : ab_LV RL 35 yX7_house := ⟨Or.inl (ab_t4 (i := 136) rfl rfl), v_X7_house⟩
theorem l_L_39 : ab_LV RL 39 yX7_law := ⟨Or.inl (ab_t4 (i := 140) rfl rfl), v_X7_law⟩
theorem l_X7_149 : ab_LS RX7 149 yX7_isTwo := ⟨Or.inl (ab_t4 (i := 144) rfl rfl), ab_t4 (i := 145) rfl rfl⟩
theorem l_L_44 : ab_LV RL 44 yX7_stand := ⟨Or.inl (ab_t4 (i := 147) rfl rfl), v_X7_stand⟩
theorem l_L_48 : ab_LV RL 48 yX7_man := ⟨Or.inl (ab_t4 (i := 153) rfl rfl), v_X7_man⟩
theorem l_X7_193 : ab_LS RX7 193 yX7_isTime := ⟨Or.inl (ab_t4 (i := 157) rfl rfl), ab_t4 (i := 158) rfl rfl⟩
theorem l_X7_196 : ab_LV RX7 196 yX7_find := ⟨Or.inl (ab_t4 (i := 161) rfl rfl), v_X7_find⟩
theorem l_X7_190 : ab_LV RX7 190 yX7_runs := ⟨Or.inl (ab_t4 (i := 165) rfl rfl), v_X7_runs⟩
theorem l_X7_183 : ab_LV RX7 183 yX7_meet := ⟨Or.inl (ab_t4 (i := 169) rfl rfl), v_X7_meet⟩
theorem l_X7_163 : ab_LV RX7 163 yX7_isThere := ⟨Or.inl (ab_t4 (i := 173) rfl rfl), v_X7_isThere⟩
theorem l_X7_174 : ab_LV RX7 174 yX7_findGroup := ⟨Or.inl (ab_t4 (i := 177) rfl rfl), v_X7_findGroup⟩
theorem l_X7_166 : ab_LV RX7 166 yX7_areTogether := ⟨Or.inl (ab_t4 (i := 181) rfl rfl), v_X7_areTogether⟩
theorem l_X7_177 : ab_LV RX7 177 yX7_isNew := ⟨Or.inl (ab_t4 (i := 185) rfl rfl), v_X7_isNew⟩
theorem l_X7_180 : ab_LV RX7 180 yX7_acts := ⟨Or.inl (ab_t4 (i := 189) rfl rfl), v_X7_acts⟩
theorem l_X7_170 : ab_LV RX7 170 yX7_turns := ⟨Or.inl (ab_t4 (i := 193) rfl rfl), v_X7_turns⟩
theorem l_X7_187 : ab_LV RX7 187 yX7_goes := ⟨Or.inl (ab_t4 (i := 197) rfl rfl), v_X7_goes⟩
theorem l_X7_159 : ab_LV RX7 159 yX7_stands := ⟨Or.inl (ab_t4 (i := 201) rfl rfl), v_X7_stands⟩
theorem l_X7_199 : ab_LV RX7 199 yX7_manOf := ⟨Or.inl (ab_t4 (i := 205) rfl rfl), v_X7_manOf⟩
theorem l_L_52 : ab_LV RL 52 yX7_bag := ⟨Or.inl (ab_t4 (i := 209) rfl rfl), v_X7_bag⟩
theorem l_X7_205 : ab_LV RX7 205 yX7_bagPlace := ⟨Or.inl (ab_t4 (i := 213) rfl rfl), v_X7_bagPlace⟩
theorem l_X7_202 : ab_LV RX7 202 yX7_holder := ⟨Or.inl (ab_t4 (i := 217) rfl rfl), v_X7_holder⟩
theorem l_L_56 : ab_LV RL 56 yX7_met := ⟨Or.inl (ab_t4 (i := 221) rfl rfl), v_X7_met⟩
theorem l_X7_208 : ab_LV RX7 208 yX7_metOf := ⟨Or.inl (ab_t4 (i := 225) rfl rfl), v_X7_metOf⟩
theorem l_L_60 : ab_LV RL 60 yX7_meetings := ⟨Or.inl (ab_t4 (i := 229) rfl rfl), v_X7_meetings⟩
theorem l_X7_211 : ab_LV RX7 211 yX7_meetingsOf := ⟨Or.inl (ab_t4 (i := 233) rfl rfl), v_X7_meetingsOf⟩
theorem l_L_64 : ab_LV RL 64 yX7_carried := ⟨Or.inl (ab_t4 (i := 237) rfl rfl), v_X7_carried⟩
theorem l_X7_214 : ab_LV RX7 214 yX7_carriedOf := ⟨Or.inl (ab_t5 (i := 1) rfl rfl), v_X7_carriedOf⟩
theorem l_L_68 : ab_LV RL 68 yX7_namesOff := ⟨Or.inl (ab_t5 (i := 5) rfl rfl), v_X7_namesOff⟩
theorem l_X7_220 : ab_LV RX7 220 yX7_namesOffOf := ⟨Or.inl (ab_t5 (i := 9) rfl rfl), v_X7_namesOffOf⟩
theorem l_X7_217 : ab_LV RX7 217 yX7_findAlone := ⟨Or.inl (ab_t5 (i := 13) rfl rfl), v_X7_findAlone⟩
theorem l_L_72 : ab_LV RL 72 yX7_isTrue := ⟨Or.inl (ab_t5 (i := 17) rfl rfl), v_X7_isTrue⟩
theorem l_X7_223 : ab_LV RX7 223 yX7_isTrueOf := ⟨Or.inl (ab_t5 (i := 21) rfl rfl), v_X7_isTrueOf⟩
theorem l_L_76 : ab_LV RL 76 yX7_again := ⟨Or.inl (ab_t5 (i := 25) rfl rfl), v_X7_again⟩
theorem l_X7_226 : ab_LV RX7 226 yX7_againNow := ⟨Or.inl (ab_t5 (i := 29) rfl rfl), v_X7_againNow⟩
theorem l_L_81 : ab_LV RL 81 yX7_letter := ⟨Or.inl (ab_t5 (i := 33) rfl rfl), v_X7_letter⟩
theorem l_X7_237 : ab_LV RX7 237 yX7_isPace := ⟨Or.inl (ab_t5 (i := 37) rfl rfl), v_X7_isPace⟩
theorem l_X7_240 : ab_LS RX7 240 yX7_isMinute := ⟨Or.inl (ab_t5 (i := 41) rfl rfl), ab_t5 (i := 42) rfl rfl⟩
theorem l_X7_243 : ab_LV RX7 243 yX7_findLetter := ⟨Or.inl (ab_t5 (i := 45) rfl rfl), v_X7_findLetter⟩
theorem l_L_85 : ab_LV RL 85 yX7_giveIn := ⟨Or.inl (ab_t5 (i := 49) rfl rfl), v_X7_giveIn⟩
theorem l_X7_247 : ab_LV RX7 247 yX7_giveInOf := ⟨Or.inl (ab_t5 (i := 53) rfl rfl), v_X7_giveInOf⟩
theorem l_L_89 : ab_LV RL 89 yX7_served := ⟨Or.inl (ab_t5 (i := 57) rfl rfl), v_X7_served⟩
theorem l_X7_255 : ab_LS RX7 255 yX7_isService := ⟨Or.inl (ab_t5 (i := 61) rfl rfl), ab_t5 (i := 62) rfl rfl⟩
theorem l_X7_258 : ab_LV RX7 258 yX7_servedOf := ⟨Or.inl (ab_t5 (i := 65) rfl rfl), v_X7_servedOf⟩
theorem l_X7_252 : ab_LV RX7 252 yX7_isServed := ⟨Or.inl (ab_t5 (i := 69) rfl rfl), v_X7_isServed⟩
theorem l_L_93 : ab_LV RL 93 yX7_fewest := ⟨Or.inl (ab_t5 (i := 73) rfl rfl), v_X7_fewest⟩
theorem l_X7_264 : ab_LV RX7 264 yX7_fewestOf := ⟨Or.inl (ab_t5 (i := 77) rfl rfl), v_X7_fewestOf⟩
theorem l_X7_261 : ab_LS RX7 261 yX7_ones := ⟨Or.inl (ab_t5 (i := 81) rfl rfl), ab_t5 (i := 82) rfl rfl⟩
theorem l_L_97 : ab_LV RL 97 yX7_came := ⟨Or.inl (ab_t5 (i := 84) rfl rfl), v_X7_came⟩
theorem l_L_101 : ab_LV RL 101 yX7_read := ⟨Or.inl (ab_t5 (i := 90) rfl rfl), v_X7_read⟩
theorem l_X7_274 : ab_LV RX7 274 yX7_came := ⟨Or.inl (ab_t5 (i := 94) rfl rfl), v_X7_came⟩
theorem l_L_105 : ab_LV RL 105 yX7_forget := ⟨Or.inl (ab_t5 (i := 95) rfl rfl), v_X7_forget⟩
theorem l_L_109 : ab_LV RL 109 yX7_late := ⟨Or.inl (ab_t5 (i := 99) rfl rfl), v_X7_late⟩
theorem l_X7_278 : ab_LV RX7 278 yX7_lateOf := ⟨Or.inl (ab_t5 (i := 103) rfl rfl), v_X7_lateOf⟩
theorem l_L_113 : ab_LV RL 113 yX7_stood := ⟨Or.inl (ab_t5 (i := 107) rfl rfl), v_X7_stood⟩
theorem l_L_138 : ab_LV RL 138 yX7_write := ⟨Or.inl (ab_t5 (i := 111) rfl rfl), v_X7_write⟩
theorem l_L_142 : ab_LV RL 142 yX7_count := ⟨Or.inl (ab_t5 (i := 115) rfl rfl), v_X7_count⟩
theorem l_L_147 : ab_LV RL 147 yX7_digest := ⟨Or.inl (ab_t5 (i := 119) rfl rfl), v_X7_digest⟩
theorem l_X7_285 : ab_LV RX7 285 yX7_count := ⟨Or.inl (ab_t5 (i := 125) rfl rfl), v_X7_count⟩
theorem l_X6_62 : ab_LV RX6 62 yX2_append := ⟨Or.inr ⟨_, ab_n2 (i := 33) rfl rfl⟩, v_X2_append⟩
theorem l_X6_66 : ab_LV RX6 66 yX2_parse := ⟨Or.inr ⟨_, ab_n2 (i := 37) rfl rfl⟩, v_X2_parse⟩
theorem l_X6_321 : ab_LV RX6 321 yX5_start := ⟨Or.inr ⟨_, ab_n2 (i := 116) rfl rfl⟩, v_X5_start⟩
theorem l_X6_325 : ab_LV RX6 325 yX0_recordTogether := ⟨Or.inr ⟨_, ab_n2 (i := 124) rfl rfl⟩, v_X0_recordTogether⟩
theorem l_X0_33 : ab_LV RX0 33 yX5_step := ⟨Or.inr ⟨_, ab_n2 (i := 128) rfl rfl⟩, v_X5_step⟩
theorem l_X5_101 : ab_LS RX5 101 yX6_pairShift := ⟨Or.inr ⟨_, ab_n2 (i := 154) rfl rfl⟩, ab_t2 (i := 155) rfl rfl⟩
theorem l_X6_329 : ab_LV RX6 329 yX0_recordAlone := ⟨Or.inr ⟨_, ab_n2 (i := 157) rfl rfl⟩, v_X0_recordAlone⟩
theorem l_X0_48 : ab_LV RX0 48 yX5_goOn := ⟨Or.inr ⟨_, ab_n2 (i := 161) rfl rfl⟩, v_X5_goOn⟩
theorem l_X6_119 : ab_LV RX6 119 yX0_bagPlace := ⟨Or.inr ⟨_, ab_n2 (i := 166) rfl rfl⟩, v_X0_bagPlace⟩
theorem l_X6_123 : ab_LV RX6 123 yX0_holder := ⟨Or.inr ⟨_, ab_n2 (i := 174) rfl rfl⟩, v_X0_holder⟩
theorem l_X6_142 : ab_LV RX6 142 yX0_asNamesOff := ⟨Or.inr ⟨_, ab_n2 (i := 202) rfl rfl⟩, v_X0_asNamesOff⟩
theorem l_X6_145 : ab_LV RX6 145 yX0_asAtFirst := ⟨Or.inr ⟨_, ab_n2 (i := 211) rfl rfl⟩, v_X0_asAtFirst⟩
theorem l_X6_151 : ab_LV RX6 151 yX0_taken := ⟨Or.inr ⟨_, ab_n2 (i := 223) rfl rfl⟩, v_X0_taken⟩
theorem l_X6_154 : ab_LV RX6 154 yX0_bagThere := ⟨Or.inr ⟨_, ab_n2 (i := 231) rfl rfl⟩, v_X0_bagThere⟩
theorem l_X6_157 : ab_LV RX6 157 yX0_bagComes := ⟨Or.inr ⟨_, ab_n2 (i := 232) rfl rfl⟩, v_X0_bagComes⟩
theorem l_X6_161 : ab_LV RX6 161 yX0_latestMinute := ⟨Or.inr ⟨_, ab_n3 (i := 0) rfl rfl⟩, v_X0_latestMinute⟩
theorem l_X6_332 : ab_LV RX6 332 yX5_step := ⟨Or.inr ⟨_, ab_n3 (i := 19) rfl rfl⟩, v_X5_step⟩
theorem l_X6_338 : ab_LV RX6 338 yX5_firstThere := ⟨Or.inr ⟨_, ab_n3 (i := 24) rfl rfl⟩, v_X5_firstThere⟩
theorem l_X6_184 : ab_LV RX6 184 yX1_mayBe := ⟨Or.inr ⟨_, ab_n3 (i := 37) rfl rfl⟩, v_X1_mayBe⟩
theorem l_X6_191 : ab_LV RX6 191 yX1_add := ⟨Or.inr ⟨_, ab_n3 (i := 41) rfl rfl⟩, v_X1_add⟩
theorem l_X6_198 : ab_LV RX6 198 yX3_isLost := ⟨Or.inr ⟨_, ab_n3 (i := 52) rfl rfl⟩, v_X3_isLost⟩
theorem l_X6_218 : ab_LV RX6 218 yX0_comes := ⟨Or.inr ⟨_, ab_n3 (i := 68) rfl rfl⟩, v_X0_comes⟩
theorem l_X6_341 : ab_LV RX6 341 yX5_standInstead := ⟨Or.inr ⟨_, ab_n3 (i := 82) rfl rfl⟩, v_X5_standInstead⟩
theorem l_X6_344 : ab_LV RX6 344 yX1_comeAsTold := ⟨Or.inr ⟨_, ab_n3 (i := 83) rfl rfl⟩, v_X1_comeAsTold⟩
theorem l_X1_40 : ab_LV RX1 40 yX5_step := ⟨Or.inr ⟨_, ab_n3 (i := 90) rfl rfl⟩, v_X5_step⟩
theorem l_X1_52 : ab_LV RX1 52 yX5_firstThere := ⟨Or.inr ⟨_, ab_n3 (i := 95) rfl rfl⟩, v_X5_firstThere⟩
theorem l_X1_59 : ab_LV RX1 59 yX5_isBagAt := ⟨Or.inr ⟨_, ab_n3 (i := 96) rfl rfl⟩, v_X5_isBagAt⟩
theorem l_X6_231 : ab_LV RX6 231 yX3_renew := ⟨Or.inr ⟨_, ab_n3 (i := 107) rfl rfl⟩, v_X3_renew⟩
theorem l_X6_235 : ab_LV RX6 235 yX3_drop := ⟨Or.inr ⟨_, ab_n3 (i := 116) rfl rfl⟩, v_X3_drop⟩
theorem l_X6_238 : ab_LV RX6 238 yX3_wrongItem := ⟨Or.inr ⟨_, ab_n3 (i := 124) rfl rfl⟩, v_X3_wrongItem⟩
theorem l_X6_241 : ab_LV RX6 241 yX3_put := ⟨Or.inr ⟨_, ab_n3 (i := 129) rfl rfl⟩, v_X3_put⟩
theorem l_X6_248 : ab_LV RX6 248 yX3_hasRun := ⟨Or.inr ⟨_, ab_n3 (i := 142) rfl rfl⟩, v_X3_hasRun⟩
theorem l_X6_265 : ab_LV RX6 265 yX4_minutesStood := ⟨Or.inr ⟨_, ab_n3 (i := 160) rfl rfl⟩, v_X4_minutesStood⟩
theorem c_J6_265 : Cond.constant RJ6 265 (1431655765) ∈ ab_tb := ab_t2 (i := 147) rfl rfl
theorem c_J6_266 : Cond.constant RJ6 266 (858993459) ∈ ab_tb := ab_t2 (i := 148) rfl rfl
theorem c_J6_267 : Cond.constant RJ6 267 (252645135) ∈ ab_tb := ab_t2 (i := 149) rfl rfl
theorem c_X6_244 : Cond.constant RX6 244 (-2147483648) ∈ ab_tb := ab_t3 (i := 137) rfl rfl
theorem c_X7_98 : Cond.constant RX7 98 (-2147483648) ∈ ab_tb := ab_t4 (i := 76) rfl rfl
theorem c_J13_314 : Cond.constantLong RJ13 314 (6148914691236517205) ∈ ab_tb := ab_t2 (i := 187) rfl rfl
theorem c_J13_316 : Cond.constantLong RJ13 316 (3689348814741910323) ∈ ab_tb := ab_t2 (i := 188) rfl rfl
theorem c_J13_318 : Cond.constantLong RJ13 318 (1085102592571150095) ∈ ab_tb := ab_t2 (i := 189) rfl rfl
theorem c_X6_268 : Cond.constantLong RX6 268 (17) ∈ ab_tb := ab_t3 (i := 168) rfl rfl
theorem c_X6_270 : Cond.constantLong RX6 270 (31) ∈ ab_tb := ab_t3 (i := 169) rfl rfl
theorem c_X7_78 : Cond.constantLong RX7 78 (3) ∈ ab_tb := ab_t4 (i := 48) rfl rfl
theorem c_X7_84 : Cond.constantLong RX7 84 (2) ∈ ab_tb := ab_t4 (i := 52) rfl rfl
theorem c_X7_99 : Cond.constantLong RX7 99 (255) ∈ ab_tb := ab_t4 (i := 85) rfl rfl
theorem c_X7_120 : Cond.constantLong RX7 120 (48) ∈ ab_tb := ab_t4 (i := 110) rfl rfl
theorem c_X7_122 : Cond.constantLong RX7 122 (57) ∈ ab_tb := ab_t4 (i := 111) rfl rfl
theorem c_X7_152 : Cond.constantLong RX7 152 (5) ∈ ab_tb := ab_t4 (i := 151) rfl rfl
theorem c_X7_154 : Cond.constantLong RX7 154 (99) ∈ ab_tb := ab_t4 (i := 152) rfl rfl
theorem c_X7_72 : Cond.constantLong RX7 72 (400) ∈ ab_tb := ab_t4 (i := 160) rfl rfl
theorem c_X7_235 : Cond.constantLong RX7 235 (199) ∈ ab_tb := ab_t5 (i := 44) rfl rfl
theorem c_X7_250 : Cond.constantLong RX7 250 (200) ∈ ab_tb := ab_t5 (i := 64) rfl rfl
theorem c_X7_267 : Cond.constantLong RX7 267 (40) ∈ ab_tb := ab_t5 (i := 88) rfl rfl
theorem c_X7_269 : Cond.constantLong RX7 269 (-1) ∈ ab_tb := ab_t5 (i := 89) rfl rfl
theorem c_X7_281 : Cond.constantLong RX7 281 (17) ∈ ab_tb := ab_t5 (i := 123) rfl rfl
theorem c_X7_283 : Cond.constantLong RX7 283 (31) ∈ ab_tb := ab_t5 (i := 124) rfl rfl
