/-! Every method's code has its word. -/
theorem ai_okd_16 : ((List.range 6).map (96 + ·)).all ai_okd = true := by decide +kernel
theorem ai_okd_17 : ((List.range 6).map (102 + ·)).all ai_okd = true := by decide +kernel
theorem ai_okd_18 : ((List.range 6).map (108 + ·)).all ai_okd = true := by decide +kernel
theorem ai_okd_19 : ((List.range 6).map (114 + ·)).all ai_okd = true := by decide +kernel
theorem ai_okd_20 : ((List.range 6).map (120 + ·)).all ai_okd = true := by decide +kernel
theorem ai_okd_21 : ((List.range 6).map (126 + ·)).all ai_okd = true := by decide +kernel
theorem ai_okd_22 : ((List.range 6).map (132 + ·)).all ai_okd = true := by decide +kernel
theorem ai_okd_23 : ((List.range 6).map (138 + ·)).all ai_okd = true := by decide +kernel
theorem ai_okd_24 : ((List.range 6).map (144 + ·)).all ai_okd = true := by decide +kernel
theorem ai_okd_25 : ((List.range 6).map (150 + ·)).all ai_okd = true := by decide +kernel
theorem ai_okd_26 : ((List.range 6).map (156 + ·)).all ai_okd = true := by decide +kernel
theorem ai_okd_27 : ((List.range 6).map (162 + ·)).all ai_okd = true := by decide +kernel
theorem ai_okd_28 : ((List.range 6).map (168 + ·)).all ai_okd = true := by decide +kernel
theorem ai_okd_29 : ((List.range 6).map (174 + ·)).all ai_okd = true := by decide +kernel
theorem ai_okd_30 : ((List.range 6).map (180 + ·)).all ai_okd = true := by decide +kernel
theorem ai_okd_31 : ((List.range 6).map (186 + ·)).all ai_okd = true := by decide +kernel
theorem ai_okd_32 : ((List.range 6).map (192 + ·)).all ai_okd = true := by decide +kernel
theorem ai_okd_all (y : Nat) (h : y < 198) : ai_okd y = true := by
  have key : ∀ k c, ((List.range c).map (k + ·)).all ai_okd = true → k ≤ y → y < k + c → ai_okd y = true := by
    intro k c hk h1 h2
    refine List.all_eq_true.mp hk y (List.mem_map.mpr ⟨y - k, List.mem_range.mpr (by omega), by omega⟩)
  by_cases h0 : y < 6
  · exact key 0 6 ai_okd_0 (by omega) (by omega)
  by_cases h1 : y < 12
  · exact key 6 6 ai_okd_1 (by omega) (by omega)
  by_cases h2 : y < 18
  · exact key 12 6 ai_okd_2 (by omega) (by omega)
  by_cases h3 : y < 24
  · exact key 18 6 ai_okd_3 (by omega) (by omega)
  by_cases h4 : y < 30
  · exact key 24 6 ai_okd_4 (by omega) (by omega)
  by_cases h5 : y < 36
  · exact key 30 6 ai_okd_5 (by omega) (by omega)
  by_cases h6 : y < 42
  · exact key 36 6 ai_okd_6 (by omega) (by omega)
  by_cases h7 : y < 48
  · exact key 42 6 ai_okd_7 (by omega) (by omega)
  by_cases h8 : y < 54
  · exact key 48 6 ai_okd_8 (by omega) (by omega)
  by_cases h9 : y < 60
  · exact key 54 6 ai_okd_9 (by omega) (by omega)
  by_cases h10 : y < 66
  · exact key 60 6 ai_okd_10 (by omega) (by omega)
  by_cases h11 : y < 72
  · exact key 66 6 ai_okd_11 (by omega) (by omega)
  by_cases h12 : y < 78
  · exact key 72 6 ai_okd_12 (by omega) (by omega)
  by_cases h13 : y < 84
  · exact key 78 6 ai_okd_13 (by omega) (by omega)
  by_cases h14 : y < 90
  · exact key 84 6 ai_okd_14 (by omega) (by omega)
  by_cases h15 : y < 96
  · exact key 90 6 ai_okd_15 (by omega) (by omega)
  by_cases h16 : y < 102
  · exact key 96 6 ai_okd_16 (by omega) (by omega)
  by_cases h17 : y < 108
  · exact key 102 6 ai_okd_17 (by omega) (by omega)
  by_cases h18 : y < 114
  · exact key 108 6 ai_okd_18 (by omega) (by omega)
  by_cases h19 : y < 120
  · exact key 114 6 ai_okd_19 (by omega) (by omega)
  by_cases h20 : y < 126
  · exact key 120 6 ai_okd_20 (by omega) (by omega)
  by_cases h21 : y < 132
  · exact key 126 6 ai_okd_21 (by omega) (by omega)
  by_cases h22 : y < 138
  · exact key 132 6 ai_okd_22 (by omega) (by omega)
  by_cases h23 : y < 144
  · exact key 138 6 ai_okd_23 (by omega) (by omega)
  by_cases h24 : y < 150
  · exact key 144 6 ai_okd_24 (by omega) (by omega)
  by_cases h25 : y < 156
  · exact key 150 6 ai_okd_25 (by omega) (by omega)
  by_cases h26 : y < 162
  · exact key 156 6 ai_okd_26 (by omega) (by omega)
  by_cases h27 : y < 168
  · exact key 162 6 ai_okd_27 (by omega) (by omega)
  by_cases h28 : y < 174
  · exact key 168 6 ai_okd_28 (by omega) (by omega)
  by_cases h29 : y < 180
  · exact key 174 6 ai_okd_29 (by omega) (by omega)
  by_cases h30 : y < 186
  · exact key 180 6 ai_okd_30 (by omega) (by omega)
  by_cases h31 : y < 192
  · exact key 186 6 ai_okd_31 (by omega) (by omega)
  by_cases h32 : y < 198
  · exact key 192 6 ai_okd_32 (by omega) (by omega)
  omega
theorem ai_has_of {i : Nat} {w : Cond} (h : ai_tbl[i]? = some w) (g : goodWord w = true) : ai_has i w = true := by
  unfold ai_has
  rw [h]
  simp [g]
set_option maxRecDepth 100000 in
theorem ai_big_198 : Cond.code (ai_name 198) (ai_code 198) (ai_L 198) (ai_ret 198) ∈ ai_T := ai_has_in (ai_has_of (i := 719) rfl rfl)
set_option maxRecDepth 100000 in
theorem ai_big_199 : Cond.code (ai_name 199) (ai_code 199) (ai_L 199) (ai_ret 199) ∈ ai_T := ai_has_in (ai_has_of (i := 432) rfl rfl)
set_option maxRecDepth 100000 in
theorem ai_big_200 : Cond.code (ai_name 200) (ai_code 200) (ai_L 200) (ai_ret 200) ∈ ai_T := ai_has_in (ai_has_of (i := 1170) rfl rfl)
set_option maxRecDepth 100000 in
theorem ai_big_201 : Cond.code (ai_name 201) (ai_code 201) (ai_L 201) (ai_ret 201) ∈ ai_T := ai_has_in (ai_has_of (i := 1101) rfl rfl)
theorem ai_big (y : Nat) (h1 : 198 ≤ y) (h2 : y < 202) : Cond.code (ai_name y) (ai_code y) (ai_L y) (ai_ret y) ∈ ai_T := by
  rcases (show y = 198 ∨ y = 199 ∨ y = 200 ∨ y = 201 by omega) with rfl | rfl | rfl | rfl
  · exact ai_big_198
  · exact ai_big_199
  · exact ai_big_200
  · exact ai_big_201
