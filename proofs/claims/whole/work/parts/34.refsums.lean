/-! The reference's sums and votes. -/
section MB
variable {w : xw_W} {B : kb_B}
theorem m_lives (h : kb_m (xm_s w) B) (hk : kb_ok B) {c : Nat} (hc : c < 8) : ai_Call 201 [.ref 185, .int (nI c)] (wl w) = some (some (.int (nI (kb_lv B c))), wl w) := by
  have hn := hk.1
  have step : ∀ i, i < 30 → ai_Run 201 4 [.ref 185, .int (nI c), .int (nI (kb_s (fun q => kb_i (!kb_dead B c (q + 1))) i)), .int (nI (i + 1))] [] (wl w) = ai_Run 201 4 [.ref 185, .int (nI c), .int (nI (kb_s (fun q => kb_i (!kb_dead B c (q + 1))) (i + 1))), .int (nI ((i + 1) + 1))] [] (wl w) := by
    intro i hi
    have c1 : ¬ (30 : Int32) < nI (i + 1) := nI_nlt (b := i + 1) (a := 30) (by omega) (by decide)
    rw [r_201_4]
    by_cases c2 : kb_dead B c (i + 1) = true
    · simp only [r_201_0, r_201_1, r_201_2, r_201_3, r_201_5, r_201_7, r_201_10, r_201_11, r_201_12, r_201_13, r_201_14, r_201_17, r_201_20, r_201_21, r_201_24, r_201_25, r_201_26, r_201_27, r_201_30, r_201_33, r_201_34, Option.bind_some, Option.bind_none, Option.toList_some, Option.toList_none, List.cons_append, List.nil_append, Option.map_some, Option.map_none, eq_self, if_true, if_false, reduceIte, ai_bi_eq0, ai_bi_eq1, ai_pb_bi, ai_pb_0, ai_pb_1, c1, m_isDeadIn h hk hc (show i + 1 ≤ 30 by omega), c2, Bool.true_eq_false, Bool.not_true, nI_1, kb_s, kb_i_f, Nat.add_zero, Int32.add_zero]
    · have c2' : kb_dead B c (i + 1) = false := by simpa using c2
      simp only [r_201_0, r_201_1, r_201_2, r_201_3, r_201_5, r_201_7, r_201_10, r_201_11, r_201_12, r_201_13, r_201_14, r_201_17, r_201_20, r_201_21, r_201_24, r_201_25, r_201_26, r_201_27, r_201_30, r_201_33, r_201_34, Option.bind_some, Option.bind_none, Option.toList_some, Option.toList_none, List.cons_append, List.nil_append, Option.map_some, Option.map_none, eq_self, if_true, if_false, reduceIte, ai_bi_eq0, ai_bi_eq1, ai_pb_bi, ai_pb_0, ai_pb_1, c1, m_isDeadIn h hk hc (show i + 1 ≤ 30 by omega), c2', Bool.not_false, nI_1, kb_s, kb_i_t]
  have e := lp_n (fun i => ai_Run 201 4 [.ref 185, .int (nI c), .int (nI (kb_s (fun q => kb_i (!kb_dead B c (q + 1))) i)), .int (nI (i + 1))] [] (wl w)) (30) step
  have c2 : (30 : Int32) < nI (30 + 1) := by decide
  simp only [e_201, o_185, r_201_0, r_201_1, r_201_2, r_201_3, r_201_5, r_201_7, r_201_10, r_201_11, r_201_12, r_201_13, r_201_14, r_201_17, r_201_20, r_201_21, r_201_24, r_201_25, r_201_26, r_201_27, r_201_30, r_201_33, r_201_34, Option.bind_some, Option.bind_none, Option.toList_some, Option.toList_none, List.cons_append, List.nil_append, Option.map_some, Option.map_none, eq_self, if_true, if_false, reduceIte, ai_bi_eq0, ai_bi_eq1, ai_pb_bi, ai_pb_0, ai_pb_1]
  refine e.trans ?_
  rw [r_201_4]
  simp only [r_201_0, r_201_1, r_201_2, r_201_3, r_201_5, r_201_7, r_201_10, r_201_11, r_201_12, r_201_13, r_201_14, r_201_17, r_201_20, r_201_21, r_201_24, r_201_25, r_201_26, r_201_27, r_201_30, r_201_33, r_201_34, Option.bind_some, Option.bind_none, Option.toList_some, Option.toList_none, List.cons_append, List.nil_append, Option.map_some, Option.map_none, eq_self, if_true, if_false, reduceIte, ai_bi_eq0, ai_bi_eq1, ai_pb_bi, ai_pb_0, ai_pb_1, f_185_0, mg_0, h.1, c2]
  rfl
theorem m_chaptersBy (h : kb_m (xm_s w) B) (hk : kb_ok B) (x : Int32) : ai_Call 190 [.ref 185, .int x] (wl w) = some (some (.int (nI (kb_wn B x))), wl w) := by
  have hn := hk.1
  have step : ∀ i, i < 30 → ai_Run 190 4 [.ref 185, .int x, .int (nI (kb_s (fun q => kb_i (decide (kb_W B (q + 1) = x))) i)), .int (nI (i + 1))] [] (wl w) = ai_Run 190 4 [.ref 185, .int x, .int (nI (kb_s (fun q => kb_i (decide (kb_W B (q + 1) = x))) (i + 1))), .int (nI ((i + 1) + 1))] [] (wl w) := by
    intro i hi
    have c1 : ¬ (30 : Int32) < nI (i + 1) := nI_nlt (b := i + 1) (a := 30) (by omega) (by decide)
    rw [r_190_4]
    by_cases c2 : kb_W B (i + 1) = x
    · simp only [r_190_0, r_190_1, r_190_2, r_190_3, r_190_5, r_190_7, r_190_10, r_190_11, r_190_12, r_190_15, r_190_16, r_190_17, r_190_18, r_190_19, r_190_20, r_190_23, r_190_24, r_190_27, r_190_28, r_190_29, r_190_30, r_190_33, r_190_36, r_190_37, Option.bind_some, Option.bind_none, Option.toList_some, Option.toList_none, List.cons_append, List.nil_append, Option.map_some, Option.map_none, eq_self, if_true, if_false, reduceIte, ai_bi_eq0, ai_bi_eq1, ai_pb_bi, ai_pb_0, ai_pb_1, f_185_0, mg_0, h.1, c1, a_3, m_W h (show i + 1 ≤ 30 by omega), c2, decide_true, not_true, decide_false, nI_1, kb_s, kb_i_t, kb_i_f, Nat.add_zero, Int32.add_zero]
    · simp only [r_190_0, r_190_1, r_190_2, r_190_3, r_190_5, r_190_7, r_190_10, r_190_11, r_190_12, r_190_15, r_190_16, r_190_17, r_190_18, r_190_19, r_190_20, r_190_23, r_190_24, r_190_27, r_190_28, r_190_29, r_190_30, r_190_33, r_190_36, r_190_37, Option.bind_some, Option.bind_none, Option.toList_some, Option.toList_none, List.cons_append, List.nil_append, Option.map_some, Option.map_none, eq_self, if_true, if_false, reduceIte, ai_bi_eq0, ai_bi_eq1, ai_pb_bi, ai_pb_0, ai_pb_1, f_185_0, mg_0, h.1, c1, a_3, m_W h (show i + 1 ≤ 30 by omega), c2, decide_true, not_false_eq_true, decide_false, nI_1, kb_s, kb_i_t, kb_i_f, Nat.add_zero, Int32.add_zero]
  have e := lp_n (fun i => ai_Run 190 4 [.ref 185, .int x, .int (nI (kb_s (fun q => kb_i (decide (kb_W B (q + 1) = x))) i)), .int (nI (i + 1))] [] (wl w)) (30) step
  have c2 : (30 : Int32) < nI (30 + 1) := by decide
  simp only [e_190, o_185, r_190_0, r_190_1, r_190_2, r_190_3, r_190_5, r_190_7, r_190_10, r_190_11, r_190_12, r_190_15, r_190_16, r_190_17, r_190_18, r_190_19, r_190_20, r_190_23, r_190_24, r_190_27, r_190_28, r_190_29, r_190_30, r_190_33, r_190_36, r_190_37, Option.bind_some, Option.bind_none, Option.toList_some, Option.toList_none, List.cons_append, List.nil_append, Option.map_some, Option.map_none, eq_self, if_true, if_false, reduceIte, ai_bi_eq0, ai_bi_eq1, ai_pb_bi, ai_pb_0, ai_pb_1]
  refine e.trans ?_
  rw [r_190_4]
  simp only [r_190_0, r_190_1, r_190_2, r_190_3, r_190_5, r_190_7, r_190_10, r_190_11, r_190_12, r_190_15, r_190_16, r_190_17, r_190_18, r_190_19, r_190_20, r_190_23, r_190_24, r_190_27, r_190_28, r_190_29, r_190_30, r_190_33, r_190_36, r_190_37, Option.bind_some, Option.bind_none, Option.toList_some, Option.toList_none, List.cons_append, List.nil_append, Option.map_some, Option.map_none, eq_self, if_true, if_false, reduceIte, ai_bi_eq0, ai_bi_eq1, ai_pb_bi, ai_pb_0, ai_pb_1, f_185_0, mg_0, h.1, c2]
  rfl
theorem m_written (h : kb_m (xm_s w) B) (hk : kb_ok B)  : ai_Call 174 [.ref 185] (wl w) = some (some (.int (nI (kb_s (fun q => kb_i (decide (¬ kb_W B (q + 1) = (-4)))) (30)))), wl w) := by
  have hn := hk.1
  have step : ∀ i, i < 30 → ai_Run 174 4 [.ref 185, .int (nI (kb_s (fun q => kb_i (decide (¬ kb_W B (q + 1) = (-4)))) i)), .int (nI (i + 1))] [] (wl w) = ai_Run 174 4 [.ref 185, .int (nI (kb_s (fun q => kb_i (decide (¬ kb_W B (q + 1) = (-4)))) (i + 1))), .int (nI ((i + 1) + 1))] [] (wl w) := by
    intro i hi
    have c1 : ¬ (30 : Int32) < nI (i + 1) := nI_nlt (b := i + 1) (a := 30) (by omega) (by decide)
    rw [r_174_4]
    by_cases c2 : kb_W B (i + 1) = (-4)
    · simp only [r_174_0, r_174_1, r_174_2, r_174_3, r_174_5, r_174_7, r_174_10, r_174_11, r_174_12, r_174_15, r_174_16, r_174_17, r_174_18, r_174_19, r_174_21, r_174_24, r_174_25, r_174_28, r_174_29, r_174_30, r_174_31, r_174_34, r_174_37, r_174_38, Option.bind_some, Option.bind_none, Option.toList_some, Option.toList_none, List.cons_append, List.nil_append, Option.map_some, Option.map_none, eq_self, if_true, if_false, reduceIte, ai_bi_eq0, ai_bi_eq1, ai_pb_bi, ai_pb_0, ai_pb_1, f_185_0, mg_0, h.1, c1, a_3, m_W h (show i + 1 ≤ 30 by omega), c2, decide_true, not_true, decide_false, nI_1, kb_s, kb_i_t, kb_i_f, Nat.add_zero, Int32.add_zero]
    · simp only [r_174_0, r_174_1, r_174_2, r_174_3, r_174_5, r_174_7, r_174_10, r_174_11, r_174_12, r_174_15, r_174_16, r_174_17, r_174_18, r_174_19, r_174_21, r_174_24, r_174_25, r_174_28, r_174_29, r_174_30, r_174_31, r_174_34, r_174_37, r_174_38, Option.bind_some, Option.bind_none, Option.toList_some, Option.toList_none, List.cons_append, List.nil_append, Option.map_some, Option.map_none, eq_self, if_true, if_false, reduceIte, ai_bi_eq0, ai_bi_eq1, ai_pb_bi, ai_pb_0, ai_pb_1, f_185_0, mg_0, h.1, c1, a_3, m_W h (show i + 1 ≤ 30 by omega), c2, decide_true, not_false_eq_true, decide_false, nI_1, kb_s, kb_i_t, kb_i_f, Nat.add_zero, Int32.add_zero]
  have e := lp_n (fun i => ai_Run 174 4 [.ref 185, .int (nI (kb_s (fun q => kb_i (decide (¬ kb_W B (q + 1) = (-4)))) i)), .int (nI (i + 1))] [] (wl w)) (30) step
  have c2 : (30 : Int32) < nI (30 + 1) := by decide
  simp only [e_174, o_185, r_174_0, r_174_1, r_174_2, r_174_3, r_174_5, r_174_7, r_174_10, r_174_11, r_174_12, r_174_15, r_174_16, r_174_17, r_174_18, r_174_19, r_174_21, r_174_24, r_174_25, r_174_28, r_174_29, r_174_30, r_174_31, r_174_34, r_174_37, r_174_38, Option.bind_some, Option.bind_none, Option.toList_some, Option.toList_none, List.cons_append, List.nil_append, Option.map_some, Option.map_none, eq_self, if_true, if_false, reduceIte, ai_bi_eq0, ai_bi_eq1, ai_pb_bi, ai_pb_0, ai_pb_1]
  refine e.trans ?_
  rw [r_174_4]
  simp only [r_174_0, r_174_1, r_174_2, r_174_3, r_174_5, r_174_7, r_174_10, r_174_11, r_174_12, r_174_15, r_174_16, r_174_17, r_174_18, r_174_19, r_174_21, r_174_24, r_174_25, r_174_28, r_174_29, r_174_30, r_174_31, r_174_34, r_174_37, r_174_38, Option.bind_some, Option.bind_none, Option.toList_some, Option.toList_none, List.cons_append, List.nil_append, Option.map_some, Option.map_none, eq_self, if_true, if_false, reduceIte, ai_bi_eq0, ai_bi_eq1, ai_pb_bi, ai_pb_0, ai_pb_1, f_185_0, mg_0, h.1, c2]
theorem m_solvedOf (h : kb_m (xm_s w) B) (hk : kb_ok B) {c : Nat} (hc : c < kb_n B) : ai_Call 171 [.ref 185, .int (nI c)] (wl w) = some (some (.int (nI (kb_s (fun d => kb_i (decide (¬ kb_C B c d = (-4)))) (kb_d B c)))), wl w) := by
  have hn := hk.1
  have h3 := kb_d3 hk c
  have step : ∀ i, i < kb_d B c → ai_Run 171 4 [.ref 185, .int (nI c), .int (nI (kb_s (fun d => kb_i (decide (¬ kb_C B c d = (-4)))) i)), .int (nI i)] [] (wl w) = ai_Run 171 4 [.ref 185, .int (nI c), .int (nI (kb_s (fun d => kb_i (decide (¬ kb_C B c d = (-4)))) (i + 1))), .int (nI (i + 1))] [] (wl w) := by
    intro i hi
    have c1 : nI i < nI (kb_d B c) := nI_lt hi (by omega)
    rw [r_171_4]
    by_cases c2 : kb_C B c i = (-4)
    · simp only [r_171_0, r_171_1, r_171_2, r_171_3, r_171_5, r_171_6, r_171_7, r_171_10, r_171_13, r_171_14, r_171_15, r_171_16, r_171_17, r_171_20, r_171_22, r_171_25, r_171_26, r_171_29, r_171_30, r_171_31, r_171_32, r_171_35, r_171_38, r_171_39, Option.bind_some, Option.bind_none, Option.toList_some, Option.toList_none, List.cons_append, List.nil_append, Option.map_some, Option.map_none, eq_self, if_true, if_false, reduceIte, ai_bi_eq0, ai_bi_eq1, ai_pb_bi, ai_pb_0, ai_pb_1, f_185_0, mg_0, h.1, c1, m_deathsOf h hk (show c < 8 by omega), m_culprit h hk hc (show i < 3 by omega), c2, decide_true, not_true, decide_false, nI_1, kb_s, kb_i_t, kb_i_f, Nat.add_zero, Int32.add_zero]
    · simp only [r_171_0, r_171_1, r_171_2, r_171_3, r_171_5, r_171_6, r_171_7, r_171_10, r_171_13, r_171_14, r_171_15, r_171_16, r_171_17, r_171_20, r_171_22, r_171_25, r_171_26, r_171_29, r_171_30, r_171_31, r_171_32, r_171_35, r_171_38, r_171_39, Option.bind_some, Option.bind_none, Option.toList_some, Option.toList_none, List.cons_append, List.nil_append, Option.map_some, Option.map_none, eq_self, if_true, if_false, reduceIte, ai_bi_eq0, ai_bi_eq1, ai_pb_bi, ai_pb_0, ai_pb_1, f_185_0, mg_0, h.1, c1, m_deathsOf h hk (show c < 8 by omega), m_culprit h hk hc (show i < 3 by omega), c2, decide_true, not_false_eq_true, decide_false, nI_1, kb_s, kb_i_t, kb_i_f, Nat.add_zero, Int32.add_zero]
  have e := lp_n (fun i => ai_Run 171 4 [.ref 185, .int (nI c), .int (nI (kb_s (fun d => kb_i (decide (¬ kb_C B c d = (-4)))) i)), .int (nI i)] [] (wl w)) (kb_d B c) step
  have c2 : ¬ nI (kb_d B c) < nI (kb_d B c) := nI_nlt (Nat.le_refl _) (by omega)
  simp only [e_171, o_185, r_171_0, r_171_1, r_171_2, r_171_3, r_171_5, r_171_6, r_171_7, r_171_10, r_171_13, r_171_14, r_171_15, r_171_16, r_171_17, r_171_20, r_171_22, r_171_25, r_171_26, r_171_29, r_171_30, r_171_31, r_171_32, r_171_35, r_171_38, r_171_39, Option.bind_some, Option.bind_none, Option.toList_some, Option.toList_none, List.cons_append, List.nil_append, Option.map_some, Option.map_none, eq_self, if_true, if_false, reduceIte, ai_bi_eq0, ai_bi_eq1, ai_pb_bi, ai_pb_0, ai_pb_1]
  refine e.trans ?_
  rw [r_171_4]
  simp only [r_171_0, r_171_1, r_171_2, r_171_3, r_171_5, r_171_6, r_171_7, r_171_10, r_171_13, r_171_14, r_171_15, r_171_16, r_171_17, r_171_20, r_171_22, r_171_25, r_171_26, r_171_29, r_171_30, r_171_31, r_171_32, r_171_35, r_171_38, r_171_39, Option.bind_some, Option.bind_none, Option.toList_some, Option.toList_none, List.cons_append, List.nil_append, Option.map_some, Option.map_none, eq_self, if_true, if_false, reduceIte, ai_bi_eq0, ai_bi_eq1, ai_pb_bi, ai_pb_0, ai_pb_1, f_185_0, mg_0, h.1, c2, m_deathsOf h hk (show c < 8 by omega)]
theorem m_causers (h : kb_m (xm_s w) B) (hk : kb_ok B) {o d : Nat} (ho : o < 8) (hd : d < kb_d B o) : ai_Call 197 [.ref 185, .int (nI o), .int (nI d)] (wl w) = some (some (.int (nI (kb_s (fun c => kb_i (kb_could B c o d)) (kb_n B)))), wl w) := by
  have hn := hk.1
  have step : ∀ i, i < kb_n B → ai_Run 197 5 [.ref 185, .int (nI o), .int (nI d), .int (nI (kb_s (fun c => kb_i (kb_could B c o d)) i)), .int (nI i)] [] (wl w) = ai_Run 197 5 [.ref 185, .int (nI o), .int (nI d), .int (nI (kb_s (fun c => kb_i (kb_could B c o d)) (i + 1))), .int (nI (i + 1))] [] (wl w) := by
    intro i hi
    have c1 : nI i < nI (kb_n B) := nI_lt hi (by omega)
    rw [r_197_5]
    by_cases c2 : kb_could B i o d = true
    · simp only [r_197_0, r_197_1, r_197_2, r_197_3, r_197_7, r_197_8, r_197_11, r_197_12, r_197_13, r_197_16, r_197_17, r_197_18, r_197_20, r_197_21, r_197_22, r_197_25, r_197_28, r_197_29, r_197_32, r_197_33, r_197_34, r_197_35, r_197_38, r_197_41, r_197_42, Option.bind_some, Option.bind_none, Option.toList_some, Option.toList_none, List.cons_append, List.nil_append, Option.map_some, Option.map_none, eq_self, if_true, if_false, reduceIte, ai_bi_eq0, ai_bi_eq1, ai_pb_bi, ai_pb_0, ai_pb_1, f_185_0, mg_0, h.1, c1, m_could h hk (show i < 8 by omega) ho hd, c2, Bool.true_eq_false, nI_1, kb_s, kb_i_t]
    · have c2' : kb_could B i o d = false := by simpa using c2
      simp only [r_197_0, r_197_1, r_197_2, r_197_3, r_197_7, r_197_8, r_197_11, r_197_12, r_197_13, r_197_16, r_197_17, r_197_18, r_197_20, r_197_21, r_197_22, r_197_25, r_197_28, r_197_29, r_197_32, r_197_33, r_197_34, r_197_35, r_197_38, r_197_41, r_197_42, Option.bind_some, Option.bind_none, Option.toList_some, Option.toList_none, List.cons_append, List.nil_append, Option.map_some, Option.map_none, eq_self, if_true, if_false, reduceIte, ai_bi_eq0, ai_bi_eq1, ai_pb_bi, ai_pb_0, ai_pb_1, f_185_0, mg_0, h.1, c1, m_could h hk (show i < 8 by omega) ho hd, c2', nI_1, kb_s, kb_i_f, Nat.add_zero, Int32.add_zero]
  have e := lp_n (fun i => ai_Run 197 5 [.ref 185, .int (nI o), .int (nI d), .int (nI (kb_s (fun c => kb_i (kb_could B c o d)) i)), .int (nI i)] [] (wl w)) (kb_n B) step
  have c2 : ¬ nI (kb_n B) < nI (kb_n B) := nI_nlt (Nat.le_refl _) (by omega)
  simp only [e_197, o_185, r_197_0, r_197_1, r_197_2, r_197_3, r_197_7, r_197_8, r_197_11, r_197_12, r_197_13, r_197_16, r_197_17, r_197_18, r_197_20, r_197_21, r_197_22, r_197_25, r_197_28, r_197_29, r_197_32, r_197_33, r_197_34, r_197_35, r_197_38, r_197_41, r_197_42, Option.bind_some, Option.bind_none, Option.toList_some, Option.toList_none, List.cons_append, List.nil_append, Option.map_some, Option.map_none, eq_self, if_true, if_false, reduceIte, ai_bi_eq0, ai_bi_eq1, ai_pb_bi, ai_pb_0, ai_pb_1]
  refine e.trans ?_
  rw [r_197_5]
  simp only [r_197_0, r_197_1, r_197_2, r_197_3, r_197_7, r_197_8, r_197_11, r_197_12, r_197_13, r_197_16, r_197_17, r_197_18, r_197_20, r_197_21, r_197_22, r_197_25, r_197_28, r_197_29, r_197_32, r_197_33, r_197_34, r_197_35, r_197_38, r_197_41, r_197_42, Option.bind_some, Option.bind_none, Option.toList_some, Option.toList_none, List.cons_append, List.nil_append, Option.map_some, Option.map_none, eq_self, if_true, if_false, reduceIte, ai_bi_eq0, ai_bi_eq1, ai_pb_bi, ai_pb_0, ai_pb_1, f_185_0, mg_0, h.1, c2]
theorem m_deadMany (h : kb_m (xm_s w) B) (hk : kb_ok B) {q : Nat} (hq : q ≤ 30) : ai_Call 205 [.ref 185, .int (nI q)] (wl w) = some (some (.int (nI (kb_dm B q))), wl w) := by
  have hn := hk.1
  have step : ∀ i, i < kb_n B → ai_Run 205 4 [.ref 185, .int (nI q), .int (nI (kb_s (fun c => kb_i (kb_dead B c q)) i)), .int (nI i)] [] (wl w) = ai_Run 205 4 [.ref 185, .int (nI q), .int (nI (kb_s (fun c => kb_i (kb_dead B c q)) (i + 1))), .int (nI (i + 1))] [] (wl w) := by
    intro i hi
    have c1 : nI i < nI (kb_n B) := nI_lt hi (by omega)
    rw [r_205_4]
    by_cases c2 : kb_dead B i q = true
    · simp only [r_205_0, r_205_1, r_205_2, r_205_3, r_205_5, r_205_6, r_205_9, r_205_10, r_205_11, r_205_14, r_205_15, r_205_16, r_205_17, r_205_18, r_205_21, r_205_24, r_205_25, r_205_28, r_205_29, r_205_30, r_205_31, r_205_34, r_205_37, r_205_38, Option.bind_some, Option.bind_none, Option.toList_some, Option.toList_none, List.cons_append, List.nil_append, Option.map_some, Option.map_none, eq_self, if_true, if_false, reduceIte, ai_bi_eq0, ai_bi_eq1, ai_pb_bi, ai_pb_0, ai_pb_1, f_185_0, mg_0, h.1, c1, m_isDeadIn h hk (show i < 8 by omega) hq, c2, Bool.true_eq_false, nI_1, kb_s, kb_i_t]
    · have c2' : kb_dead B i q = false := by simpa using c2
      simp only [r_205_0, r_205_1, r_205_2, r_205_3, r_205_5, r_205_6, r_205_9, r_205_10, r_205_11, r_205_14, r_205_15, r_205_16, r_205_17, r_205_18, r_205_21, r_205_24, r_205_25, r_205_28, r_205_29, r_205_30, r_205_31, r_205_34, r_205_37, r_205_38, Option.bind_some, Option.bind_none, Option.toList_some, Option.toList_none, List.cons_append, List.nil_append, Option.map_some, Option.map_none, eq_self, if_true, if_false, reduceIte, ai_bi_eq0, ai_bi_eq1, ai_pb_bi, ai_pb_0, ai_pb_1, f_185_0, mg_0, h.1, c1, m_isDeadIn h hk (show i < 8 by omega) hq, c2', nI_1, kb_s, kb_i_f, Nat.add_zero, Int32.add_zero]
  have e := lp_n (fun i => ai_Run 205 4 [.ref 185, .int (nI q), .int (nI (kb_s (fun c => kb_i (kb_dead B c q)) i)), .int (nI i)] [] (wl w)) (kb_n B) step
  have c2 : ¬ nI (kb_n B) < nI (kb_n B) := nI_nlt (Nat.le_refl _) (by omega)
  simp only [e_205, o_185, r_205_0, r_205_1, r_205_2, r_205_3, r_205_5, r_205_6, r_205_9, r_205_10, r_205_11, r_205_14, r_205_15, r_205_16, r_205_17, r_205_18, r_205_21, r_205_24, r_205_25, r_205_28, r_205_29, r_205_30, r_205_31, r_205_34, r_205_37, r_205_38, Option.bind_some, Option.bind_none, Option.toList_some, Option.toList_none, List.cons_append, List.nil_append, Option.map_some, Option.map_none, eq_self, if_true, if_false, reduceIte, ai_bi_eq0, ai_bi_eq1, ai_pb_bi, ai_pb_0, ai_pb_1]
  refine e.trans ?_
  rw [r_205_4]
  simp only [r_205_0, r_205_1, r_205_2, r_205_3, r_205_5, r_205_6, r_205_9, r_205_10, r_205_11, r_205_14, r_205_15, r_205_16, r_205_17, r_205_18, r_205_21, r_205_24, r_205_25, r_205_28, r_205_29, r_205_30, r_205_31, r_205_34, r_205_37, r_205_38, Option.bind_some, Option.bind_none, Option.toList_some, Option.toList_none, List.cons_append, List.nil_append, Option.map_some, Option.map_none, eq_self, if_true, if_false, reduceIte, ai_bi_eq0, ai_bi_eq1, ai_pb_bi, ai_pb_0, ai_pb_1, f_185_0, mg_0, h.1, c2]
  rfl
theorem m_allDeaths (h : kb_m (xm_s w) B) (hk : kb_ok B)  : ai_Call 167 [.ref 185] (wl w) = some (some (.int (nI (kb_s (fun c => kb_d B c) (kb_n B)))), wl w) := by
  have hn := hk.1
  have step : ∀ i, i < kb_n B → ai_Run 167 4 [.ref 185, .int (nI (kb_s (fun c => kb_d B c) i)), .int (nI i)] [] (wl w) = ai_Run 167 4 [.ref 185, .int (nI (kb_s (fun c => kb_d B c) (i + 1))), .int (nI (i + 1))] [] (wl w) := by
    intro i hi
    have c1 : nI i < nI (kb_n B) := nI_lt hi (by omega)
    rw [r_167_4]
    simp only [r_167_0, r_167_1, r_167_2, r_167_3, r_167_5, r_167_6, r_167_9, r_167_10, r_167_11, r_167_14, r_167_15, r_167_16, r_167_17, r_167_20, r_167_21, r_167_22, r_167_25, r_167_28, r_167_29, Option.bind_some, Option.bind_none, Option.toList_some, Option.toList_none, List.cons_append, List.nil_append, Option.map_some, Option.map_none, eq_self, if_true, if_false, reduceIte, ai_bi_eq0, ai_bi_eq1, ai_pb_bi, ai_pb_0, ai_pb_1, f_185_0, mg_0, h.1, c1, m_deathsOf h hk (show i < 8 by omega), nI_add, nI_1, kb_s]
  have e := lp_n (fun i => ai_Run 167 4 [.ref 185, .int (nI (kb_s (fun c => kb_d B c) i)), .int (nI i)] [] (wl w)) (kb_n B) step
  have c2 : ¬ nI (kb_n B) < nI (kb_n B) := nI_nlt (Nat.le_refl _) (by omega)
  simp only [e_167, o_185, r_167_0, r_167_1, r_167_2, r_167_3, r_167_5, r_167_6, r_167_9, r_167_10, r_167_11, r_167_14, r_167_15, r_167_16, r_167_17, r_167_20, r_167_21, r_167_22, r_167_25, r_167_28, r_167_29, Option.bind_some, Option.bind_none, Option.toList_some, Option.toList_none, List.cons_append, List.nil_append, Option.map_some, Option.map_none, eq_self, if_true, if_false, reduceIte, ai_bi_eq0, ai_bi_eq1, ai_pb_bi, ai_pb_0, ai_pb_1]
  refine e.trans ?_
  rw [r_167_4]
  simp only [r_167_0, r_167_1, r_167_2, r_167_3, r_167_5, r_167_6, r_167_9, r_167_10, r_167_11, r_167_14, r_167_15, r_167_16, r_167_17, r_167_20, r_167_21, r_167_22, r_167_25, r_167_28, r_167_29, Option.bind_some, Option.bind_none, Option.toList_some, Option.toList_none, List.cons_append, List.nil_append, Option.map_some, Option.map_none, eq_self, if_true, if_false, reduceIte, ai_bi_eq0, ai_bi_eq1, ai_pb_bi, ai_pb_0, ai_pb_1, f_185_0, mg_0, h.1, c2]
theorem m_allRisings (h : kb_m (xm_s w) B) (hk : kb_ok B)  : ai_Call 169 [.ref 185] (wl w) = some (some (.int (nI (kb_s (fun c => kb_T B c / 2) (kb_n B)))), wl w) := by
  have hn := hk.1
  have step : ∀ i, i < kb_n B → ai_Run 169 4 [.ref 185, .int (nI (kb_s (fun c => kb_T B c / 2) i)), .int (nI i)] [] (wl w) = ai_Run 169 4 [.ref 185, .int (nI (kb_s (fun c => kb_T B c / 2) (i + 1))), .int (nI (i + 1))] [] (wl w) := by
    intro i hi
    have c1 : nI i < nI (kb_n B) := nI_lt hi (by omega)
    rw [r_169_4]
    simp only [r_169_0, r_169_1, r_169_2, r_169_3, r_169_5, r_169_6, r_169_9, r_169_10, r_169_11, r_169_14, r_169_15, r_169_16, r_169_17, r_169_20, r_169_21, r_169_22, r_169_25, r_169_28, r_169_29, Option.bind_some, Option.bind_none, Option.toList_some, Option.toList_none, List.cons_append, List.nil_append, Option.map_some, Option.map_none, eq_self, if_true, if_false, reduceIte, ai_bi_eq0, ai_bi_eq1, ai_pb_bi, ai_pb_0, ai_pb_1, f_185_0, mg_0, h.1, c1, m_risingsOf h hk (show i < 8 by omega), nI_add, nI_1, kb_s]
  have e := lp_n (fun i => ai_Run 169 4 [.ref 185, .int (nI (kb_s (fun c => kb_T B c / 2) i)), .int (nI i)] [] (wl w)) (kb_n B) step
  have c2 : ¬ nI (kb_n B) < nI (kb_n B) := nI_nlt (Nat.le_refl _) (by omega)
  simp only [e_169, o_185, r_169_0, r_169_1, r_169_2, r_169_3, r_169_5, r_169_6, r_169_9, r_169_10, r_169_11, r_169_14, r_169_15, r_169_16, r_169_17, r_169_20, r_169_21, r_169_22, r_169_25, r_169_28, r_169_29, Option.bind_some, Option.bind_none, Option.toList_some, Option.toList_none, List.cons_append, List.nil_append, Option.map_some, Option.map_none, eq_self, if_true, if_false, reduceIte, ai_bi_eq0, ai_bi_eq1, ai_pb_bi, ai_pb_0, ai_pb_1]
  refine e.trans ?_
  rw [r_169_4]
  simp only [r_169_0, r_169_1, r_169_2, r_169_3, r_169_5, r_169_6, r_169_9, r_169_10, r_169_11, r_169_14, r_169_15, r_169_16, r_169_17, r_169_20, r_169_21, r_169_22, r_169_25, r_169_28, r_169_29, Option.bind_some, Option.bind_none, Option.toList_some, Option.toList_none, List.cons_append, List.nil_append, Option.map_some, Option.map_none, eq_self, if_true, if_false, reduceIte, ai_bi_eq0, ai_bi_eq1, ai_pb_bi, ai_pb_0, ai_pb_1, f_185_0, mg_0, h.1, c2]
theorem m_allSolved (h : kb_m (xm_s w) B) (hk : kb_ok B)  : ai_Call 172 [.ref 185] (wl w) = some (some (.int (nI (kb_s (fun c => kb_s (fun d => kb_i (decide (¬ kb_C B c d = (-4)))) (kb_d B c)) (kb_n B)))), wl w) := by
  have hn := hk.1
  have step : ∀ i, i < kb_n B → ai_Run 172 4 [.ref 185, .int (nI (kb_s (fun c => kb_s (fun d => kb_i (decide (¬ kb_C B c d = (-4)))) (kb_d B c)) i)), .int (nI i)] [] (wl w) = ai_Run 172 4 [.ref 185, .int (nI (kb_s (fun c => kb_s (fun d => kb_i (decide (¬ kb_C B c d = (-4)))) (kb_d B c)) (i + 1))), .int (nI (i + 1))] [] (wl w) := by
    intro i hi
    have c1 : nI i < nI (kb_n B) := nI_lt hi (by omega)
    rw [r_172_4]
    simp only [r_172_0, r_172_1, r_172_2, r_172_3, r_172_5, r_172_6, r_172_9, r_172_10, r_172_11, r_172_14, r_172_15, r_172_16, r_172_17, r_172_20, r_172_21, r_172_22, r_172_25, r_172_28, r_172_29, Option.bind_some, Option.bind_none, Option.toList_some, Option.toList_none, List.cons_append, List.nil_append, Option.map_some, Option.map_none, eq_self, if_true, if_false, reduceIte, ai_bi_eq0, ai_bi_eq1, ai_pb_bi, ai_pb_0, ai_pb_1, f_185_0, mg_0, h.1, c1, m_solvedOf h hk hi, nI_add, nI_1, kb_s]
  have e := lp_n (fun i => ai_Run 172 4 [.ref 185, .int (nI (kb_s (fun c => kb_s (fun d => kb_i (decide (¬ kb_C B c d = (-4)))) (kb_d B c)) i)), .int (nI i)] [] (wl w)) (kb_n B) step
  have c2 : ¬ nI (kb_n B) < nI (kb_n B) := nI_nlt (Nat.le_refl _) (by omega)
  simp only [e_172, o_185, r_172_0, r_172_1, r_172_2, r_172_3, r_172_5, r_172_6, r_172_9, r_172_10, r_172_11, r_172_14, r_172_15, r_172_16, r_172_17, r_172_20, r_172_21, r_172_22, r_172_25, r_172_28, r_172_29, Option.bind_some, Option.bind_none, Option.toList_some, Option.toList_none, List.cons_append, List.nil_append, Option.map_some, Option.map_none, eq_self, if_true, if_false, reduceIte, ai_bi_eq0, ai_bi_eq1, ai_pb_bi, ai_pb_0, ai_pb_1]
  refine e.trans ?_
  rw [r_172_4]
  simp only [r_172_0, r_172_1, r_172_2, r_172_3, r_172_5, r_172_6, r_172_9, r_172_10, r_172_11, r_172_14, r_172_15, r_172_16, r_172_17, r_172_20, r_172_21, r_172_22, r_172_25, r_172_28, r_172_29, Option.bind_some, Option.bind_none, Option.toList_some, Option.toList_none, List.cons_append, List.nil_append, Option.map_some, Option.map_none, eq_self, if_true, if_false, reduceIte, ai_bi_eq0, ai_bi_eq1, ai_pb_bi, ai_pb_0, ai_pb_1, f_185_0, mg_0, h.1, c2]
theorem m_motives0 (h : kb_m (xm_s w) B) (hk : kb_ok B) {c : Nat} (hc : c < 8) : ai_Call 203 [.ref 185, .int (nI c), .int 0] (wl w) = some (some (.int (nI (kb_s (fun o => kb_M B c o) (kb_n B)))), wl w) := by
  have hn := hk.1
  have step : ∀ i, i < kb_n B → ai_Run 203 5 [.ref 185, .int (nI c), .int 0, .int (nI (kb_s (fun o => kb_M B c o) i)), .int (nI i)] [] (wl w) = ai_Run 203 5 [.ref 185, .int (nI c), .int 0, .int (nI (kb_s (fun o => kb_M B c o) (i + 1))), .int (nI (i + 1))] [] (wl w) := by
    intro i hi
    have c1 : nI i < nI (kb_n B) := nI_lt hi (by omega)
    rw [r_203_5]
    simp only [r_203_0, r_203_1, r_203_2, r_203_3, r_203_7, r_203_8, r_203_11, r_203_12, r_203_13, r_203_16, r_203_17, r_203_18, r_203_21, r_203_22, r_203_24, r_203_25, r_203_28, r_203_31, r_203_32, r_203_33, r_203_35, r_203_38, r_203_39, r_203_40, r_203_43, r_203_46, r_203_47, Option.bind_some, Option.bind_none, Option.toList_some, Option.toList_none, List.cons_append, List.nil_append, Option.map_some, Option.map_none, eq_self, if_true, if_false, reduceIte, ai_bi_eq0, ai_bi_eq1, ai_pb_bi, ai_pb_0, ai_pb_1, f_185_0, mg_0, h.1, c1, show ¬ (1 : Int32) = 0 by decide, m_pagesOf h hc (show i < 8 by omega), nI_add, nI_1, kb_s]
  have e := lp_n (fun i => ai_Run 203 5 [.ref 185, .int (nI c), .int 0, .int (nI (kb_s (fun o => kb_M B c o) i)), .int (nI i)] [] (wl w)) (kb_n B) step
  have c2 : ¬ nI (kb_n B) < nI (kb_n B) := nI_nlt (Nat.le_refl _) (by omega)
  simp only [e_203, o_185, r_203_0, r_203_1, r_203_2, r_203_3, r_203_7, r_203_8, r_203_11, r_203_12, r_203_13, r_203_16, r_203_17, r_203_18, r_203_21, r_203_22, r_203_24, r_203_25, r_203_28, r_203_31, r_203_32, r_203_33, r_203_35, r_203_38, r_203_39, r_203_40, r_203_43, r_203_46, r_203_47, Option.bind_some, Option.bind_none, Option.toList_some, Option.toList_none, List.cons_append, List.nil_append, Option.map_some, Option.map_none, eq_self, if_true, if_false, reduceIte, ai_bi_eq0, ai_bi_eq1, ai_pb_bi, ai_pb_0, ai_pb_1]
  refine e.trans ?_
  rw [r_203_5]
  simp only [r_203_0, r_203_1, r_203_2, r_203_3, r_203_7, r_203_8, r_203_11, r_203_12, r_203_13, r_203_16, r_203_17, r_203_18, r_203_21, r_203_22, r_203_24, r_203_25, r_203_28, r_203_31, r_203_32, r_203_33, r_203_35, r_203_38, r_203_39, r_203_40, r_203_43, r_203_46, r_203_47, Option.bind_some, Option.bind_none, Option.toList_some, Option.toList_none, List.cons_append, List.nil_append, Option.map_some, Option.map_none, eq_self, if_true, if_false, reduceIte, ai_bi_eq0, ai_bi_eq1, ai_pb_bi, ai_pb_0, ai_pb_1, f_185_0, mg_0, h.1, c2]
theorem m_motives1 (h : kb_m (xm_s w) B) (hk : kb_ok B) {c : Nat} (hc : c < 8) : ai_Call 203 [.ref 185, .int (nI c), .int 1] (wl w) = some (some (.int (nI (kb_s (fun o => kb_M B o c) (kb_n B)))), wl w) := by
  have hn := hk.1
  have step : ∀ i, i < kb_n B → ai_Run 203 5 [.ref 185, .int (nI c), .int 1, .int (nI (kb_s (fun o => kb_M B o c) i)), .int (nI i)] [] (wl w) = ai_Run 203 5 [.ref 185, .int (nI c), .int 1, .int (nI (kb_s (fun o => kb_M B o c) (i + 1))), .int (nI (i + 1))] [] (wl w) := by
    intro i hi
    have c1 : nI i < nI (kb_n B) := nI_lt hi (by omega)
    rw [r_203_5]
    simp only [r_203_0, r_203_1, r_203_2, r_203_3, r_203_7, r_203_8, r_203_11, r_203_12, r_203_13, r_203_16, r_203_17, r_203_18, r_203_21, r_203_22, r_203_24, r_203_25, r_203_28, r_203_31, r_203_32, r_203_33, r_203_35, r_203_38, r_203_39, r_203_40, r_203_43, r_203_46, r_203_47, Option.bind_some, Option.bind_none, Option.toList_some, Option.toList_none, List.cons_append, List.nil_append, Option.map_some, Option.map_none, eq_self, if_true, if_false, reduceIte, ai_bi_eq0, ai_bi_eq1, ai_pb_bi, ai_pb_0, ai_pb_1, f_185_0, mg_0, h.1, c1, show ¬ (1 : Int32) = 0 by decide, m_pagesOf h (show i < 8 by omega) hc, nI_add, nI_1, kb_s]
  have e := lp_n (fun i => ai_Run 203 5 [.ref 185, .int (nI c), .int 1, .int (nI (kb_s (fun o => kb_M B o c) i)), .int (nI i)] [] (wl w)) (kb_n B) step
  have c2 : ¬ nI (kb_n B) < nI (kb_n B) := nI_nlt (Nat.le_refl _) (by omega)
  simp only [e_203, o_185, r_203_0, r_203_1, r_203_2, r_203_3, r_203_7, r_203_8, r_203_11, r_203_12, r_203_13, r_203_16, r_203_17, r_203_18, r_203_21, r_203_22, r_203_24, r_203_25, r_203_28, r_203_31, r_203_32, r_203_33, r_203_35, r_203_38, r_203_39, r_203_40, r_203_43, r_203_46, r_203_47, Option.bind_some, Option.bind_none, Option.toList_some, Option.toList_none, List.cons_append, List.nil_append, Option.map_some, Option.map_none, eq_self, if_true, if_false, reduceIte, ai_bi_eq0, ai_bi_eq1, ai_pb_bi, ai_pb_0, ai_pb_1]
  refine e.trans ?_
  rw [r_203_5]
  simp only [r_203_0, r_203_1, r_203_2, r_203_3, r_203_7, r_203_8, r_203_11, r_203_12, r_203_13, r_203_16, r_203_17, r_203_18, r_203_21, r_203_22, r_203_24, r_203_25, r_203_28, r_203_31, r_203_32, r_203_33, r_203_35, r_203_38, r_203_39, r_203_40, r_203_43, r_203_46, r_203_47, Option.bind_some, Option.bind_none, Option.toList_some, Option.toList_none, List.cons_append, List.nil_append, Option.map_some, Option.map_none, eq_self, if_true, if_false, reduceIte, ai_bi_eq0, ai_bi_eq1, ai_pb_bi, ai_pb_0, ai_pb_1, f_185_0, mg_0, h.1, c2]
theorem m_deadIn (h : kb_m (xm_s w) B) (hk : kb_ok B) {q : Nat} (hq : q ≤ 30) : ai_Call 208 [.ref 185, .int (nI q)] (wl w) = some (some (.int (nI (kb_set B q))), wl w) := by
  have hn := hk.1
  have step : ∀ i, i < kb_n B → ai_Run 208 4 [.ref 185, .int (nI q), .int (nI (kb_k (fun c => kb_dead B c q) i)), .int (nI i)] [] (wl w) = ai_Run 208 4 [.ref 185, .int (nI q), .int (nI (kb_k (fun c => kb_dead B c q) (i + 1))), .int (nI (i + 1))] [] (wl w) := by
    intro i hi
    have c1 : nI i < nI (kb_n B) := nI_lt hi (by omega)
    rw [r_208_4]
    by_cases c2 : kb_dead B i q = true
    · simp only [r_208_0, r_208_1, r_208_2, r_208_3, r_208_5, r_208_6, r_208_9, r_208_10, r_208_11, r_208_14, r_208_15, r_208_16, r_208_17, r_208_18, r_208_21, r_208_24, r_208_25, r_208_26, r_208_27, r_208_30, r_208_31, r_208_32, r_208_33, r_208_36, r_208_39, r_208_40, Option.bind_some, Option.bind_none, Option.toList_some, Option.toList_none, List.cons_append, List.nil_append, Option.map_some, Option.map_none, eq_self, if_true, if_false, reduceIte, ai_bi_eq0, ai_bi_eq1, ai_pb_bi, ai_pb_0, ai_pb_1, f_185_0, mg_0, h.1, c1, m_isDeadIn h hk (show i < 8 by omega) hq, c2, nI_1, Bool.true_eq_false, ai_or8 _ (kb_k_lt _ (show i ≤ 8 by omega)) i (by omega)]
      rw [kb_k, if_pos c2]
    · have c2' : kb_dead B i q = false := by simpa using c2
      simp only [r_208_0, r_208_1, r_208_2, r_208_3, r_208_5, r_208_6, r_208_9, r_208_10, r_208_11, r_208_14, r_208_15, r_208_16, r_208_17, r_208_18, r_208_21, r_208_24, r_208_25, r_208_26, r_208_27, r_208_30, r_208_31, r_208_32, r_208_33, r_208_36, r_208_39, r_208_40, Option.bind_some, Option.bind_none, Option.toList_some, Option.toList_none, List.cons_append, List.nil_append, Option.map_some, Option.map_none, eq_self, if_true, if_false, reduceIte, ai_bi_eq0, ai_bi_eq1, ai_pb_bi, ai_pb_0, ai_pb_1, f_185_0, mg_0, h.1, c1, m_isDeadIn h hk (show i < 8 by omega) hq, c2', nI_1, Int32.or_zero]
      rw [kb_k, if_neg c2, Nat.or_zero]
  have e := lp_n (fun i => ai_Run 208 4 [.ref 185, .int (nI q), .int (nI (kb_k (fun c => kb_dead B c q) i)), .int (nI i)] [] (wl w)) _ step
  have c2 : ¬ nI (kb_n B) < nI (kb_n B) := nI_nlt (Nat.le_refl _) (by omega)
  simp only [e_208, o_185, r_208_0, r_208_1, r_208_2, r_208_3, r_208_5, r_208_6, r_208_9, r_208_10, r_208_11, r_208_14, r_208_15, r_208_16, r_208_17, r_208_18, r_208_21, r_208_24, r_208_25, r_208_26, r_208_27, r_208_30, r_208_31, r_208_32, r_208_33, r_208_36, r_208_39, r_208_40, Option.bind_some, Option.bind_none, Option.toList_some, Option.toList_none, List.cons_append, List.nil_append, Option.map_some, Option.map_none, eq_self, if_true, if_false, reduceIte, ai_bi_eq0, ai_bi_eq1, ai_pb_bi, ai_pb_0, ai_pb_1]
  refine e.trans ?_
  rw [r_208_4]
  simp only [r_208_0, r_208_1, r_208_2, r_208_3, r_208_5, r_208_6, r_208_9, r_208_10, r_208_11, r_208_14, r_208_15, r_208_16, r_208_17, r_208_18, r_208_21, r_208_24, r_208_25, r_208_26, r_208_27, r_208_30, r_208_31, r_208_32, r_208_33, r_208_36, r_208_39, r_208_40, Option.bind_some, Option.bind_none, Option.toList_some, Option.toList_none, List.cons_append, List.nil_append, Option.map_some, Option.map_none, eq_self, if_true, if_false, reduceIte, ai_bi_eq0, ai_bi_eq1, ai_pb_bi, ai_pb_0, ai_pb_1, f_185_0, mg_0, h.1, c2]
  rfl
theorem m_guiltyMany (h : kb_m (xm_s w) B) (hk : kb_ok B) {c o d : Nat} (hc : c < 8) (ho : o < 8) (hd : d < kb_d B o) : ai_Call 227 [.ref 185, .int (nI c), .int (nI o), .int (nI d)] (wl w) = some (some (.int (nI (kb_votes B (kb_w B c o d)))), wl w) := by
  by_cases cc : kb_could B c o d = true
  · have hw : kb_w B c o d = kb_M B c o + (if kb_by B (kb_E B o (2 * d)) = true then 2 else 0) := by unfold kb_w; rw [if_pos cc]
    have hw11 := kb_w_le hk c o d
    have gw := m_weight h hk hc ho hd
    rw [← hw] at gw
    generalize kb_w B c o d = x at hw11 gw
    have step : ∀ i, i < 7 → ai_Run 227 6 [.ref 185, .int (nI c), .int (nI o), .int (nI d), .int (nI (kb_s (fun k => kb_vote (kb_J B k) x) i)), .int (nI i)] [] (wl w) = ai_Run 227 6 [.ref 185, .int (nI c), .int (nI o), .int (nI d), .int (nI (kb_s (fun k => kb_vote (kb_J B k) x) (i + 1))), .int (nI (i + 1))] [] (wl w) := by
      intro i hi
      have h9 := hk.2.2.2.2.2.2.2.2.2.1 i
      have c1 : nI i < 7 := nI_lt (b := 7) hi (by decide)
      rw [r_227_6]
      by_cases c2 : 0 < kb_J B i
      · have c3 : 0 < nI (kb_J B i) := nI_lt c2 (by omega)
        by_cases c4 : x < kb_J B i
        · have c5 : nI x < nI (kb_J B i) := nI_lt c4 (by omega)
          simp only [r_227_0, r_227_1, r_227_3, r_227_4, r_227_8, r_227_10, r_227_13, r_227_14, r_227_15, r_227_16, r_227_17, r_227_20, r_227_23, r_227_25, r_227_26, r_227_29, r_227_31, r_227_33, r_227_34, r_227_35, r_227_38, r_227_39, r_227_40, r_227_41, r_227_42, r_227_45, r_227_46, r_227_49, r_227_51, r_227_53, r_227_54, r_227_55, r_227_58, r_227_59, r_227_62, r_227_63, r_227_64, r_227_66, r_227_69, r_227_72, r_227_74, Option.bind_some, Option.bind_none, Option.toList_some, Option.toList_none, List.cons_append, List.nil_append, Option.map_some, Option.map_none, eq_self, if_true, if_false, reduceIte, ai_bi_eq0, ai_bi_eq1, ai_pb_bi, ai_pb_0, ai_pb_1, c1, m_could h hk hc ho hd, cc, Bool.true_eq_false, f_185_0, a_38, m_J h hi, c2, c3, gw, c5, nI_1, kb_s, kb_vote, Nat.not_le.mpr c4, and_false, decide_false, kb_i_f, Nat.add_zero, Int32.add_zero]
        · have c5 : ¬ nI x < nI (kb_J B i) := nI_nlt (by omega) (by omega)
          simp only [r_227_0, r_227_1, r_227_3, r_227_4, r_227_8, r_227_10, r_227_13, r_227_14, r_227_15, r_227_16, r_227_17, r_227_20, r_227_23, r_227_25, r_227_26, r_227_29, r_227_31, r_227_33, r_227_34, r_227_35, r_227_38, r_227_39, r_227_40, r_227_41, r_227_42, r_227_45, r_227_46, r_227_49, r_227_51, r_227_53, r_227_54, r_227_55, r_227_58, r_227_59, r_227_62, r_227_63, r_227_64, r_227_66, r_227_69, r_227_72, r_227_74, Option.bind_some, Option.bind_none, Option.toList_some, Option.toList_none, List.cons_append, List.nil_append, Option.map_some, Option.map_none, eq_self, if_true, if_false, reduceIte, ai_bi_eq0, ai_bi_eq1, ai_pb_bi, ai_pb_0, ai_pb_1, c1, m_could h hk hc ho hd, cc, Bool.true_eq_false, f_185_0, a_38, m_J h hi, c2, c3, gw, c5, nI_1, kb_s, kb_vote, Nat.not_lt.mp c4, and_self, decide_true, kb_i_t]
      · have c3 : ¬ 0 < nI (kb_J B i) := nI_nlt (b := kb_J B i) (a := 0) (by omega) (by omega)
        simp only [r_227_0, r_227_1, r_227_3, r_227_4, r_227_8, r_227_10, r_227_13, r_227_14, r_227_15, r_227_16, r_227_17, r_227_20, r_227_23, r_227_25, r_227_26, r_227_29, r_227_31, r_227_33, r_227_34, r_227_35, r_227_38, r_227_39, r_227_40, r_227_41, r_227_42, r_227_45, r_227_46, r_227_49, r_227_51, r_227_53, r_227_54, r_227_55, r_227_58, r_227_59, r_227_62, r_227_63, r_227_64, r_227_66, r_227_69, r_227_72, r_227_74, Option.bind_some, Option.bind_none, Option.toList_some, Option.toList_none, List.cons_append, List.nil_append, Option.map_some, Option.map_none, eq_self, if_true, if_false, reduceIte, ai_bi_eq0, ai_bi_eq1, ai_pb_bi, ai_pb_0, ai_pb_1, c1, m_could h hk hc ho hd, cc, Bool.true_eq_false, f_185_0, a_38, m_J h hi, c2, c3, nI_1, kb_s, kb_vote, false_and, decide_false, kb_i_f, Nat.add_zero, Int32.add_zero]
    have e := lp_n (fun i => ai_Run 227 6 [.ref 185, .int (nI c), .int (nI o), .int (nI d), .int (nI (kb_s (fun k => kb_vote (kb_J B k) x) i)), .int (nI i)] [] (wl w)) 7 step
    have c2 : ¬ nI 7 < 7 := by decide
    simp only [e_227, o_185, r_227_0, r_227_1, r_227_3, r_227_4, r_227_8, r_227_10, r_227_13, r_227_14, r_227_15, r_227_16, r_227_17, r_227_20, r_227_23, r_227_25, r_227_26, r_227_29, r_227_31, r_227_33, r_227_34, r_227_35, r_227_38, r_227_39, r_227_40, r_227_41, r_227_42, r_227_45, r_227_46, r_227_49, r_227_51, r_227_53, r_227_54, r_227_55, r_227_58, r_227_59, r_227_62, r_227_63, r_227_64, r_227_66, r_227_69, r_227_72, r_227_74, Option.bind_some, Option.bind_none, Option.toList_some, Option.toList_none, List.cons_append, List.nil_append, Option.map_some, Option.map_none, eq_self, if_true, if_false, reduceIte, ai_bi_eq0, ai_bi_eq1, ai_pb_bi, ai_pb_0, ai_pb_1]
    refine e.trans ?_
    rw [r_227_6]
    simp only [r_227_0, r_227_1, r_227_3, r_227_4, r_227_8, r_227_10, r_227_13, r_227_14, r_227_15, r_227_16, r_227_17, r_227_20, r_227_23, r_227_25, r_227_26, r_227_29, r_227_31, r_227_33, r_227_34, r_227_35, r_227_38, r_227_39, r_227_40, r_227_41, r_227_42, r_227_45, r_227_46, r_227_49, r_227_51, r_227_53, r_227_54, r_227_55, r_227_58, r_227_59, r_227_62, r_227_63, r_227_64, r_227_66, r_227_69, r_227_72, r_227_74, Option.bind_some, Option.bind_none, Option.toList_some, Option.toList_none, List.cons_append, List.nil_append, Option.map_some, Option.map_none, eq_self, if_true, if_false, reduceIte, ai_bi_eq0, ai_bi_eq1, ai_pb_bi, ai_pb_0, ai_pb_1, c2]
    rfl
  · have cc' : kb_could B c o d = false := by simpa using cc
    have hw : kb_w B c o d = 0 := by unfold kb_w; rw [if_neg cc]
    have hv : kb_votes B 0 = 0 := by
      have : ∀ k, kb_vote (kb_J B k) 0 = 0 := fun k => by unfold kb_vote; rw [decide_eq_false (by omega)]; rfl
      unfold kb_votes
      simp only [kb_s, this]
    have c1 : (0 : Int32) < 7 := by decide
    simp only [e_227, o_185, r_227_0, r_227_1, r_227_3, r_227_4, r_227_8, r_227_10, r_227_13, r_227_14, r_227_15, r_227_16, r_227_17, r_227_20, r_227_23, r_227_25, r_227_26, r_227_29, r_227_31, r_227_33, r_227_34, r_227_35, r_227_38, r_227_39, r_227_40, r_227_41, r_227_42, r_227_45, r_227_46, r_227_49, r_227_51, r_227_53, r_227_54, r_227_55, r_227_58, r_227_59, r_227_62, r_227_63, r_227_64, r_227_66, r_227_69, r_227_72, r_227_74, Option.bind_some, Option.bind_none, Option.toList_some, Option.toList_none, List.cons_append, List.nil_append, Option.map_some, Option.map_none, eq_self, if_true, if_false, reduceIte, ai_bi_eq0, ai_bi_eq1, ai_pb_bi, ai_pb_0, ai_pb_1]
    rw [r_227_6]
    simp only [r_227_0, r_227_1, r_227_3, r_227_4, r_227_8, r_227_10, r_227_13, r_227_14, r_227_15, r_227_16, r_227_17, r_227_20, r_227_23, r_227_25, r_227_26, r_227_29, r_227_31, r_227_33, r_227_34, r_227_35, r_227_38, r_227_39, r_227_40, r_227_41, r_227_42, r_227_45, r_227_46, r_227_49, r_227_51, r_227_53, r_227_54, r_227_55, r_227_58, r_227_59, r_227_62, r_227_63, r_227_64, r_227_66, r_227_69, r_227_72, r_227_74, Option.bind_some, Option.bind_none, Option.toList_some, Option.toList_none, List.cons_append, List.nil_append, Option.map_some, Option.map_none, eq_self, if_true, if_false, reduceIte, ai_bi_eq0, ai_bi_eq1, ai_pb_bi, ai_pb_0, ai_pb_1, c1, m_could h hk hc ho hd, cc', hw, hv]
    rfl
theorem m_isFound (h : kb_m (xm_s w) B) (hk : kb_ok B) {c o d : Nat} (hc : c < 8) (ho : o < 8) (hd : d < kb_d B o) : ai_Call 228 [.ref 185, .int (nI c), .int (nI o), .int (nI d)] (wl w) = some (some (.int (ai_bi (decide (kb_sit B < 2 * kb_votes B (kb_w B c o d))))), wl w) := by
  have h1 := kb_sit7 B
  have h2 := kb_votes7 B (kb_w B c o d)
  by_cases c1 : kb_sit B < 2 * kb_votes B (kb_w B c o d)
  · have c2 : nI (kb_sit B) < nI (2 * kb_votes B (kb_w B c o d)) := nI_lt c1 (by omega)
    simp only [e_228, o_185, r_228_0, r_228_1, r_228_2, r_228_3, r_228_4, r_228_5, r_228_8, r_228_9, r_228_10, r_228_13, r_228_16, r_228_17, r_228_20, r_228_21, Option.bind_some, Option.bind_none, Option.toList_some, Option.toList_none, List.cons_append, List.nil_append, Option.map_some, Option.map_none, eq_self, if_true, if_false, reduceIte, ai_bi_eq0, ai_bi_eq1, ai_pb_bi, ai_pb_0, ai_pb_1, m_guiltyMany h hk hc ho hd, m_sitting h hk, t_2, c1, c2, decide_true]
    rfl
  · have c2 : ¬ nI (kb_sit B) < nI (2 * kb_votes B (kb_w B c o d)) := nI_nlt (by omega) (by omega)
    simp only [e_228, o_185, r_228_0, r_228_1, r_228_2, r_228_3, r_228_4, r_228_5, r_228_8, r_228_9, r_228_10, r_228_13, r_228_16, r_228_17, r_228_20, r_228_21, Option.bind_some, Option.bind_none, Option.toList_some, Option.toList_none, List.cons_append, List.nil_append, Option.map_some, Option.map_none, eq_self, if_true, if_false, reduceIte, ai_bi_eq0, ai_bi_eq1, ai_pb_bi, ai_pb_0, ai_pb_1, m_guiltyMany h hk hc ho hd, m_sitting h hk, t_2, c1, c2, decide_false]
    rfl
end MB
