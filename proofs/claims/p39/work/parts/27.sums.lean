/-! The class's sums over all deaths; the orders. -/
section XB
variable {w : xw_W} {B : kb_B}
theorem x_deathsCausedBy (h : kb_x (xw_b w) B) (hk : kb_ok B) (x : Int32) : ai_Call 95 [.ref 19, .int x] (wl w) = some (some (.int (nI (kb_ds B (fun c d => decide (kb_C B c d = x))))), wl w) := by
  have hn := hk.1
  have stepi : ∀ m c, c < kb_n B → ∀ i, i < kb_d B c → ai_Run 95 18 [.ref 19, .int x, .int (nI (m + kb_s (fun d => kb_i ((fun c d => decide (kb_C B c d = x)) c d)) i)), .int (nI c), .int (nI i)] [] (wl w) = ai_Run 95 18 [.ref 19, .int x, .int (nI (m + kb_s (fun d => kb_i ((fun c d => decide (kb_C B c d = x)) c d)) (i + 1))), .int (nI c), .int (nI (i + 1))] [] (wl w) := by
    intro m c hc i hi
    have h3 := kb_d3 hk c
    have c1 : nI i < nI (kb_d B c) := nI_lt hi (by omega)
    rw [r_95_18]
    by_cases c2 : kb_C B c i = x
    · simp only [r_95_0, r_95_1, r_95_2, r_95_3, r_95_5, r_95_6, r_95_9, r_95_12, r_95_15, r_95_16, r_95_20, r_95_21, r_95_24, r_95_25, r_95_28, r_95_31, r_95_32, r_95_35, r_95_36, r_95_38, r_95_41, r_95_42, r_95_45, r_95_48, r_95_51, r_95_54, r_95_57, r_95_60, r_95_61, Option.bind_some, Option.bind_none, Option.toList_some, Option.toList_none, List.cons_append, List.nil_append, Option.map_some, Option.map_none, eq_self, if_true, if_false, reduceIte, ai_bi_eq0, ai_bi_eq1, ai_pb_bi, ai_pb_0, ai_pb_1, f_19_0, x_deaths h hk (show c < 8 by omega), c1, x_culprit h (show c < 8 by omega) (show i < 3 by omega), c2, decide_true, nI_1, kb_s, kb_i_t, Bool.true_eq_false, Nat.add_assoc]
    · simp only [r_95_0, r_95_1, r_95_2, r_95_3, r_95_5, r_95_6, r_95_9, r_95_12, r_95_15, r_95_16, r_95_20, r_95_21, r_95_24, r_95_25, r_95_28, r_95_31, r_95_32, r_95_35, r_95_36, r_95_38, r_95_41, r_95_42, r_95_45, r_95_48, r_95_51, r_95_54, r_95_57, r_95_60, r_95_61, Option.bind_some, Option.bind_none, Option.toList_some, Option.toList_none, List.cons_append, List.nil_append, Option.map_some, Option.map_none, eq_self, if_true, if_false, reduceIte, ai_bi_eq0, ai_bi_eq1, ai_pb_bi, ai_pb_0, ai_pb_1, f_19_0, x_deaths h hk (show c < 8 by omega), c1, x_culprit h (show c < 8 by omega) (show i < 3 by omega), c2, decide_false, nI_1, kb_s, kb_i_f, Nat.add_zero]
  have inner : ∀ m c, c < kb_n B → ai_Run 95 18 [.ref 19, .int x, .int (nI (m)), .int (nI c), .int 0] [] (wl w) = ai_Run 95 4 [.ref 19, .int x, .int (nI (m + kb_s (fun d => kb_i ((fun c d => decide (kb_C B c d = x)) c d)) (kb_d B c))), .int (nI (c + 1)), .int (nI (kb_d B c))] [] (wl w) := by
    intro m c hc
    have h3 := kb_d3 hk c
    have e := lp_n (fun i => ai_Run 95 18 [.ref 19, .int x, .int (nI (m + kb_s (fun d => kb_i ((fun c d => decide (kb_C B c d = x)) c d)) i)), .int (nI c), .int (nI i)] [] (wl w)) _ (stepi m c hc)
    have c2 : ¬ nI (kb_d B c) < nI (kb_d B c) := nI_nlt (Nat.le_refl _) (by omega)
    refine e.trans ?_
    rw [r_95_18]
    simp only [r_95_0, r_95_1, r_95_2, r_95_3, r_95_5, r_95_6, r_95_9, r_95_12, r_95_15, r_95_16, r_95_20, r_95_21, r_95_24, r_95_25, r_95_28, r_95_31, r_95_32, r_95_35, r_95_36, r_95_38, r_95_41, r_95_42, r_95_45, r_95_48, r_95_51, r_95_54, r_95_57, r_95_60, r_95_61, Option.bind_some, Option.bind_none, Option.toList_some, Option.toList_none, List.cons_append, List.nil_append, Option.map_some, Option.map_none, eq_self, if_true, if_false, reduceIte, ai_bi_eq0, ai_bi_eq1, ai_pb_bi, ai_pb_0, ai_pb_1, f_19_0, x_deaths h hk (show c < 8 by omega), c2, nI_1]
  have step : ∀ i, i < kb_n B → ai_Run 95 4 [.ref 19, .int x, .int (nI (kb_s (fun c => kb_s (fun d => kb_i ((fun c d => decide (kb_C B c d = x)) c d)) (kb_d B c)) i)), .int (nI i), (if i = 0 then .null else .int (nI (kb_d B (i - 1))))] [] (wl w) = ai_Run 95 4 [.ref 19, .int x, .int (nI (kb_s (fun c => kb_s (fun d => kb_i ((fun c d => decide (kb_C B c d = x)) c d)) (kb_d B c)) (i + 1))), .int (nI (i + 1)), (if i + 1 = 0 then .null else .int (nI (kb_d B (i + 1 - 1))))] [] (wl w) := by
    intro i hi
    have c1 : nI i < nI (kb_n B) := nI_lt hi (by omega)
    have c9 : ¬ i + 1 = 0 := by omega
    rw [r_95_4]
    simp only [r_95_0, r_95_1, r_95_2, r_95_3, r_95_5, r_95_6, r_95_9, r_95_12, r_95_15, r_95_16, r_95_20, r_95_21, r_95_24, r_95_25, r_95_28, r_95_31, r_95_32, r_95_35, r_95_36, r_95_38, r_95_41, r_95_42, r_95_45, r_95_48, r_95_51, r_95_54, r_95_57, r_95_60, r_95_61, Option.bind_some, Option.bind_none, Option.toList_some, Option.toList_none, List.cons_append, List.nil_append, Option.map_some, Option.map_none, eq_self, if_true, if_false, reduceIte, ai_bi_eq0, ai_bi_eq1, ai_pb_bi, ai_pb_0, ai_pb_1, f_19_0, f_1_0, h.1, c1, inner _ i hi, c9, Nat.add_sub_cancel]
    rfl
  have e := lp_n (fun i => ai_Run 95 4 [.ref 19, .int x, .int (nI (kb_s (fun c => kb_s (fun d => kb_i ((fun c d => decide (kb_C B c d = x)) c d)) (kb_d B c)) i)), .int (nI i), (if i = 0 then .null else .int (nI (kb_d B (i - 1))))] [] (wl w)) _ step
  have c2 : ¬ nI (kb_n B) < nI (kb_n B) := nI_nlt (Nat.le_refl _) (by omega)
  simp only [e_95, o_19, r_95_0, r_95_1, r_95_2, r_95_3, r_95_5, r_95_6, r_95_9, r_95_12, r_95_15, r_95_16, r_95_20, r_95_21, r_95_24, r_95_25, r_95_28, r_95_31, r_95_32, r_95_35, r_95_36, r_95_38, r_95_41, r_95_42, r_95_45, r_95_48, r_95_51, r_95_54, r_95_57, r_95_60, r_95_61, Option.bind_some, Option.bind_none, Option.toList_some, Option.toList_none, List.cons_append, List.nil_append, Option.map_some, Option.map_none, eq_self, if_true, if_false, reduceIte, ai_bi_eq0, ai_bi_eq1, ai_pb_bi, ai_pb_0, ai_pb_1]
  refine e.trans ?_
  rw [r_95_4]
  simp only [r_95_0, r_95_1, r_95_2, r_95_3, r_95_5, r_95_6, r_95_9, r_95_12, r_95_15, r_95_16, r_95_20, r_95_21, r_95_24, r_95_25, r_95_28, r_95_31, r_95_32, r_95_35, r_95_36, r_95_38, r_95_41, r_95_42, r_95_45, r_95_48, r_95_51, r_95_54, r_95_57, r_95_60, r_95_61, Option.bind_some, Option.bind_none, Option.toList_some, Option.toList_none, List.cons_append, List.nil_append, Option.map_some, Option.map_none, eq_self, if_true, if_false, reduceIte, ai_bi_eq0, ai_bi_eq1, ai_pb_bi, ai_pb_0, ai_pb_1, f_19_0, f_1_0, h.1, c2]
  rfl
theorem x_deathsBy (h : kb_x (xw_b w) B) (hk : kb_ok B) (x : Int32) : ai_Call 55 [.ref 19, .int x] (wl w) = some (some (.int (nI (kb_ds B (fun c d => decide (kb_W B (kb_E B c (2 * d)) = x))))), wl w) := by
  have hn := hk.1
  have stepi : ∀ m c, c < kb_n B → ∀ i, i < kb_d B c → ai_Run 55 18 [.ref 19, .int x, .int (nI (m + kb_s (fun d => kb_i ((fun c d => decide (kb_W B (kb_E B c (2 * d)) = x)) c d)) i)), .int (nI c), .int (nI i)] [] (wl w) = ai_Run 55 18 [.ref 19, .int x, .int (nI (m + kb_s (fun d => kb_i ((fun c d => decide (kb_W B (kb_E B c (2 * d)) = x)) c d)) (i + 1))), .int (nI c), .int (nI (i + 1))] [] (wl w) := by
    intro m c hc i hi
    have h3 := kb_d3 hk c
    have c1 : nI i < nI (kb_d B c) := nI_lt hi (by omega)
    rw [r_55_18]
    by_cases c2 : kb_W B (kb_E B c (2 * i)) = x
    · simp only [r_55_0, r_55_1, r_55_2, r_55_3, r_55_5, r_55_6, r_55_9, r_55_12, r_55_15, r_55_16, r_55_20, r_55_21, r_55_24, r_55_25, r_55_28, r_55_31, r_55_32, r_55_33, r_55_34, r_55_36, r_55_39, r_55_42, r_55_45, r_55_48, r_55_51, r_55_54, r_55_57, r_55_58, Option.bind_some, Option.bind_none, Option.toList_some, Option.toList_none, List.cons_append, List.nil_append, Option.map_some, Option.map_none, eq_self, if_true, if_false, reduceIte, ai_bi_eq0, ai_bi_eq1, ai_pb_bi, ai_pb_0, ai_pb_1, f_19_0, x_deaths h hk (show c < 8 by omega), c1, x_isDeathBy h hk x (show c < 8 by omega) hi, c2, decide_true, nI_1, kb_s, kb_i_t, Bool.true_eq_false, Nat.add_assoc]
    · simp only [r_55_0, r_55_1, r_55_2, r_55_3, r_55_5, r_55_6, r_55_9, r_55_12, r_55_15, r_55_16, r_55_20, r_55_21, r_55_24, r_55_25, r_55_28, r_55_31, r_55_32, r_55_33, r_55_34, r_55_36, r_55_39, r_55_42, r_55_45, r_55_48, r_55_51, r_55_54, r_55_57, r_55_58, Option.bind_some, Option.bind_none, Option.toList_some, Option.toList_none, List.cons_append, List.nil_append, Option.map_some, Option.map_none, eq_self, if_true, if_false, reduceIte, ai_bi_eq0, ai_bi_eq1, ai_pb_bi, ai_pb_0, ai_pb_1, f_19_0, x_deaths h hk (show c < 8 by omega), c1, x_isDeathBy h hk x (show c < 8 by omega) hi, c2, decide_false, nI_1, kb_s, kb_i_f, Nat.add_zero]
  have inner : ∀ m c, c < kb_n B → ai_Run 55 18 [.ref 19, .int x, .int (nI (m)), .int (nI c), .int 0] [] (wl w) = ai_Run 55 4 [.ref 19, .int x, .int (nI (m + kb_s (fun d => kb_i ((fun c d => decide (kb_W B (kb_E B c (2 * d)) = x)) c d)) (kb_d B c))), .int (nI (c + 1)), .int (nI (kb_d B c))] [] (wl w) := by
    intro m c hc
    have h3 := kb_d3 hk c
    have e := lp_n (fun i => ai_Run 55 18 [.ref 19, .int x, .int (nI (m + kb_s (fun d => kb_i ((fun c d => decide (kb_W B (kb_E B c (2 * d)) = x)) c d)) i)), .int (nI c), .int (nI i)] [] (wl w)) _ (stepi m c hc)
    have c2 : ¬ nI (kb_d B c) < nI (kb_d B c) := nI_nlt (Nat.le_refl _) (by omega)
    refine e.trans ?_
    rw [r_55_18]
    simp only [r_55_0, r_55_1, r_55_2, r_55_3, r_55_5, r_55_6, r_55_9, r_55_12, r_55_15, r_55_16, r_55_20, r_55_21, r_55_24, r_55_25, r_55_28, r_55_31, r_55_32, r_55_33, r_55_34, r_55_36, r_55_39, r_55_42, r_55_45, r_55_48, r_55_51, r_55_54, r_55_57, r_55_58, Option.bind_some, Option.bind_none, Option.toList_some, Option.toList_none, List.cons_append, List.nil_append, Option.map_some, Option.map_none, eq_self, if_true, if_false, reduceIte, ai_bi_eq0, ai_bi_eq1, ai_pb_bi, ai_pb_0, ai_pb_1, f_19_0, x_deaths h hk (show c < 8 by omega), c2, nI_1]
  have step : ∀ i, i < kb_n B → ai_Run 55 4 [.ref 19, .int x, .int (nI (kb_s (fun c => kb_s (fun d => kb_i ((fun c d => decide (kb_W B (kb_E B c (2 * d)) = x)) c d)) (kb_d B c)) i)), .int (nI i), (if i = 0 then .null else .int (nI (kb_d B (i - 1))))] [] (wl w) = ai_Run 55 4 [.ref 19, .int x, .int (nI (kb_s (fun c => kb_s (fun d => kb_i ((fun c d => decide (kb_W B (kb_E B c (2 * d)) = x)) c d)) (kb_d B c)) (i + 1))), .int (nI (i + 1)), (if i + 1 = 0 then .null else .int (nI (kb_d B (i + 1 - 1))))] [] (wl w) := by
    intro i hi
    have c1 : nI i < nI (kb_n B) := nI_lt hi (by omega)
    have c9 : ¬ i + 1 = 0 := by omega
    rw [r_55_4]
    simp only [r_55_0, r_55_1, r_55_2, r_55_3, r_55_5, r_55_6, r_55_9, r_55_12, r_55_15, r_55_16, r_55_20, r_55_21, r_55_24, r_55_25, r_55_28, r_55_31, r_55_32, r_55_33, r_55_34, r_55_36, r_55_39, r_55_42, r_55_45, r_55_48, r_55_51, r_55_54, r_55_57, r_55_58, Option.bind_some, Option.bind_none, Option.toList_some, Option.toList_none, List.cons_append, List.nil_append, Option.map_some, Option.map_none, eq_self, if_true, if_false, reduceIte, ai_bi_eq0, ai_bi_eq1, ai_pb_bi, ai_pb_0, ai_pb_1, f_19_0, f_1_0, h.1, c1, inner _ i hi, c9, Nat.add_sub_cancel]
    rfl
  have e := lp_n (fun i => ai_Run 55 4 [.ref 19, .int x, .int (nI (kb_s (fun c => kb_s (fun d => kb_i ((fun c d => decide (kb_W B (kb_E B c (2 * d)) = x)) c d)) (kb_d B c)) i)), .int (nI i), (if i = 0 then .null else .int (nI (kb_d B (i - 1))))] [] (wl w)) _ step
  have c2 : ¬ nI (kb_n B) < nI (kb_n B) := nI_nlt (Nat.le_refl _) (by omega)
  simp only [e_55, o_19, r_55_0, r_55_1, r_55_2, r_55_3, r_55_5, r_55_6, r_55_9, r_55_12, r_55_15, r_55_16, r_55_20, r_55_21, r_55_24, r_55_25, r_55_28, r_55_31, r_55_32, r_55_33, r_55_34, r_55_36, r_55_39, r_55_42, r_55_45, r_55_48, r_55_51, r_55_54, r_55_57, r_55_58, Option.bind_some, Option.bind_none, Option.toList_some, Option.toList_none, List.cons_append, List.nil_append, Option.map_some, Option.map_none, eq_self, if_true, if_false, reduceIte, ai_bi_eq0, ai_bi_eq1, ai_pb_bi, ai_pb_0, ai_pb_1]
  refine e.trans ?_
  rw [r_55_4]
  simp only [r_55_0, r_55_1, r_55_2, r_55_3, r_55_5, r_55_6, r_55_9, r_55_12, r_55_15, r_55_16, r_55_20, r_55_21, r_55_24, r_55_25, r_55_28, r_55_31, r_55_32, r_55_33, r_55_34, r_55_36, r_55_39, r_55_42, r_55_45, r_55_48, r_55_51, r_55_54, r_55_57, r_55_58, Option.bind_some, Option.bind_none, Option.toList_some, Option.toList_none, List.cons_append, List.nil_append, Option.map_some, Option.map_none, eq_self, if_true, if_false, reduceIte, ai_bi_eq0, ai_bi_eq1, ai_pb_bi, ai_pb_0, ai_pb_1, f_19_0, f_1_0, h.1, c2]
  rfl
theorem x_solvedDeathsBy (h : kb_x (xw_b w) B) (hk : kb_ok B) (x : Int32) : ai_Call 56 [.ref 19, .int x] (wl w) = some (some (.int (nI (kb_ds B (fun c d => decide (kb_W B (kb_E B c (2 * d)) = x) && decide (¬ kb_C B c d = (-4)))))), wl w) := by
  have hn := hk.1
  have stepi : ∀ m c, c < kb_n B → ∀ i, i < kb_d B c → ai_Run 56 18 [.ref 19, .int x, .int (nI (m + kb_s (fun d => kb_i ((fun c d => decide (kb_W B (kb_E B c (2 * d)) = x) && decide (¬ kb_C B c d = (-4))) c d)) i)), .int (nI c), .int (nI i)] [] (wl w) = ai_Run 56 18 [.ref 19, .int x, .int (nI (m + kb_s (fun d => kb_i ((fun c d => decide (kb_W B (kb_E B c (2 * d)) = x) && decide (¬ kb_C B c d = (-4))) c d)) (i + 1))), .int (nI c), .int (nI (i + 1))] [] (wl w) := by
    intro m c hc i hi
    have h3 := kb_d3 hk c
    have c1 : nI i < nI (kb_d B c) := nI_lt hi (by omega)
    rw [r_56_18]
    by_cases c2 : kb_W B (kb_E B c (2 * i)) = x
    · by_cases c3 : kb_C B c i = (-4)
      · simp only [r_56_0, r_56_1, r_56_2, r_56_3, r_56_5, r_56_6, r_56_9, r_56_12, r_56_15, r_56_16, r_56_20, r_56_21, r_56_24, r_56_25, r_56_28, r_56_31, r_56_32, r_56_33, r_56_34, r_56_36, r_56_39, r_56_42, r_56_43, r_56_46, r_56_47, r_56_49, r_56_52, r_56_55, r_56_58, r_56_61, r_56_64, r_56_67, r_56_70, r_56_71, Option.bind_some, Option.bind_none, Option.toList_some, Option.toList_none, List.cons_append, List.nil_append, Option.map_some, Option.map_none, eq_self, if_true, if_false, reduceIte, ai_bi_eq0, ai_bi_eq1, ai_pb_bi, ai_pb_0, ai_pb_1, f_19_0, x_deaths h hk (show c < 8 by omega), c1, x_isDeathBy h hk x (show c < 8 by omega) hi, x_isSolved h (show c < 8 by omega) (show i < 3 by omega), c2, c3, not_true, decide_true, decide_false, Bool.and_false, nI_1, kb_s, kb_i_f, Nat.add_zero, Bool.true_eq_false]
      · simp only [r_56_0, r_56_1, r_56_2, r_56_3, r_56_5, r_56_6, r_56_9, r_56_12, r_56_15, r_56_16, r_56_20, r_56_21, r_56_24, r_56_25, r_56_28, r_56_31, r_56_32, r_56_33, r_56_34, r_56_36, r_56_39, r_56_42, r_56_43, r_56_46, r_56_47, r_56_49, r_56_52, r_56_55, r_56_58, r_56_61, r_56_64, r_56_67, r_56_70, r_56_71, Option.bind_some, Option.bind_none, Option.toList_some, Option.toList_none, List.cons_append, List.nil_append, Option.map_some, Option.map_none, eq_self, if_true, if_false, reduceIte, ai_bi_eq0, ai_bi_eq1, ai_pb_bi, ai_pb_0, ai_pb_1, f_19_0, x_deaths h hk (show c < 8 by omega), c1, x_isDeathBy h hk x (show c < 8 by omega) hi, x_isSolved h (show c < 8 by omega) (show i < 3 by omega), c2, c3, not_false_eq_true, decide_true, Bool.and_self, nI_1, kb_s, kb_i_t, Bool.true_eq_false, Nat.add_assoc]
    · simp only [r_56_0, r_56_1, r_56_2, r_56_3, r_56_5, r_56_6, r_56_9, r_56_12, r_56_15, r_56_16, r_56_20, r_56_21, r_56_24, r_56_25, r_56_28, r_56_31, r_56_32, r_56_33, r_56_34, r_56_36, r_56_39, r_56_42, r_56_43, r_56_46, r_56_47, r_56_49, r_56_52, r_56_55, r_56_58, r_56_61, r_56_64, r_56_67, r_56_70, r_56_71, Option.bind_some, Option.bind_none, Option.toList_some, Option.toList_none, List.cons_append, List.nil_append, Option.map_some, Option.map_none, eq_self, if_true, if_false, reduceIte, ai_bi_eq0, ai_bi_eq1, ai_pb_bi, ai_pb_0, ai_pb_1, f_19_0, x_deaths h hk (show c < 8 by omega), c1, x_isDeathBy h hk x (show c < 8 by omega) hi, c2, decide_false, Bool.false_and, nI_1, kb_s, kb_i_f, Nat.add_zero]
  have inner : ∀ m c, c < kb_n B → ai_Run 56 18 [.ref 19, .int x, .int (nI (m)), .int (nI c), .int 0] [] (wl w) = ai_Run 56 4 [.ref 19, .int x, .int (nI (m + kb_s (fun d => kb_i ((fun c d => decide (kb_W B (kb_E B c (2 * d)) = x) && decide (¬ kb_C B c d = (-4))) c d)) (kb_d B c))), .int (nI (c + 1)), .int (nI (kb_d B c))] [] (wl w) := by
    intro m c hc
    have h3 := kb_d3 hk c
    have e := lp_n (fun i => ai_Run 56 18 [.ref 19, .int x, .int (nI (m + kb_s (fun d => kb_i ((fun c d => decide (kb_W B (kb_E B c (2 * d)) = x) && decide (¬ kb_C B c d = (-4))) c d)) i)), .int (nI c), .int (nI i)] [] (wl w)) _ (stepi m c hc)
    have c2 : ¬ nI (kb_d B c) < nI (kb_d B c) := nI_nlt (Nat.le_refl _) (by omega)
    refine e.trans ?_
    rw [r_56_18]
    simp only [r_56_0, r_56_1, r_56_2, r_56_3, r_56_5, r_56_6, r_56_9, r_56_12, r_56_15, r_56_16, r_56_20, r_56_21, r_56_24, r_56_25, r_56_28, r_56_31, r_56_32, r_56_33, r_56_34, r_56_36, r_56_39, r_56_42, r_56_43, r_56_46, r_56_47, r_56_49, r_56_52, r_56_55, r_56_58, r_56_61, r_56_64, r_56_67, r_56_70, r_56_71, Option.bind_some, Option.bind_none, Option.toList_some, Option.toList_none, List.cons_append, List.nil_append, Option.map_some, Option.map_none, eq_self, if_true, if_false, reduceIte, ai_bi_eq0, ai_bi_eq1, ai_pb_bi, ai_pb_0, ai_pb_1, f_19_0, x_deaths h hk (show c < 8 by omega), c2, nI_1]
  have step : ∀ i, i < kb_n B → ai_Run 56 4 [.ref 19, .int x, .int (nI (kb_s (fun c => kb_s (fun d => kb_i ((fun c d => decide (kb_W B (kb_E B c (2 * d)) = x) && decide (¬ kb_C B c d = (-4))) c d)) (kb_d B c)) i)), .int (nI i), (if i = 0 then .null else .int (nI (kb_d B (i - 1))))] [] (wl w) = ai_Run 56 4 [.ref 19, .int x, .int (nI (kb_s (fun c => kb_s (fun d => kb_i ((fun c d => decide (kb_W B (kb_E B c (2 * d)) = x) && decide (¬ kb_C B c d = (-4))) c d)) (kb_d B c)) (i + 1))), .int (nI (i + 1)), (if i + 1 = 0 then .null else .int (nI (kb_d B (i + 1 - 1))))] [] (wl w) := by
    intro i hi
    have c1 : nI i < nI (kb_n B) := nI_lt hi (by omega)
    have c9 : ¬ i + 1 = 0 := by omega
    rw [r_56_4]
    simp only [r_56_0, r_56_1, r_56_2, r_56_3, r_56_5, r_56_6, r_56_9, r_56_12, r_56_15, r_56_16, r_56_20, r_56_21, r_56_24, r_56_25, r_56_28, r_56_31, r_56_32, r_56_33, r_56_34, r_56_36, r_56_39, r_56_42, r_56_43, r_56_46, r_56_47, r_56_49, r_56_52, r_56_55, r_56_58, r_56_61, r_56_64, r_56_67, r_56_70, r_56_71, Option.bind_some, Option.bind_none, Option.toList_some, Option.toList_none, List.cons_append, List.nil_append, Option.map_some, Option.map_none, eq_self, if_true, if_false, reduceIte, ai_bi_eq0, ai_bi_eq1, ai_pb_bi, ai_pb_0, ai_pb_1, f_19_0, f_1_0, h.1, c1, inner _ i hi, c9, Nat.add_sub_cancel]
    rfl
  have e := lp_n (fun i => ai_Run 56 4 [.ref 19, .int x, .int (nI (kb_s (fun c => kb_s (fun d => kb_i ((fun c d => decide (kb_W B (kb_E B c (2 * d)) = x) && decide (¬ kb_C B c d = (-4))) c d)) (kb_d B c)) i)), .int (nI i), (if i = 0 then .null else .int (nI (kb_d B (i - 1))))] [] (wl w)) _ step
  have c2 : ¬ nI (kb_n B) < nI (kb_n B) := nI_nlt (Nat.le_refl _) (by omega)
  simp only [e_56, o_19, r_56_0, r_56_1, r_56_2, r_56_3, r_56_5, r_56_6, r_56_9, r_56_12, r_56_15, r_56_16, r_56_20, r_56_21, r_56_24, r_56_25, r_56_28, r_56_31, r_56_32, r_56_33, r_56_34, r_56_36, r_56_39, r_56_42, r_56_43, r_56_46, r_56_47, r_56_49, r_56_52, r_56_55, r_56_58, r_56_61, r_56_64, r_56_67, r_56_70, r_56_71, Option.bind_some, Option.bind_none, Option.toList_some, Option.toList_none, List.cons_append, List.nil_append, Option.map_some, Option.map_none, eq_self, if_true, if_false, reduceIte, ai_bi_eq0, ai_bi_eq1, ai_pb_bi, ai_pb_0, ai_pb_1]
  refine e.trans ?_
  rw [r_56_4]
  simp only [r_56_0, r_56_1, r_56_2, r_56_3, r_56_5, r_56_6, r_56_9, r_56_12, r_56_15, r_56_16, r_56_20, r_56_21, r_56_24, r_56_25, r_56_28, r_56_31, r_56_32, r_56_33, r_56_34, r_56_36, r_56_39, r_56_42, r_56_43, r_56_46, r_56_47, r_56_49, r_56_52, r_56_55, r_56_58, r_56_61, r_56_64, r_56_67, r_56_70, r_56_71, Option.bind_some, Option.bind_none, Option.toList_some, Option.toList_none, List.cons_append, List.nil_append, Option.map_some, Option.map_none, eq_self, if_true, if_false, reduceIte, ai_bi_eq0, ai_bi_eq1, ai_pb_bi, ai_pb_0, ai_pb_1, f_19_0, f_1_0, h.1, c2]
  rfl
theorem x_allDeaths (h : kb_x (xw_b w) B) (hk : kb_ok B) : ai_Call 14 [.ref 19] (wl w) = some (some (.int (nI (kb_s (fun c => kb_d B c) (kb_n B)))), wl w) := by
  have hn := hk.1
  have step : ∀ i, i < kb_n B → ai_Run 14 4 [.ref 19, .int (nI (kb_s (fun c => kb_d B c) i)), .int (nI i)] [] (wl w) = ai_Run 14 4 [.ref 19, .int (nI (kb_s (fun c => kb_d B c) (i + 1))), .int (nI (i + 1))] [] (wl w) := by
    intro i hi
    have c1 : nI i < nI (kb_n B) := nI_lt hi (by omega)
    rw [r_14_4]
    simp only [r_14_0, r_14_1, r_14_2, r_14_3, r_14_5, r_14_6, r_14_9, r_14_12, r_14_15, r_14_16, r_14_17, r_14_20, r_14_21, r_14_24, r_14_25, r_14_26, r_14_29, r_14_32, r_14_33, Option.bind_some, Option.bind_none, Option.toList_some, Option.toList_none, List.cons_append, List.nil_append, Option.map_some, Option.map_none, eq_self, if_true, if_false, reduceIte, ai_bi_eq0, ai_bi_eq1, ai_pb_bi, ai_pb_0, ai_pb_1, f_19_0, f_1_0, h.1, c1, x_deaths h hk (show i < 8 by omega), nI_add, nI_1, kb_s]
  have e := lp_n (fun i => ai_Run 14 4 [.ref 19, .int (nI (kb_s (fun c => kb_d B c) i)), .int (nI i)] [] (wl w)) _ step
  have c2 : ¬ nI (kb_n B) < nI (kb_n B) := nI_nlt (Nat.le_refl _) (by omega)
  simp only [e_14, o_19, r_14_0, r_14_1, r_14_2, r_14_3, r_14_5, r_14_6, r_14_9, r_14_12, r_14_15, r_14_16, r_14_17, r_14_20, r_14_21, r_14_24, r_14_25, r_14_26, r_14_29, r_14_32, r_14_33, Option.bind_some, Option.bind_none, Option.toList_some, Option.toList_none, List.cons_append, List.nil_append, Option.map_some, Option.map_none, eq_self, if_true, if_false, reduceIte, ai_bi_eq0, ai_bi_eq1, ai_pb_bi, ai_pb_0, ai_pb_1]
  refine e.trans ?_
  rw [r_14_4]
  simp only [r_14_0, r_14_1, r_14_2, r_14_3, r_14_5, r_14_6, r_14_9, r_14_12, r_14_15, r_14_16, r_14_17, r_14_20, r_14_21, r_14_24, r_14_25, r_14_26, r_14_29, r_14_32, r_14_33, Option.bind_some, Option.bind_none, Option.toList_some, Option.toList_none, List.cons_append, List.nil_append, Option.map_some, Option.map_none, eq_self, if_true, if_false, reduceIte, ai_bi_eq0, ai_bi_eq1, ai_pb_bi, ai_pb_0, ai_pb_1, f_19_0, f_1_0, h.1, c2]
theorem x_allRisings (h : kb_x (xw_b w) B) (hk : kb_ok B) : ai_Call 16 [.ref 19] (wl w) = some (some (.int (nI (kb_s (fun c => kb_T B c / 2) (kb_n B)))), wl w) := by
  have hn := hk.1
  have step : ∀ i, i < kb_n B → ai_Run 16 4 [.ref 19, .int (nI (kb_s (fun c => kb_T B c / 2) i)), .int (nI i)] [] (wl w) = ai_Run 16 4 [.ref 19, .int (nI (kb_s (fun c => kb_T B c / 2) (i + 1))), .int (nI (i + 1))] [] (wl w) := by
    intro i hi
    have c1 : nI i < nI (kb_n B) := nI_lt hi (by omega)
    rw [r_16_4]
    simp only [r_16_0, r_16_1, r_16_2, r_16_3, r_16_5, r_16_6, r_16_9, r_16_12, r_16_15, r_16_16, r_16_17, r_16_20, r_16_21, r_16_24, r_16_25, r_16_26, r_16_29, r_16_32, r_16_33, Option.bind_some, Option.bind_none, Option.toList_some, Option.toList_none, List.cons_append, List.nil_append, Option.map_some, Option.map_none, eq_self, if_true, if_false, reduceIte, ai_bi_eq0, ai_bi_eq1, ai_pb_bi, ai_pb_0, ai_pb_1, f_19_0, f_1_0, h.1, c1, x_risings h hk (show i < 8 by omega), nI_add, nI_1, kb_s]
  have e := lp_n (fun i => ai_Run 16 4 [.ref 19, .int (nI (kb_s (fun c => kb_T B c / 2) i)), .int (nI i)] [] (wl w)) _ step
  have c2 : ¬ nI (kb_n B) < nI (kb_n B) := nI_nlt (Nat.le_refl _) (by omega)
  simp only [e_16, o_19, r_16_0, r_16_1, r_16_2, r_16_3, r_16_5, r_16_6, r_16_9, r_16_12, r_16_15, r_16_16, r_16_17, r_16_20, r_16_21, r_16_24, r_16_25, r_16_26, r_16_29, r_16_32, r_16_33, Option.bind_some, Option.bind_none, Option.toList_some, Option.toList_none, List.cons_append, List.nil_append, Option.map_some, Option.map_none, eq_self, if_true, if_false, reduceIte, ai_bi_eq0, ai_bi_eq1, ai_pb_bi, ai_pb_0, ai_pb_1]
  refine e.trans ?_
  rw [r_16_4]
  simp only [r_16_0, r_16_1, r_16_2, r_16_3, r_16_5, r_16_6, r_16_9, r_16_12, r_16_15, r_16_16, r_16_17, r_16_20, r_16_21, r_16_24, r_16_25, r_16_26, r_16_29, r_16_32, r_16_33, Option.bind_some, Option.bind_none, Option.toList_some, Option.toList_none, List.cons_append, List.nil_append, Option.map_some, Option.map_none, eq_self, if_true, if_false, reduceIte, ai_bi_eq0, ai_bi_eq1, ai_pb_bi, ai_pb_0, ai_pb_1, f_19_0, f_1_0, h.1, c2]
theorem x_allSolvedDeaths (h : kb_x (xw_b w) B) (hk : kb_ok B) : ai_Call 20 [.ref 19] (wl w) = some (some (.int (nI (kb_s (fun c => kb_s (fun d => kb_i (decide (¬ kb_C B c d = (-4)))) (kb_d B c)) (kb_n B)))), wl w) := by
  have hn := hk.1
  have step : ∀ i, i < kb_n B → ai_Run 20 4 [.ref 19, .int (nI (kb_s (fun c => kb_s (fun d => kb_i (decide (¬ kb_C B c d = (-4)))) (kb_d B c)) i)), .int (nI i)] [] (wl w) = ai_Run 20 4 [.ref 19, .int (nI (kb_s (fun c => kb_s (fun d => kb_i (decide (¬ kb_C B c d = (-4)))) (kb_d B c)) (i + 1))), .int (nI (i + 1))] [] (wl w) := by
    intro i hi
    have c1 : nI i < nI (kb_n B) := nI_lt hi (by omega)
    rw [r_20_4]
    simp only [r_20_0, r_20_1, r_20_2, r_20_3, r_20_5, r_20_6, r_20_9, r_20_12, r_20_15, r_20_16, r_20_17, r_20_18, r_20_21, r_20_22, r_20_23, r_20_26, r_20_29, r_20_30, Option.bind_some, Option.bind_none, Option.toList_some, Option.toList_none, List.cons_append, List.nil_append, Option.map_some, Option.map_none, eq_self, if_true, if_false, reduceIte, ai_bi_eq0, ai_bi_eq1, ai_pb_bi, ai_pb_0, ai_pb_1, f_19_0, f_1_0, h.1, c1, x_solvedDeaths h hk (show i < 8 by omega), nI_add, nI_1, kb_s]
  have e := lp_n (fun i => ai_Run 20 4 [.ref 19, .int (nI (kb_s (fun c => kb_s (fun d => kb_i (decide (¬ kb_C B c d = (-4)))) (kb_d B c)) i)), .int (nI i)] [] (wl w)) _ step
  have c2 : ¬ nI (kb_n B) < nI (kb_n B) := nI_nlt (Nat.le_refl _) (by omega)
  simp only [e_20, o_19, r_20_0, r_20_1, r_20_2, r_20_3, r_20_5, r_20_6, r_20_9, r_20_12, r_20_15, r_20_16, r_20_17, r_20_18, r_20_21, r_20_22, r_20_23, r_20_26, r_20_29, r_20_30, Option.bind_some, Option.bind_none, Option.toList_some, Option.toList_none, List.cons_append, List.nil_append, Option.map_some, Option.map_none, eq_self, if_true, if_false, reduceIte, ai_bi_eq0, ai_bi_eq1, ai_pb_bi, ai_pb_0, ai_pb_1]
  refine e.trans ?_
  rw [r_20_4]
  simp only [r_20_0, r_20_1, r_20_2, r_20_3, r_20_5, r_20_6, r_20_9, r_20_12, r_20_15, r_20_16, r_20_17, r_20_18, r_20_21, r_20_22, r_20_23, r_20_26, r_20_29, r_20_30, Option.bind_some, Option.bind_none, Option.toList_some, Option.toList_none, List.cons_append, List.nil_append, Option.map_some, Option.map_none, eq_self, if_true, if_false, reduceIte, ai_bi_eq0, ai_bi_eq1, ai_pb_bi, ai_pb_0, ai_pb_1, f_19_0, f_1_0, h.1, c2]
end XB

