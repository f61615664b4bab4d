/-! The reference's sums over deaths, its orders, its questions. -/
section MB
variable {w : xw_W} {B : kb_B}
theorem m_culpritMany (h : kb_m (xm_s w) B) (hk : kb_ok B) (x : Int32) : ai_Call 202 [.ref 185, .int x] (wl w) = some (some (.int (nI (kb_ds B (fun c d => decide (kb_C B c d = x))))), wl w) := by
  have hn := hk.1
  have inner : ∀ c, c < kb_n B → ∀ m X, (∀ v5, ai_Run 202 4 [.ref 185, .int x, .int (nI (m + kb_s (fun d => kb_i ((fun c d => decide (kb_C B c d = x)) c d)) (kb_d B c))), .int (nI (c + 1)), v5] [] (wl w) = X) → ∀ n i, i + n = kb_d B c → ai_Run 202 17 [.ref 185, .int x, .int (nI (m + kb_s (fun d => kb_i ((fun c d => decide (kb_C B c d = x)) c d)) i)), .int (nI c), .int (nI i)] [] (wl w) = X := by
    intro c hc m X hX n
    have h3 := kb_d3 hk c
    induction n with
    | zero =>
      intro i hi
      have e0 : i = kb_d B c := by omega
      subst e0
      have c2 : ¬ nI (kb_d B c) < nI (kb_d B c) := nI_nlt (Nat.le_refl _) (by omega)
      rw [r_202_17]
      simp only [r_202_0, r_202_1, r_202_2, r_202_3, r_202_5, r_202_6, r_202_9, r_202_10, r_202_11, r_202_14, r_202_15, r_202_19, r_202_20, r_202_21, r_202_24, r_202_27, r_202_28, r_202_29, r_202_30, r_202_32, r_202_35, r_202_36, r_202_39, r_202_40, r_202_43, r_202_44, r_202_45, r_202_46, r_202_49, r_202_52, r_202_55, r_202_58, r_202_59, Option.bind_some, Option.bind_none, Option.toList_some, Option.toList_none, List.cons_append, List.nil_append, Option.map_some, Option.map_none, eq_self, if_true, if_false, reduceIte, ai_bi_eq0, ai_bi_eq1, ai_pb_bi, ai_pb_0, ai_pb_1, m_deathsOf h hk (show c < 8 by omega), c2, nI_1]
      exact hX _
    | succ n ih =>
      intro i hi
      have c1 : nI i < nI (kb_d B c) := nI_lt (by omega) (by omega)
      have ih := ih (i + 1) (by omega)
      rw [kb_s] at ih
      rw [r_202_17]
      by_cases c2 : kb_C B c i = x
      · simp only [c2, decide_true, kb_i_t] at ih
        simp only [r_202_0, r_202_1, r_202_2, r_202_3, r_202_5, r_202_6, r_202_9, r_202_10, r_202_11, r_202_14, r_202_15, r_202_19, r_202_20, r_202_21, r_202_24, r_202_27, r_202_28, r_202_29, r_202_30, r_202_32, r_202_35, r_202_36, r_202_39, r_202_40, r_202_43, r_202_44, r_202_45, r_202_46, r_202_49, r_202_52, r_202_55, r_202_58, r_202_59, Option.bind_some, Option.bind_none, Option.toList_some, Option.toList_none, List.cons_append, List.nil_append, Option.map_some, Option.map_none, eq_self, if_true, if_false, reduceIte, ai_bi_eq0, ai_bi_eq1, ai_pb_bi, ai_pb_0, ai_pb_1, m_deathsOf h hk (show c < 8 by omega), c1, m_culprit h hk hc (show i < 3 by omega), c2, nI_1, Nat.add_assoc, ih]
      · simp only [c2, decide_false, kb_i_f, Nat.add_zero] at ih
        simp only [r_202_0, r_202_1, r_202_2, r_202_3, r_202_5, r_202_6, r_202_9, r_202_10, r_202_11, r_202_14, r_202_15, r_202_19, r_202_20, r_202_21, r_202_24, r_202_27, r_202_28, r_202_29, r_202_30, r_202_32, r_202_35, r_202_36, r_202_39, r_202_40, r_202_43, r_202_44, r_202_45, r_202_46, r_202_49, r_202_52, r_202_55, r_202_58, r_202_59, Option.bind_some, Option.bind_none, Option.toList_some, Option.toList_none, List.cons_append, List.nil_append, Option.map_some, Option.map_none, eq_self, if_true, if_false, reduceIte, ai_bi_eq0, ai_bi_eq1, ai_pb_bi, ai_pb_0, ai_pb_1, m_deathsOf h hk (show c < 8 by omega), c1, m_culprit h hk hc (show i < 3 by omega), c2, nI_1, Int32.add_zero, ih]
  have outer : ∀ n c, c + n = kb_n B → ∀ v5, ai_Run 202 4 [.ref 185, .int x, .int (nI (kb_s (fun c => kb_s (fun d => kb_i ((fun c d => decide (kb_C B c d = x)) c d)) (kb_d B c)) c)), .int (nI c), v5] [] (wl w) = some (some (.int (nI (kb_ds B (fun c d => decide (kb_C B c d = x))))), wl w) := by
    intro n
    induction n with
    | zero =>
      intro c hc v5
      have e0 : c = kb_n B := by omega
      subst e0
      have c2 : ¬ nI (kb_n B) < nI (kb_n B) := nI_nlt (Nat.le_refl _) (by omega)
      rw [r_202_4]
      simp only [r_202_0, r_202_1, r_202_2, r_202_3, r_202_5, r_202_6, r_202_9, r_202_10, r_202_11, r_202_14, r_202_15, r_202_19, r_202_20, r_202_21, r_202_24, r_202_27, r_202_28, r_202_29, r_202_30, r_202_32, r_202_35, r_202_36, r_202_39, r_202_40, r_202_43, r_202_44, r_202_45, r_202_46, r_202_49, r_202_52, r_202_55, r_202_58, r_202_59, Option.bind_some, Option.bind_none, Option.toList_some, Option.toList_none, List.cons_append, List.nil_append, Option.map_some, Option.map_none, eq_self, if_true, if_false, reduceIte, ai_bi_eq0, ai_bi_eq1, ai_pb_bi, ai_pb_0, ai_pb_1, f_185_0, mg_0, h.1, c2]
      rfl
    | succ n ih =>
      intro c hc v5
      have c1 : nI c < nI (kb_n B) := nI_lt (by omega) (by omega)
      rw [r_202_4]
      simp only [r_202_0, r_202_1, r_202_2, r_202_3, r_202_5, r_202_6, r_202_9, r_202_10, r_202_11, r_202_14, r_202_15, r_202_19, r_202_20, r_202_21, r_202_24, r_202_27, r_202_28, r_202_29, r_202_30, r_202_32, r_202_35, r_202_36, r_202_39, r_202_40, r_202_43, r_202_44, r_202_45, r_202_46, r_202_49, r_202_52, r_202_55, r_202_58, r_202_59, Option.bind_some, Option.bind_none, Option.toList_some, Option.toList_none, List.cons_append, List.nil_append, Option.map_some, Option.map_none, eq_self, if_true, if_false, reduceIte, ai_bi_eq0, ai_bi_eq1, ai_pb_bi, ai_pb_0, ai_pb_1, f_185_0, mg_0, h.1, c1]
      exact inner c (by omega) (kb_s (fun c => kb_s (fun d => kb_i ((fun c d => decide (kb_C B c d = x)) c d)) (kb_d B c)) c) _ (ih (c + 1) (by omega)) (kb_d B c) 0 (by omega)
  simp only [e_202, o_185, r_202_0, r_202_1, r_202_2, r_202_3, r_202_5, r_202_6, r_202_9, r_202_10, r_202_11, r_202_14, r_202_15, r_202_19, r_202_20, r_202_21, r_202_24, r_202_27, r_202_28, r_202_29, r_202_30, r_202_32, r_202_35, r_202_36, r_202_39, r_202_40, r_202_43, r_202_44, r_202_45, r_202_46, r_202_49, r_202_52, r_202_55, r_202_58, r_202_59, Option.bind_some, Option.bind_none, Option.toList_some, Option.toList_none, List.cons_append, List.nil_append, Option.map_some, Option.map_none, eq_self, if_true, if_false, reduceIte, ai_bi_eq0, ai_bi_eq1, ai_pb_bi, ai_pb_0, ai_pb_1]
  exact outer (kb_n B) 0 (by omega) .null
theorem m_deathsBy0 (h : kb_m (xm_s w) B) (hk : kb_ok B) (x : Int32) : ai_Call 192 [.ref 185, .int x, .int 0] (wl w) = some (some (.int (nI (kb_ds B (fun c d => decide (kb_W B (kb_E B c (2 * d)) = x))))), wl w) := by
  have hn := hk.1
  have inner : ∀ c, c < kb_n B → ∀ m X, (∀ v5 v6, ai_Run 192 5 [.ref 185, .int x, .int 0, .int (nI (m + kb_s (fun d => kb_i ((fun c d => decide (kb_W B (kb_E B c (2 * d)) = x)) c d)) (kb_d B c))), .int (nI (c + 1)), v5, v6] [] (wl w) = X) → ∀ n i, i + n = kb_d B c → ∀ v6, ai_Run 192 19 [.ref 185, .int x, .int 0, .int (nI (m + kb_s (fun d => kb_i ((fun c d => decide (kb_W B (kb_E B c (2 * d)) = x)) c d)) i)), .int (nI c), .int (nI i), v6] [] (wl w) = X := by
    intro c hc m X hX n
    have h3 := kb_d3 hk c
    induction n with
    | zero =>
      intro i hi v6
      have e0 : i = kb_d B c := by omega
      subst e0
      have c2 : ¬ nI (kb_d B c) < nI (kb_d B c) := nI_nlt (Nat.le_refl _) (by omega)
      rw [r_192_19]
      simp only [r_192_0, r_192_1, r_192_2, r_192_3, r_192_7, r_192_8, r_192_11, r_192_12, r_192_13, r_192_16, r_192_17, r_192_21, r_192_22, r_192_24, r_192_27, r_192_30, r_192_31, r_192_34, r_192_35, r_192_36, r_192_38, r_192_40, r_192_43, r_192_44, r_192_45, r_192_46, r_192_49, r_192_50, r_192_53, r_192_54, r_192_56, r_192_57, r_192_59, r_192_62, r_192_63, r_192_66, r_192_67, r_192_69, r_192_71, r_192_74, r_192_76, r_192_79, r_192_80, r_192_83, r_192_84, r_192_85, r_192_86, r_192_89, r_192_92, r_192_95, r_192_98, r_192_99, Option.bind_some, Option.bind_none, Option.toList_some, Option.toList_none, List.cons_append, List.nil_append, Option.map_some, Option.map_none, eq_self, if_true, if_false, reduceIte, ai_bi_eq0, ai_bi_eq1, ai_pb_bi, ai_pb_0, ai_pb_1, m_deathsOf h hk (show c < 8 by omega), c2, nI_1]
      exact hX _ _
    | succ n ih =>
      intro i hi v6
      have c1 : nI i < nI (kb_d B c) := nI_lt (by omega) (by omega)
      have ih := ih (i + 1) (by omega)
      rw [kb_s] at ih
      rw [r_192_19]
      have he := hk.2.2.2.2.1 c (2 * i) (by have : i < kb_d B c := by omega
                                            unfold kb_d at this; omega)
      by_cases c2 : kb_W B (kb_E B c (2 * i)) = x
      · simp only [c2, decide_true, kb_i_t] at ih
        simp only [r_192_0, r_192_1, r_192_2, r_192_3, r_192_7, r_192_8, r_192_11, r_192_12, r_192_13, r_192_16, r_192_17, r_192_21, r_192_22, r_192_24, r_192_27, r_192_30, r_192_31, r_192_34, r_192_35, r_192_36, r_192_38, r_192_40, r_192_43, r_192_44, r_192_45, r_192_46, r_192_49, r_192_50, r_192_53, r_192_54, r_192_56, r_192_57, r_192_59, r_192_62, r_192_63, r_192_66, r_192_67, r_192_69, r_192_71, r_192_74, r_192_76, r_192_79, r_192_80, r_192_83, r_192_84, r_192_85, r_192_86, r_192_89, r_192_92, r_192_95, r_192_98, r_192_99, Option.bind_some, Option.bind_none, Option.toList_some, Option.toList_none, List.cons_append, List.nil_append, Option.map_some, Option.map_none, eq_self, if_true, if_false, reduceIte, ai_bi_eq0, ai_bi_eq1, ai_pb_bi, ai_pb_0, ai_pb_1, m_deathsOf h hk (show c < 8 by omega), c1, f_185_0, m_chapterOf h hk (show c < 8 by omega) (show i < kb_d B c by omega), a_3, m_W h he.2, c2, show ¬ (1 : Int32) = 0 by decide, nI_1, Nat.add_assoc, ih]
      · simp only [c2, decide_false, kb_i_f, Nat.add_zero] at ih
        simp only [r_192_0, r_192_1, r_192_2, r_192_3, r_192_7, r_192_8, r_192_11, r_192_12, r_192_13, r_192_16, r_192_17, r_192_21, r_192_22, r_192_24, r_192_27, r_192_30, r_192_31, r_192_34, r_192_35, r_192_36, r_192_38, r_192_40, r_192_43, r_192_44, r_192_45, r_192_46, r_192_49, r_192_50, r_192_53, r_192_54, r_192_56, r_192_57, r_192_59, r_192_62, r_192_63, r_192_66, r_192_67, r_192_69, r_192_71, r_192_74, r_192_76, r_192_79, r_192_80, r_192_83, r_192_84, r_192_85, r_192_86, r_192_89, r_192_92, r_192_95, r_192_98, r_192_99, Option.bind_some, Option.bind_none, Option.toList_some, Option.toList_none, List.cons_append, List.nil_append, Option.map_some, Option.map_none, eq_self, if_true, if_false, reduceIte, ai_bi_eq0, ai_bi_eq1, ai_pb_bi, ai_pb_0, ai_pb_1, m_deathsOf h hk (show c < 8 by omega), c1, f_185_0, m_chapterOf h hk (show c < 8 by omega) (show i < kb_d B c by omega), a_3, m_W h he.2, c2, nI_1, Int32.add_zero, ih]
  have outer : ∀ n c, c + n = kb_n B → ∀ v5 v6, ai_Run 192 5 [.ref 185, .int x, .int 0, .int (nI (kb_s (fun c => kb_s (fun d => kb_i ((fun c d => decide (kb_W B (kb_E B c (2 * d)) = x)) c d)) (kb_d B c)) c)), .int (nI c), v5, v6] [] (wl w) = some (some (.int (nI (kb_ds B (fun c d => decide (kb_W B (kb_E B c (2 * d)) = x))))), wl w) := by
    intro n
    induction n with
    | zero =>
      intro c hc v5 v6
      have e0 : c = kb_n B := by omega
      subst e0
      have c2 : ¬ nI (kb_n B) < nI (kb_n B) := nI_nlt (Nat.le_refl _) (by omega)
      rw [r_192_5]
      simp only [r_192_0, r_192_1, r_192_2, r_192_3, r_192_7, r_192_8, r_192_11, r_192_12, r_192_13, r_192_16, r_192_17, r_192_21, r_192_22, r_192_24, r_192_27, r_192_30, r_192_31, r_192_34, r_192_35, r_192_36, r_192_38, r_192_40, r_192_43, r_192_44, r_192_45, r_192_46, r_192_49, r_192_50, r_192_53, r_192_54, r_192_56, r_192_57, r_192_59, r_192_62, r_192_63, r_192_66, r_192_67, r_192_69, r_192_71, r_192_74, r_192_76, r_192_79, r_192_80, r_192_83, r_192_84, r_192_85, r_192_86, r_192_89, r_192_92, r_192_95, r_192_98, r_192_99, Option.bind_some, Option.bind_none, Option.toList_some, Option.toList_none, List.cons_append, List.nil_append, Option.map_some, Option.map_none, eq_self, if_true, if_false, reduceIte, ai_bi_eq0, ai_bi_eq1, ai_pb_bi, ai_pb_0, ai_pb_1, f_185_0, mg_0, h.1, c2]
      rfl
    | succ n ih =>
      intro c hc v5 v6
      have c1 : nI c < nI (kb_n B) := nI_lt (by omega) (by omega)
      rw [r_192_5]
      simp only [r_192_0, r_192_1, r_192_2, r_192_3, r_192_7, r_192_8, r_192_11, r_192_12, r_192_13, r_192_16, r_192_17, r_192_21, r_192_22, r_192_24, r_192_27, r_192_30, r_192_31, r_192_34, r_192_35, r_192_36, r_192_38, r_192_40, r_192_43, r_192_44, r_192_45, r_192_46, r_192_49, r_192_50, r_192_53, r_192_54, r_192_56, r_192_57, r_192_59, r_192_62, r_192_63, r_192_66, r_192_67, r_192_69, r_192_71, r_192_74, r_192_76, r_192_79, r_192_80, r_192_83, r_192_84, r_192_85, r_192_86, r_192_89, r_192_92, r_192_95, r_192_98, r_192_99, Option.bind_some, Option.bind_none, Option.toList_some, Option.toList_none, List.cons_append, List.nil_append, Option.map_some, Option.map_none, eq_self, if_true, if_false, reduceIte, ai_bi_eq0, ai_bi_eq1, ai_pb_bi, ai_pb_0, ai_pb_1, f_185_0, mg_0, h.1, c1]
      exact inner c (by omega) (kb_s (fun c => kb_s (fun d => kb_i ((fun c d => decide (kb_W B (kb_E B c (2 * d)) = x)) c d)) (kb_d B c)) c) _ (ih (c + 1) (by omega)) (kb_d B c) 0 (by omega) _
  simp only [e_192, o_185, r_192_0, r_192_1, r_192_2, r_192_3, r_192_7, r_192_8, r_192_11, r_192_12, r_192_13, r_192_16, r_192_17, r_192_21, r_192_22, r_192_24, r_192_27, r_192_30, r_192_31, r_192_34, r_192_35, r_192_36, r_192_38, r_192_40, r_192_43, r_192_44, r_192_45, r_192_46, r_192_49, r_192_50, r_192_53, r_192_54, r_192_56, r_192_57, r_192_59, r_192_62, r_192_63, r_192_66, r_192_67, r_192_69, r_192_71, r_192_74, r_192_76, r_192_79, r_192_80, r_192_83, r_192_84, r_192_85, r_192_86, r_192_89, r_192_92, r_192_95, r_192_98, r_192_99, Option.bind_some, Option.bind_none, Option.toList_some, Option.toList_none, List.cons_append, List.nil_append, Option.map_some, Option.map_none, eq_self, if_true, if_false, reduceIte, ai_bi_eq0, ai_bi_eq1, ai_pb_bi, ai_pb_0, ai_pb_1]
  exact outer (kb_n B) 0 (by omega) .null .null
theorem m_deathsBy1 (h : kb_m (xm_s w) B) (hk : kb_ok B) (x : Int32) : ai_Call 192 [.ref 185, .int x, .int 1] (wl w) = some (some (.int (nI (kb_ds B (fun c d => decide (kb_W B (kb_E B c (2 * d)) = x) && decide (¬ kb_C B c d = (-4)))))), wl w) := by
  have hn := hk.1
  have inner : ∀ c, c < kb_n B → ∀ m X, (∀ v5 v6, ai_Run 192 5 [.ref 185, .int x, .int 1, .int (nI (m + kb_s (fun d => kb_i ((fun c d => decide (kb_W B (kb_E B c (2 * d)) = x) && decide (¬ kb_C B c d = (-4))) c d)) (kb_d B c))), .int (nI (c + 1)), v5, v6] [] (wl w) = X) → ∀ n i, i + n = kb_d B c → ∀ v6, ai_Run 192 19 [.ref 185, .int x, .int 1, .int (nI (m + kb_s (fun d => kb_i ((fun c d => decide (kb_W B (kb_E B c (2 * d)) = x) && decide (¬ kb_C B c d = (-4))) c d)) i)), .int (nI c), .int (nI i), v6] [] (wl w) = X := by
    intro c hc m X hX n
    have h3 := kb_d3 hk c
    induction n with
    | zero =>
      intro i hi v6
      have e0 : i = kb_d B c := by omega
      subst e0
      have c2 : ¬ nI (kb_d B c) < nI (kb_d B c) := nI_nlt (Nat.le_refl _) (by omega)
      rw [r_192_19]
      simp only [r_192_0, r_192_1, r_192_2, r_192_3, r_192_7, r_192_8, r_192_11, r_192_12, r_192_13, r_192_16, r_192_17, r_192_21, r_192_22, r_192_24, r_192_27, r_192_30, r_192_31, r_192_34, r_192_35, r_192_36, r_192_38, r_192_40, r_192_43, r_192_44, r_192_45, r_192_46, r_192_49, r_192_50, r_192_53, r_192_54, r_192_56, r_192_57, r_192_59, r_192_62, r_192_63, r_192_66, r_192_67, r_192_69, r_192_71, r_192_74, r_192_76, r_192_79, r_192_80, r_192_83, r_192_84, r_192_85, r_192_86, r_192_89, r_192_92, r_192_95, r_192_98, r_192_99, Option.bind_some, Option.bind_none, Option.toList_some, Option.toList_none, List.cons_append, List.nil_append, Option.map_some, Option.map_none, eq_self, if_true, if_false, reduceIte, ai_bi_eq0, ai_bi_eq1, ai_pb_bi, ai_pb_0, ai_pb_1, m_deathsOf h hk (show c < 8 by omega), c2, nI_1]
      exact hX _ _
    | succ n ih =>
      intro i hi v6
      have c1 : nI i < nI (kb_d B c) := nI_lt (by omega) (by omega)
      have ih := ih (i + 1) (by omega)
      rw [kb_s] at ih
      rw [r_192_19]
      have he := hk.2.2.2.2.1 c (2 * i) (by have : i < kb_d B c := by omega
                                            unfold kb_d at this; omega)
      by_cases c2 : kb_W B (kb_E B c (2 * i)) = x
      · by_cases c3 : kb_C B c i = (-4)
        · simp only [c2, c3, decide_true, not_true, decide_false, Bool.and_false, kb_i_f, Nat.add_zero] at ih
          simp only [r_192_0, r_192_1, r_192_2, r_192_3, r_192_7, r_192_8, r_192_11, r_192_12, r_192_13, r_192_16, r_192_17, r_192_21, r_192_22, r_192_24, r_192_27, r_192_30, r_192_31, r_192_34, r_192_35, r_192_36, r_192_38, r_192_40, r_192_43, r_192_44, r_192_45, r_192_46, r_192_49, r_192_50, r_192_53, r_192_54, r_192_56, r_192_57, r_192_59, r_192_62, r_192_63, r_192_66, r_192_67, r_192_69, r_192_71, r_192_74, r_192_76, r_192_79, r_192_80, r_192_83, r_192_84, r_192_85, r_192_86, r_192_89, r_192_92, r_192_95, r_192_98, r_192_99, Option.bind_some, Option.bind_none, Option.toList_some, Option.toList_none, List.cons_append, List.nil_append, Option.map_some, Option.map_none, eq_self, if_true, if_false, reduceIte, ai_bi_eq0, ai_bi_eq1, ai_pb_bi, ai_pb_0, ai_pb_1, m_deathsOf h hk (show c < 8 by omega), c1, f_185_0, m_chapterOf h hk (show c < 8 by omega) (show i < kb_d B c by omega), a_3, m_W h he.2, c2, show ¬ (1 : Int32) = 0 by decide, m_culprit h hk hc (show i < 3 by omega), c3, nI_1, Int32.add_zero, ih]
        · simp only [c2, c3, decide_true, not_false_eq_true, Bool.and_self, kb_i_t] at ih
          simp only [r_192_0, r_192_1, r_192_2, r_192_3, r_192_7, r_192_8, r_192_11, r_192_12, r_192_13, r_192_16, r_192_17, r_192_21, r_192_22, r_192_24, r_192_27, r_192_30, r_192_31, r_192_34, r_192_35, r_192_36, r_192_38, r_192_40, r_192_43, r_192_44, r_192_45, r_192_46, r_192_49, r_192_50, r_192_53, r_192_54, r_192_56, r_192_57, r_192_59, r_192_62, r_192_63, r_192_66, r_192_67, r_192_69, r_192_71, r_192_74, r_192_76, r_192_79, r_192_80, r_192_83, r_192_84, r_192_85, r_192_86, r_192_89, r_192_92, r_192_95, r_192_98, r_192_99, Option.bind_some, Option.bind_none, Option.toList_some, Option.toList_none, List.cons_append, List.nil_append, Option.map_some, Option.map_none, eq_self, if_true, if_false, reduceIte, ai_bi_eq0, ai_bi_eq1, ai_pb_bi, ai_pb_0, ai_pb_1, m_deathsOf h hk (show c < 8 by omega), c1, f_185_0, m_chapterOf h hk (show c < 8 by omega) (show i < kb_d B c by omega), a_3, m_W h he.2, c2, show ¬ (1 : Int32) = 0 by decide, m_culprit h hk hc (show i < 3 by omega), c3, nI_1, Nat.add_assoc, ih]
      · simp only [c2, decide_false, Bool.false_and, kb_i_f, Nat.add_zero] at ih
        simp only [r_192_0, r_192_1, r_192_2, r_192_3, r_192_7, r_192_8, r_192_11, r_192_12, r_192_13, r_192_16, r_192_17, r_192_21, r_192_22, r_192_24, r_192_27, r_192_30, r_192_31, r_192_34, r_192_35, r_192_36, r_192_38, r_192_40, r_192_43, r_192_44, r_192_45, r_192_46, r_192_49, r_192_50, r_192_53, r_192_54, r_192_56, r_192_57, r_192_59, r_192_62, r_192_63, r_192_66, r_192_67, r_192_69, r_192_71, r_192_74, r_192_76, r_192_79, r_192_80, r_192_83, r_192_84, r_192_85, r_192_86, r_192_89, r_192_92, r_192_95, r_192_98, r_192_99, Option.bind_some, Option.bind_none, Option.toList_some, Option.toList_none, List.cons_append, List.nil_append, Option.map_some, Option.map_none, eq_self, if_true, if_false, reduceIte, ai_bi_eq0, ai_bi_eq1, ai_pb_bi, ai_pb_0, ai_pb_1, m_deathsOf h hk (show c < 8 by omega), c1, f_185_0, m_chapterOf h hk (show c < 8 by omega) (show i < kb_d B c by omega), a_3, m_W h he.2, c2, nI_1, Int32.add_zero, ih]
  have outer : ∀ n c, c + n = kb_n B → ∀ v5 v6, ai_Run 192 5 [.ref 185, .int x, .int 1, .int (nI (kb_s (fun c => kb_s (fun d => kb_i ((fun c d => decide (kb_W B (kb_E B c (2 * d)) = x) && decide (¬ kb_C B c d = (-4))) c d)) (kb_d B c)) c)), .int (nI c), v5, v6] [] (wl w) = some (some (.int (nI (kb_ds B (fun c d => decide (kb_W B (kb_E B c (2 * d)) = x) && decide (¬ kb_C B c d = (-4)))))), wl w) := by
    intro n
    induction n with
    | zero =>
      intro c hc v5 v6
      have e0 : c = kb_n B := by omega
      subst e0
      have c2 : ¬ nI (kb_n B) < nI (kb_n B) := nI_nlt (Nat.le_refl _) (by omega)
      rw [r_192_5]
      simp only [r_192_0, r_192_1, r_192_2, r_192_3, r_192_7, r_192_8, r_192_11, r_192_12, r_192_13, r_192_16, r_192_17, r_192_21, r_192_22, r_192_24, r_192_27, r_192_30, r_192_31, r_192_34, r_192_35, r_192_36, r_192_38, r_192_40, r_192_43, r_192_44, r_192_45, r_192_46, r_192_49, r_192_50, r_192_53, r_192_54, r_192_56, r_192_57, r_192_59, r_192_62, r_192_63, r_192_66, r_192_67, r_192_69, r_192_71, r_192_74, r_192_76, r_192_79, r_192_80, r_192_83, r_192_84, r_192_85, r_192_86, r_192_89, r_192_92, r_192_95, r_192_98, r_192_99, Option.bind_some, Option.bind_none, Option.toList_some, Option.toList_none, List.cons_append, List.nil_append, Option.map_some, Option.map_none, eq_self, if_true, if_false, reduceIte, ai_bi_eq0, ai_bi_eq1, ai_pb_bi, ai_pb_0, ai_pb_1, f_185_0, mg_0, h.1, c2]
      rfl
    | succ n ih =>
      intro c hc v5 v6
      have c1 : nI c < nI (kb_n B) := nI_lt (by omega) (by omega)
      rw [r_192_5]
      simp only [r_192_0, r_192_1, r_192_2, r_192_3, r_192_7, r_192_8, r_192_11, r_192_12, r_192_13, r_192_16, r_192_17, r_192_21, r_192_22, r_192_24, r_192_27, r_192_30, r_192_31, r_192_34, r_192_35, r_192_36, r_192_38, r_192_40, r_192_43, r_192_44, r_192_45, r_192_46, r_192_49, r_192_50, r_192_53, r_192_54, r_192_56, r_192_57, r_192_59, r_192_62, r_192_63, r_192_66, r_192_67, r_192_69, r_192_71, r_192_74, r_192_76, r_192_79, r_192_80, r_192_83, r_192_84, r_192_85, r_192_86, r_192_89, r_192_92, r_192_95, r_192_98, r_192_99, Option.bind_some, Option.bind_none, Option.toList_some, Option.toList_none, List.cons_append, List.nil_append, Option.map_some, Option.map_none, eq_self, if_true, if_false, reduceIte, ai_bi_eq0, ai_bi_eq1, ai_pb_bi, ai_pb_0, ai_pb_1, f_185_0, mg_0, h.1, c1]
      exact inner c (by omega) (kb_s (fun c => kb_s (fun d => kb_i ((fun c d => decide (kb_W B (kb_E B c (2 * d)) = x) && decide (¬ kb_C B c d = (-4))) c d)) (kb_d B c)) c) _ (ih (c + 1) (by omega)) (kb_d B c) 0 (by omega) _
  simp only [e_192, o_185, r_192_0, r_192_1, r_192_2, r_192_3, r_192_7, r_192_8, r_192_11, r_192_12, r_192_13, r_192_16, r_192_17, r_192_21, r_192_22, r_192_24, r_192_27, r_192_30, r_192_31, r_192_34, r_192_35, r_192_36, r_192_38, r_192_40, r_192_43, r_192_44, r_192_45, r_192_46, r_192_49, r_192_50, r_192_53, r_192_54, r_192_56, r_192_57, r_192_59, r_192_62, r_192_63, r_192_66, r_192_67, r_192_69, r_192_71, r_192_74, r_192_76, r_192_79, r_192_80, r_192_83, r_192_84, r_192_85, r_192_86, r_192_89, r_192_92, r_192_95, r_192_98, r_192_99, Option.bind_some, Option.bind_none, Option.toList_some, Option.toList_none, List.cons_append, List.nil_append, Option.map_some, Option.map_none, eq_self, if_true, if_false, reduceIte, ai_bi_eq0, ai_bi_eq1, ai_pb_bi, ai_pb_0, ai_pb_1]
  exact outer (kb_n B) 0 (by omega) .null .null
theorem kb_dm8 {B : kb_B} (hk : kb_ok B) (q : Nat) : kb_dm B q ≤ 8 := by
  have := hk.1
  have := kb_s_le1 (f := fun c => kb_dead B c q) (kb_n B)
  unfold kb_dm
  omega
theorem m_darkest (h : kb_m (xm_s w) B) (hk : kb_ok B) (x : Int32) : ai_Call 206 [.ref 185, .int x] (wl w) = some (some (.int (kb_q17 B x)), wl w) := by
  have hn := hk.1
  have hb := kb_bs_in (kb_dm B) 29
  have step : ∀ i, i < 29 → ai_Run 206 16 [.ref 185, .int x, .int (nI (kb_bs (kb_dm B) i)), .int (nI (i + 2))] [] (wl w) = ai_Run 206 16 [.ref 185, .int x, .int (nI (kb_bs (kb_dm B) (i + 1))), .int (nI (i + 1 + 2))] [] (wl w) := by
    intro i hi
    have c1 : ¬ (30 : Int32) < nI (i + 2) := nI_nlt (b := i + 2) (a := 30) (by omega) (by decide)
    have hb2 := kb_bs_in (kb_dm B) i
    have h8 := kb_dm8 hk (i + 2)
    have h9 := kb_dm8 hk (kb_bs (kb_dm B) i)
    rw [r_206_16, kb_bs]
    by_cases c2 : kb_dm B (kb_bs (kb_dm B) i) < kb_dm B (i + 2)
    · have c3 : nI (kb_dm B (kb_bs (kb_dm B) i)) < nI (kb_dm B (i + 2)) := nI_lt c2 (by omega)
      simp only [r_206_0, r_206_1, r_206_2, r_206_3, r_206_6, r_206_9, r_206_11, r_206_12, r_206_13, r_206_14, r_206_15, r_206_17, r_206_19, r_206_22, r_206_23, r_206_24, r_206_27, r_206_28, r_206_29, r_206_32, r_206_35, r_206_36, r_206_39, r_206_40, r_206_41, r_206_44, r_206_47, r_206_48, r_206_49, r_206_52, r_206_53, r_206_54, r_206_57, r_206_60, r_206_61, Option.bind_some, Option.bind_none, Option.toList_some, Option.toList_none, List.cons_append, List.nil_append, Option.map_some, Option.map_none, eq_self, if_true, if_false, reduceIte, ai_bi_eq0, ai_bi_eq1, ai_pb_bi, ai_pb_0, ai_pb_1, c1, m_deadMany h hk (show i + 2 ≤ 30 by omega), m_deadMany h hk (show kb_bs (kb_dm B) i ≤ 30 by omega), c2, c3, nI_1]
    · have c3 : ¬ nI (kb_dm B (kb_bs (kb_dm B) i)) < nI (kb_dm B (i + 2)) := nI_nlt (by omega) (by omega)
      simp only [r_206_0, r_206_1, r_206_2, r_206_3, r_206_6, r_206_9, r_206_11, r_206_12, r_206_13, r_206_14, r_206_15, r_206_17, r_206_19, r_206_22, r_206_23, r_206_24, r_206_27, r_206_28, r_206_29, r_206_32, r_206_35, r_206_36, r_206_39, r_206_40, r_206_41, r_206_44, r_206_47, r_206_48, r_206_49, r_206_52, r_206_53, r_206_54, r_206_57, r_206_60, r_206_61, Option.bind_some, Option.bind_none, Option.toList_some, Option.toList_none, List.cons_append, List.nil_append, Option.map_some, Option.map_none, eq_self, if_true, if_false, reduceIte, ai_bi_eq0, ai_bi_eq1, ai_pb_bi, ai_pb_0, ai_pb_1, c1, m_deadMany h hk (show i + 2 ≤ 30 by omega), m_deadMany h hk (show kb_bs (kb_dm B) i ≤ 30 by omega), c2, c3, nI_1]
  have e := lp_n (fun i => ai_Run 206 16 [.ref 185, .int x, .int (nI (kb_bs (kb_dm B) i)), .int (nI (i + 2))] [] (wl w)) 29 step
  have ein : ai_in3 x 0 1 = decide (x = 0 ∨ x = 1) := by
    rw [show (1 : Int32) = nI 2 - 1 by decide, ai_in3_is (by decide)]
    unfold ai_is
    rw [decide_eq_decide]
    constructor
    · intro z
      obtain ⟨j, hj, rfl⟩ := nI_of z.1
      have := (nI_ltI hj (by decide)).mp z.2
      rcases (show j = 0 ∨ j = 1 by omega) with rfl | rfl
      · exact Or.inl rfl
      · exact Or.inr rfl
    · rintro (rfl | rfl)
      · exact ⟨by decide, by decide⟩
      · exact ⟨by decide, by decide⟩
  have c2 : (30 : Int32) < nI (29 + 2) := by decide
  have fin : x = 0 ∨ x = 1 → ai_Call 206 [.ref 185, .int x] (wl w) = ai_Run 206 47 [.ref 185, .int x, .int (nI (kb_bs (kb_dm B) 29)), .int (nI (29 + 2))] [] (wl w) := by
    intro z
    simp only [e_206, o_185, r_206_0, r_206_1, r_206_2, r_206_3, r_206_6, r_206_9, r_206_11, r_206_12, r_206_13, r_206_14, r_206_15, r_206_17, r_206_19, r_206_22, r_206_23, r_206_24, r_206_27, r_206_28, r_206_29, r_206_32, r_206_35, r_206_36, r_206_39, r_206_40, r_206_41, r_206_44, r_206_47, r_206_48, r_206_49, r_206_52, r_206_53, r_206_54, r_206_57, r_206_60, r_206_61, Option.bind_some, Option.bind_none, Option.toList_some, Option.toList_none, List.cons_append, List.nil_append, Option.map_some, Option.map_none, eq_self, if_true, if_false, reduceIte, ai_bi_eq0, ai_bi_eq1, ai_pb_bi, ai_pb_0, ai_pb_1, m_isIn, ein, decide_eq_true z, Bool.true_eq_false]
    have e2 := e
    refine Eq.trans e2 ?_
    rw [r_206_16]
    simp only [r_206_0, r_206_1, r_206_2, r_206_3, r_206_6, r_206_9, r_206_11, r_206_12, r_206_13, r_206_14, r_206_15, r_206_17, r_206_19, r_206_22, r_206_23, r_206_24, r_206_27, r_206_28, r_206_29, r_206_32, r_206_35, r_206_36, r_206_39, r_206_40, r_206_41, r_206_44, r_206_47, r_206_48, r_206_49, r_206_52, r_206_53, r_206_54, r_206_57, r_206_60, r_206_61, Option.bind_some, Option.bind_none, Option.toList_some, Option.toList_none, List.cons_append, List.nil_append, Option.map_some, Option.map_none, eq_self, if_true, if_false, reduceIte, ai_bi_eq0, ai_bi_eq1, ai_pb_bi, ai_pb_0, ai_pb_1, c2]
  unfold kb_q17
  by_cases c0 : x = 0
  · rw [fin (Or.inl c0)]
    subst c0
    simp only [r_206_0, r_206_1, r_206_2, r_206_3, r_206_6, r_206_9, r_206_11, r_206_12, r_206_13, r_206_14, r_206_15, r_206_17, r_206_19, r_206_22, r_206_23, r_206_24, r_206_27, r_206_28, r_206_29, r_206_32, r_206_35, r_206_36, r_206_39, r_206_40, r_206_41, r_206_44, r_206_47, r_206_48, r_206_49, r_206_52, r_206_53, r_206_54, r_206_57, r_206_60, r_206_61, Option.bind_some, Option.bind_none, Option.toList_some, Option.toList_none, List.cons_append, List.nil_append, Option.map_some, Option.map_none, eq_self, if_true, if_false, reduceIte, ai_bi_eq0, ai_bi_eq1, ai_pb_bi, ai_pb_0, ai_pb_1, show ¬ (0 : Int32) = 1 by decide]
  · by_cases c1 : x = 1
    · rw [fin (Or.inr c1)]
      subst c1
      simp only [r_206_0, r_206_1, r_206_2, r_206_3, r_206_6, r_206_9, r_206_11, r_206_12, r_206_13, r_206_14, r_206_15, r_206_17, r_206_19, r_206_22, r_206_23, r_206_24, r_206_27, r_206_28, r_206_29, r_206_32, r_206_35, r_206_36, r_206_39, r_206_40, r_206_41, r_206_44, r_206_47, r_206_48, r_206_49, r_206_52, r_206_53, r_206_54, r_206_57, r_206_60, r_206_61, Option.bind_some, Option.bind_none, Option.toList_some, Option.toList_none, List.cons_append, List.nil_append, Option.map_some, Option.map_none, eq_self, if_true, if_false, reduceIte, ai_bi_eq0, ai_bi_eq1, ai_pb_bi, ai_pb_0, ai_pb_1, m_deadMany h hk (show kb_bs (kb_dm B) 29 ≤ 30 by omega), c0]
    · simp only [e_206, o_185, r_206_0, r_206_1, r_206_2, r_206_3, r_206_6, r_206_9, r_206_11, r_206_12, r_206_13, r_206_14, r_206_15, r_206_17, r_206_19, r_206_22, r_206_23, r_206_24, r_206_27, r_206_28, r_206_29, r_206_32, r_206_35, r_206_36, r_206_39, r_206_40, r_206_41, r_206_44, r_206_47, r_206_48, r_206_49, r_206_52, r_206_53, r_206_54, r_206_57, r_206_60, r_206_61, Option.bind_some, Option.bind_none, Option.toList_some, Option.toList_none, List.cons_append, List.nil_append, Option.map_some, Option.map_none, eq_self, if_true, if_false, reduceIte, ai_bi_eq0, ai_bi_eq1, ai_pb_bi, ai_pb_0, ai_pb_1, m_isIn, ein, c0, c1, or_self, decide_false]
theorem m_suspect (h : kb_m (xm_s w) B) (hk : kb_ok B) (x y : Int32) : ai_Call 260 [.ref 185, .int x, .int y] (wl w) = some (some (.int (kb_q18 B x y)), wl w) := by
  have hn := hk.1
  unfold kb_q18
  by_cases c1 : ai_is (kb_n B) x = true
  · obtain ⟨o, ho, rfl⟩ := ai_is_of (by omega) c1
    have h3 := kb_d3 hk o
    have ho8 : o < 8 := by omega
    by_cases c2 : ai_is (kb_d B o) y = true
    · obtain ⟨d, hd, rfl⟩ := ai_is_of (by omega) c2
      have step : ∀ i, i < kb_n B → ∀ X, (∀ v, ai_Run 260 17 [.ref 185, .int (nI o), .int (nI d), .int (kb_su B o d (i + 1)).2, .int (nI (i + 1)), v] [] (wl w) = X) → ∀ v, ai_Run 260 17 [.ref 185, .int (nI o), .int (nI d), .int (kb_su B o d i).2, .int (nI i), v] [] (wl w) = X := by
        intro i hi X hX v
        have q1 : nI i < nI (kb_n B) := nI_lt hi (by omega)
        obtain ⟨a1, a2, a3⟩ := kb_su_inv (B := B) o d i
        have h9 := kb_su_le hk o d i
        have h99 := hk.2.2.2.2.2.2.2.2.1 i o
        rw [kb_su] at hX
        rw [r_260_17]
        by_cases q2 : kb_could B i o d = true
        · have hpos : 0 < kb_M B i o := by
            unfold kb_could at q2
            rw [Bool.and_eq_true, decide_eq_true_eq] at q2
            exact q2.1
          rcases Nat.eq_zero_or_pos (kb_su B o d i).1 with z | z
          · have e2 := a2 z
            rw [if_pos ⟨by omega, q2⟩] at hX
            simp only [r_260_0, r_260_1, r_260_2, r_260_3, r_260_6, r_260_9, r_260_10, r_260_11, r_260_13, r_260_14, r_260_15, r_260_19, r_260_20, r_260_23, r_260_24, r_260_25, r_260_28, r_260_29, r_260_31, r_260_32, r_260_33, r_260_36, r_260_39, r_260_40, r_260_42, r_260_45, r_260_46, r_260_48, r_260_49, r_260_52, r_260_53, r_260_54, r_260_55, r_260_58, r_260_61, r_260_62, r_260_65, r_260_66, r_260_68, r_260_70, r_260_73, r_260_75, r_260_78, r_260_79, r_260_80, r_260_83, r_260_86, r_260_87, Option.bind_some, Option.bind_none, Option.toList_some, Option.toList_none, List.cons_append, List.nil_append, Option.map_some, Option.map_none, eq_self, if_true, if_false, reduceIte, ai_bi_eq0, ai_bi_eq1, ai_pb_bi, ai_pb_0, ai_pb_1, f_185_0, mg_0, h.1, q1, m_could h hk (show i < 8 by omega) ho8 hd, q2, Bool.true_eq_false, e2, show ¬ (1 : Int32) = 0 by decide, nI_1]
            exact hX _
          · obtain ⟨j, b1, b2, b3, b4, b5⟩ := a3 z
            have e4 : ¬ nI j = (-4) := fun y => by
              have : (-4 : Int32) < 0 := by decide
              rw [← y] at this
              exact nI_pos (by omega) this
            by_cases q3 : (kb_su B o d i).1 < kb_M B i o
            · have q4 : nI (kb_M B j o) < nI (kb_M B i o) := nI_lt (by omega) (by omega)
              rw [if_pos ⟨q3, q2⟩] at hX
              simp only [r_260_0, r_260_1, r_260_2, r_260_3, r_260_6, r_260_9, r_260_10, r_260_11, r_260_13, r_260_14, r_260_15, r_260_19, r_260_20, r_260_23, r_260_24, r_260_25, r_260_28, r_260_29, r_260_31, r_260_32, r_260_33, r_260_36, r_260_39, r_260_40, r_260_42, r_260_45, r_260_46, r_260_48, r_260_49, r_260_52, r_260_53, r_260_54, r_260_55, r_260_58, r_260_61, r_260_62, r_260_65, r_260_66, r_260_68, r_260_70, r_260_73, r_260_75, r_260_78, r_260_79, r_260_80, r_260_83, r_260_86, r_260_87, Option.bind_some, Option.bind_none, Option.toList_some, Option.toList_none, List.cons_append, List.nil_append, Option.map_some, Option.map_none, eq_self, if_true, if_false, reduceIte, ai_bi_eq0, ai_bi_eq1, ai_pb_bi, ai_pb_0, ai_pb_1, f_185_0, mg_0, h.1, q1, m_could h hk (show i < 8 by omega) ho8 hd, q2, Bool.true_eq_false, b2, e4, m_pagesOf h (show i < 8 by omega) ho8, m_pagesOf h (show j < 8 by omega) ho8, q4, show ¬ (1 : Int32) = 0 by decide, nI_1]
              exact hX _
            · have q4 : ¬ nI (kb_M B j o) < nI (kb_M B i o) := nI_nlt (by omega) (by omega)
              rw [if_neg (fun y => q3 y.1)] at hX
              simp only [r_260_0, r_260_1, r_260_2, r_260_3, r_260_6, r_260_9, r_260_10, r_260_11, r_260_13, r_260_14, r_260_15, r_260_19, r_260_20, r_260_23, r_260_24, r_260_25, r_260_28, r_260_29, r_260_31, r_260_32, r_260_33, r_260_36, r_260_39, r_260_40, r_260_42, r_260_45, r_260_46, r_260_48, r_260_49, r_260_52, r_260_53, r_260_54, r_260_55, r_260_58, r_260_61, r_260_62, r_260_65, r_260_66, r_260_68, r_260_70, r_260_73, r_260_75, r_260_78, r_260_79, r_260_80, r_260_83, r_260_86, r_260_87, Option.bind_some, Option.bind_none, Option.toList_some, Option.toList_none, List.cons_append, List.nil_append, Option.map_some, Option.map_none, eq_self, if_true, if_false, reduceIte, ai_bi_eq0, ai_bi_eq1, ai_pb_bi, ai_pb_0, ai_pb_1, f_185_0, mg_0, h.1, q1, m_could h hk (show i < 8 by omega) ho8 hd, q2, Bool.true_eq_false, b2, e4, m_pagesOf h (show i < 8 by omega) ho8, m_pagesOf h (show j < 8 by omega) ho8, q4, nI_1] at hX ⊢
              exact hX _
        · have q2' : kb_could B i o d = false := by simpa using q2
          rw [if_neg (fun y => q2 y.2)] at hX
          simp only [r_260_0, r_260_1, r_260_2, r_260_3, r_260_6, r_260_9, r_260_10, r_260_11, r_260_13, r_260_14, r_260_15, r_260_19, r_260_20, r_260_23, r_260_24, r_260_25, r_260_28, r_260_29, r_260_31, r_260_32, r_260_33, r_260_36, r_260_39, r_260_40, r_260_42, r_260_45, r_260_46, r_260_48, r_260_49, r_260_52, r_260_53, r_260_54, r_260_55, r_260_58, r_260_61, r_260_62, r_260_65, r_260_66, r_260_68, r_260_70, r_260_73, r_260_75, r_260_78, r_260_79, r_260_80, r_260_83, r_260_86, r_260_87, Option.bind_some, Option.bind_none, Option.toList_some, Option.toList_none, List.cons_append, List.nil_append, Option.map_some, Option.map_none, eq_self, if_true, if_false, reduceIte, ai_bi_eq0, ai_bi_eq1, ai_pb_bi, ai_pb_0, ai_pb_1, f_185_0, mg_0, h.1, q1, m_could h hk (show i < 8 by omega) ho8 hd, q2', nI_1]
          exact hX _
      have loop : ∀ n i, i + n = kb_n B → ∀ v, ai_Run 260 17 [.ref 185, .int (nI o), .int (nI d), .int (kb_su B o d i).2, .int (nI i), v] [] (wl w) = some (some (.int (kb_su B o d (kb_n B)).2), wl w) := by
        intro n
        induction n with
        | zero =>
          intro i hi v
          have e0 : i = kb_n B := by omega
          subst e0
          have q1 : ¬ nI (kb_n B) < nI (kb_n B) := nI_nlt (Nat.le_refl _) (by omega)
          rw [r_260_17]
          simp only [r_260_0, r_260_1, r_260_2, r_260_3, r_260_6, r_260_9, r_260_10, r_260_11, r_260_13, r_260_14, r_260_15, r_260_19, r_260_20, r_260_23, r_260_24, r_260_25, r_260_28, r_260_29, r_260_31, r_260_32, r_260_33, r_260_36, r_260_39, r_260_40, r_260_42, r_260_45, r_260_46, r_260_48, r_260_49, r_260_52, r_260_53, r_260_54, r_260_55, r_260_58, r_260_61, r_260_62, r_260_65, r_260_66, r_260_68, r_260_70, r_260_73, r_260_75, r_260_78, r_260_79, r_260_80, r_260_83, r_260_86, r_260_87, Option.bind_some, Option.bind_none, Option.toList_some, Option.toList_none, List.cons_append, List.nil_append, Option.map_some, Option.map_none, eq_self, if_true, if_false, reduceIte, ai_bi_eq0, ai_bi_eq1, ai_pb_bi, ai_pb_0, ai_pb_1, f_185_0, mg_0, h.1, q1]
        | succ n ih =>
          intro i hi
          exact step i (by omega) _ (ih (i + 1) (by omega))
      rw [if_pos c1, nI_clamp (show o < 2 ^ 31 by omega), if_pos c2, nI_clamp (show d < 2 ^ 31 by omega)]
      have hd2 := m_isDeath h hk (nI o) (nI d)
      rw [nI_clamp (show o < 2 ^ 31 by omega), c1, c2] at hd2
      simp only [e_260, o_185, r_260_0, r_260_1, r_260_2, r_260_3, r_260_6, r_260_9, r_260_10, r_260_11, r_260_13, r_260_14, r_260_15, r_260_19, r_260_20, r_260_23, r_260_24, r_260_25, r_260_28, r_260_29, r_260_31, r_260_32, r_260_33, r_260_36, r_260_39, r_260_40, r_260_42, r_260_45, r_260_46, r_260_48, r_260_49, r_260_52, r_260_53, r_260_54, r_260_55, r_260_58, r_260_61, r_260_62, r_260_65, r_260_66, r_260_68, r_260_70, r_260_73, r_260_75, r_260_78, r_260_79, r_260_80, r_260_83, r_260_86, r_260_87, Option.bind_some, Option.bind_none, Option.toList_some, Option.toList_none, List.cons_append, List.nil_append, Option.map_some, Option.map_none, eq_self, if_true, if_false, reduceIte, ai_bi_eq0, ai_bi_eq1, ai_pb_bi, ai_pb_0, ai_pb_1, hd2, Bool.and_self, Bool.true_eq_false]
      exact loop (kb_n B) 0 (by omega) .null
    · have c2' : ai_is (kb_d B o) y = false := by simpa using c2
      have hd2 := m_isDeath h hk (nI o) y
      rw [nI_clamp (show o < 2 ^ 31 by omega), c1, c2'] at hd2
      rw [if_pos c1, nI_clamp (show o < 2 ^ 31 by omega), if_neg c2]
      simp only [e_260, o_185, r_260_0, r_260_1, r_260_2, r_260_3, r_260_6, r_260_9, r_260_10, r_260_11, r_260_13, r_260_14, r_260_15, r_260_19, r_260_20, r_260_23, r_260_24, r_260_25, r_260_28, r_260_29, r_260_31, r_260_32, r_260_33, r_260_36, r_260_39, r_260_40, r_260_42, r_260_45, r_260_46, r_260_48, r_260_49, r_260_52, r_260_53, r_260_54, r_260_55, r_260_58, r_260_61, r_260_62, r_260_65, r_260_66, r_260_68, r_260_70, r_260_73, r_260_75, r_260_78, r_260_79, r_260_80, r_260_83, r_260_86, r_260_87, Option.bind_some, Option.bind_none, Option.toList_some, Option.toList_none, List.cons_append, List.nil_append, Option.map_some, Option.map_none, eq_self, if_true, if_false, reduceIte, ai_bi_eq0, ai_bi_eq1, ai_pb_bi, ai_pb_0, ai_pb_1, hd2, Bool.and_false]
  · have c1' : ai_is (kb_n B) x = false := by simpa using c1
    have hd2 := m_isDeath h hk x y
    rw [c1'] at hd2
    rw [if_neg c1]
    simp only [e_260, o_185, r_260_0, r_260_1, r_260_2, r_260_3, r_260_6, r_260_9, r_260_10, r_260_11, r_260_13, r_260_14, r_260_15, r_260_19, r_260_20, r_260_23, r_260_24, r_260_25, r_260_28, r_260_29, r_260_31, r_260_32, r_260_33, r_260_36, r_260_39, r_260_40, r_260_42, r_260_45, r_260_46, r_260_48, r_260_49, r_260_52, r_260_53, r_260_54, r_260_55, r_260_58, r_260_61, r_260_62, r_260_65, r_260_66, r_260_68, r_260_70, r_260_73, r_260_75, r_260_78, r_260_79, r_260_80, r_260_83, r_260_86, r_260_87, Option.bind_some, Option.bind_none, Option.toList_some, Option.toList_none, List.cons_append, List.nil_append, Option.map_some, Option.map_none, eq_self, if_true, if_false, reduceIte, ai_bi_eq0, ai_bi_eq1, ai_pb_bi, ai_pb_0, ai_pb_1, hd2, Bool.false_and]
theorem m_suspectAgain (h : kb_m (xm_s w) B) (hk : kb_ok B) (x y : Int32) : ai_Call 261 [.ref 185, .int x, .int y] (wl w) = some (some (.int (kb_q18 B x y)), wl w) := by
  simp only [e_261, o_185, r_261_0, r_261_1, r_261_2, r_261_3, r_261_6, Option.bind_some, Option.bind_none, Option.toList_some, Option.toList_none, List.cons_append, List.nil_append, Option.map_some, Option.map_none, eq_self, if_true, if_false, reduceIte, ai_bi_eq0, ai_bi_eq1, ai_pb_bi, ai_pb_0, ai_pb_1, m_suspect h hk]
theorem m_isAhead (h : kb_m (xm_s w) B) (hk : kb_ok B) {kind i j : Nat} (hkd : kind < 4) (hi : i < kb_many B kind) (hj : j < kb_many B kind) : ai_Call 232 [.ref 185, .int (nI kind), .int (nI j), .int (nI i)] (wl w) = some (some (.int (ai_bi (kb_ah B kind j i))), wl w) := by
  have hm := kb_many8 hk kind
  have l1 := kb_by4_le hk kind i
  have l2 := kb_by4_le hk kind j
  have fin : ∀ a b : Nat, a ≤ 30 → b ≤ 30 → (a : Int) - b = (kb_by4 B kind j : Int) - kb_by4 B kind i → ai_Run 232 80 [.ref 185, .int (nI kind), .int (nI j), .int (nI i), .int (nI a - nI b)] [] (wl w) = some (some (.int (ai_bi (kb_ah B kind j i))), wl w) := by
    intro a b ha hb hab
    have hT : (nI a - nI b).toInt = (a : Int) - b := pk_sub_toInt (by omega) (by omega)
    have e0 : nI a - nI b = 0 ↔ kb_by4 B kind j = kb_by4 B kind i := by
      rw [← Int32.toInt_inj, hT]
      show (a : Int) - b = 0 ↔ _
      omega
    have e1 : 0 < nI a - nI b ↔ kb_by4 B kind i < kb_by4 B kind j := by
      rw [Int32.lt_iff_toInt_lt, hT]
      show (0 : Int) < (a : Int) - b ↔ _
      omega
    unfold kb_ah
    rcases Nat.lt_trichotomy (kb_by4 B kind i) (kb_by4 B kind j) with z | z | z
    · have z1 : ¬ nI a - nI b = 0 := fun y => by have := e0.mp y; omega
      have z2 : 0 < nI a - nI b := e1.mpr z
      simp only [r_232_0, r_232_1, r_232_3, r_232_4, r_232_7, r_232_8, r_232_9, r_232_12, r_232_13, r_232_14, r_232_17, r_232_18, r_232_20, r_232_23, r_232_24, r_232_25, r_232_28, r_232_29, r_232_30, r_232_33, r_232_34, r_232_35, r_232_38, r_232_39, r_232_41, r_232_44, r_232_45, r_232_46, r_232_49, r_232_50, r_232_51, r_232_54, r_232_55, r_232_56, r_232_59, r_232_60, r_232_62, r_232_65, r_232_66, r_232_67, r_232_68, r_232_71, r_232_72, r_232_73, r_232_74, r_232_77, r_232_78, r_232_80, r_232_82, r_232_85, r_232_87, r_232_90, r_232_91, r_232_94, r_232_95, r_232_98, r_232_99, r_232_100, r_232_103, r_232_104, r_232_107, r_232_108, Option.bind_some, Option.bind_none, Option.toList_some, Option.toList_none, List.cons_append, List.nil_append, Option.map_some, Option.map_none, eq_self, if_true, if_false, reduceIte, ai_bi_eq0, ai_bi_eq1, ai_pb_bi, ai_pb_0, ai_pb_1, z1, z2]
      rw [decide_eq_true (Or.inl z)]
      rfl
    · have z1 : nI a - nI b = 0 := e0.mpr z.symm
      by_cases y : j < i
      · have y2 : nI j < nI i := nI_lt y (by omega)
        simp only [r_232_0, r_232_1, r_232_3, r_232_4, r_232_7, r_232_8, r_232_9, r_232_12, r_232_13, r_232_14, r_232_17, r_232_18, r_232_20, r_232_23, r_232_24, r_232_25, r_232_28, r_232_29, r_232_30, r_232_33, r_232_34, r_232_35, r_232_38, r_232_39, r_232_41, r_232_44, r_232_45, r_232_46, r_232_49, r_232_50, r_232_51, r_232_54, r_232_55, r_232_56, r_232_59, r_232_60, r_232_62, r_232_65, r_232_66, r_232_67, r_232_68, r_232_71, r_232_72, r_232_73, r_232_74, r_232_77, r_232_78, r_232_80, r_232_82, r_232_85, r_232_87, r_232_90, r_232_91, r_232_94, r_232_95, r_232_98, r_232_99, r_232_100, r_232_103, r_232_104, r_232_107, r_232_108, Option.bind_some, Option.bind_none, Option.toList_some, Option.toList_none, List.cons_append, List.nil_append, Option.map_some, Option.map_none, eq_self, if_true, if_false, reduceIte, ai_bi_eq0, ai_bi_eq1, ai_pb_bi, ai_pb_0, ai_pb_1, z1, y2]
        rw [decide_eq_true (Or.inr ⟨z.symm, y⟩)]
        rfl
      · have y2 : ¬ nI j < nI i := nI_nlt (by omega) (by omega)
        simp only [r_232_0, r_232_1, r_232_3, r_232_4, r_232_7, r_232_8, r_232_9, r_232_12, r_232_13, r_232_14, r_232_17, r_232_18, r_232_20, r_232_23, r_232_24, r_232_25, r_232_28, r_232_29, r_232_30, r_232_33, r_232_34, r_232_35, r_232_38, r_232_39, r_232_41, r_232_44, r_232_45, r_232_46, r_232_49, r_232_50, r_232_51, r_232_54, r_232_55, r_232_56, r_232_59, r_232_60, r_232_62, r_232_65, r_232_66, r_232_67, r_232_68, r_232_71, r_232_72, r_232_73, r_232_74, r_232_77, r_232_78, r_232_80, r_232_82, r_232_85, r_232_87, r_232_90, r_232_91, r_232_94, r_232_95, r_232_98, r_232_99, r_232_100, r_232_103, r_232_104, r_232_107, r_232_108, Option.bind_some, Option.bind_none, Option.toList_some, Option.toList_none, List.cons_append, List.nil_append, Option.map_some, Option.map_none, eq_self, if_true, if_false, reduceIte, ai_bi_eq0, ai_bi_eq1, ai_pb_bi, ai_pb_0, ai_pb_1, z1, y2]
        rw [decide_eq_false (by omega)]
        rfl
    · have z1 : ¬ nI a - nI b = 0 := fun y => by have := e0.mp y; omega
      have z2 : ¬ 0 < nI a - nI b := fun y => by have := e1.mp y; omega
      simp only [r_232_0, r_232_1, r_232_3, r_232_4, r_232_7, r_232_8, r_232_9, r_232_12, r_232_13, r_232_14, r_232_17, r_232_18, r_232_20, r_232_23, r_232_24, r_232_25, r_232_28, r_232_29, r_232_30, r_232_33, r_232_34, r_232_35, r_232_38, r_232_39, r_232_41, r_232_44, r_232_45, r_232_46, r_232_49, r_232_50, r_232_51, r_232_54, r_232_55, r_232_56, r_232_59, r_232_60, r_232_62, r_232_65, r_232_66, r_232_67, r_232_68, r_232_71, r_232_72, r_232_73, r_232_74, r_232_77, r_232_78, r_232_80, r_232_82, r_232_85, r_232_87, r_232_90, r_232_91, r_232_94, r_232_95, r_232_98, r_232_99, r_232_100, r_232_103, r_232_104, r_232_107, r_232_108, Option.bind_some, Option.bind_none, Option.toList_some, Option.toList_none, List.cons_append, List.nil_append, Option.map_some, Option.map_none, eq_self, if_true, if_false, reduceIte, ai_bi_eq0, ai_bi_eq1, ai_pb_bi, ai_pb_0, ai_pb_1, z1, z2]
      rw [decide_eq_false (by omega)]
      rfl
  match kind, hkd with
  | 0, _ =>
    have := fin (kb_d B j) (kb_d B i) (by have := kb_d3 hk j; omega) (by have := kb_d3 hk i; omega) rfl
    have c0 : nI 0 = 0 := rfl
    simp only [e_232, o_185, r_232_0, r_232_1, r_232_3, r_232_4, r_232_7, r_232_8, r_232_9, r_232_12, r_232_13, r_232_14, r_232_17, r_232_18, r_232_20, r_232_23, r_232_24, r_232_25, r_232_28, r_232_29, r_232_30, r_232_33, r_232_34, r_232_35, r_232_38, r_232_39, r_232_41, r_232_44, r_232_45, r_232_46, r_232_49, r_232_50, r_232_51, r_232_54, r_232_55, r_232_56, r_232_59, r_232_60, r_232_62, r_232_65, r_232_66, r_232_67, r_232_68, r_232_71, r_232_72, r_232_73, r_232_74, r_232_77, r_232_78, r_232_80, r_232_82, r_232_85, r_232_87, r_232_90, r_232_91, r_232_94, r_232_95, r_232_98, r_232_99, r_232_100, r_232_103, r_232_104, r_232_107, r_232_108, Option.bind_some, Option.bind_none, Option.toList_some, Option.toList_none, List.cons_append, List.nil_append, Option.map_some, Option.map_none, eq_self, if_true, if_false, reduceIte, ai_bi_eq0, ai_bi_eq1, ai_pb_bi, ai_pb_0, ai_pb_1, c0, m_deathsOf h hk (show j < 8 by omega), m_deathsOf h hk (show i < 8 by omega)] at this ⊢
    exact this
  | 1, _ =>
    have hl1 := kb_lv_le B i
    have hl2 := kb_lv_le B j
    have := fin (kb_lv B i) (kb_lv B j) hl1 hl2 (by
      show _ = ((30 - kb_lv B j : Nat) : Int) - ((30 - kb_lv B i : Nat) : Int)
      omega)
    have c0 : nI 1 = 1 := rfl
    simp only [e_232, o_185, r_232_0, r_232_1, r_232_3, r_232_4, r_232_7, r_232_8, r_232_9, r_232_12, r_232_13, r_232_14, r_232_17, r_232_18, r_232_20, r_232_23, r_232_24, r_232_25, r_232_28, r_232_29, r_232_30, r_232_33, r_232_34, r_232_35, r_232_38, r_232_39, r_232_41, r_232_44, r_232_45, r_232_46, r_232_49, r_232_50, r_232_51, r_232_54, r_232_55, r_232_56, r_232_59, r_232_60, r_232_62, r_232_65, r_232_66, r_232_67, r_232_68, r_232_71, r_232_72, r_232_73, r_232_74, r_232_77, r_232_78, r_232_80, r_232_82, r_232_85, r_232_87, r_232_90, r_232_91, r_232_94, r_232_95, r_232_98, r_232_99, r_232_100, r_232_103, r_232_104, r_232_107, r_232_108, Option.bind_some, Option.bind_none, Option.toList_some, Option.toList_none, List.cons_append, List.nil_append, Option.map_some, Option.map_none, eq_self, if_true, if_false, reduceIte, ai_bi_eq0, ai_bi_eq1, ai_pb_bi, ai_pb_0, ai_pb_1, c0, show ¬ (1 : Int32) = 0 by decide, m_lives h hk (show j < 8 by omega), m_lives h hk (show i < 8 by omega)] at this ⊢
    exact this
  | 2, _ =>
    have := fin (kb_by4 B 2 j) (kb_by4 B 2 i) l2 l1 rfl
    have c0 : nI 2 = 2 := rfl
    have e1 : kb_by4 B 2 j = kb_ds B (fun a d => decide (kb_C B a d = nI j)) := rfl
    have e2 : kb_by4 B 2 i = kb_ds B (fun a d => decide (kb_C B a d = nI i)) := rfl
    rw [e1, e2] at this
    simp only [e_232, o_185, r_232_0, r_232_1, r_232_3, r_232_4, r_232_7, r_232_8, r_232_9, r_232_12, r_232_13, r_232_14, r_232_17, r_232_18, r_232_20, r_232_23, r_232_24, r_232_25, r_232_28, r_232_29, r_232_30, r_232_33, r_232_34, r_232_35, r_232_38, r_232_39, r_232_41, r_232_44, r_232_45, r_232_46, r_232_49, r_232_50, r_232_51, r_232_54, r_232_55, r_232_56, r_232_59, r_232_60, r_232_62, r_232_65, r_232_66, r_232_67, r_232_68, r_232_71, r_232_72, r_232_73, r_232_74, r_232_77, r_232_78, r_232_80, r_232_82, r_232_85, r_232_87, r_232_90, r_232_91, r_232_94, r_232_95, r_232_98, r_232_99, r_232_100, r_232_103, r_232_104, r_232_107, r_232_108, Option.bind_some, Option.bind_none, Option.toList_some, Option.toList_none, List.cons_append, List.nil_append, Option.map_some, Option.map_none, eq_self, if_true, if_false, reduceIte, ai_bi_eq0, ai_bi_eq1, ai_pb_bi, ai_pb_0, ai_pb_1, c0, show ¬ (2 : Int32) = 0 by decide, show ¬ (2 : Int32) = 1 by decide, m_culpritMany h hk] at this ⊢
    exact this
  | 3, _ =>
    have := fin (kb_by4 B 3 j) (kb_by4 B 3 i) l2 l1 rfl
    have c0 : nI 3 = 3 := rfl
    have e1 : kb_by4 B 3 j = kb_ds B (fun a d => decide (kb_W B (kb_E B a (2 * d)) = nI j)) := rfl
    have e2 : kb_by4 B 3 i = kb_ds B (fun a d => decide (kb_W B (kb_E B a (2 * d)) = nI i)) := rfl
    rw [e1, e2] at this
    simp only [e_232, o_185, r_232_0, r_232_1, r_232_3, r_232_4, r_232_7, r_232_8, r_232_9, r_232_12, r_232_13, r_232_14, r_232_17, r_232_18, r_232_20, r_232_23, r_232_24, r_232_25, r_232_28, r_232_29, r_232_30, r_232_33, r_232_34, r_232_35, r_232_38, r_232_39, r_232_41, r_232_44, r_232_45, r_232_46, r_232_49, r_232_50, r_232_51, r_232_54, r_232_55, r_232_56, r_232_59, r_232_60, r_232_62, r_232_65, r_232_66, r_232_67, r_232_68, r_232_71, r_232_72, r_232_73, r_232_74, r_232_77, r_232_78, r_232_80, r_232_82, r_232_85, r_232_87, r_232_90, r_232_91, r_232_94, r_232_95, r_232_98, r_232_99, r_232_100, r_232_103, r_232_104, r_232_107, r_232_108, Option.bind_some, Option.bind_none, Option.toList_some, Option.toList_none, List.cons_append, List.nil_append, Option.map_some, Option.map_none, eq_self, if_true, if_false, reduceIte, ai_bi_eq0, ai_bi_eq1, ai_pb_bi, ai_pb_0, ai_pb_1, c0, show ¬ (3 : Int32) = 0 by decide, show ¬ (3 : Int32) = 1 by decide, show ¬ (3 : Int32) = 2 by decide, m_deathsBy0 h hk] at this ⊢
    exact this
end MB
