/-! The reference's other commands. -/
section MB
variable {w : xw_W} {B : kb_B}
theorem m_rises (h : kb_m (xm_s w) B) (hk : kb_ok B) (x y : Int32) : km_is w (kc_rise B x y) (ai_Call 218 [.ref 185, .int x, .int y] (wl w)) := by
  have hn := hk.1
  unfold kc_rise
  by_cases c1 : ai_is (kb_n B) x = true
  · obtain ⟨c, hc, rfl⟩ := ai_is_of (by omega) c1
    have hc8 : c < 8 := by omega
    rw [if_pos c1, nI_clamp (show c < 2 ^ 31 by omega)]
    by_cases c2 : kb_ch y = true
    · obtain ⟨q, hq1, hq2, rfl⟩ := kb_ch_of c2
      rw [if_pos c2, nI_clamp (show q < 2 ^ 31 by omega)]
      by_cases c3 : kb_T B c % 2 = 1
      · rw [if_pos c3]
        have ec := m_isTooEarly h hk hc8 hq2
        unfold kc_turn
        by_cases c4 : q ≤ kb_la B c
        · rw [if_pos c4]
          rw [decide_eq_true (Or.inl c4), if_pos c4] at ec
          refine ⟨xm_s w, h, ?_⟩
          simp only [e_218, o_185, r_218_0, r_218_1, r_218_2, r_218_5, r_218_8, r_218_9, r_218_10, r_218_11, r_218_14, r_218_17, r_218_19, r_218_20, r_218_21, r_218_22, r_218_23, r_218_26, r_218_29, r_218_30, r_218_33, r_218_34, r_218_35, r_218_36, r_218_37, r_218_40, r_218_43, r_218_46, r_218_47, r_218_48, r_218_49, r_218_52, r_218_55, r_218_57, r_218_58, r_218_59, r_218_60, r_218_63, r_218_64, r_218_65, r_218_66, r_218_67, r_218_70, r_218_71, r_218_72, r_218_73, Option.bind_some, Option.bind_none, Option.toList_some, Option.toList_none, List.cons_append, List.nil_append, Option.map_some, Option.map_none, eq_self, if_true, if_false, reduceIte, ai_bi_eq0, ai_bi_eq1, ai_pb_bi, ai_pb_0, ai_pb_1, m_isCharacter h hk, c1, m_isChapter, c2, m_isDeadNow h hk hc8, c3, decide_true, Bool.true_eq_false, m_deathsOf h hk hc8, m_ref_f, ec]
        · rw [if_neg c4]
          rw [if_neg c4] at ec
          rw [if_neg (by omega)]
          rw [decide_eq_false (by omega), if_neg (by omega)] at ec
          have h6 := hk.2.2.1 c
          have hx := km_add h hk hc8 (show kb_T B c < 6 by omega) (q := q)
          have ea := m_adds h hc8 (show kb_T B c < 6 by omega) q
          have es : nI q - nI (kb_la B c) = nI (q - kb_la B c) := pk_sub (a := q) (b := kb_la B c) (by omega)
          refine ⟨_, hx, ?_⟩
          simp only [e_218, o_185, r_218_0, r_218_1, r_218_2, r_218_5, r_218_8, r_218_9, r_218_10, r_218_11, r_218_14, r_218_17, r_218_19, r_218_20, r_218_21, r_218_22, r_218_23, r_218_26, r_218_29, r_218_30, r_218_33, r_218_34, r_218_35, r_218_36, r_218_37, r_218_40, r_218_43, r_218_46, r_218_47, r_218_48, r_218_49, r_218_52, r_218_55, r_218_57, r_218_58, r_218_59, r_218_60, r_218_63, r_218_64, r_218_65, r_218_66, r_218_67, r_218_70, r_218_71, r_218_72, r_218_73, Option.bind_some, Option.bind_none, Option.toList_some, Option.toList_none, List.cons_append, List.nil_append, Option.map_some, Option.map_none, eq_self, if_true, if_false, reduceIte, ai_bi_eq0, ai_bi_eq1, ai_pb_bi, ai_pb_0, ai_pb_1, m_isCharacter h hk, c1, m_isChapter, c2, m_isDeadNow h hk hc8, c3, decide_true, Bool.true_eq_false, Bool.false_eq_true, m_deathsOf h hk hc8, m_ref_f, ec, m_last h hk hc8, ea, es]
          rfl
      · rw [if_neg c3]
        refine ⟨xm_s w, h, ?_⟩
        simp only [e_218, o_185, r_218_0, r_218_1, r_218_2, r_218_5, r_218_8, r_218_9, r_218_10, r_218_11, r_218_14, r_218_17, r_218_19, r_218_20, r_218_21, r_218_22, r_218_23, r_218_26, r_218_29, r_218_30, r_218_33, r_218_34, r_218_35, r_218_36, r_218_37, r_218_40, r_218_43, r_218_46, r_218_47, r_218_48, r_218_49, r_218_52, r_218_55, r_218_57, r_218_58, r_218_59, r_218_60, r_218_63, r_218_64, r_218_65, r_218_66, r_218_67, r_218_70, r_218_71, r_218_72, r_218_73, Option.bind_some, Option.bind_none, Option.toList_some, Option.toList_none, List.cons_append, List.nil_append, Option.map_some, Option.map_none, eq_self, if_true, if_false, reduceIte, ai_bi_eq0, ai_bi_eq1, ai_pb_bi, ai_pb_0, ai_pb_1, m_isCharacter h hk, c1, m_isChapter, c2, m_isDeadNow h hk hc8, c3, decide_false, Bool.true_eq_false, Bool.false_eq_true, m_deathsOf h hk hc8, m_ref_t, show ¬ (1 : Int32) = 0 by decide]
    · have c2' : kb_ch y = false := by simpa using c2
      rw [if_neg c2]
      refine ⟨xm_s w, h, ?_⟩
      simp only [e_218, o_185, r_218_0, r_218_1, r_218_2, r_218_5, r_218_8, r_218_9, r_218_10, r_218_11, r_218_14, r_218_17, r_218_19, r_218_20, r_218_21, r_218_22, r_218_23, r_218_26, r_218_29, r_218_30, r_218_33, r_218_34, r_218_35, r_218_36, r_218_37, r_218_40, r_218_43, r_218_46, r_218_47, r_218_48, r_218_49, r_218_52, r_218_55, r_218_57, r_218_58, r_218_59, r_218_60, r_218_63, r_218_64, r_218_65, r_218_66, r_218_67, r_218_70, r_218_71, r_218_72, r_218_73, Option.bind_some, Option.bind_none, Option.toList_some, Option.toList_none, List.cons_append, List.nil_append, Option.map_some, Option.map_none, eq_self, if_true, if_false, reduceIte, ai_bi_eq0, ai_bi_eq1, ai_pb_bi, ai_pb_0, ai_pb_1, m_isCharacter h hk, c1, m_isChapter, c2', Bool.true_eq_false, Bool.false_eq_true]
      rfl
  · have c1' : ai_is (kb_n B) x = false := by simpa using c1
    rw [if_neg c1]
    refine ⟨xm_s w, h, ?_⟩
    simp only [e_218, o_185, r_218_0, r_218_1, r_218_2, r_218_5, r_218_8, r_218_9, r_218_10, r_218_11, r_218_14, r_218_17, r_218_19, r_218_20, r_218_21, r_218_22, r_218_23, r_218_26, r_218_29, r_218_30, r_218_33, r_218_34, r_218_35, r_218_36, r_218_37, r_218_40, r_218_43, r_218_46, r_218_47, r_218_48, r_218_49, r_218_52, r_218_55, r_218_57, r_218_58, r_218_59, r_218_60, r_218_63, r_218_64, r_218_65, r_218_66, r_218_67, r_218_70, r_218_71, r_218_72, r_218_73, Option.bind_some, Option.bind_none, Option.toList_some, Option.toList_none, List.cons_append, List.nil_append, Option.map_some, Option.map_none, eq_self, if_true, if_false, reduceIte, ai_bi_eq0, ai_bi_eq1, ai_pb_bi, ai_pb_0, ai_pb_1, m_isCharacter h hk, c1', Bool.true_eq_false, Bool.false_eq_true]
    rfl
theorem m_strikes (h : kb_m (xm_s w) B) (hk : kb_ok B) (x : Int32) : km_is w (kc_strike B x) (ai_Call 219 [.ref 185, .int x] (wl w)) := by
  have hn := hk.1
  unfold kc_strike
  by_cases c1 : ai_is (kb_n B) x = true
  · obtain ⟨c, hc, rfl⟩ := ai_is_of (by omega) c1
    have hc8 : c < 8 := by omega
    have h6 := hk.2.2.1 c
    rw [if_pos c1, nI_clamp (show c < 2 ^ 31 by omega)]
    by_cases c2 : kb_T B c = 0
    · rw [if_pos c2]
      have e1 : nI (kb_T B c) = 0 := by rw [c2]; rfl
      refine ⟨xm_s w, h, ?_⟩
      simp only [e_219, o_185, r_219_0, r_219_1, r_219_2, r_219_5, r_219_8, r_219_9, r_219_10, r_219_11, r_219_12, r_219_13, r_219_16, r_219_17, r_219_18, r_219_19, r_219_22, r_219_23, r_219_26, r_219_27, r_219_28, r_219_29, r_219_32, r_219_35, r_219_37, r_219_38, r_219_39, r_219_40, r_219_43, r_219_44, r_219_45, r_219_46, r_219_49, r_219_52, r_219_53, r_219_54, r_219_56, r_219_57, r_219_58, r_219_61, r_219_62, r_219_63, r_219_64, r_219_66, r_219_69, r_219_70, r_219_71, r_219_72, r_219_73, r_219_74, r_219_75, r_219_76, r_219_77, r_219_80, r_219_81, r_219_82, r_219_83, r_219_84, r_219_85, r_219_86, r_219_89, r_219_90, Option.bind_some, Option.bind_none, Option.toList_some, Option.toList_none, List.cons_append, List.nil_append, Option.map_some, Option.map_none, eq_self, if_true, if_false, reduceIte, ai_bi_eq0, ai_bi_eq1, ai_pb_bi, ai_pb_0, ai_pb_1, m_isCharacter h hk, c1, m_T h hc8, e1, m_ref_t, Bool.true_eq_false, show ¬ (1 : Int32) = 0 by decide]
    · rw [if_neg c2]
      have e1 : ¬ nI (kb_T B c) = 0 := fun z => c2 ((nI_eq (a := kb_T B c) (b := 0) (by omega) (by decide)).mp z)
      obtain ⟨k, hk2⟩ : ∃ k, kb_T B c = k + 1 := ⟨kb_T B c - 1, by omega⟩
      have ek : kb_T B c - 1 = k := by omega
      have e2 : nI (1 + kb_T B c) - 1 = nI (1 + k) := by rw [show 1 + kb_T B c = 1 + k + 1 by omega]; exact s_1 _
      have e3 : nI (kb_T B c) - 1 = nI k := by rw [hk2]; exact s_1 _
      by_cases z : kb_T B c % 2 = 1
      · have ed : nI (7 + kb_d B c) - 1 = nI (7 + kb_T B c / 2) := by
          rw [show 7 + kb_d B c = 7 + kb_T B c / 2 + 1 by unfold kb_d; omega]
          exact s_1 _
        have h1 := km_C h hk hc8 (show kb_T B c / 2 < 3 by omega) (-4)
        have ep1 := m_sets w hc8 (show 7 + kb_T B c / 2 < 10 by omega) (-4)
        have hk1 : kb_T (kb_setC B c (kb_T B c / 2) (-4)) c = k + 1 := hk2
        have u : kb_tk B c = kb_setT (kb_setC B c (kb_T B c / 2) (-4)) c k := by
          unfold kb_tk
          rw [if_pos z, ek]
        rw [u]
        have hx : kb_m (upd (upd (upd (xm_s w) (109 + c * 10 + (7 + kb_T B c / 2)) (-4)) (109 + c * 10 + (1 + k)) 0) (109 + c * 10 + 0) (nI k)) (kb_setT (kb_setC B c (kb_T B c / 2) (-4)) c k) := by
          have ok2 : ∀ i, kb_T (kb_setC B c (kb_T B c / 2) (-4)) i ≤ 6 := hk.2.2.1
          exact km_T' h1 ok2 hk.1 hc8 hk1 0
        refine ⟨_, hx, ?_⟩
        simp only [e_219, o_185, r_219_0, r_219_1, r_219_2, r_219_5, r_219_8, r_219_9, r_219_10, r_219_11, r_219_12, r_219_13, r_219_16, r_219_17, r_219_18, r_219_19, r_219_22, r_219_23, r_219_26, r_219_27, r_219_28, r_219_29, r_219_32, r_219_35, r_219_37, r_219_38, r_219_39, r_219_40, r_219_43, r_219_44, r_219_45, r_219_46, r_219_49, r_219_52, r_219_53, r_219_54, r_219_56, r_219_57, r_219_58, r_219_61, r_219_62, r_219_63, r_219_64, r_219_66, r_219_69, r_219_70, r_219_71, r_219_72, r_219_73, r_219_74, r_219_75, r_219_76, r_219_77, r_219_80, r_219_81, r_219_82, r_219_83, r_219_84, r_219_85, r_219_86, r_219_89, r_219_90, Option.bind_some, Option.bind_none, Option.toList_some, Option.toList_none, List.cons_append, List.nil_append, Option.map_some, Option.map_none, eq_self, if_true, if_false, reduceIte, ai_bi_eq0, ai_bi_eq1, ai_pb_bi, ai_pb_0, ai_pb_1, m_isCharacter h hk, c1, m_T h hc8, e1, m_ref_f, Bool.true_eq_false, m_last h hk hc8, m_isDeadNow h hk hc8, z, decide_true, m_deathsOf h hk hc8, a_7, ed, ep1, a_1, e2, m_sets _ hc8 (show 1 + k < 10 by omega), e3, m_sets0 _ hc8]
        rfl
      · have u : kb_tk B c = kb_setT B c k := by
          unfold kb_tk
          rw [if_neg z, ek]
        rw [u]
        refine ⟨_, km_T h hk hc8 hk2 0, ?_⟩
        simp only [e_219, o_185, r_219_0, r_219_1, r_219_2, r_219_5, r_219_8, r_219_9, r_219_10, r_219_11, r_219_12, r_219_13, r_219_16, r_219_17, r_219_18, r_219_19, r_219_22, r_219_23, r_219_26, r_219_27, r_219_28, r_219_29, r_219_32, r_219_35, r_219_37, r_219_38, r_219_39, r_219_40, r_219_43, r_219_44, r_219_45, r_219_46, r_219_49, r_219_52, r_219_53, r_219_54, r_219_56, r_219_57, r_219_58, r_219_61, r_219_62, r_219_63, r_219_64, r_219_66, r_219_69, r_219_70, r_219_71, r_219_72, r_219_73, r_219_74, r_219_75, r_219_76, r_219_77, r_219_80, r_219_81, r_219_82, r_219_83, r_219_84, r_219_85, r_219_86, r_219_89, r_219_90, Option.bind_some, Option.bind_none, Option.toList_some, Option.toList_none, List.cons_append, List.nil_append, Option.map_some, Option.map_none, eq_self, if_true, if_false, reduceIte, ai_bi_eq0, ai_bi_eq1, ai_pb_bi, ai_pb_0, ai_pb_1, m_isCharacter h hk, c1, m_T h hc8, e1, m_ref_f, Bool.true_eq_false, Bool.false_eq_true, m_last h hk hc8, m_isDeadNow h hk hc8, z, decide_false, a_1, e2, m_sets _ hc8 (show 1 + k < 10 by omega), e3, m_sets0 _ hc8]
        rfl
  · have c1' : ai_is (kb_n B) x = false := by simpa using c1
    rw [if_neg c1]
    refine ⟨xm_s w, h, ?_⟩
    simp only [e_219, o_185, r_219_0, r_219_1, r_219_2, r_219_5, r_219_8, r_219_9, r_219_10, r_219_11, r_219_12, r_219_13, r_219_16, r_219_17, r_219_18, r_219_19, r_219_22, r_219_23, r_219_26, r_219_27, r_219_28, r_219_29, r_219_32, r_219_35, r_219_37, r_219_38, r_219_39, r_219_40, r_219_43, r_219_44, r_219_45, r_219_46, r_219_49, r_219_52, r_219_53, r_219_54, r_219_56, r_219_57, r_219_58, r_219_61, r_219_62, r_219_63, r_219_64, r_219_66, r_219_69, r_219_70, r_219_71, r_219_72, r_219_73, r_219_74, r_219_75, r_219_76, r_219_77, r_219_80, r_219_81, r_219_82, r_219_83, r_219_84, r_219_85, r_219_86, r_219_89, r_219_90, Option.bind_some, Option.bind_none, Option.toList_some, Option.toList_none, List.cons_append, List.nil_append, Option.map_some, Option.map_none, eq_self, if_true, if_false, reduceIte, ai_bi_eq0, ai_bi_eq1, ai_pb_bi, ai_pb_0, ai_pb_1, m_isCharacter h hk, c1', Bool.true_eq_false, Bool.false_eq_true]
    rfl
theorem m_writes (h : kb_m (xm_s w) B) (hk : kb_ok B) (x y : Int32) : km_is w (kc_write B x y) (ai_Call 220 [.ref 185, .int x, .int y] (wl w)) := by
  unfold kc_write
  by_cases c1 : ai_is (kb_a B) y = true
  · rw [if_pos c1]
    by_cases c2 : kb_ch x = true
    · obtain ⟨q, hq1, hq2, rfl⟩ := kb_ch_of c2
      rw [if_pos c2, nI_clamp (show q < 2 ^ 31 by omega)]
      by_cases c3 : kb_W B q = y
      · rw [if_pos c3]
        refine ⟨xm_s w, h, ?_⟩
        simp only [e_220, o_185, r_220_0, r_220_1, r_220_2, r_220_5, r_220_8, r_220_9, r_220_10, r_220_11, r_220_14, r_220_17, r_220_19, r_220_20, r_220_21, r_220_24, r_220_25, r_220_26, r_220_27, r_220_28, r_220_29, r_220_30, r_220_31, r_220_32, r_220_35, r_220_36, r_220_39, r_220_40, r_220_41, r_220_42, r_220_45, r_220_48, r_220_50, r_220_51, r_220_52, r_220_55, r_220_56, r_220_57, r_220_58, r_220_59, r_220_60, r_220_61, Option.bind_some, Option.bind_none, Option.toList_some, Option.toList_none, List.cons_append, List.nil_append, Option.map_some, Option.map_none, eq_self, if_true, if_false, reduceIte, ai_bi_eq0, ai_bi_eq1, ai_pb_bi, ai_pb_0, ai_pb_1, m_isAuthor h hk, c1, m_isChapter, c2, f_185_0, a_3, m_W h hq2, c3, Bool.true_eq_false, m_ref_t, show ¬ (1 : Int32) = 0 by decide]
      · rw [if_neg c3]
        refine ⟨_, km_W h hk hq2 y, ?_⟩
        simp only [e_220, o_185, r_220_0, r_220_1, r_220_2, r_220_5, r_220_8, r_220_9, r_220_10, r_220_11, r_220_14, r_220_17, r_220_19, r_220_20, r_220_21, r_220_24, r_220_25, r_220_26, r_220_27, r_220_28, r_220_29, r_220_30, r_220_31, r_220_32, r_220_35, r_220_36, r_220_39, r_220_40, r_220_41, r_220_42, r_220_45, r_220_48, r_220_50, r_220_51, r_220_52, r_220_55, r_220_56, r_220_57, r_220_58, r_220_59, r_220_60, r_220_61, Option.bind_some, Option.bind_none, Option.toList_some, Option.toList_none, List.cons_append, List.nil_append, Option.map_some, Option.map_none, eq_self, if_true, if_false, reduceIte, ai_bi_eq0, ai_bi_eq1, ai_pb_bi, ai_pb_0, ai_pb_1, m_isAuthor h hk, c1, m_isChapter, c2, f_185_0, a_3, m_W h hq2, c3, Bool.true_eq_false, m_ref_f, ms w (show 3 + q < 189 by omega)]
        rfl
    · have c2' : kb_ch x = false := by simpa using c2
      rw [if_neg c2]
      refine ⟨xm_s w, h, ?_⟩
      simp only [e_220, o_185, r_220_0, r_220_1, r_220_2, r_220_5, r_220_8, r_220_9, r_220_10, r_220_11, r_220_14, r_220_17, r_220_19, r_220_20, r_220_21, r_220_24, r_220_25, r_220_26, r_220_27, r_220_28, r_220_29, r_220_30, r_220_31, r_220_32, r_220_35, r_220_36, r_220_39, r_220_40, r_220_41, r_220_42, r_220_45, r_220_48, r_220_50, r_220_51, r_220_52, r_220_55, r_220_56, r_220_57, r_220_58, r_220_59, r_220_60, r_220_61, Option.bind_some, Option.bind_none, Option.toList_some, Option.toList_none, List.cons_append, List.nil_append, Option.map_some, Option.map_none, eq_self, if_true, if_false, reduceIte, ai_bi_eq0, ai_bi_eq1, ai_pb_bi, ai_pb_0, ai_pb_1, m_isAuthor h hk, c1, m_isChapter, c2', Bool.true_eq_false, Bool.false_eq_true]
      rfl
  · have c1' : ai_is (kb_a B) y = false := by simpa using c1
    rw [if_neg c1]
    refine ⟨xm_s w, h, ?_⟩
    simp only [e_220, o_185, r_220_0, r_220_1, r_220_2, r_220_5, r_220_8, r_220_9, r_220_10, r_220_11, r_220_14, r_220_17, r_220_19, r_220_20, r_220_21, r_220_24, r_220_25, r_220_26, r_220_27, r_220_28, r_220_29, r_220_30, r_220_31, r_220_32, r_220_35, r_220_36, r_220_39, r_220_40, r_220_41, r_220_42, r_220_45, r_220_48, r_220_50, r_220_51, r_220_52, r_220_55, r_220_56, r_220_57, r_220_58, r_220_59, r_220_60, r_220_61, Option.bind_some, Option.bind_none, Option.toList_some, Option.toList_none, List.cons_append, List.nil_append, Option.map_some, Option.map_none, eq_self, if_true, if_false, reduceIte, ai_bi_eq0, ai_bi_eq1, ai_pb_bi, ai_pb_0, ai_pb_1, m_isAuthor h hk, c1', Bool.true_eq_false, Bool.false_eq_true]
    rfl
theorem in3_01 (y : Int32) : ai_in3 y 0 1 = decide (y = 0 ∨ y = 1) := by
  rw [show (1 : Int32) = nI 2 - 1 by decide, ai_in3_is (by decide)]
  unfold ai_is
  rw [decide_eq_decide]
  constructor
  · intro z
    obtain ⟨j, hj, rfl⟩ := nI_of z.1
    have := (nI_ltI hj (by decide)).mp z.2
    rcases (show j = 0 ∨ j = 1 by omega) with rfl | rfl
    · exact Or.inl rfl
    · exact Or.inr (by decide)
  · rintro (rfl | rfl) <;> decide
theorem m_swears (h : kb_m (xm_s w) B) (hk : kb_ok B) (x y : Int32) : km_is w (kc_swear B x y) (ai_Call 221 [.ref 185, .int x, .int y] (wl w)) := by
  have ha := hk.2.1
  unfold kc_swear
  by_cases c1 : ai_is (kb_a B) x = true
  · obtain ⟨i, hi, rfl⟩ := ai_is_of (by omega) c1
    have hi4 : i < 4 := by omega
    rw [if_pos c1, nI_clamp (show i < 2 ^ 31 by omega)]
    by_cases c2 : y = 0 ∨ y = 1
    · rw [if_pos c2]
      by_cases c3 : nI (kb_S B i) = y
      · rw [if_pos c3]
        refine ⟨xm_s w, h, ?_⟩
        simp only [e_221, o_185, r_221_0, r_221_1, r_221_2, r_221_5, r_221_8, r_221_9, r_221_10, r_221_11, r_221_12, r_221_13, r_221_16, r_221_19, r_221_21, r_221_22, r_221_23, r_221_24, r_221_27, r_221_29, r_221_30, r_221_31, r_221_32, r_221_33, r_221_36, r_221_37, r_221_40, r_221_41, r_221_42, r_221_43, r_221_46, r_221_49, r_221_51, r_221_52, r_221_53, r_221_56, r_221_58, r_221_59, r_221_60, r_221_61, r_221_62, r_221_63, r_221_66, Option.bind_some, Option.bind_none, Option.toList_some, Option.toList_none, List.cons_append, List.nil_append, Option.map_some, Option.map_none, eq_self, if_true, if_false, reduceIte, ai_bi_eq0, ai_bi_eq1, ai_pb_bi, ai_pb_0, ai_pb_1, m_isAuthor h hk, c1, m_isIn, in3_01, c2, decide_true, f_185_0, a_34, m_S h hi4, c3, Bool.true_eq_false, m_ref_t, show ¬ (1 : Int32) = 0 by decide]
      · rw [if_neg c3]
        obtain ⟨v, hv, rfl⟩ : ∃ v, v ≤ 1 ∧ y = nI v := by
          rcases c2 with rfl | rfl
          · exact ⟨0, by decide, rfl⟩
          · exact ⟨1, by decide, rfl⟩
        rw [nI_clamp (show v < 2 ^ 31 by omega)]
        have hx := km_S h hi4 v
        have ep := ms w (show 34 + i < 189 by omega) (nI v)
        refine ⟨_, hx, ?_⟩
        have hx2 := hx
        generalize upd (xm_s w) (34 + i) (nI v) = s2 at ep hx2 ⊢
        have es := m_swornMany (w := xm_ws w s2) hx2 (ok_S hk hv)
        simp only [e_221, o_185, r_221_0, r_221_1, r_221_2, r_221_5, r_221_8, r_221_9, r_221_10, r_221_11, r_221_12, r_221_13, r_221_16, r_221_19, r_221_21, r_221_22, r_221_23, r_221_24, r_221_27, r_221_29, r_221_30, r_221_31, r_221_32, r_221_33, r_221_36, r_221_37, r_221_40, r_221_41, r_221_42, r_221_43, r_221_46, r_221_49, r_221_51, r_221_52, r_221_53, r_221_56, r_221_58, r_221_59, r_221_60, r_221_61, r_221_62, r_221_63, r_221_66, Option.bind_some, Option.bind_none, Option.toList_some, Option.toList_none, List.cons_append, List.nil_append, Option.map_some, Option.map_none, eq_self, if_true, if_false, reduceIte, ai_bi_eq0, ai_bi_eq1, ai_pb_bi, ai_pb_0, ai_pb_1, m_isAuthor h hk, c1, m_isIn, in3_01, c2, decide_true, f_185_0, a_34, m_S h hi4, c3, Bool.true_eq_false, m_ref_f, ep, es]
        rfl
    · rw [if_neg c2]
      refine ⟨xm_s w, h, ?_⟩
      simp only [e_221, o_185, r_221_0, r_221_1, r_221_2, r_221_5, r_221_8, r_221_9, r_221_10, r_221_11, r_221_12, r_221_13, r_221_16, r_221_19, r_221_21, r_221_22, r_221_23, r_221_24, r_221_27, r_221_29, r_221_30, r_221_31, r_221_32, r_221_33, r_221_36, r_221_37, r_221_40, r_221_41, r_221_42, r_221_43, r_221_46, r_221_49, r_221_51, r_221_52, r_221_53, r_221_56, r_221_58, r_221_59, r_221_60, r_221_61, r_221_62, r_221_63, r_221_66, Option.bind_some, Option.bind_none, Option.toList_some, Option.toList_none, List.cons_append, List.nil_append, Option.map_some, Option.map_none, eq_self, if_true, if_false, reduceIte, ai_bi_eq0, ai_bi_eq1, ai_pb_bi, ai_pb_0, ai_pb_1, m_isAuthor h hk, c1, m_isIn, in3_01, c2, decide_false, Bool.true_eq_false, Bool.false_eq_true]
      rfl
  · have c1' : ai_is (kb_a B) x = false := by simpa using c1
    rw [if_neg c1]
    refine ⟨xm_s w, h, ?_⟩
    simp only [e_221, o_185, r_221_0, r_221_1, r_221_2, r_221_5, r_221_8, r_221_9, r_221_10, r_221_11, r_221_12, r_221_13, r_221_16, r_221_19, r_221_21, r_221_22, r_221_23, r_221_24, r_221_27, r_221_29, r_221_30, r_221_31, r_221_32, r_221_33, r_221_36, r_221_37, r_221_40, r_221_41, r_221_42, r_221_43, r_221_46, r_221_49, r_221_51, r_221_52, r_221_53, r_221_56, r_221_58, r_221_59, r_221_60, r_221_61, r_221_62, r_221_63, r_221_66, Option.bind_some, Option.bind_none, Option.toList_some, Option.toList_none, List.cons_append, List.nil_append, Option.map_some, Option.map_none, eq_self, if_true, if_false, reduceIte, ai_bi_eq0, ai_bi_eq1, ai_pb_bi, ai_pb_0, ai_pb_1, m_isAuthor h hk, c1', Bool.true_eq_false, Bool.false_eq_true]
    rfl
end MB
