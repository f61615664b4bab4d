/-! The reference's questions. -/
section MB
variable {w : xw_W} {B : kb_B}
theorem m_characterOf (h : kb_m (xm_s w) B) (hk : kb_ok B) (x k : Int32) : ai_Call 204 [.ref 185, .int x, .int k] (wl w) = some (some (.int (kb_q11 B x k)), wl w) := by
  have hn := hk.1
  unfold kb_q11
  by_cases c1 : ai_is (kb_n B) x = true
  · obtain ⟨c, hc, rfl⟩ := ai_is_of (by omega) c1
    have hc8 : c < 8 := by omega
    rw [if_pos c1, nI_clamp (show c < 2 ^ 31 by omega)]
    by_cases k5 : k = 5
    · subst k5
      simp only [e_204, o_185, r_204_0, r_204_1, r_204_2, r_204_5, r_204_8, r_204_9, r_204_10, r_204_11, r_204_52, r_204_53, r_204_54, r_204_57, r_204_58, r_204_59, r_204_60, r_204_63, r_204_64, r_204_65, r_204_66, r_204_69, r_204_70, r_204_71, r_204_72, r_204_75, r_204_76, r_204_77, r_204_78, r_204_81, r_204_82, r_204_83, r_204_84, r_204_85, r_204_87, r_204_90, r_204_91, r_204_94, r_204_95, r_204_98, r_204_99, r_204_101, Option.bind_some, Option.bind_none, Option.toList_some, Option.toList_none, List.cons_append, List.nil_append, Option.map_some, Option.map_none, eq_self, if_true, if_false, reduceIte, ai_bi_eq0, ai_bi_eq1, ai_pb_bi, ai_pb_0, ai_pb_1, m_isCharacter h hk, c1, Bool.true_eq_false, m_motives0 h hk hc8, show ¬ (5 : Int32) = 6 by decide, show ¬ (5 : Int32) = 0 by decide, show ¬ (5 : Int32) = 1 by decide, show ¬ (5 : Int32) = 2 by decide, show ¬ (5 : Int32) = 3 by decide, show ¬ (5 : Int32) = 4 by decide]
    · by_cases k6 : k = 6
      · subst k6
        simp only [e_204, o_185, r_204_0, r_204_1, r_204_2, r_204_5, r_204_8, r_204_9, r_204_10, r_204_11, r_204_52, r_204_53, r_204_54, r_204_57, r_204_58, r_204_59, r_204_60, r_204_63, r_204_64, r_204_65, r_204_66, r_204_69, r_204_70, r_204_71, r_204_72, r_204_75, r_204_76, r_204_77, r_204_78, r_204_81, r_204_82, r_204_83, r_204_84, r_204_85, r_204_87, r_204_90, r_204_91, r_204_94, r_204_95, r_204_98, r_204_99, r_204_101, Option.bind_some, Option.bind_none, Option.toList_some, Option.toList_none, List.cons_append, List.nil_append, Option.map_some, Option.map_none, eq_self, if_true, if_false, reduceIte, ai_bi_eq0, ai_bi_eq1, ai_pb_bi, ai_pb_0, ai_pb_1, m_isCharacter h hk, c1, Bool.true_eq_false, m_motives1 h hk hc8, show ¬ (6 : Int32) = 5 by decide, show ¬ (6 : Int32) = 0 by decide, show ¬ (6 : Int32) = 1 by decide, show ¬ (6 : Int32) = 2 by decide, show ¬ (6 : Int32) = 3 by decide, show ¬ (6 : Int32) = 4 by decide]
      · simp only [e_204, o_185, r_204_0, r_204_1, r_204_2, r_204_5, r_204_8, r_204_9, r_204_10, r_204_11, r_204_52, r_204_53, r_204_54, r_204_57, r_204_58, r_204_59, r_204_60, r_204_63, r_204_64, r_204_65, r_204_66, r_204_69, r_204_70, r_204_71, r_204_72, r_204_75, r_204_76, r_204_77, r_204_78, r_204_81, r_204_82, r_204_83, r_204_84, r_204_85, r_204_87, r_204_90, r_204_91, r_204_94, r_204_95, r_204_98, r_204_99, r_204_101, Option.bind_some, Option.bind_none, Option.toList_some, Option.toList_none, List.cons_append, List.nil_append, Option.map_some, Option.map_none, eq_self, if_true, if_false, reduceIte, ai_bi_eq0, ai_bi_eq1, ai_pb_bi, ai_pb_0, ai_pb_1, k5, k6, m_isCharacter h hk, c1, Bool.true_eq_false, m_deathsOf h hk hc8, m_risingsOf h hk hc8, m_lives h hk hc8, m_solvedOf h hk hc, m_culpritMany h hk]
        (repeat' split) <;> first | rfl | contradiction
  · have c1' : ai_is (kb_n B) x = false := by simpa using c1
    simp only [e_204, o_185, r_204_0, r_204_1, r_204_2, r_204_5, r_204_8, r_204_9, r_204_10, r_204_11, r_204_52, r_204_53, r_204_54, r_204_57, r_204_58, r_204_59, r_204_60, r_204_63, r_204_64, r_204_65, r_204_66, r_204_69, r_204_70, r_204_71, r_204_72, r_204_75, r_204_76, r_204_77, r_204_78, r_204_81, r_204_82, r_204_83, r_204_84, r_204_85, r_204_87, r_204_90, r_204_91, r_204_94, r_204_95, r_204_98, r_204_99, r_204_101, Option.bind_some, Option.bind_none, Option.toList_some, Option.toList_none, List.cons_append, List.nil_append, Option.map_some, Option.map_none, eq_self, if_true, if_false, reduceIte, ai_bi_eq0, ai_bi_eq1, ai_pb_bi, ai_pb_0, ai_pb_1, m_isCharacter h hk, c1', Bool.false_eq_true]
theorem m_deathOf (h : kb_m (xm_s w) B) (hk : kb_ok B) (x d k : Int32) : ai_Call 212 [.ref 185, .int x, .int d, .int k] (wl w) = some (some (.int (kb_q12 B x d k)), wl w) := by
  have hn := hk.1
  unfold kb_q12
  by_cases c1 : ai_is (kb_n B) x = true
  · obtain ⟨c, hc, rfl⟩ := ai_is_of (by omega) c1
    have hc8 : c < 8 := by omega
    have hm := m_isDeath h hk (nI c) d
    rw [nI_clamp (show c < 2 ^ 31 by omega), c1] at hm
    rw [if_pos c1, nI_clamp (show c < 2 ^ 31 by omega)]
    have h3 := kb_d3 hk c
    by_cases c2 : ai_is (kb_d B c) d = true
    · obtain ⟨j, hj, rfl⟩ := ai_is_of (by omega) c2
      have he := hk.2.2.2.2.1 c (2 * j) (by unfold kb_d at hj; omega)
      have hT := hk.2.2.1 c
      rw [if_pos c2, nI_clamp (show j < 2 ^ 31 by omega)]
      rw [c2] at hm
      by_cases c4 : 2 * j + 1 < kb_T B c
      · have d1 : nI j < nI (kb_T B c / 2) := nI_lt (by omega) (by omega)
        have e1 : ai_Call 165 [.ref 185, .int (nI c), .int (nI (1 + 2 * j + 1))] (wl w) = some (some (.int (nI (kb_E B c (2 * j + 1)))), wl w) := by
          rw [show 1 + 2 * j + 1 = 1 + (2 * j + 1) by omega]
          exact m_E h hk hc8 c4
        simp only [e_212, o_185, f_185_0, r_212_0, r_212_1, r_212_2, r_212_3, r_212_6, r_212_9, r_212_10, r_212_11, r_212_12, r_212_48, r_212_49, r_212_50, r_212_51, r_212_54, r_212_55, r_212_56, r_212_57, r_212_58, r_212_61, r_212_62, r_212_63, r_212_66, r_212_67, r_212_68, r_212_69, r_212_70, r_212_73, r_212_74, r_212_75, r_212_76, r_212_77, r_212_78, r_212_79, r_212_82, r_212_83, r_212_84, r_212_85, r_212_86, r_212_89, r_212_92, r_212_93, r_212_94, r_212_95, r_212_96, r_212_97, r_212_98, r_212_99, r_212_100, r_212_101, r_212_104, r_212_107, r_212_109, r_212_110, r_212_112, Option.bind_some, Option.bind_none, Option.toList_some, Option.toList_none, List.cons_append, List.nil_append, Option.map_some, Option.map_none, eq_self, if_true, if_false, reduceIte, ai_bi_eq0, ai_bi_eq1, ai_pb_bi, ai_pb_0, ai_pb_1, hm, Bool.and_self, Bool.true_eq_false, m_chapterOf h hk hc8 hj, m_culprit h hk hc (show j < 3 by omega), a_3, m_W h he.2, m_causers h hk hc8 hj, m_risingsOf h hk hc8, d1, t_2, a_1, nI_1, e1, c4]
        (repeat' split) <;> first | rfl | contradiction
      · have d1 : ¬ nI j < nI (kb_T B c / 2) := nI_nlt (by omega) (by omega)
        simp only [e_212, o_185, f_185_0, r_212_0, r_212_1, r_212_2, r_212_3, r_212_6, r_212_9, r_212_10, r_212_11, r_212_12, r_212_48, r_212_49, r_212_50, r_212_51, r_212_54, r_212_55, r_212_56, r_212_57, r_212_58, r_212_61, r_212_62, r_212_63, r_212_66, r_212_67, r_212_68, r_212_69, r_212_70, r_212_73, r_212_74, r_212_75, r_212_76, r_212_77, r_212_78, r_212_79, r_212_82, r_212_83, r_212_84, r_212_85, r_212_86, r_212_89, r_212_92, r_212_93, r_212_94, r_212_95, r_212_96, r_212_97, r_212_98, r_212_99, r_212_100, r_212_101, r_212_104, r_212_107, r_212_109, r_212_110, r_212_112, Option.bind_some, Option.bind_none, Option.toList_some, Option.toList_none, List.cons_append, List.nil_append, Option.map_some, Option.map_none, eq_self, if_true, if_false, reduceIte, ai_bi_eq0, ai_bi_eq1, ai_pb_bi, ai_pb_0, ai_pb_1, hm, Bool.and_self, Bool.true_eq_false, m_chapterOf h hk hc8 hj, m_culprit h hk hc (show j < 3 by omega), a_3, m_W h he.2, m_causers h hk hc8 hj, m_risingsOf h hk hc8, d1, c4]
        (repeat' split) <;> first | rfl | contradiction
    · have c2' : ai_is (kb_d B c) d = false := by simpa using c2
      rw [c2'] at hm
      rw [if_neg c2]
      simp only [e_212, o_185, f_185_0, r_212_0, r_212_1, r_212_2, r_212_3, r_212_6, r_212_9, r_212_10, r_212_11, r_212_12, r_212_48, r_212_49, r_212_50, r_212_51, r_212_54, r_212_55, r_212_56, r_212_57, r_212_58, r_212_61, r_212_62, r_212_63, r_212_66, r_212_67, r_212_68, r_212_69, r_212_70, r_212_73, r_212_74, r_212_75, r_212_76, r_212_77, r_212_78, r_212_79, r_212_82, r_212_83, r_212_84, r_212_85, r_212_86, r_212_89, r_212_92, r_212_93, r_212_94, r_212_95, r_212_96, r_212_97, r_212_98, r_212_99, r_212_100, r_212_101, r_212_104, r_212_107, r_212_109, r_212_110, r_212_112, Option.bind_some, Option.bind_none, Option.toList_some, Option.toList_none, List.cons_append, List.nil_append, Option.map_some, Option.map_none, eq_self, if_true, if_false, reduceIte, ai_bi_eq0, ai_bi_eq1, ai_pb_bi, ai_pb_0, ai_pb_1, hm, Bool.and_false, Bool.false_eq_true]
  · have c1' : ai_is (kb_n B) x = false := by simpa using c1
    have hm := m_isDeath h hk x d
    rw [c1'] at hm
    rw [if_neg c1]
    simp only [e_212, o_185, f_185_0, r_212_0, r_212_1, r_212_2, r_212_3, r_212_6, r_212_9, r_212_10, r_212_11, r_212_12, r_212_48, r_212_49, r_212_50, r_212_51, r_212_54, r_212_55, r_212_56, r_212_57, r_212_58, r_212_61, r_212_62, r_212_63, r_212_66, r_212_67, r_212_68, r_212_69, r_212_70, r_212_73, r_212_74, r_212_75, r_212_76, r_212_77, r_212_78, r_212_79, r_212_82, r_212_83, r_212_84, r_212_85, r_212_86, r_212_89, r_212_92, r_212_93, r_212_94, r_212_95, r_212_96, r_212_97, r_212_98, r_212_99, r_212_100, r_212_101, r_212_104, r_212_107, r_212_109, r_212_110, r_212_112, Option.bind_some, Option.bind_none, Option.toList_some, Option.toList_none, List.cons_append, List.nil_append, Option.map_some, Option.map_none, eq_self, if_true, if_false, reduceIte, ai_bi_eq0, ai_bi_eq1, ai_pb_bi, ai_pb_0, ai_pb_1, hm, Bool.false_and, Bool.false_eq_true]
theorem m_authorOf (h : kb_m (xm_s w) B) (hk : kb_ok B) (x k : Int32) : ai_Call 193 [.ref 185, .int x, .int k] (wl w) = some (some (.int (kb_q13 B x k)), wl w) := by
  have ha := hk.2.1
  unfold kb_q13
  by_cases c1 : ai_is (kb_a B) x = true
  · obtain ⟨c, hc, rfl⟩ := ai_is_of (by omega) c1
    rw [if_pos c1, nI_clamp (show c < 2 ^ 31 by omega)]
    by_cases k5 : k = 2
    · subst k5
      simp only [e_193, o_185, f_185_0, r_193_0, r_193_1, r_193_2, r_193_5, r_193_8, r_193_9, r_193_10, r_193_11, r_193_40, r_193_41, r_193_44, r_193_46, r_193_47, r_193_48, r_193_49, r_193_50, r_193_51, r_193_52, r_193_55, r_193_56, r_193_57, r_193_58, r_193_59, r_193_60, r_193_63, r_193_64, r_193_67, r_193_68, r_193_71, r_193_72, r_193_74, Option.bind_some, Option.bind_none, Option.toList_some, Option.toList_none, List.cons_append, List.nil_append, Option.map_some, Option.map_none, eq_self, if_true, if_false, reduceIte, ai_bi_eq0, ai_bi_eq1, ai_pb_bi, ai_pb_0, ai_pb_1, m_isAuthor h hk, c1, Bool.true_eq_false, m_deathsBy0 h hk, show ¬ (2 : Int32) = 3 by decide, show ¬ (2 : Int32) = 0 by decide, show ¬ (2 : Int32) = 1 by decide]
    · by_cases k6 : k = 3
      · subst k6
        simp only [e_193, o_185, f_185_0, r_193_0, r_193_1, r_193_2, r_193_5, r_193_8, r_193_9, r_193_10, r_193_11, r_193_40, r_193_41, r_193_44, r_193_46, r_193_47, r_193_48, r_193_49, r_193_50, r_193_51, r_193_52, r_193_55, r_193_56, r_193_57, r_193_58, r_193_59, r_193_60, r_193_63, r_193_64, r_193_67, r_193_68, r_193_71, r_193_72, r_193_74, Option.bind_some, Option.bind_none, Option.toList_some, Option.toList_none, List.cons_append, List.nil_append, Option.map_some, Option.map_none, eq_self, if_true, if_false, reduceIte, ai_bi_eq0, ai_bi_eq1, ai_pb_bi, ai_pb_0, ai_pb_1, m_isAuthor h hk, c1, Bool.true_eq_false, m_deathsBy1 h hk, show ¬ (3 : Int32) = 2 by decide, show ¬ (3 : Int32) = 0 by decide, show ¬ (3 : Int32) = 1 by decide]
      · simp only [e_193, o_185, f_185_0, r_193_0, r_193_1, r_193_2, r_193_5, r_193_8, r_193_9, r_193_10, r_193_11, r_193_40, r_193_41, r_193_44, r_193_46, r_193_47, r_193_48, r_193_49, r_193_50, r_193_51, r_193_52, r_193_55, r_193_56, r_193_57, r_193_58, r_193_59, r_193_60, r_193_63, r_193_64, r_193_67, r_193_68, r_193_71, r_193_72, r_193_74, Option.bind_some, Option.bind_none, Option.toList_some, Option.toList_none, List.cons_append, List.nil_append, Option.map_some, Option.map_none, eq_self, if_true, if_false, reduceIte, ai_bi_eq0, ai_bi_eq1, ai_pb_bi, ai_pb_0, ai_pb_1, k5, k6, m_isAuthor h hk, c1, Bool.true_eq_false, a_34, m_S h (show c < 4 by omega), m_chaptersBy h hk]
        (repeat' split) <;> first | rfl | contradiction
  · have c1' : ai_is (kb_a B) x = false := by simpa using c1
    simp only [e_193, o_185, f_185_0, r_193_0, r_193_1, r_193_2, r_193_5, r_193_8, r_193_9, r_193_10, r_193_11, r_193_40, r_193_41, r_193_44, r_193_46, r_193_47, r_193_48, r_193_49, r_193_50, r_193_51, r_193_52, r_193_55, r_193_56, r_193_57, r_193_58, r_193_59, r_193_60, r_193_63, r_193_64, r_193_67, r_193_68, r_193_71, r_193_72, r_193_74, Option.bind_some, Option.bind_none, Option.toList_some, Option.toList_none, List.cons_append, List.nil_append, Option.map_some, Option.map_none, eq_self, if_true, if_false, reduceIte, ai_bi_eq0, ai_bi_eq1, ai_pb_bi, ai_pb_0, ai_pb_1, m_isAuthor h hk, c1', Bool.false_eq_true]
theorem m_pages (h : kb_m (xm_s w) B) (hk : kb_ok B) (x y : Int32) : ai_Call 247 [.ref 185, .int x, .int y] (wl w) = some (some (.int (kb_q14 B x y)), wl w) := by
  have hn := hk.1
  unfold kb_q14
  by_cases c1 : ai_is (kb_n B) x = true
  · obtain ⟨c, hc, rfl⟩ := ai_is_of (by omega) c1
    by_cases c2 : ai_is (kb_n B) y = true
    · obtain ⟨o, ho, rfl⟩ := ai_is_of (by omega) c2
      rw [if_pos c1, if_pos c2, nI_clamp (show c < 2 ^ 31 by omega), nI_clamp (show o < 2 ^ 31 by omega)]
      simp only [e_247, o_185, r_247_0, r_247_1, r_247_2, r_247_5, r_247_8, r_247_9, r_247_10, r_247_13, r_247_16, r_247_17, r_247_18, r_247_19, r_247_22, r_247_25, r_247_26, Option.bind_some, Option.bind_none, Option.toList_some, Option.toList_none, List.cons_append, List.nil_append, Option.map_some, Option.map_none, eq_self, if_true, if_false, reduceIte, ai_bi_eq0, ai_bi_eq1, ai_pb_bi, ai_pb_0, ai_pb_1, m_isCharacter h hk, c1, c2, Bool.true_eq_false, m_pagesOf h (show c < 8 by omega) (show o < 8 by omega)]
    · have c2' : ai_is (kb_n B) y = false := by simpa using c2
      simp only [e_247, o_185, r_247_0, r_247_1, r_247_2, r_247_5, r_247_8, r_247_9, r_247_10, r_247_13, r_247_16, r_247_17, r_247_18, r_247_19, r_247_22, r_247_25, r_247_26, Option.bind_some, Option.bind_none, Option.toList_some, Option.toList_none, List.cons_append, List.nil_append, Option.map_some, Option.map_none, eq_self, if_true, if_false, reduceIte, ai_bi_eq0, ai_bi_eq1, ai_pb_bi, ai_pb_0, ai_pb_1, m_isCharacter h hk, c1, c2', Bool.true_eq_false, Bool.false_eq_true]
  · have c1' : ai_is (kb_n B) x = false := by simpa using c1
    simp only [e_247, o_185, r_247_0, r_247_1, r_247_2, r_247_5, r_247_8, r_247_9, r_247_10, r_247_13, r_247_16, r_247_17, r_247_18, r_247_19, r_247_22, r_247_25, r_247_26, Option.bind_some, Option.bind_none, Option.toList_some, Option.toList_none, List.cons_append, List.nil_append, Option.map_some, Option.map_none, eq_self, if_true, if_false, reduceIte, ai_bi_eq0, ai_bi_eq1, ai_pb_bi, ai_pb_0, ai_pb_1, m_isCharacter h hk, c1', Bool.false_eq_true]
theorem m_dead (h : kb_m (xm_s w) B) (hk : kb_ok B) (x : Int32) : ai_Call 209 [.ref 185, .int x] (wl w) = some (some (.int (kb_q15 B x)), wl w) := by
  unfold kb_q15
  by_cases c1 : kb_ch x = true
  · obtain ⟨q, h1, h2, rfl⟩ := kb_ch_of c1
    rw [if_pos c1, nI_clamp (show q < 2 ^ 31 by omega)]
    simp only [e_209, o_185, r_209_0, r_209_1, r_209_4, r_209_7, r_209_8, r_209_9, r_209_12, r_209_15, r_209_17, Option.bind_some, Option.bind_none, Option.toList_some, Option.toList_none, List.cons_append, List.nil_append, Option.map_some, Option.map_none, eq_self, if_true, if_false, reduceIte, ai_bi_eq0, ai_bi_eq1, ai_pb_bi, ai_pb_0, ai_pb_1, m_isChapter, c1, Bool.true_eq_false, m_deadIn h hk h2]
  · have c1' : kb_ch x = false := by simpa using c1
    simp only [e_209, o_185, r_209_0, r_209_1, r_209_4, r_209_7, r_209_8, r_209_9, r_209_12, r_209_15, r_209_17, Option.bind_some, Option.bind_none, Option.toList_some, Option.toList_none, List.cons_append, List.nil_append, Option.map_some, Option.map_none, eq_self, if_true, if_false, reduceIte, ai_bi_eq0, ai_bi_eq1, ai_pb_bi, ai_pb_0, ai_pb_1, m_isChapter, c1', Bool.false_eq_true]
theorem m_deadAgain (h : kb_m (xm_s w) B) (hk : kb_ok B) (x : Int32) : ai_Call 210 [.ref 185, .int x] (wl w) = some (some (.int (kb_q15 B x)), wl w) := by
  simp only [e_210, o_185, r_210_0, r_210_1, r_210_2, r_210_5, Option.bind_some, Option.bind_none, Option.toList_some, Option.toList_none, List.cons_append, List.nil_append, Option.map_some, Option.map_none, eq_self, if_true, if_false, reduceIte, ai_bi_eq0, ai_bi_eq1, ai_pb_bi, ai_pb_0, ai_pb_1, m_dead h hk]
theorem m_case (h : kb_m (xm_s w) B) (hk : kb_ok B) (x y z : Int32) : kb_case B x y z = true ∨ (ai_is (kb_n B) x = false ∧ kb_case B x y z = false) ∨ (ai_is (kb_n B) x = true ∧ kb_case B x y z = false ∧ ai_Call 211 [.ref 185, .int y, .int z] (wl w) = some (some (.int (ai_bi false)), wl w)) := by
  by_cases c0 : kb_case B x y z = true
  · exact Or.inl c0
  · refine Or.inr ?_
    have c0' : kb_case B x y z = false := by simpa using c0
    by_cases c1 : ai_is (kb_n B) x = true
    · refine Or.inr ⟨c1, c0', ?_⟩
      rw [m_isDeath h hk]
      unfold kb_case at c0'
      rw [c1, Bool.true_and] at c0'
      rw [c0']
    · exact Or.inl ⟨by simpa using c1, c0'⟩
theorem m_guilty (h : kb_m (xm_s w) B) (hk : kb_ok B) (x y z : Int32) : ai_Call 231 [.ref 185, .int x, .int y, .int z] (wl w) = some (some (.int (kb_q20 B x y z)), wl w) := by
  have hn := hk.1
  unfold kb_q20
  rcases m_case h hk x y z with c1 | ⟨c1, c2⟩ | ⟨c1, c2, c3⟩
  · have e1 : ai_is (kb_n B) x = true := by
      unfold kb_case at c1
      simp only [Bool.and_eq_true] at c1
      exact c1.1.1
    have e2 : ai_Call 211 [.ref 185, .int y, .int z] (wl w) = some (some (.int (ai_bi true)), wl w) := by
      rw [m_isDeath h hk]
      unfold kb_case at c1
      simp only [Bool.and_eq_true] at c1
      rw [c1.1.2, c1.2]
      rfl
    obtain ⟨c, o, d, hc, ho, hd, rfl, rfl, rfl⟩ := kb_case_of hk c1
    have h3 := kb_d3 hk o
    rw [if_pos c1, nI_clamp (show c < 2 ^ 31 by omega), nI_clamp (show o < 2 ^ 31 by omega), nI_clamp (show d < 2 ^ 31 by omega)]
    by_cases c2 : nI c = nI o
    · have c9 : c = o := (nI_eq (by omega) (by omega)).mp c2
      subst c9
      simp only [e_231, o_185, r_231_0, r_231_1, r_231_2, r_231_5, r_231_8, r_231_9, r_231_10, r_231_11, r_231_14, r_231_17, r_231_18, r_231_19, r_231_20, r_231_21, r_231_24, r_231_26, r_231_29, r_231_30, r_231_31, r_231_32, r_231_33, r_231_36, Option.bind_some, Option.bind_none, Option.toList_some, Option.toList_none, List.cons_append, List.nil_append, Option.map_some, Option.map_none, eq_self, if_true, if_false, reduceIte, ai_bi_eq0, ai_bi_eq1, ai_pb_bi, ai_pb_0, ai_pb_1, m_isCharacter h hk, e1, e2, Bool.true_eq_false]
    · simp only [e_231, o_185, r_231_0, r_231_1, r_231_2, r_231_5, r_231_8, r_231_9, r_231_10, r_231_11, r_231_14, r_231_17, r_231_18, r_231_19, r_231_20, r_231_21, r_231_24, r_231_26, r_231_29, r_231_30, r_231_31, r_231_32, r_231_33, r_231_36, Option.bind_some, Option.bind_none, Option.toList_some, Option.toList_none, List.cons_append, List.nil_append, Option.map_some, Option.map_none, eq_self, if_true, if_false, reduceIte, ai_bi_eq0, ai_bi_eq1, ai_pb_bi, ai_pb_0, ai_pb_1, m_isCharacter h hk, e1, e2, Bool.true_eq_false, c2, m_guiltyMany h hk (show c < 8 by omega) (show o < 8 by omega) hd]
  · simp only [e_231, o_185, r_231_0, r_231_1, r_231_2, r_231_5, r_231_8, r_231_9, r_231_10, r_231_11, r_231_14, r_231_17, r_231_18, r_231_19, r_231_20, r_231_21, r_231_24, r_231_26, r_231_29, r_231_30, r_231_31, r_231_32, r_231_33, r_231_36, Option.bind_some, Option.bind_none, Option.toList_some, Option.toList_none, List.cons_append, List.nil_append, Option.map_some, Option.map_none, eq_self, if_true, if_false, reduceIte, ai_bi_eq0, ai_bi_eq1, ai_pb_bi, ai_pb_0, ai_pb_1, m_isCharacter h hk, c1, c2, Bool.false_eq_true]
  · simp only [e_231, o_185, r_231_0, r_231_1, r_231_2, r_231_5, r_231_8, r_231_9, r_231_10, r_231_11, r_231_14, r_231_17, r_231_18, r_231_19, r_231_20, r_231_21, r_231_24, r_231_26, r_231_29, r_231_30, r_231_31, r_231_32, r_231_33, r_231_36, Option.bind_some, Option.bind_none, Option.toList_some, Option.toList_none, List.cons_append, List.nil_append, Option.map_some, Option.map_none, eq_self, if_true, if_false, reduceIte, ai_bi_eq0, ai_bi_eq1, ai_pb_bi, ai_pb_0, ai_pb_1, m_isCharacter h hk, c1, c2, c3, Bool.true_eq_false, Bool.false_eq_true]
theorem m_refusal (x : Int32) : ai_Call 250 [.ref 185, .int x] (wl w) = some (some (.int (if ai_in3 x 0 2 = true then (if xm_re w = 0 then (-4) else if x = 0 then xm_re w else if x = 1 then xm_de w else xm_at w) else (-2))), wl w) := by
  by_cases c1 : ai_in3 x 0 2 = true
  · simp only [e_250, o_185, r_250_0, r_250_1, r_250_2, r_250_3, r_250_6, r_250_9, r_250_11, r_250_12, r_250_13, r_250_16, r_250_19, r_250_21, r_250_24, r_250_25, r_250_28, r_250_29, r_250_32, r_250_35, r_250_36, r_250_37, r_250_40, r_250_41, r_250_44, r_250_47, r_250_48, r_250_51, Option.bind_some, Option.bind_none, Option.toList_some, Option.toList_none, List.cons_append, List.nil_append, Option.map_some, Option.map_none, eq_self, if_true, if_false, reduceIte, ai_bi_eq0, ai_bi_eq1, ai_pb_bi, ai_pb_0, ai_pb_1, m_isIn, c1, Bool.true_eq_false, f_185_5, f_185_6, f_185_7]
    (repeat' split) <;> first | rfl | contradiction
  · have c1' : ai_in3 x 0 2 = false := by simpa using c1
    simp only [e_250, o_185, r_250_0, r_250_1, r_250_2, r_250_3, r_250_6, r_250_9, r_250_11, r_250_12, r_250_13, r_250_16, r_250_19, r_250_21, r_250_24, r_250_25, r_250_28, r_250_29, r_250_32, r_250_35, r_250_36, r_250_37, r_250_40, r_250_41, r_250_44, r_250_47, r_250_48, r_250_51, Option.bind_some, Option.bind_none, Option.toList_some, Option.toList_none, List.cons_append, List.nil_append, Option.map_some, Option.map_none, eq_self, if_true, if_false, reduceIte, ai_bi_eq0, ai_bi_eq1, ai_pb_bi, ai_pb_0, ai_pb_1, m_isIn, c1', Bool.false_eq_true]
theorem mg_k (w : xw_W) {j : Nat} (hj : j < 189) {x : Int32} (hx : x = nI j) : ai_aget (wl w) 186 x = some (xm_s w j) := by
  rw [hx]
  exact mg w hj
/-- the account, by the book and the sizes of the text and of the changes -/
def kb_q23 (B : kb_B) (td ch x : Int32) : Int32 := if x = 0 then nI (kb_n B) else if x = 1 then nI (kb_a B) else if x = 2 then nI (kb_s (fun c => kb_d B c) (kb_n B)) else if x = 3 then nI (kb_s (fun c => kb_T B c / 2) (kb_n B)) else if x = 4 then nI (kb_s (fun c => kb_s (fun d => kb_i (decide (¬ kb_C B c d = (-4)))) (kb_d B c)) (kb_n B)) else if x = 5 then nI (kb_sit B) else if x = 6 then kb_t B else if x = 7 then nI (kb_s (fun q => kb_i (decide (¬ kb_W B (q + 1) = (-4)))) 30) else if x = 8 then nI (kb_s (kb_S B) (kb_a B)) else if x = 9 then td else if x = 10 then ch else (-2)
theorem m_account (h : kb_m (xm_s w) B) (hk : kb_ok B) (x : Int32) : ai_Call 176 [.ref 185, .int x] (wl w) = some (some (.int (kb_q23 B (xm_td w) (xm_ch w) x)), wl w) := by
  unfold kb_q23
  by_cases c0 : x = 0
  · subst c0
    simp only [e_176, o_185, r_176_0, r_176_1, r_176_60, r_176_61, r_176_64, r_176_65, r_176_66, r_176_67, r_176_68, r_176_71, r_176_72, r_176_73, r_176_76, r_176_77, r_176_78, r_176_81, r_176_82, r_176_83, r_176_86, r_176_87, r_176_88, r_176_91, r_176_92, r_176_93, r_176_94, r_176_95, r_176_98, r_176_99, r_176_100, r_176_103, r_176_104, r_176_105, r_176_108, r_176_109, r_176_110, r_176_113, r_176_114, r_176_116, Option.bind_some, Option.bind_none, Option.toList_some, Option.toList_none, List.cons_append, List.nil_append, Option.map_some, Option.map_none, eq_self, if_true, if_false, reduceIte, ai_bi_eq0, ai_bi_eq1, ai_pb_bi, ai_pb_0, ai_pb_1, f_185_0, mg_0, h.1]
  · by_cases c1 : x = 1
    · subst c1
      simp only [e_176, o_185, r_176_0, r_176_1, r_176_60, r_176_61, r_176_64, r_176_65, r_176_66, r_176_67, r_176_68, r_176_71, r_176_72, r_176_73, r_176_76, r_176_77, r_176_78, r_176_81, r_176_82, r_176_83, r_176_86, r_176_87, r_176_88, r_176_91, r_176_92, r_176_93, r_176_94, r_176_95, r_176_98, r_176_99, r_176_100, r_176_103, r_176_104, r_176_105, r_176_108, r_176_109, r_176_110, r_176_113, r_176_114, r_176_116, Option.bind_some, Option.bind_none, Option.toList_some, Option.toList_none, List.cons_append, List.nil_append, Option.map_some, Option.map_none, eq_self, if_true, if_false, reduceIte, ai_bi_eq0, ai_bi_eq1, ai_pb_bi, ai_pb_0, ai_pb_1, c0, f_185_0, mg_1, h.2.1]
    · simp only [e_176, o_185, r_176_0, r_176_1, r_176_60, r_176_61, r_176_64, r_176_65, r_176_66, r_176_67, r_176_68, r_176_71, r_176_72, r_176_73, r_176_76, r_176_77, r_176_78, r_176_81, r_176_82, r_176_83, r_176_86, r_176_87, r_176_88, r_176_91, r_176_92, r_176_93, r_176_94, r_176_95, r_176_98, r_176_99, r_176_100, r_176_103, r_176_104, r_176_105, r_176_108, r_176_109, r_176_110, r_176_113, r_176_114, r_176_116, Option.bind_some, Option.bind_none, Option.toList_some, Option.toList_none, List.cons_append, List.nil_append, Option.map_some, Option.map_none, eq_self, if_true, if_false, reduceIte, ai_bi_eq0, ai_bi_eq1, ai_pb_bi, ai_pb_0, ai_pb_1, c0, c1, f_185_0, mg_2, h.2.2.1, m_allDeaths h hk, m_allRisings h hk, m_allSolved h hk, m_sitting h hk, m_written h hk, m_swornMany h hk, f_185_13, f_185_4]
      (repeat' split) <;> first | rfl | contradiction
end MB
