/-! What the book answers, and the class's questions. -/
def kb_q11 (B : kb_B) (x k : Int32) : Int32 := if ai_is (kb_n B) x = true then (if k = 0 then nI (kb_d B x.toNatClampNeg) else if k = 1 then nI (kb_T B x.toNatClampNeg / 2) else if k = 2 then nI (kb_lv B x.toNatClampNeg) else if k = 3 then nI (kb_s (fun d => kb_i (decide (¬ kb_C B x.toNatClampNeg d = (-4)))) (kb_d B x.toNatClampNeg)) else if k = 4 then nI (kb_ds B (fun c d => decide (kb_C B c d = x))) else if k = 5 then nI (kb_s (fun o => kb_M B x.toNatClampNeg o) (kb_n B)) else if k = 6 then nI (kb_s (fun o => kb_M B o x.toNatClampNeg) (kb_n B)) else (-2)) else (-1)
def kb_q12 (B : kb_B) (x d k : Int32) : Int32 := if ai_is (kb_n B) x = true then if ai_is (kb_d B x.toNatClampNeg) d = true then (if k = 0 then nI (kb_E B x.toNatClampNeg (2 * d.toNatClampNeg)) else if k = 1 then kb_C B x.toNatClampNeg d.toNatClampNeg else if k = 2 then kb_W B (kb_E B x.toNatClampNeg (2 * d.toNatClampNeg)) else if k = 3 then nI (kb_s (fun c => kb_i (kb_could B c x.toNatClampNeg d.toNatClampNeg)) (kb_n B)) else if k = 4 then (if 2 * d.toNatClampNeg + 1 < kb_T B x.toNatClampNeg then nI (kb_E B x.toNatClampNeg (2 * d.toNatClampNeg + 1)) else (-4)) else (-2)) else (-1) else (-1)
def kb_q13 (B : kb_B) (x k : Int32) : Int32 := if ai_is (kb_a B) x = true then (if k = 0 then nI (kb_S B x.toNatClampNeg) else if k = 1 then nI (kb_wn B x) else if k = 2 then nI (kb_ds B (fun c d => decide (kb_W B (kb_E B c (2 * d)) = x))) else if k = 3 then nI (kb_ds B (fun c d => decide (kb_W B (kb_E B c (2 * d)) = x) && decide (¬ kb_C B c d = (-4)))) else (-2)) else (-1)
def kb_q14 (B : kb_B) (x y : Int32) : Int32 := if ai_is (kb_n B) x = true then if ai_is (kb_n B) y = true then nI (kb_M B x.toNatClampNeg y.toNatClampNeg) else (-1) else (-1)
def kb_ch (x : Int32) : Bool := decide (¬ x < 1 ∧ ¬ 30 < x)
theorem kb_ch_of {x : Int32} (h : kb_ch x = true) : ∃ q, 1 ≤ q ∧ q ≤ 30 ∧ x = nI q := by
  unfold kb_ch at h
  rw [decide_eq_true_eq] at h
  have h0 : ¬ x < 0 := fun q => h.1 (Int32.lt_trans q (by decide))
  obtain ⟨j, hj, rfl⟩ := nI_of h0
  refine ⟨j, ?_, ?_, rfl⟩
  · rcases Nat.lt_or_ge j 1 with q | q
    · exact absurd (nI_lt q (by decide)) h.1
    · exact q
  · rcases Nat.lt_or_ge 30 j with q | q
    · exact absurd (nI_lt q hj) h.2
    · exact q
def kb_q15 (B : kb_B) (x : Int32) : Int32 := if kb_ch x = true then nI (kb_set B x.toNatClampNeg) else (-2)
def kb_q17 (B : kb_B) (x : Int32) : Int32 := if x = 0 then nI (kb_bs (kb_dm B) 29) else if x = 1 then nI (kb_dm B (kb_bs (kb_dm B) 29)) else (-2)
def kb_q18 (B : kb_B) (x d : Int32) : Int32 := if ai_is (kb_n B) x = true then if ai_is (kb_d B x.toNatClampNeg) d = true then (kb_su B x.toNatClampNeg d.toNatClampNeg (kb_n B)).2 else (-1) else (-1)
def kb_q20 (B : kb_B) (x y z : Int32) : Int32 := if kb_case B x y z = true then if x = y then (-2) else nI (kb_votes B (kb_w B x.toNatClampNeg y.toNatClampNeg z.toNatClampNeg)) else (-1)
def kb_q21 (B : kb_B) (u v x y z : Int32) : Int32 := if ai_is 7 u = true then if kb_case B x y z = true then if ai_sev v = true then if x = y then (-2) else ai_bi (decide (kb_sit (kb_wj B u.toNatClampNeg v.toNatClampNeg) < 2 * kb_votes (kb_wj B u.toNatClampNeg v.toNatClampNeg) (kb_w B x.toNatClampNeg y.toNatClampNeg z.toNatClampNeg))) else (-2) else (-1) else (-1)
def kb_q22 (B : kb_B) (k p : Int32) : Int32 := if ai_is 4 k = true then kb_at B k.toNatClampNeg p else (-2)
section XB
variable {w : xw_W} {B : kb_B}
theorem s_characterOf (h : kb_x (xw_b w) B) (hk : kb_ok B) (x k : Int32) : ai_Call 98 [.ref 0, .int x, .int k] (wl w) = some (some (.int (kb_q11 B x k)), wl w) := by
  have hn := hk.1
  unfold kb_q11
  by_cases c1 : ai_is (kb_n B) x = true
  · obtain ⟨c, hc, rfl⟩ := ai_is_of (by omega) c1
    have hc8 : c < 8 := by omega
    rw [if_pos c1, nI_clamp (show c < 2 ^ 31 by omega)]
    simp only [e_98, o_0, r_98_0, r_98_1, r_98_4, r_98_5, r_98_8, r_98_11, r_98_12, r_98_13, r_98_14, r_98_56, r_98_57, r_98_60, r_98_61, r_98_64, r_98_65, r_98_66, r_98_69, r_98_70, r_98_73, r_98_74, r_98_75, r_98_78, r_98_79, r_98_82, r_98_83, r_98_84, r_98_87, r_98_88, r_98_91, r_98_92, r_98_93, r_98_96, r_98_97, r_98_100, r_98_101, r_98_102, r_98_105, r_98_106, r_98_109, r_98_110, r_98_111, r_98_114, r_98_115, r_98_118, r_98_119, r_98_121, Option.bind_some, Option.bind_none, Option.toList_some, Option.toList_none, List.cons_append, List.nil_append, Option.map_some, Option.map_none, eq_self, if_true, if_false, reduceIte, ai_bi_eq0, ai_bi_eq1, ai_pb_bi, ai_pb_0, ai_pb_1, f_0_0, f_0_3, x_isCharacter h, c1, Bool.true_eq_false, x_deaths h hk hc8, x_risings h hk hc8, x_chaptersLived h hk hc8, x_solvedDeaths h hk hc8, x_deathsCausedBy h hk, x_pagesHeldBy h hk hc8, x_pagesAgainst h hk hc8]
    (repeat' split) <;> first | rfl | contradiction
  · have c1' : ai_is (kb_n B) x = false := by simpa using c1
    simp only [e_98, o_0, r_98_0, r_98_1, r_98_4, r_98_5, r_98_8, r_98_11, r_98_12, r_98_13, r_98_14, r_98_56, r_98_57, r_98_60, r_98_61, r_98_64, r_98_65, r_98_66, r_98_69, r_98_70, r_98_73, r_98_74, r_98_75, r_98_78, r_98_79, r_98_82, r_98_83, r_98_84, r_98_87, r_98_88, r_98_91, r_98_92, r_98_93, r_98_96, r_98_97, r_98_100, r_98_101, r_98_102, r_98_105, r_98_106, r_98_109, r_98_110, r_98_111, r_98_114, r_98_115, r_98_118, r_98_119, r_98_121, Option.bind_some, Option.bind_none, Option.toList_some, Option.toList_none, List.cons_append, List.nil_append, Option.map_some, Option.map_none, eq_self, if_true, if_false, reduceIte, ai_bi_eq0, ai_bi_eq1, ai_pb_bi, ai_pb_0, ai_pb_1, f_0_0, x_isCharacter h, c1', Bool.false_eq_true]
theorem s_deathOf (h : kb_x (xw_b w) B) (hk : kb_ok B) (x d k : Int32) : ai_Call 108 [.ref 0, .int x, .int d, .int k] (wl w) = some (some (.int (kb_q12 B x d k)), wl w) := by
  have hn := hk.1
  unfold kb_q12
  by_cases c1 : ai_is (kb_n B) x = true
  · obtain ⟨c, hc, rfl⟩ := ai_is_of (by omega) c1
    have hc8 : c < 8 := by omega
    rw [if_pos c1, nI_clamp (show c < 2 ^ 31 by omega)]
    have h3 := kb_d3 hk c
    by_cases c2 : ai_is (kb_d B c) d = true
    · obtain ⟨j, hj, rfl⟩ := ai_is_of (by omega) c2
      have he := hk.2.2.2.2.1 c (2 * j) (by unfold kb_d at hj; omega)
      rw [if_pos c2, nI_clamp (show j < 2 ^ 31 by omega)]
      simp only [e_108, o_0, r_108_0, r_108_1, r_108_4, r_108_5, r_108_8, r_108_11, r_108_12, r_108_15, r_108_16, r_108_17, r_108_20, r_108_23, r_108_24, r_108_25, r_108_26, r_108_60, r_108_61, r_108_64, r_108_65, r_108_66, r_108_69, r_108_70, r_108_71, r_108_74, r_108_75, r_108_76, r_108_79, r_108_80, r_108_81, r_108_84, r_108_87, r_108_88, r_108_91, r_108_92, r_108_93, r_108_96, r_108_99, r_108_100, r_108_101, r_108_104, r_108_105, r_108_106, r_108_109, r_108_110, r_108_111, r_108_114, r_108_115, r_108_116, r_108_119, r_108_120, r_108_122, Option.bind_some, Option.bind_none, Option.toList_some, Option.toList_none, List.cons_append, List.nil_append, Option.map_some, Option.map_none, eq_self, if_true, if_false, reduceIte, ai_bi_eq0, ai_bi_eq1, ai_pb_bi, ai_pb_0, ai_pb_1, f_0_0, f_0_1, f_1_6, x_isCharacter h, x_isDeath h hk hc8, c1, c2, Bool.true_eq_false, x_deathChapter h hk hc8 hj, x_culprit h hc8 (show j < 3 by omega), x_wr h he.2, x_possibleCulprits h hk hc8 hj, x_nextRising h hk hc8 hj]
      (repeat' split) <;> first | rfl | contradiction
    · have c2' : ai_is (kb_d B c) d = false := by simpa using c2
      simp only [e_108, o_0, r_108_0, r_108_1, r_108_4, r_108_5, r_108_8, r_108_11, r_108_12, r_108_15, r_108_16, r_108_17, r_108_20, r_108_23, r_108_24, r_108_25, r_108_26, r_108_60, r_108_61, r_108_64, r_108_65, r_108_66, r_108_69, r_108_70, r_108_71, r_108_74, r_108_75, r_108_76, r_108_79, r_108_80, r_108_81, r_108_84, r_108_87, r_108_88, r_108_91, r_108_92, r_108_93, r_108_96, r_108_99, r_108_100, r_108_101, r_108_104, r_108_105, r_108_106, r_108_109, r_108_110, r_108_111, r_108_114, r_108_115, r_108_116, r_108_119, r_108_120, r_108_122, Option.bind_some, Option.bind_none, Option.toList_some, Option.toList_none, List.cons_append, List.nil_append, Option.map_some, Option.map_none, eq_self, if_true, if_false, reduceIte, ai_bi_eq0, ai_bi_eq1, ai_pb_bi, ai_pb_0, ai_pb_1, f_0_0, x_isCharacter h, x_isDeath h hk hc8, c1, c2', Bool.true_eq_false, Bool.false_eq_true]
  · have c1' : ai_is (kb_n B) x = false := by simpa using c1
    simp only [e_108, o_0, r_108_0, r_108_1, r_108_4, r_108_5, r_108_8, r_108_11, r_108_12, r_108_15, r_108_16, r_108_17, r_108_20, r_108_23, r_108_24, r_108_25, r_108_26, r_108_60, r_108_61, r_108_64, r_108_65, r_108_66, r_108_69, r_108_70, r_108_71, r_108_74, r_108_75, r_108_76, r_108_79, r_108_80, r_108_81, r_108_84, r_108_87, r_108_88, r_108_91, r_108_92, r_108_93, r_108_96, r_108_99, r_108_100, r_108_101, r_108_104, r_108_105, r_108_106, r_108_109, r_108_110, r_108_111, r_108_114, r_108_115, r_108_116, r_108_119, r_108_120, r_108_122, Option.bind_some, Option.bind_none, Option.toList_some, Option.toList_none, List.cons_append, List.nil_append, Option.map_some, Option.map_none, eq_self, if_true, if_false, reduceIte, ai_bi_eq0, ai_bi_eq1, ai_pb_bi, ai_pb_0, ai_pb_1, f_0_0, x_isCharacter h, c1', Bool.false_eq_true]
theorem s_authorOf (h : kb_x (xw_b w) B) (hk : kb_ok B) (x k : Int32) : ai_Call 57 [.ref 0, .int x, .int k] (wl w) = some (some (.int (kb_q13 B x k)), wl w) := by
  have ha := hk.2.1
  unfold kb_q13
  by_cases c1 : ai_is (kb_a B) x = true
  · obtain ⟨c, hc, rfl⟩ := ai_is_of (by omega) c1
    have g2 : ai_Call 12 [.ref 10, .int (nI c)] (wl w) = some (some (.int (nI (kb_S B c))), wl w) := by rw [x_get_sw, ai_rgn (by omega) (by decide), h.2.2.2.2.2.2.2.1 c (by omega)]
    rw [if_pos c1, nI_clamp (show c < 2 ^ 31 by omega)]
    simp only [e_57, o_0, r_57_0, r_57_1, r_57_4, r_57_5, r_57_8, r_57_11, r_57_12, r_57_13, r_57_14, r_57_44, r_57_45, r_57_48, r_57_51, r_57_52, r_57_55, r_57_56, r_57_57, r_57_60, r_57_61, r_57_64, r_57_65, r_57_66, r_57_69, r_57_70, r_57_73, r_57_74, r_57_75, r_57_78, r_57_79, r_57_82, r_57_83, r_57_85, Option.bind_some, Option.bind_none, Option.toList_some, Option.toList_none, List.cons_append, List.nil_append, Option.map_some, Option.map_none, eq_self, if_true, if_false, reduceIte, ai_bi_eq0, ai_bi_eq1, ai_pb_bi, ai_pb_0, ai_pb_1, f_0_0, f_0_3, f_1_7, x_isAuthor h, c1, Bool.true_eq_false, g2, x_chaptersBy h, x_deathsBy h hk, x_solvedDeathsBy h hk]
    (repeat' split) <;> first | rfl | contradiction
  · have c1' : ai_is (kb_a B) x = false := by simpa using c1
    simp only [e_57, o_0, r_57_0, r_57_1, r_57_4, r_57_5, r_57_8, r_57_11, r_57_12, r_57_13, r_57_14, r_57_44, r_57_45, r_57_48, r_57_51, r_57_52, r_57_55, r_57_56, r_57_57, r_57_60, r_57_61, r_57_64, r_57_65, r_57_66, r_57_69, r_57_70, r_57_73, r_57_74, r_57_75, r_57_78, r_57_79, r_57_82, r_57_83, r_57_85, Option.bind_some, Option.bind_none, Option.toList_some, Option.toList_none, List.cons_append, List.nil_append, Option.map_some, Option.map_none, eq_self, if_true, if_false, reduceIte, ai_bi_eq0, ai_bi_eq1, ai_pb_bi, ai_pb_0, ai_pb_1, f_0_0, x_isAuthor h, c1', Bool.false_eq_true]
theorem s_pages (h : kb_x (xw_b w) B) (hk : kb_ok B) (x y : Int32) : ai_Call 119 [.ref 0, .int x, .int y] (wl w) = some (some (.int (kb_q14 B x y)), wl w) := by
  have hn := hk.1
  unfold kb_q14
  by_cases c1 : ai_is (kb_n B) x = true
  · obtain ⟨c, hc, rfl⟩ := ai_is_of (by omega) c1
    by_cases c2 : ai_is (kb_n B) y = true
    · obtain ⟨o, ho, rfl⟩ := ai_is_of (by omega) c2
      rw [if_pos c1, if_pos c2, nI_clamp (show c < 2 ^ 31 by omega), nI_clamp (show o < 2 ^ 31 by omega)]
      simp only [e_119, o_0, r_119_0, r_119_1, r_119_4, r_119_5, r_119_8, r_119_11, r_119_12, r_119_15, r_119_16, r_119_19, r_119_22, r_119_23, r_119_24, r_119_25, r_119_28, r_119_29, r_119_30, r_119_33, Option.bind_some, Option.bind_none, Option.toList_some, Option.toList_none, List.cons_append, List.nil_append, Option.map_some, Option.map_none, eq_self, if_true, if_false, reduceIte, ai_bi_eq0, ai_bi_eq1, ai_pb_bi, ai_pb_0, ai_pb_1, f_0_0, x_isCharacter h, c1, c2, Bool.true_eq_false, x_motivePages h (show c < 8 by omega) (show o < 8 by omega)]
    · have c2' : ai_is (kb_n B) y = false := by simpa using c2
      simp only [e_119, o_0, r_119_0, r_119_1, r_119_4, r_119_5, r_119_8, r_119_11, r_119_12, r_119_15, r_119_16, r_119_19, r_119_22, r_119_23, r_119_24, r_119_25, r_119_28, r_119_29, r_119_30, r_119_33, Option.bind_some, Option.bind_none, Option.toList_some, Option.toList_none, List.cons_append, List.nil_append, Option.map_some, Option.map_none, eq_self, if_true, if_false, reduceIte, ai_bi_eq0, ai_bi_eq1, ai_pb_bi, ai_pb_0, ai_pb_1, f_0_0, x_isCharacter h, c1, c2', Bool.true_eq_false, Bool.false_eq_true]
  · have c1' : ai_is (kb_n B) x = false := by simpa using c1
    simp only [e_119, o_0, r_119_0, r_119_1, r_119_4, r_119_5, r_119_8, r_119_11, r_119_12, r_119_15, r_119_16, r_119_19, r_119_22, r_119_23, r_119_24, r_119_25, r_119_28, r_119_29, r_119_30, r_119_33, Option.bind_some, Option.bind_none, Option.toList_some, Option.toList_none, List.cons_append, List.nil_append, Option.map_some, Option.map_none, eq_self, if_true, if_false, reduceIte, ai_bi_eq0, ai_bi_eq1, ai_pb_bi, ai_pb_0, ai_pb_1, f_0_0, x_isCharacter h, c1', Bool.false_eq_true]
theorem x_isCh (x : Int32) (ws : ai_W) : ai_Call 63 [.int x] ws = some (some (.int (ai_bi (kb_ch x))), ws) := x_isChapter x ws
theorem s_dead (h : kb_x (xw_b w) B) (hk : kb_ok B) (x : Int32) : ai_Call 103 [.ref 0, .int x] (wl w) = some (some (.int (kb_q15 B x)), wl w) := by
  unfold kb_q15
  by_cases c1 : kb_ch x = true
  · obtain ⟨q, h1, h2, rfl⟩ := kb_ch_of c1
    rw [if_pos c1, nI_clamp (show q < 2 ^ 31 by omega)]
    simp only [e_103, o_0, r_103_0, r_103_1, r_103_4, r_103_7, r_103_8, r_103_11, r_103_12, r_103_15, r_103_18, r_103_20, Option.bind_some, Option.bind_none, Option.toList_some, Option.toList_none, List.cons_append, List.nil_append, Option.map_some, Option.map_none, eq_self, if_true, if_false, reduceIte, ai_bi_eq0, ai_bi_eq1, ai_pb_bi, ai_pb_0, ai_pb_1, f_0_1, x_isCh, c1, Bool.true_eq_false, x_deadByLatest h hk h2]
  · have c1' : kb_ch x = false := by simpa using c1
    simp only [e_103, o_0, r_103_0, r_103_1, r_103_4, r_103_7, r_103_8, r_103_11, r_103_12, r_103_15, r_103_18, r_103_20, Option.bind_some, Option.bind_none, Option.toList_some, Option.toList_none, List.cons_append, List.nil_append, Option.map_some, Option.map_none, eq_self, if_true, if_false, reduceIte, ai_bi_eq0, ai_bi_eq1, ai_pb_bi, ai_pb_0, ai_pb_1, x_isCh, c1', Bool.false_eq_true]
theorem s_deadAgain (h : kb_x (xw_b w) B) (hk : kb_ok B) (x : Int32) : ai_Call 106 [.ref 0, .int x] (wl w) = some (some (.int (kb_q15 B x)), wl w) := by
  unfold kb_q15
  by_cases c1 : kb_ch x = true
  · obtain ⟨q, h1, h2, rfl⟩ := kb_ch_of c1
    rw [if_pos c1, nI_clamp (show q < 2 ^ 31 by omega)]
    simp only [e_106, o_0, r_106_0, r_106_1, r_106_4, r_106_7, r_106_8, r_106_11, r_106_12, r_106_15, r_106_18, r_106_20, Option.bind_some, Option.bind_none, Option.toList_some, Option.toList_none, List.cons_append, List.nil_append, Option.map_some, Option.map_none, eq_self, if_true, if_false, reduceIte, ai_bi_eq0, ai_bi_eq1, ai_pb_bi, ai_pb_0, ai_pb_1, f_0_1, x_isCh, c1, Bool.true_eq_false, x_deadByChapters h hk ⟨h1, h2⟩]
  · have c1' : kb_ch x = false := by simpa using c1
    simp only [e_106, o_0, r_106_0, r_106_1, r_106_4, r_106_7, r_106_8, r_106_11, r_106_12, r_106_15, r_106_18, r_106_20, Option.bind_some, Option.bind_none, Option.toList_some, Option.toList_none, List.cons_append, List.nil_append, Option.map_some, Option.map_none, eq_self, if_true, if_false, reduceIte, ai_bi_eq0, ai_bi_eq1, ai_pb_bi, ai_pb_0, ai_pb_1, x_isCh, c1', Bool.false_eq_true]
theorem x_isYesOrNo (x : Int32) (ws : ai_W) : ai_Call 74 [.int x] ws = some (some (.int (ai_bi (decide (x = 0 ∨ x = 1)))), ws) := by
  by_cases c1 : x = 0
  · subst c1
    simp only [e_74, r_74_0, r_74_1, r_74_4, r_74_5, r_74_6, r_74_9, r_74_10, r_74_13, r_74_14, Option.bind_some, Option.bind_none, Option.toList_some, Option.toList_none, List.cons_append, List.nil_append, Option.map_some, Option.map_none, eq_self, if_true, if_false, reduceIte, ai_bi_eq0, ai_bi_eq1, ai_pb_bi, ai_pb_0, ai_pb_1, true_or, decide_true]
    rfl
  · by_cases c2 : x = 1
    · subst c2
      simp only [e_74, r_74_0, r_74_1, r_74_4, r_74_5, r_74_6, r_74_9, r_74_10, r_74_13, r_74_14, Option.bind_some, Option.bind_none, Option.toList_some, Option.toList_none, List.cons_append, List.nil_append, Option.map_some, Option.map_none, eq_self, if_true, if_false, reduceIte, ai_bi_eq0, ai_bi_eq1, ai_pb_bi, ai_pb_0, ai_pb_1, c1, or_true, decide_true]
      rfl
    · simp only [e_74, r_74_0, r_74_1, r_74_4, r_74_5, r_74_6, r_74_9, r_74_10, r_74_13, r_74_14, Option.bind_some, Option.bind_none, Option.toList_some, Option.toList_none, List.cons_append, List.nil_append, Option.map_some, Option.map_none, eq_self, if_true, if_false, reduceIte, ai_bi_eq0, ai_bi_eq1, ai_pb_bi, ai_pb_0, ai_pb_1, c1, c2, or_self, decide_false]
      rfl
theorem s_darkest (h : kb_x (xw_b w) B) (hk : kb_ok B) (x : Int32) : ai_Call 102 [.ref 0, .int x] (wl w) = some (some (.int (kb_q17 B x)), wl w) := by
  have hb := kb_bs_in (kb_dm B) 29
  have hc : ai_bc (nI (kb_set B (kb_bs (kb_dm B) 29))) = nI (kb_dm B (kb_bs (kb_dm B) 29)) := ai_bck hk.1
  unfold kb_q17
  by_cases c1 : x = 0
  · subst c1
    simp only [e_102, o_0, r_102_0, r_102_1, r_102_4, r_102_7, r_102_9, r_102_10, r_102_11, r_102_14, r_102_17, r_102_18, r_102_19, r_102_20, r_102_23, r_102_24, r_102_27, r_102_28, r_102_31, r_102_34, r_102_37, r_102_38, Option.bind_some, Option.bind_none, Option.toList_some, Option.toList_none, List.cons_append, List.nil_append, Option.map_some, Option.map_none, eq_self, if_true, if_false, reduceIte, ai_bi_eq0, ai_bi_eq1, ai_pb_bi, ai_pb_0, ai_pb_1, f_0_1, x_isYesOrNo, x_darkestChapter h hk, true_or, decide_true, Bool.true_eq_false, show ¬ (0 : Int32) = 1 by decide]
  · by_cases c2 : x = 1
    · subst c2
      simp only [e_102, o_0, r_102_0, r_102_1, r_102_4, r_102_7, r_102_9, r_102_10, r_102_11, r_102_14, r_102_17, r_102_18, r_102_19, r_102_20, r_102_23, r_102_24, r_102_27, r_102_28, r_102_31, r_102_34, r_102_37, r_102_38, Option.bind_some, Option.bind_none, Option.toList_some, Option.toList_none, List.cons_append, List.nil_append, Option.map_some, Option.map_none, eq_self, if_true, if_false, reduceIte, ai_bi_eq0, ai_bi_eq1, ai_pb_bi, ai_pb_0, ai_pb_1, f_0_1, x_isYesOrNo, x_darkestChapter h hk, x_deadByLatest h hk hb.2, x_bitCount, hc, or_true, decide_true, Bool.true_eq_false, c1]
    · simp only [e_102, o_0, r_102_0, r_102_1, r_102_4, r_102_7, r_102_9, r_102_10, r_102_11, r_102_14, r_102_17, r_102_18, r_102_19, r_102_20, r_102_23, r_102_24, r_102_27, r_102_28, r_102_31, r_102_34, r_102_37, r_102_38, Option.bind_some, Option.bind_none, Option.toList_some, Option.toList_none, List.cons_append, List.nil_append, Option.map_some, Option.map_none, eq_self, if_true, if_false, reduceIte, ai_bi_eq0, ai_bi_eq1, ai_pb_bi, ai_pb_0, ai_pb_1, f_0_1, x_isYesOrNo, c1, c2, or_self, decide_false]
theorem s_suspect (h : kb_x (xw_b w) B) (hk : kb_ok B) (x d : Int32) : ai_Call 148 [.ref 0, .int x, .int d] (wl w) = some (some (.int (kb_q18 B x d)), wl w) := by
  have hn := hk.1
  unfold kb_q18
  by_cases c1 : ai_is (kb_n B) x = true
  · obtain ⟨c, hc, rfl⟩ := ai_is_of (by omega) c1
    have hc8 : c < 8 := by omega
    rw [if_pos c1, nI_clamp (show c < 2 ^ 31 by omega)]
    have h3 := kb_d3 hk c
    by_cases c2 : ai_is (kb_d B c) d = true
    · obtain ⟨j, hj, rfl⟩ := ai_is_of (by omega) c2
      rw [if_pos c2, nI_clamp (show j < 2 ^ 31 by omega)]
      simp only [e_148, o_0, r_148_0, r_148_1, r_148_4, r_148_5, r_148_8, r_148_11, r_148_12, r_148_15, r_148_16, r_148_17, r_148_20, r_148_23, r_148_24, r_148_25, r_148_26, r_148_29, r_148_30, r_148_31, r_148_34, Option.bind_some, Option.bind_none, Option.toList_some, Option.toList_none, List.cons_append, List.nil_append, Option.map_some, Option.map_none, eq_self, if_true, if_false, reduceIte, ai_bi_eq0, ai_bi_eq1, ai_pb_bi, ai_pb_0, ai_pb_1, f_0_0, f_0_1, x_isCharacter h, x_isDeath h hk hc8, c1, c2, Bool.true_eq_false, x_suspectByCharacters h hk hc8 hj]
    · have c2' : ai_is (kb_d B c) d = false := by simpa using c2
      simp only [e_148, o_0, r_148_0, r_148_1, r_148_4, r_148_5, r_148_8, r_148_11, r_148_12, r_148_15, r_148_16, r_148_17, r_148_20, r_148_23, r_148_24, r_148_25, r_148_26, r_148_29, r_148_30, r_148_31, r_148_34, Option.bind_some, Option.bind_none, Option.toList_some, Option.toList_none, List.cons_append, List.nil_append, Option.map_some, Option.map_none, eq_self, if_true, if_false, reduceIte, ai_bi_eq0, ai_bi_eq1, ai_pb_bi, ai_pb_0, ai_pb_1, f_0_0, x_isCharacter h, x_isDeath h hk hc8, c1, c2', Bool.true_eq_false, Bool.false_eq_true]
  · have c1' : ai_is (kb_n B) x = false := by simpa using c1
    simp only [e_148, o_0, r_148_0, r_148_1, r_148_4, r_148_5, r_148_8, r_148_11, r_148_12, r_148_15, r_148_16, r_148_17, r_148_20, r_148_23, r_148_24, r_148_25, r_148_26, r_148_29, r_148_30, r_148_31, r_148_34, Option.bind_some, Option.bind_none, Option.toList_some, Option.toList_none, List.cons_append, List.nil_append, Option.map_some, Option.map_none, eq_self, if_true, if_false, reduceIte, ai_bi_eq0, ai_bi_eq1, ai_pb_bi, ai_pb_0, ai_pb_1, f_0_0, x_isCharacter h, c1', Bool.false_eq_true]
theorem s_suspectAgain (h : kb_x (xw_b w) B) (hk : kb_ok B) (x d : Int32) : ai_Call 149 [.ref 0, .int x, .int d] (wl w) = some (some (.int (kb_q18 B x d)), wl w) := by
  have hn := hk.1
  unfold kb_q18
  by_cases c1 : ai_is (kb_n B) x = true
  · obtain ⟨c, hc, rfl⟩ := ai_is_of (by omega) c1
    have hc8 : c < 8 := by omega
    rw [if_pos c1, nI_clamp (show c < 2 ^ 31 by omega)]
    have h3 := kb_d3 hk c
    by_cases c2 : ai_is (kb_d B c) d = true
    · obtain ⟨j, hj, rfl⟩ := ai_is_of (by omega) c2
      rw [if_pos c2, nI_clamp (show j < 2 ^ 31 by omega)]
      simp only [e_149, o_0, r_149_0, r_149_1, r_149_4, r_149_5, r_149_8, r_149_11, r_149_12, r_149_15, r_149_16, r_149_17, r_149_20, r_149_23, r_149_24, r_149_25, r_149_26, r_149_29, r_149_30, r_149_31, r_149_34, Option.bind_some, Option.bind_none, Option.toList_some, Option.toList_none, List.cons_append, List.nil_append, Option.map_some, Option.map_none, eq_self, if_true, if_false, reduceIte, ai_bi_eq0, ai_bi_eq1, ai_pb_bi, ai_pb_0, ai_pb_1, f_0_0, f_0_1, x_isCharacter h, x_isDeath h hk hc8, c1, c2, Bool.true_eq_false, x_suspectByPages h hk hc8 hj]
    · have c2' : ai_is (kb_d B c) d = false := by simpa using c2
      simp only [e_149, o_0, r_149_0, r_149_1, r_149_4, r_149_5, r_149_8, r_149_11, r_149_12, r_149_15, r_149_16, r_149_17, r_149_20, r_149_23, r_149_24, r_149_25, r_149_26, r_149_29, r_149_30, r_149_31, r_149_34, Option.bind_some, Option.bind_none, Option.toList_some, Option.toList_none, List.cons_append, List.nil_append, Option.map_some, Option.map_none, eq_self, if_true, if_false, reduceIte, ai_bi_eq0, ai_bi_eq1, ai_pb_bi, ai_pb_0, ai_pb_1, f_0_0, x_isCharacter h, x_isDeath h hk hc8, c1, c2', Bool.true_eq_false, Bool.false_eq_true]
  · have c1' : ai_is (kb_n B) x = false := by simpa using c1
    simp only [e_149, o_0, r_149_0, r_149_1, r_149_4, r_149_5, r_149_8, r_149_11, r_149_12, r_149_15, r_149_16, r_149_17, r_149_20, r_149_23, r_149_24, r_149_25, r_149_26, r_149_29, r_149_30, r_149_31, r_149_34, Option.bind_some, Option.bind_none, Option.toList_some, Option.toList_none, List.cons_append, List.nil_append, Option.map_some, Option.map_none, eq_self, if_true, if_false, reduceIte, ai_bi_eq0, ai_bi_eq1, ai_pb_bi, ai_pb_0, ai_pb_1, f_0_0, x_isCharacter h, c1', Bool.false_eq_true]
theorem s_guilty (h : kb_x (xw_b w) B) (hk : kb_ok B) (x y z : Int32) : ai_Call 110 [.ref 0, .int x, .int y, .int z] (wl w) = some (some (.int (kb_q20 B x y z)), wl w) := by
  have hn := hk.1
  unfold kb_q20
  by_cases c1 : kb_case B x y z = true
  · obtain ⟨c, o, d, hc, ho, hd, rfl, rfl, rfl⟩ := kb_case_of hk c1
    have h3 := kb_d3 hk o
    have hw := kb_w_le hk c o d
    rw [if_pos c1, nI_clamp (show c < 2 ^ 31 by omega), nI_clamp (show o < 2 ^ 31 by omega), nI_clamp (show d < 2 ^ 31 by omega)]
    by_cases c2 : nI c = nI o
    · have c9 : c = o := (nI_eq (by omega) (by omega)).mp c2
      subst c9
      simp only [e_110, o_0, r_110_0, r_110_1, r_110_4, r_110_5, r_110_6, r_110_7, r_110_10, r_110_13, r_110_14, r_110_15, r_110_16, r_110_17, r_110_20, r_110_22, r_110_23, r_110_24, r_110_27, r_110_28, r_110_31, r_110_32, r_110_33, r_110_34, r_110_37, r_110_40, Option.bind_some, Option.bind_none, Option.toList_some, Option.toList_none, List.cons_append, List.nil_append, Option.map_some, Option.map_none, eq_self, if_true, if_false, reduceIte, ai_bi_eq0, ai_bi_eq1, ai_pb_bi, ai_pb_0, ai_pb_1, f_0_0, x_isCase h hk, c1, Bool.true_eq_false]
    · simp only [e_110, o_0, r_110_0, r_110_1, r_110_4, r_110_5, r_110_6, r_110_7, r_110_10, r_110_13, r_110_14, r_110_15, r_110_16, r_110_17, r_110_20, r_110_22, r_110_23, r_110_24, r_110_27, r_110_28, r_110_31, r_110_32, r_110_33, r_110_34, r_110_37, r_110_40, Option.bind_some, Option.bind_none, Option.toList_some, Option.toList_none, List.cons_append, List.nil_append, Option.map_some, Option.map_none, eq_self, if_true, if_false, reduceIte, ai_bi_eq0, ai_bi_eq1, ai_pb_bi, ai_pb_0, ai_pb_1, f_0_0, f_0_1, f_0_2, x_isCase h hk, c1, Bool.true_eq_false, c2, x_weight h hk (show c < 8 by omega) (show o < 8 by omega) hd, x_votes h hk (show kb_w B c o d < 100 by omega)]
  · have c1' : kb_case B x y z = false := by simpa using c1
    simp only [e_110, o_0, r_110_0, r_110_1, r_110_4, r_110_5, r_110_6, r_110_7, r_110_10, r_110_13, r_110_14, r_110_15, r_110_16, r_110_17, r_110_20, r_110_22, r_110_23, r_110_24, r_110_27, r_110_28, r_110_31, r_110_32, r_110_33, r_110_34, r_110_37, r_110_40, Option.bind_some, Option.bind_none, Option.toList_some, Option.toList_none, List.cons_append, List.nil_append, Option.map_some, Option.map_none, eq_self, if_true, if_false, reduceIte, ai_bi_eq0, ai_bi_eq1, ai_pb_bi, ai_pb_0, ai_pb_1, f_0_0, x_isCase h hk, c1', Bool.false_eq_true]
theorem s_would (h : kb_x (xw_b w) B) (hk : kb_ok B) (u v x y z : Int32) : ai_Call 160 [.ref 0, .int u, .int v, .int x, .int y, .int z] (wl w) = some (some (.int (kb_q21 B u v x y z)), wl w) := by
  have hn := hk.1
  unfold kb_q21
  by_cases c0 : ai_is 7 u = true
  · obtain ⟨k, hk7, rfl⟩ := ai_is_of (by omega) c0
    rw [if_pos c0]
    by_cases c1 : kb_case B x y z = true
    · obtain ⟨c, o, d, hc, ho, hd, rfl, rfl, rfl⟩ := kb_case_of hk c1
      have h3 := kb_d3 hk o
      have hw := kb_w_le hk c o d
      rw [if_pos c1, nI_clamp (show c < 2 ^ 31 by omega), nI_clamp (show o < 2 ^ 31 by omega), nI_clamp (show d < 2 ^ 31 by omega), nI_clamp (show k < 2 ^ 31 by omega)]
      by_cases c3 : ai_sev v = true
      · obtain ⟨s, hs1, hs2, rfl⟩ := ai_sev_of c3
        rw [if_pos c3, nI_clamp (show s < 2 ^ 31 by omega)]
        by_cases c2 : nI c = nI o
        · have c9 : c = o := (nI_eq (by omega) (by omega)).mp c2
          subst c9
          simp only [e_160, o_0, r_160_0, r_160_1, r_160_4, r_160_7, r_160_8, r_160_11, r_160_12, r_160_14, r_160_16, r_160_19, r_160_22, r_160_23, r_160_24, r_160_25, r_160_28, r_160_31, r_160_32, r_160_34, r_160_37, r_160_39, r_160_40, r_160_41, r_160_44, r_160_45, r_160_47, r_160_49, r_160_52, r_160_54, r_160_55, r_160_58, r_160_59, r_160_60, r_160_62, r_160_65, r_160_68, r_160_69, r_160_72, r_160_73, Option.bind_some, Option.bind_none, Option.toList_some, Option.toList_none, List.cons_append, List.nil_append, Option.map_some, Option.map_none, eq_self, if_true, if_false, reduceIte, ai_bi_eq0, ai_bi_eq1, ai_pb_bi, ai_pb_0, ai_pb_1, f_0_0, x_isSeat, x_isSeverity, c0, c3, x_isCase h hk, c1, Bool.true_eq_false]
        · simp only [e_160, o_0, r_160_0, r_160_1, r_160_4, r_160_7, r_160_8, r_160_11, r_160_12, r_160_14, r_160_16, r_160_19, r_160_22, r_160_23, r_160_24, r_160_25, r_160_28, r_160_31, r_160_32, r_160_34, r_160_37, r_160_39, r_160_40, r_160_41, r_160_44, r_160_45, r_160_47, r_160_49, r_160_52, r_160_54, r_160_55, r_160_58, r_160_59, r_160_60, r_160_62, r_160_65, r_160_68, r_160_69, r_160_72, r_160_73, Option.bind_some, Option.bind_none, Option.toList_some, Option.toList_none, List.cons_append, List.nil_append, Option.map_some, Option.map_none, eq_self, if_true, if_false, reduceIte, ai_bi_eq0, ai_bi_eq1, ai_pb_bi, ai_pb_0, ai_pb_1, f_0_0, f_0_1, f_0_2, x_isSeat, x_isSeverity, c0, c3, x_isCase h hk, c1, Bool.true_eq_false, c2, x_weight h hk (show c < 8 by omega) (show o < 8 by omega) hd, x_wouldFindGuilty h hk hk7 ⟨hs1, hs2⟩ (show kb_w B c o d < 100 by omega)]
          cases decide (kb_sit (kb_wj B k s) < 2 * kb_votes (kb_wj B k s) (kb_w B c o d)) <;> rfl
      · have c3' : ai_sev v = false := by simpa using c3
        simp only [e_160, o_0, r_160_0, r_160_1, r_160_4, r_160_7, r_160_8, r_160_11, r_160_12, r_160_14, r_160_16, r_160_19, r_160_22, r_160_23, r_160_24, r_160_25, r_160_28, r_160_31, r_160_32, r_160_34, r_160_37, r_160_39, r_160_40, r_160_41, r_160_44, r_160_45, r_160_47, r_160_49, r_160_52, r_160_54, r_160_55, r_160_58, r_160_59, r_160_60, r_160_62, r_160_65, r_160_68, r_160_69, r_160_72, r_160_73, Option.bind_some, Option.bind_none, Option.toList_some, Option.toList_none, List.cons_append, List.nil_append, Option.map_some, Option.map_none, eq_self, if_true, if_false, reduceIte, ai_bi_eq0, ai_bi_eq1, ai_pb_bi, ai_pb_0, ai_pb_1, f_0_0, x_isSeat, x_isSeverity, c0, c3', x_isCase h hk, c1, Bool.true_eq_false, Bool.false_eq_true]
    · have c1' : kb_case B x y z = false := by simpa using c1
      simp only [e_160, o_0, r_160_0, r_160_1, r_160_4, r_160_7, r_160_8, r_160_11, r_160_12, r_160_14, r_160_16, r_160_19, r_160_22, r_160_23, r_160_24, r_160_25, r_160_28, r_160_31, r_160_32, r_160_34, r_160_37, r_160_39, r_160_40, r_160_41, r_160_44, r_160_45, r_160_47, r_160_49, r_160_52, r_160_54, r_160_55, r_160_58, r_160_59, r_160_60, r_160_62, r_160_65, r_160_68, r_160_69, r_160_72, r_160_73, Option.bind_some, Option.bind_none, Option.toList_some, Option.toList_none, List.cons_append, List.nil_append, Option.map_some, Option.map_none, eq_self, if_true, if_false, reduceIte, ai_bi_eq0, ai_bi_eq1, ai_pb_bi, ai_pb_0, ai_pb_1, f_0_0, x_isSeat, c0, x_isCase h hk, c1', Bool.true_eq_false, Bool.false_eq_true]
  · have c0' : ai_is 7 u = false := by simpa using c0
    simp only [e_160, o_0, r_160_0, r_160_1, r_160_4, r_160_7, r_160_8, r_160_11, r_160_12, r_160_14, r_160_16, r_160_19, r_160_22, r_160_23, r_160_24, r_160_25, r_160_28, r_160_31, r_160_32, r_160_34, r_160_37, r_160_39, r_160_40, r_160_41, r_160_44, r_160_45, r_160_47, r_160_49, r_160_52, r_160_54, r_160_55, r_160_58, r_160_59, r_160_60, r_160_62, r_160_65, r_160_68, r_160_69, r_160_72, r_160_73, Option.bind_some, Option.bind_none, Option.toList_some, Option.toList_none, List.cons_append, List.nil_append, Option.map_some, Option.map_none, eq_self, if_true, if_false, reduceIte, ai_bi_eq0, ai_bi_eq1, ai_pb_bi, ai_pb_0, ai_pb_1, x_isSeat, c0', Bool.false_eq_true]
theorem s_ranked (h : kb_x (xw_b w) B) (hk : kb_ok B) (k p : Int32) : ∃ f, ai_Call 123 [.ref 0, .int k, .int p] (wl w) = some (some (.int (kb_q22 B k p)), wl (xw_wky w f)) := by
  unfold kb_q22
  by_cases c0 : ai_is 4 k = true
  · obtain ⟨j, hj, rfl⟩ := ai_is_of (by omega) c0
    rw [if_pos c0, nI_clamp (show j < 2 ^ 31 by omega)]
    have c1 : ¬ nI j < 0 := nI_pos (by omega)
    have c2 : nI j < 4 := nI_lt (b := 4) hj (by decide)
    refine ⟨kb_kys B j (xw_ky w) (kb_many B j), ?_⟩
    simp only [e_123, o_0, r_123_0, r_123_1, r_123_4, r_123_5, r_123_6, r_123_9, r_123_11, r_123_12, r_123_13, r_123_16, r_123_17, r_123_18, r_123_21, Option.bind_some, Option.bind_none, Option.toList_some, Option.toList_none, List.cons_append, List.nil_append, Option.map_some, Option.map_none, eq_self, if_true, if_false, reduceIte, ai_bi_eq0, ai_bi_eq1, ai_pb_bi, ai_pb_0, ai_pb_1, c1, c2, f_0_3, x_atPlace h hk hj]
  · rw [if_neg c0]
    unfold ai_is at c0
    rw [decide_eq_true_eq] at c0
    refine ⟨xw_ky w, ?_⟩
    by_cases c1 : k < 0
    · simp only [e_123, o_0, r_123_0, r_123_1, r_123_4, r_123_5, r_123_6, r_123_9, r_123_11, r_123_12, r_123_13, r_123_16, r_123_17, r_123_18, r_123_21, Option.bind_some, Option.bind_none, Option.toList_some, Option.toList_none, List.cons_append, List.nil_append, Option.map_some, Option.map_none, eq_self, if_true, if_false, reduceIte, ai_bi_eq0, ai_bi_eq1, ai_pb_bi, ai_pb_0, ai_pb_1, c1]
    · have c2 : ¬ k < 4 := fun z => c0 ⟨c1, z⟩
      simp only [e_123, o_0, r_123_0, r_123_1, r_123_4, r_123_5, r_123_6, r_123_9, r_123_11, r_123_12, r_123_13, r_123_16, r_123_17, r_123_18, r_123_21, Option.bind_some, Option.bind_none, Option.toList_some, Option.toList_none, List.cons_append, List.nil_append, Option.map_some, Option.map_none, eq_self, if_true, if_false, reduceIte, ai_bi_eq0, ai_bi_eq1, ai_pb_bi, ai_pb_0, ai_pb_1, c1, c2]
theorem s_isWell (h : kb_x (xw_b w) B) (hk : kb_ok B) : ai_Call 116 [.ref 0] (wl w) = some (some (.int 1), wl w) := by
  simp only [e_116, o_0, r_116_0, r_116_1, r_116_4, r_116_7, r_116_10, r_116_11, r_116_14, r_116_17, r_116_20, r_116_21, r_116_24, r_116_27, r_116_30, r_116_31, r_116_34, r_116_35, Option.bind_some, Option.bind_none, Option.toList_some, Option.toList_none, List.cons_append, List.nil_append, Option.map_some, Option.map_none, eq_self, if_true, if_false, reduceIte, ai_bi_eq0, ai_bi_eq1, ai_pb_bi, ai_pb_0, ai_pb_1, f_0_1, x_deadAgree h hk, x_suspectsAgree h hk, x_turnsAreInOrder h hk, show ¬ (1 : Int32) = 0 by decide]
end XB

