/-! The class's commands. -/
section XB
variable {w : xw_W} {B : kb_B}
theorem x_last (h : kb_x (xw_b w) B) (hk : kb_ok B) {c : Nat} (hc : c < 8) : ai_Call 65 [.ref 1, .int (nI c)] (wl w) = some (some (.int (nI (kb_la B c))), wl w) := x_lastChapter h hk hc
theorem la_le (hk : kb_ok B) (c : Nat) : kb_la B c ≤ 30 := by
  unfold kb_la
  split
  · omega
  · exact (hk.2.2.2.2.1 c _ (by omega)).2
theorem d_add (B : kb_B) {c q : Nat} (hT : kb_T B c % 2 = 0) : kb_d (kb_add B c q) c = kb_d B c + 1 := by
  show (up (kb_T B) c (kb_T B c + 1) c + 1) / 2 = (kb_T B c + 1) / 2 + 1
  rw [up_at]
  omega
theorem x_canTurn (h : kb_x (xw_b w) B) (hk : kb_ok B) {c q : Nat} (hc : c < 8) (hq : q ≤ 30) : ai_Call 66 [.ref 22, .int (nI c), .int (nI q)] (wl w) = some (some (.int (ai_bi (decide (kb_la B c < q ∧ kb_T B c ≠ 6)))), wl (if q ≤ kb_la B c then kx_w w (xw_b w) (some (2, nI (kb_la B c))) else if kb_T B c = 6 then kx_w w (xw_b w) (some (1, 6)) else w)) := by
  have h6 := hk.2.2.1 c
  have hl := la_le hk c
  by_cases c1 : q ≤ kb_la B c
  · have c2 : ¬ nI (kb_la B c) < nI q := nI_nlt c1 (by omega)
    rw [decide_eq_false (by omega), if_pos c1]
    simp only [e_66, o_22, r_66_0, r_66_1, r_66_4, r_66_5, r_66_8, r_66_9, r_66_10, r_66_11, r_66_14, r_66_15, r_66_18, r_66_19, r_66_20, r_66_23, r_66_24, r_66_25, r_66_26, r_66_27, r_66_30, r_66_33, r_66_34, r_66_37, r_66_39, r_66_41, r_66_43, r_66_46, r_66_47, r_66_50, r_66_51, r_66_53, r_66_56, r_66_57, r_66_58, r_66_59, r_66_60, Option.bind_some, Option.bind_none, Option.toList_some, Option.toList_none, List.cons_append, List.nil_append, Option.map_some, Option.map_none, eq_self, if_true, if_false, reduceIte, ai_bi_eq0, ai_bi_eq1, ai_pb_bi, ai_pb_0, ai_pb_1, f_22_0, f_22_3, x_last h hk hc, c2, x_refuse]
    rfl
  · have c2 : nI (kb_la B c) < nI q := nI_lt (by omega) (by omega)
    rw [if_neg c1]
    by_cases c3 : kb_T B c = 6
    · have c4 : ¬ nI (kb_T B c) < 6 := by rw [c3]; decide
      have e6 : nI (kb_T B c) = 6 := by rw [c3]; rfl
      rw [decide_eq_false (by omega), if_pos c3]
      simp only [e_66, o_22, r_66_0, r_66_1, r_66_4, r_66_5, r_66_8, r_66_9, r_66_10, r_66_11, r_66_14, r_66_15, r_66_18, r_66_19, r_66_20, r_66_23, r_66_24, r_66_25, r_66_26, r_66_27, r_66_30, r_66_33, r_66_34, r_66_37, r_66_39, r_66_41, r_66_43, r_66_46, r_66_47, r_66_50, r_66_51, r_66_53, r_66_56, r_66_57, r_66_58, r_66_59, r_66_60, Option.bind_some, Option.bind_none, Option.toList_some, Option.toList_none, List.cons_append, List.nil_append, Option.map_some, Option.map_none, eq_self, if_true, if_false, reduceIte, ai_bi_eq0, ai_bi_eq1, ai_pb_bi, ai_pb_0, ai_pb_1, f_22_0, f_22_3, f_1_3, x_last h hk hc, c2, x_turns h hc, e6, show ¬ (6 : Int32) < 6 by decide, x_refuse]
      rfl
    · have c4 : nI (kb_T B c) < 6 := nI_lt (b := 6) (by omega) (by decide)
      rw [decide_eq_true (by omega), if_neg c3]
      simp only [e_66, o_22, r_66_0, r_66_1, r_66_4, r_66_5, r_66_8, r_66_9, r_66_10, r_66_11, r_66_14, r_66_15, r_66_18, r_66_19, r_66_20, r_66_23, r_66_24, r_66_25, r_66_26, r_66_27, r_66_30, r_66_33, r_66_34, r_66_37, r_66_39, r_66_41, r_66_43, r_66_46, r_66_47, r_66_50, r_66_51, r_66_53, r_66_56, r_66_57, r_66_58, r_66_59, r_66_60, Option.bind_some, Option.bind_none, Option.toList_some, Option.toList_none, List.cons_append, List.nil_append, Option.map_some, Option.map_none, eq_self, if_true, if_false, reduceIte, ai_bi_eq0, ai_bi_eq1, ai_pb_bi, ai_pb_0, ai_pb_1, f_22_0, f_22_3, f_1_3, x_last h hk hc, c2, x_turns h hc, c4]
      rfl
theorem c_die (h : kb_x (xw_b w) B) (hk : kb_ok B) (x y : Int32) : kx_is w (kc_die B x y) (ai_Call 68 [.ref 22, .int x, .int y] (wl w)) := by
  have hn := hk.1
  unfold kc_die
  by_cases c1 : ai_is (kb_n B) x = true
  · obtain ⟨c, hc, rfl⟩ := ai_is_of (by omega) c1
    have hc8 : c < 8 := by omega
    rw [if_pos c1, nI_clamp (show c < 2 ^ 31 by omega)]
    by_cases c2 : kb_ch y = true
    · obtain ⟨q, hq1, hq2, rfl⟩ := kb_ch_of c2
      rw [if_pos c2, nI_clamp (show q < 2 ^ 31 by omega)]
      by_cases c3 : kb_T B c % 2 = 1
      · rw [if_pos c3]
        refine ⟨xw_b w, h, ?_⟩
        simp only [e_68, o_22, r_68_0, r_68_1, r_68_4, r_68_5, r_68_8, r_68_11, r_68_12, r_68_13, r_68_14, r_68_17, r_68_20, r_68_22, r_68_23, r_68_24, r_68_27, r_68_28, r_68_31, r_68_34, r_68_35, r_68_38, r_68_39, r_68_40, r_68_43, r_68_44, r_68_47, r_68_50, r_68_51, r_68_52, r_68_53, r_68_54, r_68_57, r_68_60, r_68_62, r_68_63, r_68_64, r_68_67, r_68_68, r_68_69, r_68_72, r_68_73, r_68_76, r_68_77, r_68_80, Option.bind_some, Option.bind_none, Option.toList_some, Option.toList_none, List.cons_append, List.nil_append, Option.map_some, Option.map_none, eq_self, if_true, if_false, reduceIte, ai_bi_eq0, ai_bi_eq1, ai_pb_bi, ai_pb_0, ai_pb_1, f_22_0, f_22_3, x_isCharacter h, c1, x_isCh, c2, x_isDeadAtLast h hk hc8, c3, decide_true, Bool.true_eq_false, x_deaths h hk hc8, x_refuse]
      · rw [if_neg c3]
        have ec := x_canTurn h hk hc8 hq2
        unfold kc_turn
        by_cases c4 : q ≤ kb_la B c
        · rw [if_pos c4]
          rw [decide_eq_false (by omega), if_pos c4] at ec
          refine ⟨xw_b w, h, ?_⟩
          simp only [e_68, o_22, r_68_0, r_68_1, r_68_4, r_68_5, r_68_8, r_68_11, r_68_12, r_68_13, r_68_14, r_68_17, r_68_20, r_68_22, r_68_23, r_68_24, r_68_27, r_68_28, r_68_31, r_68_34, r_68_35, r_68_38, r_68_39, r_68_40, r_68_43, r_68_44, r_68_47, r_68_50, r_68_51, r_68_52, r_68_53, r_68_54, r_68_57, r_68_60, r_68_62, r_68_63, r_68_64, r_68_67, r_68_68, r_68_69, r_68_72, r_68_73, r_68_76, r_68_77, r_68_80, Option.bind_some, Option.bind_none, Option.toList_some, Option.toList_none, List.cons_append, List.nil_append, Option.map_some, Option.map_none, eq_self, if_true, if_false, reduceIte, ai_bi_eq0, ai_bi_eq1, ai_pb_bi, ai_pb_0, ai_pb_1, f_22_0, f_22_3, x_isCharacter h, c1, x_isCh, c2, x_isDeadAtLast h hk hc8, c3, decide_false, Bool.true_eq_false, Bool.false_eq_true, ec]
        · rw [if_neg c4]
          rw [if_neg c4] at ec
          by_cases c5 : kb_T B c = 6
          · rw [if_pos c5]
            rw [decide_eq_false (by omega), if_pos c5] at ec
            refine ⟨xw_b w, h, ?_⟩
            simp only [e_68, o_22, r_68_0, r_68_1, r_68_4, r_68_5, r_68_8, r_68_11, r_68_12, r_68_13, r_68_14, r_68_17, r_68_20, r_68_22, r_68_23, r_68_24, r_68_27, r_68_28, r_68_31, r_68_34, r_68_35, r_68_38, r_68_39, r_68_40, r_68_43, r_68_44, r_68_47, r_68_50, r_68_51, r_68_52, r_68_53, r_68_54, r_68_57, r_68_60, r_68_62, r_68_63, r_68_64, r_68_67, r_68_68, r_68_69, r_68_72, r_68_73, r_68_76, r_68_77, r_68_80, Option.bind_some, Option.bind_none, Option.toList_some, Option.toList_none, List.cons_append, List.nil_append, Option.map_some, Option.map_none, eq_self, if_true, if_false, reduceIte, ai_bi_eq0, ai_bi_eq1, ai_pb_bi, ai_pb_0, ai_pb_1, f_22_0, f_22_3, x_isCharacter h, c1, x_isCh, c2, x_isDeadAtLast h hk hc8, c3, decide_false, Bool.true_eq_false, Bool.false_eq_true, ec]
          · rw [if_neg c5]
            rw [decide_eq_true (by omega), if_neg c5] at ec
            have h6 := hk.2.2.1 c
            have hx := kx_add h hk hc8 (show kb_T B c < 6 by omega) (q := q)
            have hk2 := ok_add hk hc (show kb_T B c < 6 by omega) hq1 hq2 (show kb_la B c < q by omega)
            have ea := x_addTurn h hc8 (show kb_T B c < 6 by omega) q
            refine ⟨_, hx, ?_⟩
            have hx2 := hx
            generalize (xb_wtu (xb_wch (xw_b w) (upd (xb_ch (xw_b w)) (c * 6 + kb_T B c) (nI q))) (upd (xb_tu (xw_b w)) c (nI (kb_T B c + 1)))) = b2 at ea hx2 ⊢
            have ed := x_deaths (w := xw_wb w b2) hx2 hk2 hc8
            rw [d_add B (by omega)] at ed
            simp only [e_68, o_22, r_68_0, r_68_1, r_68_4, r_68_5, r_68_8, r_68_11, r_68_12, r_68_13, r_68_14, r_68_17, r_68_20, r_68_22, r_68_23, r_68_24, r_68_27, r_68_28, r_68_31, r_68_34, r_68_35, r_68_38, r_68_39, r_68_40, r_68_43, r_68_44, r_68_47, r_68_50, r_68_51, r_68_52, r_68_53, r_68_54, r_68_57, r_68_60, r_68_62, r_68_63, r_68_64, r_68_67, r_68_68, r_68_69, r_68_72, r_68_73, r_68_76, r_68_77, r_68_80, Option.bind_some, Option.bind_none, Option.toList_some, Option.toList_none, List.cons_append, List.nil_append, Option.map_some, Option.map_none, eq_self, if_true, if_false, reduceIte, ai_bi_eq0, ai_bi_eq1, ai_pb_bi, ai_pb_0, ai_pb_1, f_22_0, f_22_3, x_isCharacter h, c1, x_isCh, c2, x_isDeadAtLast h hk hc8, c3, decide_false, Bool.true_eq_false, Bool.false_eq_true, ec, ea, ed]
            rfl
    · have c2' : kb_ch y = false := by simpa using c2
      rw [if_neg c2]
      refine ⟨xw_b w, h, ?_⟩
      simp only [e_68, o_22, r_68_0, r_68_1, r_68_4, r_68_5, r_68_8, r_68_11, r_68_12, r_68_13, r_68_14, r_68_17, r_68_20, r_68_22, r_68_23, r_68_24, r_68_27, r_68_28, r_68_31, r_68_34, r_68_35, r_68_38, r_68_39, r_68_40, r_68_43, r_68_44, r_68_47, r_68_50, r_68_51, r_68_52, r_68_53, r_68_54, r_68_57, r_68_60, r_68_62, r_68_63, r_68_64, r_68_67, r_68_68, r_68_69, r_68_72, r_68_73, r_68_76, r_68_77, r_68_80, Option.bind_some, Option.bind_none, Option.toList_some, Option.toList_none, List.cons_append, List.nil_append, Option.map_some, Option.map_none, eq_self, if_true, if_false, reduceIte, ai_bi_eq0, ai_bi_eq1, ai_pb_bi, ai_pb_0, ai_pb_1, f_22_0, x_isCharacter h, c1, x_isCh, c2', Bool.true_eq_false, Bool.false_eq_true]
      rfl
  · have c1' : ai_is (kb_n B) x = false := by simpa using c1
    rw [if_neg c1]
    refine ⟨xw_b w, h, ?_⟩
    simp only [e_68, o_22, r_68_0, r_68_1, r_68_4, r_68_5, r_68_8, r_68_11, r_68_12, r_68_13, r_68_14, r_68_17, r_68_20, r_68_22, r_68_23, r_68_24, r_68_27, r_68_28, r_68_31, r_68_34, r_68_35, r_68_38, r_68_39, r_68_40, r_68_43, r_68_44, r_68_47, r_68_50, r_68_51, r_68_52, r_68_53, r_68_54, r_68_57, r_68_60, r_68_62, r_68_63, r_68_64, r_68_67, r_68_68, r_68_69, r_68_72, r_68_73, r_68_76, r_68_77, r_68_80, Option.bind_some, Option.bind_none, Option.toList_some, Option.toList_none, List.cons_append, List.nil_append, Option.map_some, Option.map_none, eq_self, if_true, if_false, reduceIte, ai_bi_eq0, ai_bi_eq1, ai_pb_bi, ai_pb_0, ai_pb_1, f_22_0, x_isCharacter h, c1', Bool.true_eq_false, Bool.false_eq_true]
    rfl
theorem c_rise (h : kb_x (xw_b w) B) (hk : kb_ok B) (x y : Int32) : kx_is w (kc_rise B x y) (ai_Call 69 [.ref 22, .int x, .int y] (wl w)) := by
  have hn := hk.1
  unfold kc_rise
  by_cases c1 : ai_is (kb_n B) x = true
  · obtain ⟨c, hc, rfl⟩ := ai_is_of (by omega) c1
    have hc8 : c < 8 := by omega
    rw [if_pos c1, nI_clamp (show c < 2 ^ 31 by omega)]
    by_cases c2 : kb_ch y = true
    · obtain ⟨q, hq1, hq2, rfl⟩ := kb_ch_of c2
      rw [if_pos c2, nI_clamp (show q < 2 ^ 31 by omega)]
      by_cases c3 : kb_T B c % 2 = 1
      · rw [if_pos c3]
        have ec := x_canTurn h hk hc8 hq2
        unfold kc_turn
        by_cases c4 : q ≤ kb_la B c
        · rw [if_pos c4]
          rw [decide_eq_false (by omega), if_pos c4] at ec
          refine ⟨xw_b w, h, ?_⟩
          simp only [e_69, o_22, r_69_0, r_69_1, r_69_4, r_69_5, r_69_8, r_69_11, r_69_12, r_69_13, r_69_14, r_69_17, r_69_20, r_69_22, r_69_23, r_69_24, r_69_27, r_69_28, r_69_31, r_69_34, r_69_35, r_69_38, r_69_39, r_69_40, r_69_43, r_69_44, r_69_47, r_69_50, r_69_51, r_69_52, r_69_53, r_69_54, r_69_57, r_69_60, r_69_62, r_69_63, r_69_64, r_69_67, r_69_68, r_69_71, r_69_72, r_69_73, r_69_76, r_69_77, r_69_78, r_69_81, r_69_82, r_69_83, r_69_84, Option.bind_some, Option.bind_none, Option.toList_some, Option.toList_none, List.cons_append, List.nil_append, Option.map_some, Option.map_none, eq_self, if_true, if_false, reduceIte, ai_bi_eq0, ai_bi_eq1, ai_pb_bi, ai_pb_0, ai_pb_1, f_22_0, f_22_3, x_isCharacter h, c1, x_isCh, c2, x_isDeadAtLast h hk hc8, c3, decide_true, Bool.true_eq_false, Bool.false_eq_true, ec]
        · rw [if_neg c4]
          rw [if_neg c4] at ec
          rw [if_neg (by omega)]
          rw [decide_eq_true (by omega), if_neg (by omega)] at ec
          have h6 := hk.2.2.1 c
          have hx := kx_add h hk hc8 (show kb_T B c < 6 by omega) (q := q)
          have ea := x_addTurn h hc8 (show kb_T B c < 6 by omega) q
          have es : nI q - nI (kb_la B c) = nI (q - kb_la B c) := pk_sub (a := q) (b := kb_la B c) (by omega)
          refine ⟨_, hx, ?_⟩
          simp only [e_69, o_22, r_69_0, r_69_1, r_69_4, r_69_5, r_69_8, r_69_11, r_69_12, r_69_13, r_69_14, r_69_17, r_69_20, r_69_22, r_69_23, r_69_24, r_69_27, r_69_28, r_69_31, r_69_34, r_69_35, r_69_38, r_69_39, r_69_40, r_69_43, r_69_44, r_69_47, r_69_50, r_69_51, r_69_52, r_69_53, r_69_54, r_69_57, r_69_60, r_69_62, r_69_63, r_69_64, r_69_67, r_69_68, r_69_71, r_69_72, r_69_73, r_69_76, r_69_77, r_69_78, r_69_81, r_69_82, r_69_83, r_69_84, Option.bind_some, Option.bind_none, Option.toList_some, Option.toList_none, List.cons_append, List.nil_append, Option.map_some, Option.map_none, eq_self, if_true, if_false, reduceIte, ai_bi_eq0, ai_bi_eq1, ai_pb_bi, ai_pb_0, ai_pb_1, f_22_0, f_22_3, x_isCharacter h, c1, x_isCh, c2, x_isDeadAtLast h hk hc8, c3, decide_true, Bool.true_eq_false, Bool.false_eq_true, ec, x_last h hk hc8, ea, es]
          rfl
      · rw [if_neg c3]
        refine ⟨xw_b w, h, ?_⟩
        simp only [e_69, o_22, r_69_0, r_69_1, r_69_4, r_69_5, r_69_8, r_69_11, r_69_12, r_69_13, r_69_14, r_69_17, r_69_20, r_69_22, r_69_23, r_69_24, r_69_27, r_69_28, r_69_31, r_69_34, r_69_35, r_69_38, r_69_39, r_69_40, r_69_43, r_69_44, r_69_47, r_69_50, r_69_51, r_69_52, r_69_53, r_69_54, r_69_57, r_69_60, r_69_62, r_69_63, r_69_64, r_69_67, r_69_68, r_69_71, r_69_72, r_69_73, r_69_76, r_69_77, r_69_78, r_69_81, r_69_82, r_69_83, r_69_84, Option.bind_some, Option.bind_none, Option.toList_some, Option.toList_none, List.cons_append, List.nil_append, Option.map_some, Option.map_none, eq_self, if_true, if_false, reduceIte, ai_bi_eq0, ai_bi_eq1, ai_pb_bi, ai_pb_0, ai_pb_1, f_22_0, f_22_3, x_isCharacter h, c1, x_isCh, c2, x_isDeadAtLast h hk hc8, c3, decide_false, Bool.true_eq_false, Bool.false_eq_true, x_deaths h hk hc8, x_refuse]
    · have c2' : kb_ch y = false := by simpa using c2
      rw [if_neg c2]
      refine ⟨xw_b w, h, ?_⟩
      simp only [e_69, o_22, r_69_0, r_69_1, r_69_4, r_69_5, r_69_8, r_69_11, r_69_12, r_69_13, r_69_14, r_69_17, r_69_20, r_69_22, r_69_23, r_69_24, r_69_27, r_69_28, r_69_31, r_69_34, r_69_35, r_69_38, r_69_39, r_69_40, r_69_43, r_69_44, r_69_47, r_69_50, r_69_51, r_69_52, r_69_53, r_69_54, r_69_57, r_69_60, r_69_62, r_69_63, r_69_64, r_69_67, r_69_68, r_69_71, r_69_72, r_69_73, r_69_76, r_69_77, r_69_78, r_69_81, r_69_82, r_69_83, r_69_84, Option.bind_some, Option.bind_none, Option.toList_some, Option.toList_none, List.cons_append, List.nil_append, Option.map_some, Option.map_none, eq_self, if_true, if_false, reduceIte, ai_bi_eq0, ai_bi_eq1, ai_pb_bi, ai_pb_0, ai_pb_1, f_22_0, x_isCharacter h, c1, x_isCh, c2', Bool.true_eq_false, Bool.false_eq_true]
      rfl
  · have c1' : ai_is (kb_n B) x = false := by simpa using c1
    rw [if_neg c1]
    refine ⟨xw_b w, h, ?_⟩
    simp only [e_69, o_22, r_69_0, r_69_1, r_69_4, r_69_5, r_69_8, r_69_11, r_69_12, r_69_13, r_69_14, r_69_17, r_69_20, r_69_22, r_69_23, r_69_24, r_69_27, r_69_28, r_69_31, r_69_34, r_69_35, r_69_38, r_69_39, r_69_40, r_69_43, r_69_44, r_69_47, r_69_50, r_69_51, r_69_52, r_69_53, r_69_54, r_69_57, r_69_60, r_69_62, r_69_63, r_69_64, r_69_67, r_69_68, r_69_71, r_69_72, r_69_73, r_69_76, r_69_77, r_69_78, r_69_81, r_69_82, r_69_83, r_69_84, Option.bind_some, Option.bind_none, Option.toList_some, Option.toList_none, List.cons_append, List.nil_append, Option.map_some, Option.map_none, eq_self, if_true, if_false, reduceIte, ai_bi_eq0, ai_bi_eq1, ai_pb_bi, ai_pb_0, ai_pb_1, f_22_0, x_isCharacter h, c1', Bool.true_eq_false, Bool.false_eq_true]
    rfl
theorem c_strike (h : kb_x (xw_b w) B) (hk : kb_ok B) (x : Int32) : kx_is w (kc_strike B x) (ai_Call 72 [.ref 22, .int x] (wl w)) := by
  have hn := hk.1
  unfold kc_strike
  by_cases c1 : ai_is (kb_n B) x = true
  · obtain ⟨c, hc, rfl⟩ := ai_is_of (by omega) c1
    have hc8 : c < 8 := by omega
    have h6 := hk.2.2.1 c
    rw [if_pos c1, nI_clamp (show c < 2 ^ 31 by omega)]
    by_cases c2 : kb_T B c = 0
    · rw [if_pos c2]
      have e1 : nI (kb_T B c) = 0 := by rw [c2]; rfl
      have e2 : nI (kb_d B c) = 0 := by unfold kb_d; rw [c2]; rfl
      refine ⟨xw_b w, h, ?_⟩
      simp only [e_72, o_22, r_72_0, r_72_1, r_72_4, r_72_5, r_72_8, r_72_11, r_72_12, r_72_13, r_72_14, r_72_17, r_72_20, r_72_21, r_72_24, r_72_27, r_72_28, r_72_31, r_72_32, r_72_33, r_72_36, r_72_37, r_72_40, r_72_43, r_72_44, r_72_45, r_72_48, r_72_49, r_72_52, r_72_53, r_72_54, r_72_57, r_72_58, r_72_61, r_72_62, Option.bind_some, Option.bind_none, Option.toList_some, Option.toList_none, List.cons_append, List.nil_append, Option.map_some, Option.map_none, eq_self, if_true, if_false, reduceIte, ai_bi_eq0, ai_bi_eq1, ai_pb_bi, ai_pb_0, ai_pb_1, f_22_0, f_22_3, f_1_3, x_isCharacter h, c1, x_turns h hc8, e1, x_deaths h hk hc8, e2, Bool.true_eq_false, x_refuse]
    · rw [if_neg c2]
      have e1 : ¬ nI (kb_T B c) = 0 := fun z => c2 ((nI_eq (a := kb_T B c) (b := 0) (by omega) (by decide)).mp z)
      obtain ⟨b, hb, eb⟩ := x_removeLastTurn h hk hc8 c2
      refine ⟨b, hb, ?_⟩
      simp only [e_72, o_22, r_72_0, r_72_1, r_72_4, r_72_5, r_72_8, r_72_11, r_72_12, r_72_13, r_72_14, r_72_17, r_72_20, r_72_21, r_72_24, r_72_27, r_72_28, r_72_31, r_72_32, r_72_33, r_72_36, r_72_37, r_72_40, r_72_43, r_72_44, r_72_45, r_72_48, r_72_49, r_72_52, r_72_53, r_72_54, r_72_57, r_72_58, r_72_61, r_72_62, Option.bind_some, Option.bind_none, Option.toList_some, Option.toList_none, List.cons_append, List.nil_append, Option.map_some, Option.map_none, eq_self, if_true, if_false, reduceIte, ai_bi_eq0, ai_bi_eq1, ai_pb_bi, ai_pb_0, ai_pb_1, f_22_0, f_22_3, f_1_3, x_isCharacter h, c1, x_turns h hc8, e1, x_last h hk hc8, eb, Bool.true_eq_false]
      rfl
  · have c1' : ai_is (kb_n B) x = false := by simpa using c1
    rw [if_neg c1]
    refine ⟨xw_b w, h, ?_⟩
    simp only [e_72, o_22, r_72_0, r_72_1, r_72_4, r_72_5, r_72_8, r_72_11, r_72_12, r_72_13, r_72_14, r_72_17, r_72_20, r_72_21, r_72_24, r_72_27, r_72_28, r_72_31, r_72_32, r_72_33, r_72_36, r_72_37, r_72_40, r_72_43, r_72_44, r_72_45, r_72_48, r_72_49, r_72_52, r_72_53, r_72_54, r_72_57, r_72_58, r_72_61, r_72_62, Option.bind_some, Option.bind_none, Option.toList_some, Option.toList_none, List.cons_append, List.nil_append, Option.map_some, Option.map_none, eq_self, if_true, if_false, reduceIte, ai_bi_eq0, ai_bi_eq1, ai_pb_bi, ai_pb_0, ai_pb_1, f_22_0, x_isCharacter h, c1', Bool.true_eq_false, Bool.false_eq_true]
    rfl
theorem c_write (h : kb_x (xw_b w) B) (hk : kb_ok B) (x y : Int32) : kx_is w (kc_write B x y) (ai_Call 73 [.ref 22, .int x, .int y] (wl w)) := by
  unfold kc_write
  by_cases c1 : ai_is (kb_a B) y = true
  · rw [if_pos c1]
    by_cases c2 : kb_ch x = true
    · obtain ⟨q, hq1, hq2, rfl⟩ := kb_ch_of c2
      rw [if_pos c2, nI_clamp (show q < 2 ^ 31 by omega)]
      by_cases c3 : kb_W B q = y
      · rw [if_pos c3]
        refine ⟨xw_b w, h, ?_⟩
        simp only [e_73, o_22, r_73_0, r_73_1, r_73_4, r_73_5, r_73_8, r_73_11, r_73_12, r_73_13, r_73_14, r_73_17, r_73_20, r_73_22, r_73_23, r_73_24, r_73_27, r_73_30, r_73_31, r_73_34, r_73_35, r_73_36, r_73_37, r_73_40, r_73_41, r_73_44, r_73_45, r_73_46, r_73_49, r_73_50, r_73_51, r_73_54, r_73_57, r_73_58, r_73_59, r_73_62, r_73_63, Option.bind_some, Option.bind_none, Option.toList_some, Option.toList_none, List.cons_append, List.nil_append, Option.map_some, Option.map_none, eq_self, if_true, if_false, reduceIte, ai_bi_eq0, ai_bi_eq1, ai_pb_bi, ai_pb_0, ai_pb_1, f_22_0, f_22_3, f_1_6, x_isAuthor h, c1, x_isCh, c2, x_wr h hq2, c3, Bool.true_eq_false, x_refuse]
      · rw [if_neg c3]
        refine ⟨_, kx_W h q y, ?_⟩
        simp only [e_73, o_22, r_73_0, r_73_1, r_73_4, r_73_5, r_73_8, r_73_11, r_73_12, r_73_13, r_73_14, r_73_17, r_73_20, r_73_22, r_73_23, r_73_24, r_73_27, r_73_30, r_73_31, r_73_34, r_73_35, r_73_36, r_73_37, r_73_40, r_73_41, r_73_44, r_73_45, r_73_46, r_73_49, r_73_50, r_73_51, r_73_54, r_73_57, r_73_58, r_73_59, r_73_62, r_73_63, Option.bind_some, Option.bind_none, Option.toList_some, Option.toList_none, List.cons_append, List.nil_append, Option.map_some, Option.map_none, eq_self, if_true, if_false, reduceIte, ai_bi_eq0, ai_bi_eq1, ai_pb_bi, ai_pb_0, ai_pb_1, f_22_0, f_22_3, f_1_6, x_isAuthor h, c1, x_isCh, c2, x_wr h hq2, c3, Bool.true_eq_false, x_set_wr w (show q < 31 by omega)]
        rfl
    · have c2' : kb_ch x = false := by simpa using c2
      rw [if_neg c2]
      refine ⟨xw_b w, h, ?_⟩
      simp only [e_73, o_22, r_73_0, r_73_1, r_73_4, r_73_5, r_73_8, r_73_11, r_73_12, r_73_13, r_73_14, r_73_17, r_73_20, r_73_22, r_73_23, r_73_24, r_73_27, r_73_30, r_73_31, r_73_34, r_73_35, r_73_36, r_73_37, r_73_40, r_73_41, r_73_44, r_73_45, r_73_46, r_73_49, r_73_50, r_73_51, r_73_54, r_73_57, r_73_58, r_73_59, r_73_62, r_73_63, Option.bind_some, Option.bind_none, Option.toList_some, Option.toList_none, List.cons_append, List.nil_append, Option.map_some, Option.map_none, eq_self, if_true, if_false, reduceIte, ai_bi_eq0, ai_bi_eq1, ai_pb_bi, ai_pb_0, ai_pb_1, f_22_0, x_isAuthor h, c1, x_isCh, c2', Bool.true_eq_false, Bool.false_eq_true]
      rfl
  · have c1' : ai_is (kb_a B) y = false := by simpa using c1
    rw [if_neg c1]
    refine ⟨xw_b w, h, ?_⟩
    simp only [e_73, o_22, r_73_0, r_73_1, r_73_4, r_73_5, r_73_8, r_73_11, r_73_12, r_73_13, r_73_14, r_73_17, r_73_20, r_73_22, r_73_23, r_73_24, r_73_27, r_73_30, r_73_31, r_73_34, r_73_35, r_73_36, r_73_37, r_73_40, r_73_41, r_73_44, r_73_45, r_73_46, r_73_49, r_73_50, r_73_51, r_73_54, r_73_57, r_73_58, r_73_59, r_73_62, r_73_63, Option.bind_some, Option.bind_none, Option.toList_some, Option.toList_none, List.cons_append, List.nil_append, Option.map_some, Option.map_none, eq_self, if_true, if_false, reduceIte, ai_bi_eq0, ai_bi_eq1, ai_pb_bi, ai_pb_0, ai_pb_1, f_22_0, x_isAuthor h, c1', Bool.true_eq_false, Bool.false_eq_true]
    rfl
end XB

