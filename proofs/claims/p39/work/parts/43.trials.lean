/-! The class's other commands. -/
section XB
variable {w : xw_W} {B : kb_B}
theorem x_swornAt (h : kb_x (xw_b w) B) {i : Nat} (hi : i < 4) : ai_Call 12 [.ref 10, .int (nI i)] (wl w) = some (some (.int (nI (kb_S B i))), wl w) := by rw [x_get_sw, ai_rgn (by omega) (by decide), h.2.2.2.2.2.2.2.1 i hi]
theorem c_swear (h : kb_x (xw_b w) B) (hk : kb_ok B) (x y : Int32) : kx_is w (kc_swear B x y) (ai_Call 75 [.ref 22, .int x, .int y] (wl w)) := by
  have ha := hk.2.1
  unfold kc_swear
  by_cases c1 : ai_is (kb_a B) x = true
  · obtain ⟨i, hi, rfl⟩ := ai_is_of (by omega) c1
    have hi4 : i < 4 := by omega
    rw [if_pos c1, nI_clamp (show i < 2 ^ 31 by omega)]
    by_cases c2 : y = 0 ∨ y = 1
    · rw [if_pos c2]
      by_cases c3 : nI (kb_S B i) = y
      · rw [if_pos c3]
        refine ⟨xw_b w, h, ?_⟩
        simp only [e_75, o_22, r_75_0, r_75_1, r_75_4, r_75_5, r_75_8, r_75_11, r_75_12, r_75_13, r_75_14, r_75_17, r_75_20, r_75_22, r_75_23, r_75_24, r_75_27, r_75_30, r_75_31, r_75_34, r_75_35, r_75_38, r_75_39, r_75_42, r_75_43, r_75_44, r_75_47, r_75_48, r_75_49, r_75_52, r_75_55, r_75_56, r_75_57, r_75_60, r_75_61, r_75_64, r_75_67, Option.bind_some, Option.bind_none, Option.toList_some, Option.toList_none, List.cons_append, List.nil_append, Option.map_some, Option.map_none, eq_self, if_true, if_false, reduceIte, ai_bi_eq0, ai_bi_eq1, ai_pb_bi, ai_pb_0, ai_pb_1, f_22_0, f_22_3, f_1_7, x_isAuthor h, c1, x_isYesOrNo, c2, decide_true, x_swornAt h hi4, c3, Bool.true_eq_false, x_refuse]
      · rw [if_neg c3]
        obtain ⟨v, hv, rfl⟩ : ∃ v, v ≤ 1 ∧ y = nI v := by
          rcases c2 with rfl | rfl
          · exact ⟨0, by decide, rfl⟩
          · exact ⟨1, by decide, rfl⟩
        rw [nI_clamp (show v < 2 ^ 31 by omega)]
        have hx := kx_S h i v
        have ep := x_set_sw w hi4 (nI v)
        refine ⟨_, hx, ?_⟩
        have hx2 := hx
        generalize xb_wsw (xw_b w) (upd (xb_sw (xw_b w)) i (nI v)) = b2 at ep hx2 ⊢
        have es := x_swornAuthors (w := xw_wb w b2) hx2 (ok_S hk hv)
        simp only [e_75, o_22, r_75_0, r_75_1, r_75_4, r_75_5, r_75_8, r_75_11, r_75_12, r_75_13, r_75_14, r_75_17, r_75_20, r_75_22, r_75_23, r_75_24, r_75_27, r_75_30, r_75_31, r_75_34, r_75_35, r_75_38, r_75_39, r_75_42, r_75_43, r_75_44, r_75_47, r_75_48, r_75_49, r_75_52, r_75_55, r_75_56, r_75_57, r_75_60, r_75_61, r_75_64, r_75_67, Option.bind_some, Option.bind_none, Option.toList_some, Option.toList_none, List.cons_append, List.nil_append, Option.map_some, Option.map_none, eq_self, if_true, if_false, reduceIte, ai_bi_eq0, ai_bi_eq1, ai_pb_bi, ai_pb_0, ai_pb_1, f_22_0, f_22_3, f_1_7, x_isAuthor h, c1, x_isYesOrNo, c2, decide_true, x_swornAt h hi4, c3, Bool.true_eq_false, ep, es]
        rfl
    · rw [if_neg c2]
      refine ⟨xw_b w, h, ?_⟩
      simp only [e_75, o_22, r_75_0, r_75_1, r_75_4, r_75_5, r_75_8, r_75_11, r_75_12, r_75_13, r_75_14, r_75_17, r_75_20, r_75_22, r_75_23, r_75_24, r_75_27, r_75_30, r_75_31, r_75_34, r_75_35, r_75_38, r_75_39, r_75_42, r_75_43, r_75_44, r_75_47, r_75_48, r_75_49, r_75_52, r_75_55, r_75_56, r_75_57, r_75_60, r_75_61, r_75_64, r_75_67, Option.bind_some, Option.bind_none, Option.toList_some, Option.toList_none, List.cons_append, List.nil_append, Option.map_some, Option.map_none, eq_self, if_true, if_false, reduceIte, ai_bi_eq0, ai_bi_eq1, ai_pb_bi, ai_pb_0, ai_pb_1, f_22_0, x_isAuthor h, c1, x_isYesOrNo, c2, decide_false, Bool.true_eq_false, Bool.false_eq_true]
      rfl
  · have c1' : ai_is (kb_a B) x = false := by simpa using c1
    rw [if_neg c1]
    refine ⟨xw_b w, h, ?_⟩
    simp only [e_75, o_22, r_75_0, r_75_1, r_75_4, r_75_5, r_75_8, r_75_11, r_75_12, r_75_13, r_75_14, r_75_17, r_75_20, r_75_22, r_75_23, r_75_24, r_75_27, r_75_30, r_75_31, r_75_34, r_75_35, r_75_38, r_75_39, r_75_42, r_75_43, r_75_44, r_75_47, r_75_48, r_75_49, r_75_52, r_75_55, r_75_56, r_75_57, r_75_60, r_75_61, r_75_64, r_75_67, Option.bind_some, Option.bind_none, Option.toList_some, Option.toList_none, List.cons_append, List.nil_append, Option.map_some, Option.map_none, eq_self, if_true, if_false, reduceIte, ai_bi_eq0, ai_bi_eq1, ai_pb_bi, ai_pb_0, ai_pb_1, f_22_0, x_isAuthor h, c1', Bool.true_eq_false, Bool.false_eq_true]
    rfl
theorem ten_of {z : Int32} (h : ¬ ai_is 10 z = true) : z < 0 ∨ (¬ z < 0 ∧ 9 < z) := by
  by_cases c : z < 0
  · exact Or.inl c
  · refine Or.inr ⟨c, ?_⟩
    obtain ⟨j, hj, rfl⟩ := nI_of c
    refine nI_lt (a := 9) ?_ hj
    rcases Nat.lt_or_ge 9 j with q | q
    · exact q
    · refine absurd ?_ h
      unfold ai_is
      rw [decide_eq_true_eq]
      exact ⟨c, nI_lt (b := 10) (by omega) (by decide)⟩
theorem c_motive (h : kb_x (xw_b w) B) (hk : kb_ok B) (x y z : Int32) : kx_is w (kc_motive B x y z) (ai_Call 77 [.ref 22, .int x, .int y, .int z] (wl w)) := by
  have hn := hk.1
  unfold kc_motive
  by_cases c1 : ai_is (kb_n B) x = true
  · obtain ⟨c, hc, rfl⟩ := ai_is_of (by omega) c1
    rw [if_pos c1, nI_clamp (show c < 2 ^ 31 by omega)]
    by_cases c2 : ai_is (kb_n B) y = true
    · obtain ⟨o, ho, rfl⟩ := ai_is_of (by omega) c2
      rw [if_pos c2, nI_clamp (show o < 2 ^ 31 by omega)]
      by_cases c3 : ai_is 10 z = true
      · obtain ⟨v, hv, rfl⟩ := ai_is_of (by omega) c3
        rw [if_pos c3, nI_clamp (show v < 2 ^ 31 by omega)]
        have v1 : ¬ nI v < 0 := nI_pos (by omega)
        have v2 : ¬ 9 < nI v := nI_nlt (b := v) (a := 9) (by omega) (by decide)
        by_cases c4 : nI c = nI o
        · have c9 : c = o := (nI_eq (by omega) (by omega)).mp c4
          subst c9
          rw [if_pos rfl]
          refine ⟨xw_b w, h, ?_⟩
          simp only [e_77, o_22, r_77_0, r_77_1, r_77_4, r_77_5, r_77_8, r_77_11, r_77_12, r_77_15, r_77_16, r_77_19, r_77_22, r_77_23, r_77_24, r_77_25, r_77_28, r_77_29, r_77_31, r_77_34, r_77_36, r_77_37, r_77_38, r_77_39, r_77_42, r_77_43, r_77_46, r_77_48, r_77_49, r_77_52, r_77_53, r_77_54, r_77_57, r_77_58, r_77_59, r_77_62, r_77_64, r_77_66, r_77_67, r_77_70, r_77_71, r_77_74, r_77_75, r_77_76, r_77_79, r_77_80, r_77_81, r_77_84, r_77_87, r_77_88, r_77_90, r_77_91, r_77_92, r_77_93, r_77_94, r_77_97, r_77_99, Option.bind_some, Option.bind_none, Option.toList_some, Option.toList_none, List.cons_append, List.nil_append, Option.map_some, Option.map_none, eq_self, if_true, if_false, reduceIte, ai_bi_eq0, ai_bi_eq1, ai_pb_bi, ai_pb_0, ai_pb_1, f_22_0, f_22_3, x_isCharacter h, c1, v1, v2, Bool.true_eq_false, x_refuse]
        · rw [if_neg c4]
          by_cases c5 : nI (kb_M B c o) = nI v
          · rw [if_pos c5]
            refine ⟨xw_b w, h, ?_⟩
            simp only [e_77, o_22, r_77_0, r_77_1, r_77_4, r_77_5, r_77_8, r_77_11, r_77_12, r_77_15, r_77_16, r_77_19, r_77_22, r_77_23, r_77_24, r_77_25, r_77_28, r_77_29, r_77_31, r_77_34, r_77_36, r_77_37, r_77_38, r_77_39, r_77_42, r_77_43, r_77_46, r_77_48, r_77_49, r_77_52, r_77_53, r_77_54, r_77_57, r_77_58, r_77_59, r_77_62, r_77_64, r_77_66, r_77_67, r_77_70, r_77_71, r_77_74, r_77_75, r_77_76, r_77_79, r_77_80, r_77_81, r_77_84, r_77_87, r_77_88, r_77_90, r_77_91, r_77_92, r_77_93, r_77_94, r_77_97, r_77_99, Option.bind_some, Option.bind_none, Option.toList_some, Option.toList_none, List.cons_append, List.nil_append, Option.map_some, Option.map_none, eq_self, if_true, if_false, reduceIte, ai_bi_eq0, ai_bi_eq1, ai_pb_bi, ai_pb_0, ai_pb_1, f_22_0, f_22_3, x_isCharacter h, c1, c2, v1, v2, c4, x_motivePages h (show c < 8 by omega) (show o < 8 by omega), c5, Bool.true_eq_false, x_refuse]
          · rw [if_neg c5]
            refine ⟨_, kx_M h (c := c) (show o < 8 by omega) v, ?_⟩
            simp only [e_77, o_22, r_77_0, r_77_1, r_77_4, r_77_5, r_77_8, r_77_11, r_77_12, r_77_15, r_77_16, r_77_19, r_77_22, r_77_23, r_77_24, r_77_25, r_77_28, r_77_29, r_77_31, r_77_34, r_77_36, r_77_37, r_77_38, r_77_39, r_77_42, r_77_43, r_77_46, r_77_48, r_77_49, r_77_52, r_77_53, r_77_54, r_77_57, r_77_58, r_77_59, r_77_62, r_77_64, r_77_66, r_77_67, r_77_70, r_77_71, r_77_74, r_77_75, r_77_76, r_77_79, r_77_80, r_77_81, r_77_84, r_77_87, r_77_88, r_77_90, r_77_91, r_77_92, r_77_93, r_77_94, r_77_97, r_77_99, Option.bind_some, Option.bind_none, Option.toList_some, Option.toList_none, List.cons_append, List.nil_append, Option.map_some, Option.map_none, eq_self, if_true, if_false, reduceIte, ai_bi_eq0, ai_bi_eq1, ai_pb_bi, ai_pb_0, ai_pb_1, f_22_0, f_22_3, f_1_8, x_isCharacter h, c1, c2, v1, v2, c4, x_motivePages h (show c < 8 by omega) (show o < 8 by omega), c5, Bool.true_eq_false, n_8, pk_mul, nI_add, x_set_mo w (show c * 8 + o < 64 by omega)]
            rfl
      · rw [if_neg c3]
        refine ⟨xw_b w, h, ?_⟩
        rcases ten_of c3 with v1 | ⟨v1, v2⟩
        · simp only [e_77, o_22, r_77_0, r_77_1, r_77_4, r_77_5, r_77_8, r_77_11, r_77_12, r_77_15, r_77_16, r_77_19, r_77_22, r_77_23, r_77_24, r_77_25, r_77_28, r_77_29, r_77_31, r_77_34, r_77_36, r_77_37, r_77_38, r_77_39, r_77_42, r_77_43, r_77_46, r_77_48, r_77_49, r_77_52, r_77_53, r_77_54, r_77_57, r_77_58, r_77_59, r_77_62, r_77_64, r_77_66, r_77_67, r_77_70, r_77_71, r_77_74, r_77_75, r_77_76, r_77_79, r_77_80, r_77_81, r_77_84, r_77_87, r_77_88, r_77_90, r_77_91, r_77_92, r_77_93, r_77_94, r_77_97, r_77_99, Option.bind_some, Option.bind_none, Option.toList_some, Option.toList_none, List.cons_append, List.nil_append, Option.map_some, Option.map_none, eq_self, if_true, if_false, reduceIte, ai_bi_eq0, ai_bi_eq1, ai_pb_bi, ai_pb_0, ai_pb_1, f_22_0, x_isCharacter h, c1, c2, v1, Bool.true_eq_false]
          rfl
        · simp only [e_77, o_22, r_77_0, r_77_1, r_77_4, r_77_5, r_77_8, r_77_11, r_77_12, r_77_15, r_77_16, r_77_19, r_77_22, r_77_23, r_77_24, r_77_25, r_77_28, r_77_29, r_77_31, r_77_34, r_77_36, r_77_37, r_77_38, r_77_39, r_77_42, r_77_43, r_77_46, r_77_48, r_77_49, r_77_52, r_77_53, r_77_54, r_77_57, r_77_58, r_77_59, r_77_62, r_77_64, r_77_66, r_77_67, r_77_70, r_77_71, r_77_74, r_77_75, r_77_76, r_77_79, r_77_80, r_77_81, r_77_84, r_77_87, r_77_88, r_77_90, r_77_91, r_77_92, r_77_93, r_77_94, r_77_97, r_77_99, Option.bind_some, Option.bind_none, Option.toList_some, Option.toList_none, List.cons_append, List.nil_append, Option.map_some, Option.map_none, eq_self, if_true, if_false, reduceIte, ai_bi_eq0, ai_bi_eq1, ai_pb_bi, ai_pb_0, ai_pb_1, f_22_0, x_isCharacter h, c1, c2, v1, v2, Bool.true_eq_false]
          rfl
    · have c2' : ai_is (kb_n B) y = false := by simpa using c2
      rw [if_neg c2]
      refine ⟨xw_b w, h, ?_⟩
      simp only [e_77, o_22, r_77_0, r_77_1, r_77_4, r_77_5, r_77_8, r_77_11, r_77_12, r_77_15, r_77_16, r_77_19, r_77_22, r_77_23, r_77_24, r_77_25, r_77_28, r_77_29, r_77_31, r_77_34, r_77_36, r_77_37, r_77_38, r_77_39, r_77_42, r_77_43, r_77_46, r_77_48, r_77_49, r_77_52, r_77_53, r_77_54, r_77_57, r_77_58, r_77_59, r_77_62, r_77_64, r_77_66, r_77_67, r_77_70, r_77_71, r_77_74, r_77_75, r_77_76, r_77_79, r_77_80, r_77_81, r_77_84, r_77_87, r_77_88, r_77_90, r_77_91, r_77_92, r_77_93, r_77_94, r_77_97, r_77_99, Option.bind_some, Option.bind_none, Option.toList_some, Option.toList_none, List.cons_append, List.nil_append, Option.map_some, Option.map_none, eq_self, if_true, if_false, reduceIte, ai_bi_eq0, ai_bi_eq1, ai_pb_bi, ai_pb_0, ai_pb_1, f_22_0, x_isCharacter h, c1, c2', Bool.true_eq_false, Bool.false_eq_true]
      rfl
  · have c1' : ai_is (kb_n B) x = false := by simpa using c1
    rw [if_neg c1]
    refine ⟨xw_b w, h, ?_⟩
    simp only [e_77, o_22, r_77_0, r_77_1, r_77_4, r_77_5, r_77_8, r_77_11, r_77_12, r_77_15, r_77_16, r_77_19, r_77_22, r_77_23, r_77_24, r_77_25, r_77_28, r_77_29, r_77_31, r_77_34, r_77_36, r_77_37, r_77_38, r_77_39, r_77_42, r_77_43, r_77_46, r_77_48, r_77_49, r_77_52, r_77_53, r_77_54, r_77_57, r_77_58, r_77_59, r_77_62, r_77_64, r_77_66, r_77_67, r_77_70, r_77_71, r_77_74, r_77_75, r_77_76, r_77_79, r_77_80, r_77_81, r_77_84, r_77_87, r_77_88, r_77_90, r_77_91, r_77_92, r_77_93, r_77_94, r_77_97, r_77_99, Option.bind_some, Option.bind_none, Option.toList_some, Option.toList_none, List.cons_append, List.nil_append, Option.map_some, Option.map_none, eq_self, if_true, if_false, reduceIte, ai_bi_eq0, ai_bi_eq1, ai_pb_bi, ai_pb_0, ai_pb_1, f_22_0, x_isCharacter h, c1', Bool.true_eq_false, Bool.false_eq_true]
    rfl
theorem c_seat (h : kb_x (xw_b w) B) (hk : kb_ok B) (x y : Int32) : kx_is w (kc_seat B x y) (ai_Call 81 [.ref 22, .int x, .int y] (wl w)) := by
  unfold kc_seat
  by_cases c1 : ai_is 7 x = true
  · obtain ⟨k, hk7, rfl⟩ := ai_is_of (by omega) c1
    rw [if_pos c1, nI_clamp (show k < 2 ^ 31 by omega)]
    by_cases c2 : ai_sev y = true
    · obtain ⟨s, hs1, hs2, rfl⟩ := ai_sev_of c2
      rw [if_pos c2, nI_clamp (show s < 2 ^ 31 by omega)]
      by_cases c3 : 0 < kb_J B k
      · rw [if_pos c3]
        refine ⟨xw_b w, h, ?_⟩
        simp only [e_81, o_22, r_81_0, r_81_1, r_81_4, r_81_7, r_81_8, r_81_9, r_81_10, r_81_13, r_81_16, r_81_18, r_81_19, r_81_20, r_81_23, r_81_24, r_81_27, r_81_30, r_81_31, r_81_34, r_81_36, r_81_37, r_81_40, r_81_41, r_81_42, r_81_45, r_81_48, r_81_49, r_81_50, r_81_53, r_81_54, r_81_57, r_81_60, Option.bind_some, Option.bind_none, Option.toList_some, Option.toList_none, List.cons_append, List.nil_append, Option.map_some, Option.map_none, eq_self, if_true, if_false, reduceIte, ai_bi_eq0, ai_bi_eq1, ai_pb_bi, ai_pb_0, ai_pb_1, f_22_0, f_22_2, f_22_3, x_isSeat, c1, x_isSeverity, c2, x_isTaken h hk hk7, c3, decide_true, Bool.true_eq_false, x_refuse]
      · rw [if_neg c3]
        have hx := kx_J h k s
        have ep := x_set_se w hk7 (nI s)
        refine ⟨_, hx, ?_⟩
        have hx2 := hx
        generalize xb_wse (xw_b w) (upd (xb_se (xw_b w)) k (nI s)) = b2 at ep hx2 ⊢
        have es := x_sitting (w := xw_wb w b2) hx2 (ok_J hk hs2)
        simp only [e_81, o_22, r_81_0, r_81_1, r_81_4, r_81_7, r_81_8, r_81_9, r_81_10, r_81_13, r_81_16, r_81_18, r_81_19, r_81_20, r_81_23, r_81_24, r_81_27, r_81_30, r_81_31, r_81_34, r_81_36, r_81_37, r_81_40, r_81_41, r_81_42, r_81_45, r_81_48, r_81_49, r_81_50, r_81_53, r_81_54, r_81_57, r_81_60, Option.bind_some, Option.bind_none, Option.toList_some, Option.toList_none, List.cons_append, List.nil_append, Option.map_some, Option.map_none, eq_self, if_true, if_false, reduceIte, ai_bi_eq0, ai_bi_eq1, ai_pb_bi, ai_pb_0, ai_pb_1, f_22_0, f_22_2, f_22_3, f_1_9, x_isSeat, c1, x_isSeverity, c2, x_isTaken h hk hk7, c3, decide_false, Bool.true_eq_false, Bool.false_eq_true, ep, es]
        rfl
    · have c2' : ai_sev y = false := by simpa using c2
      rw [if_neg c2]
      refine ⟨xw_b w, h, ?_⟩
      simp only [e_81, o_22, r_81_0, r_81_1, r_81_4, r_81_7, r_81_8, r_81_9, r_81_10, r_81_13, r_81_16, r_81_18, r_81_19, r_81_20, r_81_23, r_81_24, r_81_27, r_81_30, r_81_31, r_81_34, r_81_36, r_81_37, r_81_40, r_81_41, r_81_42, r_81_45, r_81_48, r_81_49, r_81_50, r_81_53, r_81_54, r_81_57, r_81_60, Option.bind_some, Option.bind_none, Option.toList_some, Option.toList_none, List.cons_append, List.nil_append, Option.map_some, Option.map_none, eq_self, if_true, if_false, reduceIte, ai_bi_eq0, ai_bi_eq1, ai_pb_bi, ai_pb_0, ai_pb_1, f_22_0, x_isSeat, c1, x_isSeverity, c2', Bool.true_eq_false, Bool.false_eq_true]
      rfl
  · have c1' : ai_is 7 x = false := by simpa using c1
    rw [if_neg c1]
    refine ⟨xw_b w, h, ?_⟩
    simp only [e_81, o_22, r_81_0, r_81_1, r_81_4, r_81_7, r_81_8, r_81_9, r_81_10, r_81_13, r_81_16, r_81_18, r_81_19, r_81_20, r_81_23, r_81_24, r_81_27, r_81_30, r_81_31, r_81_34, r_81_36, r_81_37, r_81_40, r_81_41, r_81_42, r_81_45, r_81_48, r_81_49, r_81_50, r_81_53, r_81_54, r_81_57, r_81_60, Option.bind_some, Option.bind_none, Option.toList_some, Option.toList_none, List.cons_append, List.nil_append, Option.map_some, Option.map_none, eq_self, if_true, if_false, reduceIte, ai_bi_eq0, ai_bi_eq1, ai_pb_bi, ai_pb_0, ai_pb_1, f_22_0, x_isSeat, c1', Bool.true_eq_false, Bool.false_eq_true]
    rfl
theorem c_leave (h : kb_x (xw_b w) B) (hk : kb_ok B) (x : Int32) : kx_is w (kc_leave B x) (ai_Call 79 [.ref 22, .int x] (wl w)) := by
  unfold kc_leave
  by_cases c1 : ai_is 7 x = true
  · obtain ⟨k, hk7, rfl⟩ := ai_is_of (by omega) c1
    rw [if_pos c1, nI_clamp (show k < 2 ^ 31 by omega)]
    by_cases c3 : 0 < kb_J B k
    · rw [if_pos c3]
      have hx := kx_J h k 0
      have ep := x_set_se w hk7 (nI 0)
      refine ⟨_, hx, ?_⟩
      have hx2 := hx
      generalize xb_wse (xw_b w) (upd (xb_se (xw_b w)) k (nI 0)) = b2 at ep hx2 ⊢
      have es := x_sitting (w := xw_wb w b2) hx2 (ok_J hk (by omega))
      rw [show nI 0 = 0 from rfl] at ep
      simp only [e_79, o_22, r_79_0, r_79_1, r_79_4, r_79_7, r_79_8, r_79_9, r_79_10, r_79_13, r_79_14, r_79_17, r_79_20, r_79_21, r_79_24, r_79_26, r_79_27, r_79_30, r_79_31, r_79_32, r_79_35, r_79_38, r_79_39, r_79_40, r_79_43, r_79_44, r_79_47, r_79_50, Option.bind_some, Option.bind_none, Option.toList_some, Option.toList_none, List.cons_append, List.nil_append, Option.map_some, Option.map_none, eq_self, if_true, if_false, reduceIte, ai_bi_eq0, ai_bi_eq1, ai_pb_bi, ai_pb_0, ai_pb_1, f_22_0, f_22_2, f_22_3, f_1_9, x_isSeat, c1, x_isTaken h hk hk7, c3, decide_true, Bool.true_eq_false, Bool.false_eq_true, ep, es]
      rfl
    · rw [if_neg c3]
      refine ⟨xw_b w, h, ?_⟩
      simp only [e_79, o_22, r_79_0, r_79_1, r_79_4, r_79_7, r_79_8, r_79_9, r_79_10, r_79_13, r_79_14, r_79_17, r_79_20, r_79_21, r_79_24, r_79_26, r_79_27, r_79_30, r_79_31, r_79_32, r_79_35, r_79_38, r_79_39, r_79_40, r_79_43, r_79_44, r_79_47, r_79_50, Option.bind_some, Option.bind_none, Option.toList_some, Option.toList_none, List.cons_append, List.nil_append, Option.map_some, Option.map_none, eq_self, if_true, if_false, reduceIte, ai_bi_eq0, ai_bi_eq1, ai_pb_bi, ai_pb_0, ai_pb_1, f_22_0, f_22_2, f_22_3, x_isSeat, c1, x_isTaken h hk hk7, c3, decide_false, Bool.true_eq_false, Bool.false_eq_true, x_refuse]
  · have c1' : ai_is 7 x = false := by simpa using c1
    rw [if_neg c1]
    refine ⟨xw_b w, h, ?_⟩
    simp only [e_79, o_22, r_79_0, r_79_1, r_79_4, r_79_7, r_79_8, r_79_9, r_79_10, r_79_13, r_79_14, r_79_17, r_79_20, r_79_21, r_79_24, r_79_26, r_79_27, r_79_30, r_79_31, r_79_32, r_79_35, r_79_38, r_79_39, r_79_40, r_79_43, r_79_44, r_79_47, r_79_50, Option.bind_some, Option.bind_none, Option.toList_some, Option.toList_none, List.cons_append, List.nil_append, Option.map_some, Option.map_none, eq_self, if_true, if_false, reduceIte, ai_bi_eq0, ai_bi_eq1, ai_pb_bi, ai_pb_0, ai_pb_1, f_22_0, x_isSeat, c1', Bool.true_eq_false, Bool.false_eq_true]
    rfl
theorem c_trial (h : kb_x (xw_b w) B) (hk : kb_ok B) (x y z : Int32) : kx_is w (kc_trial B x y z) (ai_Call 90 [.ref 22, .int x, .int y, .int z] (wl w)) := by
  have hn := hk.1
  unfold kc_trial
  by_cases c1 : kb_case B x y z = true
  · obtain ⟨c, o, d, hc, ho, hd, rfl, rfl, rfl⟩ := kb_case_of hk c1
    have h3 := kb_d3 hk o
    have hw := kb_w_le hk c o d
    rw [if_pos c1, nI_clamp (show c < 2 ^ 31 by omega), nI_clamp (show o < 2 ^ 31 by omega), nI_clamp (show d < 2 ^ 31 by omega)]
    by_cases c2 : nI c = nI o
    · have c9 : c = o := (nI_eq (by omega) (by omega)).mp c2
      subst c9
      rw [if_pos rfl]
      refine ⟨xw_b w, h, ?_⟩
      simp only [e_90, o_22, r_90_0, r_90_1, r_90_4, r_90_5, r_90_6, r_90_7, r_90_10, r_90_13, r_90_14, r_90_15, r_90_16, r_90_17, r_90_20, r_90_21, r_90_24, r_90_26, r_90_27, r_90_30, r_90_31, r_90_32, r_90_35, r_90_36, r_90_37, r_90_40, r_90_43, r_90_44, r_90_47, r_90_49, r_90_50, r_90_53, r_90_54, r_90_55, r_90_58, r_90_61, r_90_62, r_90_63, r_90_66, r_90_67, r_90_68, r_90_69, r_90_72, r_90_75, r_90_76, r_90_79, r_90_81, r_90_82, r_90_85, r_90_86, r_90_87, r_90_90, r_90_93, r_90_94, r_90_95, r_90_98, r_90_101, r_90_104, r_90_105, r_90_108, r_90_110, r_90_111, r_90_114, r_90_117, r_90_120, r_90_121, r_90_122, r_90_125, r_90_126, r_90_129, r_90_130, r_90_131, r_90_134, r_90_135, r_90_138, r_90_139, r_90_142, r_90_143, r_90_144, r_90_145, r_90_148, r_90_151, r_90_154, r_90_155, r_90_156, r_90_157, r_90_160, r_90_161, r_90_162, r_90_163, r_90_166, r_90_167, Option.bind_some, Option.bind_none, Option.toList_some, Option.toList_none, List.cons_append, List.nil_append, Option.map_some, Option.map_none, eq_self, if_true, if_false, reduceIte, ai_bi_eq0, ai_bi_eq1, ai_pb_bi, ai_pb_0, ai_pb_1, f_22_0, f_22_3, x_isCase h hk, c1, Bool.true_eq_false, x_refuse]
    · rw [if_neg c2]
      by_cases c3 : kb_C B o d = (-4)
      · rw [if_pos c3]
        by_cases c4 : kb_could B c o d = true
        · rw [if_pos c4]
          by_cases c5 : kb_sit B = 0
          · rw [if_pos c5]
            have e5 : nI (kb_sit B) = 0 := by rw [c5]; rfl
            refine ⟨xw_b w, h, ?_⟩
            simp only [e_90, o_22, r_90_0, r_90_1, r_90_4, r_90_5, r_90_6, r_90_7, r_90_10, r_90_13, r_90_14, r_90_15, r_90_16, r_90_17, r_90_20, r_90_21, r_90_24, r_90_26, r_90_27, r_90_30, r_90_31, r_90_32, r_90_35, r_90_36, r_90_37, r_90_40, r_90_43, r_90_44, r_90_47, r_90_49, r_90_50, r_90_53, r_90_54, r_90_55, r_90_58, r_90_61, r_90_62, r_90_63, r_90_66, r_90_67, r_90_68, r_90_69, r_90_72, r_90_75, r_90_76, r_90_79, r_90_81, r_90_82, r_90_85, r_90_86, r_90_87, r_90_90, r_90_93, r_90_94, r_90_95, r_90_98, r_90_101, r_90_104, r_90_105, r_90_108, r_90_110, r_90_111, r_90_114, r_90_117, r_90_120, r_90_121, r_90_122, r_90_125, r_90_126, r_90_129, r_90_130, r_90_131, r_90_134, r_90_135, r_90_138, r_90_139, r_90_142, r_90_143, r_90_144, r_90_145, r_90_148, r_90_151, r_90_154, r_90_155, r_90_156, r_90_157, r_90_160, r_90_161, r_90_162, r_90_163, r_90_166, r_90_167, Option.bind_some, Option.bind_none, Option.toList_some, Option.toList_none, List.cons_append, List.nil_append, Option.map_some, Option.map_none, eq_self, if_true, if_false, reduceIte, ai_bi_eq0, ai_bi_eq1, ai_pb_bi, ai_pb_0, ai_pb_1, f_22_0, f_22_1, f_22_2, f_22_3, f_1_2, h.2.2.1, x_isCase h hk, c1, c2, x_isSolved h (show o < 8 by omega) (show d < 3 by omega), c3, not_true, decide_false, x_couldCause h hk (show c < 8 by omega) (show o < 8 by omega) hd, c4, x_sitting h hk, e5, Bool.true_eq_false, Bool.false_eq_true, x_refuse]
          · rw [if_neg c5]
            have hs7 := kb_sit7 B
            have e5 : ¬ nI (kb_sit B) = 0 := fun q => c5 ((nI_eq (a := kb_sit B) (b := 0) (by omega) (by decide)).mp q)
            have hx : kb_x (xb_wt (xw_b w) (kb_t B + 1)) (kb_ut B (kb_t B + 1)) := ⟨h.1, h.2.1, rfl, h.2.2.2⟩
            have hx2 := kx_C hx (c := o) (show d < 3 by omega) (nI c)
            have ew : kb_w (kb_ut B (kb_t B + 1)) c o d = kb_w B c o d := rfl
            have ewt := x_weight (w := xw_wb w (xb_wt (xw_b w) (kb_t B + 1))) hx (ok_ut hk _) (show c < 8 by omega) (show o < 8 by omega) hd
            have efg := x_findsGuilty (w := xw_wb w (xb_wt (xw_b w) (kb_t B + 1))) hx (ok_ut hk _) (show kb_w B c o d < 100 by omega)
            have esc := x_setCulprit (xw_wb w (xb_wt (xw_b w) (kb_t B + 1))) (show o < 8 by omega) (show d < 3 by omega) (nI c)
            rw [ew] at ewt
            have evo : kb_votes (kb_ut B (kb_t B + 1)) (kb_w B c o d) = kb_votes B (kb_w B c o d) := rfl
            have esi : kb_sit (kb_ut B (kb_t B + 1)) = kb_sit B := rfl
            rw [evo, esi] at efg
            by_cases c6 : kb_sit B < 2 * kb_votes B (kb_w B c o d)
            · rw [if_pos c6]
              rw [decide_eq_true c6] at efg
              refine ⟨_, hx2, ?_⟩
              simp only [e_90, o_22, r_90_0, r_90_1, r_90_4, r_90_5, r_90_6, r_90_7, r_90_10, r_90_13, r_90_14, r_90_15, r_90_16, r_90_17, r_90_20, r_90_21, r_90_24, r_90_26, r_90_27, r_90_30, r_90_31, r_90_32, r_90_35, r_90_36, r_90_37, r_90_40, r_90_43, r_90_44, r_90_47, r_90_49, r_90_50, r_90_53, r_90_54, r_90_55, r_90_58, r_90_61, r_90_62, r_90_63, r_90_66, r_90_67, r_90_68, r_90_69, r_90_72, r_90_75, r_90_76, r_90_79, r_90_81, r_90_82, r_90_85, r_90_86, r_90_87, r_90_90, r_90_93, r_90_94, r_90_95, r_90_98, r_90_101, r_90_104, r_90_105, r_90_108, r_90_110, r_90_111, r_90_114, r_90_117, r_90_120, r_90_121, r_90_122, r_90_125, r_90_126, r_90_129, r_90_130, r_90_131, r_90_134, r_90_135, r_90_138, r_90_139, r_90_142, r_90_143, r_90_144, r_90_145, r_90_148, r_90_151, r_90_154, r_90_155, r_90_156, r_90_157, r_90_160, r_90_161, r_90_162, r_90_163, r_90_166, r_90_167, Option.bind_some, Option.bind_none, Option.toList_some, Option.toList_none, List.cons_append, List.nil_append, Option.map_some, Option.map_none, eq_self, if_true, if_false, reduceIte, ai_bi_eq0, ai_bi_eq1, ai_pb_bi, ai_pb_0, ai_pb_1, f_22_0, f_22_1, f_22_2, f_22_3, f_1_2, h.2.2.1, x_isCase h hk, c1, c2, x_isSolved h (show o < 8 by omega) (show d < 3 by omega), c3, not_true, decide_false, x_couldCause h hk (show c < 8 by omega) (show o < 8 by omega) hd, c4, x_sitting h hk, e5, Bool.true_eq_false, Bool.false_eq_true, p_1_2, ewt, efg, esc]
              rfl
            · rw [if_neg c6]
              rw [decide_eq_false c6] at efg
              refine ⟨_, hx, ?_⟩
              simp only [e_90, o_22, r_90_0, r_90_1, r_90_4, r_90_5, r_90_6, r_90_7, r_90_10, r_90_13, r_90_14, r_90_15, r_90_16, r_90_17, r_90_20, r_90_21, r_90_24, r_90_26, r_90_27, r_90_30, r_90_31, r_90_32, r_90_35, r_90_36, r_90_37, r_90_40, r_90_43, r_90_44, r_90_47, r_90_49, r_90_50, r_90_53, r_90_54, r_90_55, r_90_58, r_90_61, r_90_62, r_90_63, r_90_66, r_90_67, r_90_68, r_90_69, r_90_72, r_90_75, r_90_76, r_90_79, r_90_81, r_90_82, r_90_85, r_90_86, r_90_87, r_90_90, r_90_93, r_90_94, r_90_95, r_90_98, r_90_101, r_90_104, r_90_105, r_90_108, r_90_110, r_90_111, r_90_114, r_90_117, r_90_120, r_90_121, r_90_122, r_90_125, r_90_126, r_90_129, r_90_130, r_90_131, r_90_134, r_90_135, r_90_138, r_90_139, r_90_142, r_90_143, r_90_144, r_90_145, r_90_148, r_90_151, r_90_154, r_90_155, r_90_156, r_90_157, r_90_160, r_90_161, r_90_162, r_90_163, r_90_166, r_90_167, Option.bind_some, Option.bind_none, Option.toList_some, Option.toList_none, List.cons_append, List.nil_append, Option.map_some, Option.map_none, eq_self, if_true, if_false, reduceIte, ai_bi_eq0, ai_bi_eq1, ai_pb_bi, ai_pb_0, ai_pb_1, f_22_0, f_22_1, f_22_2, f_22_3, f_1_2, h.2.2.1, x_isCase h hk, c1, c2, x_isSolved h (show o < 8 by omega) (show d < 3 by omega), c3, not_true, decide_false, x_couldCause h hk (show c < 8 by omega) (show o < 8 by omega) hd, c4, x_sitting h hk, e5, Bool.true_eq_false, Bool.false_eq_true, p_1_2, ewt, efg, esc]
              rfl
        · have c4' : kb_could B c o d = false := by simpa using c4
          rw [if_neg c4]
          refine ⟨xw_b w, h, ?_⟩
          simp only [e_90, o_22, r_90_0, r_90_1, r_90_4, r_90_5, r_90_6, r_90_7, r_90_10, r_90_13, r_90_14, r_90_15, r_90_16, r_90_17, r_90_20, r_90_21, r_90_24, r_90_26, r_90_27, r_90_30, r_90_31, r_90_32, r_90_35, r_90_36, r_90_37, r_90_40, r_90_43, r_90_44, r_90_47, r_90_49, r_90_50, r_90_53, r_90_54, r_90_55, r_90_58, r_90_61, r_90_62, r_90_63, r_90_66, r_90_67, r_90_68, r_90_69, r_90_72, r_90_75, r_90_76, r_90_79, r_90_81, r_90_82, r_90_85, r_90_86, r_90_87, r_90_90, r_90_93, r_90_94, r_90_95, r_90_98, r_90_101, r_90_104, r_90_105, r_90_108, r_90_110, r_90_111, r_90_114, r_90_117, r_90_120, r_90_121, r_90_122, r_90_125, r_90_126, r_90_129, r_90_130, r_90_131, r_90_134, r_90_135, r_90_138, r_90_139, r_90_142, r_90_143, r_90_144, r_90_145, r_90_148, r_90_151, r_90_154, r_90_155, r_90_156, r_90_157, r_90_160, r_90_161, r_90_162, r_90_163, r_90_166, r_90_167, Option.bind_some, Option.bind_none, Option.toList_some, Option.toList_none, List.cons_append, List.nil_append, Option.map_some, Option.map_none, eq_self, if_true, if_false, reduceIte, ai_bi_eq0, ai_bi_eq1, ai_pb_bi, ai_pb_0, ai_pb_1, f_22_0, f_22_1, f_22_2, f_22_3, x_isCase h hk, c1, c2, x_isSolved h (show o < 8 by omega) (show d < 3 by omega), c3, not_true, decide_false, x_couldCause h hk (show c < 8 by omega) (show o < 8 by omega) hd, c4', x_deathChapter h hk (show o < 8 by omega) hd, Bool.true_eq_false, Bool.false_eq_true, x_refuse]
      · rw [if_neg c3]
        refine ⟨xw_b w, h, ?_⟩
        simp only [e_90, o_22, r_90_0, r_90_1, r_90_4, r_90_5, r_90_6, r_90_7, r_90_10, r_90_13, r_90_14, r_90_15, r_90_16, r_90_17, r_90_20, r_90_21, r_90_24, r_90_26, r_90_27, r_90_30, r_90_31, r_90_32, r_90_35, r_90_36, r_90_37, r_90_40, r_90_43, r_90_44, r_90_47, r_90_49, r_90_50, r_90_53, r_90_54, r_90_55, r_90_58, r_90_61, r_90_62, r_90_63, r_90_66, r_90_67, r_90_68, r_90_69, r_90_72, r_90_75, r_90_76, r_90_79, r_90_81, r_90_82, r_90_85, r_90_86, r_90_87, r_90_90, r_90_93, r_90_94, r_90_95, r_90_98, r_90_101, r_90_104, r_90_105, r_90_108, r_90_110, r_90_111, r_90_114, r_90_117, r_90_120, r_90_121, r_90_122, r_90_125, r_90_126, r_90_129, r_90_130, r_90_131, r_90_134, r_90_135, r_90_138, r_90_139, r_90_142, r_90_143, r_90_144, r_90_145, r_90_148, r_90_151, r_90_154, r_90_155, r_90_156, r_90_157, r_90_160, r_90_161, r_90_162, r_90_163, r_90_166, r_90_167, Option.bind_some, Option.bind_none, Option.toList_some, Option.toList_none, List.cons_append, List.nil_append, Option.map_some, Option.map_none, eq_self, if_true, if_false, reduceIte, ai_bi_eq0, ai_bi_eq1, ai_pb_bi, ai_pb_0, ai_pb_1, f_22_0, f_22_1, f_22_2, f_22_3, x_isCase h hk, c1, c2, x_isSolved h (show o < 8 by omega) (show d < 3 by omega), c3, not_false_eq_true, decide_true, x_culprit h (show o < 8 by omega) (show d < 3 by omega), Bool.true_eq_false, Bool.false_eq_true, x_refuse]
  · have c1' : kb_case B x y z = false := by simpa using c1
    rw [if_neg c1]
    refine ⟨xw_b w, h, ?_⟩
    simp only [e_90, o_22, r_90_0, r_90_1, r_90_4, r_90_5, r_90_6, r_90_7, r_90_10, r_90_13, r_90_14, r_90_15, r_90_16, r_90_17, r_90_20, r_90_21, r_90_24, r_90_26, r_90_27, r_90_30, r_90_31, r_90_32, r_90_35, r_90_36, r_90_37, r_90_40, r_90_43, r_90_44, r_90_47, r_90_49, r_90_50, r_90_53, r_90_54, r_90_55, r_90_58, r_90_61, r_90_62, r_90_63, r_90_66, r_90_67, r_90_68, r_90_69, r_90_72, r_90_75, r_90_76, r_90_79, r_90_81, r_90_82, r_90_85, r_90_86, r_90_87, r_90_90, r_90_93, r_90_94, r_90_95, r_90_98, r_90_101, r_90_104, r_90_105, r_90_108, r_90_110, r_90_111, r_90_114, r_90_117, r_90_120, r_90_121, r_90_122, r_90_125, r_90_126, r_90_129, r_90_130, r_90_131, r_90_134, r_90_135, r_90_138, r_90_139, r_90_142, r_90_143, r_90_144, r_90_145, r_90_148, r_90_151, r_90_154, r_90_155, r_90_156, r_90_157, r_90_160, r_90_161, r_90_162, r_90_163, r_90_166, r_90_167, Option.bind_some, Option.bind_none, Option.toList_some, Option.toList_none, List.cons_append, List.nil_append, Option.map_some, Option.map_none, eq_self, if_true, if_false, reduceIte, ai_bi_eq0, ai_bi_eq1, ai_pb_bi, ai_pb_0, ai_pb_1, f_22_0, x_isCase h hk, c1', Bool.true_eq_false, Bool.false_eq_true]
    rfl
end XB

