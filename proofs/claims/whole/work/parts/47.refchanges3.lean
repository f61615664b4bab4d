/-! The reference's motive, seat, leave, trial. -/
section MB
variable {w : xw_W} {B : kb_B}
theorem in3_09 (z : Int32) : ai_in3 z 0 9 = ai_is 10 z := ai_in3_is (n := 10) (by decide)
theorem m_tellsMotive (h : kb_m (xm_s w) B) (hk : kb_ok B) (x y z : Int32) : km_is w (kc_motive B x y z) (ai_Call 222 [.ref 185, .int x, .int y, .int z] (wl w)) := by
  have hn := hk.1
  unfold kc_motive
  by_cases c1 : ai_is (kb_n B) x = true
  · obtain ⟨c, hc, rfl⟩ := ai_is_of (by omega) c1
    rw [if_pos c1, nI_clamp (show c < 2 ^ 31 by omega)]
    by_cases c2 : ai_is (kb_n B) y = true
    · obtain ⟨o, ho, rfl⟩ := ai_is_of (by omega) c2
      rw [if_pos c2, nI_clamp (show o < 2 ^ 31 by omega)]
      by_cases c3 : ai_is 10 z = true
      · obtain ⟨v, hv, rfl⟩ := ai_is_of (by omega) c3
        rw [if_pos c3, nI_clamp (show v < 2 ^ 31 by omega)]
        by_cases c4 : nI c = nI o
        · have c9 : c = o := (nI_eq (by omega) (by omega)).mp c4
          subst c9
          rw [if_pos rfl]
          refine ⟨xm_s w, h, ?_⟩
          simp only [e_222, o_185, r_222_0, r_222_1, r_222_2, r_222_5, r_222_8, r_222_9, r_222_10, r_222_13, r_222_16, r_222_17, r_222_18, r_222_19, r_222_20, r_222_22, r_222_25, r_222_28, r_222_30, r_222_31, r_222_32, r_222_33, r_222_34, r_222_37, r_222_39, r_222_40, r_222_41, r_222_42, r_222_45, r_222_46, r_222_49, r_222_50, r_222_52, r_222_53, r_222_56, r_222_59, r_222_60, r_222_62, r_222_63, r_222_66, r_222_67, r_222_70, r_222_71, r_222_72, r_222_73, r_222_76, r_222_79, r_222_81, r_222_82, r_222_83, r_222_86, r_222_88, r_222_90, r_222_91, r_222_92, r_222_93, r_222_94, r_222_95, r_222_96, r_222_97, r_222_99, Option.bind_some, Option.bind_none, Option.toList_some, Option.toList_none, List.cons_append, List.nil_append, Option.map_some, Option.map_none, eq_self, if_true, if_false, reduceIte, ai_bi_eq0, ai_bi_eq1, ai_pb_bi, ai_pb_0, ai_pb_1, m_isCharacter h hk, c1, m_isIn, in3_09, c3, m_pagesOf h (show c < 8 by omega) (show c < 8 by omega), Bool.true_eq_false, m_ref_t, show ¬ (1 : Int32) = 0 by decide]
        · rw [if_neg c4]
          by_cases c5 : nI (kb_M B c o) = nI v
          · rw [if_pos c5]
            refine ⟨xm_s w, h, ?_⟩
            simp only [e_222, o_185, r_222_0, r_222_1, r_222_2, r_222_5, r_222_8, r_222_9, r_222_10, r_222_13, r_222_16, r_222_17, r_222_18, r_222_19, r_222_20, r_222_22, r_222_25, r_222_28, r_222_30, r_222_31, r_222_32, r_222_33, r_222_34, r_222_37, r_222_39, r_222_40, r_222_41, r_222_42, r_222_45, r_222_46, r_222_49, r_222_50, r_222_52, r_222_53, r_222_56, r_222_59, r_222_60, r_222_62, r_222_63, r_222_66, r_222_67, r_222_70, r_222_71, r_222_72, r_222_73, r_222_76, r_222_79, r_222_81, r_222_82, r_222_83, r_222_86, r_222_88, r_222_90, r_222_91, r_222_92, r_222_93, r_222_94, r_222_95, r_222_96, r_222_97, r_222_99, Option.bind_some, Option.bind_none, Option.toList_some, Option.toList_none, List.cons_append, List.nil_append, Option.map_some, Option.map_none, eq_self, if_true, if_false, reduceIte, ai_bi_eq0, ai_bi_eq1, ai_pb_bi, ai_pb_0, ai_pb_1, m_isCharacter h hk, c1, c2, m_isIn, in3_09, c3, c4, m_pagesOf h (show c < 8 by omega) (show o < 8 by omega), c5, Bool.true_eq_false, m_ref_f, m_ref_t, show ¬ (1 : Int32) = 0 by decide]
          · rw [if_neg c5]
            have hx := km_M h (show c < 8 by omega) (show o < 8 by omega) v
            have ej : 45 + (c * 8 + o) = 45 + 8 * c + o := by omega
            rw [ej] at hx
            refine ⟨_, hx, ?_⟩
            simp only [e_222, o_185, r_222_0, r_222_1, r_222_2, r_222_5, r_222_8, r_222_9, r_222_10, r_222_13, r_222_16, r_222_17, r_222_18, r_222_19, r_222_20, r_222_22, r_222_25, r_222_28, r_222_30, r_222_31, r_222_32, r_222_33, r_222_34, r_222_37, r_222_39, r_222_40, r_222_41, r_222_42, r_222_45, r_222_46, r_222_49, r_222_50, r_222_52, r_222_53, r_222_56, r_222_59, r_222_60, r_222_62, r_222_63, r_222_66, r_222_67, r_222_70, r_222_71, r_222_72, r_222_73, r_222_76, r_222_79, r_222_81, r_222_82, r_222_83, r_222_86, r_222_88, r_222_90, r_222_91, r_222_92, r_222_93, r_222_94, r_222_95, r_222_96, r_222_97, r_222_99, Option.bind_some, Option.bind_none, Option.toList_some, Option.toList_none, List.cons_append, List.nil_append, Option.map_some, Option.map_none, eq_self, if_true, if_false, reduceIte, ai_bi_eq0, ai_bi_eq1, ai_pb_bi, ai_pb_0, ai_pb_1, f_185_0, m_isCharacter h hk, c1, c2, m_isIn, in3_09, c3, c4, m_pagesOf h (show c < 8 by omega) (show o < 8 by omega), c5, Bool.true_eq_false, m_ref_f, t_8, a_45, nI_add, ms w (show 45 + 8 * c + o < 189 by omega)]
            rfl
      · have c3' : ai_is 10 z = false := by simpa using c3
        rw [if_neg c3]
        refine ⟨xm_s w, h, ?_⟩
        simp only [e_222, o_185, r_222_0, r_222_1, r_222_2, r_222_5, r_222_8, r_222_9, r_222_10, r_222_13, r_222_16, r_222_17, r_222_18, r_222_19, r_222_20, r_222_22, r_222_25, r_222_28, r_222_30, r_222_31, r_222_32, r_222_33, r_222_34, r_222_37, r_222_39, r_222_40, r_222_41, r_222_42, r_222_45, r_222_46, r_222_49, r_222_50, r_222_52, r_222_53, r_222_56, r_222_59, r_222_60, r_222_62, r_222_63, r_222_66, r_222_67, r_222_70, r_222_71, r_222_72, r_222_73, r_222_76, r_222_79, r_222_81, r_222_82, r_222_83, r_222_86, r_222_88, r_222_90, r_222_91, r_222_92, r_222_93, r_222_94, r_222_95, r_222_96, r_222_97, r_222_99, Option.bind_some, Option.bind_none, Option.toList_some, Option.toList_none, List.cons_append, List.nil_append, Option.map_some, Option.map_none, eq_self, if_true, if_false, reduceIte, ai_bi_eq0, ai_bi_eq1, ai_pb_bi, ai_pb_0, ai_pb_1, m_isCharacter h hk, c1, c2, m_isIn, in3_09, c3', Bool.true_eq_false, Bool.false_eq_true]
        rfl
    · have c2' : ai_is (kb_n B) y = false := by simpa using c2
      rw [if_neg c2]
      refine ⟨xm_s w, h, ?_⟩
      simp only [e_222, o_185, r_222_0, r_222_1, r_222_2, r_222_5, r_222_8, r_222_9, r_222_10, r_222_13, r_222_16, r_222_17, r_222_18, r_222_19, r_222_20, r_222_22, r_222_25, r_222_28, r_222_30, r_222_31, r_222_32, r_222_33, r_222_34, r_222_37, r_222_39, r_222_40, r_222_41, r_222_42, r_222_45, r_222_46, r_222_49, r_222_50, r_222_52, r_222_53, r_222_56, r_222_59, r_222_60, r_222_62, r_222_63, r_222_66, r_222_67, r_222_70, r_222_71, r_222_72, r_222_73, r_222_76, r_222_79, r_222_81, r_222_82, r_222_83, r_222_86, r_222_88, r_222_90, r_222_91, r_222_92, r_222_93, r_222_94, r_222_95, r_222_96, r_222_97, r_222_99, Option.bind_some, Option.bind_none, Option.toList_some, Option.toList_none, List.cons_append, List.nil_append, Option.map_some, Option.map_none, eq_self, if_true, if_false, reduceIte, ai_bi_eq0, ai_bi_eq1, ai_pb_bi, ai_pb_0, ai_pb_1, m_isCharacter h hk, c1, c2', Bool.true_eq_false, Bool.false_eq_true]
      rfl
  · have c1' : ai_is (kb_n B) x = false := by simpa using c1
    rw [if_neg c1]
    refine ⟨xm_s w, h, ?_⟩
    simp only [e_222, o_185, r_222_0, r_222_1, r_222_2, r_222_5, r_222_8, r_222_9, r_222_10, r_222_13, r_222_16, r_222_17, r_222_18, r_222_19, r_222_20, r_222_22, r_222_25, r_222_28, r_222_30, r_222_31, r_222_32, r_222_33, r_222_34, r_222_37, r_222_39, r_222_40, r_222_41, r_222_42, r_222_45, r_222_46, r_222_49, r_222_50, r_222_52, r_222_53, r_222_56, r_222_59, r_222_60, r_222_62, r_222_63, r_222_66, r_222_67, r_222_70, r_222_71, r_222_72, r_222_73, r_222_76, r_222_79, r_222_81, r_222_82, r_222_83, r_222_86, r_222_88, r_222_90, r_222_91, r_222_92, r_222_93, r_222_94, r_222_95, r_222_96, r_222_97, r_222_99, Option.bind_some, Option.bind_none, Option.toList_some, Option.toList_none, List.cons_append, List.nil_append, Option.map_some, Option.map_none, eq_self, if_true, if_false, reduceIte, ai_bi_eq0, ai_bi_eq1, ai_pb_bi, ai_pb_0, ai_pb_1, m_isCharacter h hk, c1', Bool.true_eq_false, Bool.false_eq_true]
    rfl
theorem m_seats (h : kb_m (xm_s w) B) (hk : kb_ok B) (x y : Int32) : km_is w (kc_seat B x y) (ai_Call 225 [.ref 185, .int x, .int y] (wl w)) := by
  have es0 : ∀ v, ai_in3 v 1 9 = ai_sev v := fun _ => rfl
  unfold kc_seat
  by_cases c1 : ai_is 7 x = true
  · obtain ⟨k, hk7, rfl⟩ := ai_is_of (by omega) c1
    have h9 := hk.2.2.2.2.2.2.2.2.2.1 k
    rw [if_pos c1, nI_clamp (show k < 2 ^ 31 by omega)]
    by_cases c2 : ai_sev y = true
    · obtain ⟨s, hs1, hs2, rfl⟩ := ai_sev_of c2
      rw [if_pos c2, nI_clamp (show s < 2 ^ 31 by omega)]
      by_cases c3 : 0 < kb_J B k
      · have c4 : (0 : Int32) < nI (kb_J B k) := nI_lt (a := 0) c3 (by omega)
        rw [if_pos c3]
        refine ⟨xm_s w, h, ?_⟩
        simp only [e_225, o_185, r_225_0, r_225_1, r_225_4, r_225_7, r_225_8, r_225_9, r_225_10, r_225_11, r_225_13, r_225_16, r_225_19, r_225_21, r_225_22, r_225_23, r_225_24, r_225_27, r_225_29, r_225_30, r_225_31, r_225_32, r_225_35, r_225_36, r_225_39, r_225_40, r_225_42, r_225_43, r_225_46, r_225_49, r_225_51, r_225_52, r_225_53, r_225_56, r_225_58, r_225_59, r_225_60, r_225_61, r_225_62, r_225_63, r_225_66, Option.bind_some, Option.bind_none, Option.toList_some, Option.toList_none, List.cons_append, List.nil_append, Option.map_some, Option.map_none, eq_self, if_true, if_false, reduceIte, ai_bi_eq0, ai_bi_eq1, ai_pb_bi, ai_pb_0, ai_pb_1, m_isSeat, c1, m_isIn, es0, c2, f_185_0, a_38, m_J h hk7, c4, Bool.true_eq_false, m_ref_t, show ¬ (1 : Int32) = 0 by decide]
      · have c4 : ¬ (0 : Int32) < nI (kb_J B k) := nI_nlt (a := 0) (by omega) (by omega)
        rw [if_neg c3]
        have hx : kb_m (upd (xm_s w) (38 + k) (nI s)) (kb_setJ B k s) := kb_m_j h hk7
        have ep := ms w (show 38 + k < 189 by omega) (nI s)
        refine ⟨_, hx, ?_⟩
        have hx2 := hx
        generalize upd (xm_s w) (38 + k) (nI s) = s2 at ep hx2 ⊢
        have es := m_sitting (w := xm_ws w s2) hx2 (ok_J hk hs2)
        simp only [e_225, o_185, r_225_0, r_225_1, r_225_4, r_225_7, r_225_8, r_225_9, r_225_10, r_225_11, r_225_13, r_225_16, r_225_19, r_225_21, r_225_22, r_225_23, r_225_24, r_225_27, r_225_29, r_225_30, r_225_31, r_225_32, r_225_35, r_225_36, r_225_39, r_225_40, r_225_42, r_225_43, r_225_46, r_225_49, r_225_51, r_225_52, r_225_53, r_225_56, r_225_58, r_225_59, r_225_60, r_225_61, r_225_62, r_225_63, r_225_66, Option.bind_some, Option.bind_none, Option.toList_some, Option.toList_none, List.cons_append, List.nil_append, Option.map_some, Option.map_none, eq_self, if_true, if_false, reduceIte, ai_bi_eq0, ai_bi_eq1, ai_pb_bi, ai_pb_0, ai_pb_1, m_isSeat, c1, m_isIn, es0, c2, f_185_0, a_38, m_J h hk7, c4, Bool.true_eq_false, m_ref_f, ep, es]
        rfl
    · have c2' : ai_sev y = false := by simpa using c2
      rw [if_neg c2]
      refine ⟨xm_s w, h, ?_⟩
      simp only [e_225, o_185, r_225_0, r_225_1, r_225_4, r_225_7, r_225_8, r_225_9, r_225_10, r_225_11, r_225_13, r_225_16, r_225_19, r_225_21, r_225_22, r_225_23, r_225_24, r_225_27, r_225_29, r_225_30, r_225_31, r_225_32, r_225_35, r_225_36, r_225_39, r_225_40, r_225_42, r_225_43, r_225_46, r_225_49, r_225_51, r_225_52, r_225_53, r_225_56, r_225_58, r_225_59, r_225_60, r_225_61, r_225_62, r_225_63, r_225_66, Option.bind_some, Option.bind_none, Option.toList_some, Option.toList_none, List.cons_append, List.nil_append, Option.map_some, Option.map_none, eq_self, if_true, if_false, reduceIte, ai_bi_eq0, ai_bi_eq1, ai_pb_bi, ai_pb_0, ai_pb_1, m_isSeat, c1, m_isIn, es0, c2', Bool.true_eq_false, Bool.false_eq_true]
      rfl
  · have c1' : ai_is 7 x = false := by simpa using c1
    rw [if_neg c1]
    refine ⟨xm_s w, h, ?_⟩
    simp only [e_225, o_185, r_225_0, r_225_1, r_225_4, r_225_7, r_225_8, r_225_9, r_225_10, r_225_11, r_225_13, r_225_16, r_225_19, r_225_21, r_225_22, r_225_23, r_225_24, r_225_27, r_225_29, r_225_30, r_225_31, r_225_32, r_225_35, r_225_36, r_225_39, r_225_40, r_225_42, r_225_43, r_225_46, r_225_49, r_225_51, r_225_52, r_225_53, r_225_56, r_225_58, r_225_59, r_225_60, r_225_61, r_225_62, r_225_63, r_225_66, Option.bind_some, Option.bind_none, Option.toList_some, Option.toList_none, List.cons_append, List.nil_append, Option.map_some, Option.map_none, eq_self, if_true, if_false, reduceIte, ai_bi_eq0, ai_bi_eq1, ai_pb_bi, ai_pb_0, ai_pb_1, m_isSeat, c1', Bool.true_eq_false, Bool.false_eq_true]
    rfl
theorem m_lets (h : kb_m (xm_s w) B) (hk : kb_ok B) (x : Int32) : km_is w (kc_leave B x) (ai_Call 224 [.ref 185, .int x] (wl w)) := by
  unfold kc_leave
  by_cases c1 : ai_is 7 x = true
  · obtain ⟨k, hk7, rfl⟩ := ai_is_of (by omega) c1
    have h9 := hk.2.2.2.2.2.2.2.2.2.1 k
    rw [if_pos c1, nI_clamp (show k < 2 ^ 31 by omega)]
    by_cases c3 : 0 < kb_J B k
    · have c4 : ¬ nI (kb_J B k) = 0 := fun q => by
        have := (nI_eq (a := kb_J B k) (b := 0) (by omega) (by decide)).mp q
        omega
      rw [if_pos c3]
      have hx : kb_m (upd (xm_s w) (38 + k) (nI 0)) (kb_setJ B k 0) := kb_m_j h hk7
      have ep := ms w (show 38 + k < 189 by omega) (nI 0)
      refine ⟨_, hx, ?_⟩
      have hx2 := hx
      generalize upd (xm_s w) (38 + k) (nI 0) = s2 at ep hx2 ⊢
      have es := m_sitting (w := xm_ws w s2) hx2 (ok_J hk (by omega))
      rw [show nI 0 = 0 from rfl] at ep
      simp only [e_224, o_185, r_224_0, r_224_1, r_224_4, r_224_7, r_224_8, r_224_9, r_224_10, r_224_11, r_224_14, r_224_16, r_224_17, r_224_18, r_224_19, r_224_22, r_224_23, r_224_26, r_224_27, r_224_29, r_224_30, r_224_33, r_224_36, r_224_38, r_224_39, r_224_40, r_224_43, r_224_45, r_224_46, r_224_47, r_224_48, r_224_49, r_224_50, r_224_53, Option.bind_some, Option.bind_none, Option.toList_some, Option.toList_none, List.cons_append, List.nil_append, Option.map_some, Option.map_none, eq_self, if_true, if_false, reduceIte, ai_bi_eq0, ai_bi_eq1, ai_pb_bi, ai_pb_0, ai_pb_1, m_isSeat, c1, f_185_0, a_38, m_J h hk7, c4, Bool.true_eq_false, m_ref_f, ep, es]
      rfl
    · have c4 : nI (kb_J B k) = 0 := by rw [show kb_J B k = 0 by omega]; rfl
      rw [if_neg c3]
      refine ⟨xm_s w, h, ?_⟩
      simp only [e_224, o_185, r_224_0, r_224_1, r_224_4, r_224_7, r_224_8, r_224_9, r_224_10, r_224_11, r_224_14, r_224_16, r_224_17, r_224_18, r_224_19, r_224_22, r_224_23, r_224_26, r_224_27, r_224_29, r_224_30, r_224_33, r_224_36, r_224_38, r_224_39, r_224_40, r_224_43, r_224_45, r_224_46, r_224_47, r_224_48, r_224_49, r_224_50, r_224_53, Option.bind_some, Option.bind_none, Option.toList_some, Option.toList_none, List.cons_append, List.nil_append, Option.map_some, Option.map_none, eq_self, if_true, if_false, reduceIte, ai_bi_eq0, ai_bi_eq1, ai_pb_bi, ai_pb_0, ai_pb_1, m_isSeat, c1, f_185_0, a_38, m_J h hk7, c4, Bool.true_eq_false, m_ref_t, show ¬ (1 : Int32) = 0 by decide]
  · have c1' : ai_is 7 x = false := by simpa using c1
    rw [if_neg c1]
    refine ⟨xm_s w, h, ?_⟩
    simp only [e_224, o_185, r_224_0, r_224_1, r_224_4, r_224_7, r_224_8, r_224_9, r_224_10, r_224_11, r_224_14, r_224_16, r_224_17, r_224_18, r_224_19, r_224_22, r_224_23, r_224_26, r_224_27, r_224_29, r_224_30, r_224_33, r_224_36, r_224_38, r_224_39, r_224_40, r_224_43, r_224_45, r_224_46, r_224_47, r_224_48, r_224_49, r_224_50, r_224_53, Option.bind_some, Option.bind_none, Option.toList_some, Option.toList_none, List.cons_append, List.nil_append, Option.map_some, Option.map_none, eq_self, if_true, if_false, reduceIte, ai_bi_eq0, ai_bi_eq1, ai_pb_bi, ai_pb_0, ai_pb_1, m_isSeat, c1', Bool.true_eq_false, Bool.false_eq_true]
    rfl
theorem m_tries (h : kb_m (xm_s w) B) (hk : kb_ok B) (x y z : Int32) : km_is w (kc_trial B x y z) (ai_Call 229 [.ref 185, .int x, .int y, .int z] (wl w)) := by
  have hn := hk.1
  have et : ai_aget (wl w) 186 2 = some (kb_t B) := by
    rw [mg_2]
    exact congrArg some h.2.2.1
  unfold kc_trial
  rcases m_case h hk x y z with c1 | ⟨c1, c2⟩ | ⟨c1, c2, c3⟩
  · have e1 : ai_is (kb_n B) x = true := by
      unfold kb_case at c1
      simp only [Bool.and_eq_true] at c1
      exact c1.1.1
    have e2 : ai_Call 211 [.ref 185, .int y, .int z] (wl w) = some (some (.int (ai_bi true)), wl w) := by
      rw [m_isDeath h hk]
      unfold kb_case at c1
      simp only [Bool.and_eq_true] at c1
      rw [c1.1.2, c1.2]
      rfl
    obtain ⟨c, o, d, hc, ho, hd, rfl, rfl, rfl⟩ := kb_case_of hk c1
    have h3 := kb_d3 hk o
    rw [if_pos c1, nI_clamp (show c < 2 ^ 31 by omega), nI_clamp (show o < 2 ^ 31 by omega), nI_clamp (show d < 2 ^ 31 by omega)]
    by_cases c2 : nI c = nI o
    · have c9 : c = o := (nI_eq (by omega) (by omega)).mp c2
      subst c9
      rw [if_pos rfl]
      refine ⟨xm_s w, h, ?_⟩
      simp only [e_229, o_185, r_229_0, r_229_1, r_229_2, r_229_5, r_229_8, r_229_9, r_229_10, r_229_11, r_229_14, r_229_17, r_229_18, r_229_19, r_229_20, r_229_21, r_229_22, r_229_25, r_229_27, r_229_28, r_229_29, r_229_30, r_229_33, r_229_34, r_229_37, r_229_38, r_229_40, r_229_41, r_229_44, r_229_47, r_229_48, r_229_50, r_229_52, r_229_55, r_229_56, r_229_59, r_229_60, r_229_62, r_229_64, r_229_67, r_229_70, r_229_72, r_229_73, r_229_74, r_229_75, r_229_76, r_229_77, r_229_78, r_229_81, r_229_84, r_229_85, r_229_88, r_229_89, r_229_91, r_229_92, r_229_93, r_229_94, r_229_97, r_229_100, r_229_103, r_229_104, r_229_105, r_229_108, r_229_111, r_229_112, r_229_115, r_229_116, r_229_118, r_229_119, r_229_122, r_229_123, r_229_124, r_229_127, r_229_130, r_229_132, r_229_133, r_229_134, r_229_137, r_229_138, r_229_139, r_229_140, r_229_141, r_229_142, r_229_143, r_229_144, r_229_145, r_229_146, r_229_147, r_229_150, r_229_153, r_229_154, r_229_155, r_229_157, r_229_158, r_229_159, r_229_160, r_229_163, r_229_164, r_229_165, r_229_166, Option.bind_some, Option.bind_none, Option.toList_some, Option.toList_none, List.cons_append, List.nil_append, Option.map_some, Option.map_none, eq_self, if_true, if_false, reduceIte, ai_bi_eq0, ai_bi_eq1, ai_pb_bi, ai_pb_0, ai_pb_1, m_isCharacter h hk, e1, e2, m_culprit h hk hc (show d < 3 by omega), Bool.true_eq_false, m_ref_t, show ¬ (1 : Int32) = 0 by decide]
    · rw [if_neg c2]
      by_cases c3 : kb_C B o d = (-4)
      · rw [if_pos c3]
        by_cases c4 : kb_could B c o d = true
        · rw [if_pos c4]
          by_cases c5 : kb_sit B = 0
          · rw [if_pos c5]
            have e5 : nI (kb_sit B) = 0 := by rw [c5]; rfl
            refine ⟨xm_s w, h, ?_⟩
            simp only [e_229, o_185, r_229_0, r_229_1, r_229_2, r_229_5, r_229_8, r_229_9, r_229_10, r_229_11, r_229_14, r_229_17, r_229_18, r_229_19, r_229_20, r_229_21, r_229_22, r_229_25, r_229_27, r_229_28, r_229_29, r_229_30, r_229_33, r_229_34, r_229_37, r_229_38, r_229_40, r_229_41, r_229_44, r_229_47, r_229_48, r_229_50, r_229_52, r_229_55, r_229_56, r_229_59, r_229_60, r_229_62, r_229_64, r_229_67, r_229_70, r_229_72, r_229_73, r_229_74, r_229_75, r_229_76, r_229_77, r_229_78, r_229_81, r_229_84, r_229_85, r_229_88, r_229_89, r_229_91, r_229_92, r_229_93, r_229_94, r_229_97, r_229_100, r_229_103, r_229_104, r_229_105, r_229_108, r_229_111, r_229_112, r_229_115, r_229_116, r_229_118, r_229_119, r_229_122, r_229_123, r_229_124, r_229_127, r_229_130, r_229_132, r_229_133, r_229_134, r_229_137, r_229_138, r_229_139, r_229_140, r_229_141, r_229_142, r_229_143, r_229_144, r_229_145, r_229_146, r_229_147, r_229_150, r_229_153, r_229_154, r_229_155, r_229_157, r_229_158, r_229_159, r_229_160, r_229_163, r_229_164, r_229_165, r_229_166, Option.bind_some, Option.bind_none, Option.toList_some, Option.toList_none, List.cons_append, List.nil_append, Option.map_some, Option.map_none, eq_self, if_true, if_false, reduceIte, ai_bi_eq0, ai_bi_eq1, ai_pb_bi, ai_pb_0, ai_pb_1, f_185_0, et, m_isCharacter h hk, e1, e2, m_culprit h hk ho (show d < 3 by omega), c2, c3, m_could h hk (show c < 8 by omega) (show o < 8 by omega) hd, c4, m_chapterOf h hk (show o < 8 by omega) hd, m_sitting h hk, e5, Bool.true_eq_false, m_ref_f, m_ref_t, show ¬ (1 : Int32) = 0 by decide]
          · rw [if_neg c5]
            have hs7 := kb_sit7 B
            have e5 : ¬ nI (kb_sit B) = 0 := fun q => c5 ((nI_eq (a := kb_sit B) (b := 0) (by omega) (by decide)).mp q)
            have hx := km_t h (kb_t B + 1)
            have ep := ms_2 w (kb_t B + 1)
            have hx2 := km_C hx (ok_ut hk _) (show o < 8 by omega) (show d < 3 by omega) (nI c)
            have esc := m_sets (xm_ws w (upd (xm_s w) 2 (kb_t B + 1))) (show o < 8 by omega) (show 7 + d < 10 by omega) (nI c)
            have efg := m_isFound (w := xm_ws w (upd (xm_s w) 2 (kb_t B + 1))) hx (ok_ut hk _) (show c < 8 by omega) (show o < 8 by omega) hd
            have evo : kb_votes (kb_ut B (kb_t B + 1)) (kb_w (kb_ut B (kb_t B + 1)) c o d) = kb_votes B (kb_w B c o d) := rfl
            have esi : kb_sit (kb_ut B (kb_t B + 1)) = kb_sit B := rfl
            rw [evo, esi] at efg
            by_cases c6 : kb_sit B < 2 * kb_votes B (kb_w B c o d)
            · rw [if_pos c6]
              rw [decide_eq_true c6] at efg
              refine ⟨_, hx2, ?_⟩
              simp only [e_229, o_185, r_229_0, r_229_1, r_229_2, r_229_5, r_229_8, r_229_9, r_229_10, r_229_11, r_229_14, r_229_17, r_229_18, r_229_19, r_229_20, r_229_21, r_229_22, r_229_25, r_229_27, r_229_28, r_229_29, r_229_30, r_229_33, r_229_34, r_229_37, r_229_38, r_229_40, r_229_41, r_229_44, r_229_47, r_229_48, r_229_50, r_229_52, r_229_55, r_229_56, r_229_59, r_229_60, r_229_62, r_229_64, r_229_67, r_229_70, r_229_72, r_229_73, r_229_74, r_229_75, r_229_76, r_229_77, r_229_78, r_229_81, r_229_84, r_229_85, r_229_88, r_229_89, r_229_91, r_229_92, r_229_93, r_229_94, r_229_97, r_229_100, r_229_103, r_229_104, r_229_105, r_229_108, r_229_111, r_229_112, r_229_115, r_229_116, r_229_118, r_229_119, r_229_122, r_229_123, r_229_124, r_229_127, r_229_130, r_229_132, r_229_133, r_229_134, r_229_137, r_229_138, r_229_139, r_229_140, r_229_141, r_229_142, r_229_143, r_229_144, r_229_145, r_229_146, r_229_147, r_229_150, r_229_153, r_229_154, r_229_155, r_229_157, r_229_158, r_229_159, r_229_160, r_229_163, r_229_164, r_229_165, r_229_166, Option.bind_some, Option.bind_none, Option.toList_some, Option.toList_none, List.cons_append, List.nil_append, Option.map_some, Option.map_none, eq_self, if_true, if_false, reduceIte, ai_bi_eq0, ai_bi_eq1, ai_pb_bi, ai_pb_0, ai_pb_1, f_185_0, et, m_isCharacter h hk, e1, e2, m_culprit h hk ho (show d < 3 by omega), c2, c3, m_could h hk (show c < 8 by omega) (show o < 8 by omega) hd, c4, m_chapterOf h hk (show o < 8 by omega) hd, m_sitting h hk, e5, Bool.true_eq_false, m_ref_f, ep, efg, a_7, esc]
              rfl
            · rw [if_neg c6]
              rw [decide_eq_false c6] at efg
              refine ⟨_, hx, ?_⟩
              simp only [e_229, o_185, r_229_0, r_229_1, r_229_2, r_229_5, r_229_8, r_229_9, r_229_10, r_229_11, r_229_14, r_229_17, r_229_18, r_229_19, r_229_20, r_229_21, r_229_22, r_229_25, r_229_27, r_229_28, r_229_29, r_229_30, r_229_33, r_229_34, r_229_37, r_229_38, r_229_40, r_229_41, r_229_44, r_229_47, r_229_48, r_229_50, r_229_52, r_229_55, r_229_56, r_229_59, r_229_60, r_229_62, r_229_64, r_229_67, r_229_70, r_229_72, r_229_73, r_229_74, r_229_75, r_229_76, r_229_77, r_229_78, r_229_81, r_229_84, r_229_85, r_229_88, r_229_89, r_229_91, r_229_92, r_229_93, r_229_94, r_229_97, r_229_100, r_229_103, r_229_104, r_229_105, r_229_108, r_229_111, r_229_112, r_229_115, r_229_116, r_229_118, r_229_119, r_229_122, r_229_123, r_229_124, r_229_127, r_229_130, r_229_132, r_229_133, r_229_134, r_229_137, r_229_138, r_229_139, r_229_140, r_229_141, r_229_142, r_229_143, r_229_144, r_229_145, r_229_146, r_229_147, r_229_150, r_229_153, r_229_154, r_229_155, r_229_157, r_229_158, r_229_159, r_229_160, r_229_163, r_229_164, r_229_165, r_229_166, Option.bind_some, Option.bind_none, Option.toList_some, Option.toList_none, List.cons_append, List.nil_append, Option.map_some, Option.map_none, eq_self, if_true, if_false, reduceIte, ai_bi_eq0, ai_bi_eq1, ai_pb_bi, ai_pb_0, ai_pb_1, f_185_0, et, m_isCharacter h hk, e1, e2, m_culprit h hk ho (show d < 3 by omega), c2, c3, m_could h hk (show c < 8 by omega) (show o < 8 by omega) hd, c4, m_chapterOf h hk (show o < 8 by omega) hd, m_sitting h hk, e5, Bool.true_eq_false, m_ref_f, ep, efg]
              rfl
        · have c4' : kb_could B c o d = false := by simpa using c4
          rw [if_neg c4]
          refine ⟨xm_s w, h, ?_⟩
          simp only [e_229, o_185, r_229_0, r_229_1, r_229_2, r_229_5, r_229_8, r_229_9, r_229_10, r_229_11, r_229_14, r_229_17, r_229_18, r_229_19, r_229_20, r_229_21, r_229_22, r_229_25, r_229_27, r_229_28, r_229_29, r_229_30, r_229_33, r_229_34, r_229_37, r_229_38, r_229_40, r_229_41, r_229_44, r_229_47, r_229_48, r_229_50, r_229_52, r_229_55, r_229_56, r_229_59, r_229_60, r_229_62, r_229_64, r_229_67, r_229_70, r_229_72, r_229_73, r_229_74, r_229_75, r_229_76, r_229_77, r_229_78, r_229_81, r_229_84, r_229_85, r_229_88, r_229_89, r_229_91, r_229_92, r_229_93, r_229_94, r_229_97, r_229_100, r_229_103, r_229_104, r_229_105, r_229_108, r_229_111, r_229_112, r_229_115, r_229_116, r_229_118, r_229_119, r_229_122, r_229_123, r_229_124, r_229_127, r_229_130, r_229_132, r_229_133, r_229_134, r_229_137, r_229_138, r_229_139, r_229_140, r_229_141, r_229_142, r_229_143, r_229_144, r_229_145, r_229_146, r_229_147, r_229_150, r_229_153, r_229_154, r_229_155, r_229_157, r_229_158, r_229_159, r_229_160, r_229_163, r_229_164, r_229_165, r_229_166, Option.bind_some, Option.bind_none, Option.toList_some, Option.toList_none, List.cons_append, List.nil_append, Option.map_some, Option.map_none, eq_self, if_true, if_false, reduceIte, ai_bi_eq0, ai_bi_eq1, ai_pb_bi, ai_pb_0, ai_pb_1, m_isCharacter h hk, e1, e2, m_culprit h hk ho (show d < 3 by omega), c2, c3, m_could h hk (show c < 8 by omega) (show o < 8 by omega) hd, c4', m_chapterOf h hk (show o < 8 by omega) hd, Bool.true_eq_false, m_ref_f, m_ref_t, show ¬ (1 : Int32) = 0 by decide]
      · rw [if_neg c3]
        refine ⟨xm_s w, h, ?_⟩
        simp only [e_229, o_185, r_229_0, r_229_1, r_229_2, r_229_5, r_229_8, r_229_9, r_229_10, r_229_11, r_229_14, r_229_17, r_229_18, r_229_19, r_229_20, r_229_21, r_229_22, r_229_25, r_229_27, r_229_28, r_229_29, r_229_30, r_229_33, r_229_34, r_229_37, r_229_38, r_229_40, r_229_41, r_229_44, r_229_47, r_229_48, r_229_50, r_229_52, r_229_55, r_229_56, r_229_59, r_229_60, r_229_62, r_229_64, r_229_67, r_229_70, r_229_72, r_229_73, r_229_74, r_229_75, r_229_76, r_229_77, r_229_78, r_229_81, r_229_84, r_229_85, r_229_88, r_229_89, r_229_91, r_229_92, r_229_93, r_229_94, r_229_97, r_229_100, r_229_103, r_229_104, r_229_105, r_229_108, r_229_111, r_229_112, r_229_115, r_229_116, r_229_118, r_229_119, r_229_122, r_229_123, r_229_124, r_229_127, r_229_130, r_229_132, r_229_133, r_229_134, r_229_137, r_229_138, r_229_139, r_229_140, r_229_141, r_229_142, r_229_143, r_229_144, r_229_145, r_229_146, r_229_147, r_229_150, r_229_153, r_229_154, r_229_155, r_229_157, r_229_158, r_229_159, r_229_160, r_229_163, r_229_164, r_229_165, r_229_166, Option.bind_some, Option.bind_none, Option.toList_some, Option.toList_none, List.cons_append, List.nil_append, Option.map_some, Option.map_none, eq_self, if_true, if_false, reduceIte, ai_bi_eq0, ai_bi_eq1, ai_pb_bi, ai_pb_0, ai_pb_1, m_isCharacter h hk, e1, e2, m_culprit h hk ho (show d < 3 by omega), c2, c3, Bool.true_eq_false, m_ref_f, m_ref_t, show ¬ (1 : Int32) = 0 by decide]
  · rw [if_neg (by rw [c2]; exact Bool.false_ne_true)]
    refine ⟨xm_s w, h, ?_⟩
    simp only [e_229, o_185, r_229_0, r_229_1, r_229_2, r_229_5, r_229_8, r_229_9, r_229_10, r_229_11, r_229_14, r_229_17, r_229_18, r_229_19, r_229_20, r_229_21, r_229_22, r_229_25, r_229_27, r_229_28, r_229_29, r_229_30, r_229_33, r_229_34, r_229_37, r_229_38, r_229_40, r_229_41, r_229_44, r_229_47, r_229_48, r_229_50, r_229_52, r_229_55, r_229_56, r_229_59, r_229_60, r_229_62, r_229_64, r_229_67, r_229_70, r_229_72, r_229_73, r_229_74, r_229_75, r_229_76, r_229_77, r_229_78, r_229_81, r_229_84, r_229_85, r_229_88, r_229_89, r_229_91, r_229_92, r_229_93, r_229_94, r_229_97, r_229_100, r_229_103, r_229_104, r_229_105, r_229_108, r_229_111, r_229_112, r_229_115, r_229_116, r_229_118, r_229_119, r_229_122, r_229_123, r_229_124, r_229_127, r_229_130, r_229_132, r_229_133, r_229_134, r_229_137, r_229_138, r_229_139, r_229_140, r_229_141, r_229_142, r_229_143, r_229_144, r_229_145, r_229_146, r_229_147, r_229_150, r_229_153, r_229_154, r_229_155, r_229_157, r_229_158, r_229_159, r_229_160, r_229_163, r_229_164, r_229_165, r_229_166, Option.bind_some, Option.bind_none, Option.toList_some, Option.toList_none, List.cons_append, List.nil_append, Option.map_some, Option.map_none, eq_self, if_true, if_false, reduceIte, ai_bi_eq0, ai_bi_eq1, ai_pb_bi, ai_pb_0, ai_pb_1, m_isCharacter h hk, c1, Bool.true_eq_false, Bool.false_eq_true]
    rfl
  · rw [if_neg (by rw [c2]; exact Bool.false_ne_true)]
    refine ⟨xm_s w, h, ?_⟩
    simp only [e_229, o_185, r_229_0, r_229_1, r_229_2, r_229_5, r_229_8, r_229_9, r_229_10, r_229_11, r_229_14, r_229_17, r_229_18, r_229_19, r_229_20, r_229_21, r_229_22, r_229_25, r_229_27, r_229_28, r_229_29, r_229_30, r_229_33, r_229_34, r_229_37, r_229_38, r_229_40, r_229_41, r_229_44, r_229_47, r_229_48, r_229_50, r_229_52, r_229_55, r_229_56, r_229_59, r_229_60, r_229_62, r_229_64, r_229_67, r_229_70, r_229_72, r_229_73, r_229_74, r_229_75, r_229_76, r_229_77, r_229_78, r_229_81, r_229_84, r_229_85, r_229_88, r_229_89, r_229_91, r_229_92, r_229_93, r_229_94, r_229_97, r_229_100, r_229_103, r_229_104, r_229_105, r_229_108, r_229_111, r_229_112, r_229_115, r_229_116, r_229_118, r_229_119, r_229_122, r_229_123, r_229_124, r_229_127, r_229_130, r_229_132, r_229_133, r_229_134, r_229_137, r_229_138, r_229_139, r_229_140, r_229_141, r_229_142, r_229_143, r_229_144, r_229_145, r_229_146, r_229_147, r_229_150, r_229_153, r_229_154, r_229_155, r_229_157, r_229_158, r_229_159, r_229_160, r_229_163, r_229_164, r_229_165, r_229_166, Option.bind_some, Option.bind_none, Option.toList_some, Option.toList_none, List.cons_append, List.nil_append, Option.map_some, Option.map_none, eq_self, if_true, if_false, reduceIte, ai_bi_eq0, ai_bi_eq1, ai_pb_bi, ai_pb_0, ai_pb_1, m_isCharacter h hk, c1, c3, Bool.true_eq_false, Bool.false_eq_true]
    rfl
end MB
