/-! The reference's commands. -/
theorem ms_0 (w : xw_W) (x : Int32) : ai_aset (wl w) 186 0 x = some (wl (xm_ws w (upd (xm_s w) 0 x))) := ms w (j := 0) (by decide) x
theorem ms_1 (w : xw_W) (x : Int32) : ai_aset (wl w) 186 1 x = some (wl (xm_ws w (upd (xm_s w) 1 x))) := ms w (j := 1) (by decide) x
theorem ms_2 (w : xw_W) (x : Int32) : ai_aset (wl w) 186 2 x = some (wl (xm_ws w (upd (xm_s w) 2 x))) := ms w (j := 2) (by decide) x
theorem m_sets0 (w : xw_W) {c : Nat} (hc : c < 8) (v : Int32) : ai_Call 177 [.ref 185, .int (nI c), .int 0, .int v] (wl w) = some (none, wl (xm_ws w (upd (xm_s w) (109 + c * 10 + 0) v))) := m_sets w hc (k := 0) (by decide) v
section MB
variable {w : xw_W} {B : kb_B}
theorem m_tellsAuthor (h : kb_m (xm_s w) B) (hk : kb_ok B) : km_is w (kc_author B) (ai_Call 184 [.ref 185] (wl w)) := by
  have hn := hk.2.1
  unfold kc_author
  by_cases c : kb_a B = 4
  · rw [if_pos c]
    refine ⟨xm_s w, h, ?_⟩
    have e1 : xm_s w 1 = 4 := by rw [h.2.1, c]; rfl
    simp only [e_184, o_185, r_184_0, r_184_1, r_184_2, r_184_5, r_184_6, r_184_7, r_184_8, r_184_11, r_184_12, r_184_15, r_184_16, r_184_17, r_184_18, r_184_21, r_184_24, r_184_26, r_184_27, r_184_28, r_184_31, r_184_32, r_184_33, r_184_34, r_184_35, r_184_36, r_184_37, r_184_38, r_184_41, r_184_42, r_184_43, r_184_44, r_184_45, Option.bind_some, Option.bind_none, Option.toList_some, Option.toList_none, List.cons_append, List.nil_append, Option.map_some, Option.map_none, eq_self, if_true, if_false, reduceIte, ai_bi_eq0, ai_bi_eq1, ai_pb_bi, ai_pb_0, ai_pb_1, f_185_0, mg_1, e1, m_ref_t, show ¬ (1 : Int32) = 0 by decide]
  · rw [if_neg c]
    have c1 : ¬ nI (kb_a B) = 4 := fun q => c ((nI_eq (a := kb_a B) (b := 4) (by omega) (by decide)).mp q)
    have hx := km_a h (kb_a B + 1)
    refine ⟨_, hx, ?_⟩
    have ep := ms_1 w (nI (kb_a B + 1))
    have e1 : ai_aget (wl (xm_ws w (upd (xm_s w) 1 (nI (kb_a B + 1))))) 186 1 = some (nI (kb_a B + 1)) := by
      rw [mg_1]
      exact congrArg some (upd_at (xm_s w) 1 (nI (kb_a B + 1)))
    have e0 : ai_aget (wl w) 186 1 = some (nI (kb_a B)) := by
      rw [mg_1]
      exact congrArg some h.2.1
    simp only [e_184, o_185, r_184_0, r_184_1, r_184_2, r_184_5, r_184_6, r_184_7, r_184_8, r_184_11, r_184_12, r_184_15, r_184_16, r_184_17, r_184_18, r_184_21, r_184_24, r_184_26, r_184_27, r_184_28, r_184_31, r_184_32, r_184_33, r_184_34, r_184_35, r_184_36, r_184_37, r_184_38, r_184_41, r_184_42, r_184_43, r_184_44, r_184_45, Option.bind_some, Option.bind_none, Option.toList_some, Option.toList_none, List.cons_append, List.nil_append, Option.map_some, Option.map_none, eq_self, if_true, if_false, reduceIte, ai_bi_eq0, ai_bi_eq1, ai_pb_bi, ai_pb_0, ai_pb_1, f_185_0, e0, c1, m_ref_f, nI_1, ep, e1, s_1]
    rfl
theorem m_comes (h : kb_m (xm_s w) B) (hk : kb_ok B) : km_is w (kc_character B) (ai_Call 198 [.ref 185] (wl w)) := by
  have hn := hk.1
  unfold kc_character
  by_cases c : kb_n B = 8
  · rw [if_pos c]
    refine ⟨xm_s w, h, ?_⟩
    have e1 : xm_s w 0 = 8 := by rw [h.1, c]; rfl
    simp only [e_198, o_185, r_198_0, r_198_1, r_198_2, r_198_5, r_198_6, r_198_7, r_198_9, r_198_12, r_198_13, r_198_16, r_198_17, r_198_18, r_198_20, r_198_23, r_198_26, r_198_28, r_198_29, r_198_30, r_198_32, r_198_33, r_198_36, r_198_37, r_198_38, r_198_41, r_198_42, r_198_43, r_198_45, r_198_46, r_198_47, r_198_49, r_198_52, r_198_55, r_198_58, r_198_59, r_198_62, r_198_63, r_198_64, r_198_65, r_198_66, r_198_67, r_198_68, r_198_69, r_198_72, r_198_73, r_198_74, r_198_75, r_198_76, Option.bind_some, Option.bind_none, Option.toList_some, Option.toList_none, List.cons_append, List.nil_append, Option.map_some, Option.map_none, eq_self, if_true, if_false, reduceIte, ai_bi_eq0, ai_bi_eq1, ai_pb_bi, ai_pb_0, ai_pb_1, f_185_0, mg_0, e1, m_ref_t, show ¬ (1 : Int32) = 0 by decide]
  · rw [if_neg c]
    have c1 : ¬ nI (kb_n B) = 8 := fun q => c ((nI_eq (a := kb_n B) (b := 8) (by omega) (by decide)).mp q)
    have step : ∀ s i, i < 3 → s 0 = nI (kb_n B) → ai_Run 198 31 [.ref 185, .int (nI i)] [] (wl (xm_ws w s)) = ai_Run 198 31 [.ref 185, .int (nI (i + 1))] [] (wl (xm_ws w (upd s (109 + kb_n B * 10 + (7 + i)) (-4)))) := by
      intro s i hi hs
      have e0 : ai_aget (wl (xm_ws w s)) 186 0 = some (nI (kb_n B)) := by
        rw [mg_0]
        exact congrArg some hs
      have c2 : nI i < 3 := nI_lt (b := 3) hi (by decide)
      rw [r_198_31]
      simp only [r_198_0, r_198_1, r_198_2, r_198_5, r_198_6, r_198_7, r_198_9, r_198_12, r_198_13, r_198_16, r_198_17, r_198_18, r_198_20, r_198_23, r_198_26, r_198_28, r_198_29, r_198_30, r_198_32, r_198_33, r_198_36, r_198_37, r_198_38, r_198_41, r_198_42, r_198_43, r_198_45, r_198_46, r_198_47, r_198_49, r_198_52, r_198_55, r_198_58, r_198_59, r_198_62, r_198_63, r_198_64, r_198_65, r_198_66, r_198_67, r_198_68, r_198_69, r_198_72, r_198_73, r_198_74, r_198_75, r_198_76, Option.bind_some, Option.bind_none, Option.toList_some, Option.toList_none, List.cons_append, List.nil_append, Option.map_some, Option.map_none, eq_self, if_true, if_false, reduceIte, ai_bi_eq0, ai_bi_eq1, ai_pb_bi, ai_pb_0, ai_pb_1, c2, f_185_0, e0, a_7, m_sets (xm_ws w s) (show kb_n B < 8 by omega) (show 7 + i < 10 by omega), nI_1]
    have hx := km_n h hk (by omega)
    refine ⟨_, hx, ?_⟩
    have u0 := step (xm_s w) 0 (by decide) h.1
    have u1 := step (upd (xm_s w) (109 + kb_n B * 10 + (7 + 0)) (-4)) 1 (by decide) (by rw [upd_ne _ (by omega)]; exact h.1)
    have u2 := step (upd (upd (xm_s w) (109 + kb_n B * 10 + (7 + 0)) (-4)) (109 + kb_n B * 10 + (7 + 1)) (-4)) 2 (by decide) (by rw [upd_ne _ (by omega), upd_ne _ (by omega)]; exact h.1)
    have h3 : (upd (upd (upd (xm_s w) (109 + kb_n B * 10 + (7 + 0)) (-4)) (109 + kb_n B * 10 + (7 + 1)) (-4)) (109 + kb_n B * 10 + (7 + 2)) (-4)) 0 = nI (kb_n B) := by
      rw [upd_ne _ (by omega), upd_ne _ (by omega), upd_ne _ (by omega)]
      exact h.1
    have u := u0.trans (u1.trans u2)
    generalize upd (upd (upd (xm_s w) (109 + kb_n B * 10 + (7 + 0)) (-4)) (109 + kb_n B * 10 + (7 + 1)) (-4)) (109 + kb_n B * 10 + (7 + 2)) (-4) = s3 at u h3 ⊢
    have e0 : ai_aget (wl (xm_ws w s3)) 186 0 = some (nI (kb_n B)) := by
      rw [mg_0]
      exact congrArg some h3
    have ep : ai_aset (wl (xm_ws w s3)) 186 0 (nI (kb_n B + 1)) = some (wl (xm_ws w (upd s3 0 (nI (kb_n B + 1))))) := ms_0 _ _
    have e1 : ai_aget (wl (xm_ws w (upd s3 0 (nI (kb_n B + 1))))) 186 0 = some (nI (kb_n B + 1)) := by
      rw [mg_0]
      exact congrArg some (upd_at s3 0 (nI (kb_n B + 1)))
    have fin : ai_Run 198 31 [.ref 185, .int (nI 3)] [] (wl (xm_ws w s3)) = some (some (.int (nI (kb_n B))), wl (xm_ws w (upd s3 0 (nI (kb_n B + 1))))) := by
      rw [r_198_31]
      simp only [r_198_0, r_198_1, r_198_2, r_198_5, r_198_6, r_198_7, r_198_9, r_198_12, r_198_13, r_198_16, r_198_17, r_198_18, r_198_20, r_198_23, r_198_26, r_198_28, r_198_29, r_198_30, r_198_32, r_198_33, r_198_36, r_198_37, r_198_38, r_198_41, r_198_42, r_198_43, r_198_45, r_198_46, r_198_47, r_198_49, r_198_52, r_198_55, r_198_58, r_198_59, r_198_62, r_198_63, r_198_64, r_198_65, r_198_66, r_198_67, r_198_68, r_198_69, r_198_72, r_198_73, r_198_74, r_198_75, r_198_76, Option.bind_some, Option.bind_none, Option.toList_some, Option.toList_none, List.cons_append, List.nil_append, Option.map_some, Option.map_none, eq_self, if_true, if_false, reduceIte, ai_bi_eq0, ai_bi_eq1, ai_pb_bi, ai_pb_0, ai_pb_1, show ¬ nI 3 < 3 by decide, f_185_0, e0, nI_1, ep, e1, s_1]
    have u9 := u.trans fin
    simp only [e_198, o_185, r_198_0, r_198_1, r_198_2, r_198_5, r_198_6, r_198_7, r_198_9, r_198_12, r_198_13, r_198_16, r_198_17, r_198_18, r_198_20, r_198_23, r_198_26, r_198_28, r_198_29, r_198_30, r_198_32, r_198_33, r_198_36, r_198_37, r_198_38, r_198_41, r_198_42, r_198_43, r_198_45, r_198_46, r_198_47, r_198_49, r_198_52, r_198_55, r_198_58, r_198_59, r_198_62, r_198_63, r_198_64, r_198_65, r_198_66, r_198_67, r_198_68, r_198_69, r_198_72, r_198_73, r_198_74, r_198_75, r_198_76, Option.bind_some, Option.bind_none, Option.toList_some, Option.toList_none, List.cons_append, List.nil_append, Option.map_some, Option.map_none, eq_self, if_true, if_false, reduceIte, ai_bi_eq0, ai_bi_eq1, ai_pb_bi, ai_pb_0, ai_pb_1, f_185_0, mg_0, h.1, c1, m_ref_f]
    exact u9
theorem m_last (h : kb_m (xm_s w) B) (hk : kb_ok B) {c : Nat} (hc : c < 8) : ai_Call 214 [.ref 185, .int (nI c)] (wl w) = some (some (.int (nI (kb_la B c))), wl w) := m_lastChapter h hk hc
theorem m_isTooEarly (h : kb_m (xm_s w) B) (hk : kb_ok B) {c q : Nat} (hc : c < 8) (hq : q ≤ 30) : ai_Call 215 [.ref 185, .int (nI c), .int (nI q)] (wl w) = some (some (.int (ai_bi (decide (q ≤ kb_la B c ∨ kb_T B c = 6)))), wl (if q ≤ kb_la B c then km_w w (xm_s w) (some (2, nI (kb_la B c))) else if kb_T B c = 6 then km_w w (xm_s w) (some (1, 6)) else w)) := by
  have h6 := hk.2.2.1 c
  have hl := la_le hk c
  by_cases c1 : q ≤ kb_la B c
  · have c2 : ¬ nI (kb_la B c) < nI q := nI_nlt c1 (by omega)
    rw [decide_eq_true (Or.inl c1), if_pos c1]
    simp only [e_215, o_185, r_215_0, r_215_1, r_215_2, r_215_5, r_215_6, r_215_7, r_215_8, r_215_9, r_215_12, r_215_13, r_215_16, r_215_17, r_215_18, r_215_19, r_215_22, r_215_25, r_215_26, r_215_27, r_215_28, r_215_29, r_215_32, r_215_34, r_215_37, r_215_38, r_215_41, r_215_42, r_215_43, r_215_45, r_215_48, r_215_51, r_215_52, r_215_55, r_215_56, Option.bind_some, Option.bind_none, Option.toList_some, Option.toList_none, List.cons_append, List.nil_append, Option.map_some, Option.map_none, eq_self, if_true, if_false, reduceIte, ai_bi_eq0, ai_bi_eq1, ai_pb_bi, ai_pb_0, ai_pb_1, m_last h hk hc, c2, m_ref_t, show ¬ (1 : Int32) = 0 by decide]
    rfl
  · have c2 : nI (kb_la B c) < nI q := nI_lt (by omega) (by omega)
    rw [if_neg c1]
    by_cases c3 : kb_T B c = 6
    · have e6 : nI (kb_T B c) = 6 := by rw [c3]; rfl
      rw [decide_eq_true (Or.inr c3), if_pos c3]
      simp only [e_215, o_185, r_215_0, r_215_1, r_215_2, r_215_5, r_215_6, r_215_7, r_215_8, r_215_9, r_215_12, r_215_13, r_215_16, r_215_17, r_215_18, r_215_19, r_215_22, r_215_25, r_215_26, r_215_27, r_215_28, r_215_29, r_215_32, r_215_34, r_215_37, r_215_38, r_215_41, r_215_42, r_215_43, r_215_45, r_215_48, r_215_51, r_215_52, r_215_55, r_215_56, Option.bind_some, Option.bind_none, Option.toList_some, Option.toList_none, List.cons_append, List.nil_append, Option.map_some, Option.map_none, eq_self, if_true, if_false, reduceIte, ai_bi_eq0, ai_bi_eq1, ai_pb_bi, ai_pb_0, ai_pb_1, m_last h hk hc, c2, m_ref_f, m_T h hc, e6, m_ref_t, show ¬ (1 : Int32) = 0 by decide]
      rfl
    · have e6 : ¬ nI (kb_T B c) = 6 := fun z => c3 ((nI_eq (a := kb_T B c) (b := 6) (by omega) (by decide)).mp z)
      rw [decide_eq_false (by omega), if_neg c3]
      simp only [e_215, o_185, r_215_0, r_215_1, r_215_2, r_215_5, r_215_6, r_215_7, r_215_8, r_215_9, r_215_12, r_215_13, r_215_16, r_215_17, r_215_18, r_215_19, r_215_22, r_215_25, r_215_26, r_215_27, r_215_28, r_215_29, r_215_32, r_215_34, r_215_37, r_215_38, r_215_41, r_215_42, r_215_43, r_215_45, r_215_48, r_215_51, r_215_52, r_215_55, r_215_56, Option.bind_some, Option.bind_none, Option.toList_some, Option.toList_none, List.cons_append, List.nil_append, Option.map_some, Option.map_none, eq_self, if_true, if_false, reduceIte, ai_bi_eq0, ai_bi_eq1, ai_pb_bi, ai_pb_0, ai_pb_1, m_last h hk hc, c2, m_ref_f, m_T h hc, e6]
      rfl
theorem m_adds (h : kb_m (xm_s w) B) {c : Nat} (hc : c < 8) (h6 : kb_T B c < 6) (q : Nat) : ai_Call 178 [.ref 185, .int (nI c), .int (nI q)] (wl w) = some (none, wl (xm_ws w (upd (upd (xm_s w) (109 + c * 10 + (1 + kb_T B c)) (nI q)) (109 + c * 10 + 0) (nI (kb_T B c + 1))))) := by
  simp only [e_178, o_185, r_178_0, r_178_1, r_178_2, r_178_3, r_178_6, r_178_7, r_178_8, r_178_9, r_178_10, r_178_11, r_178_12, r_178_13, r_178_16, r_178_17, r_178_18, r_178_19, r_178_20, r_178_21, r_178_22, r_178_25, Option.bind_some, Option.bind_none, Option.toList_some, Option.toList_none, List.cons_append, List.nil_append, Option.map_some, Option.map_none, eq_self, if_true, if_false, reduceIte, ai_bi_eq0, ai_bi_eq1, ai_pb_bi, ai_pb_0, ai_pb_1, m_T h hc, a_1, m_sets w hc (show 1 + kb_T B c < 10 by omega), nI_1, m_sets0 _ hc]
theorem m_dies (h : kb_m (xm_s w) B) (hk : kb_ok B) (x y : Int32) : km_is w (kc_die B x y) (ai_Call 216 [.ref 185, .int x, .int y] (wl w)) := by
  have hn := hk.1
  unfold kc_die
  by_cases c1 : ai_is (kb_n B) x = true
  · obtain ⟨c, hc, rfl⟩ := ai_is_of (by omega) c1
    have hc8 : c < 8 := by omega
    rw [if_pos c1, nI_clamp (show c < 2 ^ 31 by omega)]
    by_cases c2 : kb_ch y = true
    · obtain ⟨q, hq1, hq2, rfl⟩ := kb_ch_of c2
      rw [if_pos c2, nI_clamp (show q < 2 ^ 31 by omega)]
      by_cases c3 : kb_T B c % 2 = 1
      · rw [if_pos c3]
        refine ⟨xm_s w, h, ?_⟩
        simp only [e_216, o_185, r_216_0, r_216_1, r_216_2, r_216_5, r_216_8, r_216_9, r_216_10, r_216_11, r_216_14, r_216_17, r_216_19, r_216_20, r_216_21, r_216_22, r_216_23, r_216_26, r_216_27, r_216_28, r_216_29, r_216_32, r_216_35, r_216_38, r_216_39, r_216_40, r_216_41, r_216_44, r_216_47, r_216_49, r_216_50, r_216_51, r_216_52, r_216_53, r_216_56, r_216_57, r_216_58, r_216_61, Option.bind_some, Option.bind_none, Option.toList_some, Option.toList_none, List.cons_append, List.nil_append, Option.map_some, Option.map_none, eq_self, if_true, if_false, reduceIte, ai_bi_eq0, ai_bi_eq1, ai_pb_bi, ai_pb_0, ai_pb_1, m_isCharacter h hk, c1, m_isChapter, c2, m_isDeadNow h hk hc8, c3, decide_true, Bool.true_eq_false, m_deathsOf h hk hc8, m_ref_bt, show ¬ (1 : Int32) = 0 by decide]
      · rw [if_neg c3]
        have ec := m_isTooEarly h hk hc8 hq2
        unfold kc_turn
        by_cases c4 : q ≤ kb_la B c
        · rw [if_pos c4]
          rw [decide_eq_true (Or.inl c4), if_pos c4] at ec
          refine ⟨xm_s w, h, ?_⟩
          simp only [e_216, o_185, r_216_0, r_216_1, r_216_2, r_216_5, r_216_8, r_216_9, r_216_10, r_216_11, r_216_14, r_216_17, r_216_19, r_216_20, r_216_21, r_216_22, r_216_23, r_216_26, r_216_27, r_216_28, r_216_29, r_216_32, r_216_35, r_216_38, r_216_39, r_216_40, r_216_41, r_216_44, r_216_47, r_216_49, r_216_50, r_216_51, r_216_52, r_216_53, r_216_56, r_216_57, r_216_58, r_216_61, Option.bind_some, Option.bind_none, Option.toList_some, Option.toList_none, List.cons_append, List.nil_append, Option.map_some, Option.map_none, eq_self, if_true, if_false, reduceIte, ai_bi_eq0, ai_bi_eq1, ai_pb_bi, ai_pb_0, ai_pb_1, m_isCharacter h hk, c1, m_isChapter, c2, m_isDeadNow h hk hc8, c3, decide_false, Bool.true_eq_false, m_deathsOf h hk hc8, m_ref_bf, ec]
        · rw [if_neg c4]
          rw [if_neg c4] at ec
          by_cases c5 : kb_T B c = 6
          · rw [if_pos c5]
            rw [decide_eq_true (Or.inr c5), if_pos c5] at ec
            refine ⟨xm_s w, h, ?_⟩
            simp only [e_216, o_185, r_216_0, r_216_1, r_216_2, r_216_5, r_216_8, r_216_9, r_216_10, r_216_11, r_216_14, r_216_17, r_216_19, r_216_20, r_216_21, r_216_22, r_216_23, r_216_26, r_216_27, r_216_28, r_216_29, r_216_32, r_216_35, r_216_38, r_216_39, r_216_40, r_216_41, r_216_44, r_216_47, r_216_49, r_216_50, r_216_51, r_216_52, r_216_53, r_216_56, r_216_57, r_216_58, r_216_61, Option.bind_some, Option.bind_none, Option.toList_some, Option.toList_none, List.cons_append, List.nil_append, Option.map_some, Option.map_none, eq_self, if_true, if_false, reduceIte, ai_bi_eq0, ai_bi_eq1, ai_pb_bi, ai_pb_0, ai_pb_1, m_isCharacter h hk, c1, m_isChapter, c2, m_isDeadNow h hk hc8, c3, decide_false, Bool.true_eq_false, m_deathsOf h hk hc8, m_ref_bf, ec]
          · rw [if_neg c5]
            rw [decide_eq_false (by omega), if_neg c5] at ec
            have h6 := hk.2.2.1 c
            have hx := km_add h hk hc8 (show kb_T B c < 6 by omega) (q := q)
            have hk2 := ok_add hk hc (show kb_T B c < 6 by omega) hq1 hq2 (show kb_la B c < q by omega)
            have ea := m_adds h hc8 (show kb_T B c < 6 by omega) q
            refine ⟨_, hx, ?_⟩
            have hx2 := hx
            generalize upd (upd (xm_s w) (109 + c * 10 + (1 + kb_T B c)) (nI q)) (109 + c * 10 + 0) (nI (kb_T B c + 1)) = s2 at ea hx2 ⊢
            have ed := m_deathsOf (w := xm_ws w s2) hx2 hk2 hc8
            rw [d_add B (by omega)] at ed
            simp only [e_216, o_185, r_216_0, r_216_1, r_216_2, r_216_5, r_216_8, r_216_9, r_216_10, r_216_11, r_216_14, r_216_17, r_216_19, r_216_20, r_216_21, r_216_22, r_216_23, r_216_26, r_216_27, r_216_28, r_216_29, r_216_32, r_216_35, r_216_38, r_216_39, r_216_40, r_216_41, r_216_44, r_216_47, r_216_49, r_216_50, r_216_51, r_216_52, r_216_53, r_216_56, r_216_57, r_216_58, r_216_61, Option.bind_some, Option.bind_none, Option.toList_some, Option.toList_none, List.cons_append, List.nil_append, Option.map_some, Option.map_none, eq_self, if_true, if_false, reduceIte, ai_bi_eq0, ai_bi_eq1, ai_pb_bi, ai_pb_0, ai_pb_1, m_isCharacter h hk, c1, m_isChapter, c2, m_isDeadNow h hk hc8, c3, decide_false, Bool.true_eq_false, Bool.false_eq_true, m_deathsOf h hk hc8, m_ref_bf, ec, ea, ed]
            rfl
    · have c2' : kb_ch y = false := by simpa using c2
      rw [if_neg c2]
      refine ⟨xm_s w, h, ?_⟩
      simp only [e_216, o_185, r_216_0, r_216_1, r_216_2, r_216_5, r_216_8, r_216_9, r_216_10, r_216_11, r_216_14, r_216_17, r_216_19, r_216_20, r_216_21, r_216_22, r_216_23, r_216_26, r_216_27, r_216_28, r_216_29, r_216_32, r_216_35, r_216_38, r_216_39, r_216_40, r_216_41, r_216_44, r_216_47, r_216_49, r_216_50, r_216_51, r_216_52, r_216_53, r_216_56, r_216_57, r_216_58, r_216_61, Option.bind_some, Option.bind_none, Option.toList_some, Option.toList_none, List.cons_append, List.nil_append, Option.map_some, Option.map_none, eq_self, if_true, if_false, reduceIte, ai_bi_eq0, ai_bi_eq1, ai_pb_bi, ai_pb_0, ai_pb_1, m_isCharacter h hk, c1, m_isChapter, c2', Bool.true_eq_false, Bool.false_eq_true]
      rfl
  · have c1' : ai_is (kb_n B) x = false := by simpa using c1
    rw [if_neg c1]
    refine ⟨xm_s w, h, ?_⟩
    simp only [e_216, o_185, r_216_0, r_216_1, r_216_2, r_216_5, r_216_8, r_216_9, r_216_10, r_216_11, r_216_14, r_216_17, r_216_19, r_216_20, r_216_21, r_216_22, r_216_23, r_216_26, r_216_27, r_216_28, r_216_29, r_216_32, r_216_35, r_216_38, r_216_39, r_216_40, r_216_41, r_216_44, r_216_47, r_216_49, r_216_50, r_216_51, r_216_52, r_216_53, r_216_56, r_216_57, r_216_58, r_216_61, Option.bind_some, Option.bind_none, Option.toList_some, Option.toList_none, List.cons_append, List.nil_append, Option.map_some, Option.map_none, eq_self, if_true, if_false, reduceIte, ai_bi_eq0, ai_bi_eq1, ai_pb_bi, ai_pb_0, ai_pb_1, m_isCharacter h hk, c1', Bool.true_eq_false, Bool.false_eq_true]
    rfl
end MB
