/-! The reference: what a reader would find, orders, whether the book is well. -/
theorem ms (w : xw_W) {j : Nat} (hj : j < 189) (x : Int32) : ai_aset (wl w) 186 (nI j) x = some (wl (xm_ws w (upd (xm_s w) j x))) := by
  rw [as_186, ai_ix_nI hj (by decide)]
  rfl
section MB
variable {w : xw_W} {B : kb_B}
theorem kb_m_j {s : Nat → Int32} (h : kb_m s B) {k v : Nat} (hk7 : k < 7) : kb_m (upd s (38 + k) (nI v)) (kb_wj B k v) := by
  have u : ∀ j, j ≠ 38 + k → upd s (38 + k) (nI v) j = s j := fun j hj => if_neg hj
  refine ⟨?_, ?_, ?_, ?_, ?_, ?_, ?_, ?_, ?_, ?_⟩
  · rw [u _ (by omega)]; exact h.1
  · rw [u _ (by omega)]; exact h.2.1
  · rw [u _ (by omega)]; exact h.2.2.1
  · intro c hc; rw [u _ (by omega)]; exact h.2.2.2.1 c hc
  · intro c i hc hi; rw [u _ (by omega)]; exact h.2.2.2.2.1 c i hc hi
  · intro c d hc hd; rw [u _ (by omega)]; exact h.2.2.2.2.2.1 c d hc hd
  · intro c hc; rw [u _ (by omega)]; exact h.2.2.2.2.2.2.1 c hc
  · intro c hc; rw [u _ (by omega)]; exact h.2.2.2.2.2.2.2.1 c hc
  · intro c o hc ho; rw [u _ (by omega)]; exact h.2.2.2.2.2.2.2.2.1 c o hc ho
  · intro i hi
    show (if 38 + i = 38 + k then nI v else s (38 + i)) = nI (if i = k then v else kb_J B i)
    by_cases q : i = k
    · rw [if_pos (by omega), if_pos q]
    · rw [if_neg (by omega), if_neg q]
      exact h.2.2.2.2.2.2.2.2.2 i hi
theorem kb_ok_j (hk : kb_ok B) {k v : Nat} (hv : v ≤ 9) : kb_ok (kb_wj B k v) := by
  refine ⟨hk.1, hk.2.1, hk.2.2.1, hk.2.2.2.1, hk.2.2.2.2.1, hk.2.2.2.2.2.1, hk.2.2.2.2.2.2.1, hk.2.2.2.2.2.2.2.1, hk.2.2.2.2.2.2.2.2.1, ?_, hk.2.2.2.2.2.2.2.2.2.2.1, hk.2.2.2.2.2.2.2.2.2.2.2⟩
  intro i
  show (if i = k then v else kb_J B i) ≤ 9
  split
  · exact hv
  · exact hk.2.2.2.2.2.2.2.2.2.1 i
theorem upd_upd {s : Nat → Int32} {j : Nat} {a : Int32} : upd (upd s j a) j (s j) = s := by
  funext i
  show (if i = j then s j else if i = j then a else s i) = s i
  split
  · rename_i q
    rw [q]
  · rfl
theorem m_would (h : kb_m (xm_s w) B) (hk : kb_ok B) (u v x y z : Int32) : ai_Call 268 [.ref 185, .int u, .int v, .int x, .int y, .int z] (wl w) = some (some (.int (kb_q21 B u v x y z)), wl w) := by
  have hn := hk.1
  unfold kb_q21
  by_cases c0 : ai_is 7 u = true
  · obtain ⟨k, hk7, rfl⟩ := ai_is_of (by omega) c0
    rw [if_pos c0]
    rcases m_case h hk x y z with c1 | ⟨c1, c2⟩ | ⟨c1, c2, c3⟩
    · have e1 : ai_is (kb_n B) x = true := by
        unfold kb_case at c1
        simp only [Bool.and_eq_true] at c1
        exact c1.1.1
      have e2 : ai_Call 211 [.ref 185, .int y, .int z] (wl w) = some (some (.int (ai_bi true)), wl w) := by
        rw [m_isDeath h hk]
        unfold kb_case at c1
        simp only [Bool.and_eq_true] at c1
        rw [c1.1.2, c1.2]
        rfl
      obtain ⟨c, o, d, hc, ho, hd, rfl, rfl, rfl⟩ := kb_case_of hk c1
      have h3 := kb_d3 hk o
      rw [if_pos c1, nI_clamp (show c < 2 ^ 31 by omega), nI_clamp (show o < 2 ^ 31 by omega), nI_clamp (show d < 2 ^ 31 by omega), nI_clamp (show k < 2 ^ 31 by omega)]
      have es : ∀ v, ai_in3 v 1 9 = ai_sev v := fun _ => rfl
      by_cases c3 : ai_sev v = true
      · obtain ⟨s, hs1, hs2, rfl⟩ := ai_sev_of c3
        rw [if_pos c3, nI_clamp (show s < 2 ^ 31 by omega)]
        by_cases c2 : nI c = nI o
        · have c9 : c = o := (nI_eq (by omega) (by omega)).mp c2
          subst c9
          simp only [e_268, o_185, r_268_0, r_268_1, r_268_4, r_268_7, r_268_8, r_268_9, r_268_12, r_268_15, r_268_16, r_268_18, r_268_20, r_268_23, r_268_26, r_268_27, r_268_28, r_268_29, r_268_30, r_268_32, r_268_35, r_268_38, r_268_39, r_268_41, r_268_44, r_268_46, r_268_47, r_268_48, r_268_51, r_268_53, r_268_54, r_268_55, r_268_56, r_268_58, r_268_59, r_268_62, r_268_64, r_268_65, r_268_66, r_268_67, r_268_68, r_268_69, r_268_70, r_268_72, r_268_74, r_268_77, r_268_80, r_268_81, r_268_84, r_268_85, r_268_87, r_268_88, r_268_91, r_268_93, r_268_94, r_268_95, r_268_97, r_268_98, r_268_100, Option.bind_some, Option.bind_none, Option.toList_some, Option.toList_none, List.cons_append, List.nil_append, Option.map_some, Option.map_none, eq_self, if_true, if_false, reduceIte, ai_bi_eq0, ai_bi_eq1, ai_pb_bi, ai_pb_0, ai_pb_1, m_isSeat, c0, m_isCharacter h hk, e1, e2, m_isIn, es, c3, Bool.true_eq_false]
        · have ep := ms w (show 38 + k < 189 by omega) (nI s)
          have hb : kb_m (xm_s (xm_ws w (upd (xm_s w) (38 + k) (nI s)))) (kb_wj B k s) := kb_m_j h hk7
          have eq : ai_aset (wl (xm_ws w (upd (xm_s w) (38 + k) (nI s)))) 186 (nI (38 + k)) (nI (kb_J B k)) = some (wl w) := by
            rw [ms _ (show 38 + k < 189 by omega)]
            have : upd (xm_s (xm_ws w (upd (xm_s w) (38 + k) (nI s)))) (38 + k) (nI (kb_J B k)) = xm_s w := by
              rw [← h.2.2.2.2.2.2.2.2.2 k hk7]
              exact upd_upd
            rw [this]
          have g0 := f_185_0 (xm_ws w (upd (xm_s w) (38 + k) (nI s)))
          generalize xm_ws w (upd (xm_s w) (38 + k) (nI s)) = w1 at ep hb eq g0
          have ef := m_isFound hb (kb_ok_j hk (k := k) hs2) (show c < 8 by omega) (show o < 8 by omega) hd
          simp only [e_268, o_185, f_185_0, g0, r_268_0, r_268_1, r_268_4, r_268_7, r_268_8, r_268_9, r_268_12, r_268_15, r_268_16, r_268_18, r_268_20, r_268_23, r_268_26, r_268_27, r_268_28, r_268_29, r_268_30, r_268_32, r_268_35, r_268_38, r_268_39, r_268_41, r_268_44, r_268_46, r_268_47, r_268_48, r_268_51, r_268_53, r_268_54, r_268_55, r_268_56, r_268_58, r_268_59, r_268_62, r_268_64, r_268_65, r_268_66, r_268_67, r_268_68, r_268_69, r_268_70, r_268_72, r_268_74, r_268_77, r_268_80, r_268_81, r_268_84, r_268_85, r_268_87, r_268_88, r_268_91, r_268_93, r_268_94, r_268_95, r_268_97, r_268_98, r_268_100, Option.bind_some, Option.bind_none, Option.toList_some, Option.toList_none, List.cons_append, List.nil_append, Option.map_some, Option.map_none, eq_self, if_true, if_false, reduceIte, ai_bi_eq0, ai_bi_eq1, ai_pb_bi, ai_pb_0, ai_pb_1, m_isSeat, c0, m_isCharacter h hk, e1, e2, m_isIn, es, c3, Bool.true_eq_false, c2, a_38, m_J h hk7, ep, ef, eq]
          have ew : kb_w (kb_wj B k s) c o d = kb_w B c o d := rfl
          rw [ew]
          cases decide (kb_sit (kb_wj B k s) < 2 * kb_votes (kb_wj B k s) (kb_w B c o d)) <;> simp only [r_268_0, r_268_1, r_268_4, r_268_7, r_268_8, r_268_9, r_268_12, r_268_15, r_268_16, r_268_18, r_268_20, r_268_23, r_268_26, r_268_27, r_268_28, r_268_29, r_268_30, r_268_32, r_268_35, r_268_38, r_268_39, r_268_41, r_268_44, r_268_46, r_268_47, r_268_48, r_268_51, r_268_53, r_268_54, r_268_55, r_268_56, r_268_58, r_268_59, r_268_62, r_268_64, r_268_65, r_268_66, r_268_67, r_268_68, r_268_69, r_268_70, r_268_72, r_268_74, r_268_77, r_268_80, r_268_81, r_268_84, r_268_85, r_268_87, r_268_88, r_268_91, r_268_93, r_268_94, r_268_95, r_268_97, r_268_98, r_268_100, Option.bind_some, Option.bind_none, Option.toList_some, Option.toList_none, List.cons_append, List.nil_append, Option.map_some, Option.map_none, eq_self, if_true, if_false, reduceIte, ai_bi_eq0, ai_bi_eq1, ai_pb_bi, ai_pb_0, ai_pb_1, a_38, g0, eq, Bool.true_eq_false, Bool.false_eq_true] <;> rfl
      · have c3' : ai_sev v = false := by simpa using c3
        simp only [e_268, o_185, r_268_0, r_268_1, r_268_4, r_268_7, r_268_8, r_268_9, r_268_12, r_268_15, r_268_16, r_268_18, r_268_20, r_268_23, r_268_26, r_268_27, r_268_28, r_268_29, r_268_30, r_268_32, r_268_35, r_268_38, r_268_39, r_268_41, r_268_44, r_268_46, r_268_47, r_268_48, r_268_51, r_268_53, r_268_54, r_268_55, r_268_56, r_268_58, r_268_59, r_268_62, r_268_64, r_268_65, r_268_66, r_268_67, r_268_68, r_268_69, r_268_70, r_268_72, r_268_74, r_268_77, r_268_80, r_268_81, r_268_84, r_268_85, r_268_87, r_268_88, r_268_91, r_268_93, r_268_94, r_268_95, r_268_97, r_268_98, r_268_100, Option.bind_some, Option.bind_none, Option.toList_some, Option.toList_none, List.cons_append, List.nil_append, Option.map_some, Option.map_none, eq_self, if_true, if_false, reduceIte, ai_bi_eq0, ai_bi_eq1, ai_pb_bi, ai_pb_0, ai_pb_1, m_isSeat, c0, m_isCharacter h hk, e1, e2, m_isIn, es, c3', Bool.true_eq_false, Bool.false_eq_true]
    · simp only [e_268, o_185, r_268_0, r_268_1, r_268_4, r_268_7, r_268_8, r_268_9, r_268_12, r_268_15, r_268_16, r_268_18, r_268_20, r_268_23, r_268_26, r_268_27, r_268_28, r_268_29, r_268_30, r_268_32, r_268_35, r_268_38, r_268_39, r_268_41, r_268_44, r_268_46, r_268_47, r_268_48, r_268_51, r_268_53, r_268_54, r_268_55, r_268_56, r_268_58, r_268_59, r_268_62, r_268_64, r_268_65, r_268_66, r_268_67, r_268_68, r_268_69, r_268_70, r_268_72, r_268_74, r_268_77, r_268_80, r_268_81, r_268_84, r_268_85, r_268_87, r_268_88, r_268_91, r_268_93, r_268_94, r_268_95, r_268_97, r_268_98, r_268_100, Option.bind_some, Option.bind_none, Option.toList_some, Option.toList_none, List.cons_append, List.nil_append, Option.map_some, Option.map_none, eq_self, if_true, if_false, reduceIte, ai_bi_eq0, ai_bi_eq1, ai_pb_bi, ai_pb_0, ai_pb_1, m_isSeat, c0, m_isCharacter h hk, c1, c2, Bool.true_eq_false, Bool.false_eq_true]
    · simp only [e_268, o_185, r_268_0, r_268_1, r_268_4, r_268_7, r_268_8, r_268_9, r_268_12, r_268_15, r_268_16, r_268_18, r_268_20, r_268_23, r_268_26, r_268_27, r_268_28, r_268_29, r_268_30, r_268_32, r_268_35, r_268_38, r_268_39, r_268_41, r_268_44, r_268_46, r_268_47, r_268_48, r_268_51, r_268_53, r_268_54, r_268_55, r_268_56, r_268_58, r_268_59, r_268_62, r_268_64, r_268_65, r_268_66, r_268_67, r_268_68, r_268_69, r_268_70, r_268_72, r_268_74, r_268_77, r_268_80, r_268_81, r_268_84, r_268_85, r_268_87, r_268_88, r_268_91, r_268_93, r_268_94, r_268_95, r_268_97, r_268_98, r_268_100, Option.bind_some, Option.bind_none, Option.toList_some, Option.toList_none, List.cons_append, List.nil_append, Option.map_some, Option.map_none, eq_self, if_true, if_false, reduceIte, ai_bi_eq0, ai_bi_eq1, ai_pb_bi, ai_pb_0, ai_pb_1, m_isSeat, c0, m_isCharacter h hk, c1, c2, c3, Bool.true_eq_false, Bool.false_eq_true]
  · have c0' : ai_is 7 u = false := by simpa using c0
    simp only [e_268, o_185, r_268_0, r_268_1, r_268_4, r_268_7, r_268_8, r_268_9, r_268_12, r_268_15, r_268_16, r_268_18, r_268_20, r_268_23, r_268_26, r_268_27, r_268_28, r_268_29, r_268_30, r_268_32, r_268_35, r_268_38, r_268_39, r_268_41, r_268_44, r_268_46, r_268_47, r_268_48, r_268_51, r_268_53, r_268_54, r_268_55, r_268_56, r_268_58, r_268_59, r_268_62, r_268_64, r_268_65, r_268_66, r_268_67, r_268_68, r_268_69, r_268_70, r_268_72, r_268_74, r_268_77, r_268_80, r_268_81, r_268_84, r_268_85, r_268_87, r_268_88, r_268_91, r_268_93, r_268_94, r_268_95, r_268_97, r_268_98, r_268_100, Option.bind_some, Option.bind_none, Option.toList_some, Option.toList_none, List.cons_append, List.nil_append, Option.map_some, Option.map_none, eq_self, if_true, if_false, reduceIte, ai_bi_eq0, ai_bi_eq1, ai_pb_bi, ai_pb_0, ai_pb_1, m_isSeat, c0', Bool.false_eq_true]
theorem kb_ah_self (B : kb_B) (k i : Nat) : kb_ah B k i i = false := by
  unfold kb_ah
  exact decide_eq_false (by omega)
theorem m_ranked (h : kb_m (xm_s w) B) (hk : kb_ok B) (x p : Int32) : ai_Call 248 [.ref 185, .int x, .int p] (wl w) = some (some (.int (kb_q22 B x p)), wl w) := by
  unfold kb_q22
  have ein : ai_in3 x 0 3 = ai_is 4 x := ai_in3_is (n := 4) (by decide)
  by_cases c0 : ai_is 4 x = true
  · obtain ⟨kind, hkd, rfl⟩ := ai_is_of (by omega) c0
    rw [if_pos c0, nI_clamp (show kind < 2 ^ 31 by omega)]
    have hm := kb_many8 hk kind
    have first : ∀ v4 v5 v6, ai_Run 248 32 [.ref 185, .int (nI kind), .int p, v4, v5, v6] [.int (nI (kb_many B kind))] (wl w) = ai_Run 248 32 [.ref 185, .int (nI kind), .int p, v4, v5, v6] [.int (nI (kb_many B kind))] (wl w) := fun _ _ _ => rfl
    have inner : ∀ i, i < kb_many B kind → ∀ n j, j + n = kb_many B kind → ai_Run 248 48 [.ref 185, .int (nI kind), .int p, .int (nI (kb_many B kind)), .int (nI i), .int (nI (kb_s (fun j => kb_i (kb_ah B kind j i)) j)), .int (nI j)] [] (wl w) = ai_Run 248 89 [.ref 185, .int (nI kind), .int p, .int (nI (kb_many B kind)), .int (nI i), .int (nI (kb_rk B kind i)), .int (nI (kb_many B kind))] [] (wl w) := by
      intro i hi n
      induction n with
      | zero =>
        intro j hj
        have e0 : j = kb_many B kind := by omega
        subst e0
        have c3 : ¬ nI (kb_many B kind) < nI (kb_many B kind) := nI_nlt (Nat.le_refl _) (by omega)
        rw [r_248_48]
        simp only [r_248_50, r_248_51, Option.bind_some, Option.bind_none, Option.toList_some, Option.toList_none, List.cons_append, List.nil_append, Option.map_some, Option.map_none, eq_self, if_true, if_false, reduceIte, ai_bi_eq0, ai_bi_eq1, ai_pb_bi, ai_pb_0, ai_pb_1, c3]
        rfl
      | succ n ih =>
        intro j hj
        have ih := ih (j + 1) (by omega)
        have c3 : nI j < nI (kb_many B kind) := nI_lt (by omega) (by omega)
        rw [r_248_48]
        rw [kb_s] at ih
        by_cases q : j = i
        · subst q
          rw [kb_ah_self, kb_i_f, Nat.add_zero] at ih
          simp only [r_248_0, r_248_1, r_248_2, r_248_3, r_248_6, r_248_9, r_248_11, r_248_12, r_248_13, r_248_14, r_248_17, r_248_18, r_248_21, r_248_22, r_248_23, r_248_26, r_248_27, r_248_30, r_248_31, r_248_32, r_248_33, r_248_34, r_248_38, r_248_39, r_248_42, r_248_43, r_248_45, r_248_46, r_248_50, r_248_51, r_248_54, r_248_56, r_248_58, r_248_60, r_248_63, r_248_64, r_248_65, r_248_67, r_248_69, r_248_72, r_248_75, r_248_76, r_248_79, r_248_80, r_248_81, r_248_83, r_248_86, r_248_89, r_248_91, r_248_92, r_248_95, r_248_97, r_248_98, r_248_101, r_248_104, r_248_105, Option.bind_some, Option.bind_none, Option.toList_some, Option.toList_none, List.cons_append, List.nil_append, Option.map_some, Option.map_none, eq_self, if_true, if_false, reduceIte, ai_bi_eq0, ai_bi_eq1, ai_pb_bi, ai_pb_0, ai_pb_1, c3, Int32.add_zero, nI_1, ih]
        · have q' : ¬ nI j = nI i := fun z => q ((nI_eq (by omega) (by omega)).mp z)
          have ea := m_isAhead h hk hkd hi (show j < kb_many B kind by omega)
          cases e9 : kb_ah B kind j i
          · rw [e9] at ea ih
            rw [kb_i_f, Nat.add_zero] at ih
            simp only [r_248_0, r_248_1, r_248_2, r_248_3, r_248_6, r_248_9, r_248_11, r_248_12, r_248_13, r_248_14, r_248_17, r_248_18, r_248_21, r_248_22, r_248_23, r_248_26, r_248_27, r_248_30, r_248_31, r_248_32, r_248_33, r_248_34, r_248_38, r_248_39, r_248_42, r_248_43, r_248_45, r_248_46, r_248_50, r_248_51, r_248_54, r_248_56, r_248_58, r_248_60, r_248_63, r_248_64, r_248_65, r_248_67, r_248_69, r_248_72, r_248_75, r_248_76, r_248_79, r_248_80, r_248_81, r_248_83, r_248_86, r_248_89, r_248_91, r_248_92, r_248_95, r_248_97, r_248_98, r_248_101, r_248_104, r_248_105, Option.bind_some, Option.bind_none, Option.toList_some, Option.toList_none, List.cons_append, List.nil_append, Option.map_some, Option.map_none, eq_self, if_true, if_false, reduceIte, ai_bi_eq0, ai_bi_eq1, ai_pb_bi, ai_pb_0, ai_pb_1, c3, q', ea, Bool.false_eq_true, Int32.add_zero, nI_1, ih]
          · rw [e9] at ea ih
            rw [kb_i_t] at ih
            simp only [r_248_0, r_248_1, r_248_2, r_248_3, r_248_6, r_248_9, r_248_11, r_248_12, r_248_13, r_248_14, r_248_17, r_248_18, r_248_21, r_248_22, r_248_23, r_248_26, r_248_27, r_248_30, r_248_31, r_248_32, r_248_33, r_248_34, r_248_38, r_248_39, r_248_42, r_248_43, r_248_45, r_248_46, r_248_50, r_248_51, r_248_54, r_248_56, r_248_58, r_248_60, r_248_63, r_248_64, r_248_65, r_248_67, r_248_69, r_248_72, r_248_75, r_248_76, r_248_79, r_248_80, r_248_81, r_248_83, r_248_86, r_248_89, r_248_91, r_248_92, r_248_95, r_248_97, r_248_98, r_248_101, r_248_104, r_248_105, Option.bind_some, Option.bind_none, Option.toList_some, Option.toList_none, List.cons_append, List.nil_append, Option.map_some, Option.map_none, eq_self, if_true, if_false, reduceIte, ai_bi_eq0, ai_bi_eq1, ai_pb_bi, ai_pb_0, ai_pb_1, c3, q', ea, Bool.true_eq_false, nI_1, ih]
    have loop : ∀ n i, i + n = kb_many B kind → ∀ v5 v6, ai_Run 248 36 [.ref 185, .int (nI kind), .int p, .int (nI (kb_many B kind)), .int (nI i), v5, v6] [] (wl w) = some (some (.int (kb_fst (fun i => decide (nI (kb_rk B kind i) = p)) n i)), wl w) := by
      intro n
      induction n with
      | zero =>
        intro i hi v5 v6
        have c3 : ¬ nI i < nI (kb_many B kind) := nI_nlt (by omega) (by omega)
        rw [r_248_36]
        simp only [r_248_0, r_248_1, r_248_2, r_248_3, r_248_6, r_248_9, r_248_11, r_248_12, r_248_13, r_248_14, r_248_17, r_248_18, r_248_21, r_248_22, r_248_23, r_248_26, r_248_27, r_248_30, r_248_31, r_248_32, r_248_33, r_248_34, r_248_38, r_248_39, r_248_42, r_248_43, r_248_45, r_248_46, r_248_50, r_248_51, r_248_54, r_248_56, r_248_58, r_248_60, r_248_63, r_248_64, r_248_65, r_248_67, r_248_69, r_248_72, r_248_75, r_248_76, r_248_79, r_248_80, r_248_81, r_248_83, r_248_86, r_248_89, r_248_91, r_248_92, r_248_95, r_248_97, r_248_98, r_248_101, r_248_104, r_248_105, Option.bind_some, Option.bind_none, Option.toList_some, Option.toList_none, List.cons_append, List.nil_append, Option.map_some, Option.map_none, eq_self, if_true, if_false, reduceIte, ai_bi_eq0, ai_bi_eq1, ai_pb_bi, ai_pb_0, ai_pb_1, c3]
        rfl
      | succ n ih =>
        intro i hi v5 v6
        have ih := ih (i + 1) (by omega)
        have c3 : nI i < nI (kb_many B kind) := nI_lt (by omega) (by omega)
        have ein := inner i (by omega) (kb_many B kind) 0 (by omega)
        have e0 : nI (kb_s (fun j => kb_i (kb_ah B kind j i)) 0) = 0 := rfl
        have e1 : nI 0 = 0 := rfl
        rw [e0, e1] at ein
        rw [r_248_36]
        by_cases c4 : nI (kb_rk B kind i) = p
        · simp only [r_248_0, r_248_1, r_248_2, r_248_3, r_248_6, r_248_9, r_248_11, r_248_12, r_248_13, r_248_14, r_248_17, r_248_18, r_248_21, r_248_22, r_248_23, r_248_26, r_248_27, r_248_30, r_248_31, r_248_32, r_248_33, r_248_34, r_248_38, r_248_39, r_248_42, r_248_43, r_248_45, r_248_46, r_248_50, r_248_51, r_248_54, r_248_56, r_248_58, r_248_60, r_248_63, r_248_64, r_248_65, r_248_67, r_248_69, r_248_72, r_248_75, r_248_76, r_248_79, r_248_80, r_248_81, r_248_83, r_248_86, r_248_89, r_248_91, r_248_92, r_248_95, r_248_97, r_248_98, r_248_101, r_248_104, r_248_105, Option.bind_some, Option.bind_none, Option.toList_some, Option.toList_none, List.cons_append, List.nil_append, Option.map_some, Option.map_none, eq_self, if_true, if_false, reduceIte, ai_bi_eq0, ai_bi_eq1, ai_pb_bi, ai_pb_0, ai_pb_1, c3, ein, c4, kb_fst, decide_true]
        · simp only [r_248_0, r_248_1, r_248_2, r_248_3, r_248_6, r_248_9, r_248_11, r_248_12, r_248_13, r_248_14, r_248_17, r_248_18, r_248_21, r_248_22, r_248_23, r_248_26, r_248_27, r_248_30, r_248_31, r_248_32, r_248_33, r_248_34, r_248_38, r_248_39, r_248_42, r_248_43, r_248_45, r_248_46, r_248_50, r_248_51, r_248_54, r_248_56, r_248_58, r_248_60, r_248_63, r_248_64, r_248_65, r_248_67, r_248_69, r_248_72, r_248_75, r_248_76, r_248_79, r_248_80, r_248_81, r_248_83, r_248_86, r_248_89, r_248_91, r_248_92, r_248_95, r_248_97, r_248_98, r_248_101, r_248_104, r_248_105, Option.bind_some, Option.bind_none, Option.toList_some, Option.toList_none, List.cons_append, List.nil_append, Option.map_some, Option.map_none, eq_self, if_true, if_false, reduceIte, ai_bi_eq0, ai_bi_eq1, ai_pb_bi, ai_pb_0, ai_pb_1, c3, ein, c4, kb_fst, decide_false, nI_1, Bool.false_eq_true, ih]
    have fin := loop (kb_many B kind) 0 (by omega) .null .null
    have e1 : nI 0 = 0 := rfl
    rw [e1] at fin
    by_cases c1 : kind = 3
    · subst c1
      have c2 : nI 3 = 3 := rfl
      have em : kb_many B 3 = kb_a B := rfl
      rw [c2, em] at fin
      rw [c2] at c0 ein
      simp only [e_248, o_185, f_185_0, r_248_0, r_248_1, r_248_2, r_248_3, r_248_6, r_248_9, r_248_11, r_248_12, r_248_13, r_248_14, r_248_17, r_248_18, r_248_21, r_248_22, r_248_23, r_248_26, r_248_27, r_248_30, r_248_31, r_248_32, r_248_33, r_248_34, r_248_38, r_248_39, r_248_42, r_248_43, r_248_45, r_248_46, r_248_50, r_248_51, r_248_54, r_248_56, r_248_58, r_248_60, r_248_63, r_248_64, r_248_65, r_248_67, r_248_69, r_248_72, r_248_75, r_248_76, r_248_79, r_248_80, r_248_81, r_248_83, r_248_86, r_248_89, r_248_91, r_248_92, r_248_95, r_248_97, r_248_98, r_248_101, r_248_104, r_248_105, Option.bind_some, Option.bind_none, Option.toList_some, Option.toList_none, List.cons_append, List.nil_append, Option.map_some, Option.map_none, eq_self, if_true, if_false, reduceIte, ai_bi_eq0, ai_bi_eq1, ai_pb_bi, ai_pb_0, ai_pb_1, m_isIn, ein, c0, Bool.true_eq_false, c2, mg_1, h.2.1, fin]
      rfl
    · have c2 : ¬ nI kind = 3 := fun z => c1 ((nI_eq (a := kind) (b := 3) (by omega) (by decide)).mp z)
      have em : kb_many B kind = kb_n B := if_neg c1
      rw [em] at fin
      simp only [e_248, o_185, f_185_0, r_248_0, r_248_1, r_248_2, r_248_3, r_248_6, r_248_9, r_248_11, r_248_12, r_248_13, r_248_14, r_248_17, r_248_18, r_248_21, r_248_22, r_248_23, r_248_26, r_248_27, r_248_30, r_248_31, r_248_32, r_248_33, r_248_34, r_248_38, r_248_39, r_248_42, r_248_43, r_248_45, r_248_46, r_248_50, r_248_51, r_248_54, r_248_56, r_248_58, r_248_60, r_248_63, r_248_64, r_248_65, r_248_67, r_248_69, r_248_72, r_248_75, r_248_76, r_248_79, r_248_80, r_248_81, r_248_83, r_248_86, r_248_89, r_248_91, r_248_92, r_248_95, r_248_97, r_248_98, r_248_101, r_248_104, r_248_105, Option.bind_some, Option.bind_none, Option.toList_some, Option.toList_none, List.cons_append, List.nil_append, Option.map_some, Option.map_none, eq_self, if_true, if_false, reduceIte, ai_bi_eq0, ai_bi_eq1, ai_pb_bi, ai_pb_0, ai_pb_1, m_isIn, ein, c0, Bool.true_eq_false, c2, mg_0, h.1, fin]
      unfold kb_at
      rw [em]
  · have c0' : ai_is 4 x = false := by simpa using c0
    simp only [e_248, o_185, r_248_0, r_248_1, r_248_2, r_248_3, r_248_6, r_248_9, r_248_11, r_248_12, r_248_13, r_248_14, r_248_17, r_248_18, r_248_21, r_248_22, r_248_23, r_248_26, r_248_27, r_248_30, r_248_31, r_248_32, r_248_33, r_248_34, r_248_38, r_248_39, r_248_42, r_248_43, r_248_45, r_248_46, r_248_50, r_248_51, r_248_54, r_248_56, r_248_58, r_248_60, r_248_63, r_248_64, r_248_65, r_248_67, r_248_69, r_248_72, r_248_75, r_248_76, r_248_79, r_248_80, r_248_81, r_248_83, r_248_86, r_248_89, r_248_91, r_248_92, r_248_95, r_248_97, r_248_98, r_248_101, r_248_104, r_248_105, Option.bind_some, Option.bind_none, Option.toList_some, Option.toList_none, List.cons_append, List.nil_append, Option.map_some, Option.map_none, eq_self, if_true, if_false, reduceIte, ai_bi_eq0, ai_bi_eq1, ai_pb_bi, ai_pb_0, ai_pb_1, m_isIn, ein, c0', Bool.false_eq_true]
theorem m_isWell (h : kb_m (xm_s w) B) (hk : kb_ok B) : ai_Call 241 [.ref 185] (wl w) = some (some (.int 1), wl w) := by
  have hn := hk.1
  have inner : ∀ c, c < kb_n B → ∀ X, (∀ v3, ai_Run 241 4 [.ref 185, .int 1, .int (nI (c + 1)), v3] [] (wl w) = X) → ∀ n k, kb_T B c ≤ k + n → k + n ≤ max (kb_T B c) 1 → 1 ≤ k → ai_Run 241 16 [.ref 185, .int 1, .int (nI c), .int (nI k)] [] (wl w) = X := by
    intro c hc X hX n
    have h6 := hk.2.2.1 c
    induction n with
    | zero =>
      intro k h1 h2 h3
      have c2 : ¬ nI k < nI (kb_T B c) := nI_nlt (by omega) (by omega)
      rw [r_241_16]
      simp only [r_241_0, r_241_1, r_241_2, r_241_3, r_241_5, r_241_6, r_241_9, r_241_10, r_241_11, r_241_14, r_241_15, r_241_17, r_241_18, r_241_19, r_241_20, r_241_23, r_241_26, r_241_27, r_241_28, r_241_29, r_241_30, r_241_31, r_241_32, r_241_35, r_241_36, r_241_37, r_241_38, r_241_39, r_241_40, r_241_41, r_241_42, r_241_45, r_241_48, r_241_49, r_241_52, r_241_53, r_241_54, r_241_55, r_241_58, r_241_61, r_241_64, r_241_67, r_241_68, r_241_71, r_241_72, r_241_75, r_241_76, Option.bind_some, Option.bind_none, Option.toList_some, Option.toList_none, List.cons_append, List.nil_append, Option.map_some, Option.map_none, eq_self, if_true, if_false, reduceIte, ai_bi_eq0, ai_bi_eq1, ai_pb_bi, ai_pb_0, ai_pb_1, m_T h (show c < 8 by omega), c2, nI_1]
      exact hX _
    | succ n ih =>
      intro k h1 h2 h3
      have c2 : nI k < nI (kb_T B c) := nI_lt (by omega) (by omega)
      have ih := ih (k + 1) (by omega) (by omega) (by omega)
      have he := hk.2.2.2.2.1 c k (by omega)
      have hf := hk.2.2.2.2.2.1 c (k - 1) (by omega)
      rw [show k - 1 + 1 = k by omega] at hf
      have e1 : nI (1 + k) - 1 = nI (1 + (k - 1)) := by
        rw [show 1 + k = 1 + (k - 1) + 1 by omega]
        exact s_1 _
      have c3 : nI (kb_E B c (k - 1)) < nI (kb_E B c k) := nI_lt hf (by omega)
      rw [r_241_16]
      simp only [r_241_0, r_241_1, r_241_2, r_241_3, r_241_5, r_241_6, r_241_9, r_241_10, r_241_11, r_241_14, r_241_15, r_241_17, r_241_18, r_241_19, r_241_20, r_241_23, r_241_26, r_241_27, r_241_28, r_241_29, r_241_30, r_241_31, r_241_32, r_241_35, r_241_36, r_241_37, r_241_38, r_241_39, r_241_40, r_241_41, r_241_42, r_241_45, r_241_48, r_241_49, r_241_52, r_241_53, r_241_54, r_241_55, r_241_58, r_241_61, r_241_64, r_241_67, r_241_68, r_241_71, r_241_72, r_241_75, r_241_76, Option.bind_some, Option.bind_none, Option.toList_some, Option.toList_none, List.cons_append, List.nil_append, Option.map_some, Option.map_none, eq_self, if_true, if_false, reduceIte, ai_bi_eq0, ai_bi_eq1, ai_pb_bi, ai_pb_0, ai_pb_1, m_T h (show c < 8 by omega), c2, a_1, m_E h hk (show c < 8 by omega) (show k < kb_T B c by omega), e1, m_E h hk (show c < 8 by omega) (show k - 1 < kb_T B c by omega), c3, show (1 : Int32) &&& 1 = 1 by decide, nI_1, ih]
  have outer : ∀ n c, c + n = kb_n B → ∀ v3, ai_Run 241 4 [.ref 185, .int 1, .int (nI c), v3] [] (wl w) = some (some (.int 1), wl w) := by
    intro n
    induction n with
    | zero =>
      intro c hc v3
      have c2 : ¬ nI c < nI (kb_n B) := nI_nlt (by omega) (by omega)
      rw [r_241_4]
      simp only [r_241_0, r_241_1, r_241_2, r_241_3, r_241_5, r_241_6, r_241_9, r_241_10, r_241_11, r_241_14, r_241_15, r_241_17, r_241_18, r_241_19, r_241_20, r_241_23, r_241_26, r_241_27, r_241_28, r_241_29, r_241_30, r_241_31, r_241_32, r_241_35, r_241_36, r_241_37, r_241_38, r_241_39, r_241_40, r_241_41, r_241_42, r_241_45, r_241_48, r_241_49, r_241_52, r_241_53, r_241_54, r_241_55, r_241_58, r_241_61, r_241_64, r_241_67, r_241_68, r_241_71, r_241_72, r_241_75, r_241_76, Option.bind_some, Option.bind_none, Option.toList_some, Option.toList_none, List.cons_append, List.nil_append, Option.map_some, Option.map_none, eq_self, if_true, if_false, reduceIte, ai_bi_eq0, ai_bi_eq1, ai_pb_bi, ai_pb_0, ai_pb_1, f_185_0, mg_0, h.1, c2, show ¬ (1 : Int32) = 0 by decide]
    | succ n ih =>
      intro c hc v3
      have c2 : nI c < nI (kb_n B) := nI_lt (by omega) (by omega)
      rw [r_241_4]
      simp only [r_241_0, r_241_1, r_241_2, r_241_3, r_241_5, r_241_6, r_241_9, r_241_10, r_241_11, r_241_14, r_241_15, r_241_17, r_241_18, r_241_19, r_241_20, r_241_23, r_241_26, r_241_27, r_241_28, r_241_29, r_241_30, r_241_31, r_241_32, r_241_35, r_241_36, r_241_37, r_241_38, r_241_39, r_241_40, r_241_41, r_241_42, r_241_45, r_241_48, r_241_49, r_241_52, r_241_53, r_241_54, r_241_55, r_241_58, r_241_61, r_241_64, r_241_67, r_241_68, r_241_71, r_241_72, r_241_75, r_241_76, Option.bind_some, Option.bind_none, Option.toList_some, Option.toList_none, List.cons_append, List.nil_append, Option.map_some, Option.map_none, eq_self, if_true, if_false, reduceIte, ai_bi_eq0, ai_bi_eq1, ai_pb_bi, ai_pb_0, ai_pb_1, f_185_0, mg_0, h.1, c2]
      exact inner c (by omega) _ (ih (c + 1) (by omega)) (max (kb_T B c) 1 - 1) 1 (by omega) (by omega) (by omega)
  simp only [e_241, o_185, r_241_0, r_241_1, r_241_2, r_241_3, r_241_5, r_241_6, r_241_9, r_241_10, r_241_11, r_241_14, r_241_15, r_241_17, r_241_18, r_241_19, r_241_20, r_241_23, r_241_26, r_241_27, r_241_28, r_241_29, r_241_30, r_241_31, r_241_32, r_241_35, r_241_36, r_241_37, r_241_38, r_241_39, r_241_40, r_241_41, r_241_42, r_241_45, r_241_48, r_241_49, r_241_52, r_241_53, r_241_54, r_241_55, r_241_58, r_241_61, r_241_64, r_241_67, r_241_68, r_241_71, r_241_72, r_241_75, r_241_76, Option.bind_some, Option.bind_none, Option.toList_some, Option.toList_none, List.cons_append, List.nil_append, Option.map_some, Option.map_none, eq_self, if_true, if_false, reduceIte, ai_bi_eq0, ai_bi_eq1, ai_pb_bi, ai_pb_0, ai_pb_1]
  exact outer (kb_n B) 0 (by omega) .null
end MB
