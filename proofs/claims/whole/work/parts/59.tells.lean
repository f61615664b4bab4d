/-! What is told of juries, characters and chapters. -/
theorem xo_s {w w1 : xw_W} (h : xo w1 = xo w) : xm_s w1 = xm_s w := congrArg (fun x => x.2.1) h
def kl_j (B : kb_B) : Nat → List Int32
  | 0 => []
  | n + 1 => kl_j B n ++ [if kb_J B n = 0 then 46 else nI (48 + kb_J B n)]
theorem kl_j_len (B : kb_B) (n : Nat) : (kl_j B n).length = n := by
  induction n with
  | zero => rfl
  | succ n ih => rw [kl_j, List.length_append, ih]; rfl
theorem s_tellJury {w : xw_W} {B : kb_B} (hx : kb_x (xw_b w) B) (hk : kb_ok B) : ∃ w1, ai_Call 157 [.ref 0] (wl w) = some (some (.int (nI 7)), wl w1) ∧ xl w (kl_j B 7) w1 := by
  have step : ∀ i w1, i < 7 → xl w (kl_j B i) w1 → ∃ w2, xl w (kl_j B (i + 1)) w2 ∧ ai_Run 157 9 [.ref 0, .int (nI i)] [] (wl w1) = ai_Run 157 9 [.ref 0, .int (nI (i + 1))] [] (wl w2) := by
    intro i w1 hi h1
    have hx1 : kb_x (xw_b w1) B := by rw [xo_b h1.1]; exact hx
    have c1 : nI i < 7 := nI_lt (b := 7) hi (by decide)
    have hl := kl_j_len B i
    have h9 := hk.2.2.2.2.2.2.2.2.2.1 i
    by_cases c2 : kb_J B i = 0
    · obtain ⟨w2, e2, h2⟩ := x_put h1 (by omega) 46
      have c3 : decide (0 < kb_J B i) = false := decide_eq_false (by omega)
      refine ⟨w2, ?_, ?_⟩
      · rw [kl_j, if_pos c2]; exact h2
      · rw [r_157_9]
        simp only [r_157_0, r_157_1, r_157_4, r_157_7, r_157_8, r_157_10, r_157_12, r_157_15, r_157_16, r_157_19, r_157_20, r_157_23, r_157_26, r_157_27, r_157_30, r_157_31, r_157_34, r_157_37, r_157_38, r_157_41, r_157_44, r_157_47, r_157_48, r_157_51, r_157_53, r_157_56, r_157_59, r_157_62, r_157_63, r_157_66, r_157_69, Option.bind_some, Option.bind_none, Option.toList_some, Option.toList_none, List.cons_append, List.nil_append, Option.map_some, Option.map_none, eq_self, if_true, if_false, reduceIte, ai_bi_eq0, ai_bi_eq1, ai_pb_bi, ai_pb_0, ai_pb_1, c1, f_0_2, x_isTaken hx1 hk hi, c3, f_0_8, e2, nI_1]
    · obtain ⟨w2, e2, h2⟩ := x_num h1 (v := kb_J B i) (by omega) (by omega)
      have c3 : decide (0 < kb_J B i) = true := decide_eq_true (by omega)
      refine ⟨w2, ?_, ?_⟩
      · rw [kl_j, if_neg c2]; rw [nl_10 (by omega)] at h2; exact h2
      · rw [r_157_9]
        simp only [r_157_0, r_157_1, r_157_4, r_157_7, r_157_8, r_157_10, r_157_12, r_157_15, r_157_16, r_157_19, r_157_20, r_157_23, r_157_26, r_157_27, r_157_30, r_157_31, r_157_34, r_157_37, r_157_38, r_157_41, r_157_44, r_157_47, r_157_48, r_157_51, r_157_53, r_157_56, r_157_59, r_157_62, r_157_63, r_157_66, r_157_69, Option.bind_some, Option.bind_none, Option.toList_some, Option.toList_none, List.cons_append, List.nil_append, Option.map_some, Option.map_none, eq_self, if_true, if_false, reduceIte, ai_bi_eq0, ai_bi_eq1, ai_pb_bi, ai_pb_0, ai_pb_1, c1, f_0_2, x_isTaken hx1 hk hi, c3, Bool.true_eq_false, f_0_0, f_1_9, x_sev hx1 hi, f_0_8, e2, nI_1]
  obtain ⟨w0, e0, h0⟩ := x_lclear w
  obtain ⟨w7, h7, e7⟩ := lp_x (P := fun i w1 => xl w (kl_j B i) w1) (R := fun i w1 => ai_Run 157 9 [.ref 0, .int (nI i)] [] (wl w1)) 7 step h0
  have e8 := x_lsize h7
  rw [kl_j_len] at e8
  refine ⟨w7, ?_, h7⟩
  simp only [e_157, o_0, r_157_0, r_157_1, r_157_4, r_157_7, r_157_8, r_157_10, r_157_12, r_157_15, r_157_16, r_157_19, r_157_20, r_157_23, r_157_26, r_157_27, r_157_30, r_157_31, r_157_34, r_157_37, r_157_38, r_157_41, r_157_44, r_157_47, r_157_48, r_157_51, r_157_53, r_157_56, r_157_59, r_157_62, r_157_63, r_157_66, r_157_69, Option.bind_some, Option.bind_none, Option.toList_some, Option.toList_none, List.cons_append, List.nil_append, Option.map_some, Option.map_none, eq_self, if_true, if_false, reduceIte, ai_bi_eq0, ai_bi_eq1, ai_pb_bi, ai_pb_0, ai_pb_1, f_0_8, e0]
  refine e7.trans ?_
  rw [r_157_9]
  simp only [r_157_0, r_157_1, r_157_4, r_157_7, r_157_8, r_157_10, r_157_12, r_157_15, r_157_16, r_157_19, r_157_20, r_157_23, r_157_26, r_157_27, r_157_30, r_157_31, r_157_34, r_157_37, r_157_38, r_157_41, r_157_44, r_157_47, r_157_48, r_157_51, r_157_53, r_157_56, r_157_59, r_157_62, r_157_63, r_157_66, r_157_69, Option.bind_some, Option.bind_none, Option.toList_some, Option.toList_none, List.cons_append, List.nil_append, Option.map_some, Option.map_none, eq_self, if_true, if_false, reduceIte, ai_bi_eq0, ai_bi_eq1, ai_pb_bi, ai_pb_0, ai_pb_1, f_0_8, show ¬ nI 7 < 7 by decide, e8]
theorem m_tellJury {w : xw_W} {B : kb_B} (hm : kb_m (xm_s w) B) (hk : kb_ok B) : ∃ w1, ai_Call 265 [.ref 185] (wl w) = some (some (.int (nI 7)), wl w1) ∧ ml w (kl_j B 7) w1 := by
  have step : ∀ i w1, i < 7 → ml w (kl_j B i) w1 → ∃ w2, ml w (kl_j B (i + 1)) w2 ∧ ai_Run 265 7 [.ref 185, .int (nI i)] [] (wl w1) = ai_Run 265 7 [.ref 185, .int (nI (i + 1))] [] (wl w2) := by
    intro i w1 hi h1
    have hm1 : kb_m (xm_s w1) B := by rw [mo_s h1.1]; exact hm
    have c1 : nI i < 7 := nI_lt (b := 7) hi (by decide)
    have hl := kl_j_len B i
    have h9 := hk.2.2.2.2.2.2.2.2.2.1 i
    have c4 : nI (kb_J B i) = 0 ↔ kb_J B i = 0 := by rw [ai_nI0]; exact nI_eq (by omega) (by decide)
    by_cases c2 : kb_J B i = 0
    · obtain ⟨w2, e2, h2⟩ := m_put h1 (by omega) 46
      have c5 := c4.mpr c2
      refine ⟨w2, ?_, ?_⟩
      · rw [kl_j, if_pos c2]; exact h2
      · rw [r_265_7]
        simp only [r_265_0, r_265_1, r_265_2, r_265_5, r_265_6, r_265_8, r_265_10, r_265_13, r_265_14, r_265_15, r_265_18, r_265_20, r_265_21, r_265_22, r_265_23, r_265_26, r_265_28, r_265_31, r_265_33, r_265_34, r_265_37, r_265_39, r_265_40, r_265_41, r_265_42, r_265_43, r_265_46, r_265_49, r_265_52, r_265_53, r_265_56, Option.bind_some, Option.bind_none, Option.toList_some, Option.toList_none, List.cons_append, List.nil_append, Option.map_some, Option.map_none, eq_self, if_true, if_false, reduceIte, ai_bi_eq0, ai_bi_eq1, ai_pb_bi, ai_pb_0, ai_pb_1, c1, f_185_0, a_38, m_J hm1 hi, c5, e2, nI_1]
    · obtain ⟨w2, e2, h2⟩ := m_put h1 (by omega) (nI (48 + kb_J B i))
      have c5 : ¬ nI (kb_J B i) = 0 := fun z => c2 (c4.mp z)
      refine ⟨w2, ?_, ?_⟩
      · rw [kl_j, if_neg c2]; exact h2
      · rw [r_265_7]
        simp only [r_265_0, r_265_1, r_265_2, r_265_5, r_265_6, r_265_8, r_265_10, r_265_13, r_265_14, r_265_15, r_265_18, r_265_20, r_265_21, r_265_22, r_265_23, r_265_26, r_265_28, r_265_31, r_265_33, r_265_34, r_265_37, r_265_39, r_265_40, r_265_41, r_265_42, r_265_43, r_265_46, r_265_49, r_265_52, r_265_53, r_265_56, Option.bind_some, Option.bind_none, Option.toList_some, Option.toList_none, List.cons_append, List.nil_append, Option.map_some, Option.map_none, eq_self, if_true, if_false, reduceIte, ai_bi_eq0, ai_bi_eq1, ai_pb_bi, ai_pb_0, ai_pb_1, c1, f_185_0, a_38, a_48, m_J hm1 hi, c5, e2, nI_1]
  obtain ⟨e0, h0⟩ := m_lclear w
  obtain ⟨w7, h7, e7⟩ := lp_x (P := fun i w1 => ml w (kl_j B i) w1) (R := fun i w1 => ai_Run 265 7 [.ref 185, .int (nI i)] [] (wl w1)) 7 step h0
  have e8 := h7.2.1
  rw [kl_j_len] at e8
  refine ⟨w7, ?_, h7⟩
  simp only [e_265, o_185, r_265_0, r_265_1, r_265_2, r_265_5, r_265_6, r_265_8, r_265_10, r_265_13, r_265_14, r_265_15, r_265_18, r_265_20, r_265_21, r_265_22, r_265_23, r_265_26, r_265_28, r_265_31, r_265_33, r_265_34, r_265_37, r_265_39, r_265_40, r_265_41, r_265_42, r_265_43, r_265_46, r_265_49, r_265_52, r_265_53, r_265_56, Option.bind_some, Option.bind_none, Option.toList_some, Option.toList_none, List.cons_append, List.nil_append, Option.map_some, Option.map_none, eq_self, if_true, if_false, reduceIte, ai_bi_eq0, ai_bi_eq1, ai_pb_bi, ai_pb_0, ai_pb_1, e0]
  refine e7.trans ?_
  rw [r_265_7]
  simp only [r_265_0, r_265_1, r_265_2, r_265_5, r_265_6, r_265_8, r_265_10, r_265_13, r_265_14, r_265_15, r_265_18, r_265_20, r_265_21, r_265_22, r_265_23, r_265_26, r_265_28, r_265_31, r_265_33, r_265_34, r_265_37, r_265_39, r_265_40, r_265_41, r_265_42, r_265_43, r_265_46, r_265_49, r_265_52, r_265_53, r_265_56, Option.bind_some, Option.bind_none, Option.toList_some, Option.toList_none, List.cons_append, List.nil_append, Option.map_some, Option.map_none, eq_self, if_true, if_false, reduceIte, ai_bi_eq0, ai_bi_eq1, ai_pb_bi, ai_pb_0, ai_pb_1, f_185_10, show ¬ nI 7 < 7 by decide, e8]
theorem ks_tellJury : ks 157 265 [] := by
  intro w hw
  have hw2 := hw
  obtain ⟨B, L, S, hk, hx, hm, hr⟩ := hw2
  obtain ⟨w1, e1, h1⟩ := s_tellJury hx hk
  have hm1 : kb_m (xm_s w1) B := by rw [xo_s h1.1]; exact hm
  obtain ⟨w2, e2, h2⟩ := m_tellJury hm1 hk
  exact ⟨nI 7, w1, w2, e1, e2, kr_line hw h1 h2⟩
/-- what a turn adds to the line -/
def kl_t (B : kb_B) (c k : Nat) : List Int32 := if k % 2 = 0 then (if kb_C B c (k / 2) = (-4) then 43 :: nl (kb_E B c k) else 43 :: (nl (kb_E B c k) ++ 61 :: nl (kb_C B c (k / 2)).toNatClampNeg)) else 94 :: nl (kb_E B c k)
def kl_c (B : kb_B) (c : Nat) : Nat → List Int32
  | 0 => nl c ++ [58]
  | k + 1 => kl_c B c k ++ kl_t B c k
theorem kl_t_len (B : kb_B) (c k : Nat) : (kl_t B c k).length ≤ 6 := by
  have h1 := nl_len (kb_E B c k)
  have h2 := nl_len (kb_C B c (k / 2)).toNatClampNeg
  unfold kl_t
  split
  · split
    · rw [List.length_cons]; omega
    · rw [List.length_cons, List.length_append, List.length_cons]; omega
  · rw [List.length_cons]; omega
theorem kl_c_len (B : kb_B) {c : Nat} (hc : c < 8) (n : Nat) : (kl_c B c n).length ≤ 2 + 6 * n := by
  induction n with
  | zero => rw [kl_c, nl_10 (by omega)]; exact Nat.le_refl _
  | succ n ih =>
    have := kl_t_len B c n
    rw [kl_c, List.length_append]
    omega
section TURN
variable {w : xw_W} {B : kb_B}
theorem nI_rem2 {k : Nat} (hk : k < 2 ^ 31) : nI k - nI (k / 2) * 2 = nI (k % 2) := by rw [← pk_div2 hk]; exact pk_rem2 hk
theorem s_addTurn (hx : kb_x (xw_b w) B) (hk : kb_ok B) {w1 : xw_W} {l : List Int32} (h1 : xl w l w1) {c k : Nat} (hc : c < kb_n B) (hkT : k < kb_T B c) (hl : l.length + 6 ≤ 40) : ∃ w2, ai_Call 34 [.ref 0, .int (nI c), .int (nI k)] (wl w1) = some (none, wl w2) ∧ xl w (l ++ kl_t B c k) w2 := by
  have h6 := hk.2.2.1 c
  have hn := hk.1
  have hE := hk.2.2.2.2.1 c k hkT
  have ed : nI k / 2 = nI (k / 2) := pk_div2 (by omega)
  have er : nI k - nI (k / 2) * 2 = nI (k % 2) := nI_rem2 (by omega)
  have ec : nI (k % 2) = 0 ↔ k % 2 = 0 := by rw [ai_nI0]; exact nI_eq (by omega) (by decide)
  have hx1 : ∀ {w' : xw_W} {l' : List Int32}, xl w l' w' → kb_x (xw_b w') B := fun h => by rw [xo_b h.1]; exact hx
  unfold kl_t
  by_cases c1 : k % 2 = 0
  · have c2 := ec.mpr c1
    rw [if_pos c1]
    obtain ⟨w2, e2, h2⟩ := x_put h1 (by omega) 43
    obtain ⟨w3, e3, h3⟩ := x_num h2 (v := kb_E B c k) (by omega) (by rw [List.length_append, List.length_singleton]; omega)
    have e4 := x_turnChapter (hx1 h2) hk (show c < 8 by omega) hkT
    have e5 := x_isSolved (hx1 h3) (show c < 8 by omega) (show k / 2 < 3 by omega)
    by_cases c3 : kb_C B c (k / 2) = (-4)
    · rw [if_pos c3]
      have c4 : decide (¬ kb_C B c (k / 2) = (-4)) = false := decide_eq_false (fun z => z c3)
      rw [c4] at e5
      refine ⟨w3, ?_, by simpa using h3⟩
      simp only [e_34, o_0, r_34_0, r_34_1, r_34_2, r_34_3, r_34_6, r_34_7, r_34_10, r_34_11, r_34_12, r_34_13, r_34_16, r_34_17, r_34_20, r_34_22, r_34_25, r_34_27, r_34_30, r_34_31, r_34_34, r_34_35, r_34_38, r_34_39, r_34_40, r_34_43, r_34_46, r_34_47, r_34_50, r_34_51, r_34_54, r_34_55, r_34_56, r_34_57, r_34_58, r_34_61, r_34_64, r_34_65, r_34_68, r_34_70, r_34_73, r_34_74, r_34_77, r_34_78, r_34_81, r_34_82, r_34_83, r_34_84, r_34_85, r_34_88, r_34_91, Option.bind_some, Option.bind_none, Option.toList_some, Option.toList_none, List.cons_append, List.nil_append, Option.map_some, Option.map_none, eq_self, if_true, if_false, reduceIte, ai_bi_eq0, ai_bi_eq1, ai_pb_bi, ai_pb_0, ai_pb_1, ed, er, c2, f_0_8, e2, f_0_0, e4, e3, e5, show ¬ (1 : Int32) = 0 by decide]
    · rw [if_neg c3]
      have c4 : decide (¬ kb_C B c (k / 2) = (-4)) = true := decide_eq_true c3
      rw [c4] at e5
      have e6 := x_culprit (hx1 h3) (show c < 8 by omega) (show k / 2 < 3 by omega)
      rcases hk.2.2.2.2.2.2.2.2.2.2.1 c (k / 2) with z | ⟨i, hi, z⟩
      · exact absurd z c3
      · rw [z, nI_clamp (by omega)]
        rw [z] at e6
        have n2 := nl_len (kb_E B c k)
        obtain ⟨w4, e7, h4⟩ := x_put h3 (by rw [List.length_append, List.length_append, List.length_singleton]; omega) 61
        obtain ⟨w5, e8, h5⟩ := x_num h4 (v := i) (by omega) (by rw [List.length_append, List.length_append, List.length_append, List.length_singleton, List.length_singleton]; omega)
        have e6' := x_culprit (hx1 h4) (show c < 8 by omega) (show k / 2 < 3 by omega)
        rw [z] at e6'
        refine ⟨w5, ?_, by simpa using h5⟩
        simp only [e_34, o_0, r_34_0, r_34_1, r_34_2, r_34_3, r_34_6, r_34_7, r_34_10, r_34_11, r_34_12, r_34_13, r_34_16, r_34_17, r_34_20, r_34_22, r_34_25, r_34_27, r_34_30, r_34_31, r_34_34, r_34_35, r_34_38, r_34_39, r_34_40, r_34_43, r_34_46, r_34_47, r_34_50, r_34_51, r_34_54, r_34_55, r_34_56, r_34_57, r_34_58, r_34_61, r_34_64, r_34_65, r_34_68, r_34_70, r_34_73, r_34_74, r_34_77, r_34_78, r_34_81, r_34_82, r_34_83, r_34_84, r_34_85, r_34_88, r_34_91, Option.bind_some, Option.bind_none, Option.toList_some, Option.toList_none, List.cons_append, List.nil_append, Option.map_some, Option.map_none, eq_self, if_true, if_false, reduceIte, ai_bi_eq0, ai_bi_eq1, ai_pb_bi, ai_pb_0, ai_pb_1, ed, er, c2, f_0_8, e2, f_0_0, e4, e3, e5, e6', e7, e8, show ¬ (1 : Int32) = 0 by decide, Bool.true_eq_false]
  · have c2 : ¬ nI (k % 2) = 0 := fun z => c1 (ec.mp z)
    rw [if_neg c1]
    obtain ⟨w2, e2, h2⟩ := x_put h1 (by omega) 94
    obtain ⟨w3, e3, h3⟩ := x_num h2 (v := kb_E B c k) (by omega) (by rw [List.length_append, List.length_singleton]; omega)
    have e4 := x_turnChapter (hx1 h2) hk (show c < 8 by omega) hkT
    refine ⟨w3, ?_, by simpa using h3⟩
    simp only [e_34, o_0, r_34_0, r_34_1, r_34_2, r_34_3, r_34_6, r_34_7, r_34_10, r_34_11, r_34_12, r_34_13, r_34_16, r_34_17, r_34_20, r_34_22, r_34_25, r_34_27, r_34_30, r_34_31, r_34_34, r_34_35, r_34_38, r_34_39, r_34_40, r_34_43, r_34_46, r_34_47, r_34_50, r_34_51, r_34_54, r_34_55, r_34_56, r_34_57, r_34_58, r_34_61, r_34_64, r_34_65, r_34_68, r_34_70, r_34_73, r_34_74, r_34_77, r_34_78, r_34_81, r_34_82, r_34_83, r_34_84, r_34_85, r_34_88, r_34_91, Option.bind_some, Option.bind_none, Option.toList_some, Option.toList_none, List.cons_append, List.nil_append, Option.map_some, Option.map_none, eq_self, if_true, if_false, reduceIte, ai_bi_eq0, ai_bi_eq1, ai_pb_bi, ai_pb_0, ai_pb_1, ed, er, c2, f_0_8, e2, f_0_0, e4, e3]
theorem s_tellCharacter (hx : kb_x (xw_b w) B) (hk : kb_ok B) {c : Nat} (hc : c < kb_n B) : ∃ w1, ai_Call 156 [.ref 0, .int (nI c)] (wl w) = some (some (.int (nI (kl_c B c (kb_T B c)).length)), wl w1) ∧ xl w (kl_c B c (kb_T B c)) w1 := by
  have h6 := hk.2.2.1 c
  have hn := hk.1
  have hx1 : ∀ {w' : xw_W} {l' : List Int32}, xl w l' w' → kb_x (xw_b w') B := fun h => by rw [xo_b h.1]; exact hx
  have step : ∀ i w1, i < kb_T B c → xl w (kl_c B c i) w1 → ∃ w2, xl w (kl_c B c (i + 1)) w2 ∧ ai_Run 156 39 [.ref 0, .int (nI c), .int (nI i)] [] (wl w1) = ai_Run 156 39 [.ref 0, .int (nI c), .int (nI (i + 1))] [] (wl w2) := by
    intro i w1 hi h1
    have hl := kl_c_len B (show c < 8 by omega) i
    have c1 : nI i < nI (kb_T B c) := nI_lt hi (by omega)
    obtain ⟨w2, e2, h2⟩ := s_addTurn hx hk h1 hc hi (by omega)
    refine ⟨w2, h2, ?_⟩
    rw [r_156_39]
    simp only [r_156_0, r_156_1, r_156_4, r_156_5, r_156_8, r_156_11, r_156_12, r_156_13, r_156_14, r_156_17, r_156_20, r_156_21, r_156_24, r_156_25, r_156_28, r_156_29, r_156_32, r_156_34, r_156_37, r_156_38, r_156_40, r_156_41, r_156_44, r_156_47, r_156_48, r_156_51, r_156_54, r_156_55, r_156_56, r_156_57, r_156_60, r_156_63, r_156_66, r_156_67, r_156_70, r_156_73, Option.bind_some, Option.bind_none, Option.toList_some, Option.toList_none, List.cons_append, List.nil_append, Option.map_some, Option.map_none, eq_self, if_true, if_false, reduceIte, ai_bi_eq0, ai_bi_eq1, ai_pb_bi, ai_pb_0, ai_pb_1, f_0_0, f_1_3, x_turns (hx1 h1) (show c < 8 by omega), c1, e2, nI_1]
  obtain ⟨w0, e0, h0⟩ := x_lclear w
  obtain ⟨w1, e1, h1⟩ := x_num h0 (v := c) (by omega) (by decide)
  obtain ⟨w2, e2, h2⟩ := x_put h1 (by have := nl_len c; rw [List.nil_append]; omega) 58
  obtain ⟨w7, h7, e7⟩ := lp_x (P := fun i w1 => xl w (kl_c B c i) w1) (R := fun i w1 => ai_Run 156 39 [.ref 0, .int (nI c), .int (nI i)] [] (wl w1)) (kb_T B c) step (w0 := w2) (by simpa [kl_c] using h2)
  have e8 := x_lsize h7
  have c2 : ¬ nI (kb_T B c) < nI (kb_T B c) := nI_nlt (Nat.le_refl _) (by omega)
  refine ⟨w7, ?_, h7⟩
  simp only [e_156, o_0, r_156_0, r_156_1, r_156_4, r_156_5, r_156_8, r_156_11, r_156_12, r_156_13, r_156_14, r_156_17, r_156_20, r_156_21, r_156_24, r_156_25, r_156_28, r_156_29, r_156_32, r_156_34, r_156_37, r_156_38, r_156_40, r_156_41, r_156_44, r_156_47, r_156_48, r_156_51, r_156_54, r_156_55, r_156_56, r_156_57, r_156_60, r_156_63, r_156_66, r_156_67, r_156_70, r_156_73, Option.bind_some, Option.bind_none, Option.toList_some, Option.toList_none, List.cons_append, List.nil_append, Option.map_some, Option.map_none, eq_self, if_true, if_false, reduceIte, ai_bi_eq0, ai_bi_eq1, ai_pb_bi, ai_pb_0, ai_pb_1, f_0_0, x_isCharacter hx, ai_is_nI hc (show kb_n B < 2 ^ 31 by omega), Bool.true_eq_false, f_0_8, e0, e1, e2]
  refine e7.trans ?_
  rw [r_156_39]
  simp only [r_156_0, r_156_1, r_156_4, r_156_5, r_156_8, r_156_11, r_156_12, r_156_13, r_156_14, r_156_17, r_156_20, r_156_21, r_156_24, r_156_25, r_156_28, r_156_29, r_156_32, r_156_34, r_156_37, r_156_38, r_156_40, r_156_41, r_156_44, r_156_47, r_156_48, r_156_51, r_156_54, r_156_55, r_156_56, r_156_57, r_156_60, r_156_63, r_156_66, r_156_67, r_156_70, r_156_73, Option.bind_some, Option.bind_none, Option.toList_some, Option.toList_none, List.cons_append, List.nil_append, Option.map_some, Option.map_none, eq_self, if_true, if_false, reduceIte, ai_bi_eq0, ai_bi_eq1, ai_pb_bi, ai_pb_0, ai_pb_1, f_0_0, f_1_3, x_turns (hx1 h7) (show c < 8 by omega), c2, f_0_8, e8]
theorem m_tellCharacter (hm : kb_m (xm_s w) B) (hk : kb_ok B) {c : Nat} (hc : c < kb_n B) : ∃ w1, ai_Call 264 [.ref 185, .int (nI c)] (wl w) = some (some (.int (nI (kl_c B c (kb_T B c)).length)), wl w1) ∧ ml w (kl_c B c (kb_T B c)) w1 := by
  have h6 := hk.2.2.1 c
  have hn := hk.1
  have hm1 : ∀ {w' : xw_W} {l' : List Int32}, ml w l' w' → kb_m (xm_s w') B := fun h => by rw [mo_s h.1]; exact hm
  have step : ∀ i w1, i < kb_T B c → ml w (kl_c B c i) w1 → ∃ w2, ml w (kl_c B c (i + 1)) w2 ∧ ai_Run 264 28 [.ref 185, .int (nI c), .int (nI i)] [] (wl w1) = ai_Run 264 28 [.ref 185, .int (nI c), .int (nI (i + 1))] [] (wl w2) := by
    intro i w1 hi h1
    have hl := kl_c_len B (show c < 8 by omega) i
    have c1 : nI i < nI (kb_T B c) := nI_lt hi (by omega)
    have hE := hk.2.2.2.2.1 c i hi
    have ed : nI i / 2 = nI (i / 2) := pk_div2 (by omega)
    have er : nI i - nI (i / 2) * 2 = nI (i % 2) := nI_rem2 (by omega)
    have ec : nI (i % 2) = 0 ↔ i % 2 = 0 := by rw [ai_nI0]; exact nI_eq (by omega) (by decide)
    have t0 := m_T (hm1 h1) (show c < 8 by omega)
    rw [kl_c, kl_t]
    by_cases c3 : i % 2 = 0
    · have c2 := ec.mpr c3
      rw [if_pos c3]
      obtain ⟨w2, e2, h2⟩ := m_put h1 (by omega) 43
      obtain ⟨w3, e3, h3⟩ := m_num h2 (v := kb_E B c i) (by omega) (by rw [List.length_append, List.length_singleton]; omega)
      have e4 := m_E (hm1 h2) hk (show c < 8 by omega) hi
      have e5 := m_culprit (hm1 h3) hk hc (show i / 2 < 3 by omega)
      by_cases c5 : kb_C B c (i / 2) = (-4)
      · rw [if_pos c5]
        rw [c5] at e5
        refine ⟨w3, by simpa using h3, ?_⟩
        rw [r_264_28]
        simp only [r_264_0, r_264_1, r_264_2, r_264_5, r_264_8, r_264_9, r_264_10, r_264_11, r_264_12, r_264_15, r_264_16, r_264_17, r_264_20, r_264_21, r_264_23, r_264_26, r_264_27, r_264_29, r_264_30, r_264_31, r_264_32, r_264_35, r_264_38, r_264_39, r_264_40, r_264_41, r_264_42, r_264_45, r_264_47, r_264_50, r_264_52, r_264_55, r_264_56, r_264_57, r_264_58, r_264_59, r_264_60, r_264_61, r_264_64, r_264_67, r_264_68, r_264_69, r_264_70, r_264_73, r_264_74, r_264_75, r_264_76, r_264_77, r_264_78, r_264_81, r_264_83, r_264_86, r_264_87, r_264_89, r_264_92, r_264_93, r_264_94, r_264_95, r_264_96, r_264_97, r_264_98, r_264_101, r_264_104, r_264_107, r_264_110, r_264_111, r_264_114, Option.bind_some, Option.bind_none, Option.toList_some, Option.toList_none, List.cons_append, List.nil_append, Option.map_some, Option.map_none, eq_self, if_true, if_false, reduceIte, ai_bi_eq0, ai_bi_eq1, ai_pb_bi, ai_pb_0, ai_pb_1, t0, c1, ed, er, c2, e2, a_1, e4, e3, e5, nI_1]
      · rw [if_neg c5]
        rcases hk.2.2.2.2.2.2.2.2.2.2.1 c (i / 2) with z | ⟨o, ho, z⟩
        · exact absurd z c5
        · rw [z, nI_clamp (by omega)]
          rw [z] at e5 c5
          have n2 := nl_len (kb_E B c i)
          obtain ⟨w4, e7, h4⟩ := m_put h3 (by rw [List.length_append, List.length_append, List.length_singleton]; omega) 61
          obtain ⟨w5, e8, h5⟩ := m_num h4 (v := o) (by omega) (by rw [List.length_append, List.length_append, List.length_append, List.length_singleton, List.length_singleton]; omega)
          have e6 := m_culprit (hm1 h4) hk hc (show i / 2 < 3 by omega)
          rw [z] at e6
          refine ⟨w5, by simpa using h5, ?_⟩
          rw [r_264_28]
          simp only [r_264_0, r_264_1, r_264_2, r_264_5, r_264_8, r_264_9, r_264_10, r_264_11, r_264_12, r_264_15, r_264_16, r_264_17, r_264_20, r_264_21, r_264_23, r_264_26, r_264_27, r_264_29, r_264_30, r_264_31, r_264_32, r_264_35, r_264_38, r_264_39, r_264_40, r_264_41, r_264_42, r_264_45, r_264_47, r_264_50, r_264_52, r_264_55, r_264_56, r_264_57, r_264_58, r_264_59, r_264_60, r_264_61, r_264_64, r_264_67, r_264_68, r_264_69, r_264_70, r_264_73, r_264_74, r_264_75, r_264_76, r_264_77, r_264_78, r_264_81, r_264_83, r_264_86, r_264_87, r_264_89, r_264_92, r_264_93, r_264_94, r_264_95, r_264_96, r_264_97, r_264_98, r_264_101, r_264_104, r_264_107, r_264_110, r_264_111, r_264_114, Option.bind_some, Option.bind_none, Option.toList_some, Option.toList_none, List.cons_append, List.nil_append, Option.map_some, Option.map_none, eq_self, if_true, if_false, reduceIte, ai_bi_eq0, ai_bi_eq1, ai_pb_bi, ai_pb_0, ai_pb_1, t0, c1, ed, er, c2, e2, a_1, e4, e3, e5, c5, e7, e6, e8, nI_1]
    · have c2 : ¬ nI (i % 2) = 0 := fun z => c3 (ec.mp z)
      rw [if_neg c3]
      obtain ⟨w2, e2, h2⟩ := m_put h1 (by omega) 94
      obtain ⟨w3, e3, h3⟩ := m_num h2 (v := kb_E B c i) (by omega) (by rw [List.length_append, List.length_singleton]; omega)
      have e4 := m_E (hm1 h2) hk (show c < 8 by omega) hi
      refine ⟨w3, by simpa using h3, ?_⟩
      rw [r_264_28]
      simp only [r_264_0, r_264_1, r_264_2, r_264_5, r_264_8, r_264_9, r_264_10, r_264_11, r_264_12, r_264_15, r_264_16, r_264_17, r_264_20, r_264_21, r_264_23, r_264_26, r_264_27, r_264_29, r_264_30, r_264_31, r_264_32, r_264_35, r_264_38, r_264_39, r_264_40, r_264_41, r_264_42, r_264_45, r_264_47, r_264_50, r_264_52, r_264_55, r_264_56, r_264_57, r_264_58, r_264_59, r_264_60, r_264_61, r_264_64, r_264_67, r_264_68, r_264_69, r_264_70, r_264_73, r_264_74, r_264_75, r_264_76, r_264_77, r_264_78, r_264_81, r_264_83, r_264_86, r_264_87, r_264_89, r_264_92, r_264_93, r_264_94, r_264_95, r_264_96, r_264_97, r_264_98, r_264_101, r_264_104, r_264_107, r_264_110, r_264_111, r_264_114, Option.bind_some, Option.bind_none, Option.toList_some, Option.toList_none, List.cons_append, List.nil_append, Option.map_some, Option.map_none, eq_self, if_true, if_false, reduceIte, ai_bi_eq0, ai_bi_eq1, ai_pb_bi, ai_pb_0, ai_pb_1, t0, c1, ed, er, c2, e2, a_1, e4, e3, nI_1]
  obtain ⟨e0, h0⟩ := m_lclear w
  obtain ⟨w1, e1, h1⟩ := m_num h0 (v := c) (by omega) (by decide)
  obtain ⟨w2, e2, h2⟩ := m_put h1 (by have := nl_len c; rw [List.nil_append]; omega) 58
  obtain ⟨w7, h7, e7⟩ := lp_x (P := fun i w1 => ml w (kl_c B c i) w1) (R := fun i w1 => ai_Run 264 28 [.ref 185, .int (nI c), .int (nI i)] [] (wl w1)) (kb_T B c) step (w0 := w2) (by simpa [kl_c] using h2)
  have e8 := h7.2.1
  have c2 : ¬ nI (kb_T B c) < nI (kb_T B c) := nI_nlt (Nat.le_refl _) (by omega)
  refine ⟨w7, ?_, h7⟩
  simp only [e_264, o_185, r_264_0, r_264_1, r_264_2, r_264_5, r_264_8, r_264_9, r_264_10, r_264_11, r_264_12, r_264_15, r_264_16, r_264_17, r_264_20, r_264_21, r_264_23, r_264_26, r_264_27, r_264_29, r_264_30, r_264_31, r_264_32, r_264_35, r_264_38, r_264_39, r_264_40, r_264_41, r_264_42, r_264_45, r_264_47, r_264_50, r_264_52, r_264_55, r_264_56, r_264_57, r_264_58, r_264_59, r_264_60, r_264_61, r_264_64, r_264_67, r_264_68, r_264_69, r_264_70, r_264_73, r_264_74, r_264_75, r_264_76, r_264_77, r_264_78, r_264_81, r_264_83, r_264_86, r_264_87, r_264_89, r_264_92, r_264_93, r_264_94, r_264_95, r_264_96, r_264_97, r_264_98, r_264_101, r_264_104, r_264_107, r_264_110, r_264_111, r_264_114, Option.bind_some, Option.bind_none, Option.toList_some, Option.toList_none, List.cons_append, List.nil_append, Option.map_some, Option.map_none, eq_self, if_true, if_false, reduceIte, ai_bi_eq0, ai_bi_eq1, ai_pb_bi, ai_pb_0, ai_pb_1, m_isCharacter hm hk, ai_is_nI hc (show kb_n B < 2 ^ 31 by omega), Bool.true_eq_false, e0, e1, e2]
  refine e7.trans ?_
  rw [r_264_28]
  simp only [r_264_0, r_264_1, r_264_2, r_264_5, r_264_8, r_264_9, r_264_10, r_264_11, r_264_12, r_264_15, r_264_16, r_264_17, r_264_20, r_264_21, r_264_23, r_264_26, r_264_27, r_264_29, r_264_30, r_264_31, r_264_32, r_264_35, r_264_38, r_264_39, r_264_40, r_264_41, r_264_42, r_264_45, r_264_47, r_264_50, r_264_52, r_264_55, r_264_56, r_264_57, r_264_58, r_264_59, r_264_60, r_264_61, r_264_64, r_264_67, r_264_68, r_264_69, r_264_70, r_264_73, r_264_74, r_264_75, r_264_76, r_264_77, r_264_78, r_264_81, r_264_83, r_264_86, r_264_87, r_264_89, r_264_92, r_264_93, r_264_94, r_264_95, r_264_96, r_264_97, r_264_98, r_264_101, r_264_104, r_264_107, r_264_110, r_264_111, r_264_114, Option.bind_some, Option.bind_none, Option.toList_some, Option.toList_none, List.cons_append, List.nil_append, Option.map_some, Option.map_none, eq_self, if_true, if_false, reduceIte, ai_bi_eq0, ai_bi_eq1, ai_pb_bi, ai_pb_0, ai_pb_1, m_T (hm1 h7) (show c < 8 by omega), c2, f_185_10, e8]
end TURN
theorem ks_tellCharacter (x : Int32) : ks 156 264 [.int x] := by
  intro w hw
  have hw2 := hw
  obtain ⟨B, L, S, hk, hx, hm, hr⟩ := hw2
  have hn := hk.1
  by_cases c : ai_is (kb_n B) x = true
  · obtain ⟨j, hj, rfl⟩ := ai_is_of (by omega) c
    obtain ⟨w1, e1, h1⟩ := s_tellCharacter hx hk hj
    have hm1 : kb_m (xm_s w1) B := by rw [xo_s h1.1]; exact hm
    obtain ⟨w2, e2, h2⟩ := m_tellCharacter hm1 hk hj
    exact ⟨_, w1, w2, e1, e2, kr_line hw h1 h2⟩
  · have c' : ai_is (kb_n B) x = false := by simpa using c
    refine ⟨-1, w, w, ?_, ?_, hw⟩
    · simp only [e_156, o_0, r_156_0, r_156_1, r_156_4, r_156_5, r_156_8, r_156_11, r_156_12, r_156_13, r_156_14, r_156_17, r_156_20, r_156_21, r_156_24, r_156_25, r_156_28, r_156_29, r_156_32, r_156_34, r_156_37, r_156_38, r_156_40, r_156_41, r_156_44, r_156_47, r_156_48, r_156_51, r_156_54, r_156_55, r_156_56, r_156_57, r_156_60, r_156_63, r_156_66, r_156_67, r_156_70, r_156_73, Option.bind_some, Option.bind_none, Option.toList_some, Option.toList_none, List.cons_append, List.nil_append, Option.map_some, Option.map_none, eq_self, if_true, if_false, reduceIte, ai_bi_eq0, ai_bi_eq1, ai_pb_bi, ai_pb_0, ai_pb_1, f_0_0, x_isCharacter hx, c']
    · simp only [e_264, o_185, r_264_0, r_264_1, r_264_2, r_264_5, r_264_8, r_264_9, r_264_10, r_264_11, r_264_12, r_264_15, r_264_16, r_264_17, r_264_20, r_264_21, r_264_23, r_264_26, r_264_27, r_264_29, r_264_30, r_264_31, r_264_32, r_264_35, r_264_38, r_264_39, r_264_40, r_264_41, r_264_42, r_264_45, r_264_47, r_264_50, r_264_52, r_264_55, r_264_56, r_264_57, r_264_58, r_264_59, r_264_60, r_264_61, r_264_64, r_264_67, r_264_68, r_264_69, r_264_70, r_264_73, r_264_74, r_264_75, r_264_76, r_264_77, r_264_78, r_264_81, r_264_83, r_264_86, r_264_87, r_264_89, r_264_92, r_264_93, r_264_94, r_264_95, r_264_96, r_264_97, r_264_98, r_264_101, r_264_104, r_264_107, r_264_110, r_264_111, r_264_114, Option.bind_some, Option.bind_none, Option.toList_some, Option.toList_none, List.cons_append, List.nil_append, Option.map_some, Option.map_none, eq_self, if_true, if_false, reduceIte, ai_bi_eq0, ai_bi_eq1, ai_pb_bi, ai_pb_0, ai_pb_1, m_isCharacter hm hk, c']
