/-! What is told of juries, characters and chapters. -/
def kl_j (B : kb_B) : Nat → List Int32
  | 0 => []
  | n + 1 => kl_j B n ++ [if kb_J B n = 0 then 46 else nI (48 + kb_J B n)]
theorem kl_j_len (B : kb_B) (n : Nat) : (kl_j B n).length = n := by
  induction n with
  | zero => rfl
  | succ n ih => rw [kl_j, List.length_append, ih]; rfl
theorem s_tellJury {w : xw_W} {B : kb_B} (hx : kb_x (xw_b w) B) (hk : kb_ok B) : ∃ w1, ai_Call 155 [.ref 0] (wl w) = some (some (.int (nI 7)), wl w1) ∧ xl w (kl_j B 7) w1 := by
  have step : ∀ i w1, i < 7 → xl w (kl_j B i) w1 → ∃ w2, xl w (kl_j B (i + 1)) w2 ∧ ai_Run 155 9 [.ref 0, .int (nI i)] [] (wl w1) = ai_Run 155 9 [.ref 0, .int (nI (i + 1))] [] (wl w2) := by
    intro i w1 hi h1
    have hx1 : kb_x (xw_b w1) B := by rw [xo_b h1.1]; exact hx
    have c1 : nI i < 7 := nI_lt (b := 7) hi (by decide)
    have hl := kl_j_len B i
    have h9 := hk.2.2.2.2.2.2.2.2.2.1 i
    by_cases c2 : kb_J B i = 0
    · obtain ⟨w2, e2, h2⟩ := x_put h1 (by omega) 46
      have c3 : decide (0 < kb_J B i) = false := decide_eq_false (by omega)
      refine ⟨w2, ?_, ?_⟩
      · rw [kl_j, if_pos c2]; exact h2
      · rw [r_155_9]
        simp only [r_155_0, r_155_1, r_155_4, r_155_7, r_155_8, r_155_10, r_155_12, r_155_15, r_155_16, r_155_19, r_155_20, r_155_23, r_155_26, r_155_27, r_155_30, r_155_31, r_155_34, r_155_37, r_155_38, r_155_41, r_155_44, r_155_47, r_155_48, r_155_51, r_155_53, r_155_56, r_155_59, r_155_62, r_155_63, r_155_66, r_155_69, Option.bind_some, Option.bind_none, Option.toList_some, Option.toList_none, List.cons_append, List.nil_append, Option.map_some, Option.map_none, eq_self, if_true, if_false, reduceIte, ai_bi_eq0, ai_bi_eq1, ai_pb_bi, ai_pb_0, ai_pb_1, c1, f_0_2, x_isTaken hx1 hk hi, c3, f_0_8, e2, nI_1]
    · obtain ⟨w2, e2, h2⟩ := x_num h1 (v := kb_J B i) (by omega) (by omega)
      have c3 : decide (0 < kb_J B i) = true := decide_eq_true (by omega)
      refine ⟨w2, ?_, ?_⟩
      · rw [kl_j, if_neg c2]; rw [nl_10 (by omega)] at h2; exact h2
      · rw [r_155_9]
        simp only [r_155_0, r_155_1, r_155_4, r_155_7, r_155_8, r_155_10, r_155_12, r_155_15, r_155_16, r_155_19, r_155_20, r_155_23, r_155_26, r_155_27, r_155_30, r_155_31, r_155_34, r_155_37, r_155_38, r_155_41, r_155_44, r_155_47, r_155_48, r_155_51, r_155_53, r_155_56, r_155_59, r_155_62, r_155_63, r_155_66, r_155_69, Option.bind_some, Option.bind_none, Option.toList_some, Option.toList_none, List.cons_append, List.nil_append, Option.map_some, Option.map_none, eq_self, if_true, if_false, reduceIte, ai_bi_eq0, ai_bi_eq1, ai_pb_bi, ai_pb_0, ai_pb_1, c1, f_0_2, x_isTaken hx1 hk hi, c3, Bool.true_eq_false, f_0_0, f_1_9, x_sev hx1 hi, f_0_8, e2, nI_1]
  obtain ⟨w0, e0, h0⟩ := x_lclear w
  obtain ⟨w7, h7, e7⟩ := lp_x (P := fun i w1 => xl w (kl_j B i) w1) (R := fun i w1 => ai_Run 155 9 [.ref 0, .int (nI i)] [] (wl w1)) 7 step h0
  have e8 := x_lsize h7
  rw [kl_j_len] at e8
  refine ⟨w7, ?_, h7⟩
  simp only [e_155, o_0, r_155_0, r_155_1, r_155_4, r_155_7, r_155_8, r_155_10, r_155_12, r_155_15, r_155_16, r_155_19, r_155_20, r_155_23, r_155_26, r_155_27, r_155_30, r_155_31, r_155_34, r_155_37, r_155_38, r_155_41, r_155_44, r_155_47, r_155_48, r_155_51, r_155_53, r_155_56, r_155_59, r_155_62, r_155_63, r_155_66, r_155_69, Option.bind_some, Option.bind_none, Option.toList_some, Option.toList_none, List.cons_append, List.nil_append, Option.map_some, Option.map_none, eq_self, if_true, if_false, reduceIte, ai_bi_eq0, ai_bi_eq1, ai_pb_bi, ai_pb_0, ai_pb_1, f_0_8, e0]
  refine e7.trans ?_
  rw [r_155_9]
  simp only [r_155_0, r_155_1, r_155_4, r_155_7, r_155_8, r_155_10, r_155_12, r_155_15, r_155_16, r_155_19, r_155_20, r_155_23, r_155_26, r_155_27, r_155_30, r_155_31, r_155_34, r_155_37, r_155_38, r_155_41, r_155_44, r_155_47, r_155_48, r_155_51, r_155_53, r_155_56, r_155_59, r_155_62, r_155_63, r_155_66, r_155_69, Option.bind_some, Option.bind_none, Option.toList_some, Option.toList_none, List.cons_append, List.nil_append, Option.map_some, Option.map_none, eq_self, if_true, if_false, reduceIte, ai_bi_eq0, ai_bi_eq1, ai_pb_bi, ai_pb_0, ai_pb_1, f_0_8, show ¬ nI 7 < 7 by decide, e8]
/-- what a turn adds to the line -/
def kl_t (B : kb_B) (c k : Nat) : List Int32 := if k % 2 = 0 then (if kb_C B c (k / 2) = (-4) then 43 :: nl (kb_E B c k) else 43 :: (nl (kb_E B c k) ++ 61 :: nl (kb_C B c (k / 2)).toNatClampNeg)) else 94 :: nl (kb_E B c k)
def kl_c (B : kb_B) (c : Nat) : Nat → List Int32
  | 0 => nl c ++ [58]
  | k + 1 => kl_c B c k ++ kl_t B c k
theorem kl_t_len (B : kb_B) (c k : Nat) : (kl_t B c k).length ≤ 6 := by
  have h1 := nl_len (kb_E B c k)
  have h2 := nl_len (kb_C B c (k / 2)).toNatClampNeg
  unfold kl_t
  split
  · split
    · rw [List.length_cons]; omega
    · rw [List.length_cons, List.length_append, List.length_cons]; omega
  · rw [List.length_cons]; omega
theorem kl_c_len (B : kb_B) {c : Nat} (hc : c < 8) (n : Nat) : (kl_c B c n).length ≤ 2 + 6 * n := by
  induction n with
  | zero => rw [kl_c, nl_10 (by omega)]; exact Nat.le_refl _
  | succ n ih =>
    have := kl_t_len B c n
    rw [kl_c, List.length_append]
    omega
section TURN
variable {w : xw_W} {B : kb_B}
theorem nI_rem2 {k : Nat} (hk : k < 2 ^ 31) : nI k - nI (k / 2) * 2 = nI (k % 2) := by rw [← pk_div2 hk]; exact pk_rem2 hk
theorem s_addTurn (hx : kb_x (xw_b w) B) (hk : kb_ok B) {w1 : xw_W} {l : List Int32} (h1 : xl w l w1) {c k : Nat} (hc : c < kb_n B) (hkT : k < kb_T B c) (hl : l.length + 6 ≤ 40) : ∃ w2, ai_Call 34 [.ref 0, .int (nI c), .int (nI k)] (wl w1) = some (none, wl w2) ∧ xl w (l ++ kl_t B c k) w2 := by
  have h6 := hk.2.2.1 c
  have hn := hk.1
  have hE := hk.2.2.2.2.1 c k hkT
  have ed : nI k / 2 = nI (k / 2) := pk_div2 (by omega)
  have er : nI k - nI (k / 2) * 2 = nI (k % 2) := nI_rem2 (by omega)
  have ec : nI (k % 2) = 0 ↔ k % 2 = 0 := by rw [ai_nI0]; exact nI_eq (by omega) (by decide)
  have hx1 : ∀ {w' : xw_W} {l' : List Int32}, xl w l' w' → kb_x (xw_b w') B := fun h => by rw [xo_b h.1]; exact hx
  unfold kl_t
  by_cases c1 : k % 2 = 0
  · have c2 := ec.mpr c1
    rw [if_pos c1]
    obtain ⟨w2, e2, h2⟩ := x_put h1 (by omega) 43
    obtain ⟨w3, e3, h3⟩ := x_num h2 (v := kb_E B c k) (by omega) (by rw [List.length_append, List.length_singleton]; omega)
    have e4 := x_turnChapter (hx1 h2) hk (show c < 8 by omega) hkT
    have e5 := x_isSolved (hx1 h3) (show c < 8 by omega) (show k / 2 < 3 by omega)
    by_cases c3 : kb_C B c (k / 2) = (-4)
    · rw [if_pos c3]
      have c4 : decide (¬ kb_C B c (k / 2) = (-4)) = false := decide_eq_false (fun z => z c3)
      rw [c4] at e5
      refine ⟨w3, ?_, by simpa using h3⟩
      simp only [e_34, o_0, r_34_0, r_34_1, r_34_2, r_34_3, r_34_6, r_34_7, r_34_10, r_34_11, r_34_12, r_34_13, r_34_16, r_34_17, r_34_20, r_34_22, r_34_25, r_34_27, r_34_30, r_34_31, r_34_34, r_34_35, r_34_38, r_34_39, r_34_40, r_34_43, r_34_46, r_34_47, r_34_50, r_34_51, r_34_54, r_34_55, r_34_56, r_34_57, r_34_58, r_34_61, r_34_64, r_34_65, r_34_68, r_34_70, r_34_73, r_34_74, r_34_77, r_34_78, r_34_81, r_34_82, r_34_83, r_34_84, r_34_85, r_34_88, r_34_91, Option.bind_some, Option.bind_none, Option.toList_some, Option.toList_none, List.cons_append, List.nil_append, Option.map_some, Option.map_none, eq_self, if_true, if_false, reduceIte, ai_bi_eq0, ai_bi_eq1, ai_pb_bi, ai_pb_0, ai_pb_1, ed, er, c2, f_0_8, e2, f_0_0, e4, e3, e5, show ¬ (1 : Int32) = 0 by decide]
    · rw [if_neg c3]
      have c4 : decide (¬ kb_C B c (k / 2) = (-4)) = true := decide_eq_true c3
      rw [c4] at e5
      have e6 := x_culprit (hx1 h3) (show c < 8 by omega) (show k / 2 < 3 by omega)
      rcases hk.2.2.2.2.2.2.2.2.2.2.1 c (k / 2) with z | ⟨i, hi, z⟩
      · exact absurd z c3
      · rw [z, nI_clamp (by omega)]
        rw [z] at e6
        have n2 := nl_len (kb_E B c k)
        obtain ⟨w4, e7, h4⟩ := x_put h3 (by rw [List.length_append, List.length_append, List.length_singleton]; omega) 61
        obtain ⟨w5, e8, h5⟩ := x_num h4 (v := i) (by omega) (by rw [List.length_append, List.length_append, List.length_append, List.length_singleton, List.length_singleton]; omega)
        have e6' := x_culprit (hx1 h4) (show c < 8 by omega) (show k / 2 < 3 by omega)
        rw [z] at e6'
        refine ⟨w5, ?_, by simpa using h5⟩
        simp only [e_34, o_0, r_34_0, r_34_1, r_34_2, r_34_3, r_34_6, r_34_7, r_34_10, r_34_11, r_34_12, r_34_13, r_34_16, r_34_17, r_34_20, r_34_22, r_34_25, r_34_27, r_34_30, r_34_31, r_34_34, r_34_35, r_34_38, r_34_39, r_34_40, r_34_43, r_34_46, r_34_47, r_34_50, r_34_51, r_34_54, r_34_55, r_34_56, r_34_57, r_34_58, r_34_61, r_34_64, r_34_65, r_34_68, r_34_70, r_34_73, r_34_74, r_34_77, r_34_78, r_34_81, r_34_82, r_34_83, r_34_84, r_34_85, r_34_88, r_34_91, Option.bind_some, Option.bind_none, Option.toList_some, Option.toList_none, List.cons_append, List.nil_append, Option.map_some, Option.map_none, eq_self, if_true, if_false, reduceIte, ai_bi_eq0, ai_bi_eq1, ai_pb_bi, ai_pb_0, ai_pb_1, ed, er, c2, f_0_8, e2, f_0_0, e4, e3, e5, e6', e7, e8, show ¬ (1 : Int32) = 0 by decide, Bool.true_eq_false]
  · have c2 : ¬ nI (k % 2) = 0 := fun z => c1 (ec.mp z)
    rw [if_neg c1]
    obtain ⟨w2, e2, h2⟩ := x_put h1 (by omega) 94
    obtain ⟨w3, e3, h3⟩ := x_num h2 (v := kb_E B c k) (by omega) (by rw [List.length_append, List.length_singleton]; omega)
    have e4 := x_turnChapter (hx1 h2) hk (show c < 8 by omega) hkT
    refine ⟨w3, ?_, by simpa using h3⟩
    simp only [e_34, o_0, r_34_0, r_34_1, r_34_2, r_34_3, r_34_6, r_34_7, r_34_10, r_34_11, r_34_12, r_34_13, r_34_16, r_34_17, r_34_20, r_34_22, r_34_25, r_34_27, r_34_30, r_34_31, r_34_34, r_34_35, r_34_38, r_34_39, r_34_40, r_34_43, r_34_46, r_34_47, r_34_50, r_34_51, r_34_54, r_34_55, r_34_56, r_34_57, r_34_58, r_34_61, r_34_64, r_34_65, r_34_68, r_34_70, r_34_73, r_34_74, r_34_77, r_34_78, r_34_81, r_34_82, r_34_83, r_34_84, r_34_85, r_34_88, r_34_91, Option.bind_some, Option.bind_none, Option.toList_some, Option.toList_none, List.cons_append, List.nil_append, Option.map_some, Option.map_none, eq_self, if_true, if_false, reduceIte, ai_bi_eq0, ai_bi_eq1, ai_pb_bi, ai_pb_0, ai_pb_1, ed, er, c2, f_0_8, e2, f_0_0, e4, e3]
theorem s_tellCharacter (hx : kb_x (xw_b w) B) (hk : kb_ok B) {c : Nat} (hc : c < kb_n B) : ∃ w1, ai_Call 154 [.ref 0, .int (nI c)] (wl w) = some (some (.int (nI (kl_c B c (kb_T B c)).length)), wl w1) ∧ xl w (kl_c B c (kb_T B c)) w1 := by
  have h6 := hk.2.2.1 c
  have hn := hk.1
  have hx1 : ∀ {w' : xw_W} {l' : List Int32}, xl w l' w' → kb_x (xw_b w') B := fun h => by rw [xo_b h.1]; exact hx
  have step : ∀ i w1, i < kb_T B c → xl w (kl_c B c i) w1 → ∃ w2, xl w (kl_c B c (i + 1)) w2 ∧ ai_Run 154 39 [.ref 0, .int (nI c), .int (nI i)] [] (wl w1) = ai_Run 154 39 [.ref 0, .int (nI c), .int (nI (i + 1))] [] (wl w2) := by
    intro i w1 hi h1
    have hl := kl_c_len B (show c < 8 by omega) i
    have c1 : nI i < nI (kb_T B c) := nI_lt hi (by omega)
    obtain ⟨w2, e2, h2⟩ := s_addTurn hx hk h1 hc hi (by omega)
    refine ⟨w2, h2, ?_⟩
    rw [r_154_39]
    simp only [r_154_0, r_154_1, r_154_4, r_154_5, r_154_8, r_154_11, r_154_12, r_154_13, r_154_14, r_154_17, r_154_20, r_154_21, r_154_24, r_154_25, r_154_28, r_154_29, r_154_32, r_154_34, r_154_37, r_154_38, r_154_40, r_154_41, r_154_44, r_154_47, r_154_48, r_154_51, r_154_54, r_154_55, r_154_56, r_154_57, r_154_60, r_154_63, r_154_66, r_154_67, r_154_70, r_154_73, Option.bind_some, Option.bind_none, Option.toList_some, Option.toList_none, List.cons_append, List.nil_append, Option.map_some, Option.map_none, eq_self, if_true, if_false, reduceIte, ai_bi_eq0, ai_bi_eq1, ai_pb_bi, ai_pb_0, ai_pb_1, f_0_0, f_1_3, x_turns (hx1 h1) (show c < 8 by omega), c1, e2, nI_1]
  obtain ⟨w0, e0, h0⟩ := x_lclear w
  obtain ⟨w1, e1, h1⟩ := x_num h0 (v := c) (by omega) (by decide)
  obtain ⟨w2, e2, h2⟩ := x_put h1 (by have := nl_len c; rw [List.nil_append]; omega) 58
  obtain ⟨w7, h7, e7⟩ := lp_x (P := fun i w1 => xl w (kl_c B c i) w1) (R := fun i w1 => ai_Run 154 39 [.ref 0, .int (nI c), .int (nI i)] [] (wl w1)) (kb_T B c) step (w0 := w2) (by simpa [kl_c] using h2)
  have e8 := x_lsize h7
  have c2 : ¬ nI (kb_T B c) < nI (kb_T B c) := nI_nlt (Nat.le_refl _) (by omega)
  refine ⟨w7, ?_, h7⟩
  simp only [e_154, o_0, r_154_0, r_154_1, r_154_4, r_154_5, r_154_8, r_154_11, r_154_12, r_154_13, r_154_14, r_154_17, r_154_20, r_154_21, r_154_24, r_154_25, r_154_28, r_154_29, r_154_32, r_154_34, r_154_37, r_154_38, r_154_40, r_154_41, r_154_44, r_154_47, r_154_48, r_154_51, r_154_54, r_154_55, r_154_56, r_154_57, r_154_60, r_154_63, r_154_66, r_154_67, r_154_70, r_154_73, Option.bind_some, Option.bind_none, Option.toList_some, Option.toList_none, List.cons_append, List.nil_append, Option.map_some, Option.map_none, eq_self, if_true, if_false, reduceIte, ai_bi_eq0, ai_bi_eq1, ai_pb_bi, ai_pb_0, ai_pb_1, f_0_0, x_isCharacter hx, ai_is_nI hc (show kb_n B < 2 ^ 31 by omega), Bool.true_eq_false, f_0_8, e0, e1, e2]
  refine e7.trans ?_
  rw [r_154_39]
  simp only [r_154_0, r_154_1, r_154_4, r_154_5, r_154_8, r_154_11, r_154_12, r_154_13, r_154_14, r_154_17, r_154_20, r_154_21, r_154_24, r_154_25, r_154_28, r_154_29, r_154_32, r_154_34, r_154_37, r_154_38, r_154_40, r_154_41, r_154_44, r_154_47, r_154_48, r_154_51, r_154_54, r_154_55, r_154_56, r_154_57, r_154_60, r_154_63, r_154_66, r_154_67, r_154_70, r_154_73, Option.bind_some, Option.bind_none, Option.toList_some, Option.toList_none, List.cons_append, List.nil_append, Option.map_some, Option.map_none, eq_self, if_true, if_false, reduceIte, ai_bi_eq0, ai_bi_eq1, ai_pb_bi, ai_pb_0, ai_pb_1, f_0_0, f_1_3, x_turns (hx1 h7) (show c < 8 by omega), c2, f_0_8, e8]
end TURN
