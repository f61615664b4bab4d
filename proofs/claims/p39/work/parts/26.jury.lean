/-! The class's jury and sums. -/
def kb_by (B : kb_B) (q : Nat) : Bool := decide (∃ i, i < kb_a B ∧ kb_W B q = nI i ∧ kb_S B i = 1)
def kb_w (B : kb_B) (c o d : Nat) : Nat := if kb_could B c o d = true then kb_M B c o + (if kb_by B (kb_E B o (2 * d)) = true then 2 else 0) else 0
def kb_vote (J x : Nat) : Nat := kb_i (decide (0 < J ∧ J ≤ x))
def kb_votes (B : kb_B) (x : Nat) : Nat := kb_s (fun k => kb_vote (kb_J B k) x) 7
def kb_sit (B : kb_B) : Nat := kb_s (fun k => kb_i (decide (0 < kb_J B k))) 7
theorem kb_sit7 (B : kb_B) : kb_sit B ≤ 7 := kb_s_le (fun _ => kb_i_le _) 7
theorem kb_votes7 (B : kb_B) (x : Nat) : kb_votes B x ≤ 7 := kb_s_le (fun _ => kb_i_le _) 7
theorem kb_w_le {B : kb_B} (hk : kb_ok B) (c o d : Nat) : kb_w B c o d ≤ 11 := by
  have := hk.2.2.2.2.2.2.2.2.1 c o
  unfold kb_w
  split
  · split <;> omega
  · omega
def kb_ds (B : kb_B) (f : Nat → Nat → Bool) : Nat := kb_s (fun c => kb_s (fun d => kb_i (f c d)) (kb_d B c)) (kb_n B)
theorem kb_s_le1 {f : Nat → Bool} (n : Nat) : kb_s (fun i => kb_i (f i)) n ≤ n := by
  have := kb_s_le (f := fun i => kb_i (f i)) (k := 1) (fun _ => kb_i_le _) n
  omega
section XB
variable {w : xw_W} {B : kb_B}
theorem x_weight (h : kb_x (xw_b w) B) (hk : kb_ok B) {c o d : Nat} (hc : c < 8) (ho : o < 8) (hd : d < kb_d B o) : ai_Call 86 [.ref 16, .int (nI c), .int (nI o), .int (nI d)] (wl w) = some (some (.int (nI (kb_w B c o d))), wl w) := by
  have he := hk.2.2.2.2.1 o (2 * d) (by unfold kb_d at hd; omega)
  unfold kb_w
  by_cases c1 : kb_could B c o d = true
  · rw [if_pos c1]
    have g := x_isBySworn h hk he.2
    rw [show decide (∃ i, i < kb_a B ∧ kb_W B (kb_E B o (2 * d)) = nI i ∧ kb_S B i = 1) = kb_by B (kb_E B o (2 * d)) from rfl] at g
    by_cases c2 : kb_by B (kb_E B o (2 * d)) = true
    · simp only [e_86, o_16, r_86_0, r_86_1, r_86_2, r_86_3, r_86_4, r_86_7, r_86_10, r_86_11, r_86_12, r_86_13, r_86_16, r_86_17, r_86_20, r_86_21, r_86_22, r_86_25, r_86_28, r_86_31, r_86_32, r_86_35, r_86_36, r_86_38, r_86_39, r_86_42, r_86_43, r_86_44, r_86_47, r_86_49, r_86_50, Option.bind_some, Option.bind_none, Option.toList_some, Option.toList_none, List.cons_append, List.nil_append, Option.map_some, Option.map_none, eq_self, if_true, if_false, reduceIte, ai_bi_eq0, ai_bi_eq1, ai_pb_bi, ai_pb_0, ai_pb_1, x_couldCause h hk hc ho hd, c1, f_16_0, x_deathChapter h hk ho hd, g, c2, x_motivePages h hc ho, Bool.true_eq_false, n_2, nI_add]
    · have c2' : kb_by B (kb_E B o (2 * d)) = false := by simpa using c2
      simp only [e_86, o_16, r_86_0, r_86_1, r_86_2, r_86_3, r_86_4, r_86_7, r_86_10, r_86_11, r_86_12, r_86_13, r_86_16, r_86_17, r_86_20, r_86_21, r_86_22, r_86_25, r_86_28, r_86_31, r_86_32, r_86_35, r_86_36, r_86_38, r_86_39, r_86_42, r_86_43, r_86_44, r_86_47, r_86_49, r_86_50, Option.bind_some, Option.bind_none, Option.toList_some, Option.toList_none, List.cons_append, List.nil_append, Option.map_some, Option.map_none, eq_self, if_true, if_false, reduceIte, ai_bi_eq0, ai_bi_eq1, ai_pb_bi, ai_pb_0, ai_pb_1, x_couldCause h hk hc ho hd, c1, f_16_0, x_deathChapter h hk ho hd, g, c2', x_motivePages h hc ho, Bool.true_eq_false, Bool.false_eq_true, Int32.add_zero, Nat.add_zero]
  · rw [if_neg c1]
    have c1' : kb_could B c o d = false := by simpa using c1
    simp only [e_86, o_16, r_86_0, r_86_1, r_86_2, r_86_3, r_86_4, r_86_7, r_86_10, r_86_11, r_86_12, r_86_13, r_86_16, r_86_17, r_86_20, r_86_21, r_86_22, r_86_25, r_86_28, r_86_31, r_86_32, r_86_35, r_86_36, r_86_38, r_86_39, r_86_42, r_86_43, r_86_44, r_86_47, r_86_49, r_86_50, Option.bind_some, Option.bind_none, Option.toList_some, Option.toList_none, List.cons_append, List.nil_append, Option.map_some, Option.map_none, eq_self, if_true, if_false, reduceIte, ai_bi_eq0, ai_bi_eq1, ai_pb_bi, ai_pb_0, ai_pb_1, x_couldCause h hk hc ho hd, c1']
    rfl
theorem x_isSeat (x : Int32) (ws : ai_W) : ai_Call 78 [.int x] ws = some (some (.int (ai_bi (ai_is 7 x))), ws) := by
  unfold ai_is
  by_cases c1 : x < 0
  · simp only [e_78, r_78_0, r_78_1, r_78_4, r_78_5, r_78_7, r_78_10, r_78_11, r_78_14, r_78_15, Option.bind_some, Option.bind_none, Option.toList_some, Option.toList_none, List.cons_append, List.nil_append, Option.map_some, Option.map_none, eq_self, if_true, if_false, reduceIte, ai_bi_eq0, ai_bi_eq1, ai_pb_bi, ai_pb_0, ai_pb_1, c1, not_true, false_and, decide_false]
    rfl
  · by_cases c2 : x < 7
    · have c3 : x < nI 7 := c2
      simp only [e_78, r_78_0, r_78_1, r_78_4, r_78_5, r_78_7, r_78_10, r_78_11, r_78_14, r_78_15, Option.bind_some, Option.bind_none, Option.toList_some, Option.toList_none, List.cons_append, List.nil_append, Option.map_some, Option.map_none, eq_self, if_true, if_false, reduceIte, ai_bi_eq0, ai_bi_eq1, ai_pb_bi, ai_pb_0, ai_pb_1, c1, c2, c3, not_false_eq_true, and_self, decide_true]
      rfl
    · have c3 : ¬ x < nI 7 := c2
      simp only [e_78, r_78_0, r_78_1, r_78_4, r_78_5, r_78_7, r_78_10, r_78_11, r_78_14, r_78_15, Option.bind_some, Option.bind_none, Option.toList_some, Option.toList_none, List.cons_append, List.nil_append, Option.map_some, Option.map_none, eq_self, if_true, if_false, reduceIte, ai_bi_eq0, ai_bi_eq1, ai_pb_bi, ai_pb_0, ai_pb_1, c1, c2, c3, and_false, decide_false]
      rfl
def ai_sev (x : Int32) : Bool := decide (¬ x < 1 ∧ ¬ 9 < x)
theorem ai_sev_of {x : Int32} (h : ai_sev x = true) : ∃ j, 1 ≤ j ∧ j ≤ 9 ∧ x = nI j := by
  unfold ai_sev at h
  rw [decide_eq_true_eq] at h
  have h0 : ¬ x < 0 := fun q => h.1 (Int32.lt_trans q (by decide))
  obtain ⟨j, hj, rfl⟩ := nI_of h0
  refine ⟨j, ?_, ?_, rfl⟩
  · rcases Nat.lt_or_ge j 1 with q | q
    · exact absurd (nI_lt q (by decide)) h.1
    · exact q
  · rcases Nat.lt_or_ge 9 j with q | q
    · exact absurd (nI_lt q hj) h.2
    · exact q
theorem x_isSeverity (x : Int32) (ws : ai_W) : ai_Call 80 [.int x] ws = some (some (.int (ai_bi (ai_sev x))), ws) := by
  unfold ai_sev
  by_cases c1 : x < 1
  · simp only [e_80, r_80_0, r_80_1, r_80_2, r_80_5, r_80_6, r_80_8, r_80_11, r_80_12, r_80_15, r_80_16, Option.bind_some, Option.bind_none, Option.toList_some, Option.toList_none, List.cons_append, List.nil_append, Option.map_some, Option.map_none, eq_self, if_true, if_false, reduceIte, ai_bi_eq0, ai_bi_eq1, ai_pb_bi, ai_pb_0, ai_pb_1, c1, not_true, false_and, decide_false]
    rfl
  · by_cases c2 : 9 < x
    · simp only [e_80, r_80_0, r_80_1, r_80_2, r_80_5, r_80_6, r_80_8, r_80_11, r_80_12, r_80_15, r_80_16, Option.bind_some, Option.bind_none, Option.toList_some, Option.toList_none, List.cons_append, List.nil_append, Option.map_some, Option.map_none, eq_self, if_true, if_false, reduceIte, ai_bi_eq0, ai_bi_eq1, ai_pb_bi, ai_pb_0, ai_pb_1, c1, c2, not_true, and_false, decide_false]
      rfl
    · simp only [e_80, r_80_0, r_80_1, r_80_2, r_80_5, r_80_6, r_80_8, r_80_11, r_80_12, r_80_15, r_80_16, Option.bind_some, Option.bind_none, Option.toList_some, Option.toList_none, List.cons_append, List.nil_append, Option.map_some, Option.map_none, eq_self, if_true, if_false, reduceIte, ai_bi_eq0, ai_bi_eq1, ai_pb_bi, ai_pb_0, ai_pb_1, c1, c2, not_false_eq_true, and_self, decide_true]
      rfl
theorem x_sev (h : kb_x (xw_b w) B) {k : Nat} (hk7 : k < 7) : ai_Call 12 [.ref 14, .int (nI k)] (wl w) = some (some (.int (nI (kb_J B k))), wl w) := by
  rw [x_get_se, ai_rgn hk7 (by decide), h.2.2.2.2.2.2.2.2.2 k hk7]
theorem x_isTaken (h : kb_x (xw_b w) B) (hk : kb_ok B) {k : Nat} (hk7 : k < 7) : ai_Call 21 [.ref 17, .int (nI k)] (wl w) = some (some (.int (ai_bi (decide (0 < kb_J B k)))), wl w) := by
  have h9 := hk.2.2.2.2.2.2.2.2.2.1 k
  by_cases c1 : 0 < kb_J B k
  · have c2 : 0 < nI (kb_J B k) := nI_lt c1 (by omega)
    simp only [e_21, o_17, r_21_0, r_21_1, r_21_4, r_21_7, r_21_8, r_21_11, r_21_14, r_21_15, r_21_18, r_21_19, Option.bind_some, Option.bind_none, Option.toList_some, Option.toList_none, List.cons_append, List.nil_append, Option.map_some, Option.map_none, eq_self, if_true, if_false, reduceIte, ai_bi_eq0, ai_bi_eq1, ai_pb_bi, ai_pb_0, ai_pb_1, f_17_0, f_1_9, x_sev h hk7, c1, c2, decide_true]
    rfl
  · have c2 : ¬ 0 < nI (kb_J B k) := nI_nlt (b := kb_J B k) (a := 0) (by omega) (by omega)
    simp only [e_21, o_17, r_21_0, r_21_1, r_21_4, r_21_7, r_21_8, r_21_11, r_21_14, r_21_15, r_21_18, r_21_19, Option.bind_some, Option.bind_none, Option.toList_some, Option.toList_none, List.cons_append, List.nil_append, Option.map_some, Option.map_none, eq_self, if_true, if_false, reduceIte, ai_bi_eq0, ai_bi_eq1, ai_pb_bi, ai_pb_0, ai_pb_1, f_17_0, f_1_9, x_sev h hk7, c1, c2, decide_false]
    rfl
theorem x_sitting (h : kb_x (xw_b w) B) (hk : kb_ok B) : ai_Call 22 [.ref 17] (wl w) = some (some (.int (nI (kb_sit B))), wl w) := by
  have step : ∀ i, i < 7 → ai_Run 22 4 [.ref 17, .int (nI (kb_s (fun k => kb_i (decide (0 < kb_J B k))) i)), .int (nI i)] [] (wl w) = ai_Run 22 4 [.ref 17, .int (nI (kb_s (fun k => kb_i (decide (0 < kb_J B k))) (i + 1))), .int (nI (i + 1))] [] (wl w) := by
    intro i hi
    have c1 : nI i < 7 := nI_lt (b := 7) hi (by decide)
    rw [r_22_4]
    by_cases c2 : 0 < kb_J B i
    · simp only [r_22_0, r_22_1, r_22_2, r_22_3, r_22_5, r_22_7, r_22_10, r_22_11, r_22_12, r_22_15, r_22_18, r_22_21, r_22_24, r_22_27, r_22_28, Option.bind_some, Option.bind_none, Option.toList_some, Option.toList_none, List.cons_append, List.nil_append, Option.map_some, Option.map_none, eq_self, if_true, if_false, reduceIte, ai_bi_eq0, ai_bi_eq1, ai_pb_bi, ai_pb_0, ai_pb_1, c1, x_isTaken h hk hi, c2, decide_true, nI_1, kb_s, kb_i_t, Bool.true_eq_false]
    · simp only [r_22_0, r_22_1, r_22_2, r_22_3, r_22_5, r_22_7, r_22_10, r_22_11, r_22_12, r_22_15, r_22_18, r_22_21, r_22_24, r_22_27, r_22_28, Option.bind_some, Option.bind_none, Option.toList_some, Option.toList_none, List.cons_append, List.nil_append, Option.map_some, Option.map_none, eq_self, if_true, if_false, reduceIte, ai_bi_eq0, ai_bi_eq1, ai_pb_bi, ai_pb_0, ai_pb_1, c1, x_isTaken h hk hi, c2, decide_false, nI_1, kb_s, kb_i_f, Nat.add_zero]
  have e := lp_n (fun i => ai_Run 22 4 [.ref 17, .int (nI (kb_s (fun k => kb_i (decide (0 < kb_J B k))) i)), .int (nI i)] [] (wl w)) 7 step
  have c2 : ¬ nI 7 < 7 := by decide
  simp only [e_22, o_17, r_22_0, r_22_1, r_22_2, r_22_3, r_22_5, r_22_7, r_22_10, r_22_11, r_22_12, r_22_15, r_22_18, r_22_21, r_22_24, r_22_27, r_22_28, Option.bind_some, Option.bind_none, Option.toList_some, Option.toList_none, List.cons_append, List.nil_append, Option.map_some, Option.map_none, eq_self, if_true, if_false, reduceIte, ai_bi_eq0, ai_bi_eq1, ai_pb_bi, ai_pb_0, ai_pb_1]
  refine e.trans ?_
  rw [r_22_4]
  simp only [r_22_0, r_22_1, r_22_2, r_22_3, r_22_5, r_22_7, r_22_10, r_22_11, r_22_12, r_22_15, r_22_18, r_22_21, r_22_24, r_22_27, r_22_28, Option.bind_some, Option.bind_none, Option.toList_some, Option.toList_none, List.cons_append, List.nil_append, Option.map_some, Option.map_none, eq_self, if_true, if_false, reduceIte, ai_bi_eq0, ai_bi_eq1, ai_pb_bi, ai_pb_0, ai_pb_1, c2]
  rfl
theorem x_voteOn (h : kb_x (xw_b w) B) (hk : kb_ok B) {k x : Nat} (hk7 : k < 7) (hx : x < 100) : ai_Call 87 [.ref 17, .int (nI k), .int (nI x)] (wl w) = some (some (.int (nI (kb_vote (kb_J B k) x))), wl w) := by
  have h9 := hk.2.2.2.2.2.2.2.2.2.1 k
  unfold kb_vote
  by_cases c1 : 0 < kb_J B k
  · have c2 : 0 < nI (kb_J B k) := nI_lt c1 (by omega)
    by_cases c3 : x < kb_J B k
    · have c4 : nI x < nI (kb_J B k) := nI_lt c3 (by omega)
      simp only [e_87, o_17, r_87_0, r_87_1, r_87_4, r_87_7, r_87_8, r_87_11, r_87_12, r_87_13, r_87_16, r_87_17, r_87_18, r_87_21, r_87_22, r_87_25, r_87_26, Option.bind_some, Option.bind_none, Option.toList_some, Option.toList_none, List.cons_append, List.nil_append, Option.map_some, Option.map_none, eq_self, if_true, if_false, reduceIte, ai_bi_eq0, ai_bi_eq1, ai_pb_bi, ai_pb_0, ai_pb_1, f_17_0, f_1_9, x_sev h hk7, c1, c2, c4, Nat.not_le.mpr c3, and_false, decide_false, kb_i_f]
      rfl
    · have c4 : ¬ nI x < nI (kb_J B k) := nI_nlt (by omega) (by omega)
      simp only [e_87, o_17, r_87_0, r_87_1, r_87_4, r_87_7, r_87_8, r_87_11, r_87_12, r_87_13, r_87_16, r_87_17, r_87_18, r_87_21, r_87_22, r_87_25, r_87_26, Option.bind_some, Option.bind_none, Option.toList_some, Option.toList_none, List.cons_append, List.nil_append, Option.map_some, Option.map_none, eq_self, if_true, if_false, reduceIte, ai_bi_eq0, ai_bi_eq1, ai_pb_bi, ai_pb_0, ai_pb_1, f_17_0, f_1_9, x_sev h hk7, c1, c2, c4, Nat.not_lt.mp c3, and_self, decide_true, kb_i_t]
      rfl
  · have c2 : ¬ 0 < nI (kb_J B k) := nI_nlt (b := kb_J B k) (a := 0) (by omega) (by omega)
    simp only [e_87, o_17, r_87_0, r_87_1, r_87_4, r_87_7, r_87_8, r_87_11, r_87_12, r_87_13, r_87_16, r_87_17, r_87_18, r_87_21, r_87_22, r_87_25, r_87_26, Option.bind_some, Option.bind_none, Option.toList_some, Option.toList_none, List.cons_append, List.nil_append, Option.map_some, Option.map_none, eq_self, if_true, if_false, reduceIte, ai_bi_eq0, ai_bi_eq1, ai_pb_bi, ai_pb_0, ai_pb_1, f_17_0, f_1_9, x_sev h hk7, c1, c2, false_and, decide_false, kb_i_f]
    rfl
theorem x_votes (h : kb_x (xw_b w) B) (hk : kb_ok B) {x : Nat} (hx : x < 100) : ai_Call 88 [.ref 17, .int (nI x)] (wl w) = some (some (.int (nI (kb_votes B x))), wl w) := by
  have step : ∀ i, i < 7 → ai_Run 88 4 [.ref 17, .int (nI x), .int (nI (kb_s (fun k => kb_vote (kb_J B k) x) i)), .int (nI i)] [] (wl w) = ai_Run 88 4 [.ref 17, .int (nI x), .int (nI (kb_s (fun k => kb_vote (kb_J B k) x) (i + 1))), .int (nI (i + 1))] [] (wl w) := by
    intro i hi
    have c1 : nI i < 7 := nI_lt (b := 7) hi (by decide)
    rw [r_88_4]
    simp only [r_88_0, r_88_1, r_88_2, r_88_3, r_88_5, r_88_7, r_88_10, r_88_11, r_88_12, r_88_13, r_88_14, r_88_17, r_88_18, r_88_19, r_88_22, r_88_25, r_88_26, Option.bind_some, Option.bind_none, Option.toList_some, Option.toList_none, List.cons_append, List.nil_append, Option.map_some, Option.map_none, eq_self, if_true, if_false, reduceIte, ai_bi_eq0, ai_bi_eq1, ai_pb_bi, ai_pb_0, ai_pb_1, c1, x_voteOn h hk hi hx, nI_1, nI_add, kb_s]
  have e := lp_n (fun i => ai_Run 88 4 [.ref 17, .int (nI x), .int (nI (kb_s (fun k => kb_vote (kb_J B k) x) i)), .int (nI i)] [] (wl w)) 7 step
  have c2 : ¬ nI 7 < 7 := by decide
  simp only [e_88, o_17, r_88_0, r_88_1, r_88_2, r_88_3, r_88_5, r_88_7, r_88_10, r_88_11, r_88_12, r_88_13, r_88_14, r_88_17, r_88_18, r_88_19, r_88_22, r_88_25, r_88_26, Option.bind_some, Option.bind_none, Option.toList_some, Option.toList_none, List.cons_append, List.nil_append, Option.map_some, Option.map_none, eq_self, if_true, if_false, reduceIte, ai_bi_eq0, ai_bi_eq1, ai_pb_bi, ai_pb_0, ai_pb_1]
  refine e.trans ?_
  rw [r_88_4]
  simp only [r_88_0, r_88_1, r_88_2, r_88_3, r_88_5, r_88_7, r_88_10, r_88_11, r_88_12, r_88_13, r_88_14, r_88_17, r_88_18, r_88_19, r_88_22, r_88_25, r_88_26, Option.bind_some, Option.bind_none, Option.toList_some, Option.toList_none, List.cons_append, List.nil_append, Option.map_some, Option.map_none, eq_self, if_true, if_false, reduceIte, ai_bi_eq0, ai_bi_eq1, ai_pb_bi, ai_pb_0, ai_pb_1, c2]
  rfl
theorem x_findsGuilty (h : kb_x (xw_b w) B) (hk : kb_ok B) {x : Nat} (hx : x < 100) : ai_Call 89 [.ref 17, .int (nI x)] (wl w) = some (some (.int (ai_bi (decide (kb_sit B < 2 * kb_votes B x)))), wl w) := by
  have h1 := kb_sit7 B
  have h2 := kb_votes7 B x
  by_cases c1 : kb_sit B < 2 * kb_votes B x
  · have c2 : nI (kb_sit B) < nI (2 * kb_votes B x) := nI_lt c1 (by omega)
    simp only [e_89, o_17, r_89_0, r_89_1, r_89_2, r_89_3, r_89_6, r_89_7, r_89_8, r_89_11, r_89_14, r_89_15, r_89_18, r_89_19, Option.bind_some, Option.bind_none, Option.toList_some, Option.toList_none, List.cons_append, List.nil_append, Option.map_some, Option.map_none, eq_self, if_true, if_false, reduceIte, ai_bi_eq0, ai_bi_eq1, ai_pb_bi, ai_pb_0, ai_pb_1, x_votes h hk hx, x_sitting h hk, n_2, pk_mul, c1, c2, decide_true]
    rfl
  · have c2 : ¬ nI (kb_sit B) < nI (2 * kb_votes B x) := nI_nlt (by omega) (by omega)
    simp only [e_89, o_17, r_89_0, r_89_1, r_89_2, r_89_3, r_89_6, r_89_7, r_89_8, r_89_11, r_89_14, r_89_15, r_89_18, r_89_19, Option.bind_some, Option.bind_none, Option.toList_some, Option.toList_none, List.cons_append, List.nil_append, Option.map_some, Option.map_none, eq_self, if_true, if_false, reduceIte, ai_bi_eq0, ai_bi_eq1, ai_pb_bi, ai_pb_0, ai_pb_1, x_votes h hk hx, x_sitting h hk, n_2, pk_mul, c1, c2, decide_false]
    rfl
-- sums
theorem x_solvedDeaths (h : kb_x (xw_b w) B) (hk : kb_ok B) {c : Nat} (hc : c < 8) : ai_Call 19 [.ref 19, .int (nI c)] (wl w) = some (some (.int (nI (kb_s (fun d => kb_i (decide (¬ kb_C B c d = (-4)))) (kb_d B c)))), wl w) := by
  have h3 := kb_d3 hk c
  have step : ∀ i, i < kb_d B c → ai_Run 19 4 [.ref 19, .int (nI c), .int (nI (kb_s (fun d => kb_i (decide (¬ kb_C B c d = (-4)))) i)), .int (nI i)] [] (wl w) = ai_Run 19 4 [.ref 19, .int (nI c), .int (nI (kb_s (fun d => kb_i (decide (¬ kb_C B c d = (-4)))) (i + 1))), .int (nI (i + 1))] [] (wl w) := by
    intro i hi
    have c1 : nI i < nI (kb_d B c) := nI_lt hi (by omega)
    rw [r_19_4]
    by_cases c2 : kb_C B c i = (-4)
    · simp only [r_19_0, r_19_1, r_19_2, r_19_3, r_19_5, r_19_6, r_19_9, r_19_10, r_19_13, r_19_16, r_19_17, r_19_20, r_19_21, r_19_22, r_19_25, r_19_28, r_19_31, r_19_34, r_19_37, r_19_38, Option.bind_some, Option.bind_none, Option.toList_some, Option.toList_none, List.cons_append, List.nil_append, Option.map_some, Option.map_none, eq_self, if_true, if_false, reduceIte, ai_bi_eq0, ai_bi_eq1, ai_pb_bi, ai_pb_0, ai_pb_1, f_19_0, x_deaths h hk hc, c1, x_isSolved h hc (show i < 3 by omega), c2, not_true, decide_false, nI_1, kb_s, kb_i_f, Nat.add_zero]
    · simp only [r_19_0, r_19_1, r_19_2, r_19_3, r_19_5, r_19_6, r_19_9, r_19_10, r_19_13, r_19_16, r_19_17, r_19_20, r_19_21, r_19_22, r_19_25, r_19_28, r_19_31, r_19_34, r_19_37, r_19_38, Option.bind_some, Option.bind_none, Option.toList_some, Option.toList_none, List.cons_append, List.nil_append, Option.map_some, Option.map_none, eq_self, if_true, if_false, reduceIte, ai_bi_eq0, ai_bi_eq1, ai_pb_bi, ai_pb_0, ai_pb_1, f_19_0, x_deaths h hk hc, c1, x_isSolved h hc (show i < 3 by omega), c2, not_false_eq_true, decide_true, nI_1, kb_s, kb_i_t, Bool.true_eq_false]
  have e := lp_n (fun i => ai_Run 19 4 [.ref 19, .int (nI c), .int (nI (kb_s (fun d => kb_i (decide (¬ kb_C B c d = (-4)))) i)), .int (nI i)] [] (wl w)) _ step
  have c2 : ¬ nI (kb_d B c) < nI (kb_d B c) := nI_nlt (Nat.le_refl _) (by omega)
  simp only [e_19, o_19, r_19_0, r_19_1, r_19_2, r_19_3, r_19_5, r_19_6, r_19_9, r_19_10, r_19_13, r_19_16, r_19_17, r_19_20, r_19_21, r_19_22, r_19_25, r_19_28, r_19_31, r_19_34, r_19_37, r_19_38, Option.bind_some, Option.bind_none, Option.toList_some, Option.toList_none, List.cons_append, List.nil_append, Option.map_some, Option.map_none, eq_self, if_true, if_false, reduceIte, ai_bi_eq0, ai_bi_eq1, ai_pb_bi, ai_pb_0, ai_pb_1]
  refine e.trans ?_
  rw [r_19_4]
  simp only [r_19_0, r_19_1, r_19_2, r_19_3, r_19_5, r_19_6, r_19_9, r_19_10, r_19_13, r_19_16, r_19_17, r_19_20, r_19_21, r_19_22, r_19_25, r_19_28, r_19_31, r_19_34, r_19_37, r_19_38, Option.bind_some, Option.bind_none, Option.toList_some, Option.toList_none, List.cons_append, List.nil_append, Option.map_some, Option.map_none, eq_self, if_true, if_false, reduceIte, ai_bi_eq0, ai_bi_eq1, ai_pb_bi, ai_pb_0, ai_pb_1, f_19_0, x_deaths h hk hc, c2]
theorem x_pagesHeldBy (h : kb_x (xw_b w) B) (hk : kb_ok B) {c : Nat} (hc : c < 8) : ai_Call 96 [.ref 19, .int (nI c)] (wl w) = some (some (.int (nI (kb_s (fun o => kb_M B c o) (kb_n B)))), wl w) := by
  have hn := hk.1
  have step : ∀ i, i < kb_n B → ai_Run 96 4 [.ref 19, .int (nI c), .int (nI (kb_s (fun o => kb_M B c o) i)), .int (nI i)] [] (wl w) = ai_Run 96 4 [.ref 19, .int (nI c), .int (nI (kb_s (fun o => kb_M B c o) (i + 1))), .int (nI (i + 1))] [] (wl w) := by
    intro i hi
    have c1 : nI i < nI (kb_n B) := nI_lt hi (by omega)
    rw [r_96_4]
    simp only [r_96_0, r_96_1, r_96_2, r_96_3, r_96_5, r_96_6, r_96_9, r_96_12, r_96_15, r_96_16, r_96_17, r_96_20, r_96_21, r_96_22, r_96_25, r_96_26, r_96_27, r_96_30, r_96_33, r_96_34, Option.bind_some, Option.bind_none, Option.toList_some, Option.toList_none, List.cons_append, List.nil_append, Option.map_some, Option.map_none, eq_self, if_true, if_false, reduceIte, ai_bi_eq0, ai_bi_eq1, ai_pb_bi, ai_pb_0, ai_pb_1, f_19_0, f_1_0, h.1, c1, x_motivePages h hc (show i < 8 by omega), nI_add, nI_1, kb_s]
  have e := lp_n (fun i => ai_Run 96 4 [.ref 19, .int (nI c), .int (nI (kb_s (fun o => kb_M B c o) i)), .int (nI i)] [] (wl w)) _ step
  have c2 : ¬ nI (kb_n B) < nI (kb_n B) := nI_nlt (Nat.le_refl _) (by omega)
  simp only [e_96, o_19, r_96_0, r_96_1, r_96_2, r_96_3, r_96_5, r_96_6, r_96_9, r_96_12, r_96_15, r_96_16, r_96_17, r_96_20, r_96_21, r_96_22, r_96_25, r_96_26, r_96_27, r_96_30, r_96_33, r_96_34, Option.bind_some, Option.bind_none, Option.toList_some, Option.toList_none, List.cons_append, List.nil_append, Option.map_some, Option.map_none, eq_self, if_true, if_false, reduceIte, ai_bi_eq0, ai_bi_eq1, ai_pb_bi, ai_pb_0, ai_pb_1]
  refine e.trans ?_
  rw [r_96_4]
  simp only [r_96_0, r_96_1, r_96_2, r_96_3, r_96_5, r_96_6, r_96_9, r_96_12, r_96_15, r_96_16, r_96_17, r_96_20, r_96_21, r_96_22, r_96_25, r_96_26, r_96_27, r_96_30, r_96_33, r_96_34, Option.bind_some, Option.bind_none, Option.toList_some, Option.toList_none, List.cons_append, List.nil_append, Option.map_some, Option.map_none, eq_self, if_true, if_false, reduceIte, ai_bi_eq0, ai_bi_eq1, ai_pb_bi, ai_pb_0, ai_pb_1, f_19_0, f_1_0, h.1, c2]
theorem x_pagesAgainst (h : kb_x (xw_b w) B) (hk : kb_ok B) {c : Nat} (hc : c < 8) : ai_Call 97 [.ref 19, .int (nI c)] (wl w) = some (some (.int (nI (kb_s (fun o => kb_M B o c) (kb_n B)))), wl w) := by
  have hn := hk.1
  have step : ∀ i, i < kb_n B → ai_Run 97 4 [.ref 19, .int (nI c), .int (nI (kb_s (fun o => kb_M B o c) i)), .int (nI i)] [] (wl w) = ai_Run 97 4 [.ref 19, .int (nI c), .int (nI (kb_s (fun o => kb_M B o c) (i + 1))), .int (nI (i + 1))] [] (wl w) := by
    intro i hi
    have c1 : nI i < nI (kb_n B) := nI_lt hi (by omega)
    rw [r_97_4]
    simp only [r_97_0, r_97_1, r_97_2, r_97_3, r_97_5, r_97_6, r_97_9, r_97_12, r_97_15, r_97_16, r_97_17, r_97_20, r_97_21, r_97_22, r_97_25, r_97_26, r_97_27, r_97_30, r_97_33, r_97_34, Option.bind_some, Option.bind_none, Option.toList_some, Option.toList_none, List.cons_append, List.nil_append, Option.map_some, Option.map_none, eq_self, if_true, if_false, reduceIte, ai_bi_eq0, ai_bi_eq1, ai_pb_bi, ai_pb_0, ai_pb_1, f_19_0, f_1_0, h.1, c1, x_motivePages h (show i < 8 by omega) hc, nI_add, nI_1, kb_s]
  have e := lp_n (fun i => ai_Run 97 4 [.ref 19, .int (nI c), .int (nI (kb_s (fun o => kb_M B o c) i)), .int (nI i)] [] (wl w)) _ step
  have c2 : ¬ nI (kb_n B) < nI (kb_n B) := nI_nlt (Nat.le_refl _) (by omega)
  simp only [e_97, o_19, r_97_0, r_97_1, r_97_2, r_97_3, r_97_5, r_97_6, r_97_9, r_97_12, r_97_15, r_97_16, r_97_17, r_97_20, r_97_21, r_97_22, r_97_25, r_97_26, r_97_27, r_97_30, r_97_33, r_97_34, Option.bind_some, Option.bind_none, Option.toList_some, Option.toList_none, List.cons_append, List.nil_append, Option.map_some, Option.map_none, eq_self, if_true, if_false, reduceIte, ai_bi_eq0, ai_bi_eq1, ai_pb_bi, ai_pb_0, ai_pb_1]
  refine e.trans ?_
  rw [r_97_4]
  simp only [r_97_0, r_97_1, r_97_2, r_97_3, r_97_5, r_97_6, r_97_9, r_97_12, r_97_15, r_97_16, r_97_17, r_97_20, r_97_21, r_97_22, r_97_25, r_97_26, r_97_27, r_97_30, r_97_33, r_97_34, Option.bind_some, Option.bind_none, Option.toList_some, Option.toList_none, List.cons_append, List.nil_append, Option.map_some, Option.map_none, eq_self, if_true, if_false, reduceIte, ai_bi_eq0, ai_bi_eq1, ai_pb_bi, ai_pb_0, ai_pb_1, f_19_0, f_1_0, h.1, c2]
theorem x_wr (h : kb_x (xw_b w) B) {q : Nat} (hq : q ≤ 30) : ai_Call 12 [.ref 8, .int (nI q)] (wl w) = some (some (.int (kb_W B q)), wl w) := by rw [x_get_wr, ai_rgn (by omega) (by decide), h.2.2.2.2.2.2.1 q hq]
def kb_wn (B : kb_B) (x : Int32) : Nat := kb_s (fun q => kb_i (decide (kb_W B (q + 1) = x))) 30
theorem x_chaptersBy (h : kb_x (xw_b w) B) (x : Int32) : ai_Call 23 [.ref 19, .int x] (wl w) = some (some (.int (nI (kb_wn B x))), wl w) := by
  have step : ∀ i, i < 30 → ai_Run 23 4 [.ref 19, .int x, .int (nI (kb_s (fun q => kb_i (decide (kb_W B (q + 1) = x))) i)), .int (nI (i + 1))] [] (wl w) = ai_Run 23 4 [.ref 19, .int x, .int (nI (kb_s (fun q => kb_i (decide (kb_W B (q + 1) = x))) (i + 1))), .int (nI (i + 1 + 1))] [] (wl w) := by
    intro i hi
    have c1 : ¬ (30 : Int32) < nI (i + 1) := nI_nlt (b := i + 1) (a := 30) (by omega) (by decide)
    rw [r_23_4]
    by_cases c2 : kb_W B (i + 1) = x
    · simp only [r_23_0, r_23_1, r_23_2, r_23_3, r_23_5, r_23_7, r_23_10, r_23_11, r_23_14, r_23_17, r_23_18, r_23_21, r_23_22, r_23_25, r_23_28, r_23_31, r_23_34, r_23_35, Option.bind_some, Option.bind_none, Option.toList_some, Option.toList_none, List.cons_append, List.nil_append, Option.map_some, Option.map_none, eq_self, if_true, if_false, reduceIte, ai_bi_eq0, ai_bi_eq1, ai_pb_bi, ai_pb_0, ai_pb_1, f_19_0, f_1_6, c1, x_wr h (show i + 1 ≤ 30 by omega), c2, decide_true, nI_1, kb_s, kb_i_t]
    · simp only [r_23_0, r_23_1, r_23_2, r_23_3, r_23_5, r_23_7, r_23_10, r_23_11, r_23_14, r_23_17, r_23_18, r_23_21, r_23_22, r_23_25, r_23_28, r_23_31, r_23_34, r_23_35, Option.bind_some, Option.bind_none, Option.toList_some, Option.toList_none, List.cons_append, List.nil_append, Option.map_some, Option.map_none, eq_self, if_true, if_false, reduceIte, ai_bi_eq0, ai_bi_eq1, ai_pb_bi, ai_pb_0, ai_pb_1, f_19_0, f_1_6, c1, x_wr h (show i + 1 ≤ 30 by omega), c2, decide_false, nI_1, kb_s, kb_i_f, Nat.add_zero]
  have e := lp_n (fun i => ai_Run 23 4 [.ref 19, .int x, .int (nI (kb_s (fun q => kb_i (decide (kb_W B (q + 1) = x))) i)), .int (nI (i + 1))] [] (wl w)) 30 step
  have c2 : (30 : Int32) < nI (30 + 1) := by decide
  simp only [e_23, o_19, r_23_0, r_23_1, r_23_2, r_23_3, r_23_5, r_23_7, r_23_10, r_23_11, r_23_14, r_23_17, r_23_18, r_23_21, r_23_22, r_23_25, r_23_28, r_23_31, r_23_34, r_23_35, Option.bind_some, Option.bind_none, Option.toList_some, Option.toList_none, List.cons_append, List.nil_append, Option.map_some, Option.map_none, eq_self, if_true, if_false, reduceIte, ai_bi_eq0, ai_bi_eq1, ai_pb_bi, ai_pb_0, ai_pb_1]
  refine e.trans ?_
  rw [r_23_4]
  simp only [r_23_0, r_23_1, r_23_2, r_23_3, r_23_5, r_23_7, r_23_10, r_23_11, r_23_14, r_23_17, r_23_18, r_23_21, r_23_22, r_23_25, r_23_28, r_23_31, r_23_34, r_23_35, Option.bind_some, Option.bind_none, Option.toList_some, Option.toList_none, List.cons_append, List.nil_append, Option.map_some, Option.map_none, eq_self, if_true, if_false, reduceIte, ai_bi_eq0, ai_bi_eq1, ai_pb_bi, ai_pb_0, ai_pb_1, c2]
  rfl
theorem x_writtenChapters (h : kb_x (xw_b w) B) : ai_Call 24 [.ref 19] (wl w) = some (some (.int (nI (30 - kb_wn B (-4)))), wl w) := by
  have h1 : kb_wn B (-4) ≤ 30 := kb_s_le1 30
  simp only [e_24, o_19, r_24_0, r_24_2, r_24_3, r_24_5, r_24_8, r_24_9, Option.bind_some, Option.bind_none, Option.toList_some, Option.toList_none, List.cons_append, List.nil_append, Option.map_some, Option.map_none, eq_self, if_true, if_false, reduceIte, ai_bi_eq0, ai_bi_eq1, ai_pb_bi, ai_pb_0, ai_pb_1, x_chaptersBy h]
  rw [show (30 : Int32) = nI 30 from rfl, pk_sub h1]
theorem x_isDeathBy (h : kb_x (xw_b w) B) (hk : kb_ok B) {c d : Nat} (x : Int32) (hc : c < 8) (hd : d < kb_d B c) : ai_Call 54 [.ref 19, .int x, .int (nI c), .int (nI d)] (wl w) = some (some (.int (ai_bi (decide (kb_W B (kb_E B c (2 * d)) = x)))), wl w) := by
  have he := hk.2.2.2.2.1 c (2 * d) (by unfold kb_d at hd; omega)
  by_cases c2 : kb_W B (kb_E B c (2 * d)) = x
  · simp only [e_54, o_19, r_54_0, r_54_1, r_54_4, r_54_7, r_54_8, r_54_11, r_54_12, r_54_13, r_54_16, r_54_19, r_54_20, r_54_23, r_54_24, r_54_27, r_54_28, Option.bind_some, Option.bind_none, Option.toList_some, Option.toList_none, List.cons_append, List.nil_append, Option.map_some, Option.map_none, eq_self, if_true, if_false, reduceIte, ai_bi_eq0, ai_bi_eq1, ai_pb_bi, ai_pb_0, ai_pb_1, f_19_0, f_1_6, x_deathChapter h hk hc hd, x_wr h he.2, c2, decide_true]
    rfl
  · simp only [e_54, o_19, r_54_0, r_54_1, r_54_4, r_54_7, r_54_8, r_54_11, r_54_12, r_54_13, r_54_16, r_54_19, r_54_20, r_54_23, r_54_24, r_54_27, r_54_28, Option.bind_some, Option.bind_none, Option.toList_some, Option.toList_none, List.cons_append, List.nil_append, Option.map_some, Option.map_none, eq_self, if_true, if_false, reduceIte, ai_bi_eq0, ai_bi_eq1, ai_pb_bi, ai_pb_0, ai_pb_1, f_19_0, f_1_6, x_deathChapter h hk hc hd, x_wr h he.2, c2, decide_false]
    rfl
end XB

