/-! A command on both sides: kept, done, confirmed. -/
def kc_er (a : Int32) : Bool := decide (a = -1 ∨ a = -2 ∨ a = -3)
def kc_good (B : kb_B) (o : kc_O) : Prop := kb_ok o.1 ∧ ((∃ y d, o = (B, -3, some (y, d)) ∧ ¬ y = 0) ∨ o = (B, -1, none) ∨ o = (B, -2, none) ∨ (o.2.2 = none ∧ (o.2.1 = -4 ∨ ∃ n, n < 64 ∧ o.2.1 = nI n)))
theorem er_nI {n : Nat} (hn : n < 2 ^ 31) : kc_er (nI n) = false := by
  have h := nI_pos hn
  unfold kc_er
  rw [decide_eq_false_iff_not]
  rintro (z | z | z) <;> rw [z] at h <;> exact h (by decide)
theorem x_isError (x : Int32) (ws : ai_W) : ai_Call 49 [.int x] ws = some (some (.int (ai_bi (kc_er x))), ws) := by
  unfold kc_er
  by_cases c1 : x = -1
  · subst c1
    simp only [e_49, r_49_0, r_49_1, r_49_2, r_49_5, r_49_6, r_49_8, r_49_11, r_49_12, r_49_14, r_49_17, r_49_18, r_49_21, r_49_22, Option.bind_some, Option.bind_none, Option.toList_some, Option.toList_none, List.cons_append, List.nil_append, Option.map_some, Option.map_none, eq_self, if_true, if_false, reduceIte, ai_bi_eq0, ai_bi_eq1, ai_pb_bi, ai_pb_0, ai_pb_1, true_or, decide_true]
    rfl
  · by_cases c2 : x = -2
    · subst c2
      simp only [e_49, r_49_0, r_49_1, r_49_2, r_49_5, r_49_6, r_49_8, r_49_11, r_49_12, r_49_14, r_49_17, r_49_18, r_49_21, r_49_22, Option.bind_some, Option.bind_none, Option.toList_some, Option.toList_none, List.cons_append, List.nil_append, Option.map_some, Option.map_none, eq_self, if_true, if_false, reduceIte, ai_bi_eq0, ai_bi_eq1, ai_pb_bi, ai_pb_0, ai_pb_1, c1, true_or, or_true, decide_true]
      rfl
    · by_cases c3 : x = -3
      · subst c3
        simp only [e_49, r_49_0, r_49_1, r_49_2, r_49_5, r_49_6, r_49_8, r_49_11, r_49_12, r_49_14, r_49_17, r_49_18, r_49_21, r_49_22, Option.bind_some, Option.bind_none, Option.toList_some, Option.toList_none, List.cons_append, List.nil_append, Option.map_some, Option.map_none, eq_self, if_true, if_false, reduceIte, ai_bi_eq0, ai_bi_eq1, ai_pb_bi, ai_pb_0, ai_pb_1, c1, c2, or_true, decide_true]
        rfl
      · simp only [e_49, r_49_0, r_49_1, r_49_2, r_49_5, r_49_6, r_49_8, r_49_11, r_49_12, r_49_14, r_49_17, r_49_18, r_49_21, r_49_22, Option.bind_some, Option.bind_none, Option.toList_some, Option.toList_none, List.cons_append, List.nil_append, Option.map_some, Option.map_none, eq_self, if_true, if_false, reduceIte, ai_bi_eq0, ai_bi_eq1, ai_pb_bi, ai_pb_0, ai_pb_1, c1, c2, c3, or_self, decide_false]
        rfl
theorem x_setCommand (w : xw_W) (v : Int32) : ai_Call 40 [.ref 18, .int v] (wl w) = some (none, wl (xw_wrn w v)) := by
  simp only [e_40, o_18, r_40_0, r_40_1, r_40_2, r_40_5, Option.bind_some, Option.bind_none, Option.toList_some, Option.toList_none, List.cons_append, List.nil_append, Option.map_some, Option.map_none, eq_self, if_true, if_false, reduceIte, ai_bi_eq0, ai_bi_eq1, ai_pb_bi, ai_pb_0, ai_pb_1, p_18_0]
abbrev kw_b (w : xw_W) (p : Nat) : xw_W := xw_whi (xw_wrn w (-4)) (up (xw_hi w) p (xw_b w))
theorem x_begin {w : xw_W} {p : Nat} (hp : p < 9) (h : xw_hn w = nI p) : ai_Call 46 [.ref 0] (wl w) = some (none, wl (kw_b w p)) := by
  have e := x_keep (w := xw_wrn w (-4)) hp h
  simp only [e_46, o_0, r_46_0, r_46_1, r_46_4, r_46_6, r_46_9, r_46_10, r_46_13, r_46_14, r_46_17, r_46_20, Option.bind_some, Option.bind_none, Option.toList_some, Option.toList_none, List.cons_append, List.nil_append, Option.map_some, Option.map_none, eq_self, if_true, if_false, reduceIte, ai_bi_eq0, ai_bi_eq1, ai_pb_bi, ai_pb_0, ai_pb_1, f_0_0, f_0_4, f_0_6, x_setCommand, e]
theorem x_finish_er {x : Int32} (h : kc_er x = true) (w : xw_W) : ai_Call 51 [.ref 0, .int x] (wl w) = some (some (.int x), wl w) := by
  simp only [e_51, o_0, r_51_0, r_51_1, r_51_4, r_51_7, r_51_8, r_51_11, r_51_14, r_51_15, Option.bind_some, Option.bind_none, Option.toList_some, Option.toList_none, List.cons_append, List.nil_append, Option.map_some, Option.map_none, eq_self, if_true, if_false, reduceIte, ai_bi_eq0, ai_bi_eq1, ai_pb_bi, ai_pb_0, ai_pb_1, x_isError, h, Bool.true_eq_false]
theorem x_finish_ok {x : Int32} (h : kc_er x = false) {w : xw_W} {p m : Nat} (hp : p < 9) (hm : m ≤ 8) (h1 : xw_hn w = nI p) (h2 : xw_hm w = nI m) : ai_Call 51 [.ref 0, .int x] (wl w) = some (some (.int x), wl (xw_whm (xw_whn w (nI (if p < 8 then p + 1 else 0))) (nI (min (m + 1) 8)))) := by
  simp only [e_51, o_0, r_51_0, r_51_1, r_51_4, r_51_7, r_51_8, r_51_11, r_51_14, r_51_15, Option.bind_some, Option.bind_none, Option.toList_some, Option.toList_none, List.cons_append, List.nil_append, Option.map_some, Option.map_none, eq_self, if_true, if_false, reduceIte, ai_bi_eq0, ai_bi_eq1, ai_pb_bi, ai_pb_0, ai_pb_1, f_0_6, x_isError, h, x_confirm hp hm h1 h2]
