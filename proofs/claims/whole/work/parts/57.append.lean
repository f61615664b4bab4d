/-! A character appended to the text. -/
theorem ms_tape (w : xw_W) {j : Nat} (hj : j < 70) (x : Int32) : ai_aset (wl w) 191 (nI j) x = some (wl (xm_wtape w (upd (xm_tape w) j x))) := by
  rw [as_191, ai_ix_nI hj (by decide)]
  rfl
theorem ks_append (x : Int32) : ks 39 180 [.int x] := by
  intro w hw
  have hw2 := hw
  obtain ⟨B, L, S, hk, hx, hm, hh, hs, hr, ⟨n, hn, h1, h2, h3⟩, hl⟩ := hw2
  have ea : ∀ v, ai_Call 38 [.ref 175, .int x] (wl w) = some (some (.int 0), v) → ai_Call 39 [.ref 0, .int x] (wl w) = some (some (.int (-2)), v) := by
    intro v e
    simp only [e_39, o_0, r_39_0, r_39_1, r_39_4, r_39_5, r_39_8, r_39_11, r_39_12, r_39_15, r_39_18, r_39_21, r_39_23, Option.bind_some, Option.bind_none, Option.toList_some, Option.toList_none, List.cons_append, List.nil_append, Option.map_some, Option.map_none, eq_self, if_true, if_false, reduceIte, ai_bi_eq0, ai_bi_eq1, ai_pb_bi, ai_pb_0, ai_pb_1, f_0_7, e]
  by_cases c : ai_in3 x 32 126 = true
  · have c9 := c
    unfold ai_in3 at c9
    rw [decide_eq_true_eq] at c9
    by_cases c4 : n = 70
    · subst c4
      have e1 : ai_Call 38 [.ref 175, .int x] (wl w) = some (some (.int 0), wl w) := by
        simp only [e_38, o_175, r_38_0, r_38_1, r_38_3, r_38_6, r_38_7, r_38_9, r_38_12, r_38_13, r_38_16, r_38_18, r_38_21, r_38_22, r_38_23, r_38_24, r_38_27, r_38_28, r_38_31, r_38_32, r_38_35, r_38_36, r_38_37, r_38_40, r_38_41, r_38_42, r_38_45, r_38_46, Option.bind_some, Option.bind_none, Option.toList_some, Option.toList_none, List.cons_append, List.nil_append, Option.map_some, Option.map_none, eq_self, if_true, if_false, reduceIte, ai_bi_eq0, ai_bi_eq1, ai_pb_bi, ai_pb_0, ai_pb_1, c9.1, c9.2, f_175_3, h1, show ¬ nI 70 < 70 by decide]
      refine ⟨-2, w, w, ea _ e1, ?_, hw⟩
      simp only [e_180, o_185, r_180_0, r_180_1, r_180_3, r_180_5, r_180_8, r_180_11, r_180_12, r_180_15, r_180_17, r_180_20, r_180_22, r_180_23, r_180_24, r_180_27, r_180_28, r_180_31, r_180_32, r_180_33, r_180_34, r_180_35, r_180_38, r_180_39, r_180_40, r_180_43, r_180_44, r_180_47, Option.bind_some, Option.bind_none, Option.toList_some, Option.toList_none, List.cons_append, List.nil_append, Option.map_some, Option.map_none, eq_self, if_true, if_false, reduceIte, ai_bi_eq0, ai_bi_eq1, ai_pb_bi, ai_pb_0, ai_pb_1, m_isIn, c, Bool.true_eq_false, f_185_13, h2, show nI 70 = 70 from rfl]
    · have c5 : nI n < 70 := nI_lt (a := n) (b := 70) (by omega) (by decide)
      have c6 : ¬ nI n = 70 := fun q => c4 ((nI_eq (a := n) (b := 70) (by omega) (by decide)).mp q)
      have g1 := x_set_co w (show n < 70 by omega) x
      have g2 : ai_fget (wl (xw_wco w (upd (xw_co w) n x))) 175 9 3 = some (.int (nI n)) := by
        rw [f_175_3]
        exact congrArg (fun x => some (Value.int x)) h1
      have e1 : ai_Call 38 [.ref 175, .int x] (wl w) = some (some (.int 1), wl (xw_wtl (xw_wco w (upd (xw_co w) n x)) (nI (n + 1)))) := by
        simp only [e_38, o_175, r_38_0, r_38_1, r_38_3, r_38_6, r_38_7, r_38_9, r_38_12, r_38_13, r_38_16, r_38_18, r_38_21, r_38_22, r_38_23, r_38_24, r_38_27, r_38_28, r_38_31, r_38_32, r_38_35, r_38_36, r_38_37, r_38_40, r_38_41, r_38_42, r_38_45, r_38_46, Option.bind_some, Option.bind_none, Option.toList_some, Option.toList_none, List.cons_append, List.nil_append, Option.map_some, Option.map_none, eq_self, if_true, if_false, reduceIte, ai_bi_eq0, ai_bi_eq1, ai_pb_bi, ai_pb_0, ai_pb_1, c9.1, c9.2, f_175_0, f_175_3, h1, c5, g1, g2, nI_1, p_175_3]
      have g3 : ai_fget (wl (xw_wtl (xw_wco w (upd (xw_co w) n x)) (nI (n + 1)))) 175 9 3 = some (.int (nI (n + 1))) := f_175_3 _
      have e2 : ai_Call 26 [.ref 175] (wl (xw_wtl (xw_wco w (upd (xw_co w) n x)) (nI (n + 1)))) = some (some (.int (nI (n + 1))), wl (xw_wtl (xw_wco w (upd (xw_co w) n x)) (nI (n + 1)))) := by
        simp only [e_26, o_175, r_26_0, r_26_1, r_26_4, Option.bind_some, Option.bind_none, Option.toList_some, Option.toList_none, List.cons_append, List.nil_append, Option.map_some, Option.map_none, eq_self, if_true, if_false, reduceIte, ai_bi_eq0, ai_bi_eq1, ai_pb_bi, ai_pb_0, ai_pb_1, g3]
      have e3 : ai_Call 39 [.ref 0, .int x] (wl w) = some (some (.int (nI (n + 1))), wl (xw_wtl (xw_wco w (upd (xw_co w) n x)) (nI (n + 1)))) := by
        simp only [e_39, o_0, r_39_0, r_39_1, r_39_4, r_39_5, r_39_8, r_39_11, r_39_12, r_39_15, r_39_18, r_39_21, r_39_23, Option.bind_some, Option.bind_none, Option.toList_some, Option.toList_none, List.cons_append, List.nil_append, Option.map_some, Option.map_none, eq_self, if_true, if_false, reduceIte, ai_bi_eq0, ai_bi_eq1, ai_pb_bi, ai_pb_0, ai_pb_1, f_0_7, e1, show ¬ (1 : Int32) = 0 by decide, e2]
      generalize hw1 : xw_wtl (xw_wco w (upd (xw_co w) n x)) (nI (n + 1)) = w1 at e3
      have h2' : xm_td w1 = nI n := by rw [← hw1]; exact h2
      have k1 := ms_tape w1 (show n < 70 by omega) x
      have k2 : ai_fget (wl (xm_wtape w1 (upd (xm_tape w1) n x))) 185 11 13 = some (.int (nI n)) := by
        rw [f_185_13]
        exact congrArg (fun x => some (Value.int x)) h2'
      have k0 : ai_fget (wl w1) 185 11 13 = some (.int (nI n)) := by rw [f_185_13, h2']
      have k3 : ai_fget (wl (xm_wtd (xm_wtape w1 (upd (xm_tape w1) n x)) (nI (n + 1)))) 185 11 13 = some (.int (nI (n + 1))) := f_185_13 _
      have e4 : ai_Call 180 [.ref 185, .int x] (wl w1) = some (some (.int (nI (n + 1))), wl (xm_wtd (xm_wtape w1 (upd (xm_tape w1) n x)) (nI (n + 1)))) := by
        simp only [e_180, o_185, r_180_0, r_180_1, r_180_3, r_180_5, r_180_8, r_180_11, r_180_12, r_180_15, r_180_17, r_180_20, r_180_22, r_180_23, r_180_24, r_180_27, r_180_28, r_180_31, r_180_32, r_180_33, r_180_34, r_180_35, r_180_38, r_180_39, r_180_40, r_180_43, r_180_44, r_180_47, Option.bind_some, Option.bind_none, Option.toList_some, Option.toList_none, List.cons_append, List.nil_append, Option.map_some, Option.map_none, eq_self, if_true, if_false, reduceIte, ai_bi_eq0, ai_bi_eq1, ai_pb_bi, ai_pb_0, ai_pb_1, m_isIn, c, Bool.true_eq_false, k0, c6, f_185_11, k1, k2, nI_1, p_185_13, k3]
      refine ⟨_, _, _, e3, e4, ?_⟩
      rw [← hw1]
      refine ⟨B, L, S, hk, hx, hm, hh, kr_s_of hs rfl rfl rfl rfl, hr, ⟨n + 1, by omega, rfl, rfl, fun j hj => ?_⟩, hl⟩
      show upd (xw_co w) n x j = upd (xm_tape w) n x j ∧ ∃ c, 32 ≤ c ∧ c ≤ 126 ∧ upd (xm_tape w) n x j = nI c
      by_cases z : j = n
      · rw [z, upd_at, upd_at]
        refine ⟨rfl, ?_⟩
        have x0 : ¬ x < 0 := fun q => c9.1 (Int32.lt_trans q (by decide))
        obtain ⟨i, hi, rfl⟩ := nI_of x0
        refine ⟨i, ?_, ?_, rfl⟩
        · rcases Nat.lt_or_ge i 32 with q | q
          · exact absurd (nI_lt (b := 32) q (by decide)) c9.1
          · exact q
        · rcases Nat.lt_or_ge 126 i with q | q
          · exact absurd (nI_lt (a := 126) q hi) c9.2
          · exact q
      · rw [upd_ne _ z, upd_ne _ z]
        exact h3 j (by omega)
  · have c' : ai_in3 x 32 126 = false := by simpa using c
    have e1 : ai_Call 38 [.ref 175, .int x] (wl w) = some (some (.int 0), wl w) := by
      unfold ai_in3 at c'
      rw [decide_eq_false_iff_not] at c'
      by_cases c1 : x < 32
      · simp only [e_38, o_175, r_38_0, r_38_1, r_38_3, r_38_6, r_38_7, r_38_9, r_38_12, r_38_13, r_38_16, r_38_18, r_38_21, r_38_22, r_38_23, r_38_24, r_38_27, r_38_28, r_38_31, r_38_32, r_38_35, r_38_36, r_38_37, r_38_40, r_38_41, r_38_42, r_38_45, r_38_46, Option.bind_some, Option.bind_none, Option.toList_some, Option.toList_none, List.cons_append, List.nil_append, Option.map_some, Option.map_none, eq_self, if_true, if_false, reduceIte, ai_bi_eq0, ai_bi_eq1, ai_pb_bi, ai_pb_0, ai_pb_1, c1]
      · have c2 : 126 < x := Classical.byContradiction fun z => c' ⟨c1, z⟩
        simp only [e_38, o_175, r_38_0, r_38_1, r_38_3, r_38_6, r_38_7, r_38_9, r_38_12, r_38_13, r_38_16, r_38_18, r_38_21, r_38_22, r_38_23, r_38_24, r_38_27, r_38_28, r_38_31, r_38_32, r_38_35, r_38_36, r_38_37, r_38_40, r_38_41, r_38_42, r_38_45, r_38_46, Option.bind_some, Option.bind_none, Option.toList_some, Option.toList_none, List.cons_append, List.nil_append, Option.map_some, Option.map_none, eq_self, if_true, if_false, reduceIte, ai_bi_eq0, ai_bi_eq1, ai_pb_bi, ai_pb_0, ai_pb_1, c1, c2]
    refine ⟨-2, w, w, ea _ e1, ?_, hw⟩
    simp only [e_180, o_185, r_180_0, r_180_1, r_180_3, r_180_5, r_180_8, r_180_11, r_180_12, r_180_15, r_180_17, r_180_20, r_180_22, r_180_23, r_180_24, r_180_27, r_180_28, r_180_31, r_180_32, r_180_33, r_180_34, r_180_35, r_180_38, r_180_39, r_180_40, r_180_43, r_180_44, r_180_47, Option.bind_some, Option.bind_none, Option.toList_some, Option.toList_none, List.cons_append, List.nil_append, Option.map_some, Option.map_none, eq_self, if_true, if_false, reduceIte, ai_bi_eq0, ai_bi_eq1, ai_pb_bi, ai_pb_0, ai_pb_1, m_isIn, c', Bool.false_eq_true]
