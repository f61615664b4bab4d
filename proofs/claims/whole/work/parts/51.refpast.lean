/-! The reference's past. -/
theorem t_189 (k : Nat) : (189 : Int32) * nI k = nI (189 * k) := pk_mul 189 k
theorem w_eq {f g : Nat → Int32} (h : ∀ j, j < 189 → f j = g j) : ai_t 189 f = ai_t 189 g := ai_t_congr h
theorem cpn_all (f g : Nat → Int32) : ai_t 189 (cpn f 0 0 0 189 g) = ai_t 189 f := w_eq (fun j hj => by
  rw [cpn_at, if_pos (by omega), show 0 + (j - 0) = j by omega])
section MB
variable {w : xw_W}
theorem m_cp_s_was (w : xw_W) : ai_Call 181 [.ref 186, .int 0, .ref 187, .int 0] (wl w) = some (none, wl (xm_wwas w (xm_s w))) := by
  have h := m_copies (x := 186) (y := 187) (b := 0) (a := 0) (by decide) (by decide) (by decide) (by decide) (by decide) (g_186 w) (g_187 w)
  rw [cpn_all, s_187] at h
  exact h
theorem m_cp_was_s (w : xw_W) : ai_Call 181 [.ref 187, .int 0, .ref 186, .int 0] (wl w) = some (none, wl (xm_ws w (xm_was w))) := by
  have h := m_copies (x := 187) (y := 186) (b := 0) (a := 0) (by decide) (by decide) (by decide) (by decide) (by decide) (g_187 w) (g_186 w)
  rw [cpn_all, s_186] at h
  exact h
theorem m_cp_s_saved (w : xw_W) : ai_Call 181 [.ref 186, .int 0, .ref 188, .int 0] (wl w) = some (none, wl (xm_wsaved w (xm_s w))) := by
  have h := m_copies (x := 186) (y := 188) (b := 0) (a := 0) (by decide) (by decide) (by decide) (by decide) (by decide) (g_186 w) (g_188 w)
  rw [cpn_all, s_188] at h
  exact h
theorem m_cp_saved_s (w : xw_W) : ai_Call 181 [.ref 188, .int 0, .ref 186, .int 0] (wl w) = some (none, wl (xm_ws w (xm_saved w))) := by
  have h := m_copies (x := 188) (y := 186) (b := 0) (a := 0) (by decide) (by decide) (by decide) (by decide) (by decide) (g_188 w) (g_186 w)
  rw [cpn_all, s_186] at h
  exact h
theorem m_cp_past_s (w : xw_W) {c : Nat} (hc : c < 8) : ai_Call 181 [.ref 189, .int (nI (189 * c)), .ref 186, .int 0] (wl w) = some (none, wl (xm_ws w (fun j => xm_past w (189 * c + j)))) := by
  have h := m_copies (x := 189) (y := 186) (b := 189 * c) (a := 0) (by decide) (by omega) (by decide) (by decide) (by decide) (g_189 w) (g_186 w)
  rw [show ai_t 189 (cpn (xm_past w) (189 * c) 0 0 189 (xm_s w)) = ai_t 189 (fun j => xm_past w (189 * c + j)) from w_eq (fun j hj => by rw [cpn_at, if_pos (by omega), show j - 0 = j by omega]), s_186] at h
  exact h
theorem m_cp_was_past (w : xw_W) {c : Nat} (hc : c < 8) : ai_Call 181 [.ref 187, .int 0, .ref 189, .int (nI (189 * c))] (wl w) = some (none, wl (xm_wpast w (cpn (xm_was w) 0 (189 * c) 0 189 (xm_past w)))) := by
  have h := m_copies (x := 187) (y := 189) (b := 0) (a := 189 * c) (by decide) (by decide) (by omega) (by decide) (by decide) (g_187 w) (g_189 w)
  rw [s_189] at h
  exact h
theorem m_cp_past_past (w : xw_W) {c : Nat} (hc : c < 7) : ai_Call 181 [.ref 189, .int (nI (189 * (c + 1))), .ref 189, .int (nI (189 * c))] (wl w) = some (none, wl (xm_wpast w (cps (189 * (c + 1)) (189 * c) 0 189 (xm_past w)))) := by
  have h := m_copiesS (y := 189) (b := 189 * (c + 1)) (a := 189 * c) (by omega) (by omega) (by decide) (g_189 w)
  rw [s_189] at h
  exact h
theorem m_keeps (w : xw_W) : ai_Call 182 [.ref 185] (wl w) = some (none, wl (xm_wwas w (xm_s w))) := by
  simp only [e_182, o_185, r_182_0, r_182_1, r_182_4, r_182_5, r_182_6, r_182_9, r_182_10, r_182_13, Option.bind_some, Option.bind_none, Option.toList_some, Option.toList_none, List.cons_append, List.nil_append, Option.map_some, Option.map_none, eq_self, if_true, if_false, reduceIte, ai_bi_eq0, ai_bi_eq1, ai_pb_bi, ai_pb_0, ai_pb_1, f_185_0, f_185_1, m_cp_s_was]
theorem m_save (w : xw_W) {B : kb_B} (h : kb_m (xm_s w) B) : ai_Call 253 [.ref 185] (wl w) = some (some (.int (nI (kb_n B))), wl (xm_wis (xm_wsaved w (xm_s w)) 1)) := by
  have e : ai_aget (wl (xm_wis (xm_wsaved w (xm_s w)) 1)) 186 0 = some (nI (kb_n B)) := by
    rw [mg_0]
    exact congrArg some h.1
  simp only [e_253, o_185, r_253_0, r_253_1, r_253_4, r_253_5, r_253_6, r_253_9, r_253_10, r_253_13, r_253_14, r_253_15, r_253_18, r_253_19, r_253_22, r_253_23, r_253_24, Option.bind_some, Option.bind_none, Option.toList_some, Option.toList_none, List.cons_append, List.nil_append, Option.map_some, Option.map_none, eq_self, if_true, if_false, reduceIte, ai_bi_eq0, ai_bi_eq1, ai_pb_bi, ai_pb_0, ai_pb_1, f_185_0, f_185_2, m_cp_s_saved, p_185_8 _ 1 ai_pb_1, e]
theorem m_restore0 (h : xm_is w = 0) : ai_Call 251 [.ref 185] (wl w) = some (some (.int (-4)), wl w) := by
  simp only [e_251, o_185, r_251_0, r_251_1, r_251_4, r_251_7, r_251_9, r_251_10, r_251_11, r_251_14, r_251_15, r_251_16, r_251_19, r_251_20, r_251_23, r_251_24, r_251_25, r_251_28, r_251_29, r_251_32, r_251_33, r_251_34, Option.bind_some, Option.bind_none, Option.toList_some, Option.toList_none, List.cons_append, List.nil_append, Option.map_some, Option.map_none, eq_self, if_true, if_false, reduceIte, ai_bi_eq0, ai_bi_eq1, ai_pb_bi, ai_pb_0, ai_pb_1, f_185_8, h]
theorem m_restore {B : kb_B} (h : xm_is w = 1) (hs : kb_m (xm_saved w) B) : ai_Call 251 [.ref 185] (wl w) = some (some (.int (nI (kb_n B))), wl (xm_wch (xm_ws w (xm_saved w)) 0)) := by
  have e : ai_aget (wl (xm_wch (xm_ws w (xm_saved w)) 0)) 186 0 = some (nI (kb_n B)) := by
    rw [mg_0]
    exact congrArg some hs.1
  simp only [e_251, o_185, r_251_0, r_251_1, r_251_4, r_251_7, r_251_9, r_251_10, r_251_11, r_251_14, r_251_15, r_251_16, r_251_19, r_251_20, r_251_23, r_251_24, r_251_25, r_251_28, r_251_29, r_251_32, r_251_33, r_251_34, Option.bind_some, Option.bind_none, Option.toList_some, Option.toList_none, List.cons_append, List.nil_append, Option.map_some, Option.map_none, eq_self, if_true, if_false, reduceIte, ai_bi_eq0, ai_bi_eq1, ai_pb_bi, ai_pb_0, ai_pb_1, f_185_0, f_185_2, f_185_8, h, show ¬ (1 : Int32) = 0 by decide, m_cp_saved_s, p_185_4, e]
theorem m_undo0 (h : xm_ch w = 0) : ai_Call 267 [.ref 185] (wl w) = some (some (.int (-4)), wl w) := by
  simp only [e_267, o_185, r_267_0, r_267_1, r_267_4, r_267_7, r_267_9, r_267_10, r_267_11, r_267_12, r_267_15, r_267_16, r_267_17, r_267_20, r_267_21, r_267_24, r_267_27, r_267_28, r_267_31, r_267_32, r_267_33, r_267_36, r_267_37, r_267_40, r_267_41, r_267_44, Option.bind_some, Option.bind_none, Option.toList_some, Option.toList_none, List.cons_append, List.nil_append, Option.map_some, Option.map_none, eq_self, if_true, if_false, reduceIte, ai_bi_eq0, ai_bi_eq1, ai_pb_bi, ai_pb_0, ai_pb_1, f_185_4, h]
theorem m_undo {m : Nat} (hm : m < 8) (h : xm_ch w = nI (m + 1)) : ai_Call 267 [.ref 185] (wl w) = some (some (.int (nI m)), wl (xm_ws (xm_wch w (nI m)) (fun j => xm_past w (189 * m + j)))) := by
  have c0 : ¬ nI (m + 1) = 0 := fun q => by
    have := (nI_eq (a := m + 1) (b := 0) (by omega) (by decide)).mp q
    omega
  have e1 : ai_fget (wl w) 185 11 4 = some (.int (nI (m + 1))) := by rw [f_185_4, h]
  have e2 : ai_fget (wl (xm_wch w (nI m))) 185 11 4 = some (.int (nI m)) := f_185_4 _
  have e3 := m_cp_past_s (xm_wch w (nI m)) hm
  have e4 : ai_fget (wl (xm_ws (xm_wch w (nI m)) (fun j => xm_past w (189 * m + j)))) 185 11 4 = some (.int (nI m)) := f_185_4 _
  simp only [e_267, o_185, r_267_0, r_267_1, r_267_4, r_267_7, r_267_9, r_267_10, r_267_11, r_267_12, r_267_15, r_267_16, r_267_17, r_267_20, r_267_21, r_267_24, r_267_27, r_267_28, r_267_31, r_267_32, r_267_33, r_267_36, r_267_37, r_267_40, r_267_41, r_267_44, Option.bind_some, Option.bind_none, Option.toList_some, Option.toList_none, List.cons_append, List.nil_append, Option.map_some, Option.map_none, eq_self, if_true, if_false, reduceIte, ai_bi_eq0, ai_bi_eq1, ai_pb_bi, ai_pb_0, ai_pb_1, e1, c0, s_1, p_185_4, e2, f_185_3, f_185_0, t_189, e3, e4]
def shn : Nat → Nat → (Nat → Int32) → (Nat → Int32)
  | _, 0, g => g
  | k, n + 1, g => shn (k + 1) n (cps (189 * (k + 1)) (189 * k) 0 189 g)
theorem shn_at : ∀ n k g j, shn k n g j = if 189 * k ≤ j ∧ j < 189 * (k + n) then g (j + 189) else g j := by
  intro n
  induction n with
  | zero =>
    intro k g j
    rw [shn, if_neg (by omega)]
  | succ n ih =>
    intro k g j
    have e := cps_at (189 * (k + 1)) (189 * k) (by omega) 189 0 g
    rw [shn, ih]
    by_cases y : 189 * (k + 1) ≤ j ∧ j < 189 * (k + 1 + n)
    · rw [if_pos y, if_pos (by omega), e (j + 189) (by omega), if_neg (by omega)]
    · rw [if_neg y, e j (by omega)]
      by_cases z : 189 * k + 0 ≤ j ∧ j < 189 * k + 0 + 189
      · rw [if_pos z, if_pos (by omega), show 189 * (k + 1) + (j - 189 * k) = j + 189 by omega]
      · rw [if_neg z, if_neg (by omega)]
theorem m_changed8 (h : xm_ch w = 8) : ai_Call 186 [.ref 185] (wl w) = some (none, wl (xm_wch (xm_wpast w (cpn (xm_was w) 0 (189 * 7) 0 189 (shn 0 7 (xm_past w)))) 8)) := by
  have loop : ∀ n k g, k + n = 7 → ai_Run 186 11 [.ref 185, .int (nI (k + 1))] [] (wl (xm_wpast w g)) = ai_Run 186 11 [.ref 185, .int (nI 8)] [] (wl (xm_wpast w (shn k n g))) := by
    intro n
    induction n with
    | zero =>
      intro k g hk
      rw [shn, show k + 1 = 8 by omega]
    | succ n ih =>
      intro k g hk
      have c : nI (k + 1) < 8 := nI_lt (a := k + 1) (b := 8) (by omega) (by decide)
      have e := m_cp_past_past (xm_wpast w g) (show k < 7 by omega)
      rw [r_186_11, shn, ← ih (k + 1) _ (by omega)]
      simp only [r_186_0, r_186_1, r_186_4, r_186_6, r_186_9, r_186_10, r_186_12, r_186_14, r_186_17, r_186_18, r_186_21, r_186_24, r_186_25, r_186_26, r_186_27, r_186_30, r_186_33, r_186_34, r_186_35, r_186_36, r_186_37, r_186_40, r_186_43, r_186_46, r_186_47, r_186_48, r_186_51, r_186_52, r_186_53, r_186_56, r_186_57, r_186_60, r_186_61, r_186_62, r_186_65, r_186_68, r_186_69, r_186_72, r_186_73, r_186_76, r_186_77, r_186_78, r_186_81, r_186_82, r_186_83, r_186_86, Option.bind_some, Option.bind_none, Option.toList_some, Option.toList_none, List.cons_append, List.nil_append, Option.map_some, Option.map_none, eq_self, if_true, if_false, reduceIte, ai_bi_eq0, ai_bi_eq1, ai_pb_bi, ai_pb_0, ai_pb_1, c, f_185_3, t_189, s_1, e, nI_1]
  have u := loop 7 0 (xm_past w) (by omega)
  have e1 : ai_fget (wl w) 185 11 4 = some (.int 8) := by rw [f_185_4, h]
  have fin : ∀ g, ai_Run 186 11 [.ref 185, .int (nI 8)] [] (wl (xm_wpast w g)) = some (none, wl (xm_wch (xm_wpast w (cpn (xm_was w) 0 (189 * 7) 0 189 g)) 8)) := by
    intro g
    have e2 : ai_fget (wl (xm_wpast w g)) 185 11 4 = some (.int 8) := by rw [f_185_4]; exact congrArg (fun x => some (Value.int x)) h
    have e3 : ai_fget (wl (xm_wch (xm_wpast w g) 7)) 185 11 4 = some (.int 7) := f_185_4 _
    have e4 := m_cp_was_past (xm_wch (xm_wpast w g) 7) (show 7 < 8 by decide)
    have e5 : ai_fget (wl (xm_wpast (xm_wch (xm_wpast w g) 7) (cpn (xm_was w) 0 (189 * 7) 0 189 g))) 185 11 4 = some (.int 7) := f_185_4 _
    have e6 : (189 : Int32) * 7 = nI (189 * 7) := by decide
    rw [r_186_11]
    simp only [r_186_0, r_186_1, r_186_4, r_186_6, r_186_9, r_186_10, r_186_12, r_186_14, r_186_17, r_186_18, r_186_21, r_186_24, r_186_25, r_186_26, r_186_27, r_186_30, r_186_33, r_186_34, r_186_35, r_186_36, r_186_37, r_186_40, r_186_43, r_186_46, r_186_47, r_186_48, r_186_51, r_186_52, r_186_53, r_186_56, r_186_57, r_186_60, r_186_61, r_186_62, r_186_65, r_186_68, r_186_69, r_186_72, r_186_73, r_186_76, r_186_77, r_186_78, r_186_81, r_186_82, r_186_83, r_186_86, Option.bind_some, Option.bind_none, Option.toList_some, Option.toList_none, List.cons_append, List.nil_append, Option.map_some, Option.map_none, eq_self, if_true, if_false, reduceIte, ai_bi_eq0, ai_bi_eq1, ai_pb_bi, ai_pb_0, ai_pb_1, show ¬ nI 8 < 8 by decide, e2, show (8 : Int32) - 1 = 7 by decide, p_185_4, e3, f_185_1, f_185_3, e6, e4, e5, show (7 : Int32) + 1 = 8 by decide]
  simp only [e_186, o_185, r_186_0, r_186_1, r_186_4, r_186_6, r_186_9, r_186_10, r_186_12, r_186_14, r_186_17, r_186_18, r_186_21, r_186_24, r_186_25, r_186_26, r_186_27, r_186_30, r_186_33, r_186_34, r_186_35, r_186_36, r_186_37, r_186_40, r_186_43, r_186_46, r_186_47, r_186_48, r_186_51, r_186_52, r_186_53, r_186_56, r_186_57, r_186_60, r_186_61, r_186_62, r_186_65, r_186_68, r_186_69, r_186_72, r_186_73, r_186_76, r_186_77, r_186_78, r_186_81, r_186_82, r_186_83, r_186_86, Option.bind_some, Option.bind_none, Option.toList_some, Option.toList_none, List.cons_append, List.nil_append, Option.map_some, Option.map_none, eq_self, if_true, if_false, reduceIte, ai_bi_eq0, ai_bi_eq1, ai_pb_bi, ai_pb_0, ai_pb_1, e1]
  exact u.trans (fin _)
theorem m_changed {m : Nat} (hm : m < 8) (h : xm_ch w = nI m) : ai_Call 186 [.ref 185] (wl w) = some (none, wl (xm_wch (xm_wpast w (cpn (xm_was w) 0 (189 * m) 0 189 (xm_past w))) (nI (m + 1)))) := by
  have c : ¬ nI m = 8 := fun q => by
    have := (nI_eq (a := m) (b := 8) (by omega) (by decide)).mp q
    omega
  have e1 : ai_fget (wl w) 185 11 4 = some (.int (nI m)) := by rw [f_185_4, h]
  have e4 := m_cp_was_past w hm
  have e5 : ai_fget (wl (xm_wpast w (cpn (xm_was w) 0 (189 * m) 0 189 (xm_past w)))) 185 11 4 = some (.int (nI m)) := by
    rw [f_185_4]
    exact congrArg (fun x => some (Value.int x)) h
  simp only [e_186, o_185, r_186_0, r_186_1, r_186_4, r_186_6, r_186_9, r_186_10, r_186_12, r_186_14, r_186_17, r_186_18, r_186_21, r_186_24, r_186_25, r_186_26, r_186_27, r_186_30, r_186_33, r_186_34, r_186_35, r_186_36, r_186_37, r_186_40, r_186_43, r_186_46, r_186_47, r_186_48, r_186_51, r_186_52, r_186_53, r_186_56, r_186_57, r_186_60, r_186_61, r_186_62, r_186_65, r_186_68, r_186_69, r_186_72, r_186_73, r_186_76, r_186_77, r_186_78, r_186_81, r_186_82, r_186_83, r_186_86, Option.bind_some, Option.bind_none, Option.toList_some, Option.toList_none, List.cons_append, List.nil_append, Option.map_some, Option.map_none, eq_self, if_true, if_false, reduceIte, ai_bi_eq0, ai_bi_eq1, ai_pb_bi, ai_pb_0, ai_pb_1, e1, c, f_185_1, f_185_3, t_189, e4, e5, nI_1, p_185_4]
end MB
