/-! Lines on both sides: what a line holds is told by its cells; all other cells stay. -/
def xo (w : xw_W) := ((xw_b w, xw_ky w, xw_rn w, xw_rr w, xw_rd w, xw_rc w, xw_hi w, xw_sn w, xw_hn w, xw_hm w, xw_hs w, xw_co w, xw_ki w, xw_ar w, xw_tl w, xw_tc w, xw_tp w, xw_tg w), w.2)
def mo (w : xw_W) := (w.1, (xm_s w, xm_was w, xm_saved w, xm_past w, xm_ch w, xm_re w, xm_de w, xm_at w, xm_is w, xm_tape w, xm_cmds w, xm_td w, xm_he w, xm_cm w))
def xl (w : xw_W) (l : List Int32) (w1 : xw_W) : Prop := xo w1 = xo w ∧ xw_ll w1 = nI l.length ∧ l.length ≤ 40 ∧ ∀ j v, l[j]? = some v → xw_li w1 j = v
def ml (w : xw_W) (l : List Int32) (w1 : xw_W) : Prop := mo w1 = mo w ∧ xm_ll w1 = nI l.length ∧ l.length ≤ 40 ∧ ∀ j v, l[j]? = some v → xm_line w1 j = v
theorem xo_w (w : xw_W) (f : Nat → Int32) (n : Int32) : xo (xw_wll (xw_wli w f) n) = xo w := rfl
theorem mo_w (w : xw_W) (f : Nat → Int32) (n : Int32) : mo (xm_wll (xm_wline w f) n) = mo w := rfl
theorem xo_b {w w1 : xw_W} (h : xo w1 = xo w) : xw_b w1 = xw_b w := congrArg (fun x => x.1.1) h
theorem mo_s {w w1 : xw_W} (h : mo w1 = mo w) : xm_s w1 = xm_s w := congrArg (fun x => x.2.1) h
theorem l_snoc {f : Nat → Int32} {l : List Int32} {c : Int32} (h : ∀ j v, l[j]? = some v → f j = v) : ∀ j v, (l ++ [c])[j]? = some v → upd f l.length c j = v := by
  intro j v hj
  rcases Nat.lt_trichotomy j l.length with z | z | z
  · rw [List.getElem?_append_left z] at hj
    rw [upd_ne _ (by omega)]
    exact h j v hj
  · subst z
    rw [upd_at]
    simpa using hj
  · rw [List.getElem?_eq_none (by rw [List.length_append, List.length_singleton]; omega)] at hj
    exact absurd hj (by simp)
theorem x_put {w w1 : xw_W} {l : List Int32} (h : xl w l w1) (hl : l.length < 40) (c : Int32) : ∃ w2, ai_Call 30 [.ref 182, .int c] (wl w1) = some (none, wl w2) ∧ xl w (l ++ [c]) w2 := by
  obtain ⟨h1, h2, h40, h3⟩ := h
  have c1 : nI l.length < 40 := nI_lt (a := l.length) (b := 40) hl (by decide)
  have e1 := x_set_li w1 hl c
  have e2 : ai_fget (wl (xw_wli w1 (upd (xw_li w1) l.length c))) 182 6 1 = some (.int (nI l.length)) := by
    rw [f_182_1]
    exact congrArg (fun x => some (Value.int x)) h2
  refine ⟨xw_wll (xw_wli w1 (upd (xw_li w1) l.length c)) (nI (l.length + 1)), ?_, (xo_w _ _ _).trans h1, ?_, ?_, l_snoc h3⟩
  · simp only [e_30, o_182, r_30_0, r_30_1, r_30_4, r_30_6, r_30_9, r_30_10, r_30_13, r_30_14, r_30_17, r_30_18, r_30_21, r_30_22, r_30_23, r_30_26, r_30_27, r_30_28, r_30_31, Option.bind_some, Option.bind_none, Option.toList_some, Option.toList_none, List.cons_append, List.nil_append, Option.map_some, Option.map_none, eq_self, if_true, if_false, reduceIte, ai_bi_eq0, ai_bi_eq1, ai_pb_bi, ai_pb_0, ai_pb_1, f_182_0, f_182_1, h2, c1, e1, e2, nI_1, p_182_1]
  · rw [List.length_append, List.length_singleton]
  · rw [List.length_append, List.length_singleton]; omega
theorem x_lclear (w : xw_W) : ∃ w2, ai_Call 153 [.ref 182] (wl w) = some (none, wl w2) ∧ xl w [] w2 := by
  refine ⟨xw_wll w 0, ?_, rfl, rfl, by decide, fun j v hj => absurd hj (by simp)⟩
  simp only [e_153, o_182, r_153_0, r_153_1, r_153_2, r_153_5, Option.bind_some, Option.bind_none, Option.toList_some, Option.toList_none, List.cons_append, List.nil_append, Option.map_some, Option.map_none, eq_self, if_true, if_false, reduceIte, ai_bi_eq0, ai_bi_eq1, ai_pb_bi, ai_pb_0, ai_pb_1, p_182_1]
theorem x_lsize {w w1 : xw_W} {l : List Int32} (h : xl w l w1) : ai_Call 154 [.ref 182] (wl w1) = some (some (.int (nI l.length)), wl w1) := by
  simp only [e_154, o_182, r_154_0, r_154_1, r_154_4, Option.bind_some, Option.bind_none, Option.toList_some, Option.toList_none, List.cons_append, List.nil_append, Option.map_some, Option.map_none, eq_self, if_true, if_false, reduceIte, ai_bi_eq0, ai_bi_eq1, ai_pb_bi, ai_pb_0, ai_pb_1, f_182_1, h.2.1]
theorem ms_line (w : xw_W) {j : Nat} (hj : j < 50) (x : Int32) : ai_aset (wl w) 190 (nI j) x = some (wl (xm_wline w (upd (xm_line w) j x))) := by
  rw [as_190, ai_ix_nI hj (by decide)]
  rfl
theorem m_put {w w1 : xw_W} {l : List Int32} (h : ml w l w1) (hl : l.length < 40) (c : Int32) : ∃ w2, ai_Call 244 [.ref 185, .int c] (wl w1) = some (none, wl w2) ∧ ml w (l ++ [c]) w2 := by
  obtain ⟨h1, h2, h40, h3⟩ := h
  have e1 := ms_line w1 (show l.length < 50 by omega) c
  have e2 : ai_fget (wl (xm_wline w1 (upd (xm_line w1) l.length c))) 185 11 10 = some (.int (nI l.length)) := by
    rw [f_185_10]
    exact congrArg (fun x => some (Value.int x)) h2
  refine ⟨xm_wll (xm_wline w1 (upd (xm_line w1) l.length c)) (nI (l.length + 1)), ?_, (mo_w _ _ _).trans h1, ?_, ?_, l_snoc h3⟩
  · simp only [e_244, o_185, r_244_0, r_244_1, r_244_4, r_244_5, r_244_8, r_244_9, r_244_10, r_244_11, r_244_12, r_244_15, r_244_16, r_244_17, r_244_20, Option.bind_some, Option.bind_none, Option.toList_some, Option.toList_none, List.cons_append, List.nil_append, Option.map_some, Option.map_none, eq_self, if_true, if_false, reduceIte, ai_bi_eq0, ai_bi_eq1, ai_pb_bi, ai_pb_0, ai_pb_1, f_185_9, f_185_10, h2, e1, e2, nI_1, p_185_10]
  · rw [List.length_append, List.length_singleton]
  · rw [List.length_append, List.length_singleton]; omega
theorem m_lclear (w : xw_W) : ai_fput (wl w) 185 11 10 (.int 0) = some (wl (xm_wll w 0)) ∧ ml w [] (xm_wll w 0) := ⟨p_185_10 _ _, rfl, rfl, by decide, fun j v hj => absurd hj (by simp)⟩
/-- the digits of a number below 100 -/
def nl (v : Nat) : List Int32 := if v < 10 then [nI (48 + v)] else [nI (48 + v / 10), nI (48 + v % 10)]
theorem nl_len (v : Nat) : (nl v).length ≤ 2 ∧ 1 ≤ (nl v).length := by unfold nl; split <;> simp
theorem nl_10 {v : Nat} (h : v < 10) : nl v = [nI (48 + v)] := if_pos h
theorem a_48 (k : Nat) : (48 : Int32) + nI k = nI (48 + k) := nI_add 48 k
theorem x_num {w w1 : xw_W} {l : List Int32} (h : xl w l w1) {v : Nat} (hv : v < 100) (hl : l.length + 2 ≤ 40) : ∃ w2, ai_Call 31 [.ref 182, .int (nI v)] (wl w1) = some (none, wl w2) ∧ xl w (l ++ nl v) w2 := by
  have ed : nI v / 10 = nI (v / 10) := pk_div (d := 10) (by omega) (by decide) (by decide)
  have er : nI v - nI (v / 10) * 10 = nI (v % 10) := by rw [← ed]; exact pk_rem (d := 10) (by omega) (by decide) (by decide)
  have ed2 : nI (v / 10) / 10 = nI (v / 10 / 10) := pk_div (d := 10) (by omega) (by decide) (by decide)
  have er2 : nI (v / 10) - nI (v / 10 / 10) * 10 = nI (v / 10 % 10) := by rw [← ed2]; exact pk_rem (d := 10) (by omega) (by decide) (by decide)
  unfold nl
  by_cases c : v < 10
  · have c1 : ¬ 9 < nI v := nI_nlt (a := 9) (by omega) (by decide)
    rw [if_pos c]
    obtain ⟨w2, e2, h2⟩ := x_put h (by omega) (nI (48 + v))
    have ev : v % 10 = v := by omega
    rw [ev] at er
    refine ⟨w2, ?_, h2⟩
    simp only [e_31, o_182, r_31_0, r_31_1, r_31_3, r_31_6, r_31_7, r_31_9, r_31_10, r_31_12, r_31_13, r_31_15, r_31_16, r_31_17, r_31_20, r_31_21, r_31_23, r_31_24, r_31_26, r_31_27, r_31_28, r_31_31, Option.bind_some, Option.bind_none, Option.toList_some, Option.toList_none, List.cons_append, List.nil_append, Option.map_some, Option.map_none, eq_self, if_true, if_false, reduceIte, ai_bi_eq0, ai_bi_eq1, ai_pb_bi, ai_pb_0, ai_pb_1, c1, ed, er, a_48, e2]
  · have c1 : 9 < nI v := nI_lt (a := 9) (by omega) (by omega)
    rw [if_neg c]
    obtain ⟨w2, e2, h2⟩ := x_put h (by omega) (nI (48 + v / 10))
    obtain ⟨w3, e3, h3⟩ := x_put h2 (by rw [List.length_append, List.length_singleton]; omega) (nI (48 + v % 10))
    have ev : v / 10 % 10 = v / 10 := by omega
    rw [ev] at er2
    refine ⟨w3, ?_, by simpa using h3⟩
    simp only [e_31, o_182, r_31_0, r_31_1, r_31_3, r_31_6, r_31_7, r_31_9, r_31_10, r_31_12, r_31_13, r_31_15, r_31_16, r_31_17, r_31_20, r_31_21, r_31_23, r_31_24, r_31_26, r_31_27, r_31_28, r_31_31, Option.bind_some, Option.bind_none, Option.toList_some, Option.toList_none, List.cons_append, List.nil_append, Option.map_some, Option.map_none, eq_self, if_true, if_false, reduceIte, ai_bi_eq0, ai_bi_eq1, ai_pb_bi, ai_pb_0, ai_pb_1, c1, ed, ed2, er, er2, a_48, e2, e3]
theorem m_num0 {w w1 : xw_W} {l : List Int32} (h : ml w l w1) {v : Nat} (hv : v < 10) (hl : l.length + 1 ≤ 40) : ∃ w2, ai_Call 245 [.ref 185, .int (nI v)] (wl w1) = some (none, wl w2) ∧ ml w (l ++ [nI (48 + v)]) w2 := by
  have ed : nI v / 10 = nI (v / 10) := pk_div (d := 10) (by omega) (by decide) (by decide)
  have er : nI v - nI (v / 10) * 10 = nI (v % 10) := by rw [← ed]; exact pk_rem (d := 10) (by omega) (by decide) (by decide)
  have c1 : nI v < 10 := nI_lt (b := 10) (by omega) (by decide)
  obtain ⟨w2, e2, h2⟩ := m_put h (by omega) (nI (48 + v))
  have ev : v % 10 = v := by omega
  rw [ev] at er
  refine ⟨w2, ?_, h2⟩
  simp only [e_245, o_185, r_245_0, r_245_1, r_245_3, r_245_6, r_245_7, r_245_8, r_245_10, r_245_14, r_245_15, r_245_17, r_245_18, r_245_20, r_245_21, r_245_22, r_245_25, Option.bind_some, Option.bind_none, Option.toList_some, Option.toList_none, List.cons_append, List.nil_append, Option.map_some, Option.map_none, eq_self, if_true, if_false, reduceIte, ai_bi_eq0, ai_bi_eq1, ai_pb_bi, ai_pb_0, ai_pb_1, c1, ed, er, a_48, e2]
theorem m_num {w w1 : xw_W} {l : List Int32} (h : ml w l w1) {v : Nat} (hv : v < 100) (hl : l.length + 2 ≤ 40) : ∃ w2, ai_Call 246 [.ref 185, .int (nI v)] (wl w1) = some (none, wl w2) ∧ ml w (l ++ nl v) w2 := by
  have ed : nI v / 10 = nI (v / 10) := pk_div (d := 10) (by omega) (by decide) (by decide)
  have er : nI v - nI (v / 10) * 10 = nI (v % 10) := by rw [← ed]; exact pk_rem (d := 10) (by omega) (by decide) (by decide)
  unfold nl
  by_cases c : v < 10
  · have c1 : nI v < 10 := nI_lt (b := 10) (by omega) (by decide)
    rw [if_pos c]
    obtain ⟨w2, e2, h2⟩ := m_put h (by omega) (nI (48 + v))
    have ev : v % 10 = v := by omega
    rw [ev] at er
    refine ⟨w2, ?_, h2⟩
    simp only [e_246, o_185, r_246_0, r_246_1, r_246_3, r_246_6, r_246_7, r_246_8, r_246_10, r_246_11, r_246_14, r_246_15, r_246_17, r_246_18, r_246_20, r_246_21, r_246_22, r_246_25, Option.bind_some, Option.bind_none, Option.toList_some, Option.toList_none, List.cons_append, List.nil_append, Option.map_some, Option.map_none, eq_self, if_true, if_false, reduceIte, ai_bi_eq0, ai_bi_eq1, ai_pb_bi, ai_pb_0, ai_pb_1, c1, ed, er, a_48, e2]
  · have c1 : ¬ nI v < 10 := nI_nlt (b := 10) (by omega) (by omega)
    rw [if_neg c]
    obtain ⟨w2, e2, h2⟩ := m_num0 h (v := v / 10) (by omega) (by omega)
    obtain ⟨w3, e3, h3⟩ := m_put h2 (by rw [List.length_append, List.length_singleton]; omega) (nI (48 + v % 10))
    refine ⟨w3, ?_, by simpa using h3⟩
    simp only [e_246, o_185, r_246_0, r_246_1, r_246_3, r_246_6, r_246_7, r_246_8, r_246_10, r_246_11, r_246_14, r_246_15, r_246_17, r_246_18, r_246_20, r_246_21, r_246_22, r_246_25, Option.bind_some, Option.bind_none, Option.toList_some, Option.toList_none, List.cons_append, List.nil_append, Option.map_some, Option.map_none, eq_self, if_true, if_false, reduceIte, ai_bi_eq0, ai_bi_eq1, ai_pb_bi, ai_pb_0, ai_pb_1, c1, ed, er, a_48, e2, e3]
theorem kr_h_of {w w2 : xw_W} {L : List kb_B} (h : kr_h w L) (e1 : xw_hm w2 = xw_hm w) (e2 : xm_ch w2 = xm_ch w) (e3 : xw_hn w2 = xw_hn w) (e4 : xw_hi w2 = xw_hi w) (e5 : xm_past w2 = xm_past w) : kr_h w2 L := by
  unfold kr_h at h ⊢
  rw [e1, e2, e3, e4, e5]
  exact h
theorem kr_r_of {w w2 : xw_W} (h : kr_r w) (e1 : xw_rr w2 = xw_rr w) (e2 : xw_rd w2 = xw_rd w) (e3 : xw_rc w2 = xw_rc w) (e4 : xm_re w2 = xm_re w) (e5 : xm_de w2 = xm_de w) (e6 : xm_at w2 = xm_at w) : kr_r w2 := by
  unfold kr_r at h ⊢
  rw [e1, e2, e3, e4, e5, e6]
  exact h
theorem kr_t_of {w w2 : xw_W} (h : kr_t w) (e1 : xw_tl w2 = xw_tl w) (e2 : xm_td w2 = xm_td w) (e3 : xw_co w2 = xw_co w) (e4 : xm_tape w2 = xm_tape w) : kr_t w2 := by
  unfold kr_t at h ⊢
  rw [e1, e2, e3, e4]
  exact h
theorem kr_line {w w1 w2 : xw_W} {l : List Int32} (hw : kr w) (h1 : xl w l w1) (h2 : ml w1 l w2) : kr w2 := by
  obtain ⟨B, L, S, hk, hx, hm, hh, hs, hr, ht, hl⟩ := hw
  obtain ⟨a1, a2, a3, a4⟩ := h1
  obtain ⟨b1, b2, b3, b4⟩ := h2
  have eX : w2.1 = w1.1 := congrArg (fun x => x.1) b1
  have eM : w1.2 = w.2 := congrArg (fun x => x.2) a1
  have x1 : xw_b w2 = xw_b w := (congrArg (fun x => x.1) eX).trans (congrArg (fun x => x.1.1) a1)
  have m1 : xm_s w2 = xm_s w := (mo_s b1).trans (congrArg (fun x => x.1) eM)
  refine ⟨B, L, S, hk, by rw [x1]; exact hx, by rw [m1]; exact hm, kr_h_of hh ?_ ?_ ?_ ?_ ?_, kr_s_of hs ?_ ?_ ?_ ?_, kr_r_of hr ?_ ?_ ?_ ?_ ?_ ?_, kr_t_of ht ?_ ?_ ?_ ?_, l.length, a3, ?_, b2, ?_⟩
  · exact (congrArg (fun x => x.2.2.2.2.2.2.2.2.2.1) eX).trans (congrArg (fun x => x.1.2.2.2.2.2.2.2.2.2.1) a1)
  · exact (congrArg (fun x => x.2.2.2.2.2.1) b1).trans (congrArg (fun x => x.2.2.2.2.1) eM)
  · exact (congrArg (fun x => x.2.2.2.2.2.2.2.2.1) eX).trans (congrArg (fun x => x.1.2.2.2.2.2.2.2.2.1) a1)
  · exact (congrArg (fun x => x.2.2.2.2.2.2.1) eX).trans (congrArg (fun x => x.1.2.2.2.2.2.2.1) a1)
  · exact (congrArg (fun x => x.2.2.2.2.1) b1).trans (congrArg (fun x => x.2.2.2.1) eM)
  · exact (congrArg (fun x => x.2.2.2.2.2.2.2.2.2.2.1) eX).trans (congrArg (fun x => x.1.2.2.2.2.2.2.2.2.2.2.1) a1)
  · exact (congrArg (fun x => x.2.2.2.2.2.2.2.2.2.1) b1).trans (congrArg (fun x => x.2.2.2.2.2.2.2.2.1) eM)
  · exact (congrArg (fun x => x.2.2.2.2.2.2.2.1) eX).trans (congrArg (fun x => x.1.2.2.2.2.2.2.2.1) a1)
  · exact (congrArg (fun x => x.2.2.2.1) b1).trans (congrArg (fun x => x.2.2.1) eM)
  · exact (congrArg (fun x => x.2.2.2.1) eX).trans (congrArg (fun x => x.1.2.2.2.1) a1)
  · exact (congrArg (fun x => x.2.2.2.2.1) eX).trans (congrArg (fun x => x.1.2.2.2.2.1) a1)
  · exact (congrArg (fun x => x.2.2.2.2.2.1) eX).trans (congrArg (fun x => x.1.2.2.2.2.2.1) a1)
  · exact (congrArg (fun x => x.2.2.2.2.2.2.1) b1).trans (congrArg (fun x => x.2.2.2.2.2.1) eM)
  · exact (congrArg (fun x => x.2.2.2.2.2.2.2.1) b1).trans (congrArg (fun x => x.2.2.2.2.2.2.1) eM)
  · exact (congrArg (fun x => x.2.2.2.2.2.2.2.2.1) b1).trans (congrArg (fun x => x.2.2.2.2.2.2.2.1) eM)
  · exact (congrArg (fun x => x.2.2.2.2.2.2.2.2.2.2.2.2.2.2.1) eX).trans (congrArg (fun x => x.1.2.2.2.2.2.2.2.2.2.2.2.2.2.2.1) a1)
  · exact (congrArg (fun x => x.2.2.2.2.2.2.2.2.2.2.2.2.1) b1).trans (congrArg (fun x => x.2.2.2.2.2.2.2.2.2.2.2.2.2.1) eM)
  · exact (congrArg (fun x => x.2.2.2.2.2.2.2.2.2.2.2.1) eX).trans (congrArg (fun x => x.1.2.2.2.2.2.2.2.2.2.2.2.1) a1)
  · exact (congrArg (fun x => x.2.2.2.2.2.2.2.2.2.2.1) b1).trans (congrArg (fun x => x.2.2.2.2.2.2.2.2.2.2.2.1) eM)
  · exact (congrArg (fun x => x.2.2.2.2.2.2.2.2.2.2.2.2.2.2.2.2.2.2.2) eX).trans a2
  · intro j hj
    obtain ⟨v, hv⟩ : ∃ v, l[j]? = some v := ⟨l[j], List.getElem?_eq_getElem hj⟩
    have eli : xw_li w2 = xw_li w1 := congrArg (fun x => x.2.2.2.2.2.2.2.2.2.2.2.2.2.2.2.2.2.2.1) eX
    rw [eli, a4 j v hv, b4 j v hv]
/-- a loop whose state is told but not named -/
theorem lp_x {P : Nat → xw_W → Prop} {R : Nat → xw_W → Option (Option Value × ai_W)} (n : Nat) (hs : ∀ i w, i < n → P i w → ∃ w', P (i + 1) w' ∧ R i w = R (i + 1) w') {w0 : xw_W} (h0 : P 0 w0) : ∃ w', P n w' ∧ R 0 w0 = R n w' := by
  induction n with
  | zero => exact ⟨w0, h0, rfl⟩
  | succ n ih =>
    obtain ⟨w1, h1, e1⟩ := ih fun i w hi => hs i w (by omega)
    obtain ⟨w2, h2, e2⟩ := hs n w1 (by omega) h1
    exact ⟨w2, h2, e1.trans e2⟩
