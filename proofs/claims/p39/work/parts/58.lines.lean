/-! Lines on both sides: what a line holds is told by its cells; all other cells stay. -/
def xo (w : xw_W) := ((xw_b w, xw_ky w, xw_rn w, xw_rr w, xw_rd w, xw_rc w, xw_hi w, xw_sn w, xw_hn w, xw_hm w, xw_hs w, xw_co w, xw_ki w, xw_ar w, xw_tl w, xw_tc w, xw_tp w, xw_tg w), w.2)
def xl (w : xw_W) (l : List Int32) (w1 : xw_W) : Prop := xo w1 = xo w ∧ xw_ll w1 = nI l.length ∧ l.length ≤ 40 ∧ ∀ j v, l[j]? = some v → xw_li w1 j = v
theorem xo_w (w : xw_W) (f : Nat → Int32) (n : Int32) : xo (xw_wll (xw_wli w f) n) = xo w := rfl
theorem xo_b {w w1 : xw_W} (h : xo w1 = xo w) : xw_b w1 = xw_b w := congrArg (fun x => x.1.1) h
theorem l_snoc {f : Nat → Int32} {l : List Int32} {c : Int32} (h : ∀ j v, l[j]? = some v → f j = v) : ∀ j v, (l ++ [c])[j]? = some v → upd f l.length c j = v := by
  intro j v hj
  rcases Nat.lt_trichotomy j l.length with z | z | z
  · rw [List.getElem?_append_left z] at hj
    rw [upd_ne _ (by omega)]
    exact h j v hj
  · subst z
    rw [upd_at]
    simpa using hj
  · rw [List.getElem?_eq_none (by rw [List.length_append, List.length_singleton]; omega)] at hj
    exact absurd hj (by simp)
theorem x_put {w w1 : xw_W} {l : List Int32} (h : xl w l w1) (hl : l.length < 40) (c : Int32) : ∃ w2, ai_Call 30 [.ref 182, .int c] (wl w1) = some (none, wl w2) ∧ xl w (l ++ [c]) w2 := by
  obtain ⟨h1, h2, h40, h3⟩ := h
  have c1 : nI l.length < 40 := nI_lt (a := l.length) (b := 40) hl (by decide)
  have e1 := x_set_li w1 hl c
  have e2 : ai_fget (wl (xw_wli w1 (upd (xw_li w1) l.length c))) 182 6 1 = some (.int (nI l.length)) := by
    rw [f_182_1]
    exact congrArg (fun x => some (Value.int x)) h2
  refine ⟨xw_wll (xw_wli w1 (upd (xw_li w1) l.length c)) (nI (l.length + 1)), ?_, (xo_w _ _ _).trans h1, ?_, ?_, l_snoc h3⟩
  · simp only [e_30, o_182, r_30_0, r_30_1, r_30_4, r_30_6, r_30_9, r_30_10, r_30_13, r_30_14, r_30_17, r_30_18, r_30_21, r_30_22, r_30_23, r_30_26, r_30_27, r_30_28, r_30_31, Option.bind_some, Option.bind_none, Option.toList_some, Option.toList_none, List.cons_append, List.nil_append, Option.map_some, Option.map_none, eq_self, if_true, if_false, reduceIte, ai_bi_eq0, ai_bi_eq1, ai_pb_bi, ai_pb_0, ai_pb_1, f_182_0, f_182_1, h2, c1, e1, e2, nI_1, p_182_1]
  · rw [List.length_append, List.length_singleton]
  · rw [List.length_append, List.length_singleton]; omega
theorem x_lclear (w : xw_W) : ∃ w2, ai_Call 151 [.ref 182] (wl w) = some (none, wl w2) ∧ xl w [] w2 := by
  refine ⟨xw_wll w 0, ?_, rfl, rfl, by decide, fun j v hj => absurd hj (by simp)⟩
  simp only [e_151, o_182, r_151_0, r_151_1, r_151_2, r_151_5, Option.bind_some, Option.bind_none, Option.toList_some, Option.toList_none, List.cons_append, List.nil_append, Option.map_some, Option.map_none, eq_self, if_true, if_false, reduceIte, ai_bi_eq0, ai_bi_eq1, ai_pb_bi, ai_pb_0, ai_pb_1, p_182_1]
theorem x_lsize {w w1 : xw_W} {l : List Int32} (h : xl w l w1) : ai_Call 152 [.ref 182] (wl w1) = some (some (.int (nI l.length)), wl w1) := by
  simp only [e_152, o_182, r_152_0, r_152_1, r_152_4, Option.bind_some, Option.bind_none, Option.toList_some, Option.toList_none, List.cons_append, List.nil_append, Option.map_some, Option.map_none, eq_self, if_true, if_false, reduceIte, ai_bi_eq0, ai_bi_eq1, ai_pb_bi, ai_pb_0, ai_pb_1, f_182_1, h.2.1]
/-- the digits of a number below 100 -/
def nl (v : Nat) : List Int32 := if v < 10 then [nI (48 + v)] else [nI (48 + v / 10), nI (48 + v % 10)]
theorem nl_len (v : Nat) : (nl v).length ≤ 2 ∧ 1 ≤ (nl v).length := by unfold nl; split <;> simp
theorem nl_10 {v : Nat} (h : v < 10) : nl v = [nI (48 + v)] := if_pos h
theorem a_48 (k : Nat) : (48 : Int32) + nI k = nI (48 + k) := nI_add 48 k
theorem x_num {w w1 : xw_W} {l : List Int32} (h : xl w l w1) {v : Nat} (hv : v < 100) (hl : l.length + 2 ≤ 40) : ∃ w2, ai_Call 31 [.ref 182, .int (nI v)] (wl w1) = some (none, wl w2) ∧ xl w (l ++ nl v) w2 := by
  have ed : nI v / 10 = nI (v / 10) := pk_div (d := 10) (by omega) (by decide) (by decide)
  have er : nI v - nI (v / 10) * 10 = nI (v % 10) := by rw [← ed]; exact pk_rem (d := 10) (by omega) (by decide) (by decide)
  have ed2 : nI (v / 10) / 10 = nI (v / 10 / 10) := pk_div (d := 10) (by omega) (by decide) (by decide)
  have er2 : nI (v / 10) - nI (v / 10 / 10) * 10 = nI (v / 10 % 10) := by rw [← ed2]; exact pk_rem (d := 10) (by omega) (by decide) (by decide)
  unfold nl
  by_cases c : v < 10
  · have c1 : ¬ 9 < nI v := nI_nlt (a := 9) (by omega) (by decide)
    rw [if_pos c]
    obtain ⟨w2, e2, h2⟩ := x_put h (by omega) (nI (48 + v))
    have ev : v % 10 = v := by omega
    rw [ev] at er
    refine ⟨w2, ?_, h2⟩
    simp only [e_31, o_182, r_31_0, r_31_1, r_31_3, r_31_6, r_31_7, r_31_9, r_31_10, r_31_12, r_31_13, r_31_15, r_31_16, r_31_17, r_31_20, r_31_21, r_31_23, r_31_24, r_31_26, r_31_27, r_31_28, r_31_31, Option.bind_some, Option.bind_none, Option.toList_some, Option.toList_none, List.cons_append, List.nil_append, Option.map_some, Option.map_none, eq_self, if_true, if_false, reduceIte, ai_bi_eq0, ai_bi_eq1, ai_pb_bi, ai_pb_0, ai_pb_1, c1, ed, er, a_48, e2]
  · have c1 : 9 < nI v := nI_lt (a := 9) (by omega) (by omega)
    rw [if_neg c]
    obtain ⟨w2, e2, h2⟩ := x_put h (by omega) (nI (48 + v / 10))
    obtain ⟨w3, e3, h3⟩ := x_put h2 (by rw [List.length_append, List.length_singleton]; omega) (nI (48 + v % 10))
    have ev : v / 10 % 10 = v / 10 := by omega
    rw [ev] at er2
    refine ⟨w3, ?_, by simpa using h3⟩
    simp only [e_31, o_182, r_31_0, r_31_1, r_31_3, r_31_6, r_31_7, r_31_9, r_31_10, r_31_12, r_31_13, r_31_15, r_31_16, r_31_17, r_31_20, r_31_21, r_31_23, r_31_24, r_31_26, r_31_27, r_31_28, r_31_31, Option.bind_some, Option.bind_none, Option.toList_some, Option.toList_none, List.cons_append, List.nil_append, Option.map_some, Option.map_none, eq_self, if_true, if_false, reduceIte, ai_bi_eq0, ai_bi_eq1, ai_pb_bi, ai_pb_0, ai_pb_1, c1, ed, ed2, er, er2, a_48, e2, e3]
/-- a loop whose state is told but not named -/
theorem lp_x {P : Nat → xw_W → Prop} {R : Nat → xw_W → Option (Option Value × ai_W)} (n : Nat) (hs : ∀ i w, i < n → P i w → ∃ w', P (i + 1) w' ∧ R i w = R (i + 1) w') {w0 : xw_W} (h0 : P 0 w0) : ∃ w', P n w' ∧ R 0 w0 = R n w' := by
  induction n with
  | zero => exact ⟨w0, h0, rfl⟩
  | succ n ih =>
    obtain ⟨w1, h1, e1⟩ := ih fun i w hi => hs i w (by omega)
    obtain ⟨w2, h2, e2⟩ := hs n w1 (by omega) h1
    exact ⟨w2, h2, e1.trans e2⟩

