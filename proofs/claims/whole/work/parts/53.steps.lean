/-! A command on both sides: kept, done, confirmed. -/
theorem kb_m_congr {f g : Nat → Int32} {B : kb_B} (hk : kb_ok B) (e : ∀ j, j < 189 → g j = f j) (h : kb_m f B) : kb_m g B := by
  have hn := hk.1
  refine ⟨?_, ?_, ?_, ?_, ?_, ?_, ?_, ?_, ?_, ?_⟩
  · rw [e _ (by omega)]; exact h.1
  · rw [e _ (by omega)]; exact h.2.1
  · rw [e _ (by omega)]; exact h.2.2.1
  · intro i hi; rw [e _ (by omega)]; exact h.2.2.2.1 i hi
  · intro i k hi hik
    have := hk.2.2.1 i
    rw [e _ (by omega)]; exact h.2.2.2.2.1 i k hi hik
  · intro i k hi hik; rw [e _ (by omega)]; exact h.2.2.2.2.2.1 i k hi hik
  · intro i hi; rw [e _ (by omega)]; exact h.2.2.2.2.2.2.1 i hi
  · intro i hi; rw [e _ (by omega)]; exact h.2.2.2.2.2.2.2.1 i hi
  · intro i o hi ho; rw [e _ (by omega)]; exact h.2.2.2.2.2.2.2.2.1 i o hi ho
  · intro i hi; rw [e _ (by omega)]; exact h.2.2.2.2.2.2.2.2.2 i hi
def kc_er (a : Int32) : Bool := decide (a = -1 ∨ a = -2 ∨ a = -3)
def kc_good (B : kb_B) (o : kc_O) : Prop := kb_ok o.1 ∧ ((∃ y d, o = (B, -3, some (y, d)) ∧ ¬ y = 0) ∨ o = (B, -1, none) ∨ o = (B, -2, none) ∨ (o.2.2 = none ∧ (o.2.1 = -4 ∨ ∃ n, n < 2 ^ 31 ∧ o.2.1 = nI n)))
theorem er_nI {n : Nat} (hn : n < 2 ^ 31) : kc_er (nI n) = false := by
  have h := nI_pos hn
  unfold kc_er
  rw [decide_eq_false_iff_not]
  rintro (z | z | z) <;> rw [z] at h <;> exact h (by decide)
theorem x_isError (x : Int32) (ws : ai_W) : ai_Call 49 [.int x] ws = some (some (.int (ai_bi (kc_er x))), ws) := by
  unfold kc_er
  by_cases c1 : x = -1
  · subst c1
    simp only [e_49, r_49_0, r_49_1, r_49_2, r_49_5, r_49_6, r_49_8, r_49_11, r_49_12, r_49_14, r_49_17, r_49_18, r_49_21, r_49_22, Option.bind_some, Option.bind_none, Option.toList_some, Option.toList_none, List.cons_append, List.nil_append, Option.map_some, Option.map_none, eq_self, if_true, if_false, reduceIte, ai_bi_eq0, ai_bi_eq1, ai_pb_bi, ai_pb_0, ai_pb_1, true_or, decide_true]
    rfl
  · by_cases c2 : x = -2
    · subst c2
      simp only [e_49, r_49_0, r_49_1, r_49_2, r_49_5, r_49_6, r_49_8, r_49_11, r_49_12, r_49_14, r_49_17, r_49_18, r_49_21, r_49_22, Option.bind_some, Option.bind_none, Option.toList_some, Option.toList_none, List.cons_append, List.nil_append, Option.map_some, Option.map_none, eq_self, if_true, if_false, reduceIte, ai_bi_eq0, ai_bi_eq1, ai_pb_bi, ai_pb_0, ai_pb_1, c1, true_or, or_true, decide_true]
      rfl
    · by_cases c3 : x = -3
      · subst c3
        simp only [e_49, r_49_0, r_49_1, r_49_2, r_49_5, r_49_6, r_49_8, r_49_11, r_49_12, r_49_14, r_49_17, r_49_18, r_49_21, r_49_22, Option.bind_some, Option.bind_none, Option.toList_some, Option.toList_none, List.cons_append, List.nil_append, Option.map_some, Option.map_none, eq_self, if_true, if_false, reduceIte, ai_bi_eq0, ai_bi_eq1, ai_pb_bi, ai_pb_0, ai_pb_1, c1, c2, or_true, decide_true]
        rfl
      · simp only [e_49, r_49_0, r_49_1, r_49_2, r_49_5, r_49_6, r_49_8, r_49_11, r_49_12, r_49_14, r_49_17, r_49_18, r_49_21, r_49_22, Option.bind_some, Option.bind_none, Option.toList_some, Option.toList_none, List.cons_append, List.nil_append, Option.map_some, Option.map_none, eq_self, if_true, if_false, reduceIte, ai_bi_eq0, ai_bi_eq1, ai_pb_bi, ai_pb_0, ai_pb_1, c1, c2, c3, or_self, decide_false]
        rfl
theorem m_isErr_t {x : Int32} (h : kc_er x = true) (ws : ai_W) : ai_Call 185 [.int x] ws = some (some (.int 1), ws) := by
  unfold kc_er at h
  rw [decide_eq_true_eq] at h
  rcases h with rfl | rfl | rfl
  · simp only [e_185, r_185_0, r_185_1, r_185_4, r_185_5, r_185_7, r_185_10, r_185_11, r_185_14, r_185_15, Option.bind_some, Option.bind_none, Option.toList_some, Option.toList_none, List.cons_append, List.nil_append, Option.map_some, Option.map_none, eq_self, if_true, if_false, reduceIte, ai_bi_eq0, ai_bi_eq1, ai_pb_bi, ai_pb_0, ai_pb_1, show (-1 : Int32) < 0 by decide, show ¬ (-1 : Int32) = -4 by decide]
  · simp only [e_185, r_185_0, r_185_1, r_185_4, r_185_5, r_185_7, r_185_10, r_185_11, r_185_14, r_185_15, Option.bind_some, Option.bind_none, Option.toList_some, Option.toList_none, List.cons_append, List.nil_append, Option.map_some, Option.map_none, eq_self, if_true, if_false, reduceIte, ai_bi_eq0, ai_bi_eq1, ai_pb_bi, ai_pb_0, ai_pb_1, show (-2 : Int32) < 0 by decide, show ¬ (-2 : Int32) = -4 by decide]
  · simp only [e_185, r_185_0, r_185_1, r_185_4, r_185_5, r_185_7, r_185_10, r_185_11, r_185_14, r_185_15, Option.bind_some, Option.bind_none, Option.toList_some, Option.toList_none, List.cons_append, List.nil_append, Option.map_some, Option.map_none, eq_self, if_true, if_false, reduceIte, ai_bi_eq0, ai_bi_eq1, ai_pb_bi, ai_pb_0, ai_pb_1, show (-3 : Int32) < 0 by decide, show ¬ (-3 : Int32) = -4 by decide]
theorem m_isErr_f {x : Int32} (h : x = -4 ∨ ∃ n, n < 2 ^ 31 ∧ x = nI n) (ws : ai_W) : ai_Call 185 [.int x] ws = some (some (.int 0), ws) := by
  rcases h with rfl | ⟨n, hn, rfl⟩
  · simp only [e_185, r_185_0, r_185_1, r_185_4, r_185_5, r_185_7, r_185_10, r_185_11, r_185_14, r_185_15, Option.bind_some, Option.bind_none, Option.toList_some, Option.toList_none, List.cons_append, List.nil_append, Option.map_some, Option.map_none, eq_self, if_true, if_false, reduceIte, ai_bi_eq0, ai_bi_eq1, ai_pb_bi, ai_pb_0, ai_pb_1, show (-4 : Int32) < 0 by decide]
  · simp only [e_185, r_185_0, r_185_1, r_185_4, r_185_5, r_185_7, r_185_10, r_185_11, r_185_14, r_185_15, Option.bind_some, Option.bind_none, Option.toList_some, Option.toList_none, List.cons_append, List.nil_append, Option.map_some, Option.map_none, eq_self, if_true, if_false, reduceIte, ai_bi_eq0, ai_bi_eq1, ai_pb_bi, ai_pb_0, ai_pb_1, nI_pos hn]
theorem x_setCommand (w : xw_W) (v : Int32) : ai_Call 40 [.ref 18, .int v] (wl w) = some (none, wl (xw_wrn w v)) := by
  simp only [e_40, o_18, r_40_0, r_40_1, r_40_2, r_40_5, Option.bind_some, Option.bind_none, Option.toList_some, Option.toList_none, List.cons_append, List.nil_append, Option.map_some, Option.map_none, eq_self, if_true, if_false, reduceIte, ai_bi_eq0, ai_bi_eq1, ai_pb_bi, ai_pb_0, ai_pb_1, p_18_0]
abbrev kw_b (w : xw_W) (p : Nat) : xw_W := xw_whi (xw_wrn w (-4)) (up (xw_hi w) p (xw_b w))
theorem x_begin {w : xw_W} {p : Nat} (hp : p < 9) (h : xw_hn w = nI p) : ai_Call 46 [.ref 0] (wl w) = some (none, wl (kw_b w p)) := by
  have e := x_keep (w := xw_wrn w (-4)) hp h
  simp only [e_46, o_0, r_46_0, r_46_1, r_46_4, r_46_6, r_46_9, r_46_10, r_46_13, r_46_14, r_46_17, r_46_20, Option.bind_some, Option.bind_none, Option.toList_some, Option.toList_none, List.cons_append, List.nil_append, Option.map_some, Option.map_none, eq_self, if_true, if_false, reduceIte, ai_bi_eq0, ai_bi_eq1, ai_pb_bi, ai_pb_0, ai_pb_1, f_0_0, f_0_4, f_0_6, x_setCommand, e]
theorem x_finish_er {x : Int32} (h : kc_er x = true) (w : xw_W) : ai_Call 51 [.ref 0, .int x] (wl w) = some (some (.int x), wl w) := by
  simp only [e_51, o_0, r_51_0, r_51_1, r_51_4, r_51_7, r_51_8, r_51_11, r_51_14, r_51_15, Option.bind_some, Option.bind_none, Option.toList_some, Option.toList_none, List.cons_append, List.nil_append, Option.map_some, Option.map_none, eq_self, if_true, if_false, reduceIte, ai_bi_eq0, ai_bi_eq1, ai_pb_bi, ai_pb_0, ai_pb_1, x_isError, h, Bool.true_eq_false]
theorem x_finish_ok {x : Int32} (h : kc_er x = false) {w : xw_W} {p m : Nat} (hp : p < 9) (hm : m ≤ 8) (h1 : xw_hn w = nI p) (h2 : xw_hm w = nI m) : ai_Call 51 [.ref 0, .int x] (wl w) = some (some (.int x), wl (xw_whm (xw_whn w (nI (if p < 8 then p + 1 else 0))) (nI (min (m + 1) 8)))) := by
  simp only [e_51, o_0, r_51_0, r_51_1, r_51_4, r_51_7, r_51_8, r_51_11, r_51_14, r_51_15, Option.bind_some, Option.bind_none, Option.toList_some, Option.toList_none, List.cons_append, List.nil_append, Option.map_some, Option.map_none, eq_self, if_true, if_false, reduceIte, ai_bi_eq0, ai_bi_eq1, ai_pb_bi, ai_pb_0, ai_pb_1, f_0_6, x_isError, h, x_confirm hp hm h1 h2]
theorem m_ends_er {x : Int32} (h : kc_er x = true) (w : xw_W) : ai_Call 187 [.ref 185, .int x] (wl w) = some (some (.int x), wl w) := by
  simp only [e_187, o_185, r_187_0, r_187_1, r_187_4, r_187_7, r_187_8, r_187_11, r_187_12, Option.bind_some, Option.bind_none, Option.toList_some, Option.toList_none, List.cons_append, List.nil_append, Option.map_some, Option.map_none, eq_self, if_true, if_false, reduceIte, ai_bi_eq0, ai_bi_eq1, ai_pb_bi, ai_pb_0, ai_pb_1, m_isErr_t h, show ¬ (1 : Int32) = 0 by decide]
theorem m_ends_ok {x : Int32} (h : x = -4 ∨ ∃ n, n < 2 ^ 31 ∧ x = nI n) {w w2 : xw_W} (hc : ai_Call 186 [.ref 185] (wl w) = some (none, wl w2)) : ai_Call 187 [.ref 185, .int x] (wl w) = some (some (.int x), wl w2) := by
  simp only [e_187, o_185, r_187_0, r_187_1, r_187_4, r_187_7, r_187_8, r_187_11, r_187_12, Option.bind_some, Option.bind_none, Option.toList_some, Option.toList_none, List.cons_append, List.nil_append, Option.map_some, Option.map_none, eq_self, if_true, if_false, reduceIte, ai_bi_eq0, ai_bi_eq1, ai_pb_bi, ai_pb_0, ai_pb_1, m_isErr_f h, hc]
theorem hist_err {w w2 : xw_W} {L : List kb_B} {p : Nat} {b : xb_B} (hp : p < 9) (hn : xw_hn w = nI p) (h : kr_h w L) (e1 : xw_hm w2 = xw_hm w) (e2 : xm_ch w2 = xm_ch w) (e3 : xw_hn w2 = xw_hn w) (e4 : xw_hi w2 = up (xw_hi w) p b) (e5 : xm_past w2 = xm_past w) : kr_h w2 L := by
  obtain ⟨h1, h2, h3, ⟨p', hp', hn', h4⟩, h5⟩ := h
  have e : p = p' := (nI_eq (by omega) (by omega)).mp (hn.symm.trans hn')
  subst e
  refine ⟨h1, e1.trans h2, e2.trans h3, ⟨p, hp, e3.trans hn, fun i B hi => ?_⟩, fun i B hi => ?_⟩
  · have hl : i < L.length := (List.getElem?_eq_some_iff.mp hi).1
    rw [e4, up_ne _ (by omega)]
    exact h4 i B hi
  · rw [e5]
    exact h5 i B hi
theorem hist_ok {w w2 : xw_W} {L : List kb_B} {B : kb_B} {p : Nat} (hk : kb_ok B) (hx : kb_x (xw_b w) B) (hm : kb_m (xm_s w) B) (hp : p < 9) (hn : xw_hn w = nI p) (h : kr_h w L) (e1 : xw_hm w2 = nI (min (L.length + 1) 8)) (e2 : xm_ch w2 = nI (min (L.length + 1) 8)) (e3 : xw_hn w2 = nI (if p < 8 then p + 1 else 0)) (e4 : xw_hi w2 = up (xw_hi w) p (xw_b w)) (e5 : xm_past w2 = cpn (xm_s w) 0 (189 * (min L.length 7)) 0 189 (if L.length = 8 then shn 0 7 (xm_past w) else xm_past w)) : kr_h w2 ((B :: L).take 8) := by
  obtain ⟨h1, h2, h3, ⟨p', hp', hn', h4⟩, h5⟩ := h
  have e : p = p' := (nI_eq (by omega) (by omega)).mp (hn.symm.trans hn')
  subst e
  have hl : ((B :: L).take 8).length = min (L.length + 1) 8 := by
    rw [List.length_take, List.length_cons]
    omega
  have hg : ∀ i X, ((B :: L).take 8)[i]? = some X → i < 8 ∧ (B :: L)[i]? = some X := by
    intro i X hi
    rw [List.getElem?_take] at hi
    by_cases z : i < 8
    · rw [if_pos z] at hi
      exact ⟨z, hi⟩
    · rw [if_neg z] at hi
      exact absurd hi (by simp)
  unfold kr_h
  rw [hl]
  refine ⟨by omega, e1, e2, ⟨if p < 8 then p + 1 else 0, by split <;> omega, e3, fun i X hi => ?_⟩, fun i X hi => ?_⟩
  · obtain ⟨h8, hi⟩ := hg i X hi
    rw [e4]
    match i, h8, hi with
    | 0, _, hi =>
      have hX : X = B := by simpa using hi.symm
      rw [hX, show ((if p < 8 then p + 1 else 0) + 8 - 0) % 9 = p by split <;> omega, up_at]
      exact hx
    | k + 1, h8, hi =>
      have hi : L[k]? = some X := by simpa using hi
      have hkl : k < L.length := (List.getElem?_eq_some_iff.mp hi).1
      rw [show ((if p < 8 then p + 1 else 0) + 8 - (k + 1)) % 9 = (p + 8 - k) % 9 by split <;> omega, up_ne _ (by omega)]
      exact h4 k X hi
  · obtain ⟨h8, hi⟩ := hg i X hi
    match i, h8, hi with
    | 0, _, hi =>
      have hX : X = B := by simpa using hi.symm
      rw [hX]
      refine ⟨hk, kb_m_congr hk (fun j hj => ?_) hm⟩
      show xm_past w2 _ = _
      rw [e5, cpn_at, if_pos (by omega), show 0 + (189 * (min (L.length + 1) 8 - 1 - 0) + j - 189 * min L.length 7) = j by omega]
    | k + 1, h8, hi =>
      have hi : L[k]? = some X := by simpa using hi
      have hkl : k < L.length := (List.getElem?_eq_some_iff.mp hi).1
      obtain ⟨o1, o2⟩ := h5 k X hi
      refine ⟨o1, kb_m_congr o1 (fun j hj => ?_) o2⟩
      show xm_past w2 _ = xm_past w _
      rw [e5, cpn_at, if_neg (by omega)]
      by_cases z : L.length = 8
      · rw [if_pos z, shn_at, if_pos (by omega)]
        congr 1
        omega
      · rw [if_neg z]
        congr 1
        omega
