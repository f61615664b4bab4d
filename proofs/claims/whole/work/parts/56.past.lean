/-! Undo, save, restore, sign, append on both sides. -/
theorem ks_undo : ks 160 267 [] := by
  intro w hw
  have hw2 := hw
  obtain ⟨B, L, S, hk, hx, hm, hh, hs, hr⟩ := hw2
  obtain ⟨hL, hm1, hm2, ⟨p, hp, hpn, h4⟩, h5⟩ := hh
  match L, hL, hm1, hm2, h4, h5 with
  | [], hL, hm1, hm2, h4, h5 =>
    have e1 := x_stepBack0 (w := w) hm1
    have e2 := m_undo0 (w := w) hm2
    refine ⟨-4, w, w, ?_, e2, hw⟩
    simp only [e_160, o_0, r_160_0, r_160_1, r_160_4, r_160_5, r_160_8, r_160_11, r_160_14, r_160_15, r_160_18, r_160_21, r_160_24, r_160_26, Option.bind_some, Option.bind_none, Option.toList_some, Option.toList_none, List.cons_append, List.nil_append, Option.map_some, Option.map_none, eq_self, if_true, if_false, reduceIte, ai_bi_eq0, ai_bi_eq1, ai_pb_bi, ai_pb_0, ai_pb_1, f_0_0, f_0_6, e1]
  | B0 :: L', hL, hm1, hm2, h4, h5 =>
    have hl : (B0 :: L').length = L'.length + 1 := rfl
    rw [hl] at hL hm1 hm2 h5
    have e1 := x_stepBack (w := w) (m := L'.length) hp (by omega) hpn hm1
    have hi : (if 0 < p then p - 1 else 8) = (p + 8 - 0) % 9 := by split <;> omega
    rw [hi] at e1
    obtain ⟨o1, o2⟩ := h5 0 B0 rfl
    have x0 := h4 0 B0 rfl
    have e2 := m_undo (w := xw_wb (xw_whm (xw_whn w (nI ((p + 8 - 0) % 9))) (nI L'.length)) (xw_hi w ((p + 8 - 0) % 9))) (m := L'.length) (by omega) hm2
    have e3 : ai_fget (wl (xw_wb (xw_whm (xw_whn w (nI ((p + 8 - 0) % 9))) (nI L'.length)) (xw_hi w ((p + 8 - 0) % 9)))) 23 3 3 = some (.int (nI L'.length)) := f_23_3 _
    have e4 : ai_Call 27 [.ref 23] (wl (xw_wb (xw_whm (xw_whn w (nI ((p + 8 - 0) % 9))) (nI L'.length)) (xw_hi w ((p + 8 - 0) % 9)))) = some (some (.int (nI L'.length)), wl (xw_wb (xw_whm (xw_whn w (nI ((p + 8 - 0) % 9))) (nI L'.length)) (xw_hi w ((p + 8 - 0) % 9)))) := by
      simp only [e_27, o_23, r_27_0, r_27_1, r_27_4, Option.bind_some, Option.bind_none, Option.toList_some, Option.toList_none, List.cons_append, List.nil_append, Option.map_some, Option.map_none, eq_self, if_true, if_false, reduceIte, ai_bi_eq0, ai_bi_eq1, ai_pb_bi, ai_pb_0, ai_pb_1, e3]
    refine ⟨nI L'.length, _, _, ?_, e2, B0, L', S, o1, x0, ?_, ⟨by omega, rfl, rfl, ⟨(p + 8 - 0) % 9, by omega, rfl, fun i X hX => ?_⟩, fun i X hX => ?_⟩, kr_s_of hs rfl rfl rfl rfl, hr⟩
    · simp only [e_160, o_0, r_160_0, r_160_1, r_160_4, r_160_5, r_160_8, r_160_11, r_160_14, r_160_15, r_160_18, r_160_21, r_160_24, r_160_26, Option.bind_some, Option.bind_none, Option.toList_some, Option.toList_none, List.cons_append, List.nil_append, Option.map_some, Option.map_none, eq_self, if_true, if_false, reduceIte, ai_bi_eq0, ai_bi_eq1, ai_pb_bi, ai_pb_0, ai_pb_1, f_0_0, f_0_6, e1, show ¬ (1 : Int32) = 0 by decide, e4]
    · have q := o2
      rw [show L'.length + 1 - 1 - 0 = L'.length by omega] at q
      exact q
    · have hil : i < L'.length := (List.getElem?_eq_some_iff.mp hX).1
      have q := h4 (i + 1) X (by simpa using hX)
      rw [show ((p + 8 - 0) % 9 + 8 - i) % 9 = (p + 8 - (i + 1)) % 9 by omega]
      exact q
    · obtain ⟨q1, q2⟩ := h5 (i + 1) X (by simpa using hX)
      rw [show L'.length + 1 - 1 - (i + 1) = L'.length - 1 - i by omega] at q2
      exact ⟨q1, q2⟩
theorem ks_save : ks 144 253 [] := by
  intro w hw
  obtain ⟨B, L, S, hk, hx, hm, hh, hs, hr⟩ := hw
  have e1 := x_saveSnapshot w
  have e3 : ai_fget (wl (xw_whs (xw_wsn w (xw_b w)) 1)) 1 0 0 = some (.int (nI (kb_n B))) := by
    rw [f_1_0]
    exact congrArg (fun x => some (Value.int x)) hx.1
  have e2 := m_save (xw_whs (xw_wsn w (xw_b w)) 1) (B := B) hm
  refine ⟨nI (kb_n B), _, _, ?_, e2, B, L, some B, hk, hx, hm, hh, ⟨rfl, rfl, hk, hx, hm⟩, hr⟩
  simp only [e_144, o_0, r_144_0, r_144_1, r_144_4, r_144_5, r_144_8, r_144_11, r_144_12, r_144_15, r_144_18, Option.bind_some, Option.bind_none, Option.toList_some, Option.toList_none, List.cons_append, List.nil_append, Option.map_some, Option.map_none, eq_self, if_true, if_false, reduceIte, ai_bi_eq0, ai_bi_eq1, ai_pb_bi, ai_pb_0, ai_pb_1, f_0_0, f_0_6, e1, e3]
theorem ks_restore : ks 141 251 [] := by
  intro w hw
  have hw2 := hw
  obtain ⟨B, L, S, hk, hx, hm, hh, hs, hr⟩ := hw2
  cases S with
  | none =>
    have e1 := x_restoreSnapshot0 (w := w) hs.1
    have e2 := m_restore0 (w := w) hs.2
    refine ⟨-4, w, w, ?_, e2, hw⟩
    simp only [e_141, o_0, r_141_0, r_141_1, r_141_4, r_141_5, r_141_8, r_141_11, r_141_14, r_141_15, r_141_18, r_141_21, r_141_24, r_141_26, Option.bind_some, Option.bind_none, Option.toList_some, Option.toList_none, List.cons_append, List.nil_append, Option.map_some, Option.map_none, eq_self, if_true, if_false, reduceIte, ai_bi_eq0, ai_bi_eq1, ai_pb_bi, ai_pb_0, ai_pb_1, f_0_0, f_0_6, e1]
  | some Z =>
    obtain ⟨hL, hm1, hm2, ⟨p, hp, hpn, h4⟩, h5⟩ := hh
    have hs2 := hs
    obtain ⟨s1, s2, zk, zx, zm⟩ := hs2
    have e1 := x_restoreSnapshot (w := w) s1
    have e3 : ai_fget (wl (xw_whm (xw_wb w (xw_sn w)) 0)) 1 0 0 = some (.int (nI (kb_n Z))) := by
      rw [f_1_0]
      exact congrArg (fun x => some (Value.int x)) zx.1
    have e2 := m_restore (w := xw_whm (xw_wb w (xw_sn w)) 0) (B := Z) s2 zm
    refine ⟨nI (kb_n Z), _, _, ?_, e2, Z, [], some Z, zk, zx, zm, ⟨by decide, rfl, rfl, ⟨p, hp, hpn, fun i X hX => absurd hX (by simp)⟩, fun i X hX => absurd hX (by simp)⟩, kr_s_of hs rfl rfl rfl rfl, hr⟩
    simp only [e_141, o_0, r_141_0, r_141_1, r_141_4, r_141_5, r_141_8, r_141_11, r_141_14, r_141_15, r_141_18, r_141_21, r_141_24, r_141_26, Option.bind_some, Option.bind_none, Option.toList_some, Option.toList_none, List.cons_append, List.nil_append, Option.map_some, Option.map_none, eq_self, if_true, if_false, reduceIte, ai_bi_eq0, ai_bi_eq1, ai_pb_bi, ai_pb_0, ai_pb_1, f_0_0, f_0_6, e1, show ¬ (1 : Int32) = 0 by decide, e3]
theorem ks_sign (x : Int32) : ks 148 258 [.int x] := by
  intro w hw
  have hw2 := hw
  obtain ⟨B, L, S, hk, hx, hm, hh, hs, hr, ht, n, hn, h1, h2, h3⟩ := hw2
  have ein : ai_in3 x 0 (nI n - 1) = ai_is n x := ai_in3_is (by omega)
  by_cases c : ai_is n x = true
  · obtain ⟨j, hj, rfl⟩ := ai_is_of (by omega) c
    have c1 : ¬ nI j < 0 := nI_pos (by omega)
    have c2 : nI j < nI n := nI_lt hj (by omega)
    have g : ai_Call 12 [.ref 183, .int (nI j)] (wl w) = some (some (.int (xm_line w j)), wl w) := by
      rw [x_get_li, ai_rgn (by omega) (by decide), h3 j hj]
    have e1 : ai_Call 147 [.ref 182, .int (nI j)] (wl w) = some (some (.int (xm_line w j)), wl w) := by
      simp only [e_147, o_182, r_147_0, r_147_1, r_147_4, r_147_5, r_147_6, r_147_9, r_147_12, r_147_13, r_147_16, r_147_17, r_147_20, r_147_23, r_147_24, Option.bind_some, Option.bind_none, Option.toList_some, Option.toList_none, List.cons_append, List.nil_append, Option.map_some, Option.map_none, eq_self, if_true, if_false, reduceIte, ai_bi_eq0, ai_bi_eq1, ai_pb_bi, ai_pb_0, ai_pb_1, c1, f_182_0, f_182_1, h1, c2, g]
    have e2 : ai_aget (wl w) 190 (nI j) = some (xm_line w j) := by
      rw [ag_190, ai_ix_nI (by omega) (by decide)]
      rfl
    refine ⟨xm_line w j, w, w, ?_, ?_, hw⟩
    · simp only [e_148, o_0, r_148_0, r_148_1, r_148_4, r_148_5, r_148_8, Option.bind_some, Option.bind_none, Option.toList_some, Option.toList_none, List.cons_append, List.nil_append, Option.map_some, Option.map_none, eq_self, if_true, if_false, reduceIte, ai_bi_eq0, ai_bi_eq1, ai_pb_bi, ai_pb_0, ai_pb_1, f_0_8, e1]
    · simp only [e_258, o_185, r_258_0, r_258_1, r_258_2, r_258_3, r_258_6, r_258_7, r_258_8, r_258_11, r_258_14, r_258_15, r_258_18, r_258_19, r_258_20, r_258_23, r_258_24, Option.bind_some, Option.bind_none, Option.toList_some, Option.toList_none, List.cons_append, List.nil_append, Option.map_some, Option.map_none, eq_self, if_true, if_false, reduceIte, ai_bi_eq0, ai_bi_eq1, ai_pb_bi, ai_pb_0, ai_pb_1, f_185_9, f_185_10, h2, m_isIn, ein, c, Bool.true_eq_false, e2]
  · have c' : ai_is n x = false := by simpa using c
    have e1 : ai_Call 147 [.ref 182, .int x] (wl w) = some (some (.int (-1)), wl w) := by
      by_cases c1 : x < 0
      · simp only [e_147, o_182, r_147_0, r_147_1, r_147_4, r_147_5, r_147_6, r_147_9, r_147_12, r_147_13, r_147_16, r_147_17, r_147_20, r_147_23, r_147_24, Option.bind_some, Option.bind_none, Option.toList_some, Option.toList_none, List.cons_append, List.nil_append, Option.map_some, Option.map_none, eq_self, if_true, if_false, reduceIte, ai_bi_eq0, ai_bi_eq1, ai_pb_bi, ai_pb_0, ai_pb_1, c1]
      · have c2 : ¬ x < nI n := fun z => c (by unfold ai_is; exact decide_eq_true ⟨c1, z⟩)
        simp only [e_147, o_182, r_147_0, r_147_1, r_147_4, r_147_5, r_147_6, r_147_9, r_147_12, r_147_13, r_147_16, r_147_17, r_147_20, r_147_23, r_147_24, Option.bind_some, Option.bind_none, Option.toList_some, Option.toList_none, List.cons_append, List.nil_append, Option.map_some, Option.map_none, eq_self, if_true, if_false, reduceIte, ai_bi_eq0, ai_bi_eq1, ai_pb_bi, ai_pb_0, ai_pb_1, c1, f_182_0, f_182_1, h1, c2]
    refine ⟨-1, w, w, ?_, ?_, hw⟩
    · simp only [e_148, o_0, r_148_0, r_148_1, r_148_4, r_148_5, r_148_8, Option.bind_some, Option.bind_none, Option.toList_some, Option.toList_none, List.cons_append, List.nil_append, Option.map_some, Option.map_none, eq_self, if_true, if_false, reduceIte, ai_bi_eq0, ai_bi_eq1, ai_pb_bi, ai_pb_0, ai_pb_1, f_0_8, e1]
    · simp only [e_258, o_185, r_258_0, r_258_1, r_258_2, r_258_3, r_258_6, r_258_7, r_258_8, r_258_11, r_258_14, r_258_15, r_258_18, r_258_19, r_258_20, r_258_23, r_258_24, Option.bind_some, Option.bind_none, Option.toList_some, Option.toList_none, List.cons_append, List.nil_append, Option.map_some, Option.map_none, eq_self, if_true, if_false, reduceIte, ai_bi_eq0, ai_bi_eq1, ai_pb_bi, ai_pb_0, ai_pb_1, f_185_9, f_185_10, h2, m_isIn, ein, c', Bool.false_eq_true]
