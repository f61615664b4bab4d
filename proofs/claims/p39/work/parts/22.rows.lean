/-! Rows and the book of the class, over the world. -/
theorem x_get {ws : ai_W} {r a n : Nat} {f : Nat → Int32} (h1 : ws[r]? = some (.inr (.inr (8, [.ref a])))) (h2 : ws[a]? = some (.inl (ai_t n f))) (hn : n < 2 ^ 31) (i : Int32) : ai_Call 12 [.ref r, .int i] ws = some (some (.int (ai_rg n f i)), ws) := by
  have f1 : ai_fget ws r 8 0 = some (.ref a) := ai_fget_of h1
  have f2 : ai_len ws a = some (nI n) := by unfold ai_len; rw [h2]; simp only [ai_t_len]; rfl
  have f3 : ai_aget ws a i = (ai_ix i n).map f := ai_aget_of h2
  simp only [e_12, ai_isob_of h1, Option.bind_some, Option.bind_none, Option.toList_some, Option.toList_none, List.cons_append, List.nil_append, Option.map_some, Option.map_none, eq_self, if_true, if_false, reduceIte, ai_bi_eq0, ai_bi_eq1, ai_pb_bi, ai_pb_0, ai_pb_1, r_12_0, r_12_1, r_12_4, r_12_5, r_12_6, r_12_9, r_12_10, r_12_13, r_12_14, r_12_17, r_12_18, r_12_19, r_12_22, r_12_23, f1, f2, f3]
  unfold ai_rg ai_ix
  by_cases c1 : i < 0
  · simp only [c1, if_true]
  · obtain ⟨j, hj, rfl⟩ := nI_of c1
    simp only [c1, if_false, false_or, nI_clamp hj]
    by_cases c2 : j < n
    · have c3 : nI j < nI n := nI_lt c2 hn
      simp only [c2, c3, if_true, if_neg (Nat.not_le.mpr c2), Option.map_some, Option.bind_some]
    · have c3 : ¬ nI j < nI n := nI_nlt (by omega) hj
      simp only [c2, c3, if_false]
theorem x_set {ws : ai_W} {r a n : Nat} {f : Nat → Int32} (h1 : ws[r]? = some (.inr (.inr (8, [.ref a])))) (h2 : ws[a]? = some (.inl (ai_t n f))) (hn : n < 2 ^ 31) {j : Nat} (hj : j < n) (v : Int32) : ai_Call 29 [.ref r, .int (nI j), .int v] ws = some (none, ws.set a (.inl (ai_t n (upd f j v)))) := by
  have f1 : ai_fget ws r 8 0 = some (.ref a) := ai_fget_of h1
  have f2 : ai_len ws a = some (nI n) := by unfold ai_len; rw [h2]; simp only [ai_t_len]; rfl
  have f3 : ai_aset ws a (nI j) v = some (ws.set a (.inl (ai_t n (upd f j v)))) := by rw [ai_aset_of h2, ai_ix_nI hj hn]; rfl
  have c1 : ¬ nI j < 0 := nI_pos (by omega)
  have c3 : nI j < nI n := nI_lt hj hn
  simp only [e_29, ai_isob_of h1, Option.bind_some, Option.bind_none, Option.toList_some, Option.toList_none, List.cons_append, List.nil_append, Option.map_some, Option.map_none, eq_self, if_true, if_false, reduceIte, ai_bi_eq0, ai_bi_eq1, ai_pb_bi, ai_pb_0, ai_pb_1, r_29_0, r_29_1, r_29_4, r_29_5, r_29_6, r_29_9, r_29_10, r_29_13, r_29_14, r_29_17, r_29_18, r_29_19, r_29_20, f1, f2, f3, c1, c3]
theorem x_copy {ws : ai_W} {r a q d n : Nat} {f g : Nat → Int32} (h1 : ws[r]? = some (.inr (.inr (8, [.ref a])))) (h2 : ws[a]? = some (.inl (ai_t n f))) (h3 : ws[q]? = some (.inr (.inr (8, [.ref d])))) (h4 : ws[d]? = some (.inl (ai_t n g))) (hn : n < 2 ^ 31) : ai_Call 43 [.ref r, .ref q] ws = some (none, ws.set a (.inl (ai_t n g))) := by
  have f1 : ai_fget ws r 8 0 = some (.ref a) := ai_fget_of h1
  have f2 : ai_len ws a = some (nI n) := by unfold ai_len; rw [h2]; simp only [ai_t_len]; rfl
  have f3 : ai_fget ws q 8 0 = some (.ref d) := ai_fget_of h3
  have f4 : ai_len ws d = some (nI n) := by unfold ai_len; rw [h4]; simp only [ai_t_len]; rfl
  have f5 : ai_copy ws d 0 a 0 (nI n) = some (ws.set a (.inl (ai_t n g))) := by
    unfold ai_copy
    rw [h4, h2]
    simp only [ai_t_len, nI_clamp hn]
    simp [nI_pos hn]
  have f5 := ai_cpy_i f5
  have f6 : ai_Call 42 [.int (nI n), .int (nI n)] ws = some (some (.int (nI n)), ws) := by
    have c : ¬ nI n < nI n := nI_nlt (Nat.le_refl _) hn
    simp only [e_42, r_42_0, r_42_1, r_42_2, r_42_5, r_42_6, r_42_9, r_42_10, Option.bind_some, Option.bind_none, Option.toList_some, Option.toList_none, List.cons_append, List.nil_append, Option.map_some, Option.map_none, eq_self, if_true, if_false, reduceIte, ai_bi_eq0, ai_bi_eq1, ai_pb_bi, ai_pb_0, ai_pb_1, c]
  simp only [e_43, ai_isob_of h1, Option.bind_some, Option.bind_none, Option.toList_some, Option.toList_none, List.cons_append, List.nil_append, Option.map_some, Option.map_none, eq_self, if_true, if_false, reduceIte, ai_bi_eq0, ai_bi_eq1, ai_pb_bi, ai_pb_0, ai_pb_1, r_43_0, r_43_1, r_43_4, r_43_5, r_43_6, r_43_9, r_43_10, r_43_13, r_43_14, r_43_15, r_43_18, r_43_19, r_43_20, r_43_23, r_43_24, r_43_25, rx_43_25, r_43_28, f1, f2, f3, f4, f5, f6]
theorem x_get_tu (w : xw_W) (i : Int32) : ai_Call 12 [.ref 2, .int i] (wl w) = some (some (.int (ai_rg 8 (xb_tu (xw_b w)) i)), wl w) := x_get (g_2 w) (g_3 w) (by decide) i
theorem x_set_tu (w : xw_W) {j : Nat} (hj : j < 8) (v : Int32) : ai_Call 29 [.ref 2, .int (nI j), .int v] (wl w) = some (none, wl (xw_wb w (xb_wtu (xw_b w) (upd (xb_tu (xw_b w)) j v)))) := by rw [x_set (g_2 w) (g_3 w) (by decide) hj v, s_3]
theorem x_get_ch (w : xw_W) (i : Int32) : ai_Call 12 [.ref 4, .int i] (wl w) = some (some (.int (ai_rg 48 (xb_ch (xw_b w)) i)), wl w) := x_get (g_4 w) (g_5 w) (by decide) i
theorem x_set_ch (w : xw_W) {j : Nat} (hj : j < 48) (v : Int32) : ai_Call 29 [.ref 4, .int (nI j), .int v] (wl w) = some (none, wl (xw_wb w (xb_wch (xw_b w) (upd (xb_ch (xw_b w)) j v)))) := by rw [x_set (g_4 w) (g_5 w) (by decide) hj v, s_5]
theorem x_get_cu (w : xw_W) (i : Int32) : ai_Call 12 [.ref 6, .int i] (wl w) = some (some (.int (ai_rg 24 (xb_cu (xw_b w)) i)), wl w) := x_get (g_6 w) (g_7 w) (by decide) i
theorem x_set_cu (w : xw_W) {j : Nat} (hj : j < 24) (v : Int32) : ai_Call 29 [.ref 6, .int (nI j), .int v] (wl w) = some (none, wl (xw_wb w (xb_wcu (xw_b w) (upd (xb_cu (xw_b w)) j v)))) := by rw [x_set (g_6 w) (g_7 w) (by decide) hj v, s_7]
theorem x_get_wr (w : xw_W) (i : Int32) : ai_Call 12 [.ref 8, .int i] (wl w) = some (some (.int (ai_rg 31 (xb_wr (xw_b w)) i)), wl w) := x_get (g_8 w) (g_9 w) (by decide) i
theorem x_set_wr (w : xw_W) {j : Nat} (hj : j < 31) (v : Int32) : ai_Call 29 [.ref 8, .int (nI j), .int v] (wl w) = some (none, wl (xw_wb w (xb_wwr (xw_b w) (upd (xb_wr (xw_b w)) j v)))) := by rw [x_set (g_8 w) (g_9 w) (by decide) hj v, s_9]
theorem x_get_sw (w : xw_W) (i : Int32) : ai_Call 12 [.ref 10, .int i] (wl w) = some (some (.int (ai_rg 4 (xb_sw (xw_b w)) i)), wl w) := x_get (g_10 w) (g_11 w) (by decide) i
theorem x_set_sw (w : xw_W) {j : Nat} (hj : j < 4) (v : Int32) : ai_Call 29 [.ref 10, .int (nI j), .int v] (wl w) = some (none, wl (xw_wb w (xb_wsw (xw_b w) (upd (xb_sw (xw_b w)) j v)))) := by rw [x_set (g_10 w) (g_11 w) (by decide) hj v, s_11]
theorem x_get_mo (w : xw_W) (i : Int32) : ai_Call 12 [.ref 12, .int i] (wl w) = some (some (.int (ai_rg 64 (xb_mo (xw_b w)) i)), wl w) := x_get (g_12 w) (g_13 w) (by decide) i
theorem x_set_mo (w : xw_W) {j : Nat} (hj : j < 64) (v : Int32) : ai_Call 29 [.ref 12, .int (nI j), .int v] (wl w) = some (none, wl (xw_wb w (xb_wmo (xw_b w) (upd (xb_mo (xw_b w)) j v)))) := by rw [x_set (g_12 w) (g_13 w) (by decide) hj v, s_13]
theorem x_get_se (w : xw_W) (i : Int32) : ai_Call 12 [.ref 14, .int i] (wl w) = some (some (.int (ai_rg 7 (xb_se (xw_b w)) i)), wl w) := x_get (g_14 w) (g_15 w) (by decide) i
theorem x_set_se (w : xw_W) {j : Nat} (hj : j < 7) (v : Int32) : ai_Call 29 [.ref 14, .int (nI j), .int v] (wl w) = some (none, wl (xw_wb w (xb_wse (xw_b w) (upd (xb_se (xw_b w)) j v)))) := by rw [x_set (g_14 w) (g_15 w) (by decide) hj v, s_15]
theorem x_get_ky (w : xw_W) (i : Int32) : ai_Call 12 [.ref 20, .int i] (wl w) = some (some (.int (ai_rg 8 (xw_ky w) i)), wl w) := x_get (g_20 w) (g_21 w) (by decide) i
theorem x_set_ky (w : xw_W) {j : Nat} (hj : j < 8) (v : Int32) : ai_Call 29 [.ref 20, .int (nI j), .int v] (wl w) = some (none, wl (xw_wky w (upd (xw_ky w) j v))) := by rw [x_set (g_20 w) (g_21 w) (by decide) hj v, s_21]
theorem x_get_co (w : xw_W) (i : Int32) : ai_Call 12 [.ref 176, .int i] (wl w) = some (some (.int (ai_rg 70 (xw_co w) i)), wl w) := x_get (g_176 w) (g_177 w) (by decide) i
theorem x_set_co (w : xw_W) {j : Nat} (hj : j < 70) (v : Int32) : ai_Call 29 [.ref 176, .int (nI j), .int v] (wl w) = some (none, wl (xw_wco w (upd (xw_co w) j v))) := by rw [x_set (g_176 w) (g_177 w) (by decide) hj v, s_177]
theorem x_get_ki (w : xw_W) (i : Int32) : ai_Call 12 [.ref 178, .int i] (wl w) = some (some (.int (ai_rg 35 (xw_ki w) i)), wl w) := x_get (g_178 w) (g_179 w) (by decide) i
theorem x_set_ki (w : xw_W) {j : Nat} (hj : j < 35) (v : Int32) : ai_Call 29 [.ref 178, .int (nI j), .int v] (wl w) = some (none, wl (xw_wki w (upd (xw_ki w) j v))) := by rw [x_set (g_178 w) (g_179 w) (by decide) hj v, s_179]
theorem x_get_ar (w : xw_W) (i : Int32) : ai_Call 12 [.ref 180, .int i] (wl w) = some (some (.int (ai_rg 105 (xw_ar w) i)), wl w) := x_get (g_180 w) (g_181 w) (by decide) i
theorem x_set_ar (w : xw_W) {j : Nat} (hj : j < 105) (v : Int32) : ai_Call 29 [.ref 180, .int (nI j), .int v] (wl w) = some (none, wl (xw_war w (upd (xw_ar w) j v))) := by rw [x_set (g_180 w) (g_181 w) (by decide) hj v, s_181]
theorem x_get_li (w : xw_W) (i : Int32) : ai_Call 12 [.ref 183, .int i] (wl w) = some (some (.int (ai_rg 40 (xw_li w) i)), wl w) := x_get (g_183 w) (g_184 w) (by decide) i
theorem x_set_li (w : xw_W) {j : Nat} (hj : j < 40) (v : Int32) : ai_Call 29 [.ref 183, .int (nI j), .int v] (wl w) = some (none, wl (xw_wli w (upd (xw_li w) j v))) := by rw [x_set (g_183 w) (g_184 w) (by decide) hj v, s_184]

