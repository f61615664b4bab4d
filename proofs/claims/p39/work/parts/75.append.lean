/-! What the text methods do. -/
section TX
variable {ws : ai_W} {p q : Nat} {t : List Nat}
theorem st_0 {r s : Nat} {u : List Nat} (h : stg ws r s u) : ai_isob ws r 12 = true ∧ ai_fget ws r 12 0 = some (.ref s) ∧ ai_fget ws r 12 1 = some (.int 0) ∧ ai_len ws s = some (nI u.length) := by
  obtain ⟨h1, -, -, fs, h2, h3⟩ := h
  refine ⟨ai_isob_of h1, ai_fget_of h1, ai_fget_of h1, ?_⟩
  unfold ai_len
  rw [h2]
  show (if 77 = 77 then some (Int32.ofNat fs.length) else none) = _
  rw [if_pos rfl, h3.1]
  rfl
theorem s_1len {r s : Nat} {u : List Nat} (h : stg ws r s u) : ai_Call 170 [.ref r] ws = some (some (.int 0), ws) ∧ ai_Call 171 [.ref r] ws = some (some (.int (nI u.length)), ws) := by
  obtain ⟨h0, h1, h2, h3⟩ := st_0 h
  have ec : ai_Call 170 [.ref r] ws = some (some (.int 0), ws) := by
    simp only [e_170, h0, r_170_0, r_170_3, r_170_6, rx_170_6, r_170_7, rx_170_7, r_170_10, r_170_13, r_170_14, Option.bind_some, Option.bind_none, Option.toList_some, Option.toList_none, List.cons_append, List.nil_append, Option.map_some, Option.map_none, eq_self, if_true, if_false, reduceIte, ai_bi_eq0, ai_bi_eq1, ai_pb_bi, ai_pb_0, ai_pb_1, h2, show ¬ (1 : Int32) = 0 by decide, show ai_pbyte 0 = true by decide]
  refine ⟨ec, ?_⟩
  simp only [e_171, h0, r_171_0, rx_171_0, r_171_1, rx_171_1, r_171_4, rx_171_4, r_171_5, rx_171_5, r_171_6, r_171_9, r_171_10, Option.bind_some, Option.bind_none, Option.toList_some, Option.toList_none, List.cons_append, List.nil_append, Option.map_some, Option.map_none, eq_self, if_true, if_false, reduceIte, ai_bi_eq0, ai_bi_eq1, ai_pb_bi, ai_pb_0, ai_pb_1, h1, h3, ec, shr0]
theorem tx_get {k : Nat} (h1 : 1 ≤ k) (h2 : k ≤ 10) (h : sb ws p q t) (hl : t.length + (ctx k).length ≤ 16) : ∃ fs, bt fs 16 (t ++ ctx k) ∧ ai_Call 174 [.retAddr k, .ref q, .int (nI t.length), .int 0] ws = some (none, ws.set q (ob 77 fs)) := by
  have x0 : ai_xget k 12 0 = some (.retAddr (k + 10)) := by unfold ai_xget; rw [if_pos ⟨h1, h2, rfl⟩]; rfl
  obtain ⟨hb, hu, -⟩ := ctx_all k (by omega) h1
  have xl : ai_xlen (k + 10) = some (nI (ctx k).length) := by
    unfold ai_xlen
    rw [if_neg (by omega), if_pos ⟨by omega, by omega⟩, hb]
    show some (Int32.ofNat ((ctx k).map nI).length) = _
    rw [List.length_map]
    rfl
  obtain ⟨-, -, -, gs, g2, g3⟩ := h
  have hf : ∀ (j c : Nat), (ctx k)[j]? = some c → (((ctx k).map nI).map Value.int)[j]? = some (.int (nI c)) := by
    intro j c hj
    rw [List.getElem?_map, List.getElem?_map, hj]
    rfl
  have hfb : ∀ (j : Nat) (v : Value), (((ctx k).map nI).map Value.int)[j]? = some v → ai_fb8 v = true := by
    intro j v hj
    rw [List.getElem?_map, List.getElem?_map] at hj
    cases hc : (ctx k)[j]? with
    | none => rw [hc] at hj; cases hj
    | some c =>
      rw [hc] at hj
      have e := Option.some.inj hj
      rw [← e]
      have hm := hu c (List.mem_iff_getElem?.mpr ⟨j, hc⟩)
      exact (ch_all c (by omega)).1
  have xc : ai_cpx (k + 10) ws 0 q (nI t.length) (nI (ctx k).length) = some (ws.set q (ob 77 (ai_lay (((ctx k).map nI).map Value.int) gs 0 t.length (ctx k).length))) := by
    unfold ai_cpx
    rw [if_pos ⟨by omega, by omega⟩, hb]
    exact bcopy_of g2 (fb_all hfb) (by rw [List.length_map, List.length_map]; exact Nat.le_refl _) (by rw [g3.1]; exact hl) (by rw [g3.1]; exact Nat.le_refl _)
  have n1 : ¬ k = 23 := by omega
  have n2 : ¬ k + 10 = 23 := by omega
  refine ⟨_, bt_lay g3 hu hf hl, ?_⟩
  simp only [ex_174 h1 h2, r_174_0, rx_174_0, r_174_1, r_174_4, r_174_5, r_174_8, rx_174_8, r_174_9, rx_174_9, r_174_12, r_174_13, rx_174_13, r_174_14, r_174_15, r_174_16, r_174_17, rx_174_17, r_174_18, rx_174_18, r_174_21, rx_174_21, r_174_22, rx_174_22, r_174_25, r_174_28, rx_174_28, r_174_29, rx_174_29, r_174_32, r_174_33, rx_174_33, r_174_34, r_174_35, rx_174_35, r_174_36, rx_174_36, r_174_39, rx_174_39, r_174_43, Option.bind_some, Option.bind_none, Option.toList_some, Option.toList_none, List.cons_append, List.nil_append, Option.map_some, Option.map_none, eq_self, if_true, if_false, reduceIte, ai_bi_eq0, ai_bi_eq1, ai_pb_bi, ai_pb_0, ai_pb_1, (x_1len h1 h2 ws).1, x0, xl, n1, n2, not_false_eq_true, shl0, xc]
theorem s_get {r s : Nat} {u : List Nat} (hs : stg ws r s u) (hsq : ¬ s = q) (h : sb ws p q t) (hl : t.length + u.length ≤ 16) : ∃ fs, bt fs 16 (t ++ u) ∧ ai_Call 174 [.ref r, .ref q, .int (nI t.length), .int 0] ws = some (none, ws.set q (ob 77 fs)) := by
  obtain ⟨h0, h1, h2, h3⟩ := st_0 hs
  have e0 := (s_1len hs).1
  obtain ⟨k1, -, hu, fs, k2, k3⟩ := hs
  obtain ⟨-, j1, -, gs, g2, g3⟩ := h
  have xc : ai_cpy ws s 0 q (nI t.length) (nI u.length) = some (ws.set q (ob 77 (ai_lay fs gs 0 t.length u.length))) := by
    have e1 : ai_copy ws s 0 q (nI t.length) (nI u.length) = none := by
      unfold ai_copy
      rw [k2]
      rfl
    unfold ai_cpy
    rw [e1]
    unfold ai_cpb
    rw [k2]
    show (if 77 = 77 ∧ ¬ s = q then ai_bcopy fs ws 0 q (nI t.length) (nI u.length) else none) = _
    rw [if_pos ⟨rfl, hsq⟩]
    exact bcopy_of g2 (fb_all k3.2.2.1) (by rw [k3.1]; exact Nat.le_refl _) (by rw [g3.1]; exact hl) (by rw [g3.1]; exact Nat.le_refl _)
  refine ⟨_, bt_lay g3 hu k3.2.2.2 hl, ?_⟩
  simp only [e_174, h0, r_174_0, rx_174_0, r_174_1, r_174_4, r_174_5, r_174_8, rx_174_8, r_174_9, rx_174_9, r_174_12, r_174_13, rx_174_13, r_174_14, r_174_15, r_174_16, r_174_17, rx_174_17, r_174_18, rx_174_18, r_174_21, rx_174_21, r_174_22, rx_174_22, r_174_25, r_174_28, rx_174_28, r_174_29, rx_174_29, r_174_32, r_174_33, rx_174_33, r_174_34, r_174_35, rx_174_35, r_174_36, rx_174_36, r_174_39, rx_174_39, r_174_43, Option.bind_some, Option.bind_none, Option.toList_some, Option.toList_none, List.cons_append, List.nil_append, Option.map_some, Option.map_none, eq_self, if_true, if_false, reduceIte, ai_bi_eq0, ai_bi_eq1, ai_pb_bi, ai_pb_0, ai_pb_1, e0, h1, h3, shl0, xc]

theorem a_constant {k : Nat} (h1 : 1 ≤ k) (h2 : k ≤ 10) (h : sb ws p q t) (hl : t.length + (ctx k).length ≤ 16) : ∃ ws2, ai_Call 177 [.ref p, .retAddr k] ws = some (some (.ref p), ws2) ∧ sb ws2 p q (t ++ ctx k) ∧ sm p q ws ws2 := by
  obtain ⟨h0, f0, f1, f3, f4⟩ := sb_0 h
  obtain ⟨fs, hb, eg⟩ := tx_get h1 h2 h hl
  have n1 : ¬ k = 23 := by omega
  have ecap := a_cap h (m := t.length + (ctx k).length) hl
  have einf : ai_Call 173 [.ref p, .retAddr k] ws = some (none, ws) := by
    simp only [ex_173, h0, r_173_0, r_173_3, r_173_6, rx_173_6, r_173_7, r_173_10, rx_173_10, r_173_11, r_173_14, r_173_17, rx_173_17, r_173_21, Option.bind_some, Option.bind_none, Option.toList_some, Option.toList_none, List.cons_append, List.nil_append, Option.map_some, Option.map_none, eq_self, if_true, if_false, reduceIte, ai_bi_eq0, ai_bi_eq1, ai_pb_bi, ai_pb_0, ai_pb_1, f1, (x_1len h1 h2 ws).1, n1, not_false_eq_true, show ¬ (1 : Int32) = 0 by decide]
  have eput : ai_Call 175 [.ref p, .int (nI t.length), .retAddr k] ws = some (none, ws.set q (ob 77 fs)) := by
    simp only [ex_175, h0, r_175_0, rx_175_0, r_175_1, rx_175_1, r_175_2, r_175_5, rx_175_5, r_175_6, rx_175_6, r_175_7, r_175_10, r_175_11, rx_175_11, r_175_12, r_175_15, r_175_18, Option.bind_some, Option.bind_none, Option.toList_some, Option.toList_none, List.cons_append, List.nil_append, Option.map_some, Option.map_none, eq_self, if_true, if_false, reduceIte, ai_bi_eq0, ai_bi_eq1, ai_pb_bi, ai_pb_0, ai_pb_1, einf, f0, f1, eg, n1, not_false_eq_true]
  obtain ⟨g0, -, -, g3, -⟩ := sb_0 (sb_1 h hb)
  obtain ⟨ws2, ep, r1, r2⟩ := sb_2 h hb ((ctx_all k (by omega) h1).2.1)
  rw [List.length_append] at ep
  have easb : ai_Call 176 [.ref p, .retAddr k] ws = some (some (.ref p), ws2) := by
    simp only [ex_176, h0, r_176_0, rx_176_0, r_176_1, rx_176_1, r_176_4, rx_176_4, r_176_9, rx_176_9, r_176_10, r_176_13, r_176_14, rx_176_14, r_176_15, rx_176_15, r_176_16, r_176_19, r_176_20, r_176_21, r_176_24, rx_176_24, r_176_25, rx_176_25, r_176_26, r_176_29, rx_176_29, r_176_30, r_176_33, rx_176_33, r_176_34, r_176_35, r_176_38, r_176_39, r_176_40, r_176_43, rx_176_43, r_176_44, Option.bind_some, Option.bind_none, Option.toList_some, Option.toList_none, List.cons_append, List.nil_append, Option.map_some, Option.map_none, eq_self, if_true, if_false, reduceIte, ai_bi_eq0, ai_bi_eq1, ai_pb_bi, ai_pb_0, ai_pb_1, (x_1len h1 h2 ws).2, f3, nI_add, ecap, eput, g3, ep, n1, not_false_eq_true]
  refine ⟨ws2, ?_, r1, r2⟩
  simp only [ex_177, h0, r_177_0, rx_177_0, r_177_1, rx_177_1, r_177_2, r_177_5, r_177_6, rx_177_6, r_177_7, Option.bind_some, Option.bind_none, Option.toList_some, Option.toList_none, List.cons_append, List.nil_append, Option.map_some, Option.map_none, eq_self, if_true, if_false, reduceIte, ai_bi_eq0, ai_bi_eq1, ai_pb_bi, ai_pb_0, ai_pb_1, easb, n1, not_false_eq_true]
theorem a_string {r s : Nat} {u : List Nat} (hs : stg ws r s u) (hsq : ¬ s = q) (h : sb ws p q t) (hl : t.length + (u).length ≤ 16) : ∃ ws2, ai_Call 177 [.ref p, .ref r] ws = some (some (.ref p), ws2) ∧ sb ws2 p q (t ++ u) ∧ sm p q ws ws2 := by
  obtain ⟨h0, f0, f1, f3, f4⟩ := sb_0 h
  obtain ⟨fs, hb, eg⟩ := s_get hs hsq h hl
  have ecap := a_cap h (m := t.length + (u).length) hl
  have einf : ai_Call 173 [.ref p, .ref r] ws = some (none, ws) := by
    simp only [e_173, h0, r_173_0, r_173_3, r_173_6, rx_173_6, r_173_7, r_173_10, rx_173_10, r_173_11, r_173_14, r_173_17, rx_173_17, r_173_21, Option.bind_some, Option.bind_none, Option.toList_some, Option.toList_none, List.cons_append, List.nil_append, Option.map_some, Option.map_none, eq_self, if_true, if_false, reduceIte, ai_bi_eq0, ai_bi_eq1, ai_pb_bi, ai_pb_0, ai_pb_1, f1, (s_1len hs).1, show ¬ (1 : Int32) = 0 by decide]
  have eput : ai_Call 175 [.ref p, .int (nI t.length), .ref r] ws = some (none, ws.set q (ob 77 fs)) := by
    simp only [e_175, h0, r_175_0, rx_175_0, r_175_1, rx_175_1, r_175_2, r_175_5, rx_175_5, r_175_6, rx_175_6, r_175_7, r_175_10, r_175_11, rx_175_11, r_175_12, r_175_15, r_175_18, Option.bind_some, Option.bind_none, Option.toList_some, Option.toList_none, List.cons_append, List.nil_append, Option.map_some, Option.map_none, eq_self, if_true, if_false, reduceIte, ai_bi_eq0, ai_bi_eq1, ai_pb_bi, ai_pb_0, ai_pb_1, einf, f0, f1, eg]
  obtain ⟨g0, -, -, g3, -⟩ := sb_0 (sb_1 h hb)
  obtain ⟨ws2, ep, r1, r2⟩ := sb_2 h hb (hs.2.2.1)
  rw [List.length_append] at ep
  have easb : ai_Call 176 [.ref p, .ref r] ws = some (some (.ref p), ws2) := by
    simp only [e_176, h0, r_176_0, rx_176_0, r_176_1, rx_176_1, r_176_4, rx_176_4, r_176_9, rx_176_9, r_176_10, r_176_13, r_176_14, rx_176_14, r_176_15, rx_176_15, r_176_16, r_176_19, r_176_20, r_176_21, r_176_24, rx_176_24, r_176_25, rx_176_25, r_176_26, r_176_29, rx_176_29, r_176_30, r_176_33, rx_176_33, r_176_34, r_176_35, r_176_38, r_176_39, r_176_40, r_176_43, rx_176_43, r_176_44, Option.bind_some, Option.bind_none, Option.toList_some, Option.toList_none, List.cons_append, List.nil_append, Option.map_some, Option.map_none, eq_self, if_true, if_false, reduceIte, ai_bi_eq0, ai_bi_eq1, ai_pb_bi, ai_pb_0, ai_pb_1, (s_1len hs).2, f3, nI_add, ecap, eput, g3, ep]
  refine ⟨ws2, ?_, r1, r2⟩
  simp only [e_177, h0, r_177_0, rx_177_0, r_177_1, rx_177_1, r_177_2, r_177_5, r_177_6, rx_177_6, r_177_7, Option.bind_some, Option.bind_none, Option.toList_some, Option.toList_none, List.cons_append, List.nil_append, Option.map_some, Option.map_none, eq_self, if_true, if_false, reduceIte, ai_bi_eq0, ai_bi_eq1, ai_pb_bi, ai_pb_0, ai_pb_1, easb]
/-- the characters of a number below 100 -/
def dg (v : Nat) : List Nat := if v < 10 then [48 + v] else [48 + v / 10, 48 + v % 10]
theorem dg_len (v : Nat) : (dg v).length = if v < 10 then 1 else 2 := by unfold dg; split <;> rfl
theorem num_all : ∀ v, v < 100 → (v < 10 → (-10 : Int32) < -(nI v) ∧ ¬ -(nI v) < -9) ∧ (10 ≤ v → ¬ (-10 : Int32) < -(nI v) ∧ -(nI v) < -9) ∧ (-100 : Int32) < -(nI v) ∧ -(-(nI v)) = nI v ∧ ai_xbget 21 (nI v) = some (nI (48 + v % 10)) ∧ ai_xbget 22 (nI v) = some (nI (48 + v / 10)) := by
  have h : (List.range 100).all (fun v => (decide (10 ≤ v) || (decide ((-10 : Int32) < -(nI v)) && !decide (-(nI v) < (-9 : Int32)))) && (decide (v < 10) || (!decide ((-10 : Int32) < -(nI v)) && decide (-(nI v) < (-9 : Int32)))) && decide ((-100 : Int32) < -(nI v)) && decide (-(-(nI v)) = nI v) && decide (ai_xbget 21 (nI v) = some (nI (48 + v % 10))) && decide (ai_xbget 22 (nI v) = some (nI (48 + v / 10)))) = true := by decide +kernel
  intro v hv
  have := List.all_eq_true.mp h v (List.mem_range.mpr hv)
  simp only [Bool.and_eq_true, Bool.or_eq_true, decide_eq_true_eq, Bool.not_eq_true', decide_eq_false_iff_not] at this
  obtain ⟨⟨⟨⟨⟨a1, a2⟩, a3⟩, a4⟩, a5⟩, a6⟩ := this
  refine ⟨fun z => ?_, fun z => ?_, a3, a4, a5, a6⟩
  · rcases a1 with y | y
    · omega
    · exact y
  · rcases a2 with y | y
    · omega
    · exact y
theorem a_size {v : Nat} (hv : v < 100) (ws : ai_W) : ai_Call 178 [.int (nI v)] ws = some (some (.int (nI (dg v).length)), ws) := by
  obtain ⟨a1, a2, a3, -, -, -⟩ := num_all v hv
  have c0 : ¬ nI v < 0 := nI_pos (by omega)
  rw [dg_len]
  by_cases z : v < 10
  · have c1 := (a1 z).1
    rw [if_pos z]
    simp only [e_178, r_178_0, r_178_1, r_178_2, r_178_3, r_178_6, r_178_7, r_178_8, r_178_9, r_178_10, r_178_11, r_178_13, r_178_14, r_178_15, r_178_17, r_178_19, r_178_22, r_178_23, r_178_24, r_178_27, r_178_28, r_178_29, r_178_30, r_178_31, r_178_33, r_178_34, r_178_35, r_178_36, r_178_39, r_178_42, r_178_44, r_178_45, r_178_46, Option.bind_some, Option.bind_none, Option.toList_some, Option.toList_none, List.cons_append, List.nil_append, Option.map_some, Option.map_none, eq_self, if_true, if_false, reduceIte, ai_bi_eq0, ai_bi_eq1, ai_pb_bi, ai_pb_0, ai_pb_1, c0]
    rw [r_178_16]
    simp only [r_178_0, r_178_1, r_178_2, r_178_3, r_178_6, r_178_7, r_178_8, r_178_9, r_178_10, r_178_11, r_178_13, r_178_14, r_178_15, r_178_17, r_178_19, r_178_22, r_178_23, r_178_24, r_178_27, r_178_28, r_178_29, r_178_30, r_178_31, r_178_33, r_178_34, r_178_35, r_178_36, r_178_39, r_178_42, r_178_44, r_178_45, r_178_46, Option.bind_some, Option.bind_none, Option.toList_some, Option.toList_none, List.cons_append, List.nil_append, Option.map_some, Option.map_none, eq_self, if_true, if_false, reduceIte, ai_bi_eq0, ai_bi_eq1, ai_pb_bi, ai_pb_0, ai_pb_1, c1, show (1 : Int32) < 10 by decide]
    rfl
  · have c1 := (a2 (by omega)).1
    rw [if_neg z]
    simp only [e_178, r_178_0, r_178_1, r_178_2, r_178_3, r_178_6, r_178_7, r_178_8, r_178_9, r_178_10, r_178_11, r_178_13, r_178_14, r_178_15, r_178_17, r_178_19, r_178_22, r_178_23, r_178_24, r_178_27, r_178_28, r_178_29, r_178_30, r_178_31, r_178_33, r_178_34, r_178_35, r_178_36, r_178_39, r_178_42, r_178_44, r_178_45, r_178_46, Option.bind_some, Option.bind_none, Option.toList_some, Option.toList_none, List.cons_append, List.nil_append, Option.map_some, Option.map_none, eq_self, if_true, if_false, reduceIte, ai_bi_eq0, ai_bi_eq1, ai_pb_bi, ai_pb_0, ai_pb_1, c0]
    rw [r_178_16]
    simp only [r_178_0, r_178_1, r_178_2, r_178_3, r_178_6, r_178_7, r_178_8, r_178_9, r_178_10, r_178_11, r_178_13, r_178_14, r_178_15, r_178_17, r_178_19, r_178_22, r_178_23, r_178_24, r_178_27, r_178_28, r_178_29, r_178_30, r_178_31, r_178_33, r_178_34, r_178_35, r_178_36, r_178_39, r_178_42, r_178_44, r_178_45, r_178_46, Option.bind_some, Option.bind_none, Option.toList_some, Option.toList_none, List.cons_append, List.nil_append, Option.map_some, Option.map_none, eq_self, if_true, if_false, reduceIte, ai_bi_eq0, ai_bi_eq1, ai_pb_bi, ai_pb_0, ai_pb_1, c1, show (1 : Int32) < 10 by decide, show (10 : Int32) * -10 = -100 by decide]
    rw [r_178_16]
    simp only [r_178_0, r_178_1, r_178_2, r_178_3, r_178_6, r_178_7, r_178_8, r_178_9, r_178_10, r_178_11, r_178_13, r_178_14, r_178_15, r_178_17, r_178_19, r_178_22, r_178_23, r_178_24, r_178_27, r_178_28, r_178_29, r_178_30, r_178_31, r_178_33, r_178_34, r_178_35, r_178_36, r_178_39, r_178_42, r_178_44, r_178_45, r_178_46, Option.bind_some, Option.bind_none, Option.toList_some, Option.toList_none, List.cons_append, List.nil_append, Option.map_some, Option.map_none, eq_self, if_true, if_false, reduceIte, ai_bi_eq0, ai_bi_eq1, ai_pb_bi, ai_pb_0, ai_pb_1, show (1 : Int32) + 1 < 10 by decide, a3]
    rfl
theorem bt_set1 {g : List Value} {c : Nat} (h : bt g 16 t) (hc : c < 127) (hl : t.length < 16) : bt (g.set t.length (.int (nI c))) 16 (t ++ [c]) := by
  obtain ⟨h1, h2, h3, h4⟩ := h
  refine ⟨by rw [List.length_set]; exact h1, by rw [List.length_append]; exact hl, fun j v hj => ?_, fun j d hj => ?_⟩
  · by_cases z : j = t.length
    · subst z
      rw [List.getElem?_set_self (by omega)] at hj
      rw [← Option.some.inj hj]
      exact (ch_all c hc).1
    · rw [List.getElem?_set_ne (fun e => z e.symm)] at hj
      exact h3 j v hj
  · by_cases z : j = t.length
    · subst z
      rw [List.getElem?_append_right (Nat.le_refl _), Nat.sub_self] at hj
      have e : c = d := Option.some.inj hj
      rw [List.getElem?_set_self (by omega), e]
    · have hjl := (List.getElem?_eq_some_iff.mp hj).1
      rw [List.length_append, List.length_singleton] at hjl
      rw [List.getElem?_append_left (by omega)] at hj
      rw [List.getElem?_set_ne (fun e => z e.symm)]
      exact h4 j d hj
theorem nI_dec (n : Nat) : nI (n + 1) + (-1) = nI n := by
  rw [← nI_pred n, Int32.sub_eq_add_neg]
theorem bset_of {fs : List Value} {j c : Nat} (hq : ws[q]? = some (ob 77 fs)) (hj : j < fs.length) (hf : fs.length = 16) (hc : c < 127) : ai_bset ws q (nI j) (nI c) = some (ws.set q (ob 77 (fs.set j (.int (nI c))))) := by
  unfold ai_bset
  rw [hq]
  show (if 77 = 77 then (ai_ix (nI j) fs.length).map fun j => ws.set q (.inr (.inr (77, fs.set j (.int (nI c).toInt8.toInt32)))) else none) = _
  rw [if_pos rfl, ai_ix_nI hj (by omega), (ch_all c hc).2.1]
  rfl
theorem a_chars (h : sb ws p q t) {v : Nat} (hv : v < 100) (hl : t.length + (dg v).length ≤ 16) : ∃ fs, bt fs 16 (t ++ dg v) ∧ ai_Call 180 [.int (nI v), .int (nI (t.length + (dg v).length)), .ref q] ws = some (some (.int (nI t.length)), ws.set q (ob 77 fs)) := by
  obtain ⟨a1, a2, a3, a4, a5, a6⟩ := num_all v hv
  have c0 : ¬ nI v < 0 := nI_pos (by omega)
  obtain ⟨-, -, -, gs, g2, g3⟩ := h
  have h10 : v % 10 < 10 := Nat.mod_lt _ (by decide)
  rw [dg_len] at hl ⊢
  unfold dg
  by_cases z : v < 10
  · have c1 := (a1 z).2
    rw [if_pos z] at hl ⊢
    have em : v % 10 = v := Nat.mod_eq_of_lt z
    rw [em] at a5
    have b1 := bset_of (c := 48 + v) g2 (show t.length < gs.length by rw [g3.1]; omega) g3.1 (by omega)
    rw [if_pos z]
    refine ⟨_, bt_set1 (c := 48 + v) g3 (by omega) (by omega), ?_⟩
    simp only [e_180, r_180_0, r_180_1, r_180_3, r_180_4, r_180_7, r_180_8, r_180_11, r_180_12, r_180_14, r_180_16, r_180_19, r_180_20, r_180_21, r_180_23, r_180_25, r_180_28, r_180_29, r_180_31, r_180_32, r_180_33, r_180_34, r_180_36, r_180_37, r_180_38, r_180_39, r_180_41, r_180_42, r_180_43, rx_180_43, r_180_44, r_180_47, r_180_49, r_180_52, r_180_54, rx_180_54, r_180_55, r_180_56, rx_180_56, r_180_57, r_180_60, r_180_62, r_180_65, r_180_67, rx_180_67, r_180_68, r_180_69, r_180_72, rx_180_72, r_180_73, r_180_76, r_180_78, r_180_81, r_180_82, r_180_83, rx_180_83, r_180_84, r_180_85, r_180_86, r_180_88, r_180_91, rx_180_91, r_180_92, r_180_95, r_180_97, r_180_100, r_180_101, r_180_102, rx_180_102, r_180_103, r_180_104, r_180_106, r_180_109, rx_180_109, r_180_110, r_180_113, r_180_115, r_180_117, r_180_118, r_180_120, Option.bind_some, Option.bind_none, Option.toList_some, Option.toList_none, List.cons_append, List.nil_append, Option.map_some, Option.map_none, eq_self, if_true, if_false, reduceIte, ai_bi_eq0, ai_bi_eq1, ai_pb_bi, ai_pb_0, ai_pb_1, c0]
    rw [r_180_22]
    simp only [r_180_0, r_180_1, r_180_3, r_180_4, r_180_7, r_180_8, r_180_11, r_180_12, r_180_14, r_180_16, r_180_19, r_180_20, r_180_21, r_180_23, r_180_25, r_180_28, r_180_29, r_180_31, r_180_32, r_180_33, r_180_34, r_180_36, r_180_37, r_180_38, r_180_39, r_180_41, r_180_42, r_180_43, rx_180_43, r_180_44, r_180_47, r_180_49, r_180_52, r_180_54, rx_180_54, r_180_55, r_180_56, rx_180_56, r_180_57, r_180_60, r_180_62, r_180_65, r_180_67, rx_180_67, r_180_68, r_180_69, r_180_72, rx_180_72, r_180_73, r_180_76, r_180_78, r_180_81, r_180_82, r_180_83, rx_180_83, r_180_84, r_180_85, r_180_86, r_180_88, r_180_91, rx_180_91, r_180_92, r_180_95, r_180_97, r_180_100, r_180_101, r_180_102, rx_180_102, r_180_103, r_180_104, r_180_106, r_180_109, rx_180_109, r_180_110, r_180_113, r_180_115, r_180_117, r_180_118, r_180_120, Option.bind_some, Option.bind_none, Option.toList_some, Option.toList_none, List.cons_append, List.nil_append, Option.map_some, Option.map_none, eq_self, if_true, if_false, reduceIte, ai_bi_eq0, ai_bi_eq1, ai_pb_bi, ai_pb_0, ai_pb_1, c1, a3, a4, nI_dec, a5, b1]
  · have c1 := (a2 (by omega)).2
    rw [if_neg z] at hl ⊢
    rw [if_neg z]
    have b1 := bset_of (c := 48 + v % 10) g2 (show t.length + 1 < gs.length by rw [g3.1]; omega) g3.1 (by omega)
    have g4 : (ws.set q (ob 77 (gs.set (t.length + 1) (.int (nI (48 + v % 10))))))[q]? = some (ob 77 (gs.set (t.length + 1) (.int (nI (48 + v % 10))))) := List.getElem?_set_self (List.getElem?_eq_some_iff.mp g2).1
    have b2 := bset_of (c := 48 + v / 10) g4 (show t.length < _ by rw [List.length_set, g3.1]; omega) (by rw [List.length_set]; exact g3.1) (by omega)
    rw [List.set_set] at b2
    have k1 := bt_set1 (c := 48 + v / 10) g3 (by omega) (by omega)
    have k2 := bt_set1 (c := 48 + v % 10) k1 (by omega) (by rw [List.length_append, List.length_singleton]; omega)
    rw [List.length_append, List.length_singleton, List.append_assoc] at k2
    rw [List.set_comm _ _ (show t.length + 1 ≠ t.length by omega)] at b2
    refine ⟨_, k2, ?_⟩
    simp only [e_180, r_180_0, r_180_1, r_180_3, r_180_4, r_180_7, r_180_8, r_180_11, r_180_12, r_180_14, r_180_16, r_180_19, r_180_20, r_180_21, r_180_23, r_180_25, r_180_28, r_180_29, r_180_31, r_180_32, r_180_33, r_180_34, r_180_36, r_180_37, r_180_38, r_180_39, r_180_41, r_180_42, r_180_43, rx_180_43, r_180_44, r_180_47, r_180_49, r_180_52, r_180_54, rx_180_54, r_180_55, r_180_56, rx_180_56, r_180_57, r_180_60, r_180_62, r_180_65, r_180_67, rx_180_67, r_180_68, r_180_69, r_180_72, rx_180_72, r_180_73, r_180_76, r_180_78, r_180_81, r_180_82, r_180_83, rx_180_83, r_180_84, r_180_85, r_180_86, r_180_88, r_180_91, rx_180_91, r_180_92, r_180_95, r_180_97, r_180_100, r_180_101, r_180_102, rx_180_102, r_180_103, r_180_104, r_180_106, r_180_109, rx_180_109, r_180_110, r_180_113, r_180_115, r_180_117, r_180_118, r_180_120, Option.bind_some, Option.bind_none, Option.toList_some, Option.toList_none, List.cons_append, List.nil_append, Option.map_some, Option.map_none, eq_self, if_true, if_false, reduceIte, ai_bi_eq0, ai_bi_eq1, ai_pb_bi, ai_pb_0, ai_pb_1, c0]
    rw [r_180_22]
    simp only [r_180_0, r_180_1, r_180_3, r_180_4, r_180_7, r_180_8, r_180_11, r_180_12, r_180_14, r_180_16, r_180_19, r_180_20, r_180_21, r_180_23, r_180_25, r_180_28, r_180_29, r_180_31, r_180_32, r_180_33, r_180_34, r_180_36, r_180_37, r_180_38, r_180_39, r_180_41, r_180_42, r_180_43, rx_180_43, r_180_44, r_180_47, r_180_49, r_180_52, r_180_54, rx_180_54, r_180_55, r_180_56, rx_180_56, r_180_57, r_180_60, r_180_62, r_180_65, r_180_67, rx_180_67, r_180_68, r_180_69, r_180_72, rx_180_72, r_180_73, r_180_76, r_180_78, r_180_81, r_180_82, r_180_83, rx_180_83, r_180_84, r_180_85, r_180_86, r_180_88, r_180_91, rx_180_91, r_180_92, r_180_95, r_180_97, r_180_100, r_180_101, r_180_102, rx_180_102, r_180_103, r_180_104, r_180_106, r_180_109, rx_180_109, r_180_110, r_180_113, r_180_115, r_180_117, r_180_118, r_180_120, Option.bind_some, Option.bind_none, Option.toList_some, Option.toList_none, List.cons_append, List.nil_append, Option.map_some, Option.map_none, eq_self, if_true, if_false, reduceIte, ai_bi_eq0, ai_bi_eq1, ai_pb_bi, ai_pb_0, ai_pb_1, c1, a3, a4, show t.length + 2 = t.length + 1 + 1 from rfl, nI_dec, a5, a6, b1, b2]
theorem a_number (h : sb ws p q t) {v : Nat} (hv : v < 100) (hl : t.length + (dg v).length ≤ 16) : ∃ ws2, ai_Call 182 [.ref p, .int (nI v)] ws = some (some (.ref p), ws2) ∧ sb ws2 p q (t ++ dg v) ∧ sm p q ws ws2 := by
  obtain ⟨h0, f0, f1, f3, f4⟩ := sb_0 h
  obtain ⟨fs, hb, eg⟩ := a_chars h hv hl
  have ecap := a_cap h (m := t.length + (dg v).length) hl
  have elat : ai_Call 179 [.ref p] ws = some (some (.int 1), ws) := by
    simp only [e_179, h0, r_179_0, r_179_3, r_179_6, rx_179_6, r_179_7, r_179_10, r_179_13, r_179_14, r_179_17, r_179_18, Option.bind_some, Option.bind_none, Option.toList_some, Option.toList_none, List.cons_append, List.nil_append, Option.map_some, Option.map_none, eq_self, if_true, if_false, reduceIte, ai_bi_eq0, ai_bi_eq1, ai_pb_bi, ai_pb_0, ai_pb_1, f1, show ¬ (1 : Int32) = 0 by decide]
  have hu : tok (dg v) := by
    have h10 : v % 10 < 10 := Nat.mod_lt _ (by decide)
    intro c hc
    unfold dg at hc
    split at hc
    · rw [List.mem_singleton] at hc
      omega
    · rcases List.mem_cons.mp hc with z | z
      · omega
      · rw [List.mem_singleton] at z
        omega
  obtain ⟨ws2, ep, r1, r2⟩ := sb_2 h hb hu
  rw [List.length_append] at ep
  have easb : ai_Call 181 [.ref p, .int (nI v)] ws = some (some (.ref p), ws2) := by
    simp only [e_181, h0, r_181_0, rx_181_0, r_181_1, r_181_4, r_181_5, r_181_6, r_181_7, r_181_10, r_181_11, r_181_12, rx_181_12, r_181_13, r_181_14, r_181_17, rx_181_17, r_181_18, r_181_21, r_181_24, r_181_25, r_181_26, rx_181_26, r_181_27, r_181_30, r_181_33, r_181_34, r_181_37, r_181_38, r_181_39, r_181_40, rx_181_40, r_181_41, r_181_48, rx_181_48, r_181_49, r_181_50, r_181_53, rx_181_53, r_181_54, Option.bind_some, Option.bind_none, Option.toList_some, Option.toList_none, List.cons_append, List.nil_append, Option.map_some, Option.map_none, eq_self, if_true, if_false, reduceIte, ai_bi_eq0, ai_bi_eq1, ai_pb_bi, ai_pb_0, ai_pb_1, f0, f3, a_size hv, nI_add, ecap, elat, eg, ep, show ¬ (1 : Int32) = 0 by decide]
  refine ⟨ws2, ?_, r1, r2⟩
  simp only [e_182, h0, r_182_0, rx_182_0, r_182_1, r_182_2, r_182_5, r_182_6, rx_182_6, r_182_7, Option.bind_some, Option.bind_none, Option.toList_some, Option.toList_none, List.cons_append, List.nil_append, Option.map_some, Option.map_none, eq_self, if_true, if_false, reduceIte, ai_bi_eq0, ai_bi_eq1, ai_pb_bi, ai_pb_0, ai_pb_1, easb]
theorem a_new (ws : ai_W) : ∃ ws2, ai_Call 169 [.ref ws.length] (ws ++ [ai_blank 11]) = some (none, ws2) ∧ ws2 = ws ++ [ob 11 [.ref (ws.length + 1), .int 0, .int 0, .int 0], ob 77 (List.replicate 16 (.int 0))] := by
  refine ⟨_, ?_, rfl⟩
  have hi := isob_new ws bl_11
  have en : ¬ ((16 : Int32) < 0 ∨ 100000 < (16 : Int32).toNatClampNeg) := by decide
  have e1 : (ws ++ [ai_blank 11]).length = ws.length + 1 := by rw [List.length_append]; rfl
  have p1 : ai_fput (ws ++ [ai_blank 11] ++ [.inr (.inr (77, List.replicate (16 : Int32).toNatClampNeg (.int 0)))]) ws.length 11 0 (.ref (ws.length + 1)) = some (ws ++ [ob 11 [.ref (ws.length + 1), .int 0, .int 0, .int 0], ob 77 (List.replicate 16 (.int 0))]) := by
    rw [bl_11, List.append_assoc]
    exact fput_mid ws [ob 77 (List.replicate 16 (.int 0))] (c := 11) (k := 0) (fs := [.null, .int 0, .int 0, .int 0]) (by decide) (pok_r fr_11_0 _)
  have p2 : ai_fput (ws ++ [ob 11 [.ref (ws.length + 1), .int 0, .int 0, .int 0], ob 77 (List.replicate 16 (.int 0))]) ws.length 11 1 (.int 0) = some (ws ++ [ob 11 [.ref (ws.length + 1), .int 0, .int 0, .int 0], ob 77 (List.replicate 16 (.int 0))]) :=
    fput_mid ws [ob 77 (List.replicate 16 (.int 0))] (c := 11) (k := 1) (fs := [.ref (ws.length + 1), .int 0, .int 0, .int 0]) (show 1 < 4 by decide) (by rw [ft_11_1]; rfl)
  have easb : ai_Call 168 [.ref ws.length, .int 16] (ws ++ [ai_blank 11]) = some (none, ws ++ [ob 11 [.ref (ws.length + 1), .int 0, .int 0, .int 0], ob 77 (List.replicate 16 (.int 0))]) := by
    simp only [e_168, hi, r_168_0, rx_168_0, r_168_1, r_168_4, r_168_7, r_168_10, rx_168_10, r_168_11, r_168_12, r_168_14, r_168_17, rx_168_17, r_168_18, r_168_19, r_168_22, r_168_25, rx_168_25, r_168_26, r_168_38, Option.bind_some, Option.bind_none, Option.toList_some, Option.toList_none, List.cons_append, List.nil_append, Option.map_some, Option.map_none, eq_self, if_true, if_false, reduceIte, ai_bi_eq0, ai_bi_eq1, ai_pb_bi, ai_pb_0, ai_pb_1, en, e1, p1, p2, show ¬ (1 : Int32) = 0 by decide]
  simp only [e_169, hi, r_169_0, rx_169_0, r_169_1, r_169_3, r_169_6, Option.bind_some, Option.bind_none, Option.toList_some, Option.toList_none, List.cons_append, List.nil_append, Option.map_some, Option.map_none, eq_self, if_true, if_false, reduceIte, ai_bi_eq0, ai_bi_eq1, ai_pb_bi, ai_pb_0, ai_pb_1, easb]
theorem sb_new (ws : ai_W) : sb (ws ++ [ob 11 [.ref (ws.length + 1), .int 0, .int 0, .int 0], ob 77 (List.replicate 16 (.int 0))]) ws.length (ws.length + 1) [] := by
  refine ⟨by omega, by rw [List.getElem?_append_right (Nat.le_refl _), Nat.sub_self]; rfl, fun c hc => (by cases hc), _, by rw [List.getElem?_append_right (by omega), Nat.add_sub_cancel_left]; rfl, List.length_replicate, Nat.zero_le _, fun j v hj => ?_, fun j c hj => (by cases hj)⟩
  rw [List.getElem?_replicate] at hj
  split at hj
  · rw [← Option.some.inj hj]; rfl
  · cases hj
theorem get_pre {a : Nat} {c : ai_C} (L : ai_W) (h : ws[a]? = some c) : (ws ++ L)[a]? = some c := by
  rw [List.getElem?_append_left (List.getElem?_eq_some_iff.mp h).1]
  exact h
theorem sb_pre (L : ai_W) (h : sb ws p q t) : sb (ws ++ L) p q t := by
  obtain ⟨h1, h2, h3, fs, h4, h5⟩ := h
  exact ⟨h1, get_pre L h2, h3, fs, get_pre L h4, h5⟩
theorem stg_pre (L : ai_W) (h : stg ws p q t) : stg (ws ++ L) p q t := by
  obtain ⟨h1, h2, h3, fs, h4, h5⟩ := h
  exact ⟨get_pre L h1, h2, h3, fs, get_pre L h4, h5⟩
/-- a builder's text as a String: two cells more -/
theorem a_text (h : sb ws p q t) : ∃ fs, ai_Call 191 [.ref p] ws = some (some (.ref ws.length), ws ++ [ob 12 [.ref (ws.length + 1), .int 0, .int 0, .int 0], ob 77 fs]) ∧ bt fs t.length t := by
  obtain ⟨gs, g2, g3⟩ := h.2.2.2
  have hl := g3.2.1
  obtain ⟨h0, -, -, -, -⟩ := sb_0 h
  have h1 := sb_pre [ai_blank 12] h
  obtain ⟨k0, k1, k2, k3, k4⟩ := sb_0 h1
  have eval : ai_Call 183 [.ref p] (ws ++ [ai_blank 12]) = some (some (.ref q), ws ++ [ai_blank 12]) := by
    simp only [e_183, k0, r_183_0, rx_183_0, r_183_1, r_183_4, Option.bind_some, Option.bind_none, Option.toList_some, Option.toList_none, List.cons_append, List.nil_append, Option.map_some, Option.map_none, eq_self, if_true, if_false, reduceIte, ai_bi_eq0, ai_bi_eq1, ai_pb_bi, ai_pb_0, ai_pb_1, k1]
  have elen0 : ai_Call 184 [.ref p] (ws ++ [ai_blank 12]) = some (some (.int (nI t.length)), ws ++ [ai_blank 12]) := by
    simp only [e_184, k0, r_184_0, rx_184_0, r_184_1, r_184_4, Option.bind_some, Option.bind_none, Option.toList_some, Option.toList_none, List.cons_append, List.nil_append, Option.map_some, Option.map_none, eq_self, if_true, if_false, reduceIte, ai_bi_eq0, ai_bi_eq1, ai_pb_bi, ai_pb_0, ai_pb_1, k3]
  have elen : ai_Call 185 [.ref p] (ws ++ [ai_blank 12]) = some (some (.int (nI t.length)), ws ++ [ai_blank 12]) := by
    simp only [e_185, k0, r_185_0, rx_185_0, r_185_1, r_185_4, Option.bind_some, Option.bind_none, Option.toList_some, Option.toList_none, List.cons_append, List.nil_append, Option.map_some, Option.map_none, eq_self, if_true, if_false, reduceIte, ai_bi_eq0, ai_bi_eq1, ai_pb_bi, ai_pb_0, ai_pb_1, elen0]
  have elat : ai_Call 179 [.ref p] (ws ++ [ai_blank 12]) = some (some (.int 1), ws ++ [ai_blank 12]) := by
    simp only [e_179, k0, r_179_0, r_179_3, r_179_6, rx_179_6, r_179_7, r_179_10, r_179_13, r_179_14, r_179_17, r_179_18, Option.bind_some, Option.bind_none, Option.toList_some, Option.toList_none, List.cons_append, List.nil_append, Option.map_some, Option.map_none, eq_self, if_true, if_false, reduceIte, ai_bi_eq0, ai_bi_eq1, ai_pb_bi, ai_pb_0, ai_pb_1, k2, show ¬ (1 : Int32) = 0 by decide]
  have hi := isob_new ws bl_12
  have p1 : ai_fput (ws ++ [ai_blank 12]) ws.length 12 1 (.int 0) = some (ws ++ [ai_blank 12]) := by
    rw [bl_12]
    exact fput_mid ws [] (c := 12) (k := 1) (fs := [.null, .int 0, .int 0, .int 0]) (by decide) (by rw [ft_12_1]; rfl)
  have e1 : (ws ++ [ai_blank 12]).length = ws.length + 1 := by rw [List.length_append]; rfl
  have g4 : (ws ++ [ai_blank 12])[q]? = some (ob 77 gs) := get_pre _ g2
  have ecp : ∃ fs, ai_Call 188 [.ref q, .int 0, .int (nI t.length)] (ws ++ [ai_blank 12]) = some (some (.ref (ws.length + 1)), ws ++ [ai_blank 12] ++ [ob 77 fs]) ∧ bt fs t.length t := by
    by_cases z : t.length = 16
    · refine ⟨gs, ?_, by rw [z]; exact g3⟩
      have c1 : nI t.length = 16 := by rw [z]; rfl
      have g5 : (ws ++ [ai_blank 12] ++ [.inr (.inr (77, gs))])[ws.length + 1]? = some (.inr (.inr (77, gs))) := by
        rw [List.getElem?_append_right (by omega), e1, Nat.sub_self]
        rfl
      have hf := fb_all g3.2.2.1
      have rc := r_188_18 g4 hf
      have rk := r_188_21 g5
      rw [e1] at rc
      simp only [e_188, r_188_0, r_188_1, r_188_4, r_188_5, rx_188_5, r_188_6, rx_188_6, r_188_7, r_188_10, rx_188_10, r_188_11, r_188_12, r_188_13, r_188_16, r_188_17, rx_188_17, r_188_24, Option.bind_some, Option.bind_none, Option.toList_some, Option.toList_none, List.cons_append, List.nil_append, Option.map_some, Option.map_none, eq_self, if_true, if_false, reduceIte, ai_bi_eq0, ai_bi_eq1, ai_pb_bi, ai_pb_0, ai_pb_1, k4, c1, rc, rk]
      rfl
    · have hn : t.length < 16 := by omega
      have c1 : ¬ nI t.length = 16 := fun e => z ((nI_eq (a := t.length) (b := 16) (by omega) (by decide)).mp e)
      have c2 : ¬ nI t.length < 0 := nI_pos (by omega)
      have es0 : nI t.length - 0 = nI t.length := Int32.sub_zero _
      have en : ¬ (nI t.length < 0 ∨ 100000 < (nI t.length).toNatClampNeg) := nI_small (by omega)
      have ec : (nI t.length).toNatClampNeg = t.length := nI_clamp (by omega)
      rw [ec] at en
      have hfs : ∀ (j c : Nat), t[j]? = some c → gs[j]? = some (.int (nI c)) := g3.2.2.2
      have ech : ai_Call 186 [.int 0, .int (nI t.length)] (ws ++ [ai_blank 12]) = some (none, ws ++ [ai_blank 12]) := by
        simp only [e_186, r_186_0, r_186_1, r_186_2, r_186_37, Option.bind_some, Option.bind_none, Option.toList_some, Option.toList_none, List.cons_append, List.nil_append, Option.map_some, Option.map_none, eq_self, if_true, if_false, reduceIte, ai_bi_eq0, ai_bi_eq1, ai_pb_bi, ai_pb_0, ai_pb_1, c2]
      have emin : ∀ v, ai_Call 42 [.int 16, .int (nI t.length)] v = some (some (.int (nI t.length)), v) := by
        intro v
        have c3 : nI t.length < 16 := nI_lt (b := 16) hn (by decide)
        simp only [e_42, r_42_0, r_42_1, r_42_2, r_42_5, r_42_6, r_42_9, r_42_10, Option.bind_some, Option.bind_none, Option.toList_some, Option.toList_none, List.cons_append, List.nil_append, Option.map_some, Option.map_none, eq_self, if_true, if_false, reduceIte, ai_bi_eq0, ai_bi_eq1, ai_pb_bi, ai_pb_0, ai_pb_1, c3]
      have g5 : (ws ++ [ai_blank 12] ++ [.inr (.inr (77, List.replicate t.length (.int 0)))])[ws.length + 1]? = some (ob 77 (List.replicate t.length (.int 0))) := by
        rw [List.getElem?_append_right (by omega), e1, Nat.sub_self]
        rfl
      have g6 := get_pre [.inr (.inr (77, List.replicate t.length (.int 0)))] g4
      have hqn : ¬ q = ws.length + 1 := by
        intro e
        have := (List.getElem?_eq_some_iff.mp g2).1
        omega
      have bz : bt (List.replicate t.length (.int 0)) t.length [] := by
        refine ⟨List.length_replicate, Nat.zero_le _, fun j v hj => ?_, fun j c hj => (by cases hj)⟩
        rw [List.getElem?_replicate] at hj
        split at hj
        · rw [← Option.some.inj hj]; rfl
        · cases hj
      have elen5 : ai_len (ws ++ [ai_blank 12] ++ [.inr (.inr (77, List.replicate t.length (.int 0)))]) q = some 16 := by
        unfold ai_len
        rw [g6]
        show (if 77 = 77 then some (Int32.ofNat gs.length) else none) = _
        rw [if_pos rfl, g3.1]
        rfl
      have xc : ai_cpy (ws ++ [ai_blank 12] ++ [.inr (.inr (77, List.replicate t.length (.int 0)))]) q 0 (ws.length + 1) 0 (nI t.length) = some (ws ++ [ai_blank 12] ++ [ob 77 (ai_lay gs (List.replicate t.length (.int 0)) 0 0 t.length)]) := by
        have q1 : ai_copy (ws ++ [ai_blank 12] ++ [.inr (.inr (77, List.replicate t.length (.int 0)))]) q 0 (ws.length + 1) 0 (nI t.length) = none := by
          unfold ai_copy
          rw [g6]
          rfl
        unfold ai_cpy
        rw [q1]
        unfold ai_cpb
        rw [g6]
        show (if 77 = 77 ∧ ¬ q = ws.length + 1 then ai_bcopy gs _ 0 (ws.length + 1) (nI 0) (nI t.length) else none) = _
        rw [if_pos ⟨rfl, hqn⟩, bcopy_of (a := 0) g5 (fb_all g3.2.2.1) (by rw [g3.1]; exact hl) (by rw [List.length_replicate]; omega) (by rw [List.length_replicate]; exact hl)]
        congr 1
        rw [List.set_append_right _ _ (by omega), e1, Nat.sub_self]
        rfl
      have bl := bt_layn (n := t.length) bz h.2.2.1 hfs (by simp)
      refine ⟨_, ?_, bl⟩
      have ecb : ai_Call 187 [.ref q, .int 0, .int (nI t.length)] (ws ++ [ai_blank 12]) = some (some (.ref (ws.length + 1)), ws ++ [ai_blank 12] ++ [ob 77 (ai_lay gs (List.replicate t.length (.int 0)) 0 0 t.length)]) := by
        simp only [e_187, r_187_0, r_187_1, r_187_2, r_187_5, r_187_6, r_187_7, r_187_8, r_187_9, r_187_10, r_187_12, r_187_14, rx_187_14, r_187_15, r_187_16, rx_187_16, r_187_18, r_187_19, rx_187_19, r_187_20, rx_187_20, r_187_21, r_187_22, r_187_23, r_187_24, r_187_27, rx_187_27, r_187_30, rx_187_30, r_187_32, Option.bind_some, Option.bind_none, Option.toList_some, Option.toList_none, List.cons_append, List.nil_append, Option.map_some, Option.map_none, eq_self, if_true, if_false, reduceIte, ai_bi_eq0, ai_bi_eq1, ai_pb_bi, ai_pb_0, ai_pb_1, ech, es0, en, ec, e1, elen5, show (16 : Int32) - 0 = 16 by decide, emin, xc]
      simp only [e_188, r_188_0, r_188_1, r_188_4, r_188_5, rx_188_5, r_188_6, rx_188_6, r_188_7, r_188_10, rx_188_10, r_188_11, r_188_12, r_188_13, r_188_16, r_188_17, rx_188_17, r_188_24, Option.bind_some, Option.bind_none, Option.toList_some, Option.toList_none, List.cons_append, List.nil_append, Option.map_some, Option.map_none, eq_self, if_true, if_false, reduceIte, ai_bi_eq0, ai_bi_eq1, ai_pb_bi, ai_pb_0, ai_pb_1, k4, c1, ecb]
      rfl
  obtain ⟨fs, ecp, hb⟩ := ecp
  have p2 : ai_fput (ws ++ [ai_blank 12] ++ [ob 77 fs]) ws.length 12 0 (.ref (ws.length + 1)) = some (ws ++ [ob 12 [.ref (ws.length + 1), .int 0, .int 0, .int 0], ob 77 fs]) := by
    rw [bl_12, List.append_assoc]
    exact fput_mid ws [ob 77 fs] (c := 12) (k := 0) (fs := [.null, .int 0, .int 0, .int 0]) (by decide) (pok_r fr_12_0 _)
  have env : ai_Call 189 [.ref ws.length, .ref p, .null] (ws ++ [ai_blank 12]) = some (none, ws ++ [ob 12 [.ref (ws.length + 1), .int 0, .int 0, .int 0], ob 77 fs]) := by
    simp only [ex_189, hi, r_189_0, rx_189_0, r_189_1, r_189_4, rx_189_4, r_189_5, r_189_8, r_189_9, rx_189_9, r_189_10, r_189_13, r_189_15, rx_189_15, r_189_16, r_189_19, r_189_22, rx_189_22, r_189_23, r_189_24, r_189_27, rx_189_27, r_189_28, rx_189_28, r_189_29, r_189_30, r_189_32, r_189_35, r_189_38, r_189_41, r_189_44, r_189_47, rx_189_47, r_189_48, rx_189_48, r_189_51, r_189_54, rx_189_54, r_189_55, rx_189_55, r_189_56, r_189_57, r_189_79, rx_189_79, r_189_80, r_189_81, r_189_84, rx_189_84, r_189_85, rx_189_85, r_189_86, r_189_87, r_189_89, r_189_90, r_189_91, r_189_94, r_189_97, Option.bind_some, Option.bind_none, Option.toList_some, Option.toList_none, List.cons_append, List.nil_append, Option.map_some, Option.map_none, eq_self, if_true, if_false, reduceIte, ai_bi_eq0, ai_bi_eq1, ai_pb_bi, ai_pb_0, ai_pb_1, eval, elen, elat, p1, ecp, p2, show ¬ (1 : Int32) = 0 by decide]
  have enw : ai_Call 190 [.ref ws.length, .ref p] (ws ++ [ai_blank 12]) = some (none, ws ++ [ob 12 [.ref (ws.length + 1), .int 0, .int 0, .int 0], ob 77 fs]) := by
    simp only [e_190, hi, r_190_0, rx_190_0, r_190_1, rx_190_1, r_190_2, r_190_3, r_190_6, Option.bind_some, Option.bind_none, Option.toList_some, Option.toList_none, List.cons_append, List.nil_append, Option.map_some, Option.map_none, eq_self, if_true, if_false, reduceIte, ai_bi_eq0, ai_bi_eq1, ai_pb_bi, ai_pb_0, ai_pb_1, env]
  refine ⟨fs, ?_, hb⟩
  simp only [e_191, h0, r_191_0, r_191_3, r_191_4, rx_191_4, r_191_5, r_191_8, Option.bind_some, Option.bind_none, Option.toList_some, Option.toList_none, List.cons_append, List.nil_append, Option.map_some, Option.map_none, eq_self, if_true, if_false, reduceIte, ai_bi_eq0, ai_bi_eq1, ai_pb_bi, ai_pb_0, ai_pb_1, enw]
theorem stg_new {fs : List Value} (h : sb ws p q t) (hb : bt fs t.length t) : stg (ws ++ [ob 12 [.ref (ws.length + 1), .int 0, .int 0, .int 0], ob 77 fs]) ws.length (ws.length + 1) t := by
  obtain ⟨gs, g2, g3⟩ := h.2.2.2
  refine ⟨by rw [List.getElem?_append_right (Nat.le_refl _), Nat.sub_self]; rfl, g3.2.1, h.2.2.1, fs, by rw [List.getElem?_append_right (by omega), Nat.add_sub_cancel_left]; rfl, hb⟩
theorem a_charAt {r s : Nat} {u : List Nat} (h : stg ws r s u) {i c : Nat} (hc : u[i]? = some c) : ai_Call 196 [.ref r, .int (nI i)] ws = some (some (.int (nI c)), ws) := by
  obtain ⟨h0, h1, h2, h3⟩ := st_0 h
  obtain ⟨-, hl, hu, fs, k2, k3⟩ := h
  have hi := (List.getElem?_eq_some_iff.mp hc).1
  have hcc := hu c (List.mem_iff_getElem?.mpr ⟨i, hc⟩)
  obtain ⟨-, -, b3, b4, b5⟩ := ch_all c (by omega)
  have c1 : ¬ nI i < 0 := nI_pos (by omega)
  have c2 : nI i < nI u.length := nI_lt hi (by omega)
  have elat : ai_Call 192 [.ref r] ws = some (some (.int 1), ws) := by
    simp only [e_192, h0, r_192_0, r_192_3, r_192_6, rx_192_6, r_192_7, rx_192_7, r_192_10, r_192_13, r_192_14, r_192_17, r_192_18, Option.bind_some, Option.bind_none, Option.toList_some, Option.toList_none, List.cons_append, List.nil_append, Option.map_some, Option.map_none, eq_self, if_true, if_false, reduceIte, ai_bi_eq0, ai_bi_eq1, ai_pb_bi, ai_pb_0, ai_pb_1, h2, show ¬ (1 : Int32) = 0 by decide]
  have epr : ai_Call 193 [.int (nI i), .int (nI u.length), .retAddr 23] ws = some (some (.int (nI i)), ws) := by
    simp only [ex_193, r_193_0, r_193_1, r_193_4, r_193_5, r_193_6, r_193_9, rx_193_9, r_193_10, r_193_11, r_193_16, r_193_17, Option.bind_some, Option.bind_none, Option.toList_some, Option.toList_none, List.cons_append, List.nil_append, Option.map_some, Option.map_none, eq_self, if_true, if_false, reduceIte, ai_bi_eq0, ai_bi_eq1, ai_pb_bi, ai_pb_0, ai_pb_1, c1, c2]
  have eci : ai_Call 194 [.int (nI i), .int (nI u.length)] ws = some (none, ws) := by
    simp only [e_194, r_194_0, r_194_1, r_194_2, r_194_5, r_194_8, r_194_9, Option.bind_some, Option.bind_none, Option.toList_some, Option.toList_none, List.cons_append, List.nil_append, Option.map_some, Option.map_none, eq_self, if_true, if_false, reduceIte, ai_bi_eq0, ai_bi_eq1, ai_pb_bi, ai_pb_0, ai_pb_1, epr]
  have hb : ai_bget ws s (nI i) = some (nI c) := by
    unfold ai_bget
    rw [k2]
    show (if 77 = 77 then (ai_ix (nI i) fs.length).map fun j => ai_iv (fs.getD j .null) else none) = _
    rw [if_pos rfl, k3.1, ai_ix_nI hi (by omega), Option.map_some, List.getD_eq_getElem?_getD, k3.2.2.2 i c hc]
    rfl
  have esl : ai_Call 195 [.ref s, .int (nI i)] ws = some (some (.int (nI c)), ws) := by
    simp only [e_195, r_195_0, r_195_1, rx_195_1, r_195_2, rx_195_2, r_195_3, r_195_6, rx_195_6, r_195_7, r_195_8, rx_195_8, r_195_9, r_195_12, r_195_13, r_195_14, Option.bind_some, Option.bind_none, Option.toList_some, Option.toList_none, List.cons_append, List.nil_append, Option.map_some, Option.map_none, eq_self, if_true, if_false, reduceIte, ai_bi_eq0, ai_bi_eq1, ai_pb_bi, ai_pb_0, ai_pb_1, h3, eci, hb, b3, b4, b5]
  simp only [e_196, h0, r_196_0, rx_196_0, r_196_1, r_196_4, r_196_7, rx_196_7, r_196_8, rx_196_8, r_196_11, r_196_12, r_196_15, r_196_16, rx_196_16, r_196_17, rx_196_17, r_196_20, Option.bind_some, Option.bind_none, Option.toList_some, Option.toList_none, List.cons_append, List.nil_append, Option.map_some, Option.map_none, eq_self, if_true, if_false, reduceIte, ai_bi_eq0, ai_bi_eq1, ai_pb_bi, ai_pb_0, ai_pb_1, elat, h1, esl, b5, show ¬ (1 : Int32) = 0 by decide]
end TX
