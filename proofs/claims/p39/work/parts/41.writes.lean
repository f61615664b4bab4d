/-! The class's changes of the book. -/
theorem upd_at (f : Nat → Int32) (i : Nat) (v : Int32) : upd f i v i = v := if_pos rfl
theorem upd_ne (f : Nat → Int32) {i j : Nat} (h : j ≠ i) (v : Int32) : upd f i v j = f j := if_neg h
section XB
variable {w : xw_W} {B : kb_B}
theorem kx_add {b : xb_B} (h : kb_x b B) (hk : kb_ok B) {c q : Nat} (hc : c < 8) (h6 : kb_T B c < 6) : kb_x (xb_wtu (xb_wch b (upd (xb_ch b) (c * 6 + kb_T B c) (nI q))) (upd (xb_tu b) c (nI (kb_T B c + 1)))) (kb_add B c q) := by
  refine ⟨h.1, h.2.1, h.2.2.1, ?_, ?_, h.2.2.2.2.2⟩
  · intro i hi
    show upd (xb_tu b) c (nI (kb_T B c + 1)) i = nI (up (kb_T B) c (kb_T B c + 1) i)
    by_cases z : i = c
    · rw [z, up_at, upd_at]
    · rw [up_ne _ z, upd_ne _ z]; exact h.2.2.2.1 i hi
  · intro i k hi hik
    have hik : k < up (kb_T B) c (kb_T B c + 1) i := hik
    show upd (xb_ch b) (c * 6 + kb_T B c) (nI q) (i * 6 + k) = nI (up (kb_E B) c (up (kb_E B c) (kb_T B c) q) i k)
    by_cases z : i = c
    · subst z
      rw [up_at] at hik
      rw [up_at]
      by_cases y : k = kb_T B i
      · rw [y, up_at, upd_at]
      · rw [up_ne _ y, upd_ne _ (by omega)]; exact h.2.2.2.2.1 i k hi (by omega)
    · rw [up_ne _ z] at hik
      have := hk.2.2.1 i
      rw [up_ne _ z, upd_ne _ (by omega)]
      exact h.2.2.2.2.1 i k hi hik
theorem kx_C {b : xb_B} (h : kb_x b B) {c d : Nat} (hd : d < 3) (v : Int32) : kb_x (xb_wcu b (upd (xb_cu b) (c * 3 + d) v)) (kb_setC B c d v) := by
  refine ⟨h.1, h.2.1, h.2.2.1, h.2.2.2.1, h.2.2.2.2.1, ?_, h.2.2.2.2.2.2⟩
  intro i k hi hik
  show upd (xb_cu b) (c * 3 + d) v (i * 3 + k) = up (kb_C B) c (up (kb_C B c) d v) i k
  by_cases z : i = c
  · subst z
    rw [up_at]
    by_cases y : k = d
    · rw [y, up_at, upd_at]
    · rw [up_ne _ y, upd_ne _ (by omega)]; exact h.2.2.2.2.2.1 i k hi hik
  · rw [up_ne _ z, upd_ne _ (by omega)]
    exact h.2.2.2.2.2.1 i k hi hik
theorem kx_T {b : xb_B} (h : kb_x b B) {c v : Nat} (hv : v ≤ kb_T B c) : kb_x (xb_wtu b (upd (xb_tu b) c (nI v))) (kb_setT B c v) := by
  refine ⟨h.1, h.2.1, h.2.2.1, ?_, ?_, h.2.2.2.2.2⟩
  · intro i hi
    show upd (xb_tu b) c (nI v) i = nI (up (kb_T B) c v i)
    by_cases z : i = c
    · rw [z, up_at, upd_at]
    · rw [up_ne _ z, upd_ne _ z]; exact h.2.2.2.1 i hi
  · intro i k hi hik
    have hik : k < up (kb_T B) c v i := hik
    refine h.2.2.2.2.1 i k hi ?_
    by_cases z : i = c
    · rw [z, up_at] at hik; rw [z]; omega
    · rw [up_ne _ z] at hik; exact hik
theorem kx_W {b : xb_B} (h : kb_x b B) (q : Nat) (v : Int32) : kb_x (xb_wwr b (upd (xb_wr b) q v)) (kb_setW B q v) := by
  refine ⟨h.1, h.2.1, h.2.2.1, h.2.2.2.1, h.2.2.2.2.1, h.2.2.2.2.2.1, ?_, h.2.2.2.2.2.2.2⟩
  intro i hi
  show upd (xb_wr b) q v i = up (kb_W B) q v i
  by_cases z : i = q
  · rw [z, up_at, upd_at]
  · rw [up_ne _ z, upd_ne _ z]; exact h.2.2.2.2.2.2.1 i hi
theorem kx_S {b : xb_B} (h : kb_x b B) (q v : Nat) : kb_x (xb_wsw b (upd (xb_sw b) q (nI v))) (kb_setS B q v) := by
  refine ⟨h.1, h.2.1, h.2.2.1, h.2.2.2.1, h.2.2.2.2.1, h.2.2.2.2.2.1, h.2.2.2.2.2.2.1, ?_, h.2.2.2.2.2.2.2.2⟩
  intro i hi
  show upd (xb_sw b) q (nI v) i = nI (up (kb_S B) q v i)
  by_cases z : i = q
  · rw [z, up_at, upd_at]
  · rw [up_ne _ z, upd_ne _ z]; exact h.2.2.2.2.2.2.2.1 i hi
theorem kx_M {b : xb_B} (h : kb_x b B) {c o : Nat} (ho : o < 8) (v : Nat) : kb_x (xb_wmo b (upd (xb_mo b) (c * 8 + o) (nI v))) (kb_setM B c o v) := by
  refine ⟨h.1, h.2.1, h.2.2.1, h.2.2.2.1, h.2.2.2.2.1, h.2.2.2.2.2.1, h.2.2.2.2.2.2.1, h.2.2.2.2.2.2.2.1, ?_, h.2.2.2.2.2.2.2.2.2⟩
  intro i k hi hik
  show upd (xb_mo b) (c * 8 + o) (nI v) (i * 8 + k) = nI (up (kb_M B) c (up (kb_M B c) o v) i k)
  by_cases z : i = c
  · subst z
    rw [up_at]
    by_cases y : k = o
    · rw [y, up_at, upd_at]
    · rw [up_ne _ y, upd_ne _ (by omega)]; exact h.2.2.2.2.2.2.2.2.1 i k hi hik
  · rw [up_ne _ z, upd_ne _ (by omega)]
    exact h.2.2.2.2.2.2.2.2.1 i k hi hik
theorem kx_J {b : xb_B} (h : kb_x b B) (q v : Nat) : kb_x (xb_wse b (upd (xb_se b) q (nI v))) (kb_setJ B q v) := by
  refine ⟨h.1, h.2.1, h.2.2.1, h.2.2.2.1, h.2.2.2.2.1, h.2.2.2.2.2.1, h.2.2.2.2.2.2.1, h.2.2.2.2.2.2.2.1, h.2.2.2.2.2.2.2.2.1, ?_⟩
  intro i hi
  show upd (xb_se b) q (nI v) i = nI (up (kb_J B) q v i)
  by_cases z : i = q
  · rw [z, up_at, upd_at]
  · rw [up_ne _ z, upd_ne _ z]; exact h.2.2.2.2.2.2.2.2.2 i hi
theorem x_addTurn (h : kb_x (xw_b w) B) {c : Nat} (hc : c < 8) (h6 : kb_T B c < 6) (q : Nat) : ai_Call 67 [.ref 1, .int (nI c), .int (nI q)] (wl w) = some (none, wl (xw_wb w (xb_wtu (xb_wch (xw_b w) (upd (xb_ch (xw_b w)) (c * 6 + kb_T B c) (nI q))) (upd (xb_tu (xw_b w)) c (nI (kb_T B c + 1)))))) := by
  simp only [e_67, o_1, r_67_0, r_67_1, r_67_4, r_67_5, r_67_8, r_67_9, r_67_10, r_67_13, r_67_14, r_67_16, r_67_17, r_67_18, r_67_19, r_67_20, r_67_23, r_67_24, r_67_27, r_67_28, r_67_29, r_67_30, r_67_31, r_67_34, Option.bind_some, Option.bind_none, Option.toList_some, Option.toList_none, List.cons_append, List.nil_append, Option.map_some, Option.map_none, eq_self, if_true, if_false, reduceIte, ai_bi_eq0, ai_bi_eq1, ai_pb_bi, ai_pb_0, ai_pb_1, f_1_3, f_1_4, x_turns h hc, n_6, pk_mul, nI_add, x_set_ch w (show c * 6 + kb_T B c < 48 by omega), n_1, x_set_tu _ hc]
theorem x_setCulprit (w : xw_W) {c d : Nat} (hc : c < 8) (hd : d < 3) (v : Int32) : ai_Call 70 [.ref 1, .int (nI c), .int (nI d), .int v] (wl w) = some (none, wl (xw_wb w (xb_wcu (xw_b w) (upd (xb_cu (xw_b w)) (c * 3 + d) v)))) := by
  simp only [e_70, o_1, r_70_0, r_70_1, r_70_4, r_70_5, r_70_6, r_70_7, r_70_8, r_70_9, r_70_10, r_70_13, Option.bind_some, Option.bind_none, Option.toList_some, Option.toList_none, List.cons_append, List.nil_append, Option.map_some, Option.map_none, eq_self, if_true, if_false, reduceIte, ai_bi_eq0, ai_bi_eq1, ai_pb_bi, ai_pb_0, ai_pb_1, f_1_5, n_3, pk_mul, nI_add, x_set_cu w (show c * 3 + d < 24 by omega)]
theorem x_removeLastTurn (h : kb_x (xw_b w) B) (hk : kb_ok B) {c : Nat} (hc : c < 8) (hT : kb_T B c ≠ 0) : ∃ b, kb_x b (kb_tk B c) ∧ ai_Call 71 [.ref 1, .int (nI c)] (wl w) = some (none, wl (xw_wb w b)) := by
  have h6 := hk.2.2.1 c
  obtain ⟨k, hk2⟩ : ∃ k, kb_T B c = k + 1 := ⟨kb_T B c - 1, by omega⟩
  have ek : kb_T B c - 1 = k := by omega
  have er : nI k - nI k / 2 * 2 = nI (k % 2) := pk_rem2 (by omega)
  have eq : nI k / 2 = nI (k / 2) := pk_div2 (by omega)
  unfold kb_tk
  rw [ek]
  by_cases z : kb_T B c % 2 = 1
  · rw [if_pos z]
    have ed : kb_T B c / 2 = k / 2 := by omega
    rw [ed]
    have e0 : k % 2 = 0 := by omega
    have er2 : nI k - nI (k / 2) * 2 = 0 := by rw [← eq, er, e0]; rfl
    have hx := kx_C h (c := c) (show k / 2 < 3 by omega) (-4)
    refine ⟨_, kx_T hx (c := c) (v := k) (by show k ≤ kb_T B c; omega), ?_⟩
    simp only [e_71, o_1, r_71_0, r_71_1, r_71_4, r_71_5, r_71_8, r_71_9, r_71_10, r_71_11, r_71_12, r_71_13, r_71_14, r_71_17, r_71_18, r_71_19, r_71_20, r_71_21, r_71_22, r_71_24, r_71_27, r_71_28, r_71_31, r_71_32, r_71_33, r_71_36, Option.bind_some, Option.bind_none, Option.toList_some, Option.toList_none, List.cons_append, List.nil_append, Option.map_some, Option.map_none, eq_self, if_true, if_false, reduceIte, ai_bi_eq0, ai_bi_eq1, ai_pb_bi, ai_pb_0, ai_pb_1, f_1_3, x_turns h hc, hk2, nI_pred, eq, er2, x_setCulprit w hc (show k / 2 < 3 by omega), x_set_tu _ hc]
  · rw [if_neg z]
    have e0 : k % 2 = 1 := by omega
    refine ⟨_, kx_T h (c := c) (v := k) (by omega), ?_⟩
    simp only [e_71, o_1, r_71_0, r_71_1, r_71_4, r_71_5, r_71_8, r_71_9, r_71_10, r_71_11, r_71_12, r_71_13, r_71_14, r_71_17, r_71_18, r_71_19, r_71_20, r_71_21, r_71_22, r_71_24, r_71_27, r_71_28, r_71_31, r_71_32, r_71_33, r_71_36, Option.bind_some, Option.bind_none, Option.toList_some, Option.toList_none, List.cons_append, List.nil_append, Option.map_some, Option.map_none, eq_self, if_true, if_false, reduceIte, ai_bi_eq0, ai_bi_eq1, ai_pb_bi, ai_pb_0, ai_pb_1, f_1_3, x_turns h hc, hk2, nI_pred, er, e0, show ¬ nI 1 = 0 by decide, x_set_tu _ hc]
end XB

