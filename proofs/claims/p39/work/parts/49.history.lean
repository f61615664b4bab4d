theorem s_1 (n : Nat) : nI (n + 1) - 1 = nI n := nI_pred n
/-! The class's history. -/
theorem hq_24 (w : xw_W) {p : Nat} (hp : p < 9) : ai_qget (wl w) 24 (nI p) = some (.ref (40 + 15 * p)) := by
  match p, hp with
  | 0, _ => unfold ai_qget; rw [g_24]; rfl
  | 1, _ => unfold ai_qget; rw [g_24]; rfl
  | 2, _ => unfold ai_qget; rw [g_24]; rfl
  | 3, _ => unfold ai_qget; rw [g_24]; rfl
  | 4, _ => unfold ai_qget; rw [g_24]; rfl
  | 5, _ => unfold ai_qget; rw [g_24]; rfl
  | 6, _ => unfold ai_qget; rw [g_24]; rfl
  | 7, _ => unfold ai_qget; rw [g_24]; rfl
  | 8, _ => unfold ai_qget; rw [g_24]; rfl
theorem hl_24 (w : xw_W) : ai_len (wl w) 24 = some 9 := by
  unfold ai_len
  rw [g_24]
  rfl
theorem bc_keep (w : xw_W) {p : Nat} (hp : p < 9) : ai_Call 44 [.ref (40 + 15 * p), .ref 1] (wl w) = some (none, wl (xw_whi w (up (xw_hi w) p (xw_b w)))) := by
  match p, hp with
  | 0, _ => exact bc_40_1 w
  | 1, _ => exact bc_55_1 w
  | 2, _ => exact bc_70_1 w
  | 3, _ => exact bc_85_1 w
  | 4, _ => exact bc_100_1 w
  | 5, _ => exact bc_115_1 w
  | 6, _ => exact bc_130_1 w
  | 7, _ => exact bc_145_1 w
  | 8, _ => exact bc_160_1 w
theorem bc_back (w : xw_W) {p : Nat} (hp : p < 9) : ai_Call 44 [.ref 1, .ref (40 + 15 * p)] (wl w) = some (none, wl (xw_wb w (xw_hi w p))) := by
  match p, hp with
  | 0, _ => exact bc_1_40 w
  | 1, _ => exact bc_1_55 w
  | 2, _ => exact bc_1_70 w
  | 3, _ => exact bc_1_85 w
  | 4, _ => exact bc_1_100 w
  | 5, _ => exact bc_1_115 w
  | 6, _ => exact bc_1_130 w
  | 7, _ => exact bc_1_145 w
  | 8, _ => exact bc_1_160 w
section XB
variable {w : xw_W}
theorem x_isInRing (w : xw_W) {p : Nat} (hp : p < 9) : ai_Call 41 [.ref 23, .int (nI p)] (wl w) = some (some (.int 1), wl w) := by
  have c1 : ¬ nI p < 0 := nI_pos (by omega)
  have c2 : nI p < 9 := nI_lt (b := 9) hp (by decide)
  simp only [e_41, o_23, r_41_0, r_41_1, r_41_4, r_41_5, r_41_6, r_41_9, r_41_10, r_41_13, r_41_14, r_41_17, r_41_18, r_41_19, r_41_22, r_41_23, r_41_26, r_41_27, Option.bind_some, Option.bind_none, Option.toList_some, Option.toList_none, List.cons_append, List.nil_append, Option.map_some, Option.map_none, eq_self, if_true, if_false, reduceIte, ai_bi_eq0, ai_bi_eq1, ai_pb_bi, ai_pb_0, ai_pb_1, f_23_0, hl_24, hq_24 w hp, c1, c2]
theorem x_keep {p : Nat} (hp : p < 9) (h : xw_hn w = nI p) : ai_Call 45 [.ref 23, .ref 1] (wl w) = some (none, wl (xw_whi w (up (xw_hi w) p (xw_b w)))) := by
  simp only [e_45, o_23, r_45_0, r_45_1, r_45_2, r_45_5, r_45_8, r_45_11, r_45_12, r_45_15, r_45_16, r_45_19, r_45_20, r_45_21, r_45_24, Option.bind_some, Option.bind_none, Option.toList_some, Option.toList_none, List.cons_append, List.nil_append, Option.map_some, Option.map_none, eq_self, if_true, if_false, reduceIte, ai_bi_eq0, ai_bi_eq1, ai_pb_bi, ai_pb_0, ai_pb_1, f_23_0, f_23_2, h, x_isInRing w hp, show ¬ (1 : Int32) = 0 by decide, hq_24 w hp, bc_keep w hp]
theorem x_takeBack {p : Nat} (hp : p < 9) (h : xw_hn w = nI p) : ai_Call 136 [.ref 23, .ref 1] (wl w) = some (none, wl (xw_wb w (xw_hi w p))) := by
  simp only [e_136, o_23, r_136_0, r_136_1, r_136_2, r_136_5, r_136_8, r_136_11, r_136_12, r_136_13, r_136_16, r_136_17, r_136_20, r_136_21, r_136_24, Option.bind_some, Option.bind_none, Option.toList_some, Option.toList_none, List.cons_append, List.nil_append, Option.map_some, Option.map_none, eq_self, if_true, if_false, reduceIte, ai_bi_eq0, ai_bi_eq1, ai_pb_bi, ai_pb_0, ai_pb_1, f_23_0, f_23_2, h, x_isInRing w hp, show ¬ (1 : Int32) = 0 by decide, hq_24 w hp, bc_back w hp]
theorem x_min8 {a : Nat} (ha : a < 2 ^ 31) (ws : ai_W) : ai_Call 42 [.int (nI a), .int 8] ws = some (some (.int (nI (min a 8))), ws) := by
  by_cases c : 8 < a
  · have c1 : 8 < nI a := nI_lt (a := 8) c ha
    rw [show min a 8 = 8 by omega]
    simp only [e_42, r_42_0, r_42_1, r_42_2, r_42_5, r_42_6, r_42_9, r_42_10, Option.bind_some, Option.bind_none, Option.toList_some, Option.toList_none, List.cons_append, List.nil_append, Option.map_some, Option.map_none, eq_self, if_true, if_false, reduceIte, ai_bi_eq0, ai_bi_eq1, ai_pb_bi, ai_pb_0, ai_pb_1, c1]
    rfl
  · have c1 : ¬ 8 < nI a := nI_nlt (a := 8) (by omega) (by omega)
    rw [show min a 8 = a by omega]
    simp only [e_42, r_42_0, r_42_1, r_42_2, r_42_5, r_42_6, r_42_9, r_42_10, Option.bind_some, Option.bind_none, Option.toList_some, Option.toList_none, List.cons_append, List.nil_append, Option.map_some, Option.map_none, eq_self, if_true, if_false, reduceIte, ai_bi_eq0, ai_bi_eq1, ai_pb_bi, ai_pb_0, ai_pb_1, c1]
theorem x_confirm {p m : Nat} (hp : p < 9) (hm : m ≤ 8) (h : xw_hn w = nI p) (h2 : xw_hm w = nI m) : ai_Call 50 [.ref 23] (wl w) = some (none, wl (xw_whm (xw_whn w (nI (if p < 8 then p + 1 else 0))) (nI (min (m + 1) 8)))) := by
  by_cases c : p < 8
  · have c1 : nI p < 8 := nI_lt (b := 8) c (by decide)
    have f3 : ai_fget (wl (xw_whn w (nI (p + 1)))) 23 3 3 = some (.int (nI m)) := by
      rw [f_23_3]
      exact congrArg (fun x => some (Value.int x)) h2
    rw [if_pos c]
    simp only [e_50, o_23, r_50_0, r_50_1, r_50_2, r_50_5, r_50_7, r_50_10, r_50_11, r_50_14, r_50_15, r_50_16, r_50_19, r_50_20, r_50_23, r_50_24, r_50_25, r_50_28, r_50_29, r_50_30, r_50_32, r_50_35, r_50_38, Option.bind_some, Option.bind_none, Option.toList_some, Option.toList_none, List.cons_append, List.nil_append, Option.map_some, Option.map_none, eq_self, if_true, if_false, reduceIte, ai_bi_eq0, ai_bi_eq1, ai_pb_bi, ai_pb_0, ai_pb_1, f_23_2, h, c1, nI_1, p_23_2, f3, x_min8 (show m + 1 < 2 ^ 31 by omega), p_23_3]
  · have c1 : ¬ nI p < 8 := nI_nlt (a := p) (b := 8) (by omega) (by omega)
    have f3 : ai_fget (wl (xw_whn w 0)) 23 3 3 = some (.int (nI m)) := by
      rw [f_23_3]
      exact congrArg (fun x => some (Value.int x)) h2
    rw [if_neg c]
    simp only [e_50, o_23, r_50_0, r_50_1, r_50_2, r_50_5, r_50_7, r_50_10, r_50_11, r_50_14, r_50_15, r_50_16, r_50_19, r_50_20, r_50_23, r_50_24, r_50_25, r_50_28, r_50_29, r_50_30, r_50_32, r_50_35, r_50_38, Option.bind_some, Option.bind_none, Option.toList_some, Option.toList_none, List.cons_append, List.nil_append, Option.map_some, Option.map_none, eq_self, if_true, if_false, reduceIte, ai_bi_eq0, ai_bi_eq1, ai_pb_bi, ai_pb_0, ai_pb_1, f_23_2, h, c1, p_23_2, f3, nI_1, x_min8 (show m + 1 < 2 ^ 31 by omega), p_23_3]
    rfl
theorem x_stepBack0 (h2 : xw_hm w = 0) : ai_Call 157 [.ref 23, .ref 1] (wl w) = some (some (.int 0), wl w) := by
  simp only [e_157, o_23, r_157_0, r_157_1, r_157_4, r_157_7, r_157_8, r_157_9, r_157_10, r_157_11, r_157_14, r_157_17, r_157_18, r_157_21, r_157_22, r_157_23, r_157_26, r_157_28, r_157_31, r_157_32, r_157_33, r_157_36, r_157_37, r_157_38, r_157_41, r_157_42, r_157_43, r_157_46, r_157_47, Option.bind_some, Option.bind_none, Option.toList_some, Option.toList_none, List.cons_append, List.nil_append, Option.map_some, Option.map_none, eq_self, if_true, if_false, reduceIte, ai_bi_eq0, ai_bi_eq1, ai_pb_bi, ai_pb_0, ai_pb_1, f_23_3, h2]
theorem x_stepBack {p m : Nat} (hp : p < 9) (hm : m < 8) (h : xw_hn w = nI p) (h2 : xw_hm w = nI (m + 1)) : ai_Call 157 [.ref 23, .ref 1] (wl w) = some (some (.int 1), wl (xw_wb (xw_whm (xw_whn w (nI (if 0 < p then p - 1 else 8))) (nI m)) (xw_hi w (if 0 < p then p - 1 else 8)))) := by
  have c0 : ¬ nI (m + 1) = 0 := fun q => by
    have := (nI_eq (a := m + 1) (b := 0) (by omega) (by decide)).mp q
    omega
  by_cases c : 0 < p
  · obtain ⟨k, hk⟩ : ∃ k, p = k + 1 := ⟨p - 1, by omega⟩
    subst hk
    have c1 : (0 : Int32) < nI (k + 1) := nI_lt (a := 0) c (by omega)
    rw [if_pos c, Nat.add_sub_cancel]
    have f3 : ai_fget (wl (xw_whn w (nI k))) 23 3 3 = some (.int (nI (m + 1))) := by
      rw [f_23_3]
      exact congrArg (fun x => some (Value.int x)) h2
    have tb := x_takeBack (w := xw_whm (xw_whn w (nI k)) (nI m)) (p := k) (by omega) rfl
    simp only [e_157, o_23, r_157_0, r_157_1, r_157_4, r_157_7, r_157_8, r_157_9, r_157_10, r_157_11, r_157_14, r_157_17, r_157_18, r_157_21, r_157_22, r_157_23, r_157_26, r_157_28, r_157_31, r_157_32, r_157_33, r_157_36, r_157_37, r_157_38, r_157_41, r_157_42, r_157_43, r_157_46, r_157_47, Option.bind_some, Option.bind_none, Option.toList_some, Option.toList_none, List.cons_append, List.nil_append, Option.map_some, Option.map_none, eq_self, if_true, if_false, reduceIte, ai_bi_eq0, ai_bi_eq1, ai_pb_bi, ai_pb_0, ai_pb_1, f_23_2, h, f_23_3, h2, c0, c1, s_1, p_23_2, f3, p_23_3, tb]
  · have c1 : ¬ (0 : Int32) < nI p := nI_nlt (a := 0) (by omega) (by omega)
    rw [if_neg c]
    have f3 : ai_fget (wl (xw_whn w 8)) 23 3 3 = some (.int (nI (m + 1))) := by
      rw [f_23_3]
      exact congrArg (fun x => some (Value.int x)) h2
    have tb := x_takeBack (w := xw_whm (xw_whn w 8) (nI m)) (p := 8) (by omega) rfl
    simp only [e_157, o_23, r_157_0, r_157_1, r_157_4, r_157_7, r_157_8, r_157_9, r_157_10, r_157_11, r_157_14, r_157_17, r_157_18, r_157_21, r_157_22, r_157_23, r_157_26, r_157_28, r_157_31, r_157_32, r_157_33, r_157_36, r_157_37, r_157_38, r_157_41, r_157_42, r_157_43, r_157_46, r_157_47, Option.bind_some, Option.bind_none, Option.toList_some, Option.toList_none, List.cons_append, List.nil_append, Option.map_some, Option.map_none, eq_self, if_true, if_false, reduceIte, ai_bi_eq0, ai_bi_eq1, ai_pb_bi, ai_pb_0, ai_pb_1, f_23_2, h, f_23_3, h2, c0, c1, s_1, p_23_2, f3, p_23_3, tb]
    rfl
theorem x_saveSnapshot (w : xw_W) : ai_Call 141 [.ref 23, .ref 1] (wl w) = some (none, wl (xw_whs (xw_wsn w (xw_b w)) 1)) := by
  simp only [e_141, o_23, r_141_0, r_141_1, r_141_4, r_141_5, r_141_8, r_141_9, r_141_10, r_141_13, Option.bind_some, Option.bind_none, Option.toList_some, Option.toList_none, List.cons_append, List.nil_append, Option.map_some, Option.map_none, eq_self, if_true, if_false, reduceIte, ai_bi_eq0, ai_bi_eq1, ai_pb_bi, ai_pb_0, ai_pb_1, f_23_1, bc_25_1, p_23_4 _ 1 ai_pb_1]
theorem x_restoreSnapshot0 (h : xw_hs w = 0) : ai_Call 138 [.ref 23, .ref 1] (wl w) = some (some (.int 0), wl w) := by
  simp only [e_138, o_23, r_138_0, r_138_1, r_138_4, r_138_7, r_138_8, r_138_9, r_138_10, r_138_11, r_138_14, r_138_17, r_138_18, r_138_19, r_138_22, r_138_23, Option.bind_some, Option.bind_none, Option.toList_some, Option.toList_none, List.cons_append, List.nil_append, Option.map_some, Option.map_none, eq_self, if_true, if_false, reduceIte, ai_bi_eq0, ai_bi_eq1, ai_pb_bi, ai_pb_0, ai_pb_1, f_23_4, h]
theorem x_restoreSnapshot (h : xw_hs w = 1) : ai_Call 138 [.ref 23, .ref 1] (wl w) = some (some (.int 1), wl (xw_whm (xw_wb w (xw_sn w)) 0)) := by
  simp only [e_138, o_23, r_138_0, r_138_1, r_138_4, r_138_7, r_138_8, r_138_9, r_138_10, r_138_11, r_138_14, r_138_17, r_138_18, r_138_19, r_138_22, r_138_23, Option.bind_some, Option.bind_none, Option.toList_some, Option.toList_none, List.cons_append, List.nil_append, Option.map_some, Option.map_none, eq_self, if_true, if_false, reduceIte, ai_bi_eq0, ai_bi_eq1, ai_pb_bi, ai_pb_0, ai_pb_1, f_23_1, f_23_4, h, show ¬ (1 : Int32) = 0 by decide, bc_1_25, p_23_3]
end XB

