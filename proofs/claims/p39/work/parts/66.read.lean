/-! Reading a text on both sides. -/
def xto (w : xw_W) := ((xw_b w, xw_rr w, xw_rd w, xw_rc w, xw_hi w, xw_sn w, xw_hn w, xw_hm w, xw_hs w, xw_li w, xw_ll w), w.2)
theorem xto_xpo {w w2 : xw_W} (h : xpo w2 = xpo w) : xto w2 = xto w := congrArg (fun x => ((x.1.1, x.1.2.2.2.1, x.1.2.2.2.2.1, x.1.2.2.2.2.2.1, x.1.2.2.2.2.2.2.1, x.1.2.2.2.2.2.2.2.1, x.1.2.2.2.2.2.2.2.2.1, x.1.2.2.2.2.2.2.2.2.2.1, x.1.2.2.2.2.2.2.2.2.2.2.1, x.1.2.2.2.2.2.2.2.2.2.2.2.2.2.1, x.1.2.2.2.2.2.2.2.2.2.2.2.2.2.2), x.2)) h
theorem xto_tl (w : xw_W) (v : Int32) : xto (xw_wtl w v) = xto w := rfl
section READ
variable {w : xw_W} {n : Nat} {c : Nat → Nat} {l : List kt_C}
theorem x_tclear (w : xw_W) : ai_Call 134 [.ref 175] (wl w) = some (none, wl (xw_wtl w 0)) := by
  simp only [e_134, o_175, r_134_0, r_134_1, r_134_2, r_134_5, Option.bind_some, Option.bind_none, Option.toList_some, Option.toList_none, List.cons_append, List.nil_append, Option.map_some, Option.map_none, eq_self, if_true, if_false, reduceIte, ai_bi_eq0, ai_bi_eq1, ai_pb_bi, ai_pb_0, ai_pb_1, p_175_3]
theorem x_read_bad (ht : xt w n c) (hq : (kt_a c n 35 0).1 = none) : ∃ w2, ai_Call 137 [.ref 0] (wl w) = some (some (.int ((-100) - nI (kt_a c n 35 0).2)), wl w2) ∧ xto w2 = xto w ∧ xw_tl w2 = 0 := by
  obtain ⟨w1, e1, h1, -⟩ := x_parse ht
  have hb := kt_a_b ht.1 35 (p := 0) (Nat.zero_le _)
  have hn := ht.1.1
  have e0 : kt_o (kt_a c n 35 0) = nI (kt_a c n 35 0).2 := by unfold kt_o; rw [hq]
  rw [e0] at e1
  have c1 : ¬ nI (kt_a c n 35 0).2 = -1 := fun z => nI_pos (n := (kt_a c n 35 0).2) (by omega) (by rw [z]; decide)
  refine ⟨xw_wtl w1 0, ?_, (xto_tl _ _).trans (xto_xpo h1), rfl⟩
  simp only [e_137, o_0, r_137_0, r_137_1, r_137_4, r_137_7, r_137_8, r_137_9, r_137_12, r_137_15, r_137_16, r_137_17, r_137_20, r_137_22, r_137_23, r_137_24, r_137_25, r_137_26, r_137_29, r_137_30, r_137_33, r_137_36, r_137_37, r_137_40, r_137_43, r_137_44, r_137_45, r_137_47, r_137_48, r_137_51, r_137_52, r_137_55, r_137_56, r_137_59, r_137_60, r_137_61, r_137_64, r_137_66, r_137_68, r_137_71, r_137_74, r_137_75, r_137_78, r_137_79, r_137_82, r_137_85, r_137_87, r_137_89, r_137_92, r_137_94, r_137_97, r_137_99, r_137_100, r_137_103, r_137_106, r_137_107, r_137_110, r_137_113, r_137_114, Option.bind_some, Option.bind_none, Option.toList_some, Option.toList_none, List.cons_append, List.nil_append, Option.map_some, Option.map_none, eq_self, if_true, if_false, reduceIte, ai_bi_eq0, ai_bi_eq1, ai_pb_bi, ai_pb_0, ai_pb_1, f_0_7, e1, x_tclear, c1]
theorem x_read_run (ht : xt w n c) (hq : (kt_a c n 35 0).1 = some l) {p : Nat} (hp : p < 9) (hpn : xw_hn w = nI p) : ∃ w2 w3, ai_Call 137 [.ref 0] (wl w) = ai_Run 137 46 [.ref 0, .int (-1), .int (nI l.length), .int 0, .null] [] (wl w3) ∧ w3 = xw_whi w2 (up (xw_hi w2) p (xw_b w2)) ∧ xto w2 = xto w ∧ xw_tl w2 = 0 ∧ kx_st (xw_ki w3) (xw_ar w3) l := by
  obtain ⟨w1, e1, h1, h2⟩ := x_parse ht
  obtain ⟨k1, k2⟩ := h2 l hq
  have e0 : kt_o (kt_a c n 35 0) = -1 := by unfold kt_o; rw [hq]
  rw [e0] at e1
  have hX : xto (xw_wtl w1 0) = xto w := (xto_tl _ _).trans (xto_xpo h1)
  have ec := x_tclear w1
  have ht0 : xw_tl (xw_wtl w1 0) = 0 := rfl
  have htc : xw_tc (xw_wtl w1 0) = nI l.length := k1
  have hst : kx_st (xw_ki (xw_wtl w1 0)) (xw_ar (xw_wtl w1 0)) l := k2
  generalize xw_wtl w1 0 = w2 at hX ec ht0 htc hst
  have hn2 : xw_hn w2 = nI p := (congrArg (fun x => x.1.2.2.2.2.2.2.1) hX).trans hpn
  have ek := x_keep (w := w2) hp hn2
  refine ⟨w2, _, ?_, rfl, hX, ht0, hst⟩
  have htc3 : xw_tc (xw_whi w2 (up (xw_hi w2) p (xw_b w2))) = nI l.length := htc
  generalize xw_whi w2 (up (xw_hi w2) p (xw_b w2)) = w3 at ek htc3 ⊢
  have em : ai_Call 135 [.ref 175] (wl w3) = some (some (.int (nI l.length)), wl w3) := by
    simp only [e_135, o_175, r_135_0, r_135_1, r_135_4, Option.bind_some, Option.bind_none, Option.toList_some, Option.toList_none, List.cons_append, List.nil_append, Option.map_some, Option.map_none, eq_self, if_true, if_false, reduceIte, ai_bi_eq0, ai_bi_eq1, ai_pb_bi, ai_pb_0, ai_pb_1, f_175_4, htc3]
  simp only [e_137, o_0, r_137_0, r_137_1, r_137_4, r_137_7, r_137_8, r_137_9, r_137_12, r_137_15, r_137_16, r_137_17, r_137_20, r_137_22, r_137_23, r_137_24, r_137_25, r_137_26, r_137_29, r_137_30, r_137_33, r_137_36, r_137_37, r_137_40, r_137_43, r_137_44, r_137_45, r_137_47, r_137_48, r_137_51, r_137_52, r_137_55, r_137_56, r_137_59, r_137_60, r_137_61, r_137_64, r_137_66, r_137_68, r_137_71, r_137_74, r_137_75, r_137_78, r_137_79, r_137_82, r_137_85, r_137_87, r_137_89, r_137_92, r_137_94, r_137_97, r_137_99, r_137_100, r_137_103, r_137_106, r_137_107, r_137_110, r_137_113, r_137_114, Option.bind_some, Option.bind_none, Option.toList_some, Option.toList_none, List.cons_append, List.nil_append, Option.map_some, Option.map_none, eq_self, if_true, if_false, reduceIte, ai_bi_eq0, ai_bi_eq1, ai_pb_bi, ai_pb_0, ai_pb_1, f_0_0, f_0_6, f_0_7, e1, ec, ek, em]
end READ
