/-! Reading a text on both sides. -/
def xto (w : xw_W) := ((xw_b w, xw_rr w, xw_rd w, xw_rc w, xw_hi w, xw_sn w, xw_hn w, xw_hm w, xw_hs w, xw_li w, xw_ll w), w.2)
def mto (w : xw_W) := (w.1, (xm_s w, xm_saved w, xm_past w, xm_ch w, xm_re w, xm_de w, xm_at w, xm_is w, xm_line w, xm_ll w))
theorem xto_xpo {w w2 : xw_W} (h : xpo w2 = xpo w) : xto w2 = xto w := congrArg (fun x => ((x.1.1, x.1.2.2.2.1, x.1.2.2.2.2.1, x.1.2.2.2.2.2.1, x.1.2.2.2.2.2.2.1, x.1.2.2.2.2.2.2.2.1, x.1.2.2.2.2.2.2.2.2.1, x.1.2.2.2.2.2.2.2.2.2.1, x.1.2.2.2.2.2.2.2.2.2.2.1, x.1.2.2.2.2.2.2.2.2.2.2.2.2.2.1, x.1.2.2.2.2.2.2.2.2.2.2.2.2.2.2), x.2)) h
theorem mto_mpo {w w2 : xw_W} (h : mpo w2 = mpo w) : mto w2 = mto w := congrArg (fun x => (x.1, (x.2.1, x.2.2.2.1, x.2.2.2.2.1, x.2.2.2.2.2.1, x.2.2.2.2.2.2.1, x.2.2.2.2.2.2.2.1, x.2.2.2.2.2.2.2.2.1, x.2.2.2.2.2.2.2.2.2.1, x.2.2.2.2.2.2.2.2.2.2.1, x.2.2.2.2.2.2.2.2.2.2.2.1))) h
theorem xto_tl (w : xw_W) (v : Int32) : xto (xw_wtl w v) = xto w := rfl
theorem mto_td (w : xw_W) (v : Int32) : mto (xm_wtd w v) = mto w := rfl
theorem mto_was (w : xw_W) (v : Nat → Int32) : mto (xm_wwas w v) = mto w := rfl
theorem kr_l_of {w w2 : xw_W} (h : kr_l w) (e1 : xw_ll w2 = xw_ll w) (e2 : xm_ll w2 = xm_ll w) (e3 : xw_li w2 = xw_li w) (e4 : xm_line w2 = xm_line w) : kr_l w2 := by
  unfold kr_l at h ⊢
  rw [e1, e2, e3, e4]
  exact h
theorem kr_t_0 {w2 : xw_W} (e1 : xw_tl w2 = 0) (e2 : xm_td w2 = 0) : kr_t w2 := ⟨0, by decide, e1, e2, fun j hj => absurd hj (Nat.not_lt_zero _)⟩
section READ
variable {w : xw_W} {n : Nat} {c : Nat → Nat} {l : List kt_C}
theorem x_tclear (w : xw_W) : ai_Call 134 [.ref 175] (wl w) = some (none, wl (xw_wtl w 0)) := by
  simp only [e_134, o_175, r_134_0, r_134_1, r_134_2, r_134_5, Option.bind_some, Option.bind_none, Option.toList_some, Option.toList_none, List.cons_append, List.nil_append, Option.map_some, Option.map_none, eq_self, if_true, if_false, reduceIte, ai_bi_eq0, ai_bi_eq1, ai_pb_bi, ai_pb_0, ai_pb_1, p_175_3]
theorem x_read_bad (ht : xt w n c) (hq : (kt_a c n 35 0).1 = none) : ∃ w2, ai_Call 137 [.ref 0] (wl w) = some (some (.int ((-100) - nI (kt_a c n 35 0).2)), wl w2) ∧ xto w2 = xto w ∧ xw_tl w2 = 0 := by
  obtain ⟨w1, e1, h1, -⟩ := x_parse ht
  have hb := kt_a_b ht.1 35 (p := 0) (Nat.zero_le _)
  have hn := ht.1.1
  have e0 : kt_o (kt_a c n 35 0) = nI (kt_a c n 35 0).2 := by unfold kt_o; rw [hq]
  rw [e0] at e1
  have c1 : ¬ nI (kt_a c n 35 0).2 = -1 := fun z => nI_pos (n := (kt_a c n 35 0).2) (by omega) (by rw [z]; decide)
  refine ⟨xw_wtl w1 0, ?_, (xto_tl _ _).trans (xto_xpo h1), rfl⟩
  simp only [e_137, o_0, r_137_0, r_137_1, r_137_4, r_137_7, r_137_8, r_137_9, r_137_12, r_137_15, r_137_16, r_137_17, r_137_20, r_137_22, r_137_23, r_137_24, r_137_25, r_137_26, r_137_29, r_137_30, r_137_33, r_137_36, r_137_37, r_137_40, r_137_43, r_137_44, r_137_45, r_137_47, r_137_48, r_137_51, r_137_52, r_137_55, r_137_56, r_137_59, r_137_60, r_137_61, r_137_64, r_137_66, r_137_68, r_137_71, r_137_74, r_137_75, r_137_78, r_137_79, r_137_82, r_137_85, r_137_87, r_137_89, r_137_92, r_137_94, r_137_97, r_137_99, r_137_100, r_137_103, r_137_106, r_137_107, r_137_110, r_137_113, r_137_114, Option.bind_some, Option.bind_none, Option.toList_some, Option.toList_none, List.cons_append, List.nil_append, Option.map_some, Option.map_none, eq_self, if_true, if_false, reduceIte, ai_bi_eq0, ai_bi_eq1, ai_pb_bi, ai_pb_0, ai_pb_1, f_0_7, e1, x_tclear, c1]
theorem x_read_run (ht : xt w n c) (hq : (kt_a c n 35 0).1 = some l) {p : Nat} (hp : p < 9) (hpn : xw_hn w = nI p) : ∃ w2 w3, ai_Call 137 [.ref 0] (wl w) = ai_Run 137 46 [.ref 0, .int (-1), .int (nI l.length), .int 0, .null] [] (wl w3) ∧ w3 = xw_whi w2 (up (xw_hi w2) p (xw_b w2)) ∧ xto w2 = xto w ∧ xw_tl w2 = 0 ∧ kx_st (xw_ki w3) (xw_ar w3) l := by
  obtain ⟨w1, e1, h1, h2⟩ := x_parse ht
  obtain ⟨k1, k2⟩ := h2 l hq
  have e0 : kt_o (kt_a c n 35 0) = -1 := by unfold kt_o; rw [hq]
  rw [e0] at e1
  have hX : xto (xw_wtl w1 0) = xto w := (xto_tl _ _).trans (xto_xpo h1)
  have ec := x_tclear w1
  have ht0 : xw_tl (xw_wtl w1 0) = 0 := rfl
  have htc : xw_tc (xw_wtl w1 0) = nI l.length := k1
  have hst : kx_st (xw_ki (xw_wtl w1 0)) (xw_ar (xw_wtl w1 0)) l := k2
  generalize xw_wtl w1 0 = w2 at hX ec ht0 htc hst
  have hn2 : xw_hn w2 = nI p := (congrArg (fun x => x.1.2.2.2.2.2.2.1) hX).trans hpn
  have ek := x_keep (w := w2) hp hn2
  refine ⟨w2, _, ?_, rfl, hX, ht0, hst⟩
  have htc3 : xw_tc (xw_whi w2 (up (xw_hi w2) p (xw_b w2))) = nI l.length := htc
  generalize xw_whi w2 (up (xw_hi w2) p (xw_b w2)) = w3 at ek htc3 ⊢
  have em : ai_Call 135 [.ref 175] (wl w3) = some (some (.int (nI l.length)), wl w3) := by
    simp only [e_135, o_175, r_135_0, r_135_1, r_135_4, Option.bind_some, Option.bind_none, Option.toList_some, Option.toList_none, List.cons_append, List.nil_append, Option.map_some, Option.map_none, eq_self, if_true, if_false, reduceIte, ai_bi_eq0, ai_bi_eq1, ai_pb_bi, ai_pb_0, ai_pb_1, f_175_4, htc3]
  simp only [e_137, o_0, r_137_0, r_137_1, r_137_4, r_137_7, r_137_8, r_137_9, r_137_12, r_137_15, r_137_16, r_137_17, r_137_20, r_137_22, r_137_23, r_137_24, r_137_25, r_137_26, r_137_29, r_137_30, r_137_33, r_137_36, r_137_37, r_137_40, r_137_43, r_137_44, r_137_45, r_137_47, r_137_48, r_137_51, r_137_52, r_137_55, r_137_56, r_137_59, r_137_60, r_137_61, r_137_64, r_137_66, r_137_68, r_137_71, r_137_74, r_137_75, r_137_78, r_137_79, r_137_82, r_137_85, r_137_87, r_137_89, r_137_92, r_137_94, r_137_97, r_137_99, r_137_100, r_137_103, r_137_106, r_137_107, r_137_110, r_137_113, r_137_114, Option.bind_some, Option.bind_none, Option.toList_some, Option.toList_none, List.cons_append, List.nil_append, Option.map_some, Option.map_none, eq_self, if_true, if_false, reduceIte, ai_bi_eq0, ai_bi_eq1, ai_pb_bi, ai_pb_0, ai_pb_1, f_0_0, f_0_6, f_0_7, e1, ec, ek, em]
theorem m_read_bad (ht : mt w n c) (hq : (kt_a c n 35 0).1 = none) : ∃ w2, ai_Call 249 [.ref 185] (wl w) = some (some (.int ((-100) - nI (kt_a c n 35 0).2)), wl w2) ∧ mto w2 = mto w ∧ xm_td w2 = 0 := by
  obtain ⟨w1, e1, h1, -, h2⟩ := m_isText ht
  have h2 := h2 hq
  rw [hq] at e1
  obtain ⟨w2, e2, h3, h4, h5⟩ : ∃ w2, ai_fput (wl w1) 185 11 13 (.int 0) = some (wl w2) ∧ mto w2 = mto w ∧ xm_td w2 = 0 ∧ xm_he w2 = nI (kt_a c n 35 0).2 := ⟨xm_wtd w1 0, p_185_13 _ _, (mto_td _ _).trans (mto_mpo h1), rfl, h2⟩
  refine ⟨w2, ?_, h3, h4⟩
  have e1 : ai_Call 240 [.ref 185] (wl w) = some (some (.int 0), wl w1) := e1
  simp only [e_249, o_185, r_249_0, r_249_1, r_249_4, r_249_5, r_249_6, r_249_7, r_249_10, r_249_11, r_249_14, r_249_16, r_249_17, r_249_20, r_249_21, r_249_22, r_249_23, r_249_26, r_249_27, r_249_29, r_249_30, r_249_33, r_249_36, r_249_37, r_249_38, r_249_39, r_249_40, r_249_43, r_249_44, r_249_45, r_249_48, r_249_51, r_249_52, r_249_53, r_249_55, r_249_58, r_249_59, r_249_62, r_249_63, r_249_66, r_249_69, r_249_70, r_249_73, r_249_74, r_249_75, r_249_78, r_249_79, r_249_82, r_249_83, r_249_85, r_249_88, r_249_90, r_249_93, r_249_95, r_249_96, r_249_99, r_249_102, r_249_103, r_249_104, r_249_107, r_249_110, Option.bind_some, Option.bind_none, Option.toList_some, Option.toList_none, List.cons_append, List.nil_append, Option.map_some, Option.map_none, eq_self, if_true, if_false, reduceIte, ai_bi_eq0, ai_bi_eq1, ai_pb_bi, ai_pb_0, ai_pb_1, e1, e2, f_185_14, h5]
theorem m_read_run (ht : mt w n c) (hq : (kt_a c n 35 0).1 = some l) : ∃ w3, ai_Call 249 [.ref 185] (wl w) = ai_Run 249 28 [.ref 185, .int 1, .int 0, .null] [] (wl w3) ∧ mto w3 = mto w ∧ xm_was w3 = xm_s w ∧ xm_td w3 = 0 ∧ xm_cm w3 = nI l.length ∧ km_st (xm_cmds w3) l := by
  obtain ⟨w1, e1, h1, h2, -⟩ := m_isText ht
  obtain ⟨k1, k2⟩ := h2 l hq
  rw [hq] at e1
  have e1 : ai_Call 240 [.ref 185] (wl w) = some (some (.int 1), wl w1) := e1
  obtain ⟨w2, e2, h3, h4, h5, h6⟩ : ∃ w2, ai_fput (wl w1) 185 11 13 (.int 0) = some (wl w2) ∧ mto w2 = mto w ∧ xm_td w2 = 0 ∧ xm_cm w2 = nI l.length ∧ km_st (xm_cmds w2) l := ⟨xm_wtd w1 0, p_185_13 _ _, (mto_td _ _).trans (mto_mpo h1), rfl, k1, k2⟩
  have ek := m_keeps w2
  have hs : xm_s w2 = xm_s w := congrArg (fun x => x.2.1) h3
  refine ⟨xm_wwas w2 (xm_s w2), ?_, (mto_was _ _).trans h3, hs, h4, h5, h6⟩
  simp only [e_249, o_185, r_249_0, r_249_1, r_249_4, r_249_5, r_249_6, r_249_7, r_249_10, r_249_11, r_249_14, r_249_16, r_249_17, r_249_20, r_249_21, r_249_22, r_249_23, r_249_26, r_249_27, r_249_29, r_249_30, r_249_33, r_249_36, r_249_37, r_249_38, r_249_39, r_249_40, r_249_43, r_249_44, r_249_45, r_249_48, r_249_51, r_249_52, r_249_53, r_249_55, r_249_58, r_249_59, r_249_62, r_249_63, r_249_66, r_249_69, r_249_70, r_249_73, r_249_74, r_249_75, r_249_78, r_249_79, r_249_82, r_249_83, r_249_85, r_249_88, r_249_90, r_249_93, r_249_95, r_249_96, r_249_99, r_249_102, r_249_103, r_249_104, r_249_107, r_249_110, Option.bind_some, Option.bind_none, Option.toList_some, Option.toList_none, List.cons_append, List.nil_append, Option.map_some, Option.map_none, eq_self, if_true, if_false, reduceIte, ai_bi_eq0, ai_bi_eq1, ai_pb_bi, ai_pb_0, ai_pb_1, e1, e2, show ¬ (1 : Int32) = 0 by decide, ek]
/-- a change remembered by the reference -/
theorem m_finish {X : xw_W} {m : Nat} (hm : m ≤ 8) (hch : xm_ch X = nI m) (h1 : xm_was X = xm_s w) (h2 : xm_past X = xm_past w) : ∃ Y, ai_Call 186 [.ref 185] (wl X) = some (none, wl Y) ∧ Y.1 = X.1 ∧ xm_ch Y = nI (min (m + 1) 8) ∧ xm_past Y = cpn (xm_s w) 0 (189 * (min m 7)) 0 189 (if m = 8 then shn 0 7 (xm_past w) else xm_past w) ∧ xm_s Y = xm_s X ∧ xm_is Y = xm_is X ∧ xm_saved Y = xm_saved X ∧ der Y = der X ∧ xm_td Y = xm_td X ∧ xm_ll Y = xm_ll X ∧ xm_line Y = xm_line X := by
  by_cases h8 : m = 8
  · subst h8
    exact ⟨_, m_changed8 hch, rfl, rfl, by rw [show min 8 7 = 7 by decide, if_pos rfl]; exact past8 _ _ h1 h2, rfl, rfl, rfl, rfl, rfl, rfl, rfl⟩
  · refine ⟨_, m_changed (show m < 8 by omega) hch, rfl, ?_, ?_, rfl, rfl, rfl, rfl, rfl, rfl, rfl⟩
    · rw [show min (m + 1) 8 = m + 1 by omega]
    · rw [show min m 7 = m by omega, if_neg h8]
      exact pastn _ _ _ h1 h2
end READ
theorem ks_read : ks 137 249 [] := by
  intro w hw
  obtain ⟨B, L, S, hk, hx, hm, hh, hs, hr, ⟨n, hn, t1, t2, t3⟩, hl⟩ := hw
  have hh2 := hh
  obtain ⟨hL, hm1, hm2, ⟨p, hp, hpn, -⟩, -⟩ := hh2
  obtain ⟨c, hc, hcx, hcm⟩ : ∃ c : Nat → Nat, kt_ok n c ∧ (∀ j, j < n → xw_co w j = nI (c j)) ∧ (∀ j, j < n → xm_tape w j = nI (c j)) := by
    refine ⟨fun j => if j < n then (xm_tape w j).toNatClampNeg else 0, ⟨hn, fun j hj => ?_, fun j hj => if_neg (by omega)⟩, fun j hj => ?_, fun j hj => ?_⟩
    · obtain ⟨-, v, v1, v2, e⟩ := t3 j hj
      show 32 ≤ (if j < n then (xm_tape w j).toNatClampNeg else 0) ∧ (if j < n then (xm_tape w j).toNatClampNeg else 0) ≤ 126
      rw [if_pos hj, e, nI_clamp (by omega)]
      exact ⟨v1, v2⟩
    · obtain ⟨e0, v, v1, v2, e⟩ := t3 j hj
      show _ = nI (if j < n then (xm_tape w j).toNatClampNeg else 0)
      rw [if_pos hj, e0, e, nI_clamp (by omega)]
    · obtain ⟨e0, v, v1, v2, e⟩ := t3 j hj
      show _ = nI (if j < n then (xm_tape w j).toNatClampNeg else 0)
      rw [if_pos hj, e, nI_clamp (by omega)]
  have ht : xt w n c := ⟨hc, t1, hcx⟩
  cases hq : (kt_a c n 35 0).1 with
  | none =>
    obtain ⟨w1, e1, x1, x2⟩ := x_read_bad ht hq
    have eM : w1.2 = w.2 := congrArg (fun x => x.2) x1
    have mt1 : mt w1 n c := ⟨hc, (congrArg (fun x => x.2.2.2.2.2.2.2.2.2.2.2.2.2.1) eM).trans t2, by rw [show xm_tape w1 = xm_tape w from congrArg (fun x => x.2.2.2.2.2.2.2.2.2.2.2.1) eM]; exact hcm⟩
    obtain ⟨w2, e2, y1, y2⟩ := m_read_bad mt1 hq
    have eX : w2.1 = w1.1 := congrArg (fun x => x.1) y1
    have f1 : xw_b w2 = xw_b w := (congrArg (fun x => x.1) eX).trans (congrArg (fun x => x.1.1) x1)
    have f2 : xm_s w2 = xm_s w := (congrArg (fun x => x.2.1) y1).trans (congrArg (fun x => x.1) eM)
    refine ⟨_, w1, w2, e1, e2, B, L, S, hk, by rw [f1]; exact hx, by rw [f2]; exact hm, kr_h_of hh ?_ ?_ ?_ ?_ ?_, kr_s_of hs ?_ ?_ ?_ ?_, kr_r_of hr ?_ ?_ ?_ ?_ ?_ ?_, kr_t_0 ?_ y2, kr_l_of hl ?_ ?_ ?_ ?_⟩
    · exact (congrArg (fun x => x.2.2.2.2.2.2.2.2.2.1) eX).trans (congrArg (fun x => x.1.2.2.2.2.2.2.2.1) x1)
    · exact (congrArg (fun x => x.2.2.2.2.1) y1).trans (congrArg (fun x => x.2.2.2.2.1) eM)
    · exact (congrArg (fun x => x.2.2.2.2.2.2.2.2.1) eX).trans (congrArg (fun x => x.1.2.2.2.2.2.2.1) x1)
    · exact (congrArg (fun x => x.2.2.2.2.2.2.1) eX).trans (congrArg (fun x => x.1.2.2.2.2.1) x1)
    · exact (congrArg (fun x => x.2.2.2.1) y1).trans (congrArg (fun x => x.2.2.2.1) eM)
    · exact (congrArg (fun x => x.2.2.2.2.2.2.2.2.2.2.1) eX).trans (congrArg (fun x => x.1.2.2.2.2.2.2.2.2.1) x1)
    · exact (congrArg (fun x => x.2.2.2.2.2.2.2.2.1) y1).trans (congrArg (fun x => x.2.2.2.2.2.2.2.2.1) eM)
    · exact (congrArg (fun x => x.2.2.2.2.2.2.2.1) eX).trans (congrArg (fun x => x.1.2.2.2.2.2.1) x1)
    · exact (congrArg (fun x => x.2.2.1) y1).trans (congrArg (fun x => x.2.2.1) eM)
    · exact (congrArg (fun x => x.2.2.2.1) eX).trans (congrArg (fun x => x.1.2.1) x1)
    · exact (congrArg (fun x => x.2.2.2.2.1) eX).trans (congrArg (fun x => x.1.2.2.1) x1)
    · exact (congrArg (fun x => x.2.2.2.2.2.1) eX).trans (congrArg (fun x => x.1.2.2.2.1) x1)
    · exact (congrArg (fun x => x.2.2.2.2.2.1) y1).trans (congrArg (fun x => x.2.2.2.2.2.1) eM)
    · exact (congrArg (fun x => x.2.2.2.2.2.2.1) y1).trans (congrArg (fun x => x.2.2.2.2.2.2.1) eM)
    · exact (congrArg (fun x => x.2.2.2.2.2.2.2.1) y1).trans (congrArg (fun x => x.2.2.2.2.2.2.2.1) eM)
    · exact (congrArg (fun x => x.2.2.2.2.2.2.2.2.2.2.2.2.2.2.1) eX).trans x2
    · exact (congrArg (fun x => x.2.2.2.2.2.2.2.2.2.2.2.2.2.2.2.2.2.2.2) eX).trans (congrArg (fun x => x.1.2.2.2.2.2.2.2.2.2.2) x1)
    · exact (congrArg (fun x => x.2.2.2.2.2.2.2.2.2.2) y1).trans (congrArg (fun x => x.2.2.2.2.2.2.2.2.2.2.1) eM)
    · exact (congrArg (fun x => x.2.2.2.2.2.2.2.2.2.2.2.2.2.2.2.2.2.2.1) eX).trans (congrArg (fun x => x.1.2.2.2.2.2.2.2.2.2.1) x1)
    · exact (congrArg (fun x => x.2.2.2.2.2.2.2.2.2.1) y1).trans (congrArg (fun x => x.2.2.2.2.2.2.2.2.2.1) eM)
  | some l =>
    obtain ⟨O, hO⟩ := kt_a_O hq
    have hl35 := (kt_a_do 35 0 l hq).1
    obtain ⟨wa, wb, e1, eb, x1, x2, x3⟩ := x_read_run ht hq hp hpn
    have xb_b : xw_b wb = xw_b w := by rw [eb]; exact congrArg (fun x => x.1.1) x1
    have xb_hi : xw_hi wb = up (xw_hi w) p (xw_b w) := by
      rw [eb]
      show up (xw_hi wa) p (xw_b wa) = _
      rw [show xw_hi wa = xw_hi w from congrArg (fun x => x.1.2.2.2.2.1) x1, show xw_b wa = xw_b w from congrArg (fun x => x.1.1) x1]
    have xb_sn : xw_sn wb = xw_sn w := by rw [eb]; exact congrArg (fun x => x.1.2.2.2.2.2.1) x1
    have xb_hn : xw_hn wb = xw_hn w := by rw [eb]; exact congrArg (fun x => x.1.2.2.2.2.2.2.1) x1
    have xb_hm : xw_hm wb = xw_hm w := by rw [eb]; exact congrArg (fun x => x.1.2.2.2.2.2.2.2.1) x1
    have xb_hs : xw_hs wb = xw_hs w := by rw [eb]; exact congrArg (fun x => x.1.2.2.2.2.2.2.2.2.1) x1
    have xb_li : xw_li wb = xw_li w := by rw [eb]; exact congrArg (fun x => x.1.2.2.2.2.2.2.2.2.2.1) x1
    have xb_ll : xw_ll wb = xw_ll w := by rw [eb]; exact congrArg (fun x => x.1.2.2.2.2.2.2.2.2.2.2) x1
    have xb_cer : cer wb = cer w := by
      rw [eb]
      exact congrArg (fun x => (x.1.2.1, x.1.2.2.1, x.1.2.2.2.1)) x1
    have xb_tl : xw_tl wb = 0 := by rw [eb]; exact x2
    have xb_M : wb.2 = w.2 := by rw [eb]; exact congrArg (fun x => x.2) x1
    clear eb x1 x2
    obtain ⟨LT, LF⟩ := x_read_loop hO hl35 x3 hp (xb_hn.trans hpn) l.length 0 B wb .null (by omega) rfl rfl (by rw [xb_b]; exact hx) hk
    cases hX : kt_x O l.length 0 B with
    | mk B2 R =>
      cases R with
      | none =>
        obtain ⟨w2, v2, e2, a1, a2, a3, a4⟩ := LT B2 hX
        have h2n : xw_hn w2 = nI p := (congrArg (fun x => x.1.2.2.2.1) a1).trans (xb_hn.trans hpn)
        have h2m : xw_hm w2 = nI L.length := (congrArg (fun x => x.1.2.2.2.2.1) a1).trans (xb_hm.trans hm1)
        have ec := x_confirm (w := w2) hp hL h2n h2m
        obtain ⟨w3, ec, g1, g2, g3, g4, g5, g6, g7, g8, g9, g10, g11⟩ : ∃ w3, ai_Call 50 [.ref 23] (wl w2) = some (none, wl w3) ∧ xw_b w3 = xw_b w2 ∧ xw_hi w3 = xw_hi w2 ∧ xw_hn w3 = nI (if p < 8 then p + 1 else 0) ∧ xw_hm w3 = nI (min (L.length + 1) 8) ∧ xw_sn w3 = xw_sn w2 ∧ xw_hs w3 = xw_hs w2 ∧ xw_li w3 = xw_li w2 ∧ xw_ll w3 = xw_ll w2 ∧ cer w3 = cer w2 ∧ xw_tl w3 = xw_tl w2 ∧ w3.2 = w2.2 := ⟨_, ec, rfl, rfl, rfl, rfl, rfl, rfl, rfl, rfl, rfl, rfl, rfl⟩
        have eC : ai_Call 137 [.ref 0] (wl w) = some (some (.int (nI l.length)), wl w3) := by
          rw [e1]
          refine e2.trans ?_
          rw [r_137_46]
          simp only [r_137_0, r_137_1, r_137_4, r_137_7, r_137_8, r_137_9, r_137_12, r_137_15, r_137_16, r_137_17, r_137_20, r_137_22, r_137_23, r_137_24, r_137_25, r_137_26, r_137_29, r_137_30, r_137_33, r_137_36, r_137_37, r_137_40, r_137_43, r_137_44, r_137_45, r_137_47, r_137_48, r_137_51, r_137_52, r_137_55, r_137_56, r_137_59, r_137_60, r_137_61, r_137_64, r_137_66, r_137_68, r_137_71, r_137_74, r_137_75, r_137_78, r_137_79, r_137_82, r_137_85, r_137_87, r_137_89, r_137_92, r_137_94, r_137_97, r_137_99, r_137_100, r_137_103, r_137_106, r_137_107, r_137_110, r_137_113, r_137_114, Option.bind_some, Option.bind_none, Option.toList_some, Option.toList_none, List.cons_append, List.nil_append, Option.map_some, Option.map_none, eq_self, if_true, if_false, reduceIte, ai_bi_eq0, ai_bi_eq1, ai_pb_bi, ai_pb_0, ai_pb_1, show ¬ nI l.length < nI l.length from nI_nlt (Nat.le_refl _) (by omega), f_0_6, ec]
        have eM : w3.2 = w.2 := g11.trans ((congrArg (fun x => x.2) a1).trans xb_M)
        have mt3 : mt w3 n c := ⟨hc, (congrArg (fun x => x.2.2.2.2.2.2.2.2.2.2.2.2.2.1) eM).trans t2, by rw [show xm_tape w3 = xm_tape w from congrArg (fun x => x.2.2.2.2.2.2.2.2.2.2.2.1) eM]; exact hcm⟩
        obtain ⟨w4, e4, y1, y2, y3, y4, y5⟩ := m_read_run mt3 hq
        have s4 : xm_s w4 = xm_s w := (congrArg (fun x => x.2.1) y1).trans (congrArg (fun x => x.1) eM)
        obtain ⟨MT, -⟩ := m_read_loop hO hl35 y5 y4 l.length 0 B w4 .null (by omega) rfl rfl (by rw [s4]; exact hm) hk
        obtain ⟨w5, v5, e5, b1, b2, b3, b4⟩ := MT B2 hX
        have h5c : xm_cm w5 = nI l.length := (congrArg (fun x => x.2.2.2.2.2.2.2.2.2.2.2.2) b1).trans y4
        have h5h : xm_ch w5 = nI L.length := (congrArg (fun x => x.2.2.2.2.1) b1).trans ((congrArg (fun x => x.2.2.2.2.1) y1).trans ((congrArg (fun x => x.2.2.2.2.1) eM).trans hm2))
        have h5w : xm_was w5 = xm_s w := (congrArg (fun x => x.2.1) b1).trans (y2.trans (congrArg (fun x => x.1) eM))
        have h5p : xm_past w5 = xm_past w := (congrArg (fun x => x.2.2.2.1) b1).trans ((congrArg (fun x => x.2.2.2.1) y1).trans (congrArg (fun x => x.2.2.2.1) eM))
        obtain ⟨w6, e6, d1, d2, d3, d4, d5, d6, d7, d8, d9, d10⟩ := m_finish hL h5h h5w h5p
        have ee := m_ends_ok (x := nI l.length) (Or.inr ⟨l.length, by omega, rfl⟩) e6
        have eD : ai_Call 249 [.ref 185] (wl w3) = some (some (.int (nI l.length)), wl w6) := by
          rw [e4]
          refine e5.trans ?_
          rw [r_249_28]
          simp only [r_249_0, r_249_1, r_249_4, r_249_5, r_249_6, r_249_7, r_249_10, r_249_11, r_249_14, r_249_16, r_249_17, r_249_20, r_249_21, r_249_22, r_249_23, r_249_26, r_249_27, r_249_29, r_249_30, r_249_33, r_249_36, r_249_37, r_249_38, r_249_39, r_249_40, r_249_43, r_249_44, r_249_45, r_249_48, r_249_51, r_249_52, r_249_53, r_249_55, r_249_58, r_249_59, r_249_62, r_249_63, r_249_66, r_249_69, r_249_70, r_249_73, r_249_74, r_249_75, r_249_78, r_249_79, r_249_82, r_249_83, r_249_85, r_249_88, r_249_90, r_249_93, r_249_95, r_249_96, r_249_99, r_249_102, r_249_103, r_249_104, r_249_107, r_249_110, Option.bind_some, Option.bind_none, Option.toList_some, Option.toList_none, List.cons_append, List.nil_append, Option.map_some, Option.map_none, eq_self, if_true, if_false, reduceIte, ai_bi_eq0, ai_bi_eq1, ai_pb_bi, ai_pb_0, ai_pb_1, f_185_15, h5c, show ¬ nI l.length < nI l.length from nI_nlt (Nat.le_refl _) (by omega), ee]
        have X6 : w6.1 = w3.1 := d1.trans ((congrArg (fun x => x.1) b1).trans (congrArg (fun x => x.1) y1))
        have q1 : xw_b w6 = xw_b w2 := (congrArg (fun x => x.1) X6).trans g1
        have q2 : cer w6 = cer w := (congrArg (fun x => (x.2.2.2.1, x.2.2.2.2.1, x.2.2.2.2.2.1)) X6).trans (g9.trans (a2.trans xb_cer))
        have q3 : der w6 = der w := d7.trans (b2.trans ((congrArg (fun x => (x.2.2.2.2.2.1, x.2.2.2.2.2.2.1, x.2.2.2.2.2.2.2.1)) y1).trans (congrArg (fun x => (x.2.2.2.2.2.1, x.2.2.2.2.2.2.1, x.2.2.2.2.2.2.2.1)) eM)))
        refine ⟨nI l.length, w3, w6, eC, eD, B2, (B :: L).take 8, S, a4, by rw [q1]; exact a3, by rw [d4]; exact b3, hist_ok hk hx hm hp hpn hh ?_ d2 ?_ ?_ d3, kr_s_of hs ?_ ?_ ?_ ?_, kr_r_of hr ?_ ?_ ?_ ?_ ?_ ?_, kr_t_0 ?_ ?_, kr_l_of hl ?_ ?_ ?_ ?_⟩
        · exact (congrArg (fun x => x.2.2.2.2.2.2.2.2.2.1) X6).trans g4
        · exact (congrArg (fun x => x.2.2.2.2.2.2.2.2.1) X6).trans g3
        · exact (congrArg (fun x => x.2.2.2.2.2.2.1) X6).trans (g2.trans ((congrArg (fun x => x.1.2.1) a1).trans xb_hi))
        · exact (congrArg (fun x => x.2.2.2.2.2.2.2.2.2.2.1) X6).trans (g6.trans ((congrArg (fun x => x.1.2.2.2.2.2.1) a1).trans xb_hs))
        · exact d5.trans ((congrArg (fun x => x.2.2.2.2.2.1) b1).trans ((congrArg (fun x => x.2.2.2.2.2.2.2.2.1) y1).trans (congrArg (fun x => x.2.2.2.2.2.2.2.2.1) eM)))
        · exact (congrArg (fun x => x.2.2.2.2.2.2.2.1) X6).trans (g5.trans ((congrArg (fun x => x.1.2.2.1) a1).trans xb_sn))
        · exact d6.trans ((congrArg (fun x => x.2.2.1) b1).trans ((congrArg (fun x => x.2.2.1) y1).trans (congrArg (fun x => x.2.2.1) eM)))
        · exact congrArg (fun x => x.1) q2
        · exact congrArg (fun x => x.2.1) q2
        · exact congrArg (fun x => x.2.2) q2
        · exact congrArg (fun x => x.1) q3
        · exact congrArg (fun x => x.2.1) q3
        · exact congrArg (fun x => x.2.2) q3
        · exact (congrArg (fun x => x.2.2.2.2.2.2.2.2.2.2.2.2.2.2.1) X6).trans (g10.trans ((congrArg (fun x => x.1.2.2.2.2.2.2.2.2.2.1) a1).trans xb_tl))
        · exact d8.trans ((congrArg (fun x => x.2.2.2.2.2.2.2.2.2.2.1) b1).trans y3)
        · exact (congrArg (fun x => x.2.2.2.2.2.2.2.2.2.2.2.2.2.2.2.2.2.2.2) X6).trans (g8.trans ((congrArg (fun x => x.1.2.2.2.2.2.2.2.2.2.2.2.2.2.2) a1).trans xb_ll))
        · exact d9.trans ((congrArg (fun x => x.2.2.2.2.2.2.2.1) b1).trans ((congrArg (fun x => x.2.2.2.2.2.2.2.2.2.2) y1).trans (congrArg (fun x => x.2.2.2.2.2.2.2.2.2.2.1) eM)))
        · exact (congrArg (fun x => x.2.2.2.2.2.2.2.2.2.2.2.2.2.2.2.2.2.2.1) X6).trans (g7.trans ((congrArg (fun x => x.1.2.2.2.2.2.2.2.2.2.2.2.2.2.1) a1).trans xb_li))
        · exact d10.trans ((congrArg (fun x => x.2.2.2.2.2.2.1) b1).trans ((congrArg (fun x => x.2.2.2.2.2.2.2.2.2.1) y1).trans (congrArg (fun x => x.2.2.2.2.2.2.2.2.2.1) eM)))
      | some R =>
        obtain ⟨j, a, r⟩ := R
        obtain ⟨w3, e2, a1, a2, a3⟩ := LF B2 j a r hX
        have eC : ai_Call 137 [.ref 0] (wl w) = some (some (.int (kt_ans a)), wl w3) := by
          rw [e1]
          exact e2
        have eM : w3.2 = w.2 := (congrArg (fun x => x.2) a1).trans xb_M
        have mt3 : mt w3 n c := ⟨hc, (congrArg (fun x => x.2.2.2.2.2.2.2.2.2.2.2.2.2.1) eM).trans t2, by rw [show xm_tape w3 = xm_tape w from congrArg (fun x => x.2.2.2.2.2.2.2.2.2.2.2.1) eM]; exact hcm⟩
        obtain ⟨w4, e4, y1, y2, y3, y4, y5⟩ := m_read_run mt3 hq
        have s4 : xm_s w4 = xm_s w := (congrArg (fun x => x.2.1) y1).trans (congrArg (fun x => x.1) eM)
        obtain ⟨-, MF⟩ := m_read_loop hO hl35 y5 y4 l.length 0 B w4 .null (by omega) rfl rfl (by rw [s4]; exact hm) hk
        obtain ⟨w6, e5, b1, b2, b3, b4⟩ := MF B2 j a r hX
        have eD : ai_Call 249 [.ref 185] (wl w3) = some (some (.int (kt_ans a)), wl w6) := by
          rw [e4]
          exact e5
        have X6 : w6.1 = w3.1 := (congrArg (fun x => x.1) b1).trans (congrArg (fun x => x.1) y1)
        have q1 : xw_b w6 = xw_b w := (congrArg (fun x => x.1) X6).trans (a2.trans (by rw [xb_hi, up_at]))
        have q2 : cer w6 = kt_ref (cer w) j r := (congrArg (fun x => (x.2.2.2.1, x.2.2.2.2.1, x.2.2.2.2.2.1)) X6).trans (a3.trans (by rw [xb_cer]))
        have q3 : der w6 = kt_ref (der w) j r := b3.trans (by rw [show der w4 = der w from (congrArg (fun x => (x.2.2.2.2.2.1, x.2.2.2.2.2.2.1, x.2.2.2.2.2.2.2.1)) y1).trans (congrArg (fun x => (x.2.2.2.2.2.1, x.2.2.2.2.2.2.1, x.2.2.2.2.2.2.2.1)) eM)])
        have q4 : xm_s w6 = xm_s w := b2.trans (y2.trans (congrArg (fun x => x.1) eM))
        have hr6 : kr_r w6 := by
          rcases b4 with z | ⟨y, d, z, hy⟩
          · rw [z] at q2 q3
            exact kr_r_of hr (congrArg (fun x => x.1) q2) (congrArg (fun x => x.2.1) q2) (congrArg (fun x => x.2.2) q2) (congrArg (fun x => x.1) q3) (congrArg (fun x => x.2.1) q3) (congrArg (fun x => x.2.2) q3)
          · rw [z] at q2 q3
            have r1 : xw_rr w6 = y := congrArg (fun x => x.1) q2
            have r2 : xw_rd w6 = d := congrArg (fun x => x.2.1) q2
            have r3 : xw_rc w6 = nI j := congrArg (fun x => x.2.2) q2
            have r4 : xm_re w6 = y := congrArg (fun x => x.1) q3
            have r5 : xm_de w6 = d := congrArg (fun x => x.2.1) q3
            have r6 : xm_at w6 = nI j := congrArg (fun x => x.2.2) q3
            exact Or.inr ⟨by rw [r4]; exact hy, r1.trans r4.symm, r2.trans r5.symm, r3.trans r6.symm⟩
        refine ⟨kt_ans a, w3, w6, eC, eD, B, L, S, hk, by rw [q1]; exact hx, by rw [q4]; exact hm, hist_err (b := xw_b w) hp hpn hh ?_ ?_ ?_ ?_ ?_, kr_s_of hs ?_ ?_ ?_ ?_, hr6, kr_t_0 ?_ ?_, kr_l_of hl ?_ ?_ ?_ ?_⟩
        · exact (congrArg (fun x => x.2.2.2.2.2.2.2.2.2.1) X6).trans ((congrArg (fun x => x.1.2.2.2.2.1) a1).trans xb_hm)
        · exact (congrArg (fun x => x.2.2.2.2.1) b1).trans ((congrArg (fun x => x.2.2.2.2.1) y1).trans (congrArg (fun x => x.2.2.2.2.1) eM))
        · exact (congrArg (fun x => x.2.2.2.2.2.2.2.2.1) X6).trans ((congrArg (fun x => x.1.2.2.2.1) a1).trans xb_hn)
        · exact (congrArg (fun x => x.2.2.2.2.2.2.1) X6).trans ((congrArg (fun x => x.1.2.1) a1).trans xb_hi)
        · exact (congrArg (fun x => x.2.2.2.1) b1).trans ((congrArg (fun x => x.2.2.2.1) y1).trans (congrArg (fun x => x.2.2.2.1) eM))
        · exact (congrArg (fun x => x.2.2.2.2.2.2.2.2.2.2.1) X6).trans ((congrArg (fun x => x.1.2.2.2.2.2.1) a1).trans xb_hs)
        · exact (congrArg (fun x => x.2.2.2.2.2.1) b1).trans ((congrArg (fun x => x.2.2.2.2.2.2.2.2.1) y1).trans (congrArg (fun x => x.2.2.2.2.2.2.2.2.1) eM))
        · exact (congrArg (fun x => x.2.2.2.2.2.2.2.1) X6).trans ((congrArg (fun x => x.1.2.2.1) a1).trans xb_sn)
        · exact (congrArg (fun x => x.2.2.1) b1).trans ((congrArg (fun x => x.2.2.1) y1).trans (congrArg (fun x => x.2.2.1) eM))
        · exact (congrArg (fun x => x.2.2.2.2.2.2.2.2.2.2.2.2.2.2.1) X6).trans ((congrArg (fun x => x.1.2.2.2.2.2.2.2.2.2.1) a1).trans xb_tl)
        · exact (congrArg (fun x => x.2.2.2.2.2.2.2.2.2.2.1) b1).trans y3
        · exact (congrArg (fun x => x.2.2.2.2.2.2.2.2.2.2.2.2.2.2.2.2.2.2.2) X6).trans ((congrArg (fun x => x.1.2.2.2.2.2.2.2.2.2.2.2.2.2.2) a1).trans xb_ll)
        · exact (congrArg (fun x => x.2.2.2.2.2.2.2.1) b1).trans ((congrArg (fun x => x.2.2.2.2.2.2.2.2.2.2) y1).trans (congrArg (fun x => x.2.2.2.2.2.2.2.2.2.2.1) eM))
        · exact (congrArg (fun x => x.2.2.2.2.2.2.2.2.2.2.2.2.2.2.2.2.2.2.1) X6).trans ((congrArg (fun x => x.1.2.2.2.2.2.2.2.2.2.2.2.2.2.1) a1).trans xb_li)
        · exact (congrArg (fun x => x.2.2.2.2.2.2.1) b1).trans ((congrArg (fun x => x.2.2.2.2.2.2.2.2.2.1) y1).trans (congrArg (fun x => x.2.2.2.2.2.2.2.2.2.1) eM))
