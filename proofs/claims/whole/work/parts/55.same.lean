/-! Every command that changes the book answers the same on both sides. -/
section GD
variable {B : kb_B}
theorem gd_r (hk : kb_ok B) {y d : Int32} (hy : ¬ y = 0) : kc_good B (B, -3, some (y, d)) := ⟨hk, Or.inl ⟨y, d, rfl, hy⟩⟩
theorem gd_1 (hk : kb_ok B) : kc_good B (B, -1, none) := ⟨hk, Or.inr (Or.inl rfl)⟩
theorem gd_2 (hk : kb_ok B) : kc_good B (B, -2, none) := ⟨hk, Or.inr (Or.inr (Or.inl rfl))⟩
theorem gd_o {B2 : kb_B} (hk : kb_ok B2) {n : Nat} (hn : n < 2 ^ 31) : kc_good B (B2, nI n, none) := ⟨hk, Or.inr (Or.inr (Or.inr ⟨rfl, Or.inr ⟨n, hn, rfl⟩⟩))⟩
theorem good_character (hk : kb_ok B) : kc_good B (kc_character B) := by
  have hn := hk.1
  unfold kc_character
  by_cases c : kb_n B = 8
  · rw [if_pos c]; exact gd_r hk (by decide)
  · rw [if_neg c]; exact gd_o (ok_un hk (by omega)) (by omega)
theorem good_author (hk : kb_ok B) : kc_good B (kc_author B) := by
  have hn := hk.2.1
  unfold kc_author
  by_cases c : kb_a B = 4
  · rw [if_pos c]; exact gd_r hk (by decide)
  · rw [if_neg c]; exact gd_o (ok_ua hk (by omega)) (by omega)
theorem good_turn (hk : kb_ok B) {c q n : Nat} (hc : c < kb_n B) (h1 : 1 ≤ q) (h30 : q ≤ 30) (hn : n < 2 ^ 31) : kc_good B (kc_turn B c q (nI n)) := by
  have h6 := hk.2.2.1 c
  unfold kc_turn
  by_cases c1 : q ≤ kb_la B c
  · rw [if_pos c1]; exact gd_r hk (by decide)
  · rw [if_neg c1]
    by_cases c2 : kb_T B c = 6
    · rw [if_pos c2]; exact gd_r hk (by decide)
    · rw [if_neg c2]; exact gd_o (ok_add hk hc (by omega) h1 h30 (by omega)) hn
theorem good_die (hk : kb_ok B) (x y : Int32) : kc_good B (kc_die B x y) := by
  have hn := hk.1
  unfold kc_die
  by_cases c1 : ai_is (kb_n B) x = true
  · obtain ⟨c, hc, rfl⟩ := ai_is_of (by omega) c1
    have h3 := kb_d3 hk c
    rw [if_pos c1, nI_clamp (show c < 2 ^ 31 by omega)]
    by_cases c2 : kb_ch y = true
    · obtain ⟨q, hq1, hq2, rfl⟩ := kb_ch_of c2
      rw [if_pos c2, nI_clamp (show q < 2 ^ 31 by omega)]
      by_cases c3 : kb_T B c % 2 = 1
      · rw [if_pos c3]; exact gd_r hk (by decide)
      · rw [if_neg c3]; exact good_turn hk hc hq1 hq2 (by omega)
    · rw [if_neg c2]; exact gd_2 hk
  · rw [if_neg c1]; exact gd_1 hk
theorem good_rise (hk : kb_ok B) (x y : Int32) : kc_good B (kc_rise B x y) := by
  have hn := hk.1
  unfold kc_rise
  by_cases c1 : ai_is (kb_n B) x = true
  · obtain ⟨c, hc, rfl⟩ := ai_is_of (by omega) c1
    rw [if_pos c1, nI_clamp (show c < 2 ^ 31 by omega)]
    by_cases c2 : kb_ch y = true
    · obtain ⟨q, hq1, hq2, rfl⟩ := kb_ch_of c2
      rw [if_pos c2, nI_clamp (show q < 2 ^ 31 by omega)]
      by_cases c3 : kb_T B c % 2 = 1
      · rw [if_pos c3]; exact good_turn hk hc hq1 hq2 (by omega)
      · rw [if_neg c3]; exact gd_r hk (by decide)
    · rw [if_neg c2]; exact gd_2 hk
  · rw [if_neg c1]; exact gd_1 hk
theorem good_strike (hk : kb_ok B) (x : Int32) : kc_good B (kc_strike B x) := by
  unfold kc_strike
  by_cases c1 : ai_is (kb_n B) x = true
  · rw [if_pos c1]
    have hl := la_le hk x.toNatClampNeg
    by_cases c2 : kb_T B x.toNatClampNeg = 0
    · rw [if_pos c2]; exact gd_r hk (by decide)
    · rw [if_neg c2]; exact gd_o (ok_tk hk c2) (by omega)
  · rw [if_neg c1]; exact gd_1 hk
theorem good_write (hk : kb_ok B) (x y : Int32) : kc_good B (kc_write B x y) := by
  have ha := hk.2.1
  unfold kc_write
  by_cases c1 : ai_is (kb_a B) y = true
  · rw [if_pos c1]
    by_cases c2 : kb_ch x = true
    · rw [if_pos c2]
      by_cases c3 : kb_W B x.toNatClampNeg = y
      · rw [if_pos c3]; exact gd_r hk (by decide)
      · rw [if_neg c3]
        obtain ⟨i, hi, rfl⟩ := ai_is_of (by omega) c1
        refine ⟨ok_W hk hi, Or.inr (Or.inr (Or.inr ⟨rfl, ?_⟩))⟩
        rcases hk.2.2.2.2.2.2.1 x.toNatClampNeg with z | ⟨j, hj, z⟩
        · exact Or.inl z
        · exact Or.inr ⟨j, by omega, z⟩
    · rw [if_neg c2]; exact gd_2 hk
  · rw [if_neg c1]; exact gd_1 hk
theorem good_swear (hk : kb_ok B) (x y : Int32) : kc_good B (kc_swear B x y) := by
  have ha := hk.2.1
  unfold kc_swear
  by_cases c1 : ai_is (kb_a B) x = true
  · rw [if_pos c1]
    by_cases c2 : y = 0 ∨ y = 1
    · rw [if_pos c2]
      by_cases c3 : nI (kb_S B x.toNatClampNeg) = y
      · rw [if_pos c3]; exact gd_r hk (by decide)
      · rw [if_neg c3]
        have hv : y.toNatClampNeg ≤ 1 := by rcases c2 with rfl | rfl <;> decide
        have ho := ok_S hk (i := x.toNatClampNeg) hv
        have hs := kb_s_le (f := kb_S (kb_setS B x.toNatClampNeg y.toNatClampNeg)) (k := 1) ho.2.2.2.2.2.2.2.1 (kb_a B)
        exact gd_o ho (by omega)
    · rw [if_neg c2]; exact gd_2 hk
  · rw [if_neg c1]; exact gd_1 hk
theorem good_motive (hk : kb_ok B) (x y z : Int32) : kc_good B (kc_motive B x y z) := by
  have hm := hk.2.2.2.2.2.2.2.2.1 x.toNatClampNeg y.toNatClampNeg
  unfold kc_motive
  by_cases c1 : ai_is (kb_n B) x = true
  · rw [if_pos c1]
    by_cases c2 : ai_is (kb_n B) y = true
    · rw [if_pos c2]
      by_cases c3 : ai_is 10 z = true
      · rw [if_pos c3]
        obtain ⟨v, hv, rfl⟩ := ai_is_of (by omega) c3
        by_cases c4 : x = y
        · rw [if_pos c4]; exact gd_r hk (by decide)
        · rw [if_neg c4]
          by_cases c5 : nI (kb_M B x.toNatClampNeg y.toNatClampNeg) = nI v
          · rw [if_pos c5]; exact gd_r hk (by decide)
          · rw [if_neg c5, nI_clamp (show v < 2 ^ 31 by omega)]; exact gd_o (ok_M hk (by omega)) (by omega)
      · rw [if_neg c3]; exact gd_2 hk
    · rw [if_neg c2]; exact gd_1 hk
  · rw [if_neg c1]; exact gd_1 hk
theorem good_seat (hk : kb_ok B) (x y : Int32) : kc_good B (kc_seat B x y) := by
  unfold kc_seat
  by_cases c1 : ai_is 7 x = true
  · rw [if_pos c1]
    by_cases c2 : ai_sev y = true
    · rw [if_pos c2]
      obtain ⟨s, hs1, hs2, rfl⟩ := ai_sev_of c2
      by_cases c3 : 0 < kb_J B x.toNatClampNeg
      · rw [if_pos c3]; exact gd_r hk (by decide)
      · rw [if_neg c3, nI_clamp (show s < 2 ^ 31 by omega)]
        have := kb_sit7 (kb_setJ B x.toNatClampNeg s)
        exact gd_o (ok_J hk hs2) (by omega)
    · rw [if_neg c2]; exact gd_2 hk
  · rw [if_neg c1]; exact gd_1 hk
theorem good_leave (hk : kb_ok B) (x : Int32) : kc_good B (kc_leave B x) := by
  unfold kc_leave
  by_cases c1 : ai_is 7 x = true
  · rw [if_pos c1]
    by_cases c3 : 0 < kb_J B x.toNatClampNeg
    · rw [if_pos c3]
      have := kb_sit7 (kb_setJ B x.toNatClampNeg 0)
      exact gd_o (ok_J hk (by omega)) (by omega)
    · rw [if_neg c3]; exact gd_r hk (by decide)
  · rw [if_neg c1]; exact gd_1 hk
theorem good_trial (hk : kb_ok B) (x y z : Int32) : kc_good B (kc_trial B x y z) := by
  have hn := hk.1
  unfold kc_trial
  by_cases c1 : kb_case B x y z = true
  · obtain ⟨c, o, d, hc, ho, hd, rfl, rfl, rfl⟩ := kb_case_of hk c1
    have h3 := kb_d3 hk o
    rw [if_pos c1, nI_clamp (show c < 2 ^ 31 by omega), nI_clamp (show o < 2 ^ 31 by omega), nI_clamp (show d < 2 ^ 31 by omega)]
    by_cases c2 : nI c = nI o
    · rw [if_pos c2]; exact gd_r hk (by decide)
    · rw [if_neg c2]
      by_cases c3 : kb_C B o d = (-4)
      · rw [if_pos c3]
        by_cases c4 : kb_could B c o d = true
        · rw [if_pos c4]
          by_cases c5 : kb_sit B = 0
          · rw [if_pos c5]; exact gd_r hk (by decide)
          · rw [if_neg c5]
            by_cases c6 : kb_sit B < 2 * kb_votes B (kb_w B c o d)
            · rw [if_pos c6]
              exact gd_o (n := 1) (ok_C (B := kb_ut B (kb_t B + 1)) (ok_ut hk _) hc (by show 2 * d < kb_T B o; unfold kb_d at hd; omega)) (by decide)
            · rw [if_neg c6]
              exact gd_o (n := 0) (ok_ut hk _) (by decide)
        · rw [if_neg c4]; exact gd_r hk (by decide)
      · rw [if_neg c3]; exact gd_r hk (by decide)
  · rw [if_neg c1]; exact gd_1 hk
end GD
theorem ks_character : ks 92 199 [] := ks_cmd (yG := 61) (yI := 198) (fun B => kc_character B) (fun _ hk => good_character hk) (fun w w1 r w2 a e1 e2 e3 => by
  simp only [e_92, o_0, r_92_0, r_92_1, r_92_4, r_92_5, r_92_6, r_92_9, r_92_12, r_92_15, Option.bind_some, Option.bind_none, Option.toList_some, Option.toList_none, List.cons_append, List.nil_append, Option.map_some, Option.map_none, eq_self, if_true, if_false, reduceIte, ai_bi_eq0, ai_bi_eq1, ai_pb_bi, ai_pb_0, ai_pb_1, f_0_5, e1, e2, e3]) (fun w w1 r w2 a e1 e2 e3 => by
  simp only [e_199, o_185, r_199_0, r_199_1, r_199_4, r_199_5, r_199_6, r_199_9, r_199_12, Option.bind_some, Option.bind_none, Option.toList_some, Option.toList_none, List.cons_append, List.nil_append, Option.map_some, Option.map_none, eq_self, if_true, if_false, reduceIte, ai_bi_eq0, ai_bi_eq1, ai_pb_bi, ai_pb_0, ai_pb_1, e1, e2, e3]) (fun _ _ h hk => c_character h hk) (fun _ _ h hk => m_comes h hk)
theorem ks_author : ks 52 188 [] := ks_cmd (yG := 48) (yI := 184) (fun B => kc_author B) (fun _ hk => good_author hk) (fun w w1 r w2 a e1 e2 e3 => by
  simp only [e_52, o_0, r_52_0, r_52_1, r_52_4, r_52_5, r_52_6, r_52_9, r_52_12, r_52_15, Option.bind_some, Option.bind_none, Option.toList_some, Option.toList_none, List.cons_append, List.nil_append, Option.map_some, Option.map_none, eq_self, if_true, if_false, reduceIte, ai_bi_eq0, ai_bi_eq1, ai_pb_bi, ai_pb_0, ai_pb_1, f_0_5, e1, e2, e3]) (fun w w1 r w2 a e1 e2 e3 => by
  simp only [e_188, o_185, r_188_0, r_188_1, r_188_4, r_188_5, r_188_6, r_188_9, r_188_12, Option.bind_some, Option.bind_none, Option.toList_some, Option.toList_none, List.cons_append, List.nil_append, Option.map_some, Option.map_none, eq_self, if_true, if_false, reduceIte, ai_bi_eq0, ai_bi_eq1, ai_pb_bi, ai_pb_0, ai_pb_1, e1, e2, e3]) (fun _ _ h hk => c_author h hk) (fun _ _ h hk => m_tellsAuthor h hk)
theorem ks_die (x y : Int32) : ks 109 217 [.int x, .int y] := ks_cmd (yG := 68) (yI := 216) (fun B => kc_die B x y) (fun _ hk => good_die hk x y) (fun w w1 r w2 a e1 e2 e3 => by
  simp only [e_109, o_0, r_109_0, r_109_1, r_109_4, r_109_5, r_109_6, r_109_9, r_109_10, r_109_11, r_109_14, r_109_17, Option.bind_some, Option.bind_none, Option.toList_some, Option.toList_none, List.cons_append, List.nil_append, Option.map_some, Option.map_none, eq_self, if_true, if_false, reduceIte, ai_bi_eq0, ai_bi_eq1, ai_pb_bi, ai_pb_0, ai_pb_1, f_0_5, e1, e2, e3]) (fun w w1 r w2 a e1 e2 e3 => by
  simp only [e_217, o_185, r_217_0, r_217_1, r_217_4, r_217_5, r_217_6, r_217_7, r_217_8, r_217_11, r_217_14, Option.bind_some, Option.bind_none, Option.toList_some, Option.toList_none, List.cons_append, List.nil_append, Option.map_some, Option.map_none, eq_self, if_true, if_false, reduceIte, ai_bi_eq0, ai_bi_eq1, ai_pb_bi, ai_pb_0, ai_pb_1, e1, e2, e3]) (fun _ _ h hk => c_die h hk x y) (fun _ _ h hk => m_dies h hk x y)
theorem ks_rise (x y : Int32) : ks 142 252 [.int x, .int y] := ks_cmd (yG := 69) (yI := 218) (fun B => kc_rise B x y) (fun _ hk => good_rise hk x y) (fun w w1 r w2 a e1 e2 e3 => by
  simp only [e_142, o_0, r_142_0, r_142_1, r_142_4, r_142_5, r_142_6, r_142_9, r_142_10, r_142_11, r_142_14, r_142_17, Option.bind_some, Option.bind_none, Option.toList_some, Option.toList_none, List.cons_append, List.nil_append, Option.map_some, Option.map_none, eq_self, if_true, if_false, reduceIte, ai_bi_eq0, ai_bi_eq1, ai_pb_bi, ai_pb_0, ai_pb_1, f_0_5, e1, e2, e3]) (fun w w1 r w2 a e1 e2 e3 => by
  simp only [e_252, o_185, r_252_0, r_252_1, r_252_4, r_252_5, r_252_6, r_252_7, r_252_8, r_252_11, r_252_14, Option.bind_some, Option.bind_none, Option.toList_some, Option.toList_none, List.cons_append, List.nil_append, Option.map_some, Option.map_none, eq_self, if_true, if_false, reduceIte, ai_bi_eq0, ai_bi_eq1, ai_pb_bi, ai_pb_0, ai_pb_1, e1, e2, e3]) (fun _ _ h hk => c_rise h hk x y) (fun _ _ h hk => m_rises h hk x y)
theorem ks_strike (x : Int32) : ks 149 259 [.int x] := ks_cmd (yG := 72) (yI := 219) (fun B => kc_strike B x) (fun _ hk => good_strike hk x) (fun w w1 r w2 a e1 e2 e3 => by
  simp only [e_149, o_0, r_149_0, r_149_1, r_149_4, r_149_5, r_149_6, r_149_9, r_149_10, r_149_13, r_149_16, Option.bind_some, Option.bind_none, Option.toList_some, Option.toList_none, List.cons_append, List.nil_append, Option.map_some, Option.map_none, eq_self, if_true, if_false, reduceIte, ai_bi_eq0, ai_bi_eq1, ai_pb_bi, ai_pb_0, ai_pb_1, f_0_5, e1, e2, e3]) (fun w w1 r w2 a e1 e2 e3 => by
  simp only [e_259, o_185, r_259_0, r_259_1, r_259_4, r_259_5, r_259_6, r_259_7, r_259_10, r_259_13, Option.bind_some, Option.bind_none, Option.toList_some, Option.toList_none, List.cons_append, List.nil_append, Option.map_some, Option.map_none, eq_self, if_true, if_false, reduceIte, ai_bi_eq0, ai_bi_eq1, ai_pb_bi, ai_pb_0, ai_pb_1, e1, e2, e3]) (fun _ _ h hk => c_strike h hk x) (fun _ _ h hk => m_strikes h hk x)
theorem ks_write (x y : Int32) : ks 163 269 [.int x, .int y] := ks_cmd (yG := 73) (yI := 220) (fun B => kc_write B x y) (fun _ hk => good_write hk x y) (fun w w1 r w2 a e1 e2 e3 => by
  simp only [e_163, o_0, r_163_0, r_163_1, r_163_4, r_163_5, r_163_6, r_163_9, r_163_10, r_163_11, r_163_14, r_163_17, Option.bind_some, Option.bind_none, Option.toList_some, Option.toList_none, List.cons_append, List.nil_append, Option.map_some, Option.map_none, eq_self, if_true, if_false, reduceIte, ai_bi_eq0, ai_bi_eq1, ai_pb_bi, ai_pb_0, ai_pb_1, f_0_5, e1, e2, e3]) (fun w w1 r w2 a e1 e2 e3 => by
  simp only [e_269, o_185, r_269_0, r_269_1, r_269_4, r_269_5, r_269_6, r_269_7, r_269_8, r_269_11, r_269_14, Option.bind_some, Option.bind_none, Option.toList_some, Option.toList_none, List.cons_append, List.nil_append, Option.map_some, Option.map_none, eq_self, if_true, if_false, reduceIte, ai_bi_eq0, ai_bi_eq1, ai_pb_bi, ai_pb_0, ai_pb_1, e1, e2, e3]) (fun _ _ h hk => c_write h hk x y) (fun _ _ h hk => m_writes h hk x y)
theorem ks_swear (x y : Int32) : ks 152 262 [.int x, .int y] := ks_cmd (yG := 75) (yI := 221) (fun B => kc_swear B x y) (fun _ hk => good_swear hk x y) (fun w w1 r w2 a e1 e2 e3 => by
  simp only [e_152, o_0, r_152_0, r_152_1, r_152_4, r_152_5, r_152_6, r_152_9, r_152_10, r_152_11, r_152_14, r_152_17, Option.bind_some, Option.bind_none, Option.toList_some, Option.toList_none, List.cons_append, List.nil_append, Option.map_some, Option.map_none, eq_self, if_true, if_false, reduceIte, ai_bi_eq0, ai_bi_eq1, ai_pb_bi, ai_pb_0, ai_pb_1, f_0_5, e1, e2, e3]) (fun w w1 r w2 a e1 e2 e3 => by
  simp only [e_262, o_185, r_262_0, r_262_1, r_262_4, r_262_5, r_262_6, r_262_7, r_262_8, r_262_11, r_262_14, Option.bind_some, Option.bind_none, Option.toList_some, Option.toList_none, List.cons_append, List.nil_append, Option.map_some, Option.map_none, eq_self, if_true, if_false, reduceIte, ai_bi_eq0, ai_bi_eq1, ai_pb_bi, ai_pb_0, ai_pb_1, e1, e2, e3]) (fun _ _ h hk => c_swear h hk x y) (fun _ _ h hk => m_swears h hk x y)
theorem ks_motive (x y z : Int32) : ks 118 243 [.int x, .int y, .int z] := ks_cmd (yG := 77) (yI := 222) (fun B => kc_motive B x y z) (fun _ hk => good_motive hk x y z) (fun w w1 r w2 a e1 e2 e3 => by
  simp only [e_118, o_0, r_118_0, r_118_1, r_118_4, r_118_5, r_118_6, r_118_9, r_118_10, r_118_11, r_118_12, r_118_15, r_118_18, Option.bind_some, Option.bind_none, Option.toList_some, Option.toList_none, List.cons_append, List.nil_append, Option.map_some, Option.map_none, eq_self, if_true, if_false, reduceIte, ai_bi_eq0, ai_bi_eq1, ai_pb_bi, ai_pb_0, ai_pb_1, f_0_5, e1, e2, e3]) (fun w w1 r w2 a e1 e2 e3 => by
  simp only [e_243, o_185, r_243_0, r_243_1, r_243_4, r_243_5, r_243_6, r_243_7, r_243_8, r_243_9, r_243_12, r_243_15, Option.bind_some, Option.bind_none, Option.toList_some, Option.toList_none, List.cons_append, List.nil_append, Option.map_some, Option.map_none, eq_self, if_true, if_false, reduceIte, ai_bi_eq0, ai_bi_eq1, ai_pb_bi, ai_pb_0, ai_pb_1, e1, e2, e3]) (fun _ _ h hk => c_motive h hk x y z) (fun _ _ h hk => m_tellsMotive h hk x y z)
theorem ks_seat (x y : Int32) : ks 145 254 [.int x, .int y] := ks_cmd (yG := 81) (yI := 225) (fun B => kc_seat B x y) (fun _ hk => good_seat hk x y) (fun w w1 r w2 a e1 e2 e3 => by
  simp only [e_145, o_0, r_145_0, r_145_1, r_145_4, r_145_5, r_145_6, r_145_9, r_145_10, r_145_11, r_145_14, r_145_17, Option.bind_some, Option.bind_none, Option.toList_some, Option.toList_none, List.cons_append, List.nil_append, Option.map_some, Option.map_none, eq_self, if_true, if_false, reduceIte, ai_bi_eq0, ai_bi_eq1, ai_pb_bi, ai_pb_0, ai_pb_1, f_0_5, e1, e2, e3]) (fun w w1 r w2 a e1 e2 e3 => by
  simp only [e_254, o_185, r_254_0, r_254_1, r_254_4, r_254_5, r_254_6, r_254_7, r_254_8, r_254_11, r_254_14, Option.bind_some, Option.bind_none, Option.toList_some, Option.toList_none, List.cons_append, List.nil_append, Option.map_some, Option.map_none, eq_self, if_true, if_false, reduceIte, ai_bi_eq0, ai_bi_eq1, ai_pb_bi, ai_pb_0, ai_pb_1, e1, e2, e3]) (fun _ _ h hk => c_seat h hk x y) (fun _ _ h hk => m_seats h hk x y)
theorem ks_leave (x : Int32) : ks 117 242 [.int x] := ks_cmd (yG := 79) (yI := 224) (fun B => kc_leave B x) (fun _ hk => good_leave hk x) (fun w w1 r w2 a e1 e2 e3 => by
  simp only [e_117, o_0, r_117_0, r_117_1, r_117_4, r_117_5, r_117_6, r_117_9, r_117_10, r_117_13, r_117_16, Option.bind_some, Option.bind_none, Option.toList_some, Option.toList_none, List.cons_append, List.nil_append, Option.map_some, Option.map_none, eq_self, if_true, if_false, reduceIte, ai_bi_eq0, ai_bi_eq1, ai_pb_bi, ai_pb_0, ai_pb_1, f_0_5, e1, e2, e3]) (fun w w1 r w2 a e1 e2 e3 => by
  simp only [e_242, o_185, r_242_0, r_242_1, r_242_4, r_242_5, r_242_6, r_242_7, r_242_10, r_242_13, Option.bind_some, Option.bind_none, Option.toList_some, Option.toList_none, List.cons_append, List.nil_append, Option.map_some, Option.map_none, eq_self, if_true, if_false, reduceIte, ai_bi_eq0, ai_bi_eq1, ai_pb_bi, ai_pb_0, ai_pb_1, e1, e2, e3]) (fun _ _ h hk => c_leave h hk x) (fun _ _ h hk => m_lets h hk x)
theorem ks_trial (x y z : Int32) : ks 158 266 [.int x, .int y, .int z] := ks_cmd (yG := 90) (yI := 229) (fun B => kc_trial B x y z) (fun _ hk => good_trial hk x y z) (fun w w1 r w2 a e1 e2 e3 => by
  simp only [e_158, o_0, r_158_0, r_158_1, r_158_4, r_158_5, r_158_6, r_158_9, r_158_10, r_158_11, r_158_12, r_158_15, r_158_18, Option.bind_some, Option.bind_none, Option.toList_some, Option.toList_none, List.cons_append, List.nil_append, Option.map_some, Option.map_none, eq_self, if_true, if_false, reduceIte, ai_bi_eq0, ai_bi_eq1, ai_pb_bi, ai_pb_0, ai_pb_1, f_0_5, e1, e2, e3]) (fun w w1 r w2 a e1 e2 e3 => by
  simp only [e_266, o_185, r_266_0, r_266_1, r_266_4, r_266_5, r_266_6, r_266_7, r_266_8, r_266_9, r_266_12, r_266_15, Option.bind_some, Option.bind_none, Option.toList_some, Option.toList_none, List.cons_append, List.nil_append, Option.map_some, Option.map_none, eq_self, if_true, if_false, reduceIte, ai_bi_eq0, ai_bi_eq1, ai_pb_bi, ai_pb_0, ai_pb_1, e1, e2, e3]) (fun _ _ h hk => c_trial h hk x y z) (fun _ _ h hk => m_tries h hk x y z)
