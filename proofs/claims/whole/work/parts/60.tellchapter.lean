/-! What is told of a chapter. -/
def kl_w (B : kb_B) (q : Nat) : List Int32 := if kb_W B q = (-4) then [] else if kb_by B q = true then 64 :: (nl (kb_W B q).toNatClampNeg ++ [33]) else 64 :: nl (kb_W B q).toNatClampNeg
def kl_d (B : kb_B) (q : Nat) : Nat → List Int32
  | 0 => []
  | n + 1 => if kb_dead B n q = true then kl_d B q n ++ (if kl_d B q n = [] then [nI (48 + n)] else [44, nI (48 + n)]) else kl_d B q n
theorem kl_d_len (B : kb_B) (q n : Nat) : (kl_d B q n).length ≤ 2 * n := by
  induction n with
  | zero => exact Nat.le_refl _
  | succ n ih =>
    rw [kl_d]
    split
    · rw [List.length_append]
      split
      · simp; omega
      · simp; omega
    · omega
theorem kl_w_len (B : kb_B) (q : Nat) : (kl_w B q).length ≤ 4 := by
  have h := nl_len (kb_W B q).toNatClampNeg
  unfold kl_w
  split
  · simp
  · split
    · rw [List.length_cons, List.length_append, List.length_singleton]; omega
    · rw [List.length_cons]; omega
/-- whether nothing was told yet -/
def kl_f : List Int32 → Int32
  | [] => 1
  | _ :: _ => 0
theorem kl_f_0 {l : List Int32} (h : ¬ l = []) : kl_f l = 0 := by
  cases l with
  | nil => exact absurd rfl h
  | cons a l => rfl
theorem kl_f_1 {l : List Int32} (h : l = []) : kl_f l = 1 := by rw [h]; rfl
theorem kb_dead_out {B : kb_B} (hk : kb_ok B) {c : Nat} (hc : kb_n B ≤ c) (q : Nat) : kb_dead B c q = false := by
  unfold kb_dead kb_c
  rw [hk.2.2.2.1 c hc]
  rfl
theorem kl_d_out {B : kb_B} (hk : kb_ok B) (q : Nat) : ∀ d, kl_d B q (kb_n B + d) = kl_d B q (kb_n B) := by
  intro d
  induction d with
  | zero => rfl
  | succ d ih =>
    rw [show kb_n B + (d + 1) = (kb_n B + d) + 1 by omega, kl_d, kb_dead_out hk (by omega), if_neg (by decide), ih]
theorem ai_bit8 : ∀ m, m < 256 → ∀ c, c < 8 → ((nI m >>> (nI c &&& 31)) &&& 1 = 1 ↔ m.testBit c = true) := by
  have h : (List.range 256).all (fun m => (List.range 8).all fun c => decide ((nI m >>> (nI c &&& 31)) &&& 1 = 1 ↔ m.testBit c = true)) = true := by decide +kernel
  intro m hm c hc
  exact of_decide_eq_true (List.all_eq_true.mp (List.all_eq_true.mp h m (List.mem_range.mpr hm)) c (List.mem_range.mpr hc))
theorem kb_set_bit {B : kb_B} (hk : kb_ok B) (q : Nat) {c : Nat} (hc : c < 8) : ((nI (kb_set B q) >>> (nI c &&& 31)) &&& 1 = 1 ↔ kb_dead B c q = true) := by
  unfold kb_set
  rw [ai_bit8 _ (kb_k_lt _ hk.1) c hc]
  rw [kb_k_bit]
  rcases Nat.lt_or_ge c (kb_n B) with z | z
  · simp [z]
  · rw [kb_dead_out hk z]
    simp
theorem kb_by_i {B : kb_B} (hk : kb_ok B) {q i : Nat} (hi : i < kb_a B) (hw : kb_W B q = nI i) : kb_by B q = decide (kb_S B i = 1) := by
  have ha := hk.2.1
  unfold kb_by
  rw [hw]
  congr 1
  rw [eq_iff_iff]
  constructor
  · rintro ⟨j, h1, h2, h3⟩
    rw [(nI_eq (by omega) (by omega)).mp h2]
    exact h3
  · intro h3
    exact ⟨i, hi, rfl, h3⟩
section CHAP
variable {w : xw_W} {B : kb_B}
theorem x_addWriter (hx : kb_x (xw_b w) B) (hk : kb_ok B) {w1 : xw_W} {l : List Int32} (h1 : xl w l w1) {q : Nat} (hq : q ≤ 30) (hl : l.length + 4 ≤ 40) : ∃ w2, ai_Call 37 [.ref 0, .int (nI q)] (wl w1) = some (none, wl w2) ∧ xl w (l ++ kl_w B q) w2 := by
  have ha := hk.2.1
  have hx1 : ∀ {w' : xw_W} {l' : List Int32}, xl w l' w' → kb_x (xw_b w') B := fun h => by rw [xo_b h.1]; exact hx
  have g1 := x_wr (hx1 h1) hq
  rcases hk.2.2.2.2.2.2.1 q with z | ⟨i, hi, z⟩
  · rw [z] at g1
    have e : ai_is (kb_a B) (-4) = false := by unfold ai_is; simp
    unfold kl_w
    rw [if_pos z]
    refine ⟨w1, ?_, by simpa using h1⟩
    simp only [e_37, o_0, r_37_0, r_37_1, r_37_4, r_37_7, r_37_8, r_37_11, r_37_12, r_37_13, r_37_16, r_37_17, r_37_20, r_37_23, r_37_24, r_37_25, r_37_28, r_37_30, r_37_33, r_37_34, r_37_37, r_37_38, r_37_41, r_37_42, r_37_45, r_37_46, r_37_49, r_37_52, r_37_53, r_37_56, r_37_58, r_37_61, Option.bind_some, Option.bind_none, Option.toList_some, Option.toList_none, List.cons_append, List.nil_append, Option.map_some, Option.map_none, eq_self, if_true, if_false, reduceIte, ai_bi_eq0, ai_bi_eq1, ai_pb_bi, ai_pb_0, ai_pb_1, f_0_0, f_1_6, g1, x_isAuthor (hx1 h1), e]
  · rw [z] at g1
    have e : ai_is (kb_a B) (nI i) = true := ai_is_nI hi (by omega)
    have c0 : ¬ nI i = (-4) := fun y => nI_pos (n := i) (by omega) (by rw [y]; decide)
    unfold kl_w
    rw [z, if_neg c0, nI_clamp (by omega), nl_10 (show i < 10 by omega)]
    obtain ⟨w2, e2, h2⟩ := x_put h1 (by omega) 64
    obtain ⟨w3, e3, h3⟩ := x_num h2 (v := i) (by omega) (by rw [List.length_append, List.length_singleton]; omega)
    rw [nl_10 (show i < 10 by omega)] at h3
    have e4 : ai_Call 36 [.ref 1, .int (nI q)] (wl w3) = some (some (.int (ai_bi (kb_by B q))), wl w3) := x_isBySworn (hx1 h3) hk hq
    by_cases c1 : kb_by B q = true
    · rw [if_pos c1]
      rw [c1] at e4
      obtain ⟨w4, e5, h4⟩ := x_put h3 (by rw [List.length_append, List.length_append, List.length_singleton, List.length_singleton]; omega) 33
      refine ⟨w4, ?_, by simpa using h4⟩
      simp only [e_37, o_0, r_37_0, r_37_1, r_37_4, r_37_7, r_37_8, r_37_11, r_37_12, r_37_13, r_37_16, r_37_17, r_37_20, r_37_23, r_37_24, r_37_25, r_37_28, r_37_30, r_37_33, r_37_34, r_37_37, r_37_38, r_37_41, r_37_42, r_37_45, r_37_46, r_37_49, r_37_52, r_37_53, r_37_56, r_37_58, r_37_61, Option.bind_some, Option.bind_none, Option.toList_some, Option.toList_none, List.cons_append, List.nil_append, Option.map_some, Option.map_none, eq_self, if_true, if_false, reduceIte, ai_bi_eq0, ai_bi_eq1, ai_pb_bi, ai_pb_0, ai_pb_1, f_0_0, f_1_6, g1, x_isAuthor (hx1 h1), e, Bool.true_eq_false, f_0_8, e2, e3, e4, e5]
    · rw [if_neg c1]
      have c2 : kb_by B q = false := by simpa using c1
      rw [c2] at e4
      refine ⟨w3, ?_, by simpa using h3⟩
      simp only [e_37, o_0, r_37_0, r_37_1, r_37_4, r_37_7, r_37_8, r_37_11, r_37_12, r_37_13, r_37_16, r_37_17, r_37_20, r_37_23, r_37_24, r_37_25, r_37_28, r_37_30, r_37_33, r_37_34, r_37_37, r_37_38, r_37_41, r_37_42, r_37_45, r_37_46, r_37_49, r_37_52, r_37_53, r_37_56, r_37_58, r_37_61, Option.bind_some, Option.bind_none, Option.toList_some, Option.toList_none, List.cons_append, List.nil_append, Option.map_some, Option.map_none, eq_self, if_true, if_false, reduceIte, ai_bi_eq0, ai_bi_eq1, ai_pb_bi, ai_pb_0, ai_pb_1, f_0_0, f_1_6, g1, x_isAuthor (hx1 h1), e, Bool.true_eq_false, f_0_8, e2, e3, e4]
theorem x_addDead (hk : kb_ok B) {w1 : xw_W} {l : List Int32} (h1 : xl w l w1) {q : Nat} (hl : l.length + 17 ≤ 40) : ∃ w2, ai_Call 32 [.ref 0, .int (nI (kb_set B q))] (wl w1) = some (none, wl w2) ∧ xl w (l ++ kl_d B q 8) w2 := by
  have step : ∀ i w1, i < 8 → xl w (l ++ kl_d B q i) w1 → ∃ w2, xl w (l ++ kl_d B q (i + 1)) w2 ∧ ai_Run 32 4 [.ref 0, .int (nI (kb_set B q)), .int (kl_f (kl_d B q i)), .int (nI i)] [] (wl w1) = ai_Run 32 4 [.ref 0, .int (nI (kb_set B q)), .int (kl_f (kl_d B q (i + 1))), .int (nI (i + 1))] [] (wl w2) := by
    intro i w1 hi h1
    have c1 : nI i < 8 := nI_lt (b := 8) hi (by decide)
    have c2 := kb_set_bit hk q hi
    have hd := kl_d_len B q i
    rw [kl_d]
    by_cases c3 : kb_dead B i q = true
    · have c4 := c2.mpr c3
      rw [if_pos c3]
      by_cases c5 : kl_d B q i = []
      · rw [if_pos c5]
        obtain ⟨w2, e2, h2⟩ := x_num h1 (v := i) (by omega) (by rw [List.length_append]; omega)
        rw [nl_10 (show i < 10 by omega)] at h2
        have c6 := kl_f_1 c5
        have c7 : kl_f (kl_d B q i ++ [nI (48 + i)]) = 0 := kl_f_0 (by simp)
        refine ⟨w2, by simpa using h2, ?_⟩
        rw [r_32_4]
        simp only [r_32_0, r_32_1, r_32_2, r_32_3, r_32_5, r_32_7, r_32_10, r_32_11, r_32_12, r_32_13, r_32_14, r_32_15, r_32_16, r_32_19, r_32_20, r_32_23, r_32_24, r_32_27, r_32_29, r_32_32, r_32_33, r_32_36, r_32_37, r_32_40, r_32_41, r_32_42, r_32_45, r_32_48, Option.bind_some, Option.bind_none, Option.toList_some, Option.toList_none, List.cons_append, List.nil_append, Option.map_some, Option.map_none, eq_self, if_true, if_false, reduceIte, ai_bi_eq0, ai_bi_eq1, ai_pb_bi, ai_pb_0, ai_pb_1, c1, c4, c6, c7, show ¬ (1 : Int32) = 0 by decide, f_0_8, e2, nI_1]
      · rw [if_neg c5]
        obtain ⟨w2, e2, h2⟩ := x_put h1 (by rw [List.length_append]; omega) 44
        obtain ⟨w3, e3, h3⟩ := x_num h2 (v := i) (by omega) (by rw [List.length_append, List.length_append, List.length_singleton]; omega)
        rw [nl_10 (show i < 10 by omega)] at h3
        have c6 := kl_f_0 c5
        have c7 : kl_f (kl_d B q i ++ [44, nI (48 + i)]) = 0 := kl_f_0 (by simp)
        refine ⟨w3, by simpa using h3, ?_⟩
        rw [r_32_4]
        simp only [r_32_0, r_32_1, r_32_2, r_32_3, r_32_5, r_32_7, r_32_10, r_32_11, r_32_12, r_32_13, r_32_14, r_32_15, r_32_16, r_32_19, r_32_20, r_32_23, r_32_24, r_32_27, r_32_29, r_32_32, r_32_33, r_32_36, r_32_37, r_32_40, r_32_41, r_32_42, r_32_45, r_32_48, Option.bind_some, Option.bind_none, Option.toList_some, Option.toList_none, List.cons_append, List.nil_append, Option.map_some, Option.map_none, eq_self, if_true, if_false, reduceIte, ai_bi_eq0, ai_bi_eq1, ai_pb_bi, ai_pb_0, ai_pb_1, c1, c4, c6, c7, f_0_8, e2, e3, nI_1]
    · have c4 : ¬ (nI (kb_set B q) >>> (nI i &&& 31)) &&& 1 = 1 := fun y => c3 (c2.mp y)
      rw [if_neg c3]
      refine ⟨w1, h1, ?_⟩
      rw [r_32_4]
      simp only [r_32_0, r_32_1, r_32_2, r_32_3, r_32_5, r_32_7, r_32_10, r_32_11, r_32_12, r_32_13, r_32_14, r_32_15, r_32_16, r_32_19, r_32_20, r_32_23, r_32_24, r_32_27, r_32_29, r_32_32, r_32_33, r_32_36, r_32_37, r_32_40, r_32_41, r_32_42, r_32_45, r_32_48, Option.bind_some, Option.bind_none, Option.toList_some, Option.toList_none, List.cons_append, List.nil_append, Option.map_some, Option.map_none, eq_self, if_true, if_false, reduceIte, ai_bi_eq0, ai_bi_eq1, ai_pb_bi, ai_pb_0, ai_pb_1, c1, c4, nI_1]
  obtain ⟨w7, h7, e7⟩ := lp_x (P := fun i w1 => xl w (l ++ kl_d B q i) w1) (R := fun i w1 => ai_Run 32 4 [.ref 0, .int (nI (kb_set B q)), .int (kl_f (kl_d B q i)), .int (nI i)] [] (wl w1)) 8 step (w0 := w1) (by simpa [kl_d] using h1)
  refine ⟨w7, ?_, h7⟩
  simp only [e_32, o_0, r_32_0, r_32_1, r_32_2, r_32_3, r_32_5, r_32_7, r_32_10, r_32_11, r_32_12, r_32_13, r_32_14, r_32_15, r_32_16, r_32_19, r_32_20, r_32_23, r_32_24, r_32_27, r_32_29, r_32_32, r_32_33, r_32_36, r_32_37, r_32_40, r_32_41, r_32_42, r_32_45, r_32_48, Option.bind_some, Option.bind_none, Option.toList_some, Option.toList_none, List.cons_append, List.nil_append, Option.map_some, Option.map_none, eq_self, if_true, if_false, reduceIte, ai_bi_eq0, ai_bi_eq1, ai_pb_bi, ai_pb_0, ai_pb_1]
  refine e7.trans ?_
  rw [r_32_4]
  simp only [r_32_0, r_32_1, r_32_2, r_32_3, r_32_5, r_32_7, r_32_10, r_32_11, r_32_12, r_32_13, r_32_14, r_32_15, r_32_16, r_32_19, r_32_20, r_32_23, r_32_24, r_32_27, r_32_29, r_32_32, r_32_33, r_32_36, r_32_37, r_32_40, r_32_41, r_32_42, r_32_45, r_32_48, Option.bind_some, Option.bind_none, Option.toList_some, Option.toList_none, List.cons_append, List.nil_append, Option.map_some, Option.map_none, eq_self, if_true, if_false, reduceIte, ai_bi_eq0, ai_bi_eq1, ai_pb_bi, ai_pb_0, ai_pb_1, show ¬ nI 8 < 8 by decide]
def kl_q (B : kb_B) (q : Nat) : List Int32 := nl q ++ (kl_w B q ++ 58 :: kl_d B q (kb_n B))
theorem s_tellChapter (hx : kb_x (xw_b w) B) (hk : kb_ok B) {q : Nat} (h1q : 1 ≤ q) (hq : q ≤ 30) : ∃ w1, ai_Call 155 [.ref 0, .int (nI q)] (wl w) = some (some (.int (nI (kl_q B q).length)), wl w1) ∧ xl w (kl_q B q) w1 := by
  have hx1 : ∀ {w' : xw_W} {l' : List Int32}, xl w l' w' → kb_x (xw_b w') B := fun h => by rw [xo_b h.1]; exact hx
  have n1 := nl_len q
  have n2 := kl_w_len B q
  obtain ⟨w0, e0, h0⟩ := x_lclear w
  obtain ⟨w1, e1, h1⟩ := x_num h0 (v := q) (by omega) (by decide)
  obtain ⟨w2, e2, h2⟩ := x_addWriter hx hk h1 hq (by rw [List.nil_append]; omega)
  obtain ⟨w3, e3, h3⟩ := x_put h2 (by rw [List.nil_append, List.length_append]; omega) 58
  obtain ⟨w4, e4, h4⟩ := x_addDead hk h3 (q := q) (by rw [List.nil_append, List.length_append, List.length_append, List.length_singleton]; omega)
  have e5 := x_deadByLatest (hx1 h3) hk hq
  have c1 : decide (¬ nI q < 1 ∧ ¬ 30 < nI q) = true := decide_eq_true ⟨nI_nlt (b := 1) h1q (by omega), nI_nlt (b := q) (a := 30) hq (by decide)⟩
  have el : [] ++ nl q ++ kl_w B q ++ [58] ++ kl_d B q 8 = kl_q B q := by
    have := kl_d_out hk q (8 - kb_n B)
    rw [show kb_n B + (8 - kb_n B) = 8 by have := hk.1; omega] at this
    rw [this]
    simp [kl_q]
  rw [el] at h4
  have e8 := x_lsize h4
  refine ⟨w4, ?_, h4⟩
  simp only [e_155, o_0, r_155_0, r_155_1, r_155_4, r_155_7, r_155_9, r_155_10, r_155_11, r_155_14, r_155_17, r_155_18, r_155_21, r_155_22, r_155_25, r_155_26, r_155_27, r_155_30, r_155_31, r_155_34, r_155_36, r_155_39, r_155_40, r_155_41, r_155_44, r_155_45, r_155_48, r_155_51, r_155_52, r_155_55, r_155_58, Option.bind_some, Option.bind_none, Option.toList_some, Option.toList_none, List.cons_append, List.nil_append, Option.map_some, Option.map_none, eq_self, if_true, if_false, reduceIte, ai_bi_eq0, ai_bi_eq1, ai_pb_bi, ai_pb_0, ai_pb_1, x_isChapter, c1, Bool.true_eq_false, f_0_8, f_0_1, e0, e1, e2, e3, e5, e4, e8]
theorem m_tellChapter (hm : kb_m (xm_s w) B) (hk : kb_ok B) {q : Nat} (h1q : 1 ≤ q) (hq : q ≤ 30) : ∃ w1, ai_Call 263 [.ref 185, .int (nI q)] (wl w) = some (some (.int (nI (kl_q B q).length)), wl w1) ∧ ml w (kl_q B q) w1 := by
  have ha := hk.2.1
  have hn := hk.1
  have hm1 : ∀ {w' : xw_W} {l' : List Int32}, ml w l' w' → kb_m (xm_s w') B := fun h => by rw [mo_s h.1]; exact hm
  have n1 := nl_len q
  have n2 := kl_w_len B q
  obtain ⟨e0, h0⟩ := m_lclear w
  obtain ⟨w1, e1, h1⟩ := m_num h0 (v := q) (by omega) (by decide)
  have c1 : kb_ch (nI q) = true := decide_eq_true ⟨nI_nlt (b := 1) h1q (by omega), nI_nlt (b := q) (a := 30) hq (by decide)⟩
  have W : ∃ w2, ml w ([] ++ nl q ++ kl_w B q) w2 ∧ ai_Run 263 20 [.ref 185, .int (nI q), .null, .null, .null] [] (wl w1) = ai_Run 263 65 [.ref 185, .int (nI q), .int (kb_W B q), .null, .null] [] (wl w2) := by
    have g1 := m_W (hm1 h1) hq
    rcases hk.2.2.2.2.2.2.1 q with z | ⟨i, hi, z⟩
    · rw [z] at g1
      unfold kl_w
      rw [z, if_pos rfl]
      refine ⟨w1, by simpa using h1, ?_⟩
      simp only [r_263_0, r_263_1, r_263_4, r_263_7, r_263_9, r_263_10, r_263_11, r_263_12, r_263_15, r_263_16, r_263_17, r_263_20, r_263_21, r_263_24, r_263_25, r_263_26, r_263_27, r_263_28, r_263_29, r_263_30, r_263_32, r_263_35, r_263_36, r_263_38, r_263_41, r_263_42, r_263_43, r_263_46, r_263_47, r_263_50, r_263_52, r_263_53, r_263_54, r_263_55, r_263_56, r_263_59, r_263_60, r_263_62, r_263_65, r_263_66, r_263_68, r_263_71, r_263_72, r_263_73, r_263_74, r_263_78, r_263_79, r_263_82, r_263_83, r_263_84, r_263_87, r_263_88, r_263_90, r_263_91, r_263_94, r_263_97, r_263_98, r_263_101, r_263_102, r_263_104, r_263_107, r_263_108, r_263_109, r_263_110, r_263_112, r_263_115, r_263_118, r_263_121, r_263_122, r_263_125, Option.bind_some, Option.bind_none, Option.toList_some, Option.toList_none, List.cons_append, List.nil_append, Option.map_some, Option.map_none, eq_self, if_true, if_false, reduceIte, ai_bi_eq0, ai_bi_eq1, ai_pb_bi, ai_pb_0, ai_pb_1, f_185_0, a_3, g1]
    · rw [z] at g1
      have c0 : ¬ nI i = (-4) := fun y => nI_pos (n := i) (by omega) (by rw [y]; decide)
      unfold kl_w
      rw [z, if_neg c0, nI_clamp (by omega), nl_10 (show i < 10 by omega), kb_by_i hk hi z]
      obtain ⟨w2, e2, h2⟩ := m_put h1 (by rw [List.nil_append]; omega) 64
      obtain ⟨w3, e3, h3⟩ := m_num h2 (v := i) (by omega) (by rw [List.nil_append, List.length_append, List.length_singleton]; omega)
      rw [nl_10 (show i < 10 by omega)] at h3
      have g2 := m_S (hm1 h3) (show i < 4 by omega)
      have hs := hk.2.2.2.2.2.2.2.1 i
      have c3 : nI (kb_S B i) = 1 ↔ kb_S B i = 1 := by rw [n_1]; exact nI_eq (by omega) (by decide)
      by_cases c4 : kb_S B i = 1
      · have c5 := c3.mpr c4
        rw [if_pos (decide_eq_true c4)]
        obtain ⟨w4, e5, h4⟩ := m_put h3 (by rw [List.nil_append, List.length_append, List.length_append, List.length_singleton, List.length_singleton]; omega) 33
        refine ⟨w4, by simpa using h4, ?_⟩
        simp only [r_263_0, r_263_1, r_263_4, r_263_7, r_263_9, r_263_10, r_263_11, r_263_12, r_263_15, r_263_16, r_263_17, r_263_20, r_263_21, r_263_24, r_263_25, r_263_26, r_263_27, r_263_28, r_263_29, r_263_30, r_263_32, r_263_35, r_263_36, r_263_38, r_263_41, r_263_42, r_263_43, r_263_46, r_263_47, r_263_50, r_263_52, r_263_53, r_263_54, r_263_55, r_263_56, r_263_59, r_263_60, r_263_62, r_263_65, r_263_66, r_263_68, r_263_71, r_263_72, r_263_73, r_263_74, r_263_78, r_263_79, r_263_82, r_263_83, r_263_84, r_263_87, r_263_88, r_263_90, r_263_91, r_263_94, r_263_97, r_263_98, r_263_101, r_263_102, r_263_104, r_263_107, r_263_108, r_263_109, r_263_110, r_263_112, r_263_115, r_263_118, r_263_121, r_263_122, r_263_125, Option.bind_some, Option.bind_none, Option.toList_some, Option.toList_none, List.cons_append, List.nil_append, Option.map_some, Option.map_none, eq_self, if_true, if_false, reduceIte, ai_bi_eq0, ai_bi_eq1, ai_pb_bi, ai_pb_0, ai_pb_1, f_185_0, a_3, g1, c0, e2, e3, a_34, g2, c5, e5]
      · have c5 : ¬ nI (kb_S B i) = 1 := fun y => c4 (c3.mp y)
        rw [if_neg (by simpa using c4)]
        refine ⟨w3, by simpa using h3, ?_⟩
        simp only [r_263_0, r_263_1, r_263_4, r_263_7, r_263_9, r_263_10, r_263_11, r_263_12, r_263_15, r_263_16, r_263_17, r_263_20, r_263_21, r_263_24, r_263_25, r_263_26, r_263_27, r_263_28, r_263_29, r_263_30, r_263_32, r_263_35, r_263_36, r_263_38, r_263_41, r_263_42, r_263_43, r_263_46, r_263_47, r_263_50, r_263_52, r_263_53, r_263_54, r_263_55, r_263_56, r_263_59, r_263_60, r_263_62, r_263_65, r_263_66, r_263_68, r_263_71, r_263_72, r_263_73, r_263_74, r_263_78, r_263_79, r_263_82, r_263_83, r_263_84, r_263_87, r_263_88, r_263_90, r_263_91, r_263_94, r_263_97, r_263_98, r_263_101, r_263_102, r_263_104, r_263_107, r_263_108, r_263_109, r_263_110, r_263_112, r_263_115, r_263_118, r_263_121, r_263_122, r_263_125, Option.bind_some, Option.bind_none, Option.toList_some, Option.toList_none, List.cons_append, List.nil_append, Option.map_some, Option.map_none, eq_self, if_true, if_false, reduceIte, ai_bi_eq0, ai_bi_eq1, ai_pb_bi, ai_pb_0, ai_pb_1, f_185_0, a_3, g1, c0, e2, e3, a_34, g2, c5]
  obtain ⟨w2, h2, e2⟩ := W
  obtain ⟨w3, e3, h3⟩ := m_put h2 (by rw [List.nil_append, List.length_append]; omega) 58
  generalize hb : [] ++ nl q ++ kl_w B q ++ [58] = l at h3
  have hll : l.length ≤ 7 := by rw [← hb, List.nil_append, List.length_append, List.length_append, List.length_singleton]; omega
  have step : ∀ i w1, i < kb_n B → ml w (l ++ kl_d B q i) w1 → ∃ w2, ml w (l ++ kl_d B q (i + 1)) w2 ∧ ai_Run 263 76 [.ref 185, .int (nI q), .int (kb_W B q), .int (kl_f (kl_d B q i)), .int (nI i)] [] (wl w1) = ai_Run 263 76 [.ref 185, .int (nI q), .int (kb_W B q), .int (kl_f (kl_d B q (i + 1))), .int (nI (i + 1))] [] (wl w2) := by
    intro i w1 hi h1
    have c1 : nI i < nI (kb_n B) := nI_lt hi (by omega)
    have t0 := (hm1 h1).1
    have hd := kl_d_len B q i
    have e4 := m_isDeadIn (hm1 h1) hk (show i < 8 by omega) hq
    rw [kl_d]
    by_cases c3 : kb_dead B i q = true
    · rw [if_pos c3]
      rw [c3] at e4
      by_cases c5 : kl_d B q i = []
      · rw [if_pos c5]
        obtain ⟨w2, e2, h2⟩ := m_num h1 (v := i) (by omega) (by rw [List.length_append]; omega)
        rw [nl_10 (show i < 10 by omega)] at h2
        have c6 := kl_f_1 c5
        have c7 : kl_f (kl_d B q i ++ [nI (48 + i)]) = 0 := kl_f_0 (by simp)
        refine ⟨w2, by simpa using h2, ?_⟩
        rw [r_263_76]
        simp only [r_263_0, r_263_1, r_263_4, r_263_7, r_263_9, r_263_10, r_263_11, r_263_12, r_263_15, r_263_16, r_263_17, r_263_20, r_263_21, r_263_24, r_263_25, r_263_26, r_263_27, r_263_28, r_263_29, r_263_30, r_263_32, r_263_35, r_263_36, r_263_38, r_263_41, r_263_42, r_263_43, r_263_46, r_263_47, r_263_50, r_263_52, r_263_53, r_263_54, r_263_55, r_263_56, r_263_59, r_263_60, r_263_62, r_263_65, r_263_66, r_263_68, r_263_71, r_263_72, r_263_73, r_263_74, r_263_78, r_263_79, r_263_82, r_263_83, r_263_84, r_263_87, r_263_88, r_263_90, r_263_91, r_263_94, r_263_97, r_263_98, r_263_101, r_263_102, r_263_104, r_263_107, r_263_108, r_263_109, r_263_110, r_263_112, r_263_115, r_263_118, r_263_121, r_263_122, r_263_125, Option.bind_some, Option.bind_none, Option.toList_some, Option.toList_none, List.cons_append, List.nil_append, Option.map_some, Option.map_none, eq_self, if_true, if_false, reduceIte, ai_bi_eq0, ai_bi_eq1, ai_pb_bi, ai_pb_0, ai_pb_1, f_185_0, mg_0, t0, c1, e4, c6, c7, show ¬ (1 : Int32) = 0 by decide, Bool.true_eq_false, e2, nI_1]
      · rw [if_neg c5]
        obtain ⟨w2, e2, h2⟩ := m_put h1 (by rw [List.length_append]; omega) 44
        obtain ⟨w3, e3, h3⟩ := m_num h2 (v := i) (by omega) (by rw [List.length_append, List.length_append, List.length_singleton]; omega)
        rw [nl_10 (show i < 10 by omega)] at h3
        have c6 := kl_f_0 c5
        have c7 : kl_f (kl_d B q i ++ [44, nI (48 + i)]) = 0 := kl_f_0 (by simp)
        refine ⟨w3, by simpa using h3, ?_⟩
        rw [r_263_76]
        simp only [r_263_0, r_263_1, r_263_4, r_263_7, r_263_9, r_263_10, r_263_11, r_263_12, r_263_15, r_263_16, r_263_17, r_263_20, r_263_21, r_263_24, r_263_25, r_263_26, r_263_27, r_263_28, r_263_29, r_263_30, r_263_32, r_263_35, r_263_36, r_263_38, r_263_41, r_263_42, r_263_43, r_263_46, r_263_47, r_263_50, r_263_52, r_263_53, r_263_54, r_263_55, r_263_56, r_263_59, r_263_60, r_263_62, r_263_65, r_263_66, r_263_68, r_263_71, r_263_72, r_263_73, r_263_74, r_263_78, r_263_79, r_263_82, r_263_83, r_263_84, r_263_87, r_263_88, r_263_90, r_263_91, r_263_94, r_263_97, r_263_98, r_263_101, r_263_102, r_263_104, r_263_107, r_263_108, r_263_109, r_263_110, r_263_112, r_263_115, r_263_118, r_263_121, r_263_122, r_263_125, Option.bind_some, Option.bind_none, Option.toList_some, Option.toList_none, List.cons_append, List.nil_append, Option.map_some, Option.map_none, eq_self, if_true, if_false, reduceIte, ai_bi_eq0, ai_bi_eq1, ai_pb_bi, ai_pb_0, ai_pb_1, f_185_0, mg_0, t0, c1, e4, c6, c7, Bool.true_eq_false, e2, e3, nI_1]
    · have c4 : kb_dead B i q = false := by simpa using c3
      rw [if_neg c3]
      rw [c4] at e4
      refine ⟨w1, h1, ?_⟩
      rw [r_263_76]
      simp only [r_263_0, r_263_1, r_263_4, r_263_7, r_263_9, r_263_10, r_263_11, r_263_12, r_263_15, r_263_16, r_263_17, r_263_20, r_263_21, r_263_24, r_263_25, r_263_26, r_263_27, r_263_28, r_263_29, r_263_30, r_263_32, r_263_35, r_263_36, r_263_38, r_263_41, r_263_42, r_263_43, r_263_46, r_263_47, r_263_50, r_263_52, r_263_53, r_263_54, r_263_55, r_263_56, r_263_59, r_263_60, r_263_62, r_263_65, r_263_66, r_263_68, r_263_71, r_263_72, r_263_73, r_263_74, r_263_78, r_263_79, r_263_82, r_263_83, r_263_84, r_263_87, r_263_88, r_263_90, r_263_91, r_263_94, r_263_97, r_263_98, r_263_101, r_263_102, r_263_104, r_263_107, r_263_108, r_263_109, r_263_110, r_263_112, r_263_115, r_263_118, r_263_121, r_263_122, r_263_125, Option.bind_some, Option.bind_none, Option.toList_some, Option.toList_none, List.cons_append, List.nil_append, Option.map_some, Option.map_none, eq_self, if_true, if_false, reduceIte, ai_bi_eq0, ai_bi_eq1, ai_pb_bi, ai_pb_0, ai_pb_1, f_185_0, mg_0, t0, c1, e4, nI_1]
  obtain ⟨w7, h7, e7⟩ := lp_x (P := fun i w1 => ml w (l ++ kl_d B q i) w1) (R := fun i w1 => ai_Run 263 76 [.ref 185, .int (nI q), .int (kb_W B q), .int (kl_f (kl_d B q i)), .int (nI i)] [] (wl w1)) (kb_n B) step (w0 := w3) (by simpa [kl_d] using h3)
  have el : l ++ kl_d B q (kb_n B) = kl_q B q := by
    rw [← hb]
    simp [kl_q]
  rw [el] at h7
  have e8 := h7.2.1
  have t7 := (hm1 h7).1
  have c2 : ¬ nI (kb_n B) < nI (kb_n B) := nI_nlt (Nat.le_refl _) (by omega)
  have eR : ai_Run 263 65 [.ref 185, .int (nI q), .int (kb_W B q), .null, .null] [] (wl w2) = some (some (.int (nI (kl_q B q).length)), wl w7) := by
    simp only [r_263_0, r_263_1, r_263_4, r_263_7, r_263_9, r_263_10, r_263_11, r_263_12, r_263_15, r_263_16, r_263_17, r_263_20, r_263_21, r_263_24, r_263_25, r_263_26, r_263_27, r_263_28, r_263_29, r_263_30, r_263_32, r_263_35, r_263_36, r_263_38, r_263_41, r_263_42, r_263_43, r_263_46, r_263_47, r_263_50, r_263_52, r_263_53, r_263_54, r_263_55, r_263_56, r_263_59, r_263_60, r_263_62, r_263_65, r_263_66, r_263_68, r_263_71, r_263_72, r_263_73, r_263_74, r_263_78, r_263_79, r_263_82, r_263_83, r_263_84, r_263_87, r_263_88, r_263_90, r_263_91, r_263_94, r_263_97, r_263_98, r_263_101, r_263_102, r_263_104, r_263_107, r_263_108, r_263_109, r_263_110, r_263_112, r_263_115, r_263_118, r_263_121, r_263_122, r_263_125, Option.bind_some, Option.bind_none, Option.toList_some, Option.toList_none, List.cons_append, List.nil_append, Option.map_some, Option.map_none, eq_self, if_true, if_false, reduceIte, ai_bi_eq0, ai_bi_eq1, ai_pb_bi, ai_pb_0, ai_pb_1, e3]
    refine e7.trans ?_
    rw [r_263_76]
    simp only [r_263_0, r_263_1, r_263_4, r_263_7, r_263_9, r_263_10, r_263_11, r_263_12, r_263_15, r_263_16, r_263_17, r_263_20, r_263_21, r_263_24, r_263_25, r_263_26, r_263_27, r_263_28, r_263_29, r_263_30, r_263_32, r_263_35, r_263_36, r_263_38, r_263_41, r_263_42, r_263_43, r_263_46, r_263_47, r_263_50, r_263_52, r_263_53, r_263_54, r_263_55, r_263_56, r_263_59, r_263_60, r_263_62, r_263_65, r_263_66, r_263_68, r_263_71, r_263_72, r_263_73, r_263_74, r_263_78, r_263_79, r_263_82, r_263_83, r_263_84, r_263_87, r_263_88, r_263_90, r_263_91, r_263_94, r_263_97, r_263_98, r_263_101, r_263_102, r_263_104, r_263_107, r_263_108, r_263_109, r_263_110, r_263_112, r_263_115, r_263_118, r_263_121, r_263_122, r_263_125, Option.bind_some, Option.bind_none, Option.toList_some, Option.toList_none, List.cons_append, List.nil_append, Option.map_some, Option.map_none, eq_self, if_true, if_false, reduceIte, ai_bi_eq0, ai_bi_eq1, ai_pb_bi, ai_pb_0, ai_pb_1, f_185_0, mg_0, t7, c2, f_185_10, e8]
  have eS : ai_Call 263 [.ref 185, .int (nI q)] (wl w) = ai_Run 263 20 [.ref 185, .int (nI q), .null, .null, .null] [] (wl w1) := by
    simp only [e_263, o_185, Option.bind_some, Option.bind_none, Option.toList_some, Option.toList_none, List.cons_append, List.nil_append, Option.map_some, Option.map_none, eq_self, if_true, if_false, reduceIte, ai_bi_eq0, ai_bi_eq1, ai_pb_bi, ai_pb_0, ai_pb_1, r_263_0, r_263_1, r_263_4, r_263_10, r_263_11, r_263_12, r_263_15, r_263_16, r_263_17, m_isChapter, c1, Bool.true_eq_false, e0, e1]
  exact ⟨w7, eS.trans (e2.trans eR), h7⟩
end CHAP
theorem ks_tellChapter (x : Int32) : ks 155 263 [.int x] := by
  intro w hw
  have hw2 := hw
  obtain ⟨B, L, S, hk, hx, hm, hr⟩ := hw2
  by_cases c : kb_ch x = true
  · have c9 := c
    unfold kb_ch at c9
    rw [decide_eq_true_eq] at c9
    have x0 : ¬ x < 0 := fun z => c9.1 (Int32.lt_trans z (by decide))
    obtain ⟨j, hj, rfl⟩ := nI_of x0
    have h1 : 1 ≤ j := by
      rcases Nat.lt_or_ge j 1 with z | z
      · exact absurd (nI_lt (b := 1) z (by decide)) c9.1
      · exact z
    have h30 : j ≤ 30 := by
      rcases Nat.lt_or_ge 30 j with z | z
      · exact absurd (nI_lt (a := 30) z hj) c9.2
      · exact z
    obtain ⟨w1, e1, h1⟩ := s_tellChapter hx hk h1 h30
    have hm1 : kb_m (xm_s w1) B := by rw [xo_s h1.1]; exact hm
    obtain ⟨w2, e2, h2⟩ := m_tellChapter hm1 hk (q := j) (by omega) h30
    exact ⟨_, w1, w2, e1, e2, kr_line hw h1 h2⟩
  · have c' : kb_ch x = false := by simpa using c
    have c1 : decide (¬ x < 1 ∧ ¬ 30 < x) = false := c'
    refine ⟨-2, w, w, ?_, ?_, hw⟩
    · simp only [e_155, o_0, r_155_0, r_155_1, r_155_4, r_155_7, r_155_9, r_155_10, r_155_11, r_155_14, r_155_17, r_155_18, r_155_21, r_155_22, r_155_25, r_155_26, r_155_27, r_155_30, r_155_31, r_155_34, r_155_36, r_155_39, r_155_40, r_155_41, r_155_44, r_155_45, r_155_48, r_155_51, r_155_52, r_155_55, r_155_58, Option.bind_some, Option.bind_none, Option.toList_some, Option.toList_none, List.cons_append, List.nil_append, Option.map_some, Option.map_none, eq_self, if_true, if_false, reduceIte, ai_bi_eq0, ai_bi_eq1, ai_pb_bi, ai_pb_0, ai_pb_1, x_isChapter, c1]
    · simp only [e_263, o_185, r_263_0, r_263_1, r_263_4, r_263_7, r_263_9, r_263_10, r_263_11, r_263_12, r_263_15, r_263_16, r_263_17, r_263_20, r_263_21, r_263_24, r_263_25, r_263_26, r_263_27, r_263_28, r_263_29, r_263_30, r_263_32, r_263_35, r_263_36, r_263_38, r_263_41, r_263_42, r_263_43, r_263_46, r_263_47, r_263_50, r_263_52, r_263_53, r_263_54, r_263_55, r_263_56, r_263_59, r_263_60, r_263_62, r_263_65, r_263_66, r_263_68, r_263_71, r_263_72, r_263_73, r_263_74, r_263_78, r_263_79, r_263_82, r_263_83, r_263_84, r_263_87, r_263_88, r_263_90, r_263_91, r_263_94, r_263_97, r_263_98, r_263_101, r_263_102, r_263_104, r_263_107, r_263_108, r_263_109, r_263_110, r_263_112, r_263_115, r_263_118, r_263_121, r_263_122, r_263_125, Option.bind_some, Option.bind_none, Option.toList_some, Option.toList_none, List.cons_append, List.nil_append, Option.map_some, Option.map_none, eq_self, if_true, if_false, reduceIte, ai_bi_eq0, ai_bi_eq1, ai_pb_bi, ai_pb_0, ai_pb_1, m_isChapter, c']
