/-! What is told of a chapter. -/
def kl_w (B : kb_B) (q : Nat) : List Int32 := if kb_W B q = (-4) then [] else if kb_by B q = true then 64 :: (nl (kb_W B q).toNatClampNeg ++ [33]) else 64 :: nl (kb_W B q).toNatClampNeg
def kl_d (B : kb_B) (q : Nat) : Nat → List Int32
  | 0 => []
  | n + 1 => if kb_dead B n q = true then kl_d B q n ++ (if kl_d B q n = [] then [nI (48 + n)] else [44, nI (48 + n)]) else kl_d B q n
theorem kl_d_len (B : kb_B) (q n : Nat) : (kl_d B q n).length ≤ 2 * n := by
  induction n with
  | zero => exact Nat.le_refl _
  | succ n ih =>
    rw [kl_d]
    split
    · rw [List.length_append]
      split
      · simp; omega
      · simp; omega
    · omega
theorem kl_w_len (B : kb_B) (q : Nat) : (kl_w B q).length ≤ 4 := by
  have h := nl_len (kb_W B q).toNatClampNeg
  unfold kl_w
  split
  · simp
  · split
    · rw [List.length_cons, List.length_append, List.length_singleton]; omega
    · rw [List.length_cons]; omega
/-- whether nothing was told yet -/
def kl_f : List Int32 → Int32
  | [] => 1
  | _ :: _ => 0
theorem kl_f_0 {l : List Int32} (h : ¬ l = []) : kl_f l = 0 := by
  cases l with
  | nil => exact absurd rfl h
  | cons a l => rfl
theorem kl_f_1 {l : List Int32} (h : l = []) : kl_f l = 1 := by rw [h]; rfl
theorem kb_dead_out {B : kb_B} (hk : kb_ok B) {c : Nat} (hc : kb_n B ≤ c) (q : Nat) : kb_dead B c q = false := by
  unfold kb_dead kb_c
  rw [hk.2.2.2.1 c hc]
  rfl
theorem kl_d_out {B : kb_B} (hk : kb_ok B) (q : Nat) : ∀ d, kl_d B q (kb_n B + d) = kl_d B q (kb_n B) := by
  intro d
  induction d with
  | zero => rfl
  | succ d ih =>
    rw [show kb_n B + (d + 1) = (kb_n B + d) + 1 by omega, kl_d, kb_dead_out hk (by omega), if_neg (by decide), ih]
theorem ai_bit8 : ∀ m, m < 256 → ∀ c, c < 8 → ((nI m >>> (nI c &&& 31)) &&& 1 = 1 ↔ m.testBit c = true) := by
  have h : (List.range 256).all (fun m => (List.range 8).all fun c => decide ((nI m >>> (nI c &&& 31)) &&& 1 = 1 ↔ m.testBit c = true)) = true := by decide +kernel
  intro m hm c hc
  exact of_decide_eq_true (List.all_eq_true.mp (List.all_eq_true.mp h m (List.mem_range.mpr hm)) c (List.mem_range.mpr hc))
theorem kb_set_bit {B : kb_B} (hk : kb_ok B) (q : Nat) {c : Nat} (hc : c < 8) : ((nI (kb_set B q) >>> (nI c &&& 31)) &&& 1 = 1 ↔ kb_dead B c q = true) := by
  unfold kb_set
  rw [ai_bit8 _ (kb_k_lt _ hk.1) c hc]
  rw [kb_k_bit]
  rcases Nat.lt_or_ge c (kb_n B) with z | z
  · simp [z]
  · rw [kb_dead_out hk z]
    simp
theorem kb_by_i {B : kb_B} (hk : kb_ok B) {q i : Nat} (hi : i < kb_a B) (hw : kb_W B q = nI i) : kb_by B q = decide (kb_S B i = 1) := by
  have ha := hk.2.1
  unfold kb_by
  rw [hw]
  congr 1
  rw [eq_iff_iff]
  constructor
  · rintro ⟨j, h1, h2, h3⟩
    rw [(nI_eq (by omega) (by omega)).mp h2]
    exact h3
  · intro h3
    exact ⟨i, hi, rfl, h3⟩
section CHAP
variable {w : xw_W} {B : kb_B}
theorem x_addWriter (hx : kb_x (xw_b w) B) (hk : kb_ok B) {w1 : xw_W} {l : List Int32} (h1 : xl w l w1) {q : Nat} (hq : q ≤ 30) (hl : l.length + 4 ≤ 40) : ∃ w2, ai_Call 37 [.ref 0, .int (nI q)] (wl w1) = some (none, wl w2) ∧ xl w (l ++ kl_w B q) w2 := by
  have ha := hk.2.1
  have hx1 : ∀ {w' : xw_W} {l' : List Int32}, xl w l' w' → kb_x (xw_b w') B := fun h => by rw [xo_b h.1]; exact hx
  have g1 := x_wr (hx1 h1) hq
  rcases hk.2.2.2.2.2.2.1 q with z | ⟨i, hi, z⟩
  · rw [z] at g1
    have e : ai_is (kb_a B) (-4) = false := by unfold ai_is; simp
    unfold kl_w
    rw [if_pos z]
    refine ⟨w1, ?_, by simpa using h1⟩
    simp only [e_37, o_0, r_37_0, r_37_1, r_37_4, r_37_7, r_37_8, r_37_11, r_37_12, r_37_13, r_37_16, r_37_17, r_37_20, r_37_23, r_37_24, r_37_25, r_37_28, r_37_30, r_37_33, r_37_34, r_37_37, r_37_38, r_37_41, r_37_42, r_37_45, r_37_46, r_37_49, r_37_52, r_37_53, r_37_56, r_37_58, r_37_61, Option.bind_some, Option.bind_none, Option.toList_some, Option.toList_none, List.cons_append, List.nil_append, Option.map_some, Option.map_none, eq_self, if_true, if_false, reduceIte, ai_bi_eq0, ai_bi_eq1, ai_pb_bi, ai_pb_0, ai_pb_1, f_0_0, f_1_6, g1, x_isAuthor (hx1 h1), e]
  · rw [z] at g1
    have e : ai_is (kb_a B) (nI i) = true := ai_is_nI hi (by omega)
    have c0 : ¬ nI i = (-4) := fun y => nI_pos (n := i) (by omega) (by rw [y]; decide)
    unfold kl_w
    rw [z, if_neg c0, nI_clamp (by omega), nl_10 (show i < 10 by omega)]
    obtain ⟨w2, e2, h2⟩ := x_put h1 (by omega) 64
    obtain ⟨w3, e3, h3⟩ := x_num h2 (v := i) (by omega) (by rw [List.length_append, List.length_singleton]; omega)
    rw [nl_10 (show i < 10 by omega)] at h3
    have e4 : ai_Call 36 [.ref 1, .int (nI q)] (wl w3) = some (some (.int (ai_bi (kb_by B q))), wl w3) := x_isBySworn (hx1 h3) hk hq
    by_cases c1 : kb_by B q = true
    · rw [if_pos c1]
      rw [c1] at e4
      obtain ⟨w4, e5, h4⟩ := x_put h3 (by rw [List.length_append, List.length_append, List.length_singleton, List.length_singleton]; omega) 33
      refine ⟨w4, ?_, by simpa using h4⟩
      simp only [e_37, o_0, r_37_0, r_37_1, r_37_4, r_37_7, r_37_8, r_37_11, r_37_12, r_37_13, r_37_16, r_37_17, r_37_20, r_37_23, r_37_24, r_37_25, r_37_28, r_37_30, r_37_33, r_37_34, r_37_37, r_37_38, r_37_41, r_37_42, r_37_45, r_37_46, r_37_49, r_37_52, r_37_53, r_37_56, r_37_58, r_37_61, Option.bind_some, Option.bind_none, Option.toList_some, Option.toList_none, List.cons_append, List.nil_append, Option.map_some, Option.map_none, eq_self, if_true, if_false, reduceIte, ai_bi_eq0, ai_bi_eq1, ai_pb_bi, ai_pb_0, ai_pb_1, f_0_0, f_1_6, g1, x_isAuthor (hx1 h1), e, Bool.true_eq_false, f_0_8, e2, e3, e4, e5]
    · rw [if_neg c1]
      have c2 : kb_by B q = false := by simpa using c1
      rw [c2] at e4
      refine ⟨w3, ?_, by simpa using h3⟩
      simp only [e_37, o_0, r_37_0, r_37_1, r_37_4, r_37_7, r_37_8, r_37_11, r_37_12, r_37_13, r_37_16, r_37_17, r_37_20, r_37_23, r_37_24, r_37_25, r_37_28, r_37_30, r_37_33, r_37_34, r_37_37, r_37_38, r_37_41, r_37_42, r_37_45, r_37_46, r_37_49, r_37_52, r_37_53, r_37_56, r_37_58, r_37_61, Option.bind_some, Option.bind_none, Option.toList_some, Option.toList_none, List.cons_append, List.nil_append, Option.map_some, Option.map_none, eq_self, if_true, if_false, reduceIte, ai_bi_eq0, ai_bi_eq1, ai_pb_bi, ai_pb_0, ai_pb_1, f_0_0, f_1_6, g1, x_isAuthor (hx1 h1), e, Bool.true_eq_false, f_0_8, e2, e3, e4]
theorem x_addDead (hk : kb_ok B) {w1 : xw_W} {l : List Int32} (h1 : xl w l w1) {q : Nat} (hl : l.length + 17 ≤ 40) : ∃ w2, ai_Call 32 [.ref 0, .int (nI (kb_set B q))] (wl w1) = some (none, wl w2) ∧ xl w (l ++ kl_d B q 8) w2 := by
  have step : ∀ i w1, i < 8 → xl w (l ++ kl_d B q i) w1 → ∃ w2, xl w (l ++ kl_d B q (i + 1)) w2 ∧ ai_Run 32 4 [.ref 0, .int (nI (kb_set B q)), .int (kl_f (kl_d B q i)), .int (nI i)] [] (wl w1) = ai_Run 32 4 [.ref 0, .int (nI (kb_set B q)), .int (kl_f (kl_d B q (i + 1))), .int (nI (i + 1))] [] (wl w2) := by
    intro i w1 hi h1
    have c1 : nI i < 8 := nI_lt (b := 8) hi (by decide)
    have c2 := kb_set_bit hk q hi
    have hd := kl_d_len B q i
    rw [kl_d]
    by_cases c3 : kb_dead B i q = true
    · have c4 := c2.mpr c3
      rw [if_pos c3]
      by_cases c5 : kl_d B q i = []
      · rw [if_pos c5]
        obtain ⟨w2, e2, h2⟩ := x_num h1 (v := i) (by omega) (by rw [List.length_append]; omega)
        rw [nl_10 (show i < 10 by omega)] at h2
        have c6 := kl_f_1 c5
        have c7 : kl_f (kl_d B q i ++ [nI (48 + i)]) = 0 := kl_f_0 (by simp)
        refine ⟨w2, by simpa using h2, ?_⟩
        rw [r_32_4]
        simp only [r_32_0, r_32_1, r_32_2, r_32_3, r_32_5, r_32_7, r_32_10, r_32_11, r_32_12, r_32_13, r_32_14, r_32_15, r_32_16, r_32_19, r_32_20, r_32_23, r_32_24, r_32_27, r_32_29, r_32_32, r_32_33, r_32_36, r_32_37, r_32_40, r_32_41, r_32_42, r_32_45, r_32_48, Option.bind_some, Option.bind_none, Option.toList_some, Option.toList_none, List.cons_append, List.nil_append, Option.map_some, Option.map_none, eq_self, if_true, if_false, reduceIte, ai_bi_eq0, ai_bi_eq1, ai_pb_bi, ai_pb_0, ai_pb_1, c1, c4, c6, c7, show ¬ (1 : Int32) = 0 by decide, f_0_8, e2, nI_1]
      · rw [if_neg c5]
        obtain ⟨w2, e2, h2⟩ := x_put h1 (by rw [List.length_append]; omega) 44
        obtain ⟨w3, e3, h3⟩ := x_num h2 (v := i) (by omega) (by rw [List.length_append, List.length_append, List.length_singleton]; omega)
        rw [nl_10 (show i < 10 by omega)] at h3
        have c6 := kl_f_0 c5
        have c7 : kl_f (kl_d B q i ++ [44, nI (48 + i)]) = 0 := kl_f_0 (by simp)
        refine ⟨w3, by simpa using h3, ?_⟩
        rw [r_32_4]
        simp only [r_32_0, r_32_1, r_32_2, r_32_3, r_32_5, r_32_7, r_32_10, r_32_11, r_32_12, r_32_13, r_32_14, r_32_15, r_32_16, r_32_19, r_32_20, r_32_23, r_32_24, r_32_27, r_32_29, r_32_32, r_32_33, r_32_36, r_32_37, r_32_40, r_32_41, r_32_42, r_32_45, r_32_48, Option.bind_some, Option.bind_none, Option.toList_some, Option.toList_none, List.cons_append, List.nil_append, Option.map_some, Option.map_none, eq_self, if_true, if_false, reduceIte, ai_bi_eq0, ai_bi_eq1, ai_pb_bi, ai_pb_0, ai_pb_1, c1, c4, c6, c7, f_0_8, e2, e3, nI_1]
    · have c4 : ¬ (nI (kb_set B q) >>> (nI i &&& 31)) &&& 1 = 1 := fun y => c3 (c2.mp y)
      rw [if_neg c3]
      refine ⟨w1, h1, ?_⟩
      rw [r_32_4]
      simp only [r_32_0, r_32_1, r_32_2, r_32_3, r_32_5, r_32_7, r_32_10, r_32_11, r_32_12, r_32_13, r_32_14, r_32_15, r_32_16, r_32_19, r_32_20, r_32_23, r_32_24, r_32_27, r_32_29, r_32_32, r_32_33, r_32_36, r_32_37, r_32_40, r_32_41, r_32_42, r_32_45, r_32_48, Option.bind_some, Option.bind_none, Option.toList_some, Option.toList_none, List.cons_append, List.nil_append, Option.map_some, Option.map_none, eq_self, if_true, if_false, reduceIte, ai_bi_eq0, ai_bi_eq1, ai_pb_bi, ai_pb_0, ai_pb_1, c1, c4, nI_1]
  obtain ⟨w7, h7, e7⟩ := lp_x (P := fun i w1 => xl w (l ++ kl_d B q i) w1) (R := fun i w1 => ai_Run 32 4 [.ref 0, .int (nI (kb_set B q)), .int (kl_f (kl_d B q i)), .int (nI i)] [] (wl w1)) 8 step (w0 := w1) (by simpa [kl_d] using h1)
  refine ⟨w7, ?_, h7⟩
  simp only [e_32, o_0, r_32_0, r_32_1, r_32_2, r_32_3, r_32_5, r_32_7, r_32_10, r_32_11, r_32_12, r_32_13, r_32_14, r_32_15, r_32_16, r_32_19, r_32_20, r_32_23, r_32_24, r_32_27, r_32_29, r_32_32, r_32_33, r_32_36, r_32_37, r_32_40, r_32_41, r_32_42, r_32_45, r_32_48, Option.bind_some, Option.bind_none, Option.toList_some, Option.toList_none, List.cons_append, List.nil_append, Option.map_some, Option.map_none, eq_self, if_true, if_false, reduceIte, ai_bi_eq0, ai_bi_eq1, ai_pb_bi, ai_pb_0, ai_pb_1]
  refine e7.trans ?_
  rw [r_32_4]
  simp only [r_32_0, r_32_1, r_32_2, r_32_3, r_32_5, r_32_7, r_32_10, r_32_11, r_32_12, r_32_13, r_32_14, r_32_15, r_32_16, r_32_19, r_32_20, r_32_23, r_32_24, r_32_27, r_32_29, r_32_32, r_32_33, r_32_36, r_32_37, r_32_40, r_32_41, r_32_42, r_32_45, r_32_48, Option.bind_some, Option.bind_none, Option.toList_some, Option.toList_none, List.cons_append, List.nil_append, Option.map_some, Option.map_none, eq_self, if_true, if_false, reduceIte, ai_bi_eq0, ai_bi_eq1, ai_pb_bi, ai_pb_0, ai_pb_1, show ¬ nI 8 < 8 by decide]
def kl_q (B : kb_B) (q : Nat) : List Int32 := nl q ++ (kl_w B q ++ 58 :: kl_d B q (kb_n B))
theorem s_tellChapter (hx : kb_x (xw_b w) B) (hk : kb_ok B) {q : Nat} (h1q : 1 ≤ q) (hq : q ≤ 30) : ∃ w1, ai_Call 153 [.ref 0, .int (nI q)] (wl w) = some (some (.int (nI (kl_q B q).length)), wl w1) ∧ xl w (kl_q B q) w1 := by
  have hx1 : ∀ {w' : xw_W} {l' : List Int32}, xl w l' w' → kb_x (xw_b w') B := fun h => by rw [xo_b h.1]; exact hx
  have n1 := nl_len q
  have n2 := kl_w_len B q
  obtain ⟨w0, e0, h0⟩ := x_lclear w
  obtain ⟨w1, e1, h1⟩ := x_num h0 (v := q) (by omega) (by decide)
  obtain ⟨w2, e2, h2⟩ := x_addWriter hx hk h1 hq (by rw [List.nil_append]; omega)
  obtain ⟨w3, e3, h3⟩ := x_put h2 (by rw [List.nil_append, List.length_append]; omega) 58
  obtain ⟨w4, e4, h4⟩ := x_addDead hk h3 (q := q) (by rw [List.nil_append, List.length_append, List.length_append, List.length_singleton]; omega)
  have e5 := x_deadByLatest (hx1 h3) hk hq
  have c1 : decide (¬ nI q < 1 ∧ ¬ 30 < nI q) = true := decide_eq_true ⟨nI_nlt (b := 1) h1q (by omega), nI_nlt (b := q) (a := 30) hq (by decide)⟩
  have el : [] ++ nl q ++ kl_w B q ++ [58] ++ kl_d B q 8 = kl_q B q := by
    have := kl_d_out hk q (8 - kb_n B)
    rw [show kb_n B + (8 - kb_n B) = 8 by have := hk.1; omega] at this
    rw [this]
    simp [kl_q]
  rw [el] at h4
  have e8 := x_lsize h4
  refine ⟨w4, ?_, h4⟩
  simp only [e_153, o_0, r_153_0, r_153_1, r_153_4, r_153_7, r_153_9, r_153_10, r_153_11, r_153_14, r_153_17, r_153_18, r_153_21, r_153_22, r_153_25, r_153_26, r_153_27, r_153_30, r_153_31, r_153_34, r_153_36, r_153_39, r_153_40, r_153_41, r_153_44, r_153_45, r_153_48, r_153_51, r_153_52, r_153_55, r_153_58, Option.bind_some, Option.bind_none, Option.toList_some, Option.toList_none, List.cons_append, List.nil_append, Option.map_some, Option.map_none, eq_self, if_true, if_false, reduceIte, ai_bi_eq0, ai_bi_eq1, ai_pb_bi, ai_pb_0, ai_pb_1, x_isChapter, c1, Bool.true_eq_false, f_0_8, f_0_1, e0, e1, e2, e3, e5, e4, e8]
end CHAP
