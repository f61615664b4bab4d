/-! The reference: its row, and who is dead. -/
theorem a_1 (k : Nat) : (1 : Int32) + nI k = nI (1 + k) := nI_add 1 k
theorem a_3 (k : Nat) : (3 : Int32) + nI k = nI (3 + k) := nI_add 3 k
theorem a_7 (k : Nat) : (7 : Int32) + nI k = nI (7 + k) := nI_add 7 k
theorem a_34 (k : Nat) : (34 : Int32) + nI k = nI (34 + k) := nI_add 34 k
theorem a_38 (k : Nat) : (38 : Int32) + nI k = nI (38 + k) := nI_add 38 k
theorem a_45 (k : Nat) : (45 : Int32) + nI k = nI (45 + k) := nI_add 45 k
theorem a_109 (k : Nat) : (109 : Int32) + nI k = nI (109 + k) := nI_add 109 k
theorem t_2 (k : Nat) : (2 : Int32) * nI k = nI (2 * k) := pk_mul 2 k
theorem t_8 (k : Nat) : (8 : Int32) * nI k = nI (8 * k) := pk_mul 8 k
theorem t_10 (k : Nat) : (10 : Int32) * nI k = nI (10 * k) := pk_mul 10 k
theorem s_1 (n : Nat) : nI (n + 1) - 1 = nI n := nI_pred n
def ai_in3 (x a b : Int32) : Bool := decide (¬ x < a ∧ ¬ b < x)
theorem m_isIn (x a b : Int32) (ws : ai_W) : ai_Call 179 [.int x, .int a, .int b] ws = some (some (.int (ai_bi (ai_in3 x a b))), ws) := by
  unfold ai_in3
  by_cases c1 : x < a
  · simp only [e_179, r_179_0, r_179_1, r_179_2, r_179_5, r_179_6, r_179_7, r_179_10, r_179_11, r_179_14, r_179_15, Option.bind_some, Option.bind_none, Option.toList_some, Option.toList_none, List.cons_append, List.nil_append, Option.map_some, Option.map_none, eq_self, if_true, if_false, reduceIte, ai_bi_eq0, ai_bi_eq1, ai_pb_bi, ai_pb_0, ai_pb_1, c1, not_true, false_and, decide_false]
    rfl
  · by_cases c2 : b < x
    · simp only [e_179, r_179_0, r_179_1, r_179_2, r_179_5, r_179_6, r_179_7, r_179_10, r_179_11, r_179_14, r_179_15, Option.bind_some, Option.bind_none, Option.toList_some, Option.toList_none, List.cons_append, List.nil_append, Option.map_some, Option.map_none, eq_self, if_true, if_false, reduceIte, ai_bi_eq0, ai_bi_eq1, ai_pb_bi, ai_pb_0, ai_pb_1, c1, c2, not_true, and_false, decide_false]
      rfl
    · simp only [e_179, r_179_0, r_179_1, r_179_2, r_179_5, r_179_6, r_179_7, r_179_10, r_179_11, r_179_14, r_179_15, Option.bind_some, Option.bind_none, Option.toList_some, Option.toList_none, List.cons_append, List.nil_append, Option.map_some, Option.map_none, eq_self, if_true, if_false, reduceIte, ai_bi_eq0, ai_bi_eq1, ai_pb_bi, ai_pb_0, ai_pb_1, c1, c2, not_false_eq_true, and_self, decide_true]
      rfl
theorem ai_in3_is {x : Int32} {n : Nat} (hn : n < 2 ^ 30) : ai_in3 x 0 (nI n - 1) = ai_is n x := by
  unfold ai_in3 ai_is
  rw [decide_eq_decide]
  have h1 : (nI n - 1).toInt = (n : Int) - 1 := pk_sub_toInt (b := 1) hn (by decide)
  have h2 := nI_toInt (n := n) (by omega)
  rw [Int32.lt_iff_toInt_lt (x := nI n - 1), Int32.lt_iff_toInt_lt (y := nI n), h1, h2]
  constructor
  · intro z; exact ⟨z.1, by omega⟩
  · intro z; exact ⟨z.1, by omega⟩
theorem m_isChapter (x : Int32) (ws : ai_W) : ai_Call 207 [.int x] ws = some (some (.int (ai_bi (kb_ch x))), ws) := by
  simp only [e_207, r_207_0, r_207_1, r_207_2, r_207_4, r_207_7, Option.bind_some, Option.bind_none, Option.toList_some, Option.toList_none, List.cons_append, List.nil_append, Option.map_some, Option.map_none, eq_self, if_true, if_false, reduceIte, ai_bi_eq0, ai_bi_eq1, ai_pb_bi, ai_pb_0, ai_pb_1, m_isIn]
  rfl
theorem m_isSeat (x : Int32) (ws : ai_W) : ai_Call 223 [.int x] ws = some (some (.int (ai_bi (ai_is 7 x))), ws) := by
  have e : ai_in3 x 0 6 = ai_is 7 x := ai_in3_is (n := 7) (by decide)
  simp only [e_223, r_223_0, r_223_1, r_223_2, r_223_4, r_223_7, Option.bind_some, Option.bind_none, Option.toList_some, Option.toList_none, List.cons_append, List.nil_append, Option.map_some, Option.map_none, eq_self, if_true, if_false, reduceIte, ai_bi_eq0, ai_bi_eq1, ai_pb_bi, ai_pb_0, ai_pb_1, m_isIn, e]
section MB
variable {w : xw_W} {B : kb_B}
theorem mg (w : xw_W) {j : Nat} (hj : j < 189) : ai_aget (wl w) 186 (nI j) = some (xm_s w j) := by
  rw [ag_186, ai_ix_nI hj (by decide)]
  rfl
theorem mg_0 (w : xw_W) : ai_aget (wl w) 186 0 = some (xm_s w 0) := mg w (j := 0) (by decide)
theorem mg_1 (w : xw_W) : ai_aget (wl w) 186 1 = some (xm_s w 1) := mg w (j := 1) (by decide)
theorem mg_2 (w : xw_W) : ai_aget (wl w) 186 2 = some (xm_s w 2) := mg w (j := 2) (by decide)
theorem m_of (w : xw_W) {c k : Nat} (hc : c < 8) (hk : k < 10) : ai_Call 165 [.ref 185, .int (nI c), .int (nI k)] (wl w) = some (some (.int (xm_s w (109 + c * 10 + k))), wl w) := by
  simp only [e_165, o_185, r_165_0, r_165_1, r_165_4, r_165_6, r_165_8, r_165_9, r_165_10, r_165_11, r_165_12, r_165_13, r_165_14, Option.bind_some, Option.bind_none, Option.toList_some, Option.toList_none, List.cons_append, List.nil_append, Option.map_some, Option.map_none, eq_self, if_true, if_false, reduceIte, ai_bi_eq0, ai_bi_eq1, ai_pb_bi, ai_pb_0, ai_pb_1, f_185_0, t_10, a_109, nI_add, mg w (show 109 + 10 * c + k < 189 by omega)]
  rw [Nat.mul_comm]
theorem m_T (h : kb_m (xm_s w) B) {c : Nat} (hc : c < 8) : ai_Call 165 [.ref 185, .int (nI c), .int 0] (wl w) = some (some (.int (nI (kb_T B c))), wl w) := by
  have := m_of w hc (k := 0) (by decide)
  rw [Nat.add_zero, h.2.2.2.1 c hc] at this
  exact this
theorem m_E (h : kb_m (xm_s w) B) (hk : kb_ok B) {c k : Nat} (hc : c < 8) (hkT : k < kb_T B c) : ai_Call 165 [.ref 185, .int (nI c), .int (nI (1 + k))] (wl w) = some (some (.int (nI (kb_E B c k))), wl w) := by
  have h6 := hk.2.2.1 c
  rw [m_of w hc (by omega), h.2.2.2.2.1 c k hc hkT]
theorem m_isCharacter (h : kb_m (xm_s w) B) (hk : kb_ok B) (x : Int32) : ai_Call 200 [.ref 185, .int x] (wl w) = some (some (.int (ai_bi (ai_is (kb_n B) x))), wl w) := by
  have hn := hk.1
  simp only [e_200, o_185, r_200_0, r_200_1, r_200_2, r_200_3, r_200_6, r_200_7, r_200_8, r_200_9, r_200_10, r_200_13, Option.bind_some, Option.bind_none, Option.toList_some, Option.toList_none, List.cons_append, List.nil_append, Option.map_some, Option.map_none, eq_self, if_true, if_false, reduceIte, ai_bi_eq0, ai_bi_eq1, ai_pb_bi, ai_pb_0, ai_pb_1, f_185_0, mg_0, h.1, m_isIn, ai_in3_is (show kb_n B < 2 ^ 30 by omega)]
theorem m_isAuthor (h : kb_m (xm_s w) B) (hk : kb_ok B) (x : Int32) : ai_Call 189 [.ref 185, .int x] (wl w) = some (some (.int (ai_bi (ai_is (kb_a B) x))), wl w) := by
  have hn := hk.2.1
  simp only [e_189, o_185, r_189_0, r_189_1, r_189_2, r_189_3, r_189_6, r_189_7, r_189_8, r_189_9, r_189_10, r_189_13, Option.bind_some, Option.bind_none, Option.toList_some, Option.toList_none, List.cons_append, List.nil_append, Option.map_some, Option.map_none, eq_self, if_true, if_false, reduceIte, ai_bi_eq0, ai_bi_eq1, ai_pb_bi, ai_pb_0, ai_pb_1, f_185_0, mg_1, h.2.1, m_isIn, ai_in3_is (show kb_a B < 2 ^ 30 by omega)]
theorem m_deathsOf (h : kb_m (xm_s w) B) (hk : kb_ok B) {c : Nat} (hc : c < 8) : ai_Call 166 [.ref 185, .int (nI c)] (wl w) = some (some (.int (nI (kb_d B c))), wl w) := by
  have h6 := hk.2.2.1 c
  simp only [e_166, o_185, r_166_0, r_166_1, r_166_2, r_166_3, r_166_6, r_166_7, r_166_8, r_166_9, r_166_10, Option.bind_some, Option.bind_none, Option.toList_some, Option.toList_none, List.cons_append, List.nil_append, Option.map_some, Option.map_none, eq_self, if_true, if_false, reduceIte, ai_bi_eq0, ai_bi_eq1, ai_pb_bi, ai_pb_0, ai_pb_1, m_T h hc]
  rw [nI_1, pk_div2 (by omega)]
  rfl
theorem m_risingsOf (h : kb_m (xm_s w) B) (hk : kb_ok B) {c : Nat} (hc : c < 8) : ai_Call 168 [.ref 185, .int (nI c)] (wl w) = some (some (.int (nI (kb_T B c / 2))), wl w) := by
  have h6 := hk.2.2.1 c
  simp only [e_168, o_185, r_168_0, r_168_1, r_168_2, r_168_3, r_168_6, r_168_7, r_168_8, Option.bind_some, Option.bind_none, Option.toList_some, Option.toList_none, List.cons_append, List.nil_append, Option.map_some, Option.map_none, eq_self, if_true, if_false, reduceIte, ai_bi_eq0, ai_bi_eq1, ai_pb_bi, ai_pb_0, ai_pb_1, m_T h hc]
  rw [pk_div2 (by omega)]
theorem m_isDeath (h : kb_m (xm_s w) B) (hk : kb_ok B) (x d : Int32) : ai_Call 211 [.ref 185, .int x, .int d] (wl w) = some (some (.int (ai_bi (ai_is (kb_n B) x && ai_is (kb_d B x.toNatClampNeg) d))), wl w) := by
  have hn := hk.1
  by_cases c1 : ai_is (kb_n B) x = true
  · obtain ⟨c, hc, rfl⟩ := ai_is_of (by omega) c1
    have h3 := kb_d3 hk c
    rw [nI_clamp (show c < 2 ^ 31 by omega)]
    simp only [e_211, o_185, r_211_0, r_211_1, r_211_2, r_211_5, r_211_8, r_211_9, r_211_10, r_211_11, r_211_12, r_211_15, r_211_16, r_211_17, r_211_20, r_211_23, r_211_24, r_211_27, r_211_28, Option.bind_some, Option.bind_none, Option.toList_some, Option.toList_none, List.cons_append, List.nil_append, Option.map_some, Option.map_none, eq_self, if_true, if_false, reduceIte, ai_bi_eq0, ai_bi_eq1, ai_pb_bi, ai_pb_0, ai_pb_1, m_isCharacter h hk, c1, Bool.true_eq_false, m_deathsOf h hk (show c < 8 by omega), m_isIn, ai_in3_is (show kb_d B c < 2 ^ 30 by omega), Bool.true_and]
    cases ai_is (kb_d B c) d <;> rfl
  · have c1' : ai_is (kb_n B) x = false := by simpa using c1
    simp only [e_211, o_185, r_211_0, r_211_1, r_211_2, r_211_5, r_211_8, r_211_9, r_211_10, r_211_11, r_211_12, r_211_15, r_211_16, r_211_17, r_211_20, r_211_23, r_211_24, r_211_27, r_211_28, Option.bind_some, Option.bind_none, Option.toList_some, Option.toList_none, List.cons_append, List.nil_append, Option.map_some, Option.map_none, eq_self, if_true, if_false, reduceIte, ai_bi_eq0, ai_bi_eq1, ai_pb_bi, ai_pb_0, ai_pb_1, m_isCharacter h hk, c1', Bool.false_and]
    rfl
theorem m_chapterOf (h : kb_m (xm_s w) B) (hk : kb_ok B) {c d : Nat} (hc : c < 8) (hd : d < kb_d B c) : ai_Call 191 [.ref 185, .int (nI c), .int (nI d)] (wl w) = some (some (.int (nI (kb_E B c (2 * d)))), wl w) := by
  unfold kb_d at hd
  simp only [e_191, o_185, r_191_0, r_191_1, r_191_2, r_191_3, r_191_4, r_191_5, r_191_6, r_191_7, r_191_10, Option.bind_some, Option.bind_none, Option.toList_some, Option.toList_none, List.cons_append, List.nil_append, Option.map_some, Option.map_none, eq_self, if_true, if_false, reduceIte, ai_bi_eq0, ai_bi_eq1, ai_pb_bi, ai_pb_0, ai_pb_1, t_2, a_1, m_E h hk hc (show 2 * d < kb_T B c by omega)]
theorem m_culprit (h : kb_m (xm_s w) B) (hk : kb_ok B) {c d : Nat} (hc : c < kb_n B) (hd : d < 3) : ai_Call 170 [.ref 185, .int (nI c), .int (nI d)] (wl w) = some (some (.int (kb_C B c d)), wl w) := by
  have hn := hk.1
  simp only [e_170, o_185, r_170_0, r_170_1, r_170_2, r_170_4, r_170_5, r_170_6, r_170_9, Option.bind_some, Option.bind_none, Option.toList_some, Option.toList_none, List.cons_append, List.nil_append, Option.map_some, Option.map_none, eq_self, if_true, if_false, reduceIte, ai_bi_eq0, ai_bi_eq1, ai_pb_bi, ai_pb_0, ai_pb_1, a_7, m_of w (show c < 8 by omega) (show 7 + d < 10 by omega), h.2.2.2.2.2.1 c d hc hd]
theorem m_isDeadNow (h : kb_m (xm_s w) B) (hk : kb_ok B) {c : Nat} (hc : c < 8) : ai_Call 213 [.ref 185, .int (nI c)] (wl w) = some (some (.int (ai_bi (decide (kb_T B c % 2 = 1)))), wl w) := by
  have h6 := hk.2.2.1 c
  have e : (nI (kb_T B c % 2) = 1) ↔ kb_T B c % 2 = 1 := by
    rw [n_1]
    exact nI_eq (by omega) (by decide)
  simp only [e_213, o_185, r_213_0, r_213_1, r_213_2, r_213_3, r_213_6, r_213_7, r_213_8, r_213_9, r_213_12, r_213_13, r_213_16, r_213_17, Option.bind_some, Option.bind_none, Option.toList_some, Option.toList_none, List.cons_append, List.nil_append, Option.map_some, Option.map_none, eq_self, if_true, if_false, reduceIte, ai_bi_eq0, ai_bi_eq1, ai_pb_bi, ai_pb_0, ai_pb_1, m_T h hc, pk_rem2 (show kb_T B c < 2 ^ 31 by omega), e]
  by_cases q : kb_T B c % 2 = 1
  · simp only [q, decide_true, Option.bind_some, Option.bind_none, Option.toList_some, Option.toList_none, List.cons_append, List.nil_append, Option.map_some, Option.map_none, eq_self, if_true, if_false, reduceIte, ai_bi_eq0, ai_bi_eq1, ai_pb_bi, ai_pb_0, ai_pb_1]
    rfl
  · simp only [q, decide_false, Option.bind_some, Option.bind_none, Option.toList_some, Option.toList_none, List.cons_append, List.nil_append, Option.map_some, Option.map_none, eq_self, if_true, if_false, reduceIte, ai_bi_eq0, ai_bi_eq1, ai_pb_bi, ai_pb_0, ai_pb_1]
    rfl
theorem m_lastChapter (h : kb_m (xm_s w) B) (hk : kb_ok B) {c : Nat} (hc : c < 8) : ai_Call 214 [.ref 185, .int (nI c)] (wl w) = some (some (.int (nI (if kb_T B c = 0 then 0 else kb_E B c (kb_T B c - 1)))), wl w) := by
  have h6 := hk.2.2.1 c
  by_cases q : kb_T B c = 0
  · have e : nI 0 = 0 := rfl
    simp only [e_214, o_185, r_214_0, r_214_1, r_214_2, r_214_3, r_214_6, r_214_7, r_214_8, r_214_11, r_214_12, r_214_15, r_214_16, r_214_17, r_214_18, r_214_19, r_214_20, r_214_21, r_214_22, r_214_25, Option.bind_some, Option.bind_none, Option.toList_some, Option.toList_none, List.cons_append, List.nil_append, Option.map_some, Option.map_none, eq_self, if_true, if_false, reduceIte, ai_bi_eq0, ai_bi_eq1, ai_pb_bi, ai_pb_0, ai_pb_1, m_T h hc, q, e]
  · obtain ⟨k, hk2⟩ : ∃ k, kb_T B c = k + 1 := ⟨kb_T B c - 1, by omega⟩
    have e : ¬ nI (k + 1) = 0 := nI_ne0 (by omega) (by omega)
    have hx := m_E h hk hc (k := k) (by omega)
    rw [Nat.add_comm] at hx
    have e2 : (1 : Int32) + nI (k + 1) - 1 = nI (k + 1) := by rw [a_1, Nat.add_comm 1 (k + 1), s_1]
    simp only [e_214, o_185, r_214_0, r_214_1, r_214_2, r_214_3, r_214_6, r_214_7, r_214_8, r_214_11, r_214_12, r_214_15, r_214_16, r_214_17, r_214_18, r_214_19, r_214_20, r_214_21, r_214_22, r_214_25, Option.bind_some, Option.bind_none, Option.toList_some, Option.toList_none, List.cons_append, List.nil_append, Option.map_some, Option.map_none, eq_self, if_true, if_false, reduceIte, ai_bi_eq0, ai_bi_eq1, ai_pb_bi, ai_pb_0, ai_pb_1, m_T h hc, hk2, e, e2, hx, Nat.add_eq_zero_iff, Nat.one_ne_zero, and_false, Nat.add_sub_cancel]
theorem m_isDeadIn (h : kb_m (xm_s w) B) (hk : kb_ok B) {c q : Nat} (hc : c < 8) (hq : q ≤ 30) : ai_Call 195 [.ref 185, .int (nI c), .int (nI q)] (wl w) = some (some (.int (ai_bi (kb_dead B c q))), wl w) := by
  have h6 := hk.2.2.1 c
  have hcl := kb_c_le (B := B) c q
  have step : ∀ i, i < kb_c B c q → ai_Run 195 2 [.ref 185, .int (nI c), .int (nI q), .int (nI i)] [] (wl w) = ai_Run 195 2 [.ref 185, .int (nI c), .int (nI q), .int (nI (i + 1))] [] (wl w) := by
    intro i hi
    have c1 : nI i < nI (kb_T B c) := nI_lt (by omega) (by omega)
    have he := (kb_c_iff hk (c := c) (h := q) (k := i) (by omega)).mpr hi
    have c2 : ¬ nI q < nI (kb_E B c i) := nI_nlt (by omega) (by omega)
    rw [r_195_2]
    simp only [r_195_0, r_195_1, r_195_3, r_195_4, r_195_5, r_195_6, r_195_9, r_195_12, r_195_13, r_195_14, r_195_15, r_195_16, r_195_17, r_195_20, r_195_21, r_195_24, r_195_27, r_195_30, r_195_31, r_195_32, r_195_33, r_195_34, r_195_37, r_195_38, r_195_41, r_195_42, Option.bind_some, Option.bind_none, Option.toList_some, Option.toList_none, List.cons_append, List.nil_append, Option.map_some, Option.map_none, eq_self, if_true, if_false, reduceIte, ai_bi_eq0, ai_bi_eq1, ai_pb_bi, ai_pb_0, ai_pb_1, m_T h hc, c1, a_1, m_E h hk hc (show i < kb_T B c by omega), c2, nI_1]
  have e := lp_n (fun i => ai_Run 195 2 [.ref 185, .int (nI c), .int (nI q), .int (nI i)] [] (wl w)) _ step
  have fin : ai_Run 195 30 [.ref 185, .int (nI c), .int (nI q), .int (nI (kb_c B c q))] [] (wl w) = some (some (.int (ai_bi (kb_dead B c q))), wl w) := by
    have c3 : nI (kb_c B c q % 2) = 1 ↔ kb_c B c q % 2 = 1 := by rw [n_1]; exact nI_eq (by omega) (by decide)
    unfold kb_dead
    simp only [r_195_0, r_195_1, r_195_3, r_195_4, r_195_5, r_195_6, r_195_9, r_195_12, r_195_13, r_195_14, r_195_15, r_195_16, r_195_17, r_195_20, r_195_21, r_195_24, r_195_27, r_195_30, r_195_31, r_195_32, r_195_33, r_195_34, r_195_37, r_195_38, r_195_41, r_195_42, Option.bind_some, Option.bind_none, Option.toList_some, Option.toList_none, List.cons_append, List.nil_append, Option.map_some, Option.map_none, eq_self, if_true, if_false, reduceIte, ai_bi_eq0, ai_bi_eq1, ai_pb_bi, ai_pb_0, ai_pb_1, pk_rem2 (show kb_c B c q < 2 ^ 31 by omega), c3]
    by_cases z : kb_c B c q % 2 = 1
    · simp only [z, decide_true, Option.bind_some, Option.bind_none, Option.toList_some, Option.toList_none, List.cons_append, List.nil_append, Option.map_some, Option.map_none, eq_self, if_true, if_false, reduceIte, ai_bi_eq0, ai_bi_eq1, ai_pb_bi, ai_pb_0, ai_pb_1]
      rfl
    · simp only [z, decide_false, Option.bind_some, Option.bind_none, Option.toList_some, Option.toList_none, List.cons_append, List.nil_append, Option.map_some, Option.map_none, eq_self, if_true, if_false, reduceIte, ai_bi_eq0, ai_bi_eq1, ai_pb_bi, ai_pb_0, ai_pb_1]
      rfl
  simp only [e_195, o_185, r_195_0, r_195_1, r_195_3, r_195_4, r_195_5, r_195_6, r_195_9, r_195_12, r_195_13, r_195_14, r_195_15, r_195_16, r_195_17, r_195_20, r_195_21, r_195_24, r_195_27, r_195_30, r_195_31, r_195_32, r_195_33, r_195_34, r_195_37, r_195_38, r_195_41, r_195_42, Option.bind_some, Option.bind_none, Option.toList_some, Option.toList_none, List.cons_append, List.nil_append, Option.map_some, Option.map_none, eq_self, if_true, if_false, reduceIte, ai_bi_eq0, ai_bi_eq1, ai_pb_bi, ai_pb_0, ai_pb_1]
  refine e.trans ?_
  rw [r_195_2]
  by_cases z : kb_c B c q < kb_T B c
  · have c1 : nI (kb_c B c q) < nI (kb_T B c) := nI_lt z (by omega)
    have hr := hk.2.2.2.2.1 c (kb_c B c q) z
    have he : ¬ kb_E B c (kb_c B c q) ≤ q := fun y => by
      have := (kb_c_iff hk (c := c) (h := q) (k := kb_c B c q) z).mp y
      omega
    have c2 : nI q < nI (kb_E B c (kb_c B c q)) := nI_lt (by omega) (by omega)
    simp only [r_195_0, r_195_1, r_195_3, r_195_4, r_195_5, r_195_6, r_195_9, r_195_12, r_195_13, r_195_14, r_195_15, r_195_16, r_195_17, r_195_20, r_195_21, r_195_24, r_195_27, r_195_30, r_195_31, r_195_32, r_195_33, r_195_34, r_195_37, r_195_38, r_195_41, r_195_42, Option.bind_some, Option.bind_none, Option.toList_some, Option.toList_none, List.cons_append, List.nil_append, Option.map_some, Option.map_none, eq_self, if_true, if_false, reduceIte, ai_bi_eq0, ai_bi_eq1, ai_pb_bi, ai_pb_0, ai_pb_1, m_T h hc, c1, a_1, m_E h hk hc z, c2] at fin ⊢
    exact fin
  · have c1 : ¬ nI (kb_c B c q) < nI (kb_T B c) := nI_nlt (by omega) (by omega)
    simp only [r_195_0, r_195_1, r_195_3, r_195_4, r_195_5, r_195_6, r_195_9, r_195_12, r_195_13, r_195_14, r_195_15, r_195_16, r_195_17, r_195_20, r_195_21, r_195_24, r_195_27, r_195_30, r_195_31, r_195_32, r_195_33, r_195_34, r_195_37, r_195_38, r_195_41, r_195_42, Option.bind_some, Option.bind_none, Option.toList_some, Option.toList_none, List.cons_append, List.nil_append, Option.map_some, Option.map_none, eq_self, if_true, if_false, reduceIte, ai_bi_eq0, ai_bi_eq1, ai_pb_bi, ai_pb_0, ai_pb_1, m_T h hc, c1] at fin ⊢
    exact fin
theorem m_pagesOf (h : kb_m (xm_s w) B) {c o : Nat} (hc : c < 8) (ho : o < 8) : ai_Call 194 [.ref 185, .int (nI c), .int (nI o)] (wl w) = some (some (.int (nI (kb_M B c o))), wl w) := by
  have := h.2.2.2.2.2.2.2.2.1 c o hc ho
  rw [show 45 + (c * 8 + o) = 45 + 8 * c + o by omega] at this
  simp only [e_194, o_185, r_194_0, r_194_1, r_194_4, r_194_6, r_194_8, r_194_9, r_194_10, r_194_11, r_194_12, r_194_13, r_194_14, Option.bind_some, Option.bind_none, Option.toList_some, Option.toList_none, List.cons_append, List.nil_append, Option.map_some, Option.map_none, eq_self, if_true, if_false, reduceIte, ai_bi_eq0, ai_bi_eq1, ai_pb_bi, ai_pb_0, ai_pb_1, f_185_0, t_8, a_45, nI_add, mg w (show 45 + 8 * c + o < 189 by omega), this]
theorem m_J (h : kb_m (xm_s w) B) {k : Nat} (hk7 : k < 7) : ai_aget (wl w) 186 (nI (38 + k)) = some (nI (kb_J B k)) := by
  rw [mg w (by omega), h.2.2.2.2.2.2.2.2.2 k hk7]
theorem m_W (h : kb_m (xm_s w) B) {q : Nat} (hq : q ≤ 30) : ai_aget (wl w) 186 (nI (3 + q)) = some (kb_W B q) := by
  rw [mg w (by omega), h.2.2.2.2.2.2.1 q hq]
theorem m_S (h : kb_m (xm_s w) B) {i : Nat} (hi : i < 4) : ai_aget (wl w) 186 (nI (34 + i)) = some (nI (kb_S B i)) := by
  rw [mg w (by omega), h.2.2.2.2.2.2.2.1 i hi]
theorem m_sitting (h : kb_m (xm_s w) B) (hk : kb_ok B) : ai_Call 173 [.ref 185] (wl w) = some (some (.int (nI (kb_sit B))), wl w) := by
  have step : ∀ i, i < 7 → ai_Run 173 4 [.ref 185, .int (nI (kb_s (fun k => kb_i (decide (0 < kb_J B k))) i)), .int (nI i)] [] (wl w) = ai_Run 173 4 [.ref 185, .int (nI (kb_s (fun k => kb_i (decide (0 < kb_J B k))) (i + 1))), .int (nI (i + 1))] [] (wl w) := by
    intro i hi
    have h9 := hk.2.2.2.2.2.2.2.2.2.1 i
    have c1 : nI i < 7 := nI_lt (b := 7) hi (by decide)
    rw [r_173_4]
    by_cases c2 : 0 < kb_J B i
    · have c3 : 0 < nI (kb_J B i) := nI_lt c2 (by omega)
      simp only [r_173_0, r_173_1, r_173_2, r_173_3, r_173_5, r_173_7, r_173_10, r_173_11, r_173_12, r_173_15, r_173_17, r_173_18, r_173_19, r_173_20, r_173_23, r_173_24, r_173_27, r_173_28, r_173_29, r_173_30, r_173_33, r_173_36, r_173_37, Option.bind_some, Option.bind_none, Option.toList_some, Option.toList_none, List.cons_append, List.nil_append, Option.map_some, Option.map_none, eq_self, if_true, if_false, reduceIte, ai_bi_eq0, ai_bi_eq1, ai_pb_bi, ai_pb_0, ai_pb_1, c1, f_185_0, a_38, m_J h hi, c2, c3, decide_true, nI_1, kb_s, kb_i_t]
    · have c3 : ¬ 0 < nI (kb_J B i) := nI_nlt (b := kb_J B i) (a := 0) (by omega) (by omega)
      simp only [r_173_0, r_173_1, r_173_2, r_173_3, r_173_5, r_173_7, r_173_10, r_173_11, r_173_12, r_173_15, r_173_17, r_173_18, r_173_19, r_173_20, r_173_23, r_173_24, r_173_27, r_173_28, r_173_29, r_173_30, r_173_33, r_173_36, r_173_37, Option.bind_some, Option.bind_none, Option.toList_some, Option.toList_none, List.cons_append, List.nil_append, Option.map_some, Option.map_none, eq_self, if_true, if_false, reduceIte, ai_bi_eq0, ai_bi_eq1, ai_pb_bi, ai_pb_0, ai_pb_1, c1, f_185_0, a_38, m_J h hi, c2, c3, decide_false, nI_1, kb_s, kb_i_f, Nat.add_zero, Int32.add_zero]
  have e := lp_n (fun i => ai_Run 173 4 [.ref 185, .int (nI (kb_s (fun k => kb_i (decide (0 < kb_J B k))) i)), .int (nI i)] [] (wl w)) 7 step
  have c2 : ¬ nI 7 < 7 := by decide
  simp only [e_173, o_185, r_173_0, r_173_1, r_173_2, r_173_3, r_173_5, r_173_7, r_173_10, r_173_11, r_173_12, r_173_15, r_173_17, r_173_18, r_173_19, r_173_20, r_173_23, r_173_24, r_173_27, r_173_28, r_173_29, r_173_30, r_173_33, r_173_36, r_173_37, Option.bind_some, Option.bind_none, Option.toList_some, Option.toList_none, List.cons_append, List.nil_append, Option.map_some, Option.map_none, eq_self, if_true, if_false, reduceIte, ai_bi_eq0, ai_bi_eq1, ai_pb_bi, ai_pb_0, ai_pb_1]
  refine e.trans ?_
  rw [r_173_4]
  simp only [r_173_0, r_173_1, r_173_2, r_173_3, r_173_5, r_173_7, r_173_10, r_173_11, r_173_12, r_173_15, r_173_17, r_173_18, r_173_19, r_173_20, r_173_23, r_173_24, r_173_27, r_173_28, r_173_29, r_173_30, r_173_33, r_173_36, r_173_37, Option.bind_some, Option.bind_none, Option.toList_some, Option.toList_none, List.cons_append, List.nil_append, Option.map_some, Option.map_none, eq_self, if_true, if_false, reduceIte, ai_bi_eq0, ai_bi_eq1, ai_pb_bi, ai_pb_0, ai_pb_1, c2]
  rfl
theorem m_swornMany (h : kb_m (xm_s w) B) (hk : kb_ok B) : ai_Call 175 [.ref 185] (wl w) = some (some (.int (nI (kb_s (kb_S B) (kb_a B)))), wl w) := by
  have ha := hk.2.1
  have step : ∀ i, i < kb_a B → ai_Run 175 4 [.ref 185, .int (nI (kb_s (kb_S B) i)), .int (nI i)] [] (wl w) = ai_Run 175 4 [.ref 185, .int (nI (kb_s (kb_S B) (i + 1))), .int (nI (i + 1))] [] (wl w) := by
    intro i hi
    have c1 : nI i < nI (kb_a B) := nI_lt hi (by omega)
    rw [r_175_4]
    simp only [r_175_0, r_175_1, r_175_2, r_175_3, r_175_5, r_175_6, r_175_9, r_175_10, r_175_11, r_175_14, r_175_15, r_175_16, r_175_19, r_175_21, r_175_22, r_175_23, r_175_24, r_175_25, r_175_26, r_175_29, r_175_32, r_175_33, Option.bind_some, Option.bind_none, Option.toList_some, Option.toList_none, List.cons_append, List.nil_append, Option.map_some, Option.map_none, eq_self, if_true, if_false, reduceIte, ai_bi_eq0, ai_bi_eq1, ai_pb_bi, ai_pb_0, ai_pb_1, f_185_0, mg_1, h.2.1, c1, a_34, m_S h (show i < 4 by omega), nI_add, nI_1, kb_s]
  have e := lp_n (fun i => ai_Run 175 4 [.ref 185, .int (nI (kb_s (kb_S B) i)), .int (nI i)] [] (wl w)) _ step
  have c2 : ¬ nI (kb_a B) < nI (kb_a B) := nI_nlt (Nat.le_refl _) (by omega)
  simp only [e_175, o_185, r_175_0, r_175_1, r_175_2, r_175_3, r_175_5, r_175_6, r_175_9, r_175_10, r_175_11, r_175_14, r_175_15, r_175_16, r_175_19, r_175_21, r_175_22, r_175_23, r_175_24, r_175_25, r_175_26, r_175_29, r_175_32, r_175_33, Option.bind_some, Option.bind_none, Option.toList_some, Option.toList_none, List.cons_append, List.nil_append, Option.map_some, Option.map_none, eq_self, if_true, if_false, reduceIte, ai_bi_eq0, ai_bi_eq1, ai_pb_bi, ai_pb_0, ai_pb_1]
  refine e.trans ?_
  rw [r_175_4]
  simp only [r_175_0, r_175_1, r_175_2, r_175_3, r_175_5, r_175_6, r_175_9, r_175_10, r_175_11, r_175_14, r_175_15, r_175_16, r_175_19, r_175_21, r_175_22, r_175_23, r_175_24, r_175_25, r_175_26, r_175_29, r_175_32, r_175_33, Option.bind_some, Option.bind_none, Option.toList_some, Option.toList_none, List.cons_append, List.nil_append, Option.map_some, Option.map_none, eq_self, if_true, if_false, reduceIte, ai_bi_eq0, ai_bi_eq1, ai_pb_bi, ai_pb_0, ai_pb_1, f_185_0, mg_1, h.2.1, c2]
theorem m_could (h : kb_m (xm_s w) B) (hk : kb_ok B) {c o d : Nat} (hc : c < 8) (ho : o < 8) (hd : d < kb_d B o) : ai_Call 196 [.ref 185, .int (nI c), .int (nI o), .int (nI d)] (wl w) = some (some (.int (ai_bi (kb_could B c o d))), wl w) := by
  have hm := hk.2.2.2.2.2.2.2.2.1 c o
  have he := hk.2.2.2.2.1 o (2 * d) (by unfold kb_d at hd; omega)
  obtain ⟨e, he2⟩ : ∃ e, kb_E B o (2 * d) = e + 1 := ⟨kb_E B o (2 * d) - 1, by omega⟩
  have hdc := m_chapterOf h hk ho hd
  rw [he2] at hdc
  unfold kb_could
  rw [he2, Nat.add_sub_cancel]
  by_cases c1 : 0 < kb_M B c o
  · have c2 : 0 < nI (kb_M B c o) := nI_lt c1 (by omega)
    by_cases c3 : kb_dead B c e = true
    · simp only [e_196, o_185, r_196_0, r_196_1, r_196_2, r_196_3, r_196_6, r_196_9, r_196_10, r_196_11, r_196_12, r_196_13, r_196_14, r_196_17, r_196_18, r_196_19, r_196_22, r_196_25, r_196_26, r_196_29, r_196_30, Option.bind_some, Option.bind_none, Option.toList_some, Option.toList_none, List.cons_append, List.nil_append, Option.map_some, Option.map_none, eq_self, if_true, if_false, reduceIte, ai_bi_eq0, ai_bi_eq1, ai_pb_bi, ai_pb_0, ai_pb_1, m_pagesOf h hc ho, c1, c2, hdc, s_1, m_isDeadIn h hk hc (show e ≤ 30 by omega), c3, Bool.true_eq_false, Bool.not_true, Bool.and_false]
      rfl
    · have c3' : kb_dead B c e = false := by simpa using c3
      simp only [e_196, o_185, r_196_0, r_196_1, r_196_2, r_196_3, r_196_6, r_196_9, r_196_10, r_196_11, r_196_12, r_196_13, r_196_14, r_196_17, r_196_18, r_196_19, r_196_22, r_196_25, r_196_26, r_196_29, r_196_30, Option.bind_some, Option.bind_none, Option.toList_some, Option.toList_none, List.cons_append, List.nil_append, Option.map_some, Option.map_none, eq_self, if_true, if_false, reduceIte, ai_bi_eq0, ai_bi_eq1, ai_pb_bi, ai_pb_0, ai_pb_1, m_pagesOf h hc ho, c1, c2, hdc, s_1, m_isDeadIn h hk hc (show e ≤ 30 by omega), c3', Bool.not_false, decide_true, Bool.and_true]
      rfl
  · have c2 : ¬ 0 < nI (kb_M B c o) := nI_nlt (b := kb_M B c o) (a := 0) (by omega) (by omega)
    simp only [e_196, o_185, r_196_0, r_196_1, r_196_2, r_196_3, r_196_6, r_196_9, r_196_10, r_196_11, r_196_12, r_196_13, r_196_14, r_196_17, r_196_18, r_196_19, r_196_22, r_196_25, r_196_26, r_196_29, r_196_30, Option.bind_some, Option.bind_none, Option.toList_some, Option.toList_none, List.cons_append, List.nil_append, Option.map_some, Option.map_none, eq_self, if_true, if_false, reduceIte, ai_bi_eq0, ai_bi_eq1, ai_pb_bi, ai_pb_0, ai_pb_1, m_pagesOf h hc ho, c1, c2, decide_false, Bool.false_and]
    rfl
/-- the reference's weight: asked only of one who could have caused the death -/
theorem m_weight (h : kb_m (xm_s w) B) (hk : kb_ok B) {c o d : Nat} (hc : c < 8) (ho : o < 8) (hd : d < kb_d B o) : ai_Call 226 [.ref 185, .int (nI c), .int (nI o), .int (nI d)] (wl w) = some (some (.int (nI (kb_M B c o + (if kb_by B (kb_E B o (2 * d)) = true then 2 else 0)))), wl w) := by
  have ha := hk.2.1
  have he := hk.2.2.2.2.1 o (2 * d) (by unfold kb_d at hd; omega)
  rcases hk.2.2.2.2.2.2.1 (kb_E B o (2 * d)) with hw | ⟨i, hi, hw⟩
  · have e2 : kb_by B (kb_E B o (2 * d)) = false := by
      unfold kb_by
      rw [decide_eq_false_iff_not]
      rintro ⟨i, h1, h2, -⟩
      have : (-4 : Int32) < 0 := by decide
      rw [← hw, h2] at this
      exact nI_pos (by omega) this
    simp only [e_226, o_185, r_226_0, r_226_1, r_226_4, r_226_5, r_226_6, r_226_7, r_226_8, r_226_11, r_226_12, r_226_13, r_226_15, r_226_16, r_226_17, r_226_18, r_226_21, r_226_23, r_226_25, r_226_28, r_226_29, r_226_32, r_226_34, r_226_36, r_226_37, r_226_38, r_226_39, r_226_42, r_226_43, r_226_46, r_226_47, r_226_48, Option.bind_some, Option.bind_none, Option.toList_some, Option.toList_none, List.cons_append, List.nil_append, Option.map_some, Option.map_none, eq_self, if_true, if_false, reduceIte, ai_bi_eq0, ai_bi_eq1, ai_pb_bi, ai_pb_0, ai_pb_1, f_185_0, m_chapterOf h hk ho hd, a_3, m_W h he.2, hw, m_pagesOf h hc ho, e2, Bool.false_eq_true, Int32.add_zero, Nat.add_zero]
  · have c1 : ¬ nI i = (-4) := fun z => by
      have : (-4 : Int32) < 0 := by decide
      rw [← z] at this
      exact nI_pos (by omega) this
    have hs := hk.2.2.2.2.2.2.2.1 i
    have e3 : nI (kb_S B i) = 1 ↔ kb_S B i = 1 := by rw [n_1]; exact nI_eq (by omega) (by decide)
    have e2 : kb_by B (kb_E B o (2 * d)) = decide (kb_S B i = 1) := by
      unfold kb_by
      rw [decide_eq_decide, hw]
      constructor
      · rintro ⟨j, h1, h2, h3⟩
        rw [(nI_eq (by omega) (by omega)).mp h2]
        exact h3
      · intro h3
        exact ⟨i, hi, rfl, h3⟩
    by_cases c2 : kb_S B i = 1
    · simp only [e_226, o_185, r_226_0, r_226_1, r_226_4, r_226_5, r_226_6, r_226_7, r_226_8, r_226_11, r_226_12, r_226_13, r_226_15, r_226_16, r_226_17, r_226_18, r_226_21, r_226_23, r_226_25, r_226_28, r_226_29, r_226_32, r_226_34, r_226_36, r_226_37, r_226_38, r_226_39, r_226_42, r_226_43, r_226_46, r_226_47, r_226_48, Option.bind_some, Option.bind_none, Option.toList_some, Option.toList_none, List.cons_append, List.nil_append, Option.map_some, Option.map_none, eq_self, if_true, if_false, reduceIte, ai_bi_eq0, ai_bi_eq1, ai_pb_bi, ai_pb_0, ai_pb_1, f_185_0, m_chapterOf h hk ho hd, a_3, m_W h he.2, hw, m_pagesOf h hc ho, e2, c1, a_34, m_S h (show i < 4 by omega), e3, c2, decide_true, n_2, nI_add, show nI 1 = 1 from rfl]
    · simp only [e_226, o_185, r_226_0, r_226_1, r_226_4, r_226_5, r_226_6, r_226_7, r_226_8, r_226_11, r_226_12, r_226_13, r_226_15, r_226_16, r_226_17, r_226_18, r_226_21, r_226_23, r_226_25, r_226_28, r_226_29, r_226_32, r_226_34, r_226_36, r_226_37, r_226_38, r_226_39, r_226_42, r_226_43, r_226_46, r_226_47, r_226_48, Option.bind_some, Option.bind_none, Option.toList_some, Option.toList_none, List.cons_append, List.nil_append, Option.map_some, Option.map_none, eq_self, if_true, if_false, reduceIte, ai_bi_eq0, ai_bi_eq1, ai_pb_bi, ai_pb_0, ai_pb_1, f_185_0, m_chapterOf h hk ho hd, a_3, m_W h he.2, hw, m_pagesOf h hc ho, e2, c1, a_34, m_S h (show i < 4 by omega), e3, c2, decide_false, Bool.false_eq_true, Int32.add_zero, Nat.add_zero]
end MB
