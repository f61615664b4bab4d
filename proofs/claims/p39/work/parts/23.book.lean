/-! The book as a value, told by the class's cells and by the reference's. -/
abbrev kb_B : Type := (Nat × Nat × Int32) × (Nat → Nat) × (Nat → Nat → Nat) × (Nat → Nat → Int32) × (Nat → Int32) × (Nat → Nat) × (Nat → Nat → Nat) × (Nat → Nat)
/-- characters, authors, trials; turns, chapters of turns, culprits, writers, sworn, motives, severities -/
abbrev kb_n (B : kb_B) : Nat := B.1.1
abbrev kb_a (B : kb_B) : Nat := B.1.2.1
abbrev kb_t (B : kb_B) : Int32 := B.1.2.2
abbrev kb_T (B : kb_B) : Nat → Nat := B.2.1
abbrev kb_E (B : kb_B) : Nat → Nat → Nat := B.2.2.1
abbrev kb_C (B : kb_B) : Nat → Nat → Int32 := B.2.2.2.1
abbrev kb_W (B : kb_B) : Nat → Int32 := B.2.2.2.2.1
abbrev kb_S (B : kb_B) : Nat → Nat := B.2.2.2.2.2.1
abbrev kb_M (B : kb_B) : Nat → Nat → Nat := B.2.2.2.2.2.2.1
abbrev kb_J (B : kb_B) : Nat → Nat := B.2.2.2.2.2.2.2
def kb_ok (B : kb_B) : Prop := kb_n B ≤ 8 ∧ kb_a B ≤ 4 ∧ (∀ c, kb_T B c ≤ 6) ∧ (∀ c, kb_n B ≤ c → kb_T B c = 0) ∧ (∀ c k, k < kb_T B c → 1 ≤ kb_E B c k ∧ kb_E B c k ≤ 30) ∧ (∀ c k, k + 1 < kb_T B c → kb_E B c k < kb_E B c (k + 1)) ∧ (∀ h, kb_W B h = (-4) ∨ ∃ i, i < kb_a B ∧ kb_W B h = nI i) ∧ (∀ i, kb_S B i ≤ 1) ∧ (∀ c o, kb_M B c o ≤ 9) ∧ (∀ k, kb_J B k ≤ 9) ∧ (∀ c d, kb_C B c d = (-4) ∨ ∃ i, i < kb_n B ∧ kb_C B c d = nI i) ∧ (∀ c d, kb_T B c ≤ 2 * d → kb_C B c d = (-4))
/-- the class's book is B -/
def kb_x (b : xb_B) (B : kb_B) : Prop := xb_n b = nI (kb_n B) ∧ xb_a b = nI (kb_a B) ∧ xb_t b = kb_t B ∧ (∀ c, c < 8 → xb_tu b c = nI (kb_T B c)) ∧ (∀ c k, c < 8 → k < kb_T B c → xb_ch b (c * 6 + k) = nI (kb_E B c k)) ∧ (∀ c d, c < 8 → d < 3 → xb_cu b (c * 3 + d) = kb_C B c d) ∧ (∀ h, h ≤ 30 → xb_wr b h = kb_W B h) ∧ (∀ i, i < 4 → xb_sw b i = nI (kb_S B i)) ∧ (∀ c o, c < 8 → o < 8 → xb_mo b (c * 8 + o) = nI (kb_M B c o)) ∧ (∀ k, k < 7 → xb_se b k = nI (kb_J B k))
def kb_d (B : kb_B) (c : Nat) : Nat := (kb_T B c + 1) / 2
theorem kb_d3 {B : kb_B} (h : kb_ok B) (c : Nat) : kb_d B c ≤ 3 := by
  have := h.2.2.1 c
  unfold kb_d
  omega
theorem ai_rgn {n j : Nat} {f : Nat → Int32} (h : j < n) (hn : n < 2 ^ 31) : ai_rg n f (nI j) = f j := by
  unfold ai_rg
  rw [if_neg (nI_pos (by omega)), nI_clamp (by omega), if_pos h]
/-- a number of a row of n: a place below n, or none -/
def ai_is (n : Nat) (x : Int32) : Bool := decide (¬ x < 0 ∧ x < nI n)
theorem ai_is_of {n : Nat} {x : Int32} (hn : n < 2 ^ 31) (h : ai_is n x = true) : ∃ j, j < n ∧ x = nI j := by
  unfold ai_is at h
  rw [decide_eq_true_eq] at h
  obtain ⟨j, hj, rfl⟩ := nI_of h.1
  exact ⟨j, (nI_ltI hj hn).mp h.2, rfl⟩
theorem ai_is_nI {n j : Nat} (hj : j < n) (hn : n < 2 ^ 31) : ai_is n (nI j) = true := decide_eq_true ⟨nI_pos (by omega), nI_lt hj hn⟩
theorem n_1 : (1 : Int32) = nI 1 := rfl
theorem n_2 : (2 : Int32) = nI 2 := rfl
theorem n_3 : (3 : Int32) = nI 3 := rfl
theorem n_6 : (6 : Int32) = nI 6 := rfl
theorem n_8 : (8 : Int32) = nI 8 := rfl
theorem n_10 : (10 : Int32) = nI 10 := rfl
theorem pk_div2 {a : Nat} (h : a < 2 ^ 31) : nI a / 2 = nI (a / 2) := pk_div (d := 2) h (by decide) (by decide)
theorem pk_rem2 {a : Nat} (h : a < 2 ^ 31) : nI a - nI a / 2 * 2 = nI (a % 2) := pk_rem (d := 2) h (by decide) (by decide)
theorem x_isChapter (x : Int32) (ws : ai_W) : ai_Call 63 [.int x] ws = some (some (.int (ai_bi (decide (¬ x < 1 ∧ ¬ 30 < x)))), ws) := by
  by_cases c1 : x < 1
  · simp only [e_63, r_63_0, r_63_1, r_63_2, r_63_5, r_63_6, r_63_8, r_63_11, r_63_12, r_63_15, r_63_16, Option.bind_some, Option.bind_none, Option.toList_some, Option.toList_none, List.cons_append, List.nil_append, Option.map_some, Option.map_none, eq_self, if_true, if_false, reduceIte, ai_bi_eq0, ai_bi_eq1, ai_pb_bi, ai_pb_0, ai_pb_1, c1, not_true, false_and, decide_false]
    rfl
  · by_cases c2 : 30 < x
    · simp only [e_63, r_63_0, r_63_1, r_63_2, r_63_5, r_63_6, r_63_8, r_63_11, r_63_12, r_63_15, r_63_16, Option.bind_some, Option.bind_none, Option.toList_some, Option.toList_none, List.cons_append, List.nil_append, Option.map_some, Option.map_none, eq_self, if_true, if_false, reduceIte, ai_bi_eq0, ai_bi_eq1, ai_pb_bi, ai_pb_0, ai_pb_1, c1, c2, not_true, and_false, decide_false]
      rfl
    · simp only [e_63, r_63_0, r_63_1, r_63_2, r_63_5, r_63_6, r_63_8, r_63_11, r_63_12, r_63_15, r_63_16, Option.bind_some, Option.bind_none, Option.toList_some, Option.toList_none, List.cons_append, List.nil_append, Option.map_some, Option.map_none, eq_self, if_true, if_false, reduceIte, ai_bi_eq0, ai_bi_eq1, ai_pb_bi, ai_pb_0, ai_pb_1, c1, c2, not_false_eq_true, and_self, decide_true]
      rfl
section XB
variable {w : xw_W} {B : kb_B}
theorem x_isCharacter (h : kb_x (xw_b w) B) (x : Int32) : ai_Call 62 [.ref 1, .int x] (wl w) = some (some (.int (ai_bi (ai_is (kb_n B) x))), wl w) := by
  unfold ai_is
  by_cases c1 : x < 0
  · simp only [e_62, o_1, r_62_0, r_62_1, r_62_4, r_62_5, r_62_6, r_62_9, r_62_12, r_62_13, r_62_16, r_62_17, Option.bind_some, Option.bind_none, Option.toList_some, Option.toList_none, List.cons_append, List.nil_append, Option.map_some, Option.map_none, eq_self, if_true, if_false, reduceIte, ai_bi_eq0, ai_bi_eq1, ai_pb_bi, ai_pb_0, ai_pb_1, c1, f_1_0, not_true, false_and, decide_false]
    rfl
  · by_cases c2 : x < nI (kb_n B)
    · simp only [e_62, o_1, r_62_0, r_62_1, r_62_4, r_62_5, r_62_6, r_62_9, r_62_12, r_62_13, r_62_16, r_62_17, Option.bind_some, Option.bind_none, Option.toList_some, Option.toList_none, List.cons_append, List.nil_append, Option.map_some, Option.map_none, eq_self, if_true, if_false, reduceIte, ai_bi_eq0, ai_bi_eq1, ai_pb_bi, ai_pb_0, ai_pb_1, c1, c2, f_1_0, h.1, not_false_eq_true, and_self, decide_true]
      rfl
    · simp only [e_62, o_1, r_62_0, r_62_1, r_62_4, r_62_5, r_62_6, r_62_9, r_62_12, r_62_13, r_62_16, r_62_17, Option.bind_some, Option.bind_none, Option.toList_some, Option.toList_none, List.cons_append, List.nil_append, Option.map_some, Option.map_none, eq_self, if_true, if_false, reduceIte, ai_bi_eq0, ai_bi_eq1, ai_pb_bi, ai_pb_0, ai_pb_1, c1, c2, f_1_0, h.1, and_false, decide_false]
      rfl
theorem x_isAuthor (h : kb_x (xw_b w) B) (x : Int32) : ai_Call 35 [.ref 1, .int x] (wl w) = some (some (.int (ai_bi (ai_is (kb_a B) x))), wl w) := by
  unfold ai_is
  by_cases c1 : x < 0
  · simp only [e_35, o_1, r_35_0, r_35_1, r_35_4, r_35_5, r_35_6, r_35_9, r_35_12, r_35_13, r_35_16, r_35_17, Option.bind_some, Option.bind_none, Option.toList_some, Option.toList_none, List.cons_append, List.nil_append, Option.map_some, Option.map_none, eq_self, if_true, if_false, reduceIte, ai_bi_eq0, ai_bi_eq1, ai_pb_bi, ai_pb_0, ai_pb_1, c1, f_1_1, not_true, false_and, decide_false]
    rfl
  · by_cases c2 : x < nI (kb_a B)
    · simp only [e_35, o_1, r_35_0, r_35_1, r_35_4, r_35_5, r_35_6, r_35_9, r_35_12, r_35_13, r_35_16, r_35_17, Option.bind_some, Option.bind_none, Option.toList_some, Option.toList_none, List.cons_append, List.nil_append, Option.map_some, Option.map_none, eq_self, if_true, if_false, reduceIte, ai_bi_eq0, ai_bi_eq1, ai_pb_bi, ai_pb_0, ai_pb_1, c1, c2, f_1_1, h.2.1, not_false_eq_true, and_self, decide_true]
      rfl
    · simp only [e_35, o_1, r_35_0, r_35_1, r_35_4, r_35_5, r_35_6, r_35_9, r_35_12, r_35_13, r_35_16, r_35_17, Option.bind_some, Option.bind_none, Option.toList_some, Option.toList_none, List.cons_append, List.nil_append, Option.map_some, Option.map_none, eq_self, if_true, if_false, reduceIte, ai_bi_eq0, ai_bi_eq1, ai_pb_bi, ai_pb_0, ai_pb_1, c1, c2, f_1_1, h.2.1, and_false, decide_false]
      rfl
theorem x_turns (h : kb_x (xw_b w) B) {c : Nat} (hc : c < 8) : ai_Call 12 [.ref 2, .int (nI c)] (wl w) = some (some (.int (nI (kb_T B c))), wl w) := by
  rw [x_get_tu, ai_rgn hc (by decide), h.2.2.2.1 c hc]
theorem x_deaths (h : kb_x (xw_b w) B) (hk : kb_ok B) {c : Nat} (hc : c < 8) : ai_Call 13 [.ref 1, .int (nI c)] (wl w) = some (some (.int (nI (kb_d B c))), wl w) := by
  have h6 := hk.2.2.1 c
  simp only [e_13, o_1, r_13_0, r_13_1, r_13_4, r_13_5, r_13_8, r_13_9, r_13_10, r_13_11, r_13_12, Option.bind_some, Option.bind_none, Option.toList_some, Option.toList_none, List.cons_append, List.nil_append, Option.map_some, Option.map_none, eq_self, if_true, if_false, reduceIte, ai_bi_eq0, ai_bi_eq1, ai_pb_bi, ai_pb_0, ai_pb_1, f_1_3, x_turns h hc]
  rw [nI_1, pk_div2 (by omega)]
  rfl
theorem x_risings (h : kb_x (xw_b w) B) (hk : kb_ok B) {c : Nat} (hc : c < 8) : ai_Call 15 [.ref 1, .int (nI c)] (wl w) = some (some (.int (nI (kb_T B c / 2))), wl w) := by
  have h6 := hk.2.2.1 c
  simp only [e_15, o_1, r_15_0, r_15_1, r_15_4, r_15_5, r_15_8, r_15_9, r_15_10, Option.bind_some, Option.bind_none, Option.toList_some, Option.toList_none, List.cons_append, List.nil_append, Option.map_some, Option.map_none, eq_self, if_true, if_false, reduceIte, ai_bi_eq0, ai_bi_eq1, ai_pb_bi, ai_pb_0, ai_pb_1, f_1_3, x_turns h hc]
  rw [pk_div2 (by omega)]
theorem x_isDeadAtLast (h : kb_x (xw_b w) B) (hk : kb_ok B) {c : Nat} (hc : c < 8) : ai_Call 64 [.ref 1, .int (nI c)] (wl w) = some (some (.int (ai_bi (decide (kb_T B c % 2 = 1)))), wl w) := by
  have h6 := hk.2.2.1 c
  have e : (nI (kb_T B c % 2) = 1) ↔ kb_T B c % 2 = 1 := by
    rw [n_1]
    exact nI_eq (by omega) (by decide)
  simp only [e_64, o_1, r_64_0, r_64_1, r_64_4, r_64_5, r_64_8, r_64_9, r_64_10, r_64_11, r_64_14, r_64_15, r_64_18, r_64_19, Option.bind_some, Option.bind_none, Option.toList_some, Option.toList_none, List.cons_append, List.nil_append, Option.map_some, Option.map_none, eq_self, if_true, if_false, reduceIte, ai_bi_eq0, ai_bi_eq1, ai_pb_bi, ai_pb_0, ai_pb_1, f_1_3, x_turns h hc, pk_rem2 (show kb_T B c < 2 ^ 31 by omega), e]
  by_cases q : kb_T B c % 2 = 1
  · simp only [q, decide_true, Option.bind_some, Option.bind_none, Option.toList_some, Option.toList_none, List.cons_append, List.nil_append, Option.map_some, Option.map_none, eq_self, if_true, if_false, reduceIte, ai_bi_eq0, ai_bi_eq1, ai_pb_bi, ai_pb_0, ai_pb_1]
    rfl
  · simp only [q, decide_false, Option.bind_some, Option.bind_none, Option.toList_some, Option.toList_none, List.cons_append, List.nil_append, Option.map_some, Option.map_none, eq_self, if_true, if_false, reduceIte, ai_bi_eq0, ai_bi_eq1, ai_pb_bi, ai_pb_0, ai_pb_1]
    rfl
theorem x_isDeath (h : kb_x (xw_b w) B) (hk : kb_ok B) {c : Nat} (hc : c < 8) (x : Int32) : ai_Call 82 [.ref 1, .int (nI c), .int x] (wl w) = some (some (.int (ai_bi (ai_is (kb_d B c) x))), wl w) := by
  unfold ai_is
  by_cases c1 : x < 0
  · simp only [e_82, o_1, r_82_0, r_82_1, r_82_4, r_82_5, r_82_6, r_82_7, r_82_10, r_82_13, r_82_14, r_82_17, r_82_18, Option.bind_some, Option.bind_none, Option.toList_some, Option.toList_none, List.cons_append, List.nil_append, Option.map_some, Option.map_none, eq_self, if_true, if_false, reduceIte, ai_bi_eq0, ai_bi_eq1, ai_pb_bi, ai_pb_0, ai_pb_1, c1, x_deaths h hk hc, not_true, false_and, decide_false]
    rfl
  · by_cases c2 : x < nI (kb_d B c)
    · simp only [e_82, o_1, r_82_0, r_82_1, r_82_4, r_82_5, r_82_6, r_82_7, r_82_10, r_82_13, r_82_14, r_82_17, r_82_18, Option.bind_some, Option.bind_none, Option.toList_some, Option.toList_none, List.cons_append, List.nil_append, Option.map_some, Option.map_none, eq_self, if_true, if_false, reduceIte, ai_bi_eq0, ai_bi_eq1, ai_pb_bi, ai_pb_0, ai_pb_1, c1, c2, x_deaths h hk hc, not_false_eq_true, and_self, decide_true]
      rfl
    · simp only [e_82, o_1, r_82_0, r_82_1, r_82_4, r_82_5, r_82_6, r_82_7, r_82_10, r_82_13, r_82_14, r_82_17, r_82_18, Option.bind_some, Option.bind_none, Option.toList_some, Option.toList_none, List.cons_append, List.nil_append, Option.map_some, Option.map_none, eq_self, if_true, if_false, reduceIte, ai_bi_eq0, ai_bi_eq1, ai_pb_bi, ai_pb_0, ai_pb_1, c1, c2, x_deaths h hk hc, and_false, decide_false]
      rfl
theorem x_turnChapter (h : kb_x (xw_b w) B) (hk : kb_ok B) {c k : Nat} (hc : c < 8) (hk2 : k < kb_T B c) : ai_Call 33 [.ref 1, .int (nI c), .int (nI k)] (wl w) = some (some (.int (nI (kb_E B c k))), wl w) := by
  have h6 := hk.2.2.1 c
  simp only [e_33, o_1, r_33_0, r_33_1, r_33_4, r_33_5, r_33_7, r_33_8, r_33_9, r_33_10, r_33_13, Option.bind_some, Option.bind_none, Option.toList_some, Option.toList_none, List.cons_append, List.nil_append, Option.map_some, Option.map_none, eq_self, if_true, if_false, reduceIte, ai_bi_eq0, ai_bi_eq1, ai_pb_bi, ai_pb_0, ai_pb_1, f_1_4, n_6, pk_mul, nI_add, x_get_ch]
  rw [ai_rgn (by omega) (by decide), h.2.2.2.2.1 c k hc hk2]
theorem x_deathChapter (h : kb_x (xw_b w) B) (hk : kb_ok B) {c d : Nat} (hc : c < 8) (hd : d < kb_d B c) : ai_Call 53 [.ref 1, .int (nI c), .int (nI d)] (wl w) = some (some (.int (nI (kb_E B c (2 * d)))), wl w) := by
  have h6 := hk.2.2.1 c
  unfold kb_d at hd
  simp only [e_53, o_1, r_53_0, r_53_1, r_53_4, r_53_5, r_53_7, r_53_8, r_53_9, r_53_10, r_53_11, r_53_12, r_53_15, Option.bind_some, Option.bind_none, Option.toList_some, Option.toList_none, List.cons_append, List.nil_append, Option.map_some, Option.map_none, eq_self, if_true, if_false, reduceIte, ai_bi_eq0, ai_bi_eq1, ai_pb_bi, ai_pb_0, ai_pb_1, f_1_4, n_6, n_2, pk_mul, nI_add, x_get_ch]
  rw [ai_rgn (by omega) (by decide), h.2.2.2.2.1 c (2 * d) hc (by omega)]
theorem x_lastChapter (h : kb_x (xw_b w) B) (hk : kb_ok B) {c : Nat} (hc : c < 8) : ai_Call 65 [.ref 1, .int (nI c)] (wl w) = some (some (.int (nI (if kb_T B c = 0 then 0 else kb_E B c (kb_T B c - 1)))), wl w) := by
  have h6 := hk.2.2.1 c
  by_cases q : kb_T B c = 0
  · have e : nI 0 - 1 < 0 := by decide
    simp only [e_65, o_1, r_65_0, r_65_1, r_65_4, r_65_5, r_65_8, r_65_9, r_65_10, r_65_11, r_65_12, r_65_15, r_65_16, r_65_17, r_65_18, r_65_21, r_65_24, r_65_25, Option.bind_some, Option.bind_none, Option.toList_some, Option.toList_none, List.cons_append, List.nil_append, Option.map_some, Option.map_none, eq_self, if_true, if_false, reduceIte, ai_bi_eq0, ai_bi_eq1, ai_pb_bi, ai_pb_0, ai_pb_1, f_1_3, x_turns h hc, q, e]
    rfl
  · obtain ⟨k, hk2⟩ : ∃ k, kb_T B c = k + 1 := ⟨kb_T B c - 1, by omega⟩
    have e : ¬ nI k < 0 := nI_pos (by omega)
    have hx := x_turnChapter h hk hc (k := k) (by omega)
    simp only [e_65, o_1, r_65_0, r_65_1, r_65_4, r_65_5, r_65_8, r_65_9, r_65_10, r_65_11, r_65_12, r_65_15, r_65_16, r_65_17, r_65_18, r_65_21, r_65_24, r_65_25, Option.bind_some, Option.bind_none, Option.toList_some, Option.toList_none, List.cons_append, List.nil_append, Option.map_some, Option.map_none, eq_self, if_true, if_false, reduceIte, ai_bi_eq0, ai_bi_eq1, ai_pb_bi, ai_pb_0, ai_pb_1, f_1_3, x_turns h hc, hk2, nI_pred, e, hx, Nat.add_eq_zero_iff, Nat.one_ne_zero, and_false, Nat.add_sub_cancel]
theorem x_nextRising (h : kb_x (xw_b w) B) (hk : kb_ok B) {c d : Nat} (hc : c < 8) (hd : d < kb_d B c) : ai_Call 93 [.ref 1, .int (nI c), .int (nI d)] (wl w) = some (some (.int (if 2 * d + 1 < kb_T B c then nI (kb_E B c (2 * d + 1)) else (-4))), wl w) := by
  have h6 := hk.2.2.1 c
  unfold kb_d at hd
  by_cases q : 2 * d + 1 < kb_T B c
  · have e : nI (2 * d + 1) < nI (kb_T B c) := nI_lt q (by omega)
    simp only [e_93, o_1, r_93_0, r_93_1, r_93_2, r_93_3, r_93_4, r_93_5, r_93_6, r_93_7, r_93_8, r_93_11, r_93_12, r_93_15, r_93_18, r_93_19, r_93_20, r_93_21, r_93_24, r_93_27, r_93_29, Option.bind_some, Option.bind_none, Option.toList_some, Option.toList_none, List.cons_append, List.nil_append, Option.map_some, Option.map_none, eq_self, if_true, if_false, reduceIte, ai_bi_eq0, ai_bi_eq1, ai_pb_bi, ai_pb_0, ai_pb_1, f_1_3, n_2, n_1, pk_mul, nI_add, x_turns h hc, e, x_turnChapter h hk hc q, q]
  · have e : ¬ nI (2 * d + 1) < nI (kb_T B c) := nI_nlt (by omega) (by omega)
    simp only [e_93, o_1, r_93_0, r_93_1, r_93_2, r_93_3, r_93_4, r_93_5, r_93_6, r_93_7, r_93_8, r_93_11, r_93_12, r_93_15, r_93_18, r_93_19, r_93_20, r_93_21, r_93_24, r_93_27, r_93_29, Option.bind_some, Option.bind_none, Option.toList_some, Option.toList_none, List.cons_append, List.nil_append, Option.map_some, Option.map_none, eq_self, if_true, if_false, reduceIte, ai_bi_eq0, ai_bi_eq1, ai_pb_bi, ai_pb_0, ai_pb_1, f_1_3, n_2, n_1, pk_mul, nI_add, x_turns h hc, e, q]
theorem x_culprit (h : kb_x (xw_b w) B) {c d : Nat} (hc : c < 8) (hd : d < 3) : ai_Call 17 [.ref 1, .int (nI c), .int (nI d)] (wl w) = some (some (.int (kb_C B c d)), wl w) := by
  simp only [e_17, o_1, r_17_0, r_17_1, r_17_4, r_17_5, r_17_6, r_17_7, r_17_8, r_17_9, r_17_12, Option.bind_some, Option.bind_none, Option.toList_some, Option.toList_none, List.cons_append, List.nil_append, Option.map_some, Option.map_none, eq_self, if_true, if_false, reduceIte, ai_bi_eq0, ai_bi_eq1, ai_pb_bi, ai_pb_0, ai_pb_1, f_1_5, n_3, pk_mul, nI_add, x_get_cu]
  rw [ai_rgn (by omega) (by decide), h.2.2.2.2.2.1 c d hc hd]
theorem x_isSolved (h : kb_x (xw_b w) B) {c d : Nat} (hc : c < 8) (hd : d < 3) : ai_Call 18 [.ref 1, .int (nI c), .int (nI d)] (wl w) = some (some (.int (ai_bi (decide (¬ kb_C B c d = (-4))))), wl w) := by
  by_cases q : kb_C B c d = (-4)
  · simp only [e_18, o_1, r_18_0, r_18_1, r_18_2, r_18_3, r_18_6, r_18_8, r_18_11, r_18_12, r_18_15, r_18_16, Option.bind_some, Option.bind_none, Option.toList_some, Option.toList_none, List.cons_append, List.nil_append, Option.map_some, Option.map_none, eq_self, if_true, if_false, reduceIte, ai_bi_eq0, ai_bi_eq1, ai_pb_bi, ai_pb_0, ai_pb_1, x_culprit h hc hd, q, not_true, decide_false]
    rfl
  · simp only [e_18, o_1, r_18_0, r_18_1, r_18_2, r_18_3, r_18_6, r_18_8, r_18_11, r_18_12, r_18_15, r_18_16, Option.bind_some, Option.bind_none, Option.toList_some, Option.toList_none, List.cons_append, List.nil_append, Option.map_some, Option.map_none, eq_self, if_true, if_false, reduceIte, ai_bi_eq0, ai_bi_eq1, ai_pb_bi, ai_pb_0, ai_pb_1, x_culprit h hc hd, q, not_false_eq_true, decide_true]
    rfl
theorem x_motivePages (h : kb_x (xw_b w) B) {c o : Nat} (hc : c < 8) (ho : o < 8) : ai_Call 76 [.ref 1, .int (nI c), .int (nI o)] (wl w) = some (some (.int (nI (kb_M B c o))), wl w) := by
  simp only [e_76, o_1, r_76_0, r_76_1, r_76_4, r_76_5, r_76_7, r_76_8, r_76_9, r_76_10, r_76_13, Option.bind_some, Option.bind_none, Option.toList_some, Option.toList_none, List.cons_append, List.nil_append, Option.map_some, Option.map_none, eq_self, if_true, if_false, reduceIte, ai_bi_eq0, ai_bi_eq1, ai_pb_bi, ai_pb_0, ai_pb_1, f_1_8, n_8, pk_mul, nI_add, x_get_mo]
  rw [ai_rgn (by omega) (by decide), h.2.2.2.2.2.2.2.2.1 c o hc ho]
end XB

