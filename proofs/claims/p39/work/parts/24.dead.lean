/-! Sums; the book's counts; who is dead when. -/
theorem lp_n {α : Sort _} (f : Nat → α) (n : Nat) (h : ∀ i, i < n → f i = f (i + 1)) : f 0 = f n := by
  induction n with
  | zero => rfl
  | succ n ih => exact (ih fun i hi => h i (by omega)).trans (h n (Nat.lt_succ_self n))
theorem lp_m {α : Sort _} (f : Nat → α) (a n : Nat) (han : a ≤ n) (h : ∀ i, a ≤ i → i < n → f i = f (i + 1)) : f a = f n := by
  have := lp_n (fun i => f (a + i)) (n - a) (fun i hi => h (a + i) (by omega) (by omega))
  simpa [Nat.add_sub_cancel' han] using this
def kb_s (f : Nat → Nat) : Nat → Nat
  | 0 => 0
  | n + 1 => kb_s f n + f n
theorem kb_s_le {f : Nat → Nat} {k : Nat} (hf : ∀ i, f i ≤ k) (n : Nat) : kb_s f n ≤ n * k := by
  induction n with
  | zero => simp [kb_s]
  | succ n ih =>
    have := hf n
    rw [kb_s, Nat.succ_mul]
    omega
theorem kb_s_congr {f g : Nat → Nat} {n : Nat} (h : ∀ i, i < n → f i = g i) : kb_s f n = kb_s g n := by
  induction n with
  | zero => rfl
  | succ n ih => rw [kb_s, kb_s, ih (fun i hi => h i (by omega)), h n (Nat.lt_succ_self n)]
def kb_i (c : Bool) : Nat := if c = true then 1 else 0
theorem kb_i_t : kb_i true = 1 := rfl
theorem kb_i_f : kb_i false = 0 := rfl
theorem kb_i_le (c : Bool) : kb_i c ≤ 1 := by cases c <;> decide
/-- how many turns of c lie up to chapter h -/
def kb_c (B : kb_B) (c h : Nat) : Nat := kb_s (fun k => kb_i (decide (kb_E B c k ≤ h))) (kb_T B c)
def kb_dead (B : kb_B) (c h : Nat) : Bool := decide (kb_c B c h % 2 = 1)
theorem kb_mono {B : kb_B} (hk : kb_ok B) {c i j : Nat} (hij : i < j) (hj : j < kb_T B c) : kb_E B c i < kb_E B c j := by
  obtain ⟨k, rfl⟩ := Nat.exists_eq_add_of_lt hij
  induction k with
  | zero => exact hk.2.2.2.2.2.1 c i hj
  | succ k ih => exact Nat.lt_trans (ih (by omega) (by omega)) (hk.2.2.2.2.2.1 c (i + k + 1) hj)
/-- turns up to a chapter come first -/
theorem kb_c_pre {B : kb_B} (hk : kb_ok B) (c h : Nat) : ∀ n, n ≤ kb_T B c → ∀ k, k < n → (kb_E B c k ≤ h ↔ k < kb_s (fun k => kb_i (decide (kb_E B c k ≤ h))) n) := by
  intro n
  induction n with
  | zero => intro _ k hk; omega
  | succ n ih =>
    intro hn k hkn
    have ih := ih (by omega)
    have hle : kb_s (fun k => kb_i (decide (kb_E B c k ≤ h))) n ≤ n := by
      have := kb_s_le (f := fun k => kb_i (decide (kb_E B c k ≤ h))) (k := 1) (fun i => kb_i_le _) n
      omega
    rw [kb_s]
    by_cases q : kb_E B c n ≤ h
    · have hall : ∀ k, k < n → kb_E B c k ≤ h := fun k hk2 => by
        have := kb_mono hk hk2 (show n < kb_T B c by omega)
        omega
      have e : kb_s (fun k => kb_i (decide (kb_E B c k ≤ h))) n = n := by
        rcases Nat.eq_zero_or_pos n with z | z
        · subst z; rfl
        · have := (ih (n - 1) (by omega)).mp (hall _ (by omega))
          omega
      rw [e]
      simp only [q, decide_true, kb_i_t]
      constructor
      · intro _; omega
      · intro _
        rcases Nat.lt_or_ge k n with z | z
        · exact hall k z
        · have : k = n := by omega
          subst this
          exact q
    · simp only [q, decide_false, kb_i_f, Nat.add_zero]
      rcases Nat.lt_or_ge k n with z | z
      · exact ih k z
      · have : k = n := by omega
        subst this
        constructor
        · intro y; exact absurd y q
        · intro y; omega
theorem kb_c_iff {B : kb_B} (hk : kb_ok B) {c h k : Nat} (hkT : k < kb_T B c) : kb_E B c k ≤ h ↔ k < kb_c B c h := kb_c_pre hk c h _ (Nat.le_refl _) k hkT
theorem kb_c_le {B : kb_B} (c h : Nat) : kb_c B c h ≤ kb_T B c := by
  have := kb_s_le (f := fun k => kb_i (decide (kb_E B c k ≤ h))) (k := 1) (fun i => kb_i_le _) (kb_T B c)
  unfold kb_c
  omega
theorem ai_nI0 : (0 : Int32) = nI 0 := rfl
section XB
variable {w : xw_W} {B : kb_B}
theorem x_swornAuthors (h : kb_x (xw_b w) B) (hk : kb_ok B) : ai_Call 25 [.ref 1] (wl w) = some (some (.int (nI (kb_s (kb_S B) (kb_a B)))), wl w) := by
  have ha := hk.2.1
  have step : ∀ i, i < kb_a B → ai_Run 25 4 [.ref 1, .int (nI (kb_s (kb_S B) i)), .int (nI i)] [] (wl w) = ai_Run 25 4 [.ref 1, .int (nI (kb_s (kb_S B) (i + 1))), .int (nI (i + 1))] [] (wl w) := by
    intro i hi
    have c1 : nI i < nI (kb_a B) := nI_lt hi (by omega)
    rw [r_25_4]
    simp only [r_25_0, r_25_1, r_25_2, r_25_3, r_25_5, r_25_6, r_25_9, r_25_12, r_25_13, r_25_14, r_25_17, r_25_18, r_25_21, r_25_22, r_25_23, r_25_26, r_25_29, r_25_30, Option.bind_some, Option.bind_none, Option.toList_some, Option.toList_none, List.cons_append, List.nil_append, Option.map_some, Option.map_none, eq_self, if_true, if_false, reduceIte, ai_bi_eq0, ai_bi_eq1, ai_pb_bi, ai_pb_0, ai_pb_1, f_1_1, f_1_7, h.2.1, c1, x_get_sw, ai_rgn (show i < 4 by omega) (show 4 < 2 ^ 31 by decide), h.2.2.2.2.2.2.2.1 i (by omega), nI_add, nI_1, kb_s]
  have e := lp_n (fun i => ai_Run 25 4 [.ref 1, .int (nI (kb_s (kb_S B) i)), .int (nI i)] [] (wl w)) _ step
  have c2 : ¬ nI (kb_a B) < nI (kb_a B) := nI_nlt (Nat.le_refl _) (by omega)
  simp only [e_25, o_1, r_25_0, r_25_1, r_25_2, r_25_3, r_25_5, r_25_6, r_25_9, r_25_12, r_25_13, r_25_14, r_25_17, r_25_18, r_25_21, r_25_22, r_25_23, r_25_26, r_25_29, r_25_30, Option.bind_some, Option.bind_none, Option.toList_some, Option.toList_none, List.cons_append, List.nil_append, Option.map_some, Option.map_none, eq_self, if_true, if_false, reduceIte, ai_bi_eq0, ai_bi_eq1, ai_pb_bi, ai_pb_0, ai_pb_1]
  refine e.trans ?_
  rw [r_25_4]
  simp only [r_25_0, r_25_1, r_25_2, r_25_3, r_25_5, r_25_6, r_25_9, r_25_12, r_25_13, r_25_14, r_25_17, r_25_18, r_25_21, r_25_22, r_25_23, r_25_26, r_25_29, r_25_30, Option.bind_some, Option.bind_none, Option.toList_some, Option.toList_none, List.cons_append, List.nil_append, Option.map_some, Option.map_none, eq_self, if_true, if_false, reduceIte, ai_bi_eq0, ai_bi_eq1, ai_pb_bi, ai_pb_0, ai_pb_1, f_1_1, h.2.1, c2]
theorem x_isBySworn (h : kb_x (xw_b w) B) (hk : kb_ok B) {q : Nat} (hq : q ≤ 30) : ai_Call 36 [.ref 1, .int (nI q)] (wl w) = some (some (.int (ai_bi (decide (∃ i, i < kb_a B ∧ kb_W B q = nI i ∧ kb_S B i = 1)))), wl w) := by
  have ha := hk.2.1
  have g1 : ai_Call 12 [.ref 8, .int (nI q)] (wl w) = some (some (.int (kb_W B q)), wl w) := by rw [x_get_wr, ai_rgn (by omega) (by decide), h.2.2.2.2.2.2.1 q hq]
  rcases hk.2.2.2.2.2.2.1 q with hw | ⟨i, hi, hw⟩
  · have e : ai_is (kb_a B) (-4) = false := by unfold ai_is; simp
    have e2 : decide (∃ i, i < kb_a B ∧ (-4 : Int32) = nI i ∧ kb_S B i = 1) = false := by
      rw [decide_eq_false_iff_not]
      rintro ⟨i, h1, h2, -⟩
      have : (-4 : Int32) < 0 := by decide
      rw [h2] at this
      exact nI_pos (by omega) this
    simp only [e_36, o_1, r_36_0, r_36_1, r_36_4, r_36_5, r_36_8, r_36_9, r_36_10, r_36_11, r_36_14, r_36_17, r_36_18, r_36_21, r_36_22, r_36_25, r_36_26, r_36_29, r_36_30, r_36_33, r_36_34, Option.bind_some, Option.bind_none, Option.toList_some, Option.toList_none, List.cons_append, List.nil_append, Option.map_some, Option.map_none, eq_self, if_true, if_false, reduceIte, ai_bi_eq0, ai_bi_eq1, ai_pb_bi, ai_pb_0, ai_pb_1, f_1_6, g1, hw, x_isAuthor h, e, e2]
    rfl
  · have e : ai_is (kb_a B) (nI i) = true := ai_is_nI hi (by omega)
    have g2 : ai_Call 12 [.ref 10, .int (nI i)] (wl w) = some (some (.int (nI (kb_S B i))), wl w) := by rw [x_get_sw, ai_rgn (by omega) (by decide), h.2.2.2.2.2.2.2.1 i (by omega)]
    have hs := hk.2.2.2.2.2.2.2.1 i
    have e3 : nI (kb_S B i) = 1 ↔ kb_S B i = 1 := by rw [n_1]; exact nI_eq (by omega) (by decide)
    have e2 : decide (∃ j, j < kb_a B ∧ nI i = nI j ∧ kb_S B j = 1) = decide (kb_S B i = 1) := by
      congr 1
      rw [eq_iff_iff]
      constructor
      · rintro ⟨j, h1, h2, h3⟩
        rw [(nI_eq (by omega) (by omega)).mp h2]
        exact h3
      · intro h3
        exact ⟨i, hi, rfl, h3⟩
    simp only [e_36, o_1, r_36_0, r_36_1, r_36_4, r_36_5, r_36_8, r_36_9, r_36_10, r_36_11, r_36_14, r_36_17, r_36_18, r_36_21, r_36_22, r_36_25, r_36_26, r_36_29, r_36_30, r_36_33, r_36_34, Option.bind_some, Option.bind_none, Option.toList_some, Option.toList_none, List.cons_append, List.nil_append, Option.map_some, Option.map_none, eq_self, if_true, if_false, reduceIte, ai_bi_eq0, ai_bi_eq1, ai_pb_bi, ai_pb_0, ai_pb_1, f_1_6, f_1_7, g1, hw, x_isAuthor h, e, e2, g2, e3]
    by_cases q9 : kb_S B i = 1
    · simp only [q9, decide_true, Option.bind_some, Option.bind_none, Option.toList_some, Option.toList_none, List.cons_append, List.nil_append, Option.map_some, Option.map_none, eq_self, if_true, if_false, reduceIte, ai_bi_eq0, ai_bi_eq1, ai_pb_bi, ai_pb_0, ai_pb_1, Bool.true_eq_false]
      rfl
    · simp only [q9, decide_false, Option.bind_some, Option.bind_none, Option.toList_some, Option.toList_none, List.cons_append, List.nil_append, Option.map_some, Option.map_none, eq_self, if_true, if_false, reduceIte, ai_bi_eq0, ai_bi_eq1, ai_pb_bi, ai_pb_0, ai_pb_1, Bool.true_eq_false]
      rfl
/-- in the class: the last turn up to a chapter is a death -/
theorem x_isDeadIn (h : kb_x (xw_b w) B) (hk : kb_ok B) {c q : Nat} (hc : c < 8) (hq : q ≤ 30) : ai_Call 84 [.ref 16, .int (nI c), .int (nI q)] (wl w) = some (some (.int (ai_bi (kb_dead B c q))), wl w) := by
  have h6 := hk.2.2.1 c
  have step : ∀ i, i < kb_T B c → ai_Run 84 11 [.ref 16, .int (nI c), .int (nI q), .int (nI (kb_s (fun k => kb_i (decide (kb_E B c k ≤ q))) i) - 1), .int (nI (c * 6)), .int (nI i)] [] (wl w) = ai_Run 84 11 [.ref 16, .int (nI c), .int (nI q), .int (nI (kb_s (fun k => kb_i (decide (kb_E B c k ≤ q))) (i + 1)) - 1), .int (nI (c * 6)), .int (nI (i + 1))] [] (wl w) := by
    intro i hi
    have c1 : nI i < nI (kb_T B c) := nI_lt hi (by omega)
    have he := hk.2.2.2.2.1 c i hi
    have g1 : ai_Call 12 [.ref 4, .int (nI (c * 6 + i))] (wl w) = some (some (.int (nI (kb_E B c i))), wl w) := by rw [x_get_ch, ai_rgn (by omega) (by decide), h.2.2.2.2.1 c i hc hi]
    rw [r_84_11]
    by_cases c2 : kb_E B c i ≤ q
    · have c3 : ¬ nI q < nI (kb_E B c i) := nI_nlt c2 (by omega)
      have e : kb_s (fun k => kb_i (decide (kb_E B c k ≤ q))) i = i := by
        have hp := kb_c_pre hk c q (i + 1) (by omega) i (by omega)
        rw [kb_s] at hp
        have h1 := hp.mp c2
        have h2 := kb_s_le (f := fun k => kb_i (decide (kb_E B c k ≤ q))) (k := 1) (fun i => kb_i_le _) i
        simp only [c2, decide_true, kb_i_t] at h1
        omega
      simp only [r_84_0, r_84_1, r_84_2, r_84_3, r_84_5, r_84_6, r_84_8, r_84_9, r_84_13, r_84_14, r_84_17, r_84_20, r_84_21, r_84_24, r_84_27, r_84_28, r_84_31, r_84_34, r_84_36, r_84_38, r_84_39, r_84_42, r_84_43, r_84_46, r_84_48, r_84_49, r_84_52, r_84_55, r_84_56, r_84_59, r_84_60, r_84_61, r_84_62, r_84_65, r_84_66, r_84_69, r_84_70, Option.bind_some, Option.bind_none, Option.toList_some, Option.toList_none, List.cons_append, List.nil_append, Option.map_some, Option.map_none, eq_self, if_true, if_false, reduceIte, ai_bi_eq0, ai_bi_eq1, ai_pb_bi, ai_pb_0, ai_pb_1, f_16_0, f_1_3, f_1_4, x_turns h hc, c1, nI_add, g1, c3, nI_1]
      rw [kb_s, e]
      simp only [c2, decide_true, kb_i_t, nI_pred]
    · have c3 : nI q < nI (kb_E B c i) := nI_lt (by omega) (by omega)
      simp only [r_84_0, r_84_1, r_84_2, r_84_3, r_84_5, r_84_6, r_84_8, r_84_9, r_84_13, r_84_14, r_84_17, r_84_20, r_84_21, r_84_24, r_84_27, r_84_28, r_84_31, r_84_34, r_84_36, r_84_38, r_84_39, r_84_42, r_84_43, r_84_46, r_84_48, r_84_49, r_84_52, r_84_55, r_84_56, r_84_59, r_84_60, r_84_61, r_84_62, r_84_65, r_84_66, r_84_69, r_84_70, Option.bind_some, Option.bind_none, Option.toList_some, Option.toList_none, List.cons_append, List.nil_append, Option.map_some, Option.map_none, eq_self, if_true, if_false, reduceIte, ai_bi_eq0, ai_bi_eq1, ai_pb_bi, ai_pb_0, ai_pb_1, f_16_0, f_1_3, f_1_4, x_turns h hc, c1, nI_add, g1, c3, nI_1]
      rw [kb_s]
      simp only [c2, decide_false, kb_i_f, Nat.add_zero]
  have e := lp_n (fun i => ai_Run 84 11 [.ref 16, .int (nI c), .int (nI q), .int (nI (kb_s (fun k => kb_i (decide (kb_E B c k ≤ q))) i) - 1), .int (nI (c * 6)), .int (nI i)] [] (wl w)) _ step
  have c2 : ¬ nI (kb_T B c) < nI (kb_T B c) := nI_nlt (Nat.le_refl _) (by omega)
  simp only [e_84, o_16, r_84_0, r_84_1, r_84_2, r_84_3, r_84_5, r_84_6, r_84_8, r_84_9, r_84_13, r_84_14, r_84_17, r_84_20, r_84_21, r_84_24, r_84_27, r_84_28, r_84_31, r_84_34, r_84_36, r_84_38, r_84_39, r_84_42, r_84_43, r_84_46, r_84_48, r_84_49, r_84_52, r_84_55, r_84_56, r_84_59, r_84_60, r_84_61, r_84_62, r_84_65, r_84_66, r_84_69, r_84_70, Option.bind_some, Option.bind_none, Option.toList_some, Option.toList_none, List.cons_append, List.nil_append, Option.map_some, Option.map_none, eq_self, if_true, if_false, reduceIte, ai_bi_eq0, ai_bi_eq1, ai_pb_bi, ai_pb_0, ai_pb_1, n_6, pk_mul]
  refine e.trans ?_
  rw [r_84_11]
  have hcl := kb_c_le (B := B) c q
  unfold kb_dead
  unfold kb_c at hcl ⊢
  generalize kb_s (fun k => kb_i (decide (kb_E B c k ≤ q))) (kb_T B c) = z at hcl ⊢
  cases z with
  | zero =>
    have c4 : nI 0 - 1 < 0 := by decide
    simp only [r_84_0, r_84_1, r_84_2, r_84_3, r_84_5, r_84_6, r_84_8, r_84_9, r_84_13, r_84_14, r_84_17, r_84_20, r_84_21, r_84_24, r_84_27, r_84_28, r_84_31, r_84_34, r_84_36, r_84_38, r_84_39, r_84_42, r_84_43, r_84_46, r_84_48, r_84_49, r_84_52, r_84_55, r_84_56, r_84_59, r_84_60, r_84_61, r_84_62, r_84_65, r_84_66, r_84_69, r_84_70, Option.bind_some, Option.bind_none, Option.toList_some, Option.toList_none, List.cons_append, List.nil_append, Option.map_some, Option.map_none, eq_self, if_true, if_false, reduceIte, ai_bi_eq0, ai_bi_eq1, ai_pb_bi, ai_pb_0, ai_pb_1, f_16_0, f_1_3, x_turns h hc, c2, c4]
    rfl
  | succ z =>
    have c4 : ¬ nI z < 0 := nI_pos (by omega)
    have c5 : nI (z % 2) = 0 ↔ (z + 1) % 2 = 1 := by
      rw [ai_nI0, nI_eq (by omega) (by decide)]
      omega
    simp only [r_84_0, r_84_1, r_84_2, r_84_3, r_84_5, r_84_6, r_84_8, r_84_9, r_84_13, r_84_14, r_84_17, r_84_20, r_84_21, r_84_24, r_84_27, r_84_28, r_84_31, r_84_34, r_84_36, r_84_38, r_84_39, r_84_42, r_84_43, r_84_46, r_84_48, r_84_49, r_84_52, r_84_55, r_84_56, r_84_59, r_84_60, r_84_61, r_84_62, r_84_65, r_84_66, r_84_69, r_84_70, Option.bind_some, Option.bind_none, Option.toList_some, Option.toList_none, List.cons_append, List.nil_append, Option.map_some, Option.map_none, eq_self, if_true, if_false, reduceIte, ai_bi_eq0, ai_bi_eq1, ai_pb_bi, ai_pb_0, ai_pb_1, f_16_0, f_1_3, x_turns h hc, c2, nI_pred, c4, pk_rem2 (show z < 2 ^ 31 by omega), c5]
    by_cases c6 : (z + 1) % 2 = 1
    · simp only [c6, Option.bind_some, Option.bind_none, Option.toList_some, Option.toList_none, List.cons_append, List.nil_append, Option.map_some, Option.map_none, eq_self, if_true, if_false, reduceIte, ai_bi_eq0, ai_bi_eq1, ai_pb_bi, ai_pb_0, ai_pb_1, decide_true]
      rfl
    · simp only [c6, Option.bind_some, Option.bind_none, Option.toList_some, Option.toList_none, List.cons_append, List.nil_append, Option.map_some, Option.map_none, eq_self, if_true, if_false, reduceIte, ai_bi_eq0, ai_bi_eq1, ai_pb_bi, ai_pb_0, ai_pb_1, decide_false]
      rfl
end XB

