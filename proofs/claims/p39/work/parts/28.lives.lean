/-! Another reader; how many chapters a character lives; the orders. -/
theorem kb_s_upd {f : Nat → Nat} {j a : Nat} : ∀ {n : Nat}, j < n → kb_s (fun k => if k = j then a else f k) n + f j = kb_s f n + a := by
  intro n
  induction n with
  | zero => intro h; omega
  | succ n ih =>
    intro h
    rw [kb_s, kb_s]
    by_cases hj : j = n
    · subst hj
      rw [if_pos rfl, kb_s_congr (g := f) (fun i hi => if_neg (by omega))]
      omega
    · have := ih (by omega)
      rw [if_neg (fun q => hj q.symm)]
      omega
def kb_wj (B : kb_B) (k v : Nat) : kb_B := (B.1, B.2.1, B.2.2.1, B.2.2.2.1, B.2.2.2.2.1, B.2.2.2.2.2.1, B.2.2.2.2.2.2.1, fun i => if i = k then v else kb_J B i)
theorem kb_votes_j (B : kb_B) {k v x : Nat} (hk : k < 7) : kb_votes (kb_wj B k v) x + kb_vote (kb_J B k) x = kb_votes B x + kb_vote v x := by
  have := kb_s_upd (f := fun i => kb_vote (kb_J B i) x) (a := kb_vote v x) hk
  unfold kb_votes
  rw [← this]
  congr 1
  refine kb_s_congr (fun i hi => ?_)
  show kb_vote (if i = k then v else kb_J B i) x = _
  split <;> rfl
theorem kb_sit_j (B : kb_B) {k v : Nat} (hk : k < 7) : kb_sit (kb_wj B k v) + kb_i (decide (0 < kb_J B k)) = kb_sit B + kb_i (decide (0 < v)) := by
  have := kb_s_upd (f := fun i => kb_i (decide (0 < kb_J B i))) (a := kb_i (decide (0 < v))) hk
  unfold kb_sit
  rw [← this]
  congr 1
  refine kb_s_congr (fun i hi => ?_)
  show kb_i (decide (0 < if i = k then v else kb_J B i)) = _
  split <;> rfl
def kb_lv (B : kb_B) (c : Nat) : Nat := kb_s (fun q => kb_i (!kb_dead B c (q + 1))) 30
def kb_end (B : kb_B) (c d : Nat) : Nat := if 2 * d + 1 < kb_T B c then kb_E B c (2 * d + 1) else 31
theorem kb_s_add {f g : Nat → Nat} (n : Nat) : kb_s (fun i => f i + g i) n = kb_s f n + kb_s g n := by
  induction n with
  | zero => rfl
  | succ n ih =>
    simp only [kb_s, ih]
    omega
theorem kb_s_swap {f : Nat → Nat → Nat} (m n : Nat) : kb_s (fun i => kb_s (fun j => f i j) m) n = kb_s (fun j => kb_s (fun i => f i j) n) m := by
  induction n with
  | zero =>
    have : ∀ m, kb_s (fun _ => 0) m = 0 := fun m => by
      induction m with
      | zero => rfl
      | succ m ih => rw [kb_s, ih]
    exact (this m).symm
  | succ n ih =>
    simp only [kb_s, ih]
    exact (kb_s_add m).symm
theorem kb_s_range {a b : Nat} (n : Nat) (h1 : 1 ≤ a) (h2 : a ≤ b) (h3 : b ≤ n + 1) : kb_s (fun q => kb_i (decide (a ≤ q + 1 ∧ q + 1 < b))) n = b - a := by
  have key : ∀ n, kb_s (fun q => kb_i (decide (a ≤ q + 1 ∧ q + 1 < b))) n = min (n + 1) b - a := by
    intro n
    induction n with
    | zero => simp only [kb_s]; omega
    | succ n ih =>
      rw [kb_s, ih]
      by_cases c : a ≤ n + 1 ∧ n + 1 < b
      · simp only [c, and_self, decide_true, kb_i_t]
        omega
      · rw [decide_eq_false c, kb_i_f]
        omega
  rw [key]
  omega
theorem kb_s_odd (t n : Nat) (h : t ≤ 2 * n) : kb_s (fun d => kb_i (decide (t = 2 * d + 1))) n = kb_i (decide (t % 2 = 1)) := by
  have key : ∀ n, kb_s (fun d => kb_i (decide (t = 2 * d + 1))) n = kb_i (decide (t % 2 = 1 ∧ t < 2 * n)) := by
    intro n
    induction n with
    | zero => simp [kb_s, kb_i]
    | succ n ih =>
      rw [kb_s, ih]
      by_cases c : t = 2 * n + 1
      · rw [decide_eq_false (show ¬ (t % 2 = 1 ∧ t < 2 * n) by omega), decide_eq_true c, decide_eq_true (show t % 2 = 1 ∧ t < 2 * (n + 1) by omega)]
        rfl
      · rw [decide_eq_false c]
        have : (t % 2 = 1 ∧ t < 2 * n) ↔ (t % 2 = 1 ∧ t < 2 * (n + 1)) := by omega
        simp only [this, kb_i_f, Nat.add_zero]
  rw [key]
  congr 1
  simp only [decide_eq_decide]
  omega
theorem kb_dead_sum {B : kb_B} (hk : kb_ok B) (c : Nat) : kb_s (fun q => kb_i (kb_dead B c (q + 1))) 30 = kb_s (fun d => kb_end B c d - kb_E B c (2 * d)) (kb_d B c) := by
  have h6 := hk.2.2.1 c
  have e1 : kb_s (fun q => kb_i (kb_dead B c (q + 1))) 30 = kb_s (fun q => kb_s (fun d => kb_i (decide (kb_E B c (2 * d) ≤ q + 1 ∧ q + 1 < kb_end B c d))) (kb_d B c)) 30 := by
    refine kb_s_congr (fun q hq => ?_)
    have hcl := kb_c_le (B := B) c (q + 1)
    unfold kb_dead
    rw [← kb_s_odd (kb_c B c (q + 1)) (kb_d B c) (by unfold kb_d; omega)]
    refine kb_s_congr (fun d hd => ?_)
    unfold kb_d at hd
    congr 1
    rw [decide_eq_decide]
    have a1 := kb_c_iff hk (c := c) (h := q + 1) (k := 2 * d) (by omega)
    unfold kb_end
    by_cases c1 : 2 * d + 1 < kb_T B c
    · have a2 := kb_c_iff hk (c := c) (h := q + 1) (k := 2 * d + 1) c1
      rw [if_pos c1]
      constructor
      · intro z
        refine ⟨a1.mpr (by omega), ?_⟩
        have : ¬ kb_E B c (2 * d + 1) ≤ q + 1 := fun y => by have := a2.mp y; omega
        omega
      · intro z
        have z1 := a1.mp z.1
        have : ¬ 2 * d + 1 < kb_c B c (q + 1) := fun y => by have := a2.mpr y; omega
        omega
    · rw [if_neg c1]
      constructor
      · intro z
        exact ⟨a1.mpr (by omega), by omega⟩
      · intro z
        have z1 := a1.mp z.1
        omega
  rw [e1, kb_s_swap]
  refine kb_s_congr (fun d hd => ?_)
  unfold kb_d at hd
  have he := hk.2.2.2.2.1 c (2 * d) (by omega)
  refine kb_s_range 30 he.1 ?_ ?_
  · unfold kb_end
    split
    · rename_i q
      have := hk.2.2.2.2.2.1 c (2 * d) q
      omega
    · omega
  · unfold kb_end
    split
    · rename_i q
      have := hk.2.2.2.2.1 c (2 * d + 1) q
      omega
    · omega
theorem kb_lv_sum {B : kb_B} (hk : kb_ok B) (c : Nat) : kb_lv B c + kb_s (fun d => kb_end B c d - kb_E B c (2 * d)) (kb_d B c) = 30 := by
  rw [← kb_dead_sum hk]
  unfold kb_lv
  rw [← kb_s_add]
  have : ∀ n, kb_s (fun q => kb_i (!kb_dead B c (q + 1)) + kb_i (kb_dead B c (q + 1))) n = n := by
    intro n
    induction n with
    | zero => rfl
    | succ n ih =>
      rw [kb_s, ih]
      cases kb_dead B c (n + 1) <;> rfl
  exact this 30
theorem ai_sub2 (a b c : Nat) : nI a - nI b - nI c = nI a - nI (b + c) := by
  rw [← nI_add, Int32.sub_eq_add_neg, Int32.sub_eq_add_neg, Int32.sub_eq_add_neg, Int32.neg_add, Int32.add_assoc, Int32.sub_eq_add_neg]
section XB
variable {w : xw_W} {B : kb_B}
theorem x_chaptersLived (h : kb_x (xw_b w) B) (hk : kb_ok B) {c : Nat} (hc : c < 8) : ai_Call 94 [.ref 19, .int (nI c)] (wl w) = some (some (.int (nI (kb_lv B c))), wl w) := by
  have h3 := kb_d3 hk c
  have h6 := hk.2.2.1 c
  have step : ∀ i, i < kb_d B c → ∀ v1 v2, ai_Run 94 5 [.ref 19, .int (nI c), .int (nI 30 - nI (kb_s (fun d => kb_end B c d - kb_E B c (2 * d)) i)), .int (nI i), v1, v2] [] (wl w) = ai_Run 94 5 [.ref 19, .int (nI c), .int (nI 30 - nI (kb_s (fun d => kb_end B c d - kb_E B c (2 * d)) (i + 1))), .int (nI (i + 1)), .int (if 2 * i + 1 < kb_T B c then nI (kb_E B c (2 * i + 1)) else (-4)), .int (nI (kb_end B c i))] [] (wl w) := by
    intro i hi v1 v2
    have c1 : nI i < nI (kb_d B c) := nI_lt hi (by omega)
    have hd' := hi
    unfold kb_d at hd'
    have he := hk.2.2.2.2.1 c (2 * i) (by omega)
    rw [r_94_5]
    by_cases q : 2 * i + 1 < kb_T B c
    · have he2 := hk.2.2.2.2.1 c (2 * i + 1) q
      have he3 := hk.2.2.2.2.2.1 c (2 * i) q
      have c2 : ¬ nI (kb_E B c (2 * i + 1)) = (-4) := fun z => by
        have : (-4 : Int32) < 0 := by decide
        rw [← z] at this
        exact nI_pos (by omega) this
      simp only [r_94_0, r_94_2, r_94_3, r_94_4, r_94_6, r_94_7, r_94_10, r_94_11, r_94_14, r_94_17, r_94_18, r_94_21, r_94_22, r_94_23, r_94_26, r_94_28, r_94_30, r_94_32, r_94_35, r_94_37, r_94_40, r_94_42, r_94_44, r_94_45, r_94_47, r_94_48, r_94_51, r_94_52, r_94_53, r_94_56, r_94_57, r_94_58, r_94_59, r_94_62, r_94_65, r_94_66, Option.bind_some, Option.bind_none, Option.toList_some, Option.toList_none, List.cons_append, List.nil_append, Option.map_some, Option.map_none, eq_self, if_true, if_false, reduceIte, ai_bi_eq0, ai_bi_eq1, ai_pb_bi, ai_pb_0, ai_pb_1, f_19_0, x_deaths h hk hc, c1, x_nextRising h hk hc hi, q, c2, x_deathChapter h hk hc hi, nI_1]
      rw [pk_sub (show kb_E B c (2 * i) ≤ kb_E B c (2 * i + 1) by omega), ai_sub2, kb_s]
      simp only [kb_end, if_pos q]
    · simp only [r_94_0, r_94_2, r_94_3, r_94_4, r_94_6, r_94_7, r_94_10, r_94_11, r_94_14, r_94_17, r_94_18, r_94_21, r_94_22, r_94_23, r_94_26, r_94_28, r_94_30, r_94_32, r_94_35, r_94_37, r_94_40, r_94_42, r_94_44, r_94_45, r_94_47, r_94_48, r_94_51, r_94_52, r_94_53, r_94_56, r_94_57, r_94_58, r_94_59, r_94_62, r_94_65, r_94_66, Option.bind_some, Option.bind_none, Option.toList_some, Option.toList_none, List.cons_append, List.nil_append, Option.map_some, Option.map_none, eq_self, if_true, if_false, reduceIte, ai_bi_eq0, ai_bi_eq1, ai_pb_bi, ai_pb_0, ai_pb_1, f_19_0, x_deaths h hk hc, c1, x_nextRising h hk hc hi, q, x_deathChapter h hk hc hi, nI_1]
      rw [show (31 : Int32) = nI 31 from rfl, pk_sub (show kb_E B c (2 * i) ≤ 31 by omega), ai_sub2, kb_s]
      simp only [kb_end, if_neg q]
  have e := lp_n (fun i => ai_Run 94 5 [.ref 19, .int (nI c), .int (nI 30 - nI (kb_s (fun d => kb_end B c d - kb_E B c (2 * d)) i)), .int (nI i), (match i with | 0 => .null | i + 1 => .int (if 2 * i + 1 < kb_T B c then nI (kb_E B c (2 * i + 1)) else (-4))), (match i with | 0 => .null | i + 1 => .int (nI (kb_end B c i)))] [] (wl w)) _ (fun i hi => step i hi _ _)
  have c2 : ¬ nI (kb_d B c) < nI (kb_d B c) := nI_nlt (Nat.le_refl _) (by omega)
  simp only [e_94, o_19, r_94_0, r_94_2, r_94_3, r_94_4, r_94_6, r_94_7, r_94_10, r_94_11, r_94_14, r_94_17, r_94_18, r_94_21, r_94_22, r_94_23, r_94_26, r_94_28, r_94_30, r_94_32, r_94_35, r_94_37, r_94_40, r_94_42, r_94_44, r_94_45, r_94_47, r_94_48, r_94_51, r_94_52, r_94_53, r_94_56, r_94_57, r_94_58, r_94_59, r_94_62, r_94_65, r_94_66, Option.bind_some, Option.bind_none, Option.toList_some, Option.toList_none, List.cons_append, List.nil_append, Option.map_some, Option.map_none, eq_self, if_true, if_false, reduceIte, ai_bi_eq0, ai_bi_eq1, ai_pb_bi, ai_pb_0, ai_pb_1]
  rw [show (30 : Int32) = nI 30 - nI 0 by decide]
  refine e.trans ?_
  rw [r_94_5]
  have hs := kb_lv_sum hk c
  simp only [r_94_0, r_94_2, r_94_3, r_94_4, r_94_6, r_94_7, r_94_10, r_94_11, r_94_14, r_94_17, r_94_18, r_94_21, r_94_22, r_94_23, r_94_26, r_94_28, r_94_30, r_94_32, r_94_35, r_94_37, r_94_40, r_94_42, r_94_44, r_94_45, r_94_47, r_94_48, r_94_51, r_94_52, r_94_53, r_94_56, r_94_57, r_94_58, r_94_59, r_94_62, r_94_65, r_94_66, Option.bind_some, Option.bind_none, Option.toList_some, Option.toList_none, List.cons_append, List.nil_append, Option.map_some, Option.map_none, eq_self, if_true, if_false, reduceIte, ai_bi_eq0, ai_bi_eq1, ai_pb_bi, ai_pb_0, ai_pb_1, f_19_0, x_deaths h hk hc, c2]
  rw [pk_sub (by omega), show 30 - kb_s (fun d => kb_end B c d - kb_E B c (2 * d)) (kb_d B c) = kb_lv B c by omega]
theorem x_wouldFindGuilty (h : kb_x (xw_b w) B) (hk : kb_ok B) {k v x : Nat} (hk7 : k < 7) (hv : 1 ≤ v ∧ v ≤ 9) (hx : x < 100) : ai_Call 159 [.ref 17, .int (nI k), .int (nI v), .int (nI x)] (wl w) = some (some (.int (ai_bi (decide (kb_sit (kb_wj B k v) < 2 * kb_votes (kb_wj B k v) x)))), wl w) := by
  have h1 := kb_sit_j B (k := k) (v := v) hk7
  have h2 := kb_votes_j B (k := k) (v := v) (x := x) hk7
  have h3 := kb_votes7 B x
  have h4 := kb_sit7 B
  have h5 : kb_vote (kb_J B k) x ≤ kb_votes B x := by
    have := kb_s_upd (f := fun i => kb_vote (kb_J B i) x) (a := 0) hk7
    unfold kb_votes
    omega
  have h6 : kb_i (decide (0 < kb_J B k)) ≤ 1 := kb_i_le _
  rw [decide_eq_true (show 0 < v by omega), kb_i_t] at h1
  have e9 : (if nI x < nI v then (0 : Int32) else 1) = nI (kb_vote v x) := by
    unfold kb_vote
    by_cases q : x < v
    · rw [if_pos (nI_lt q (by omega)), decide_eq_false (by omega)]
      rfl
    · rw [if_neg (nI_nlt (by omega) (by omega)), decide_eq_true (by omega)]
      rfl
  have fin : ∀ A M : Nat, A = kb_votes (kb_wj B k v) x → M = kb_sit (kb_wj B k v) → (if nI M < 2 * nI A then some (some (Value.int 1), wl w) else some (some (Value.int 0), wl w)) = some (some (.int (ai_bi (decide (kb_sit (kb_wj B k v) < 2 * kb_votes (kb_wj B k v) x)))), wl w) := by
    intro A M hA hM
    have q1 := kb_votes7 (kb_wj B k v) x
    have q2 := kb_sit7 (kb_wj B k v)
    subst hA; subst hM
    rw [n_2, pk_mul]
    by_cases q : kb_sit (kb_wj B k v) < 2 * kb_votes (kb_wj B k v) x
    · rw [if_pos (nI_lt q (by omega)), decide_eq_true q]
      rfl
    · rw [if_neg (nI_nlt (by omega) (by omega)), decide_eq_false q]
      rfl
  by_cases c1 : x < v
  · have c2 : nI x < nI v := nI_lt c1 (by omega)
    have e8 : kb_vote v x = 0 := by unfold kb_vote; rw [decide_eq_false (by omega)]; rfl
    by_cases c3 : 0 < kb_J B k
    · simp only [e_159, o_17, r_159_0, r_159_1, r_159_2, r_159_5, r_159_6, r_159_7, r_159_8, r_159_11, r_159_12, r_159_14, r_159_16, r_159_17, r_159_18, r_159_21, r_159_22, r_159_25, r_159_26, r_159_27, r_159_29, r_159_30, r_159_31, r_159_34, r_159_37, r_159_38, r_159_41, r_159_44, r_159_45, r_159_48, r_159_49, r_159_50, r_159_52, r_159_53, r_159_55, r_159_56, r_159_58, r_159_61, r_159_62, r_159_65, r_159_66, Option.bind_some, Option.bind_none, Option.toList_some, Option.toList_none, List.cons_append, List.nil_append, Option.map_some, Option.map_none, eq_self, if_true, if_false, reduceIte, ai_bi_eq0, ai_bi_eq1, ai_pb_bi, ai_pb_0, ai_pb_1, x_votes h hk hx, x_voteOn h hk hk7 hx, c2, x_isTaken h hk hk7, c3, decide_true, Bool.true_eq_false, x_sitting h hk, pk_sub h5, Int32.add_zero]
      rw [decide_eq_true c3, kb_i_t] at h1
      exact fin _ _ (by omega) (by omega)
    · simp only [e_159, o_17, r_159_0, r_159_1, r_159_2, r_159_5, r_159_6, r_159_7, r_159_8, r_159_11, r_159_12, r_159_14, r_159_16, r_159_17, r_159_18, r_159_21, r_159_22, r_159_25, r_159_26, r_159_27, r_159_29, r_159_30, r_159_31, r_159_34, r_159_37, r_159_38, r_159_41, r_159_44, r_159_45, r_159_48, r_159_49, r_159_50, r_159_52, r_159_53, r_159_55, r_159_56, r_159_58, r_159_61, r_159_62, r_159_65, r_159_66, Option.bind_some, Option.bind_none, Option.toList_some, Option.toList_none, List.cons_append, List.nil_append, Option.map_some, Option.map_none, eq_self, if_true, if_false, reduceIte, ai_bi_eq0, ai_bi_eq1, ai_pb_bi, ai_pb_0, ai_pb_1, x_votes h hk hx, x_voteOn h hk hk7 hx, c2, x_isTaken h hk hk7, c3, decide_false, x_sitting h hk, pk_sub h5, Int32.add_zero, nI_1]
      rw [decide_eq_false c3, kb_i_f] at h1
      exact fin _ _ (by omega) (by omega)
  · have c2 : ¬ nI x < nI v := nI_nlt (by omega) (by omega)
    have e8 : kb_vote v x = 1 := by unfold kb_vote; rw [decide_eq_true (by omega)]; rfl
    by_cases c3 : 0 < kb_J B k
    · simp only [e_159, o_17, r_159_0, r_159_1, r_159_2, r_159_5, r_159_6, r_159_7, r_159_8, r_159_11, r_159_12, r_159_14, r_159_16, r_159_17, r_159_18, r_159_21, r_159_22, r_159_25, r_159_26, r_159_27, r_159_29, r_159_30, r_159_31, r_159_34, r_159_37, r_159_38, r_159_41, r_159_44, r_159_45, r_159_48, r_159_49, r_159_50, r_159_52, r_159_53, r_159_55, r_159_56, r_159_58, r_159_61, r_159_62, r_159_65, r_159_66, Option.bind_some, Option.bind_none, Option.toList_some, Option.toList_none, List.cons_append, List.nil_append, Option.map_some, Option.map_none, eq_self, if_true, if_false, reduceIte, ai_bi_eq0, ai_bi_eq1, ai_pb_bi, ai_pb_0, ai_pb_1, x_votes h hk hx, x_voteOn h hk hk7 hx, c2, x_isTaken h hk hk7, c3, decide_true, Bool.true_eq_false, x_sitting h hk, pk_sub h5, nI_1]
      rw [decide_eq_true c3, kb_i_t] at h1
      exact fin _ _ (by omega) (by omega)
    · simp only [e_159, o_17, r_159_0, r_159_1, r_159_2, r_159_5, r_159_6, r_159_7, r_159_8, r_159_11, r_159_12, r_159_14, r_159_16, r_159_17, r_159_18, r_159_21, r_159_22, r_159_25, r_159_26, r_159_27, r_159_29, r_159_30, r_159_31, r_159_34, r_159_37, r_159_38, r_159_41, r_159_44, r_159_45, r_159_48, r_159_49, r_159_50, r_159_52, r_159_53, r_159_55, r_159_56, r_159_58, r_159_61, r_159_62, r_159_65, r_159_66, Option.bind_some, Option.bind_none, Option.toList_some, Option.toList_none, List.cons_append, List.nil_append, Option.map_some, Option.map_none, eq_self, if_true, if_false, reduceIte, ai_bi_eq0, ai_bi_eq1, ai_pb_bi, ai_pb_0, ai_pb_1, x_votes h hk hx, x_voteOn h hk hk7 hx, c2, x_isTaken h hk hk7, c3, decide_false, x_sitting h hk, pk_sub h5, nI_1]
      rw [decide_eq_false c3, kb_i_f] at h1
      exact fin _ _ (by omega) (by omega)
end XB

