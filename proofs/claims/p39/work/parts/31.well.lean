/-! The suspect by pages; isWell. -/
/-- among n characters from i: the first whose motive has p pages and who could have caused it, else r -/
def kb_in (B : kb_B) (o d p : Nat) (r : Int32) : Nat → Nat → Int32
  | 0, _ => r
  | n + 1, i => if kb_M B i o = p ∧ kb_could B i o d = true then nI i else kb_in B o d p r n (i + 1)
def kb_sp (B : kb_B) (o d : Nat) : Nat → Int32
  | 0 => (-4)
  | p + 1 => kb_in B o d (p + 1) (kb_sp B o d p) (kb_n B) 0
theorem kb_in_no {B : kb_B} {o d p : Nat} {r : Int32} : ∀ n i, (∀ j, i ≤ j → j < i + n → ¬ (kb_M B j o = p ∧ kb_could B j o d = true)) → kb_in B o d p r n i = r := by
  intro n
  induction n with
  | zero => intro i _; rfl
  | succ n ih =>
    intro i h
    rw [kb_in, if_neg (h i (by omega) (by omega))]
    exact ih (i + 1) (fun j h1 h2 => h j (by omega) (by omega))
theorem kb_in_at {B : kb_B} {o d p j : Nat} {r : Int32} (hj : kb_M B j o = p ∧ kb_could B j o d = true) : ∀ n i, i ≤ j → j < i + n → (∀ k, i ≤ k → k < j → ¬ (kb_M B k o = p ∧ kb_could B k o d = true)) → kb_in B o d p r n i = nI j := by
  intro n
  induction n with
  | zero => intro i h1 h2; omega
  | succ n ih =>
    intro i h1 h2 h
    rw [kb_in]
    by_cases z : i = j
    · subst z; rw [if_pos hj]
    · rw [if_neg (h i (by omega) (by omega))]
      exact ih (i + 1) (by omega) (by omega) (fun k h3 h4 => h k (by omega) h4)
theorem kb_su_inv {B : kb_B} (o d : Nat) : ∀ n, (∀ j, j < n → kb_could B j o d = true → kb_M B j o ≤ (kb_su B o d n).1) ∧ ((kb_su B o d n).1 = 0 → (kb_su B o d n).2 = (-4)) ∧ (0 < (kb_su B o d n).1 → ∃ j, j < n ∧ (kb_su B o d n).2 = nI j ∧ kb_could B j o d = true ∧ kb_M B j o = (kb_su B o d n).1 ∧ ∀ i, i < j → kb_could B i o d = true → kb_M B i o < (kb_su B o d n).1) := by
  intro n
  induction n with
  | zero => exact ⟨fun j h => absurd h (by omega), fun _ => rfl, fun h => absurd h (Nat.lt_irrefl 0)⟩
  | succ n ih =>
    obtain ⟨a1, a2, a3⟩ := ih
    rw [kb_su]
    by_cases z : (kb_su B o d n).1 < kb_M B n o ∧ kb_could B n o d = true
    · rw [if_pos z]
      refine ⟨fun j hj hc => ?_, fun h => ?_, fun _ => ⟨n, by omega, rfl, z.2, rfl, fun i hi hc => ?_⟩⟩
      · dsimp only
        by_cases y : j = n
        · subst y; exact Nat.le_refl _
        · have := a1 j (by omega) hc
          omega
      · dsimp only at h; omega
      · dsimp only
        have := a1 i hi hc
        omega
    · rw [if_neg z]
      refine ⟨fun j hj hc => ?_, a2, fun h => ?_⟩
      · by_cases y : j = n
        · subst y
          rcases Nat.lt_or_ge (kb_su B o d j).1 (kb_M B j o) with x | x
          · exact absurd ⟨x, hc⟩ z
          · exact x
        · exact a1 j (by omega) hc
      · obtain ⟨j, h1, h2⟩ := a3 h
        exact ⟨j, by omega, h2⟩
theorem kb_sp_su {B : kb_B} (hk : kb_ok B) (o d : Nat) : kb_sp B o d 9 = (kb_su B o d (kb_n B)).2 := by
  obtain ⟨a1, a2, a3⟩ := kb_su_inv (B := B) o d (kb_n B)
  have h9 := kb_su_le hk o d (kb_n B)
  have key : ∀ p, (kb_su B o d (kb_n B)).1 ≤ p → kb_sp B o d p = (kb_su B o d (kb_n B)).2 := by
    intro p
    induction p with
    | zero =>
      intro h
      rw [a2 (by omega)]
      rfl
    | succ p ih =>
      intro h
      rw [kb_sp]
      rcases Nat.lt_or_ge (kb_su B o d (kb_n B)).1 (p + 1) with z | z
      · rw [kb_in_no _ _ (fun j _ h2 h3 => by
          have := a1 j (by omega) h3.2
          omega)]
        exact ih (by omega)
      · obtain ⟨j, b1, b2, b3, b4, b5⟩ := a3 (by omega)
        rw [b2]
        refine kb_in_at ⟨by omega, b3⟩ _ _ (by omega) (by omega) (fun k _ h4 h5 => ?_)
        have := b5 k h4 h5.2
        omega
  exact key 9 h9
section XB
variable {w : xw_W} {B : kb_B}
theorem x_suspectByPages (h : kb_x (xw_b w) B) (hk : kb_ok B) {o d : Nat} (ho : o < 8) (hd : d < kb_d B o) : ai_Call 113 [.ref 16, .int (nI o), .int (nI d)] (wl w) = some (some (.int (kb_su B o d (kb_n B)).2), wl w) := by
  have hn := hk.1
  rw [← kb_sp_su hk]
  have inner : ∀ p, p ≤ 9 → ∀ X r, X = some (some (.int r), wl w) → (∀ v, ai_Run 113 3 [.ref 16, .int (nI o), .int (nI d), .int (nI p + (-1)), v] [] (wl w) = X) → ∀ n i, i + n = kb_n B → ai_Run 113 10 [.ref 16, .int (nI o), .int (nI d), .int (nI p), .int (nI i)] [] (wl w) = some (some (.int (kb_in B o d p r n i)), wl w) := by
    intro p hp X r hX hcont n
    induction n with
    | zero =>
      intro i hi
      have c2 : ¬ nI i < nI (kb_n B) := nI_nlt (by omega) (by omega)
      rw [r_113_10]
      simp only [r_113_0, r_113_2, r_113_4, r_113_7, r_113_8, r_113_12, r_113_13, r_113_16, r_113_19, r_113_22, r_113_23, r_113_26, r_113_28, r_113_29, r_113_32, r_113_33, r_113_36, r_113_37, r_113_39, r_113_40, r_113_41, r_113_44, r_113_47, r_113_49, r_113_50, r_113_53, r_113_56, r_113_59, r_113_62, r_113_64, Option.bind_some, Option.bind_none, Option.toList_some, Option.toList_none, List.cons_append, List.nil_append, Option.map_some, Option.map_none, eq_self, if_true, if_false, reduceIte, ai_bi_eq0, ai_bi_eq1, ai_pb_bi, ai_pb_0, ai_pb_1, f_16_0, f_1_0, h.1, c2]
      rw [kb_in, ← hX]
      exact hcont _
    | succ n ih =>
      intro i hi
      have c2 : nI i < nI (kb_n B) := nI_lt (by omega) (by omega)
      have h9 := hk.2.2.2.2.2.2.2.2.1 i o
      have ih := ih (i + 1) (by omega)
      rw [r_113_10, kb_in]
      by_cases c3 : kb_M B i o = p
      · have c4 : nI (kb_M B i o) = nI p := by rw [c3]
        by_cases c5 : kb_could B i o d = true
        · simp only [r_113_0, r_113_2, r_113_4, r_113_7, r_113_8, r_113_12, r_113_13, r_113_16, r_113_19, r_113_22, r_113_23, r_113_26, r_113_28, r_113_29, r_113_32, r_113_33, r_113_36, r_113_37, r_113_39, r_113_40, r_113_41, r_113_44, r_113_47, r_113_49, r_113_50, r_113_53, r_113_56, r_113_59, r_113_62, r_113_64, Option.bind_some, Option.bind_none, Option.toList_some, Option.toList_none, List.cons_append, List.nil_append, Option.map_some, Option.map_none, eq_self, if_true, if_false, reduceIte, ai_bi_eq0, ai_bi_eq1, ai_pb_bi, ai_pb_0, ai_pb_1, f_16_0, f_1_0, h.1, c2, x_motivePages h (show i < 8 by omega) ho, c4, x_couldCause h hk (show i < 8 by omega) ho hd, c3, c5, Bool.true_eq_false, and_self]
        · have c5' : kb_could B i o d = false := by simpa using c5
          simp only [r_113_0, r_113_2, r_113_4, r_113_7, r_113_8, r_113_12, r_113_13, r_113_16, r_113_19, r_113_22, r_113_23, r_113_26, r_113_28, r_113_29, r_113_32, r_113_33, r_113_36, r_113_37, r_113_39, r_113_40, r_113_41, r_113_44, r_113_47, r_113_49, r_113_50, r_113_53, r_113_56, r_113_59, r_113_62, r_113_64, Option.bind_some, Option.bind_none, Option.toList_some, Option.toList_none, List.cons_append, List.nil_append, Option.map_some, Option.map_none, eq_self, if_true, if_false, reduceIte, ai_bi_eq0, ai_bi_eq1, ai_pb_bi, ai_pb_0, ai_pb_1, f_16_0, f_1_0, h.1, c2, x_motivePages h (show i < 8 by omega) ho, c4, x_couldCause h hk (show i < 8 by omega) ho hd, c3, c5', Bool.false_eq_true, and_false, nI_1, ih]
      · have c4 : ¬ nI (kb_M B i o) = nI p := fun z => c3 ((nI_eq (by omega) (by omega)).mp z)
        simp only [r_113_0, r_113_2, r_113_4, r_113_7, r_113_8, r_113_12, r_113_13, r_113_16, r_113_19, r_113_22, r_113_23, r_113_26, r_113_28, r_113_29, r_113_32, r_113_33, r_113_36, r_113_37, r_113_39, r_113_40, r_113_41, r_113_44, r_113_47, r_113_49, r_113_50, r_113_53, r_113_56, r_113_59, r_113_62, r_113_64, Option.bind_some, Option.bind_none, Option.toList_some, Option.toList_none, List.cons_append, List.nil_append, Option.map_some, Option.map_none, eq_self, if_true, if_false, reduceIte, ai_bi_eq0, ai_bi_eq1, ai_pb_bi, ai_pb_0, ai_pb_1, f_16_0, f_1_0, h.1, c2, x_motivePages h (show i < 8 by omega) ho, c4, c3, false_and, nI_1, ih]
  have outer : ∀ p, p ≤ 9 → ∀ v, ai_Run 113 3 [.ref 16, .int (nI o), .int (nI d), .int (nI p), v] [] (wl w) = some (some (.int (kb_sp B o d p)), wl w) := by
    intro p
    induction p with
    | zero =>
      intro _ v
      have c1 : ¬ 0 < nI 0 := by decide
      rw [r_113_3]
      simp only [r_113_0, r_113_2, r_113_4, r_113_7, r_113_8, r_113_12, r_113_13, r_113_16, r_113_19, r_113_22, r_113_23, r_113_26, r_113_28, r_113_29, r_113_32, r_113_33, r_113_36, r_113_37, r_113_39, r_113_40, r_113_41, r_113_44, r_113_47, r_113_49, r_113_50, r_113_53, r_113_56, r_113_59, r_113_62, r_113_64, Option.bind_some, Option.bind_none, Option.toList_some, Option.toList_none, List.cons_append, List.nil_append, Option.map_some, Option.map_none, eq_self, if_true, if_false, reduceIte, ai_bi_eq0, ai_bi_eq1, ai_pb_bi, ai_pb_0, ai_pb_1, c1]
      rfl
    | succ p ih =>
      intro hp v
      have c1 : 0 < nI (p + 1) := nI_lt (a := 0) (by omega) (by omega)
      rw [r_113_3]
      simp only [r_113_0, r_113_2, r_113_4, r_113_7, r_113_8, r_113_12, r_113_13, r_113_16, r_113_19, r_113_22, r_113_23, r_113_26, r_113_28, r_113_29, r_113_32, r_113_33, r_113_36, r_113_37, r_113_39, r_113_40, r_113_41, r_113_44, r_113_47, r_113_49, r_113_50, r_113_53, r_113_56, r_113_59, r_113_62, r_113_64, Option.bind_some, Option.bind_none, Option.toList_some, Option.toList_none, List.cons_append, List.nil_append, Option.map_some, Option.map_none, eq_self, if_true, if_false, reduceIte, ai_bi_eq0, ai_bi_eq1, ai_pb_bi, ai_pb_0, ai_pb_1, c1]
      exact inner (p + 1) hp _ _ rfl (fun v => by rw [pk_m1]; exact ih (by omega) v) (kb_n B) 0 (by omega)
  simp only [e_113, o_16, r_113_0, r_113_2, r_113_4, r_113_7, r_113_8, r_113_12, r_113_13, r_113_16, r_113_19, r_113_22, r_113_23, r_113_26, r_113_28, r_113_29, r_113_32, r_113_33, r_113_36, r_113_37, r_113_39, r_113_40, r_113_41, r_113_44, r_113_47, r_113_49, r_113_50, r_113_53, r_113_56, r_113_59, r_113_62, r_113_64, Option.bind_some, Option.bind_none, Option.toList_some, Option.toList_none, List.cons_append, List.nil_append, Option.map_some, Option.map_none, eq_self, if_true, if_false, reduceIte, ai_bi_eq0, ai_bi_eq1, ai_pb_bi, ai_pb_0, ai_pb_1]
  exact outer 9 (by omega) .null
theorem x_suspectsAgree (h : kb_x (xw_b w) B) (hk : kb_ok B) : ai_Call 114 [.ref 16] (wl w) = some (some (.int 1), wl w) := by
  have hn := hk.1
  have inner : ∀ c, c < kb_n B → ∀ X, (∀ v, ai_Run 114 2 [.ref 16, .int (nI (c + 1)), v] [] (wl w) = X) → ∀ n i, i + n = kb_d B c → ai_Run 114 15 [.ref 16, .int (nI c), .int (nI i)] [] (wl w) = X := by
    intro c hc X hX n
    have h3 := kb_d3 hk c
    induction n with
    | zero =>
      intro i hi
      have c2 : ¬ nI i < nI (kb_d B c) := nI_nlt (by omega) (by omega)
      rw [r_114_15]
      simp only [r_114_0, r_114_1, r_114_3, r_114_4, r_114_7, r_114_10, r_114_13, r_114_14, r_114_16, r_114_17, r_114_20, r_114_21, r_114_24, r_114_27, r_114_28, r_114_29, r_114_30, r_114_33, r_114_34, r_114_35, r_114_36, r_114_39, r_114_42, r_114_43, r_114_44, r_114_47, r_114_50, r_114_53, r_114_56, r_114_57, Option.bind_some, Option.bind_none, Option.toList_some, Option.toList_none, List.cons_append, List.nil_append, Option.map_some, Option.map_none, eq_self, if_true, if_false, reduceIte, ai_bi_eq0, ai_bi_eq1, ai_pb_bi, ai_pb_0, ai_pb_1, f_16_0, x_deaths h hk (show c < 8 by omega), c2, nI_1]
      exact hX _
    | succ n ih =>
      intro i hi
      have c2 : nI i < nI (kb_d B c) := nI_lt (by omega) (by omega)
      have ih := ih (i + 1) (by omega)
      rw [r_114_15]
      simp only [r_114_0, r_114_1, r_114_3, r_114_4, r_114_7, r_114_10, r_114_13, r_114_14, r_114_16, r_114_17, r_114_20, r_114_21, r_114_24, r_114_27, r_114_28, r_114_29, r_114_30, r_114_33, r_114_34, r_114_35, r_114_36, r_114_39, r_114_42, r_114_43, r_114_44, r_114_47, r_114_50, r_114_53, r_114_56, r_114_57, Option.bind_some, Option.bind_none, Option.toList_some, Option.toList_none, List.cons_append, List.nil_append, Option.map_some, Option.map_none, eq_self, if_true, if_false, reduceIte, ai_bi_eq0, ai_bi_eq1, ai_pb_bi, ai_pb_0, ai_pb_1, f_16_0, x_deaths h hk (show c < 8 by omega), c2, x_suspectByCharacters h hk (show c < 8 by omega) (show i < kb_d B c by omega), x_suspectByPages h hk (show c < 8 by omega) (show i < kb_d B c by omega), nI_1, ih]
  have outer : ∀ n c, c + n = kb_n B → ∀ v, ai_Run 114 2 [.ref 16, .int (nI c), v] [] (wl w) = some (some (.int 1), wl w) := by
    intro n
    induction n with
    | zero =>
      intro c hc v
      have c2 : ¬ nI c < nI (kb_n B) := nI_nlt (by omega) (by omega)
      rw [r_114_2]
      simp only [r_114_0, r_114_1, r_114_3, r_114_4, r_114_7, r_114_10, r_114_13, r_114_14, r_114_16, r_114_17, r_114_20, r_114_21, r_114_24, r_114_27, r_114_28, r_114_29, r_114_30, r_114_33, r_114_34, r_114_35, r_114_36, r_114_39, r_114_42, r_114_43, r_114_44, r_114_47, r_114_50, r_114_53, r_114_56, r_114_57, Option.bind_some, Option.bind_none, Option.toList_some, Option.toList_none, List.cons_append, List.nil_append, Option.map_some, Option.map_none, eq_self, if_true, if_false, reduceIte, ai_bi_eq0, ai_bi_eq1, ai_pb_bi, ai_pb_0, ai_pb_1, f_16_0, f_1_0, h.1, c2]
    | succ n ih =>
      intro c hc v
      have c2 : nI c < nI (kb_n B) := nI_lt (by omega) (by omega)
      rw [r_114_2]
      simp only [r_114_0, r_114_1, r_114_3, r_114_4, r_114_7, r_114_10, r_114_13, r_114_14, r_114_16, r_114_17, r_114_20, r_114_21, r_114_24, r_114_27, r_114_28, r_114_29, r_114_30, r_114_33, r_114_34, r_114_35, r_114_36, r_114_39, r_114_42, r_114_43, r_114_44, r_114_47, r_114_50, r_114_53, r_114_56, r_114_57, Option.bind_some, Option.bind_none, Option.toList_some, Option.toList_none, List.cons_append, List.nil_append, Option.map_some, Option.map_none, eq_self, if_true, if_false, reduceIte, ai_bi_eq0, ai_bi_eq1, ai_pb_bi, ai_pb_0, ai_pb_1, f_16_0, f_1_0, h.1, c2]
      exact inner c (by omega) _ (ih (c + 1) (by omega)) (kb_d B c) 0 (by omega)
  simp only [e_114, o_16, r_114_0, r_114_1, r_114_3, r_114_4, r_114_7, r_114_10, r_114_13, r_114_14, r_114_16, r_114_17, r_114_20, r_114_21, r_114_24, r_114_27, r_114_28, r_114_29, r_114_30, r_114_33, r_114_34, r_114_35, r_114_36, r_114_39, r_114_42, r_114_43, r_114_44, r_114_47, r_114_50, r_114_53, r_114_56, r_114_57, Option.bind_some, Option.bind_none, Option.toList_some, Option.toList_none, List.cons_append, List.nil_append, Option.map_some, Option.map_none, eq_self, if_true, if_false, reduceIte, ai_bi_eq0, ai_bi_eq1, ai_pb_bi, ai_pb_0, ai_pb_1]
  exact outer (kb_n B) 0 (by omega) .null
theorem x_turnsAreInOrder (h : kb_x (xw_b w) B) (hk : kb_ok B) : ai_Call 115 [.ref 16] (wl w) = some (some (.int 1), wl w) := by
  have hn := hk.1
  have inner : ∀ c, c < kb_n B → ∀ X, (∀ v2 v3 v4, ai_Run 115 2 [.ref 16, .int (nI (c + 1)), v2, v3, v4] [] (wl w) = X) → ∀ n i, i + n = kb_T B c → ∀ v4, ai_Run 115 17 [.ref 16, .int (nI c), .int (nI (if i = 0 then 0 else kb_E B c (i - 1))), .int (nI i), v4] [] (wl w) = X := by
    intro c hc X hX n
    have h6 := hk.2.2.1 c
    induction n with
    | zero =>
      intro i hi v4
      have c2 : ¬ nI i < nI (kb_T B c) := nI_nlt (by omega) (by omega)
      rw [r_115_17]
      simp only [r_115_0, r_115_1, r_115_3, r_115_4, r_115_7, r_115_10, r_115_13, r_115_14, r_115_15, r_115_16, r_115_18, r_115_19, r_115_22, r_115_25, r_115_26, r_115_29, r_115_32, r_115_33, r_115_36, r_115_37, r_115_38, r_115_41, r_115_43, r_115_45, r_115_46, r_115_49, r_115_50, r_115_51, r_115_53, r_115_54, r_115_57, r_115_60, r_115_63, r_115_66, r_115_67, Option.bind_some, Option.bind_none, Option.toList_some, Option.toList_none, List.cons_append, List.nil_append, Option.map_some, Option.map_none, eq_self, if_true, if_false, reduceIte, ai_bi_eq0, ai_bi_eq1, ai_pb_bi, ai_pb_0, ai_pb_1, f_16_0, f_1_3, x_turns h (show c < 8 by omega), c2, nI_1]
      exact hX _ _ _
    | succ n ih =>
      intro i hi v4
      have c2 : nI i < nI (kb_T B c) := nI_lt (by omega) (by omega)
      have he := hk.2.2.2.2.1 c i (by omega)
      have c3 : nI (if i = 0 then 0 else kb_E B c (i - 1)) < nI (kb_E B c i) := by
        refine nI_lt ?_ (by omega)
        split
        · omega
        · rename_i z
          have := hk.2.2.2.2.2.1 c (i - 1) (by omega)
          rw [show i - 1 + 1 = i by omega] at this
          exact this
      have ih := ih (i + 1) (by omega) (.int (nI (kb_E B c i)))
      rw [if_neg (by omega), Nat.add_sub_cancel] at ih
      rw [r_115_17]
      generalize (if i = 0 then 0 else kb_E B c (i - 1)) = z at c3
      simp only [r_115_0, r_115_1, r_115_3, r_115_4, r_115_7, r_115_10, r_115_13, r_115_14, r_115_15, r_115_16, r_115_18, r_115_19, r_115_22, r_115_25, r_115_26, r_115_29, r_115_32, r_115_33, r_115_36, r_115_37, r_115_38, r_115_41, r_115_43, r_115_45, r_115_46, r_115_49, r_115_50, r_115_51, r_115_53, r_115_54, r_115_57, r_115_60, r_115_63, r_115_66, r_115_67, Option.bind_some, Option.bind_none, Option.toList_some, Option.toList_none, List.cons_append, List.nil_append, Option.map_some, Option.map_none, eq_self, if_true, if_false, reduceIte, ai_bi_eq0, ai_bi_eq1, ai_pb_bi, ai_pb_0, ai_pb_1, f_16_0, f_1_3, x_turns h (show c < 8 by omega), c2, x_turnChapter h hk (show c < 8 by omega) (show i < kb_T B c by omega), c3, nI_1, ih]
  have outer : ∀ n c, c + n = kb_n B → ∀ v2 v3 v4, ai_Run 115 2 [.ref 16, .int (nI c), v2, v3, v4] [] (wl w) = some (some (.int 1), wl w) := by
    intro n
    induction n with
    | zero =>
      intro c hc v2 v3 v4
      have c2 : ¬ nI c < nI (kb_n B) := nI_nlt (by omega) (by omega)
      rw [r_115_2]
      simp only [r_115_0, r_115_1, r_115_3, r_115_4, r_115_7, r_115_10, r_115_13, r_115_14, r_115_15, r_115_16, r_115_18, r_115_19, r_115_22, r_115_25, r_115_26, r_115_29, r_115_32, r_115_33, r_115_36, r_115_37, r_115_38, r_115_41, r_115_43, r_115_45, r_115_46, r_115_49, r_115_50, r_115_51, r_115_53, r_115_54, r_115_57, r_115_60, r_115_63, r_115_66, r_115_67, Option.bind_some, Option.bind_none, Option.toList_some, Option.toList_none, List.cons_append, List.nil_append, Option.map_some, Option.map_none, eq_self, if_true, if_false, reduceIte, ai_bi_eq0, ai_bi_eq1, ai_pb_bi, ai_pb_0, ai_pb_1, f_16_0, f_1_0, h.1, c2]
    | succ n ih =>
      intro c hc v2 v3 v4
      have c2 : nI c < nI (kb_n B) := nI_lt (by omega) (by omega)
      rw [r_115_2]
      simp only [r_115_0, r_115_1, r_115_3, r_115_4, r_115_7, r_115_10, r_115_13, r_115_14, r_115_15, r_115_16, r_115_18, r_115_19, r_115_22, r_115_25, r_115_26, r_115_29, r_115_32, r_115_33, r_115_36, r_115_37, r_115_38, r_115_41, r_115_43, r_115_45, r_115_46, r_115_49, r_115_50, r_115_51, r_115_53, r_115_54, r_115_57, r_115_60, r_115_63, r_115_66, r_115_67, Option.bind_some, Option.bind_none, Option.toList_some, Option.toList_none, List.cons_append, List.nil_append, Option.map_some, Option.map_none, eq_self, if_true, if_false, reduceIte, ai_bi_eq0, ai_bi_eq1, ai_pb_bi, ai_pb_0, ai_pb_1, f_16_0, f_1_0, h.1, c2]
      exact inner c (by omega) _ (ih (c + 1) (by omega)) (kb_T B c) 0 (by omega) _
  simp only [e_115, o_16, r_115_0, r_115_1, r_115_3, r_115_4, r_115_7, r_115_10, r_115_13, r_115_14, r_115_15, r_115_16, r_115_18, r_115_19, r_115_22, r_115_25, r_115_26, r_115_29, r_115_32, r_115_33, r_115_36, r_115_37, r_115_38, r_115_41, r_115_43, r_115_45, r_115_46, r_115_49, r_115_50, r_115_51, r_115_53, r_115_54, r_115_57, r_115_60, r_115_63, r_115_66, r_115_67, Option.bind_some, Option.bind_none, Option.toList_some, Option.toList_none, List.cons_append, List.nil_append, Option.map_some, Option.map_none, eq_self, if_true, if_false, reduceIte, ai_bi_eq0, ai_bi_eq1, ai_pb_bi, ai_pb_0, ai_pb_1]
  exact outer (kb_n B) 0 (by omega) .null .null .null
end XB

