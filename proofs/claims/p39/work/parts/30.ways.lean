/-! The second ways, and isWell's three questions. -/
theorem kb_c_step {B : kb_B} (hk : kb_ok B) (c q : Nat) (hq : 1 ≤ q) : kb_c B c (q - 1) ≤ kb_c B c q ∧ kb_c B c q ≤ kb_c B c (q - 1) + 1 := by
  have hT := kb_c_le (B := B) c q
  have hT1 := kb_c_le (B := B) c (q - 1)
  refine ⟨?_, ?_⟩
  · rcases Nat.lt_or_ge (kb_c B c q) (kb_c B c (q - 1)) with z | z
    · exfalso
      have h1 := (kb_c_iff hk (c := c) (h := q - 1) (k := kb_c B c q) (by omega)).mpr z
      have h2 : ¬ kb_E B c (kb_c B c q) ≤ q := fun y => by
        have := (kb_c_iff hk (c := c) (h := q) (k := kb_c B c q) (by omega)).mp y
        omega
      omega
    · exact z
  · rcases Nat.lt_or_ge (kb_c B c (q - 1) + 1) (kb_c B c q) with z | z
    · exfalso
      have a1 := (kb_c_iff hk (c := c) (h := q) (k := kb_c B c (q - 1) + 1) (by omega)).mpr z
      have a2 : ¬ kb_E B c (kb_c B c (q - 1)) ≤ q - 1 := fun y => by
        have := (kb_c_iff hk (c := c) (h := q - 1) (k := kb_c B c (q - 1)) (by omega)).mp y
        omega
      have a3 := kb_mono hk (c := c) (i := kb_c B c (q - 1)) (j := kb_c B c (q - 1) + 1) (by omega) (by omega)
      omega
    · exact z
theorem kb_E_eq {B : kb_B} (hk : kb_ok B) {c q k : Nat} (hq : 1 ≤ q) (hkT : k < kb_T B c) : kb_E B c k = q ↔ k = kb_c B c (q - 1) ∧ kb_c B c q = kb_c B c (q - 1) + 1 := by
  have h1 := kb_c_iff hk (c := c) (h := q) hkT
  have h2 := kb_c_iff hk (c := c) (h := q - 1) hkT
  have h3 := kb_c_step hk c q hq
  constructor
  · intro e
    have a1 := h1.mp (by omega)
    have a2 : ¬ k < kb_c B c (q - 1) := fun y => by have := h2.mpr y; omega
    omega
  · intro e
    have a1 := h1.mpr (by omega)
    have a2 : ¬ kb_E B c k ≤ q - 1 := fun y => by have := h2.mp y; omega
    omega
/-- is c dead in q, as told by the first i turns, if it was so ahead of q -/
def kb_bt (B : kb_B) (c q : Nat) : Nat → Bool
  | 0 => kb_dead B c (q - 1)
  | i + 1 => if kb_E B c i = q then decide (i % 2 = 0) else kb_bt B c q i
theorem kb_bt_T {B : kb_B} (hk : kb_ok B) (c q : Nat) (hq : 1 ≤ q) : kb_bt B c q (kb_T B c) = kb_dead B c q := by
  have h3 := kb_c_step hk c q hq
  have hT := kb_c_le (B := B) c q
  have key : ∀ i, i ≤ kb_T B c → kb_bt B c q i = if kb_c B c (q - 1) < i ∧ kb_c B c q = kb_c B c (q - 1) + 1 then decide (kb_c B c (q - 1) % 2 = 0) else decide (kb_c B c (q - 1) % 2 = 1) := by
    intro i
    induction i with
    | zero => intro _; rw [if_neg (by omega)]; rfl
    | succ i ih =>
      intro hi
      rw [kb_bt, ih (by omega)]
      have he := kb_E_eq hk (c := c) hq (k := i) (by omega)
      by_cases z : kb_E B c i = q
      · have := he.mp z
        rw [if_pos z, if_pos (by omega), this.1]
      · rw [if_neg z]
        by_cases y : kb_c B c (q - 1) < i ∧ kb_c B c q = kb_c B c (q - 1) + 1
        · rw [if_pos y, if_pos (by omega)]
        · rw [if_neg y, if_neg (fun x => by
            have : ¬ (i = kb_c B c (q - 1) ∧ kb_c B c q = kb_c B c (q - 1) + 1) := fun v => z (he.mpr v)
            omega)]
  rw [key _ (Nat.le_refl _)]
  unfold kb_dead
  split
  · rw [decide_eq_decide]; omega
  · rw [decide_eq_decide]; omega
theorem kb_k_ext {f : Nat → Bool} {n m : Nat} (h : ∀ j, m.testBit j = (decide (j < n) && f j)) : m = kb_k f n := Nat.eq_of_testBit_eq (fun j => by rw [h, kb_k_bit])
theorem kb_k_put {f : Nat → Bool} {n c : Nat} (hc : c < n) : kb_k f n ||| 2 ^ c = kb_k (fun j => if j = c then true else f j) n := by
  refine kb_k_ext (fun j => ?_)
  rw [Nat.testBit_or, kb_k_bit, Nat.testBit_two_pow]
  by_cases h : j = c
  · subst h; simp [hc]
  · have : ¬ c = j := fun z => h z.symm
    simp [h, this]
theorem kb_255 : ∀ j c, c < 8 → (255 ^^^ 2 ^ c : Nat).testBit j = (decide (j < 8) && !decide (j = c)) := by
  intro j c hc
  rw [Nat.testBit_xor, Nat.testBit_two_pow, show (255 : Nat) = 2 ^ 8 - 1 from rfl, Nat.testBit_two_pow_sub_one]
  by_cases h : j = c
  · subst h; simp [hc]
  · have : ¬ c = j := fun z => h z.symm
    simp [h, this]
theorem kb_k_cut {f : Nat → Bool} {n c : Nat} (hn : n ≤ 8) (hc : c < n) : kb_k f n &&& (255 ^^^ 2 ^ c) = kb_k (fun j => if j = c then false else f j) n := by
  refine kb_k_ext (fun j => ?_)
  rw [Nat.testBit_and, kb_k_bit, kb_255 j c (by omega)]
  by_cases h : j = c
  · subst h; simp
  · by_cases h8 : j < n
    · have : j < 8 := by omega
      simp [h, h8, this]
    · simp [h, h8]
def kb_g (B : kb_B) (c q i j : Nat) : Bool := if j < c then kb_dead B j q else if j = c then kb_bt B c q i else kb_dead B j (q - 1)
section XB
variable {w : xw_W} {B : kb_B}
theorem x_afterChapter (h : kb_x (xw_b w) B) (hk : kb_ok B) {q : Nat} (hq : 1 ≤ q ∧ q ≤ 30) : ai_Call 104 [.ref 16, .int (nI (kb_set B (q - 1))), .int (nI q)] (wl w) = some (some (.int (nI (kb_set B q))), wl w) := by
  have hn := hk.1
  have step : ∀ c, c < kb_n B → ∀ X, (∀ v5 v6, ai_Run 104 5 [.ref 16, .int (nI (kb_set B (q - 1))), .int (nI q), .int (nI (kb_k (kb_g B (c + 1) q 0) (kb_n B))), .int (nI (c + 1)), v5, v6] [] (wl w) = X) → ∀ v5 v6, ai_Run 104 5 [.ref 16, .int (nI (kb_set B (q - 1))), .int (nI q), .int (nI (kb_k (kb_g B c q 0) (kb_n B))), .int (nI c), v5, v6] [] (wl w) = X := by
    intro c hc X hX v5 v6
    have h6 := hk.2.2.1 c
    have c1 : nI c < nI (kb_n B) := nI_lt hc (by omega)
    have hlast : kb_k (kb_g B c q (kb_T B c)) (kb_n B) = kb_k (kb_g B (c + 1) q 0) (kb_n B) := by
      refine kb_k_congr (fun j hj => ?_)
      unfold kb_g
      by_cases z1 : j < c
      · rw [if_pos z1, if_pos (by omega)]
      · rw [if_neg z1]
        by_cases z2 : j = c
        · subst z2
          rw [if_pos rfl, if_pos (by omega), kb_bt_T hk _ _ hq.1]
        · rw [if_neg z2, if_neg (by omega)]
          by_cases z3 : j = c + 1
          · subst z3
            rw [if_pos rfl]
            rfl
          · rw [if_neg z3]
    have inner : ∀ n i, i + n = kb_T B c → ∀ v6, ai_Run 104 20 [.ref 16, .int (nI (kb_set B (q - 1))), .int (nI q), .int (nI (kb_k (kb_g B c q i) (kb_n B))), .int (nI c), .int (nI i), v6] [] (wl w) = X := by
      intro n
      induction n with
      | zero =>
        intro i hi v6
        have c2 : ¬ nI i < nI (kb_T B c) := nI_nlt (by omega) (by omega)
        have : i = kb_T B c := by omega
        subst this
        rw [r_104_20]
        simp only [r_104_0, r_104_1, r_104_2, r_104_3, r_104_7, r_104_8, r_104_11, r_104_14, r_104_17, r_104_18, r_104_22, r_104_23, r_104_26, r_104_29, r_104_31, r_104_34, r_104_37, r_104_38, r_104_41, r_104_43, r_104_45, r_104_48, r_104_49, r_104_52, r_104_53, r_104_55, r_104_56, r_104_58, r_104_60, r_104_61, r_104_62, r_104_65, r_104_66, r_104_68, r_104_69, r_104_72, r_104_73, r_104_75, r_104_76, r_104_77, r_104_78, r_104_79, r_104_82, r_104_85, r_104_88, r_104_91, r_104_92, Option.bind_some, Option.bind_none, Option.toList_some, Option.toList_none, List.cons_append, List.nil_append, Option.map_some, Option.map_none, eq_self, if_true, if_false, reduceIte, ai_bi_eq0, ai_bi_eq1, ai_pb_bi, ai_pb_0, ai_pb_1, f_16_0, f_1_3, x_turns h (show c < 8 by omega), c2, hlast, nI_1]
        exact hX _ _
      | succ n ih =>
        intro i hi v6
        have c2 : nI i < nI (kb_T B c) := nI_lt (by omega) (by omega)
        have he := hk.2.2.2.2.1 c i (by omega)
        have ih := ih (i + 1) (by omega)
        rw [r_104_20]
        by_cases c3 : kb_E B c i = q
        · have c4 : nI (kb_E B c i) = nI q := by rw [c3]
          by_cases c5 : i % 2 = 0
          · have c6 : nI (i % 2) = 0 := by rw [c5]; rfl
            have e9 : kb_k (kb_g B c q i) (kb_n B) ||| 2 ^ c = kb_k (kb_g B c q (i + 1)) (kb_n B) := by
              rw [kb_k_put hc]
              refine kb_k_congr (fun j hj => ?_)
              unfold kb_g
              by_cases z : j = c
              · subst z
                rw [if_pos rfl, if_neg (Nat.lt_irrefl _), if_pos rfl, kb_bt, if_pos c3, decide_eq_true c5]
              · simp only [z, if_false]
            simp only [r_104_0, r_104_1, r_104_2, r_104_3, r_104_7, r_104_8, r_104_11, r_104_14, r_104_17, r_104_18, r_104_22, r_104_23, r_104_26, r_104_29, r_104_31, r_104_34, r_104_37, r_104_38, r_104_41, r_104_43, r_104_45, r_104_48, r_104_49, r_104_52, r_104_53, r_104_55, r_104_56, r_104_58, r_104_60, r_104_61, r_104_62, r_104_65, r_104_66, r_104_68, r_104_69, r_104_72, r_104_73, r_104_75, r_104_76, r_104_77, r_104_78, r_104_79, r_104_82, r_104_85, r_104_88, r_104_91, r_104_92, Option.bind_some, Option.bind_none, Option.toList_some, Option.toList_none, List.cons_append, List.nil_append, Option.map_some, Option.map_none, eq_self, if_true, if_false, reduceIte, ai_bi_eq0, ai_bi_eq1, ai_pb_bi, ai_pb_0, ai_pb_1, f_16_0, f_1_3, x_turns h (show c < 8 by omega), c2, x_turnChapter h hk (show c < 8 by omega) (show i < kb_T B c by omega), c4, pk_rem2 (show i < 2 ^ 31 by omega), c6, ai_or8 _ (kb_k_lt _ hn) c (by omega), e9, nI_1, ih]
          · have c6 : ¬ nI (i % 2) = 0 := by rw [show i % 2 = 1 by omega]; decide
            have e9 : kb_k (kb_g B c q i) (kb_n B) &&& (255 ^^^ 2 ^ c) = kb_k (kb_g B c q (i + 1)) (kb_n B) := by
              rw [kb_k_cut hn hc]
              refine kb_k_congr (fun j hj => ?_)
              unfold kb_g
              by_cases z : j = c
              · subst z
                rw [if_pos rfl, if_neg (Nat.lt_irrefl _), if_pos rfl, kb_bt, if_pos c3, decide_eq_false c5]
              · simp only [z, if_false]
            simp only [r_104_0, r_104_1, r_104_2, r_104_3, r_104_7, r_104_8, r_104_11, r_104_14, r_104_17, r_104_18, r_104_22, r_104_23, r_104_26, r_104_29, r_104_31, r_104_34, r_104_37, r_104_38, r_104_41, r_104_43, r_104_45, r_104_48, r_104_49, r_104_52, r_104_53, r_104_55, r_104_56, r_104_58, r_104_60, r_104_61, r_104_62, r_104_65, r_104_66, r_104_68, r_104_69, r_104_72, r_104_73, r_104_75, r_104_76, r_104_77, r_104_78, r_104_79, r_104_82, r_104_85, r_104_88, r_104_91, r_104_92, Option.bind_some, Option.bind_none, Option.toList_some, Option.toList_none, List.cons_append, List.nil_append, Option.map_some, Option.map_none, eq_self, if_true, if_false, reduceIte, ai_bi_eq0, ai_bi_eq1, ai_pb_bi, ai_pb_0, ai_pb_1, f_16_0, f_1_3, x_turns h (show c < 8 by omega), c2, x_turnChapter h hk (show c < 8 by omega) (show i < kb_T B c by omega), c4, pk_rem2 (show i < 2 ^ 31 by omega), c6, ai_an8 _ (kb_k_lt _ hn) c (by omega), e9, nI_1, ih]
        · have c4 : ¬ nI (kb_E B c i) = nI q := fun z => c3 ((nI_eq (by omega) (by omega)).mp z)
          have e9 : kb_k (kb_g B c q i) (kb_n B) = kb_k (kb_g B c q (i + 1)) (kb_n B) := by
            refine kb_k_congr (fun j hj => ?_)
            unfold kb_g
            rw [kb_bt, if_neg c3]
          simp only [r_104_0, r_104_1, r_104_2, r_104_3, r_104_7, r_104_8, r_104_11, r_104_14, r_104_17, r_104_18, r_104_22, r_104_23, r_104_26, r_104_29, r_104_31, r_104_34, r_104_37, r_104_38, r_104_41, r_104_43, r_104_45, r_104_48, r_104_49, r_104_52, r_104_53, r_104_55, r_104_56, r_104_58, r_104_60, r_104_61, r_104_62, r_104_65, r_104_66, r_104_68, r_104_69, r_104_72, r_104_73, r_104_75, r_104_76, r_104_77, r_104_78, r_104_79, r_104_82, r_104_85, r_104_88, r_104_91, r_104_92, Option.bind_some, Option.bind_none, Option.toList_some, Option.toList_none, List.cons_append, List.nil_append, Option.map_some, Option.map_none, eq_self, if_true, if_false, reduceIte, ai_bi_eq0, ai_bi_eq1, ai_pb_bi, ai_pb_0, ai_pb_1, f_16_0, f_1_3, x_turns h (show c < 8 by omega), c2, x_turnChapter h hk (show c < 8 by omega) (show i < kb_T B c by omega), c4, e9, nI_1, ih]
    rw [r_104_5]
    simp only [r_104_0, r_104_1, r_104_2, r_104_3, r_104_7, r_104_8, r_104_11, r_104_14, r_104_17, r_104_18, r_104_22, r_104_23, r_104_26, r_104_29, r_104_31, r_104_34, r_104_37, r_104_38, r_104_41, r_104_43, r_104_45, r_104_48, r_104_49, r_104_52, r_104_53, r_104_55, r_104_56, r_104_58, r_104_60, r_104_61, r_104_62, r_104_65, r_104_66, r_104_68, r_104_69, r_104_72, r_104_73, r_104_75, r_104_76, r_104_77, r_104_78, r_104_79, r_104_82, r_104_85, r_104_88, r_104_91, r_104_92, Option.bind_some, Option.bind_none, Option.toList_some, Option.toList_none, List.cons_append, List.nil_append, Option.map_some, Option.map_none, eq_self, if_true, if_false, reduceIte, ai_bi_eq0, ai_bi_eq1, ai_pb_bi, ai_pb_0, ai_pb_1, f_16_0, f_1_0, h.1, c1]
    exact inner (kb_T B c) 0 (by omega) _
  have outer : ∀ n c, c + n = kb_n B → ∀ v5 v6, ai_Run 104 5 [.ref 16, .int (nI (kb_set B (q - 1))), .int (nI q), .int (nI (kb_k (kb_g B c q 0) (kb_n B))), .int (nI c), v5, v6] [] (wl w) = some (some (.int (nI (kb_set B q))), wl w) := by
    intro n
    induction n with
    | zero =>
      intro c hc v5 v6
      have c2 : ¬ nI c < nI (kb_n B) := nI_nlt (by omega) (by omega)
      have e9 : kb_k (kb_g B c q 0) (kb_n B) = kb_set B q := kb_k_congr (fun j hj => by unfold kb_g; rw [if_pos (by omega)])
      rw [r_104_5]
      simp only [r_104_0, r_104_1, r_104_2, r_104_3, r_104_7, r_104_8, r_104_11, r_104_14, r_104_17, r_104_18, r_104_22, r_104_23, r_104_26, r_104_29, r_104_31, r_104_34, r_104_37, r_104_38, r_104_41, r_104_43, r_104_45, r_104_48, r_104_49, r_104_52, r_104_53, r_104_55, r_104_56, r_104_58, r_104_60, r_104_61, r_104_62, r_104_65, r_104_66, r_104_68, r_104_69, r_104_72, r_104_73, r_104_75, r_104_76, r_104_77, r_104_78, r_104_79, r_104_82, r_104_85, r_104_88, r_104_91, r_104_92, Option.bind_some, Option.bind_none, Option.toList_some, Option.toList_none, List.cons_append, List.nil_append, Option.map_some, Option.map_none, eq_self, if_true, if_false, reduceIte, ai_bi_eq0, ai_bi_eq1, ai_pb_bi, ai_pb_0, ai_pb_1, f_16_0, f_1_0, h.1, c2, e9]
    | succ n ih =>
      intro c hc
      exact step c (by omega) _ (ih (c + 1) (by omega))
  have e0 : kb_set B (q - 1) = kb_k (kb_g B 0 q 0) (kb_n B) := by
    refine kb_k_congr (fun j hj => ?_)
    unfold kb_g
    rw [if_neg (by omega)]
    split
    · rename_i z; subst z; rfl
    · rfl
  simp only [e_104, o_16, r_104_0, r_104_1, r_104_2, r_104_3, r_104_7, r_104_8, r_104_11, r_104_14, r_104_17, r_104_18, r_104_22, r_104_23, r_104_26, r_104_29, r_104_31, r_104_34, r_104_37, r_104_38, r_104_41, r_104_43, r_104_45, r_104_48, r_104_49, r_104_52, r_104_53, r_104_55, r_104_56, r_104_58, r_104_60, r_104_61, r_104_62, r_104_65, r_104_66, r_104_68, r_104_69, r_104_72, r_104_73, r_104_75, r_104_76, r_104_77, r_104_78, r_104_79, r_104_82, r_104_85, r_104_88, r_104_91, r_104_92, Option.bind_some, Option.bind_none, Option.toList_some, Option.toList_none, List.cons_append, List.nil_append, Option.map_some, Option.map_none, eq_self, if_true, if_false, reduceIte, ai_bi_eq0, ai_bi_eq1, ai_pb_bi, ai_pb_0, ai_pb_1]
  have := outer (kb_n B) 0 (by omega) .null .null
  rw [← e0] at this
  exact this
theorem kb_set0 {B : kb_B} (hk : kb_ok B) : kb_set B 0 = 0 := by
  have e : ∀ c, kb_dead B c 0 = false := fun c => by
    have : kb_c B c 0 = 0 := by
      rcases Nat.eq_zero_or_pos (kb_c B c 0) with z | z
      · exact z
      · have hT := kb_c_le (B := B) c 0
        have h1 := (kb_c_iff hk (c := c) (h := 0) (k := 0) (by omega)).mpr z
        have h2 := hk.2.2.2.2.1 c 0 (by omega)
        omega
    unfold kb_dead
    rw [this]
    rfl
  unfold kb_set
  rw [kb_k_congr (g := fun _ => false) (fun j _ => e j)]
  generalize kb_n B = n
  induction n with
  | zero => rfl
  | succ n ih => rw [kb_k, ih]; simp
theorem x_deadByChapters (h : kb_x (xw_b w) B) (hk : kb_ok B) {q : Nat} (hq : 1 ≤ q ∧ q ≤ 30) : ai_Call 105 [.ref 16, .int (nI q)] (wl w) = some (some (.int (nI (kb_set B q))), wl w) := by
  have step : ∀ i, i < q → ai_Run 105 4 [.ref 16, .int (nI q), .int (nI (kb_set B i)), .int (nI (i + 1))] [] (wl w) = ai_Run 105 4 [.ref 16, .int (nI q), .int (nI (kb_set B (i + 1))), .int (nI (i + 1 + 1))] [] (wl w) := by
    intro i hi
    have c1 : ¬ nI q < nI (i + 1) := nI_nlt (by omega) (by omega)
    have c2 : ¬ (30 : Int32) < nI (i + 1) := nI_nlt (b := i + 1) (a := 30) (by omega) (by decide)
    have g := x_afterChapter h hk (q := i + 1) (by omega)
    rw [Nat.add_sub_cancel] at g
    rw [r_105_4]
    simp only [r_105_0, r_105_1, r_105_2, r_105_3, r_105_5, r_105_6, r_105_9, r_105_10, r_105_12, r_105_15, r_105_16, r_105_17, r_105_18, r_105_21, r_105_22, r_105_25, r_105_28, r_105_29, Option.bind_some, Option.bind_none, Option.toList_some, Option.toList_none, List.cons_append, List.nil_append, Option.map_some, Option.map_none, eq_self, if_true, if_false, reduceIte, ai_bi_eq0, ai_bi_eq1, ai_pb_bi, ai_pb_0, ai_pb_1, c1, c2, g, nI_1]
  have e := lp_n (fun i => ai_Run 105 4 [.ref 16, .int (nI q), .int (nI (kb_set B i)), .int (nI (i + 1))] [] (wl w)) q step
  have c2 : nI q < nI (q + 1) := nI_lt (by omega) (by omega)
  simp only [e_105, o_16, r_105_0, r_105_1, r_105_2, r_105_3, r_105_5, r_105_6, r_105_9, r_105_10, r_105_12, r_105_15, r_105_16, r_105_17, r_105_18, r_105_21, r_105_22, r_105_25, r_105_28, r_105_29, Option.bind_some, Option.bind_none, Option.toList_some, Option.toList_none, List.cons_append, List.nil_append, Option.map_some, Option.map_none, eq_self, if_true, if_false, reduceIte, ai_bi_eq0, ai_bi_eq1, ai_pb_bi, ai_pb_0, ai_pb_1]
  rw [show (0 : Int32) = nI (kb_set B 0) by rw [kb_set0 hk]; rfl]
  refine e.trans ?_
  rw [r_105_4]
  simp only [r_105_0, r_105_1, r_105_2, r_105_3, r_105_5, r_105_6, r_105_9, r_105_10, r_105_12, r_105_15, r_105_16, r_105_17, r_105_18, r_105_21, r_105_22, r_105_25, r_105_28, r_105_29, Option.bind_some, Option.bind_none, Option.toList_some, Option.toList_none, List.cons_append, List.nil_append, Option.map_some, Option.map_none, eq_self, if_true, if_false, reduceIte, ai_bi_eq0, ai_bi_eq1, ai_pb_bi, ai_pb_0, ai_pb_1, c2]
theorem x_deadAgree (h : kb_x (xw_b w) B) (hk : kb_ok B) : ai_Call 111 [.ref 16] (wl w) = some (some (.int 1), wl w) := by
  have step : ∀ i, i < 30 → ai_Run 111 4 [.ref 16, .int (nI (kb_set B i)), .int (nI (i + 1))] [] (wl w) = ai_Run 111 4 [.ref 16, .int (nI (kb_set B (i + 1))), .int (nI (i + 1 + 1))] [] (wl w) := by
    intro i hi
    have c2 : ¬ (30 : Int32) < nI (i + 1) := nI_nlt (b := i + 1) (a := 30) (by omega) (by decide)
    have g := x_afterChapter h hk (q := i + 1) (by omega)
    rw [Nat.add_sub_cancel] at g
    rw [r_111_4]
    simp only [r_111_0, r_111_1, r_111_2, r_111_3, r_111_5, r_111_7, r_111_10, r_111_11, r_111_12, r_111_13, r_111_16, r_111_17, r_111_18, r_111_19, r_111_22, r_111_23, r_111_26, r_111_27, r_111_28, r_111_31, r_111_34, r_111_35, Option.bind_some, Option.bind_none, Option.toList_some, Option.toList_none, List.cons_append, List.nil_append, Option.map_some, Option.map_none, eq_self, if_true, if_false, reduceIte, ai_bi_eq0, ai_bi_eq1, ai_pb_bi, ai_pb_0, ai_pb_1, c2, g, x_deadByLatest h hk (show i + 1 ≤ 30 by omega), nI_1]
  have e := lp_n (fun i => ai_Run 111 4 [.ref 16, .int (nI (kb_set B i)), .int (nI (i + 1))] [] (wl w)) 30 step
  have c2 : (30 : Int32) < nI (30 + 1) := by decide
  simp only [e_111, o_16, r_111_0, r_111_1, r_111_2, r_111_3, r_111_5, r_111_7, r_111_10, r_111_11, r_111_12, r_111_13, r_111_16, r_111_17, r_111_18, r_111_19, r_111_22, r_111_23, r_111_26, r_111_27, r_111_28, r_111_31, r_111_34, r_111_35, Option.bind_some, Option.bind_none, Option.toList_some, Option.toList_none, List.cons_append, List.nil_append, Option.map_some, Option.map_none, eq_self, if_true, if_false, reduceIte, ai_bi_eq0, ai_bi_eq1, ai_pb_bi, ai_pb_0, ai_pb_1]
  rw [show (0 : Int32) = nI (kb_set B 0) by rw [kb_set0 hk]; rfl]
  refine e.trans ?_
  rw [r_111_4]
  simp only [r_111_0, r_111_1, r_111_2, r_111_3, r_111_5, r_111_7, r_111_10, r_111_11, r_111_12, r_111_13, r_111_16, r_111_17, r_111_18, r_111_19, r_111_22, r_111_23, r_111_26, r_111_27, r_111_28, r_111_31, r_111_34, r_111_35, Option.bind_some, Option.bind_none, Option.toList_some, Option.toList_none, List.cons_append, List.nil_append, Option.map_some, Option.map_none, eq_self, if_true, if_false, reduceIte, ai_bi_eq0, ai_bi_eq1, ai_pb_bi, ai_pb_0, ai_pb_1, c2]
end XB

