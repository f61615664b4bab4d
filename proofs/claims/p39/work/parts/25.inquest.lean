/-! Sets of characters as masks; the class's questions who is dead, who could have caused a death, the suspect by characters. -/
def kb_k (f : Nat → Bool) : Nat → Nat
  | 0 => 0
  | n + 1 => kb_k f n ||| (if f n = true then 2 ^ n else 0)
theorem kb_k_bit (f : Nat → Bool) (j : Nat) : ∀ n, (kb_k f n).testBit j = (decide (j < n) && f j) := by
  intro n
  induction n with
  | zero => simp [kb_k]
  | succ n ih =>
    rw [kb_k, Nat.testBit_or, ih]
    by_cases hj : j = n
    · subst hj
      by_cases hf : f j = true
      · simp [hf, Nat.testBit_two_pow]
      · simp [hf]
    · by_cases hf : f n = true
      · have e : (2 ^ n).testBit j = false := by rw [Nat.testBit_two_pow]; simp; omega
        rw [if_pos hf, e]
        by_cases h1 : j < n
        · simp [h1, show j < n + 1 by omega]
        · simp [h1, show ¬ j < n + 1 by omega]
      · rw [if_neg hf]
        by_cases h1 : j < n
        · simp [h1, show j < n + 1 by omega]
        · simp [h1, show ¬ j < n + 1 by omega]
theorem kb_k_lt2 (f : Nat → Bool) (n : Nat) : kb_k f n < 2 ^ n := by
  induction n with
  | zero => exact Nat.one_pos
  | succ n ih =>
    rw [kb_k]
    have h1 : 2 ^ n < 2 ^ (n + 1) := Nat.pow_lt_pow_right (by decide) (Nat.lt_succ_self n)
    refine Nat.or_lt_two_pow (by omega) ?_
    split
    · exact h1
    · omega
theorem kb_k_lt (f : Nat → Bool) {n : Nat} (hn : n ≤ 8) : kb_k f n < 256 := by
  have h1 := kb_k_lt2 f n
  have h2 : 2 ^ n ≤ 2 ^ 8 := Nat.pow_le_pow_right (by decide) hn
  omega
theorem kb_k_congr {f g : Nat → Bool} {n : Nat} (h : ∀ i, i < n → f i = g i) : kb_k f n = kb_k g n := by
  induction n with
  | zero => rfl
  | succ n ih => rw [kb_k, kb_k, ih (fun i hi => h i (by omega)), h n (Nat.lt_succ_self n)]
theorem ai_or8 : ∀ m, m < 256 → ∀ c, c < 8 → nI m ||| ((1 : Int32) <<< (nI c &&& 31)) = nI (m ||| 2 ^ c) := by
  have h : (List.range 256).all (fun m => (List.range 8).all fun c => decide (nI m ||| ((1 : Int32) <<< (nI c &&& 31)) = nI (m ||| 2 ^ c))) = true := by decide +kernel
  intro m hm c hc
  exact of_decide_eq_true (List.all_eq_true.mp (List.all_eq_true.mp h m (List.mem_range.mpr hm)) c (List.mem_range.mpr hc))
theorem ai_an8 : ∀ m, m < 256 → ∀ c, c < 8 → nI m &&& (((1 : Int32) <<< (nI c &&& 31)) ^^^ (-1)) = nI (m &&& (255 ^^^ 2 ^ c)) := by
  have h : (List.range 256).all (fun m => (List.range 8).all fun c => decide (nI m &&& (((1 : Int32) <<< (nI c &&& 31)) ^^^ (-1)) = nI (m &&& (255 ^^^ 2 ^ c)))) = true := by decide +kernel
  intro m hm c hc
  exact of_decide_eq_true (List.all_eq_true.mp (List.all_eq_true.mp h m (List.mem_range.mpr hm)) c (List.mem_range.mpr hc))
/-- Integer.bitCount -/
def ai_bc1 (x : Int32) : Int32 := x - ((x.toUInt32 >>> ((1 : Int32).toUInt32 &&& Int32.toUInt32 31)).toInt32 &&& 1431655765)
def ai_bc2 (x : Int32) : Int32 := (x &&& 858993459) + ((x.toUInt32 >>> ((2 : Int32).toUInt32 &&& Int32.toUInt32 31)).toInt32 &&& 858993459)
def ai_bc3 (x : Int32) : Int32 := (x + (x.toUInt32 >>> ((4 : Int32).toUInt32 &&& Int32.toUInt32 31)).toInt32) &&& 252645135
def ai_bc4 (x : Int32) : Int32 := x + (x.toUInt32 >>> ((8 : Int32).toUInt32 &&& Int32.toUInt32 31)).toInt32
def ai_bc5 (x : Int32) : Int32 := x + (x.toUInt32 >>> ((16 : Int32).toUInt32 &&& Int32.toUInt32 31)).toInt32
def ai_bc (x : Int32) : Int32 := ai_bc5 (ai_bc4 (ai_bc3 (ai_bc2 (ai_bc1 x)))) &&& 63
theorem x_bitCount (x : Int32) (ws : ai_W) : ai_Call 100 [.int x] ws = some (some (.int (ai_bc x)), ws) := by
  simp only [e_100, r_100_0, r_100_1, r_100_2, r_100_3, r_100_4, r_100_7, r_100_8, r_100_9, r_100_10, r_100_11, r_100_14, r_100_15, r_100_16, r_100_17, r_100_18, r_100_21, r_100_22, r_100_23, r_100_24, r_100_25, r_100_26, r_100_27, r_100_28, r_100_29, r_100_32, r_100_33, r_100_34, r_100_35, r_100_36, r_100_38, r_100_39, r_100_40, r_100_41, r_100_42, r_100_43, r_100_45, r_100_46, r_100_47, r_100_48, r_100_49, r_100_51, r_100_52, Option.bind_some, Option.bind_none, Option.toList_some, Option.toList_none, List.cons_append, List.nil_append, Option.map_some, Option.map_none, eq_self, if_true, if_false, reduceIte, ai_bi_eq0, ai_bi_eq1, ai_pb_bi, ai_pb_0, ai_pb_1]
  rfl
theorem ai_bc8 : ∀ m, m < 256 → ai_bc (nI m) = nI (kb_s (fun j => kb_i (m.testBit j)) 8) := by
  have h : (List.range 256).all (fun m => decide (ai_bc (nI m) = nI (kb_s (fun j => kb_i (m.testBit j)) 8))) = true := by decide +kernel
  intro m hm
  exact of_decide_eq_true (List.all_eq_true.mp h m (List.mem_range.mpr hm))
theorem kb_s_tail {f : Nat → Nat} {n m : Nat} (h : n ≤ m) (h0 : ∀ i, n ≤ i → f i = 0) : kb_s f m = kb_s f n := by
  obtain ⟨k, rfl⟩ := Nat.exists_eq_add_of_le h
  clear h
  induction k with
  | zero => rfl
  | succ k ih =>
    rw [← Nat.add_assoc, kb_s, h0 (n + k) (by omega)]
    exact ih
theorem ai_bck {f : Nat → Bool} {n : Nat} (hn : n ≤ 8) : ai_bc (nI (kb_k f n)) = nI (kb_s (fun c => kb_i (f c)) n) := by
  rw [ai_bc8 _ (kb_k_lt f hn)]
  congr 1
  rw [kb_s_tail (n := n) hn (fun i hi => by rw [kb_k_bit]; simp [show ¬ i < n by omega, kb_i])]
  exact kb_s_congr (fun i hi => by rw [kb_k_bit]; simp [hi])
-- the book's answers
def kb_set (B : kb_B) (h : Nat) : Nat := kb_k (fun c => kb_dead B c h) (kb_n B)
def kb_dm (B : kb_B) (h : Nat) : Nat := kb_s (fun c => kb_i (kb_dead B c h)) (kb_n B)
/-- the darkest chapter of 1 to i + 1 -/
def kb_bs (f : Nat → Nat) : Nat → Nat
  | 0 => 1
  | i + 1 => if f (kb_bs f i) < f (i + 2) then i + 2 else kb_bs f i
theorem kb_bs_in (f : Nat → Nat) (i : Nat) : 1 ≤ kb_bs f i ∧ kb_bs f i ≤ i + 1 := by
  induction i with
  | zero => exact ⟨Nat.le_refl _, Nat.le_refl _⟩
  | succ i ih =>
    rw [kb_bs]
    split <;> omega
def kb_could (B : kb_B) (c o d : Nat) : Bool := decide (0 < kb_M B c o) && !kb_dead B c (kb_E B o (2 * d) - 1)
def kb_su (B : kb_B) (o d : Nat) : Nat → Nat × Int32
  | 0 => (0, (-4))
  | i + 1 => if (kb_su B o d i).1 < kb_M B i o ∧ kb_could B i o d = true then (kb_M B i o, nI i) else kb_su B o d i
theorem kb_su_le {B : kb_B} (hk : kb_ok B) (o d i : Nat) : (kb_su B o d i).1 ≤ 9 := by
  induction i with
  | zero => exact Nat.zero_le _
  | succ i ih =>
    rw [kb_su]
    split
    · exact hk.2.2.2.2.2.2.2.2.1 i o
    · exact ih
/-- two characters, and a death of the second -/
def kb_case (B : kb_B) (x y z : Int32) : Bool := ai_is (kb_n B) x && ai_is (kb_n B) y && ai_is (kb_d B y.toNatClampNeg) z
theorem kb_case_of {B : kb_B} (hk : kb_ok B) {x y z : Int32} (h : kb_case B x y z = true) : ∃ c o d, c < kb_n B ∧ o < kb_n B ∧ d < kb_d B o ∧ x = nI c ∧ y = nI o ∧ z = nI d := by
  have hn := hk.1
  unfold kb_case at h
  simp only [Bool.and_eq_true] at h
  obtain ⟨c, hc, rfl⟩ := ai_is_of (by omega) h.1.1
  obtain ⟨o, ho, rfl⟩ := ai_is_of (by omega) h.1.2
  have h3 := kb_d3 hk o
  rw [nI_clamp (show o < 2 ^ 31 by omega)] at h
  obtain ⟨d, hd, rfl⟩ := ai_is_of (by omega) h.2
  exact ⟨c, o, d, hc, ho, hd, rfl, rfl, rfl⟩
section XB
variable {w : xw_W} {B : kb_B}
theorem x_isCase (h : kb_x (xw_b w) B) (hk : kb_ok B) (x y z : Int32) : ai_Call 83 [.ref 1, .int x, .int y, .int z] (wl w) = some (some (.int (ai_bi (kb_case B x y z))), wl w) := by
  have hn := hk.1
  unfold kb_case
  by_cases c1 : ai_is (kb_n B) x = true
  · obtain ⟨c, hc, rfl⟩ := ai_is_of (by omega) c1
    by_cases c2 : ai_is (kb_n B) y = true
    · obtain ⟨o, ho, rfl⟩ := ai_is_of (by omega) c2
      rw [nI_clamp (show o < 2 ^ 31 by omega)]
      by_cases c3 : ai_is (kb_d B o) z = true
      · simp only [e_83, o_1, r_83_0, r_83_1, r_83_2, r_83_5, r_83_8, r_83_9, r_83_10, r_83_13, r_83_16, r_83_17, r_83_18, r_83_19, r_83_22, r_83_25, r_83_26, r_83_29, r_83_30, Option.bind_some, Option.bind_none, Option.toList_some, Option.toList_none, List.cons_append, List.nil_append, Option.map_some, Option.map_none, eq_self, if_true, if_false, reduceIte, ai_bi_eq0, ai_bi_eq1, ai_pb_bi, ai_pb_0, ai_pb_1, x_isCharacter h, c1, c2, x_isDeath h hk (show o < 8 by omega), c3, Bool.true_eq_false, Bool.and_true, Bool.and_self]
        rfl
      · have c3' : ai_is (kb_d B o) z = false := by simpa using c3
        simp only [e_83, o_1, r_83_0, r_83_1, r_83_2, r_83_5, r_83_8, r_83_9, r_83_10, r_83_13, r_83_16, r_83_17, r_83_18, r_83_19, r_83_22, r_83_25, r_83_26, r_83_29, r_83_30, Option.bind_some, Option.bind_none, Option.toList_some, Option.toList_none, List.cons_append, List.nil_append, Option.map_some, Option.map_none, eq_self, if_true, if_false, reduceIte, ai_bi_eq0, ai_bi_eq1, ai_pb_bi, ai_pb_0, ai_pb_1, x_isCharacter h, c1, c2, x_isDeath h hk (show o < 8 by omega), c3', Bool.true_eq_false, Bool.and_false]
        rfl
    · have c2' : ai_is (kb_n B) y = false := by simpa using c2
      simp only [e_83, o_1, r_83_0, r_83_1, r_83_2, r_83_5, r_83_8, r_83_9, r_83_10, r_83_13, r_83_16, r_83_17, r_83_18, r_83_19, r_83_22, r_83_25, r_83_26, r_83_29, r_83_30, Option.bind_some, Option.bind_none, Option.toList_some, Option.toList_none, List.cons_append, List.nil_append, Option.map_some, Option.map_none, eq_self, if_true, if_false, reduceIte, ai_bi_eq0, ai_bi_eq1, ai_pb_bi, ai_pb_0, ai_pb_1, x_isCharacter h, c1, c2', Bool.true_eq_false, Bool.and_false, Bool.false_and]
      rfl
  · have c1' : ai_is (kb_n B) x = false := by simpa using c1
    simp only [e_83, o_1, r_83_0, r_83_1, r_83_2, r_83_5, r_83_8, r_83_9, r_83_10, r_83_13, r_83_16, r_83_17, r_83_18, r_83_19, r_83_22, r_83_25, r_83_26, r_83_29, r_83_30, Option.bind_some, Option.bind_none, Option.toList_some, Option.toList_none, List.cons_append, List.nil_append, Option.map_some, Option.map_none, eq_self, if_true, if_false, reduceIte, ai_bi_eq0, ai_bi_eq1, ai_pb_bi, ai_pb_0, ai_pb_1, x_isCharacter h, c1', Bool.false_and]
    rfl
theorem x_deadByLatest (h : kb_x (xw_b w) B) (hk : kb_ok B) {q : Nat} (hq : q ≤ 30) : ai_Call 99 [.ref 16, .int (nI q)] (wl w) = some (some (.int (nI (kb_set B q))), wl w) := by
  have hn := hk.1
  have step : ∀ i, i < kb_n B → ai_Run 99 4 [.ref 16, .int (nI q), .int (nI (kb_k (fun c => kb_dead B c q) i)), .int (nI i)] [] (wl w) = ai_Run 99 4 [.ref 16, .int (nI q), .int (nI (kb_k (fun c => kb_dead B c q) (i + 1))), .int (nI (i + 1))] [] (wl w) := by
    intro i hi
    have c1 : nI i < nI (kb_n B) := nI_lt hi (by omega)
    rw [r_99_4]
    by_cases c2 : kb_dead B i q = true
    · simp only [r_99_0, r_99_1, r_99_2, r_99_3, r_99_5, r_99_6, r_99_9, r_99_12, r_99_15, r_99_16, r_99_17, r_99_18, r_99_21, r_99_24, r_99_25, r_99_26, r_99_27, r_99_28, r_99_29, r_99_30, r_99_33, r_99_36, r_99_37, Option.bind_some, Option.bind_none, Option.toList_some, Option.toList_none, List.cons_append, List.nil_append, Option.map_some, Option.map_none, eq_self, if_true, if_false, reduceIte, ai_bi_eq0, ai_bi_eq1, ai_pb_bi, ai_pb_0, ai_pb_1, f_16_0, f_1_0, h.1, c1, x_isDeadIn h hk (show i < 8 by omega) hq, c2, nI_1, Bool.true_eq_false, ai_or8 _ (kb_k_lt _ (show i ≤ 8 by omega)) i (by omega)]
      rw [kb_k, if_pos c2]
    · have c2' : kb_dead B i q = false := by simpa using c2
      simp only [r_99_0, r_99_1, r_99_2, r_99_3, r_99_5, r_99_6, r_99_9, r_99_12, r_99_15, r_99_16, r_99_17, r_99_18, r_99_21, r_99_24, r_99_25, r_99_26, r_99_27, r_99_28, r_99_29, r_99_30, r_99_33, r_99_36, r_99_37, Option.bind_some, Option.bind_none, Option.toList_some, Option.toList_none, List.cons_append, List.nil_append, Option.map_some, Option.map_none, eq_self, if_true, if_false, reduceIte, ai_bi_eq0, ai_bi_eq1, ai_pb_bi, ai_pb_0, ai_pb_1, f_16_0, f_1_0, h.1, c1, x_isDeadIn h hk (show i < 8 by omega) hq, c2', nI_1]
      rw [kb_k, if_neg c2, Nat.or_zero]
  have e := lp_n (fun i => ai_Run 99 4 [.ref 16, .int (nI q), .int (nI (kb_k (fun c => kb_dead B c q) i)), .int (nI i)] [] (wl w)) _ step
  have c2 : ¬ nI (kb_n B) < nI (kb_n B) := nI_nlt (Nat.le_refl _) (by omega)
  simp only [e_99, o_16, r_99_0, r_99_1, r_99_2, r_99_3, r_99_5, r_99_6, r_99_9, r_99_12, r_99_15, r_99_16, r_99_17, r_99_18, r_99_21, r_99_24, r_99_25, r_99_26, r_99_27, r_99_28, r_99_29, r_99_30, r_99_33, r_99_36, r_99_37, Option.bind_some, Option.bind_none, Option.toList_some, Option.toList_none, List.cons_append, List.nil_append, Option.map_some, Option.map_none, eq_self, if_true, if_false, reduceIte, ai_bi_eq0, ai_bi_eq1, ai_pb_bi, ai_pb_0, ai_pb_1]
  refine e.trans ?_
  rw [r_99_4]
  simp only [r_99_0, r_99_1, r_99_2, r_99_3, r_99_5, r_99_6, r_99_9, r_99_12, r_99_15, r_99_16, r_99_17, r_99_18, r_99_21, r_99_24, r_99_25, r_99_26, r_99_27, r_99_28, r_99_29, r_99_30, r_99_33, r_99_36, r_99_37, Option.bind_some, Option.bind_none, Option.toList_some, Option.toList_none, List.cons_append, List.nil_append, Option.map_some, Option.map_none, eq_self, if_true, if_false, reduceIte, ai_bi_eq0, ai_bi_eq1, ai_pb_bi, ai_pb_0, ai_pb_1, f_16_0, f_1_0, h.1, c2]
  rfl
theorem x_darkestChapter (h : kb_x (xw_b w) B) (hk : kb_ok B) : ai_Call 101 [.ref 16] (wl w) = some (some (.int (nI (kb_bs (kb_dm B) 29))), wl w) := by
  have hn := hk.1
  have hle : ∀ q, kb_dm B q ≤ 8 := fun q => by
    have := kb_s_le (f := fun c => kb_i (kb_dead B c q)) (k := 1) (fun i => kb_i_le _) (kb_n B)
    unfold kb_dm
    omega
  have hb : ∀ q, ai_bc (nI (kb_set B q)) = nI (kb_dm B q) := fun q => ai_bck hn
  have step : ∀ i, i < 30 → ai_Run 101 6 [.ref 16, .int (nI (kb_bs (kb_dm B) (i - 1))), .int (nI (if i = 0 then 0 else kb_dm B (kb_bs (kb_dm B) (i - 1)))), .int (nI (i + 1)), if i = 0 then .null else .int (nI (kb_dm B i))] [] (wl w) = ai_Run 101 6 [.ref 16, .int (nI (kb_bs (kb_dm B) (i + 1 - 1))), .int (nI (if i + 1 = 0 then 0 else kb_dm B (kb_bs (kb_dm B) (i + 1 - 1)))), .int (nI (i + 1 + 1)), if i + 1 = 0 then .null else .int (nI (kb_dm B (i + 1)))] [] (wl w) := by
    intro i hi
    have c1 : ¬ (30 : Int32) < nI (i + 1) := nI_nlt (b := i + 1) (a := 30) (by omega) (by decide)
    have c9 : ¬ i + 1 = 0 := by omega
    rw [r_101_6]
    simp only [r_101_0, r_101_1, r_101_2, r_101_3, r_101_4, r_101_5, r_101_7, r_101_9, r_101_12, r_101_13, r_101_14, r_101_17, r_101_20, r_101_22, r_101_24, r_101_25, r_101_28, r_101_30, r_101_31, r_101_32, r_101_33, r_101_36, r_101_39, r_101_40, Option.bind_some, Option.bind_none, Option.toList_some, Option.toList_none, List.cons_append, List.nil_append, Option.map_some, Option.map_none, eq_self, if_true, if_false, reduceIte, ai_bi_eq0, ai_bi_eq1, ai_pb_bi, ai_pb_0, ai_pb_1, c1, x_deadByLatest h hk (show i + 1 ≤ 30 by omega), x_bitCount, hb, nI_1, c9, Nat.add_sub_cancel]
    generalize hz : (if i = 0 then 0 else kb_dm B (kb_bs (kb_dm B) (i - 1))) = z
    have hz8 : z ≤ 8 := by
      rw [← hz]
      split
      · omega
      · exact hle _
    have h1 := hle (i + 1)
    by_cases c2 : z < kb_dm B (i + 1)
    · have c3 : nI z < nI (kb_dm B (i + 1)) := nI_lt c2 (by omega)
      simp only [c3, Option.bind_some, Option.bind_none, Option.toList_some, Option.toList_none, List.cons_append, List.nil_append, Option.map_some, Option.map_none, eq_self, if_true, if_false, reduceIte, ai_bi_eq0, ai_bi_eq1, ai_pb_bi, ai_pb_0, ai_pb_1]
      have e1 : kb_bs (kb_dm B) i = i + 1 := by
        cases i with
        | zero => rfl
        | succ i =>
          rw [if_neg (by omega), Nat.add_sub_cancel] at hz
          rw [kb_bs, if_pos (by rw [hz]; exact c2)]
      rw [e1]
    · have c3 : ¬ nI z < nI (kb_dm B (i + 1)) := nI_nlt (by omega) (by omega)
      simp only [c3, Option.bind_some, Option.bind_none, Option.toList_some, Option.toList_none, List.cons_append, List.nil_append, Option.map_some, Option.map_none, eq_self, if_true, if_false, reduceIte, ai_bi_eq0, ai_bi_eq1, ai_pb_bi, ai_pb_0, ai_pb_1]
      have e1 : kb_bs (kb_dm B) i = kb_bs (kb_dm B) (i - 1) ∧ kb_dm B (kb_bs (kb_dm B) i) = z := by
        cases i with
        | zero =>
          rw [if_pos rfl] at hz
          refine ⟨rfl, ?_⟩
          show kb_dm B 1 = z
          have : kb_dm B (0 + 1) = kb_dm B 1 := rfl
          omega
        | succ i =>
          rw [if_neg (by omega), Nat.add_sub_cancel] at hz
          have : kb_bs (kb_dm B) (i + 1) = kb_bs (kb_dm B) i := by rw [kb_bs, if_neg (by rw [hz]; exact c2)]
          rw [this, Nat.add_sub_cancel]
          exact ⟨rfl, hz⟩
      rw [e1.2, e1.1]
  have e := lp_n (fun i => ai_Run 101 6 [.ref 16, .int (nI (kb_bs (kb_dm B) (i - 1))), .int (nI (if i = 0 then 0 else kb_dm B (kb_bs (kb_dm B) (i - 1)))), .int (nI (i + 1)), if i = 0 then .null else .int (nI (kb_dm B i))] [] (wl w)) 30 step
  simp only [e_101, o_16, r_101_0, r_101_1, r_101_2, r_101_3, r_101_4, r_101_5, r_101_7, r_101_9, r_101_12, r_101_13, r_101_14, r_101_17, r_101_20, r_101_22, r_101_24, r_101_25, r_101_28, r_101_30, r_101_31, r_101_32, r_101_33, r_101_36, r_101_39, r_101_40, Option.bind_some, Option.bind_none, Option.toList_some, Option.toList_none, List.cons_append, List.nil_append, Option.map_some, Option.map_none, eq_self, if_true, if_false, reduceIte, ai_bi_eq0, ai_bi_eq1, ai_pb_bi, ai_pb_0, ai_pb_1]
  refine e.trans ?_
  have c2 : (30 : Int32) < nI (30 + 1) := by decide
  rw [r_101_6]
  simp only [r_101_0, r_101_1, r_101_2, r_101_3, r_101_4, r_101_5, r_101_7, r_101_9, r_101_12, r_101_13, r_101_14, r_101_17, r_101_20, r_101_22, r_101_24, r_101_25, r_101_28, r_101_30, r_101_31, r_101_32, r_101_33, r_101_36, r_101_39, r_101_40, Option.bind_some, Option.bind_none, Option.toList_some, Option.toList_none, List.cons_append, List.nil_append, Option.map_some, Option.map_none, eq_self, if_true, if_false, reduceIte, ai_bi_eq0, ai_bi_eq1, ai_pb_bi, ai_pb_0, ai_pb_1, c2]
theorem x_couldCause (h : kb_x (xw_b w) B) (hk : kb_ok B) {c o d : Nat} (hc : c < 8) (ho : o < 8) (hd : d < kb_d B o) : ai_Call 85 [.ref 16, .int (nI c), .int (nI o), .int (nI d)] (wl w) = some (some (.int (ai_bi (kb_could B c o d))), wl w) := by
  have hm := hk.2.2.2.2.2.2.2.2.1 c o
  have he := hk.2.2.2.2.1 o (2 * d) (by unfold kb_d at hd; omega)
  obtain ⟨e, he2⟩ : ∃ e, kb_E B o (2 * d) = e + 1 := ⟨kb_E B o (2 * d) - 1, by omega⟩
  have hdc := x_deathChapter h hk ho hd
  rw [he2] at hdc
  unfold kb_could
  rw [he2, Nat.add_sub_cancel]
  by_cases c1 : 0 < kb_M B c o
  · have c2 : 0 < nI (kb_M B c o) := nI_lt c1 (by omega)
    by_cases c3 : kb_dead B c e = true
    · simp only [e_85, o_16, r_85_0, r_85_1, r_85_4, r_85_5, r_85_6, r_85_9, r_85_12, r_85_13, r_85_14, r_85_15, r_85_18, r_85_19, r_85_20, r_85_23, r_85_24, r_85_25, r_85_28, r_85_31, r_85_32, r_85_35, r_85_36, Option.bind_some, Option.bind_none, Option.toList_some, Option.toList_none, List.cons_append, List.nil_append, Option.map_some, Option.map_none, eq_self, if_true, if_false, reduceIte, ai_bi_eq0, ai_bi_eq1, ai_pb_bi, ai_pb_0, ai_pb_1, f_16_0, x_motivePages h hc ho, c1, c2, hdc, nI_pred, x_isDeadIn h hk hc (show e ≤ 30 by omega), c3, Bool.true_eq_false, Bool.not_true, Bool.and_false]
      rfl
    · have c3' : kb_dead B c e = false := by simpa using c3
      simp only [e_85, o_16, r_85_0, r_85_1, r_85_4, r_85_5, r_85_6, r_85_9, r_85_12, r_85_13, r_85_14, r_85_15, r_85_18, r_85_19, r_85_20, r_85_23, r_85_24, r_85_25, r_85_28, r_85_31, r_85_32, r_85_35, r_85_36, Option.bind_some, Option.bind_none, Option.toList_some, Option.toList_none, List.cons_append, List.nil_append, Option.map_some, Option.map_none, eq_self, if_true, if_false, reduceIte, ai_bi_eq0, ai_bi_eq1, ai_pb_bi, ai_pb_0, ai_pb_1, f_16_0, x_motivePages h hc ho, c1, c2, hdc, nI_pred, x_isDeadIn h hk hc (show e ≤ 30 by omega), c3', Bool.not_false, decide_true, Bool.and_true]
      rfl
  · have c2 : ¬ 0 < nI (kb_M B c o) := nI_nlt (b := kb_M B c o) (a := 0) (by omega) (by omega)
    simp only [e_85, o_16, r_85_0, r_85_1, r_85_4, r_85_5, r_85_6, r_85_9, r_85_12, r_85_13, r_85_14, r_85_15, r_85_18, r_85_19, r_85_20, r_85_23, r_85_24, r_85_25, r_85_28, r_85_31, r_85_32, r_85_35, r_85_36, Option.bind_some, Option.bind_none, Option.toList_some, Option.toList_none, List.cons_append, List.nil_append, Option.map_some, Option.map_none, eq_self, if_true, if_false, reduceIte, ai_bi_eq0, ai_bi_eq1, ai_pb_bi, ai_pb_0, ai_pb_1, f_16_0, x_motivePages h hc ho, c1, c2, decide_false, Bool.false_and]
    rfl
theorem x_possibleCulprits (h : kb_x (xw_b w) B) (hk : kb_ok B) {o d : Nat} (ho : o < 8) (hd : d < kb_d B o) : ai_Call 107 [.ref 16, .int (nI o), .int (nI d)] (wl w) = some (some (.int (nI (kb_s (fun c => kb_i (kb_could B c o d)) (kb_n B)))), wl w) := by
  have hn := hk.1
  have step : ∀ i, i < kb_n B → ai_Run 107 5 [.ref 16, .int (nI o), .int (nI d), .int (nI (kb_s (fun c => kb_i (kb_could B c o d)) i)), .int (nI i)] [] (wl w) = ai_Run 107 5 [.ref 16, .int (nI o), .int (nI d), .int (nI (kb_s (fun c => kb_i (kb_could B c o d)) (i + 1))), .int (nI (i + 1))] [] (wl w) := by
    intro i hi
    have c1 : nI i < nI (kb_n B) := nI_lt hi (by omega)
    rw [r_107_5]
    by_cases c2 : kb_could B i o d = true
    · simp only [r_107_0, r_107_1, r_107_2, r_107_3, r_107_7, r_107_8, r_107_11, r_107_14, r_107_17, r_107_18, r_107_20, r_107_21, r_107_22, r_107_25, r_107_28, r_107_31, r_107_34, r_107_37, r_107_38, Option.bind_some, Option.bind_none, Option.toList_some, Option.toList_none, List.cons_append, List.nil_append, Option.map_some, Option.map_none, eq_self, if_true, if_false, reduceIte, ai_bi_eq0, ai_bi_eq1, ai_pb_bi, ai_pb_0, ai_pb_1, f_16_0, f_1_0, h.1, c1, x_couldCause h hk (show i < 8 by omega) ho hd, c2, nI_1, Bool.true_eq_false]
      rw [kb_s, c2, kb_i_t]
    · have c2' : kb_could B i o d = false := by simpa using c2
      simp only [r_107_0, r_107_1, r_107_2, r_107_3, r_107_7, r_107_8, r_107_11, r_107_14, r_107_17, r_107_18, r_107_20, r_107_21, r_107_22, r_107_25, r_107_28, r_107_31, r_107_34, r_107_37, r_107_38, Option.bind_some, Option.bind_none, Option.toList_some, Option.toList_none, List.cons_append, List.nil_append, Option.map_some, Option.map_none, eq_self, if_true, if_false, reduceIte, ai_bi_eq0, ai_bi_eq1, ai_pb_bi, ai_pb_0, ai_pb_1, f_16_0, f_1_0, h.1, c1, x_couldCause h hk (show i < 8 by omega) ho hd, c2', nI_1]
      rw [kb_s, c2', kb_i_f]
      rfl
  have e := lp_n (fun i => ai_Run 107 5 [.ref 16, .int (nI o), .int (nI d), .int (nI (kb_s (fun c => kb_i (kb_could B c o d)) i)), .int (nI i)] [] (wl w)) _ step
  have c2 : ¬ nI (kb_n B) < nI (kb_n B) := nI_nlt (Nat.le_refl _) (by omega)
  simp only [e_107, o_16, r_107_0, r_107_1, r_107_2, r_107_3, r_107_7, r_107_8, r_107_11, r_107_14, r_107_17, r_107_18, r_107_20, r_107_21, r_107_22, r_107_25, r_107_28, r_107_31, r_107_34, r_107_37, r_107_38, Option.bind_some, Option.bind_none, Option.toList_some, Option.toList_none, List.cons_append, List.nil_append, Option.map_some, Option.map_none, eq_self, if_true, if_false, reduceIte, ai_bi_eq0, ai_bi_eq1, ai_pb_bi, ai_pb_0, ai_pb_1]
  refine e.trans ?_
  rw [r_107_5]
  simp only [r_107_0, r_107_1, r_107_2, r_107_3, r_107_7, r_107_8, r_107_11, r_107_14, r_107_17, r_107_18, r_107_20, r_107_21, r_107_22, r_107_25, r_107_28, r_107_31, r_107_34, r_107_37, r_107_38, Option.bind_some, Option.bind_none, Option.toList_some, Option.toList_none, List.cons_append, List.nil_append, Option.map_some, Option.map_none, eq_self, if_true, if_false, reduceIte, ai_bi_eq0, ai_bi_eq1, ai_pb_bi, ai_pb_0, ai_pb_1, f_16_0, f_1_0, h.1, c2]
theorem x_suspectByCharacters (h : kb_x (xw_b w) B) (hk : kb_ok B) {o d : Nat} (ho : o < 8) (hd : d < kb_d B o) : ai_Call 112 [.ref 16, .int (nI o), .int (nI d)] (wl w) = some (some (.int (kb_su B o d (kb_n B)).2), wl w) := by
  have hn := hk.1
  have step : ∀ i, i < kb_n B → ai_Run 112 9 [.ref 16, .int (nI o), .int (nI d), .int (kb_su B o d i).2, .int (nI (kb_su B o d i).1), .int (nI i), if i = 0 then .null else .int (nI (kb_M B (i - 1) o))] [] (wl w) = ai_Run 112 9 [.ref 16, .int (nI o), .int (nI d), .int (kb_su B o d (i + 1)).2, .int (nI (kb_su B o d (i + 1)).1), .int (nI (i + 1)), if i + 1 = 0 then .null else .int (nI (kb_M B (i + 1 - 1) o))] [] (wl w) := by
    intro i hi
    have c1 : nI i < nI (kb_n B) := nI_lt hi (by omega)
    have c9 : ¬ i + 1 = 0 := by omega
    have h9 := hk.2.2.2.2.2.2.2.2.1 i o
    have h8 := kb_su_le hk o d i
    rw [r_112_9]
    simp only [r_112_0, r_112_2, r_112_3, r_112_4, r_112_6, r_112_7, r_112_11, r_112_12, r_112_15, r_112_18, r_112_21, r_112_22, r_112_25, r_112_27, r_112_28, r_112_31, r_112_33, r_112_35, r_112_37, r_112_40, r_112_41, r_112_43, r_112_44, r_112_45, r_112_48, r_112_51, r_112_53, r_112_55, r_112_57, r_112_58, r_112_61, r_112_64, r_112_65, Option.bind_some, Option.bind_none, Option.toList_some, Option.toList_none, List.cons_append, List.nil_append, Option.map_some, Option.map_none, eq_self, if_true, if_false, reduceIte, ai_bi_eq0, ai_bi_eq1, ai_pb_bi, ai_pb_0, ai_pb_1, f_16_0, f_1_0, h.1, c1, x_motivePages h (show i < 8 by omega) ho, nI_1, c9, Nat.add_sub_cancel]
    by_cases c2 : (kb_su B o d i).1 < kb_M B i o
    · have c3 : nI (kb_su B o d i).1 < nI (kb_M B i o) := nI_lt c2 (by omega)
      by_cases c4 : kb_could B i o d = true
      · have e2 : kb_su B o d (i + 1) = (kb_M B i o, nI i) := by rw [kb_su, if_pos ⟨c2, c4⟩]
        simp only [r_112_0, r_112_2, r_112_3, r_112_4, r_112_6, r_112_7, r_112_11, r_112_12, r_112_15, r_112_18, r_112_21, r_112_22, r_112_25, r_112_27, r_112_28, r_112_31, r_112_33, r_112_35, r_112_37, r_112_40, r_112_41, r_112_43, r_112_44, r_112_45, r_112_48, r_112_51, r_112_53, r_112_55, r_112_57, r_112_58, r_112_61, r_112_64, r_112_65, Option.bind_some, Option.bind_none, Option.toList_some, Option.toList_none, List.cons_append, List.nil_append, Option.map_some, Option.map_none, eq_self, if_true, if_false, reduceIte, ai_bi_eq0, ai_bi_eq1, ai_pb_bi, ai_pb_0, ai_pb_1, c3, x_couldCause h hk (show i < 8 by omega) ho hd, c4, Bool.true_eq_false, e2, nI_1]
      · have c4' : kb_could B i o d = false := by simpa using c4
        have e2 : kb_su B o d (i + 1) = kb_su B o d i := by rw [kb_su, if_neg (fun q => c4 q.2)]
        simp only [r_112_0, r_112_2, r_112_3, r_112_4, r_112_6, r_112_7, r_112_11, r_112_12, r_112_15, r_112_18, r_112_21, r_112_22, r_112_25, r_112_27, r_112_28, r_112_31, r_112_33, r_112_35, r_112_37, r_112_40, r_112_41, r_112_43, r_112_44, r_112_45, r_112_48, r_112_51, r_112_53, r_112_55, r_112_57, r_112_58, r_112_61, r_112_64, r_112_65, Option.bind_some, Option.bind_none, Option.toList_some, Option.toList_none, List.cons_append, List.nil_append, Option.map_some, Option.map_none, eq_self, if_true, if_false, reduceIte, ai_bi_eq0, ai_bi_eq1, ai_pb_bi, ai_pb_0, ai_pb_1, c3, x_couldCause h hk (show i < 8 by omega) ho hd, c4', e2, nI_1]
    · have c3 : ¬ nI (kb_su B o d i).1 < nI (kb_M B i o) := nI_nlt (by omega) (by omega)
      have e2 : kb_su B o d (i + 1) = kb_su B o d i := by rw [kb_su, if_neg (fun q => c2 q.1)]
      simp only [r_112_0, r_112_2, r_112_3, r_112_4, r_112_6, r_112_7, r_112_11, r_112_12, r_112_15, r_112_18, r_112_21, r_112_22, r_112_25, r_112_27, r_112_28, r_112_31, r_112_33, r_112_35, r_112_37, r_112_40, r_112_41, r_112_43, r_112_44, r_112_45, r_112_48, r_112_51, r_112_53, r_112_55, r_112_57, r_112_58, r_112_61, r_112_64, r_112_65, Option.bind_some, Option.bind_none, Option.toList_some, Option.toList_none, List.cons_append, List.nil_append, Option.map_some, Option.map_none, eq_self, if_true, if_false, reduceIte, ai_bi_eq0, ai_bi_eq1, ai_pb_bi, ai_pb_0, ai_pb_1, c3, e2, nI_1]
  have e := lp_n (fun i => ai_Run 112 9 [.ref 16, .int (nI o), .int (nI d), .int (kb_su B o d i).2, .int (nI (kb_su B o d i).1), .int (nI i), if i = 0 then .null else .int (nI (kb_M B (i - 1) o))] [] (wl w)) _ step
  have c2 : ¬ nI (kb_n B) < nI (kb_n B) := nI_nlt (Nat.le_refl _) (by omega)
  simp only [e_112, o_16, r_112_0, r_112_2, r_112_3, r_112_4, r_112_6, r_112_7, r_112_11, r_112_12, r_112_15, r_112_18, r_112_21, r_112_22, r_112_25, r_112_27, r_112_28, r_112_31, r_112_33, r_112_35, r_112_37, r_112_40, r_112_41, r_112_43, r_112_44, r_112_45, r_112_48, r_112_51, r_112_53, r_112_55, r_112_57, r_112_58, r_112_61, r_112_64, r_112_65, Option.bind_some, Option.bind_none, Option.toList_some, Option.toList_none, List.cons_append, List.nil_append, Option.map_some, Option.map_none, eq_self, if_true, if_false, reduceIte, ai_bi_eq0, ai_bi_eq1, ai_pb_bi, ai_pb_0, ai_pb_1]
  refine e.trans ?_
  rw [r_112_9]
  simp only [r_112_0, r_112_2, r_112_3, r_112_4, r_112_6, r_112_7, r_112_11, r_112_12, r_112_15, r_112_18, r_112_21, r_112_22, r_112_25, r_112_27, r_112_28, r_112_31, r_112_33, r_112_35, r_112_37, r_112_40, r_112_41, r_112_43, r_112_44, r_112_45, r_112_48, r_112_51, r_112_53, r_112_55, r_112_57, r_112_58, r_112_61, r_112_64, r_112_65, Option.bind_some, Option.bind_none, Option.toList_some, Option.toList_none, List.cons_append, List.nil_append, Option.map_some, Option.map_none, eq_self, if_true, if_false, reduceIte, ai_bi_eq0, ai_bi_eq1, ai_pb_bi, ai_pb_0, ai_pb_1, f_16_0, f_1_0, h.1, c2]
end XB

