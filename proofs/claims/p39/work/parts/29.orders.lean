/-! The class's orders. -/
/-- what an order goes by -/
def kb_by4 (B : kb_B) (kind c : Nat) : Nat := if kind = 0 then kb_d B c else if kind = 1 then 30 - kb_lv B c else if kind = 2 then kb_ds B (fun a d => decide (kb_C B a d = nI c)) else kb_ds B (fun a d => decide (kb_W B (kb_E B a (2 * d)) = nI c))
/-- j comes ahead of i -/
def kb_ah (B : kb_B) (kind j i : Nat) : Bool := decide (kb_by4 B kind i < kb_by4 B kind j ∨ (kb_by4 B kind j = kb_by4 B kind i ∧ j < i))
def kb_many (B : kb_B) (kind : Nat) : Nat := if kind = 3 then kb_a B else kb_n B
def kb_rk (B : kb_B) (kind i : Nat) : Nat := kb_s (fun j => kb_i (kb_ah B kind j i)) (kb_many B kind)
/-- the first of n from i that has a property -/
def kb_fst (f : Nat → Bool) : Nat → Nat → Int32
  | 0, _ => (-1)
  | n + 1, i => if f i = true then nI i else kb_fst f n (i + 1)
def kb_at (B : kb_B) (kind : Nat) (p : Int32) : Int32 := kb_fst (fun i => decide (nI (kb_rk B kind i) = p)) (kb_many B kind) 0
theorem kb_ds_le {B : kb_B} (hk : kb_ok B) (f : Nat → Nat → Bool) : kb_ds B f ≤ 24 := by
  have := kb_s_le (f := fun c => kb_s (fun d => kb_i (f c d)) (kb_d B c)) (k := 3) (fun c => Nat.le_trans (kb_s_le1 _) (kb_d3 hk c)) (kb_n B)
  have := hk.1
  unfold kb_ds
  omega
theorem kb_lv_le (B : kb_B) (c : Nat) : kb_lv B c ≤ 30 := kb_s_le1 30
theorem kb_by4_le {B : kb_B} (hk : kb_ok B) (kind c : Nat) : kb_by4 B kind c ≤ 30 := by
  have h1 := kb_d3 hk c
  have h2 := kb_ds_le hk (fun a d => decide (kb_C B a d = nI c))
  have h3 := kb_ds_le hk (fun a d => decide (kb_W B (kb_E B a (2 * d)) = nI c))
  unfold kb_by4
  split
  · omega
  · split
    · omega
    · split <;> omega
theorem kb_many8 {B : kb_B} (hk : kb_ok B) (kind : Nat) : kb_many B kind ≤ 8 := by
  have h1 := hk.1
  have h2 := hk.2.1
  unfold kb_many
  split <;> omega
/-- the class's keys: the same up to a shift -/
def kb_key (B : kb_B) (kind c : Nat) : Int32 := if kind = 1 then nI (kb_by4 B kind c) - nI 30 else nI (kb_by4 B kind c)
section XB
variable {w : xw_W} {B : kb_B}
theorem x_key (h : kb_x (xw_b w) B) (hk : kb_ok B) {kind c : Nat} (hkd : kind < 4) (hc : c < kb_many B kind) : ai_Call 120 [.ref 19, .int (nI kind), .int (nI c)] (wl w) = some (some (.int (kb_key B kind c)), wl w) := by
  have hm := kb_many8 hk kind
  have hl := kb_lv_le B c
  match kind, hkd with
  | 0, _ =>
    have c0 : nI 0 = 0 := rfl
    simp only [e_120, o_19, r_120_0, r_120_1, r_120_28, r_120_29, r_120_32, r_120_33, r_120_36, r_120_37, r_120_38, r_120_39, r_120_42, r_120_43, r_120_44, r_120_45, r_120_46, r_120_49, r_120_50, r_120_51, r_120_52, r_120_55, Option.bind_some, Option.bind_none, Option.toList_some, Option.toList_none, List.cons_append, List.nil_append, Option.map_some, Option.map_none, eq_self, if_true, if_false, reduceIte, ai_bi_eq0, ai_bi_eq1, ai_pb_bi, ai_pb_0, ai_pb_1, c0, f_19_0, x_deaths h hk (show c < 8 by omega)]
    rfl
  | 1, _ =>
    have c0 : ¬ nI 1 = 0 := by decide
    have c1 : nI 1 = 1 := rfl
    simp only [e_120, o_19, r_120_0, r_120_1, r_120_28, r_120_29, r_120_32, r_120_33, r_120_36, r_120_37, r_120_38, r_120_39, r_120_42, r_120_43, r_120_44, r_120_45, r_120_46, r_120_49, r_120_50, r_120_51, r_120_52, r_120_55, Option.bind_some, Option.bind_none, Option.toList_some, Option.toList_none, List.cons_append, List.nil_append, Option.map_some, Option.map_none, eq_self, if_true, if_false, reduceIte, ai_bi_eq0, ai_bi_eq1, ai_pb_bi, ai_pb_0, ai_pb_1, c0, c1, x_chaptersLived h hk (show c < 8 by omega), show ¬ (1 : Int32) = 0 by decide]
    have : kb_key B 1 c = nI (30 - kb_lv B c) - nI 30 := rfl
    rw [this, ← pk_sub hl]
    congr 3
    rw [Int32.sub_eq_add_neg, Int32.sub_eq_add_neg, Int32.add_comm (nI 30), Int32.add_assoc, Int32.add_right_neg, Int32.add_zero]
  | 2, _ =>
    have c2 : nI 2 = 2 := rfl
    simp only [e_120, o_19, r_120_0, r_120_1, r_120_28, r_120_29, r_120_32, r_120_33, r_120_36, r_120_37, r_120_38, r_120_39, r_120_42, r_120_43, r_120_44, r_120_45, r_120_46, r_120_49, r_120_50, r_120_51, r_120_52, r_120_55, Option.bind_some, Option.bind_none, Option.toList_some, Option.toList_none, List.cons_append, List.nil_append, Option.map_some, Option.map_none, eq_self, if_true, if_false, reduceIte, ai_bi_eq0, ai_bi_eq1, ai_pb_bi, ai_pb_0, ai_pb_1, c2, show ¬ (2 : Int32) = 0 by decide, show ¬ (2 : Int32) = 1 by decide, x_deathsCausedBy h hk]
    rfl
  | 3, _ =>
    have c2 : nI 3 = 3 := rfl
    simp only [e_120, o_19, r_120_0, r_120_1, r_120_28, r_120_29, r_120_32, r_120_33, r_120_36, r_120_37, r_120_38, r_120_39, r_120_42, r_120_43, r_120_44, r_120_45, r_120_46, r_120_49, r_120_50, r_120_51, r_120_52, r_120_55, Option.bind_some, Option.bind_none, Option.toList_some, Option.toList_none, List.cons_append, List.nil_append, Option.map_some, Option.map_none, eq_self, if_true, if_false, reduceIte, ai_bi_eq0, ai_bi_eq1, ai_pb_bi, ai_pb_0, ai_pb_1, c2, show ¬ (3 : Int32) = 0 by decide, show ¬ (3 : Int32) = 1 by decide, show ¬ (3 : Int32) = 2 by decide, x_deathsBy h hk]
    rfl
theorem kb_key_int {hk : kb_ok B} (kind c : Nat) : (kb_key B kind c).toInt = (kb_by4 B kind c : Int) - (if kind = 1 then 30 else 0) := by
  have := kb_by4_le hk kind c
  unfold kb_key
  split
  · rw [pk_sub_toInt (by omega) (by omega)]
    rfl
  · rw [nI_toInt (by omega)]
    omega
theorem kb_key_lt (hk : kb_ok B) (kind c o : Nat) : kb_key B kind c < kb_key B kind o ↔ kb_by4 B kind c < kb_by4 B kind o := by
  rw [Int32.lt_iff_toInt_lt, kb_key_int (hk := hk), kb_key_int (hk := hk)]
  split <;> omega
theorem kb_key_eq (hk : kb_ok B) (kind c o : Nat) : kb_key B kind c = kb_key B kind o ↔ kb_by4 B kind c = kb_by4 B kind o := by
  rw [← Int32.toInt_inj, kb_key_int (hk := hk), kb_key_int (hk := hk)]
  split <;> omega
theorem x_aheadOf (hk : kb_ok B) {kind c : Nat} (hc : c < kb_many B kind) (hkeys : ∀ i, i < kb_many B kind → xw_ky w i = kb_key B kind i) : ai_Call 121 [.ref 19, .int (nI c), .int (nI (kb_many B kind))] (wl w) = some (some (.int (nI (kb_rk B kind c))), wl w) := by
  have hm := kb_many8 hk kind
  have g : ∀ i, i < kb_many B kind → ai_Call 12 [.ref 20, .int (nI i)] (wl w) = some (some (.int (kb_key B kind i)), wl w) := fun i hi => by
    rw [x_get_ky, ai_rgn (by omega) (by decide), hkeys i hi]
  have step : ∀ i, i < kb_many B kind → ∀ v, ai_Run 121 15 [.ref 19, .int (nI c), .int (nI (kb_many B kind)), .int (nI (kb_s (fun j => kb_i (kb_ah B kind j c)) i)), .int (kb_key B kind c), .int (nI i), v] [] (wl w) = ai_Run 121 15 [.ref 19, .int (nI c), .int (nI (kb_many B kind)), .int (nI (kb_s (fun j => kb_i (kb_ah B kind j c)) (i + 1))), .int (kb_key B kind c), .int (nI (i + 1)), .int (kb_key B kind i)] [] (wl w) := by
    intro i hi v
    have c1 : nI i < nI (kb_many B kind) := nI_lt hi (by omega)
    rw [r_121_15]
    rcases Nat.lt_trichotomy (kb_by4 B kind c) (kb_by4 B kind i) with q | q | q
    · have c2 : kb_key B kind c < kb_key B kind i := (kb_key_lt hk kind c i).mpr q
      have e9 : kb_ah B kind i c = true := decide_eq_true (Or.inl q)
      simp only [r_121_0, r_121_1, r_121_2, r_121_3, r_121_6, r_121_7, r_121_10, r_121_12, r_121_13, r_121_17, r_121_18, r_121_21, r_121_22, r_121_25, r_121_27, r_121_30, r_121_32, r_121_34, r_121_36, r_121_39, r_121_41, r_121_43, r_121_46, r_121_48, r_121_49, r_121_52, r_121_55, r_121_58, r_121_61, r_121_62, Option.bind_some, Option.bind_none, Option.toList_some, Option.toList_none, List.cons_append, List.nil_append, Option.map_some, Option.map_none, eq_self, if_true, if_false, reduceIte, ai_bi_eq0, ai_bi_eq1, ai_pb_bi, ai_pb_0, ai_pb_1, f_19_1, c1, g i hi, c2, nI_1, kb_s, e9, kb_i_t]
    · have c2 : ¬ kb_key B kind c < kb_key B kind i := fun z => by have := (kb_key_lt hk kind c i).mp z; omega
      have c3 : kb_key B kind i = kb_key B kind c := (kb_key_eq hk kind i c).mpr q.symm
      rw [c3] at c2
      by_cases c4 : i < c
      · have c5 : nI i < nI c := nI_lt c4 (by omega)
        have e9 : kb_ah B kind i c = true := decide_eq_true (Or.inr ⟨q.symm, c4⟩)
        simp only [r_121_0, r_121_1, r_121_2, r_121_3, r_121_6, r_121_7, r_121_10, r_121_12, r_121_13, r_121_17, r_121_18, r_121_21, r_121_22, r_121_25, r_121_27, r_121_30, r_121_32, r_121_34, r_121_36, r_121_39, r_121_41, r_121_43, r_121_46, r_121_48, r_121_49, r_121_52, r_121_55, r_121_58, r_121_61, r_121_62, Option.bind_some, Option.bind_none, Option.toList_some, Option.toList_none, List.cons_append, List.nil_append, Option.map_some, Option.map_none, eq_self, if_true, if_false, reduceIte, ai_bi_eq0, ai_bi_eq1, ai_pb_bi, ai_pb_0, ai_pb_1, f_19_1, c1, g i hi, c2, c3, c5, nI_1, kb_s, e9, kb_i_t]
      · have c5 : ¬ nI i < nI c := nI_nlt (by omega) (by omega)
        have e9 : kb_ah B kind i c = false := decide_eq_false (fun z => by omega)
        simp only [r_121_0, r_121_1, r_121_2, r_121_3, r_121_6, r_121_7, r_121_10, r_121_12, r_121_13, r_121_17, r_121_18, r_121_21, r_121_22, r_121_25, r_121_27, r_121_30, r_121_32, r_121_34, r_121_36, r_121_39, r_121_41, r_121_43, r_121_46, r_121_48, r_121_49, r_121_52, r_121_55, r_121_58, r_121_61, r_121_62, Option.bind_some, Option.bind_none, Option.toList_some, Option.toList_none, List.cons_append, List.nil_append, Option.map_some, Option.map_none, eq_self, if_true, if_false, reduceIte, ai_bi_eq0, ai_bi_eq1, ai_pb_bi, ai_pb_0, ai_pb_1, f_19_1, c1, g i hi, c2, c3, c5, nI_1, kb_s, e9, kb_i_f, Nat.add_zero]
    · have c2 : ¬ kb_key B kind c < kb_key B kind i := fun z => by have := (kb_key_lt hk kind c i).mp z; omega
      have c3 : ¬ kb_key B kind i = kb_key B kind c := fun z => by have := (kb_key_eq hk kind i c).mp z; omega
      have e9 : kb_ah B kind i c = false := decide_eq_false (fun z => by omega)
      simp only [r_121_0, r_121_1, r_121_2, r_121_3, r_121_6, r_121_7, r_121_10, r_121_12, r_121_13, r_121_17, r_121_18, r_121_21, r_121_22, r_121_25, r_121_27, r_121_30, r_121_32, r_121_34, r_121_36, r_121_39, r_121_41, r_121_43, r_121_46, r_121_48, r_121_49, r_121_52, r_121_55, r_121_58, r_121_61, r_121_62, Option.bind_some, Option.bind_none, Option.toList_some, Option.toList_none, List.cons_append, List.nil_append, Option.map_some, Option.map_none, eq_self, if_true, if_false, reduceIte, ai_bi_eq0, ai_bi_eq1, ai_pb_bi, ai_pb_0, ai_pb_1, f_19_1, c1, g i hi, c2, c3, nI_1, kb_s, e9, kb_i_f, Nat.add_zero]
  have e := lp_n (fun i => ai_Run 121 15 [.ref 19, .int (nI c), .int (nI (kb_many B kind)), .int (nI (kb_s (fun j => kb_i (kb_ah B kind j c)) i)), .int (kb_key B kind c), .int (nI i), (match i with | 0 => .null | i + 1 => .int (kb_key B kind i))] [] (wl w)) _ (fun i hi => step i hi _)
  have c2 : ¬ nI (kb_many B kind) < nI (kb_many B kind) := nI_nlt (Nat.le_refl _) (by omega)
  simp only [e_121, o_19, r_121_0, r_121_1, r_121_2, r_121_3, r_121_6, r_121_7, r_121_10, r_121_12, r_121_13, r_121_17, r_121_18, r_121_21, r_121_22, r_121_25, r_121_27, r_121_30, r_121_32, r_121_34, r_121_36, r_121_39, r_121_41, r_121_43, r_121_46, r_121_48, r_121_49, r_121_52, r_121_55, r_121_58, r_121_61, r_121_62, Option.bind_some, Option.bind_none, Option.toList_some, Option.toList_none, List.cons_append, List.nil_append, Option.map_some, Option.map_none, eq_self, if_true, if_false, reduceIte, ai_bi_eq0, ai_bi_eq1, ai_pb_bi, ai_pb_0, ai_pb_1, f_19_1, g c hc]
  refine e.trans ?_
  rw [r_121_15]
  simp only [r_121_0, r_121_1, r_121_2, r_121_3, r_121_6, r_121_7, r_121_10, r_121_12, r_121_13, r_121_17, r_121_18, r_121_21, r_121_22, r_121_25, r_121_27, r_121_30, r_121_32, r_121_34, r_121_36, r_121_39, r_121_41, r_121_43, r_121_46, r_121_48, r_121_49, r_121_52, r_121_55, r_121_58, r_121_61, r_121_62, Option.bind_some, Option.bind_none, Option.toList_some, Option.toList_none, List.cons_append, List.nil_append, Option.map_some, Option.map_none, eq_self, if_true, if_false, reduceIte, ai_bi_eq0, ai_bi_eq1, ai_pb_bi, ai_pb_0, ai_pb_1, c2]
  rfl
def kb_kys (B : kb_B) (kind : Nat) (f : Nat → Int32) : Nat → Nat → Int32
  | 0 => f
  | n + 1 => upd (kb_kys B kind f n) n (kb_key B kind n)
theorem kb_kys_get (B : kb_B) (kind : Nat) (f : Nat → Int32) : ∀ n i, i < n → kb_kys B kind f n i = kb_key B kind i := by
  intro n
  induction n with
  | zero => intro i h; omega
  | succ n ih =>
    intro i h
    rw [kb_kys]
    by_cases q : i = n
    · subst q; exact pk_us
    · rw [pk_un q]; exact ih i (by omega)
theorem x_atPlace (h : kb_x (xw_b w) B) (hk : kb_ok B) {kind : Nat} (hkd : kind < 4) (p : Int32) : ai_Call 122 [.ref 19, .int (nI kind), .int p] (wl w) = some (some (.int (kb_at B kind p)), wl (xw_wky w (kb_kys B kind (xw_ky w) (kb_many B kind)))) := by
  have hm := kb_many8 hk kind
  have first : ai_Call 122 [.ref 19, .int (nI kind), .int p] (wl w) = ai_Run 122 26 [.ref 19, .int (nI kind), .int p, .int (nI (kb_many B kind)), .int 0] [] (wl w) := by
    by_cases c1 : kind = 3
    · subst c1
      have c2 : nI 3 = 3 := rfl
      simp only [e_122, o_19, r_122_0, r_122_1, r_122_2, r_122_5, r_122_6, r_122_9, r_122_12, r_122_15, r_122_16, r_122_19, r_122_22, r_122_23, r_122_24, r_122_28, r_122_29, r_122_32, r_122_33, r_122_36, r_122_38, r_122_39, r_122_40, r_122_42, r_122_45, r_122_48, r_122_51, r_122_54, r_122_55, r_122_59, r_122_60, r_122_63, r_122_64, r_122_66, r_122_67, r_122_70, r_122_71, r_122_74, r_122_76, r_122_77, r_122_80, r_122_83, r_122_84, Option.bind_some, Option.bind_none, Option.toList_some, Option.toList_none, List.cons_append, List.nil_append, Option.map_some, Option.map_none, eq_self, if_true, if_false, reduceIte, ai_bi_eq0, ai_bi_eq1, ai_pb_bi, ai_pb_0, ai_pb_1, c2, f_19_0, f_1_1, h.2.1]
      rfl
    · have c2 : ¬ nI kind = 3 := fun z => c1 ((nI_eq (a := kind) (b := 3) (by omega) (by decide)).mp z)
      simp only [e_122, o_19, r_122_0, r_122_1, r_122_2, r_122_5, r_122_6, r_122_9, r_122_12, r_122_15, r_122_16, r_122_19, r_122_22, r_122_23, r_122_24, r_122_28, r_122_29, r_122_32, r_122_33, r_122_36, r_122_38, r_122_39, r_122_40, r_122_42, r_122_45, r_122_48, r_122_51, r_122_54, r_122_55, r_122_59, r_122_60, r_122_63, r_122_64, r_122_66, r_122_67, r_122_70, r_122_71, r_122_74, r_122_76, r_122_77, r_122_80, r_122_83, r_122_84, Option.bind_some, Option.bind_none, Option.toList_some, Option.toList_none, List.cons_append, List.nil_append, Option.map_some, Option.map_none, eq_self, if_true, if_false, reduceIte, ai_bi_eq0, ai_bi_eq1, ai_pb_bi, ai_pb_0, ai_pb_1, c2, f_19_0, f_1_0, h.1]
      unfold kb_many
      rw [if_neg c1]
  have step : ∀ i, i < kb_many B kind → ai_Run 122 26 [.ref 19, .int (nI kind), .int p, .int (nI (kb_many B kind)), .int (nI i)] [] (wl (xw_wky w (kb_kys B kind (xw_ky w) i))) = ai_Run 122 26 [.ref 19, .int (nI kind), .int p, .int (nI (kb_many B kind)), .int (nI (i + 1))] [] (wl (xw_wky w (kb_kys B kind (xw_ky w) (i + 1)))) := by
    intro i hi
    have c1 : nI i < nI (kb_many B kind) := nI_lt hi (by omega)
    have hx : kb_x (xw_b (xw_wky w (kb_kys B kind (xw_ky w) i))) B := h
    rw [r_122_26]
    simp only [r_122_0, r_122_1, r_122_2, r_122_5, r_122_6, r_122_9, r_122_12, r_122_15, r_122_16, r_122_19, r_122_22, r_122_23, r_122_24, r_122_28, r_122_29, r_122_32, r_122_33, r_122_36, r_122_38, r_122_39, r_122_40, r_122_42, r_122_45, r_122_48, r_122_51, r_122_54, r_122_55, r_122_59, r_122_60, r_122_63, r_122_64, r_122_66, r_122_67, r_122_70, r_122_71, r_122_74, r_122_76, r_122_77, r_122_80, r_122_83, r_122_84, Option.bind_some, Option.bind_none, Option.toList_some, Option.toList_none, List.cons_append, List.nil_append, Option.map_some, Option.map_none, eq_self, if_true, if_false, reduceIte, ai_bi_eq0, ai_bi_eq1, ai_pb_bi, ai_pb_0, ai_pb_1, c1, f_19_1, x_key hx hk hkd hi, x_set_ky _ (show i < 8 by omega), nI_1]
    rfl
  have e := lp_n (fun i => ai_Run 122 26 [.ref 19, .int (nI kind), .int p, .int (nI (kb_many B kind)), .int (nI i)] [] (wl (xw_wky w (kb_kys B kind (xw_ky w) i)))) _ step
  rw [first]
  refine e.trans ?_
  have c2 : ¬ nI (kb_many B kind) < nI (kb_many B kind) := nI_nlt (Nat.le_refl _) (by omega)
  have hkeys := kb_kys_get B kind (xw_ky w) (kb_many B kind)
  generalize hw2 : xw_wky w (kb_kys B kind (xw_ky w) (kb_many B kind)) = w2
  have hkeys2 : ∀ i, i < kb_many B kind → xw_ky w2 i = kb_key B kind i := by rw [← hw2]; exact hkeys
  rw [r_122_26]
  simp only [r_122_0, r_122_1, r_122_2, r_122_5, r_122_6, r_122_9, r_122_12, r_122_15, r_122_16, r_122_19, r_122_22, r_122_23, r_122_24, r_122_28, r_122_29, r_122_32, r_122_33, r_122_36, r_122_38, r_122_39, r_122_40, r_122_42, r_122_45, r_122_48, r_122_51, r_122_54, r_122_55, r_122_59, r_122_60, r_122_63, r_122_64, r_122_66, r_122_67, r_122_70, r_122_71, r_122_74, r_122_76, r_122_77, r_122_80, r_122_83, r_122_84, Option.bind_some, Option.bind_none, Option.toList_some, Option.toList_none, List.cons_append, List.nil_append, Option.map_some, Option.map_none, eq_self, if_true, if_false, reduceIte, ai_bi_eq0, ai_bi_eq1, ai_pb_bi, ai_pb_0, ai_pb_1, c2]
  have loop : ∀ n i, i + n = kb_many B kind → ai_Run 122 57 [.ref 19, .int (nI kind), .int p, .int (nI (kb_many B kind)), .int (nI i)] [] (wl w2) = some (some (.int (kb_fst (fun i => decide (nI (kb_rk B kind i) = p)) n i)), wl w2) := by
    intro n
    induction n with
    | zero =>
      intro i hi
      have c3 : ¬ nI i < nI (kb_many B kind) := nI_nlt (by omega) (by omega)
      rw [r_122_57]
      simp only [r_122_0, r_122_1, r_122_2, r_122_5, r_122_6, r_122_9, r_122_12, r_122_15, r_122_16, r_122_19, r_122_22, r_122_23, r_122_24, r_122_28, r_122_29, r_122_32, r_122_33, r_122_36, r_122_38, r_122_39, r_122_40, r_122_42, r_122_45, r_122_48, r_122_51, r_122_54, r_122_55, r_122_59, r_122_60, r_122_63, r_122_64, r_122_66, r_122_67, r_122_70, r_122_71, r_122_74, r_122_76, r_122_77, r_122_80, r_122_83, r_122_84, Option.bind_some, Option.bind_none, Option.toList_some, Option.toList_none, List.cons_append, List.nil_append, Option.map_some, Option.map_none, eq_self, if_true, if_false, reduceIte, ai_bi_eq0, ai_bi_eq1, ai_pb_bi, ai_pb_0, ai_pb_1, c3]
      rfl
    | succ n ih =>
      intro i hi
      have c3 : nI i < nI (kb_many B kind) := nI_lt (by omega) (by omega)
      have ih := ih (i + 1) (by omega)
      rw [r_122_57]
      by_cases c4 : nI (kb_rk B kind i) = p
      · simp only [r_122_0, r_122_1, r_122_2, r_122_5, r_122_6, r_122_9, r_122_12, r_122_15, r_122_16, r_122_19, r_122_22, r_122_23, r_122_24, r_122_28, r_122_29, r_122_32, r_122_33, r_122_36, r_122_38, r_122_39, r_122_40, r_122_42, r_122_45, r_122_48, r_122_51, r_122_54, r_122_55, r_122_59, r_122_60, r_122_63, r_122_64, r_122_66, r_122_67, r_122_70, r_122_71, r_122_74, r_122_76, r_122_77, r_122_80, r_122_83, r_122_84, Option.bind_some, Option.bind_none, Option.toList_some, Option.toList_none, List.cons_append, List.nil_append, Option.map_some, Option.map_none, eq_self, if_true, if_false, reduceIte, ai_bi_eq0, ai_bi_eq1, ai_pb_bi, ai_pb_0, ai_pb_1, c3, x_aheadOf hk (show i < kb_many B kind by omega) hkeys2, c4, kb_fst, decide_true]
      · simp only [r_122_0, r_122_1, r_122_2, r_122_5, r_122_6, r_122_9, r_122_12, r_122_15, r_122_16, r_122_19, r_122_22, r_122_23, r_122_24, r_122_28, r_122_29, r_122_32, r_122_33, r_122_36, r_122_38, r_122_39, r_122_40, r_122_42, r_122_45, r_122_48, r_122_51, r_122_54, r_122_55, r_122_59, r_122_60, r_122_63, r_122_64, r_122_66, r_122_67, r_122_70, r_122_71, r_122_74, r_122_76, r_122_77, r_122_80, r_122_83, r_122_84, Option.bind_some, Option.bind_none, Option.toList_some, Option.toList_none, List.cons_append, List.nil_append, Option.map_some, Option.map_none, eq_self, if_true, if_false, reduceIte, ai_bi_eq0, ai_bi_eq1, ai_pb_bi, ai_pb_0, ai_pb_1, c3, x_aheadOf hk (show i < kb_many B kind by omega) hkeys2, c4, kb_fst, decide_false, nI_1, Bool.false_eq_true, ih]
  exact loop (kb_many B kind) 0 (by omega)
end XB

