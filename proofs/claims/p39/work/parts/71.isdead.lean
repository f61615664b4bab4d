/-! The law's own reading of a book: who is dead, who could have done it, whether the book is well. -/
theorem lp_d {P : Nat → Prop} (n : Nat) (h : ∀ i, i < n → P (i + 1) → P i) (hn : P n) : P 0 := by
  induction n with
  | zero => exact hn
  | succ n ih => exact ih (fun i hi => h i (by omega)) (h n (Nat.lt_succ_self n) hn)
section LQ
variable {w : xw_W} {B : kb_B}
theorem q_at (hk : kb_ok B) {c : Nat} (hc : c < kb_n B) : ai_is (kb_n B) (nI c) = true ∧ (nI c).toNatClampNeg = c := by
  have hn := hk.1
  exact ⟨ai_is_nI hc (by omega), nI_clamp (by omega)⟩
theorem q_11 (hk : kb_ok B) {c : Nat} (hc : c < kb_n B) : kb_q11 B (nI c) 0 = nI (kb_d B c) ∧ kb_q11 B (nI c) 1 = nI (kb_T B c / 2) ∧ kb_q11 B (nI c) 2 = nI (kb_lv B c) ∧ kb_q11 B (nI c) 3 = nI (kb_s (fun d => kb_i (decide (¬ kb_C B c d = (-4)))) (kb_d B c)) ∧ kb_q11 B (nI c) 4 = nI (kb_ds B (fun a d => decide (kb_C B a d = nI c))) ∧ kb_q11 B (nI c) 5 = nI (kb_s (fun o => kb_M B c o) (kb_n B)) ∧ kb_q11 B (nI c) 6 = nI (kb_s (fun o => kb_M B o c) (kb_n B)) := by
  obtain ⟨e1, e2⟩ := q_at hk hc
  unfold kb_q11
  rw [if_pos e1, if_pos e1, if_pos e1, if_pos e1, if_pos e1, if_pos e1, if_pos e1, e2]
  exact ⟨rfl, rfl, rfl, rfl, rfl, rfl, rfl⟩
def kb_un2 (B : kb_B) (c d : Nat) : Int32 := if 2 * d + 1 < kb_T B c then nI (kb_E B c (2 * d + 1)) else (-4)
theorem q_12 (hk : kb_ok B) {c d : Nat} (hc : c < kb_n B) (hd : d < kb_d B c) : kb_q12 B (nI c) (nI d) 0 = nI (kb_E B c (2 * d)) ∧ kb_q12 B (nI c) (nI d) 1 = kb_C B c d ∧ kb_q12 B (nI c) (nI d) 3 = nI (kb_s (fun o => kb_i (kb_could B o c d)) (kb_n B)) ∧ kb_q12 B (nI c) (nI d) 4 = kb_un2 B c d := by
  obtain ⟨e1, e2⟩ := q_at hk hc
  have h3 := kb_d3 hk c
  have e3 : ai_is (kb_d B c) (nI d) = true := ai_is_nI hd (by omega)
  have e4 : (nI d).toNatClampNeg = d := nI_clamp (by omega)
  unfold kb_q12
  rw [if_pos e1, if_pos e1, if_pos e1, if_pos e1, e2, if_pos e3, if_pos e3, if_pos e3, if_pos e3, e4]
  exact ⟨rfl, rfl, rfl, rfl⟩
theorem q_14 (hk : kb_ok B) {c d : Nat} (hc : c < kb_n B) (hd : d < kb_n B) : kb_q14 B (nI c) (nI d) = nI (kb_M B c d) := by
  obtain ⟨e1, e2⟩ := q_at hk hc
  obtain ⟨e3, e4⟩ := q_at hk hd
  unfold kb_q14
  rw [if_pos e1, if_pos e3, e2, e4]
theorem q_18 (hk : kb_ok B) {c d : Nat} (hc : c < kb_n B) (hd : d < kb_d B c) : kb_q18 B (nI c) (nI d) = (kb_su B c d (kb_n B)).2 := by
  obtain ⟨e1, e2⟩ := q_at hk hc
  have h3 := kb_d3 hk c
  have e3 : ai_is (kb_d B c) (nI d) = true := ai_is_nI hd (by omega)
  have e4 : (nI d).toNatClampNeg = d := nI_clamp (by omega)
  unfold kb_q18
  rw [if_pos e1, e2, if_pos e3, e4]
theorem q_15 (B : kb_B) {q : Nat} (h1 : 1 ≤ q) (h30 : q ≤ 30) : kb_q15 B (nI q) = nI (kb_set B q) := by
  have e : kb_ch (nI q) = true := by
    unfold kb_ch
    have a1 : ¬ nI q < 1 := nI_nlt (a := q) (b := 1) h1 (by omega)
    have a2 : ¬ 30 < nI q := nI_nlt (a := 30) (b := q) h30 (by decide)
    simp [a1, a2]
  unfold kb_q15
  rw [if_pos e, nI_clamp (by omega)]
/-- a death of c that holds in chapter q -/
theorem dth_iff (hk : kb_ok B) {c d q : Nat} (hd : d < kb_d B c) (hq : q ≤ 30) : (kb_E B c (2 * d) ≤ q ∧ q < kb_end B c d) ↔ kb_c B c q = 2 * d + 1 := by
  have h1 : 2 * d < kb_T B c := by unfold kb_d at hd; omega
  have h2 := kb_c_iff hk (h := q) h1
  have h3 := kb_c_le (B := B) c q
  unfold kb_end
  by_cases h : 2 * d + 1 < kb_T B c
  · rw [if_pos h]
    have h4 := kb_c_iff hk (h := q) h
    omega
  · rw [if_neg h]
    omega
theorem un2_end (hk : kb_ok B) {c d q : Nat} (hq : q ≤ 30) : (kb_un2 B c d = (-4) ∨ nI q < kb_un2 B c d) ↔ q < kb_end B c d := by
  unfold kb_un2 kb_end
  by_cases h : 2 * d + 1 < kb_T B c
  · rw [if_pos h, if_pos h]
    have he := hk.2.2.2.2.1 c (2 * d + 1) h
    rw [nI_ltI (by omega) (by omega)]
    constructor
    · rintro (z | z)
      · exact absurd (by rw [z]; decide) (nI_pos (n := kb_E B c (2 * d + 1)) (by omega))
      · exact z
    · exact Or.inr
  · rw [if_neg h, if_neg h]
    constructor
    · intro _; omega
    · intro _; exact Or.inl rfl
theorem l_isDead (h : kb_x (xw_b w) B) (hk : kb_ok B) {c q : Nat} (hc : c < kb_n B) (hq : q ≤ 30) : ai_Call 166 [.ref 0, .int (nI c), .int (nI q)] (wl w) = some (some (.int (ai_bi (kb_dead B c q))), wl w) := by
  have h3 := kb_d3 hk c
  have e11 := (q_11 hk hc).1
  have step : ∀ i, i < kb_d B c → ∀ X, (kb_c B c q = 2 * i + 1 → X = some (some (.int 1), wl w)) → (¬ kb_c B c q = 2 * i + 1 → ∀ v, ai_Run 166 2 [.ref 0, .int (nI c), .int (nI q), .int (nI (i + 1)), v] [] (wl w) = X) → ∀ v, ai_Run 166 2 [.ref 0, .int (nI c), .int (nI q), .int (nI i), v] [] (wl w) = X := by
    intro i hi X h1 h2 v
    have c1 : nI i < nI (kb_d B c) := nI_lt hi (by omega)
    obtain ⟨e0, -, -, e4⟩ := q_12 hk hc hi
    have hd := dth_iff hk hi hq
    rw [← un2_end hk hq] at hd
    have hT : 2 * i < kb_T B c := by unfold kb_d at hi; omega
    have he := hk.2.2.2.2.1 c (2 * i) hT
    rw [r_166_2]
    by_cases a1 : kb_E B c (2 * i) ≤ q
    · have a1' : ¬ nI q < nI (kb_E B c (2 * i)) := nI_nlt a1 (by omega)
      by_cases a2 : kb_un2 B c i = (-4)
      · rw [h1 (hd.mp ⟨a1, Or.inl a2⟩)]
        simp only [r_166_0, r_166_1, r_166_3, rx_166_3, r_166_4, r_166_5, r_166_6, r_166_9, r_166_12, rx_166_12, r_166_13, r_166_14, r_166_15, r_166_16, r_166_19, r_166_21, rx_166_21, r_166_22, r_166_23, r_166_24, r_166_25, r_166_28, r_166_29, r_166_32, r_166_34, r_166_36, r_166_39, r_166_40, r_166_42, r_166_45, r_166_46, r_166_47, r_166_50, r_166_53, r_166_54, Option.bind_some, Option.bind_none, Option.toList_some, Option.toList_none, List.cons_append, List.nil_append, Option.map_some, Option.map_none, eq_self, if_true, if_false, reduceIte, ai_bi_eq0, ai_bi_eq1, ai_pb_bi, ai_pb_0, ai_pb_1, s_characterOf h hk, s_deathOf h hk, e11, e0, e4, c1, a1', a2]
      · by_cases a3 : nI q < kb_un2 B c i
        · rw [h1 (hd.mp ⟨a1, Or.inr a3⟩)]
          simp only [r_166_0, r_166_1, r_166_3, rx_166_3, r_166_4, r_166_5, r_166_6, r_166_9, r_166_12, rx_166_12, r_166_13, r_166_14, r_166_15, r_166_16, r_166_19, r_166_21, rx_166_21, r_166_22, r_166_23, r_166_24, r_166_25, r_166_28, r_166_29, r_166_32, r_166_34, r_166_36, r_166_39, r_166_40, r_166_42, r_166_45, r_166_46, r_166_47, r_166_50, r_166_53, r_166_54, Option.bind_some, Option.bind_none, Option.toList_some, Option.toList_none, List.cons_append, List.nil_append, Option.map_some, Option.map_none, eq_self, if_true, if_false, reduceIte, ai_bi_eq0, ai_bi_eq1, ai_pb_bi, ai_pb_0, ai_pb_1, s_characterOf h hk, s_deathOf h hk, e11, e0, e4, c1, a1', a2, a3]
        · rw [← h2 (fun z => (hd.mpr z).2.elim a2 a3) (.int (kb_un2 B c i))]
          simp only [r_166_0, r_166_1, r_166_3, rx_166_3, r_166_4, r_166_5, r_166_6, r_166_9, r_166_12, rx_166_12, r_166_13, r_166_14, r_166_15, r_166_16, r_166_19, r_166_21, rx_166_21, r_166_22, r_166_23, r_166_24, r_166_25, r_166_28, r_166_29, r_166_32, r_166_34, r_166_36, r_166_39, r_166_40, r_166_42, r_166_45, r_166_46, r_166_47, r_166_50, r_166_53, r_166_54, Option.bind_some, Option.bind_none, Option.toList_some, Option.toList_none, List.cons_append, List.nil_append, Option.map_some, Option.map_none, eq_self, if_true, if_false, reduceIte, ai_bi_eq0, ai_bi_eq1, ai_pb_bi, ai_pb_0, ai_pb_1, s_characterOf h hk, s_deathOf h hk, e11, e0, e4, c1, a1', a2, a3, nI_1]
    · have a1' : nI q < nI (kb_E B c (2 * i)) := nI_lt (by omega) (by omega)
      rw [← h2 (fun z => a1 (hd.mpr z).1) (.int (kb_un2 B c i))]
      simp only [r_166_0, r_166_1, r_166_3, rx_166_3, r_166_4, r_166_5, r_166_6, r_166_9, r_166_12, rx_166_12, r_166_13, r_166_14, r_166_15, r_166_16, r_166_19, r_166_21, rx_166_21, r_166_22, r_166_23, r_166_24, r_166_25, r_166_28, r_166_29, r_166_32, r_166_34, r_166_36, r_166_39, r_166_40, r_166_42, r_166_45, r_166_46, r_166_47, r_166_50, r_166_53, r_166_54, Option.bind_some, Option.bind_none, Option.toList_some, Option.toList_none, List.cons_append, List.nil_append, Option.map_some, Option.map_none, eq_self, if_true, if_false, reduceIte, ai_bi_eq0, ai_bi_eq1, ai_pb_bi, ai_pb_0, ai_pb_1, s_characterOf h hk, s_deathOf h hk, e11, e0, e4, c1, a1', nI_1]
  have hcl := kb_c_le (B := B) c q
  simp only [e_166, r_166_0, r_166_1, r_166_3, rx_166_3, r_166_4, r_166_5, r_166_6, r_166_9, r_166_12, rx_166_12, r_166_13, r_166_14, r_166_15, r_166_16, r_166_19, r_166_21, rx_166_21, r_166_22, r_166_23, r_166_24, r_166_25, r_166_28, r_166_29, r_166_32, r_166_34, r_166_36, r_166_39, r_166_40, r_166_42, r_166_45, r_166_46, r_166_47, r_166_50, r_166_53, r_166_54, Option.bind_some, Option.bind_none, Option.toList_some, Option.toList_none, List.cons_append, List.nil_append, Option.map_some, Option.map_none, eq_self, if_true, if_false, reduceIte, ai_bi_eq0, ai_bi_eq1, ai_pb_bi, ai_pb_0, ai_pb_1]
  show ai_Run 166 2 [.ref 0, .int (nI c), .int (nI q), .int (nI 0), .null] [] (wl w) = _
  by_cases hd : kb_c B c q % 2 = 1
  · have e : kb_dead B c q = true := decide_eq_true hd
    rw [e]
    have hdd : kb_c B c q / 2 < kb_d B c := by unfold kb_d; omega
    refine lp_d (P := fun i => ∀ v, ai_Run 166 2 [.ref 0, .int (nI c), .int (nI q), .int (nI i), v] [] (wl w) = some (some (.int 1), wl w)) (kb_c B c q / 2) (fun i hi hP => step i (by omega) _ (fun _ => rfl) (fun _ => hP)) (step _ hdd _ (fun _ => rfl) (fun z => absurd (by omega) z)) _
  · have e : kb_dead B c q = false := decide_eq_false hd
    rw [e]
    refine lp_d (P := fun i => ∀ v, ai_Run 166 2 [.ref 0, .int (nI c), .int (nI q), .int (nI i), v] [] (wl w) = some (some (.int 0), wl w)) (kb_d B c) (fun i hi hP => step i hi _ (fun z => absurd z (by omega)) (fun _ => hP)) (fun v => ?_) _
    have c2 : ¬ nI (kb_d B c) < nI (kb_d B c) := nI_nlt (Nat.le_refl _) (by omega)
    rw [r_166_2]
    simp only [r_166_0, r_166_1, r_166_3, rx_166_3, r_166_4, r_166_5, r_166_6, r_166_9, r_166_12, rx_166_12, r_166_13, r_166_14, r_166_15, r_166_16, r_166_19, r_166_21, rx_166_21, r_166_22, r_166_23, r_166_24, r_166_25, r_166_28, r_166_29, r_166_32, r_166_34, r_166_36, r_166_39, r_166_40, r_166_42, r_166_45, r_166_46, r_166_47, r_166_50, r_166_53, r_166_54, Option.bind_some, Option.bind_none, Option.toList_some, Option.toList_none, List.cons_append, List.nil_append, Option.map_some, Option.map_none, eq_self, if_true, if_false, reduceIte, ai_bi_eq0, ai_bi_eq1, ai_pb_bi, ai_pb_0, ai_pb_1, s_characterOf h hk, e11, c2]
theorem l_could (h : kb_x (xw_b w) B) (hk : kb_ok B) {c o d : Nat} (hc : c < kb_n B) (ho : o < kb_n B) (hd : d < kb_d B o) : ai_Call 167 [.ref 0, .int (nI c), .int (nI o), .int (nI d)] (wl w) = some (some (.int (ai_bi (kb_could B c o d))), wl w) := by
  have hm := hk.2.2.2.2.2.2.2.2.1 c o
  have hT : 2 * d < kb_T B o := by unfold kb_d at hd; omega
  have he := hk.2.2.2.2.1 o (2 * d) hT
  have e14 := q_14 hk hc ho
  have e12 := (q_12 hk ho hd).1
  unfold kb_could
  obtain ⟨k, hke⟩ : ∃ k, kb_E B o (2 * d) = k + 1 := ⟨kb_E B o (2 * d) - 1, by omega⟩
  rw [hke] at e12 ⊢
  have e1 := l_isDead (w := w) h hk hc (q := k) (by omega)
  by_cases z : 0 < kb_M B c o
  · have c1 : 0 < nI (kb_M B c o) := nI_lt (a := 0) z (by omega)
    by_cases y : kb_dead B c k = true
    · rw [y] at e1
      simp only [e_167, r_167_0, rx_167_0, r_167_1, r_167_2, r_167_3, r_167_6, r_167_9, rx_167_9, r_167_10, r_167_11, rx_167_11, r_167_12, r_167_13, r_167_14, r_167_15, r_167_18, r_167_19, r_167_20, r_167_23, r_167_26, r_167_27, r_167_30, r_167_31, Option.bind_some, Option.bind_none, Option.toList_some, Option.toList_none, List.cons_append, List.nil_append, Option.map_some, Option.map_none, eq_self, if_true, if_false, reduceIte, ai_bi_eq0, ai_bi_eq1, ai_pb_bi, ai_pb_0, ai_pb_1, s_pages h hk, s_deathOf h hk, e14, e12, c1, s_1, e1, Nat.add_sub_cancel, y, Bool.not_true, Bool.and_false, Bool.true_eq_false]
      rfl
    · have y : kb_dead B c k = false := by simpa using y
      rw [y] at e1
      simp only [e_167, r_167_0, rx_167_0, r_167_1, r_167_2, r_167_3, r_167_6, r_167_9, rx_167_9, r_167_10, r_167_11, rx_167_11, r_167_12, r_167_13, r_167_14, r_167_15, r_167_18, r_167_19, r_167_20, r_167_23, r_167_26, r_167_27, r_167_30, r_167_31, Option.bind_some, Option.bind_none, Option.toList_some, Option.toList_none, List.cons_append, List.nil_append, Option.map_some, Option.map_none, eq_self, if_true, if_false, reduceIte, ai_bi_eq0, ai_bi_eq1, ai_pb_bi, ai_pb_0, ai_pb_1, s_pages h hk, s_deathOf h hk, e14, e12, c1, s_1, e1, Nat.add_sub_cancel, y, z, Bool.not_false, Bool.and_true, decide_true]
      rfl
  · have c1 : ¬ 0 < nI (kb_M B c o) := nI_nlt (a := 0) (by omega) (by omega)
    simp only [e_167, r_167_0, rx_167_0, r_167_1, r_167_2, r_167_3, r_167_6, r_167_9, rx_167_9, r_167_10, r_167_11, rx_167_11, r_167_12, r_167_13, r_167_14, r_167_15, r_167_18, r_167_19, r_167_20, r_167_23, r_167_26, r_167_27, r_167_30, r_167_31, Option.bind_some, Option.bind_none, Option.toList_some, Option.toList_none, List.cons_append, List.nil_append, Option.map_some, Option.map_none, eq_self, if_true, if_false, reduceIte, ai_bi_eq0, ai_bi_eq1, ai_pb_bi, ai_pb_0, ai_pb_1, s_pages h hk, e14, c1, z, decide_false, Bool.false_and]
    rfl
end LQ
