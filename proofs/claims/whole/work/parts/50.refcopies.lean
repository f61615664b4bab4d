/-! The reference's copies of rows. -/
def cpn (f : Nat → Int32) (b : Nat) (a : Nat) : Nat → Nat → (Nat → Int32) → (Nat → Int32)
  | _, 0, g => g
  | k, n + 1, g => cpn f b a (k + 1) n (upd g (a + k) (f (b + k)))
theorem cpn_at (f : Nat → Int32) (b a : Nat) : ∀ n k g j, cpn f b a k n g j = if a + k ≤ j ∧ j < a + k + n then f (b + (j - a)) else g j := by
  intro n
  induction n with
  | zero =>
    intro k g j
    rw [cpn, if_neg (by omega)]
  | succ n ih =>
    intro k g j
    rw [cpn, ih]
    by_cases z : j = a + k
    · rw [if_neg (by omega), if_pos (by omega), z, upd_at, show a + k - a = k by omega]
    · rw [upd_ne _ z]
      by_cases y : a + (k + 1) ≤ j ∧ j < a + (k + 1) + n
      · rw [if_pos y, if_pos (by omega)]
      · rw [if_neg y, if_neg (by omega)]
theorem set_same {α : Type} (ws : List α) (y : Nat) (v : α) (h : ws[y]? = some v) : ws.set y v = ws := by
  apply List.ext_getElem?
  intro i
  rw [List.getElem?_set]
  by_cases z : y = i
  · subst z
    rw [if_pos rfl, h]
    obtain ⟨hl, _⟩ := List.getElem?_eq_some_iff.mp h
    rw [if_pos hl]
  · rw [if_neg z]
theorem m_cploop {x y nx ny b a : Nat} {f : Nat → Int32} (hxy : x ≠ y) (hbx : b + 189 ≤ nx) (hay : a + 189 ≤ ny) (hnx : nx < 2 ^ 31) (hny : ny < 2 ^ 31) : ∀ n k g ws, k + n = 189 → ws[x]? = some (.inl (ai_t nx f)) → ws[y]? = some (.inl (ai_t ny g)) → ai_Run 181 3 [.ref x, .int (nI b), .ref y, .int (nI a), .int (nI k)] [] ws = some (none, ws.set y (.inl (ai_t ny (cpn f b a k n g)))) := by
  intro n
  induction n with
  | zero =>
    intro k g ws hk h1 h2
    have c : ¬ nI k < 189 := nI_nlt (a := k) (b := 189) (by omega) (by omega)
    rw [r_181_3, cpn, set_same ws y _ h2]
    simp only [r_181_0, r_181_1, r_181_5, r_181_8, r_181_11, r_181_12, r_181_13, r_181_15, r_181_16, r_181_17, r_181_18, r_181_20, r_181_21, r_181_22, r_181_23, r_181_26, r_181_29, Option.bind_some, Option.bind_none, Option.toList_some, Option.toList_none, List.cons_append, List.nil_append, Option.map_some, Option.map_none, eq_self, if_true, if_false, reduceIte, ai_bi_eq0, ai_bi_eq1, ai_pb_bi, ai_pb_0, ai_pb_1, c]
  | succ n ih =>
    intro k g ws hk h1 h2
    have c : nI k < 189 := nI_lt (a := k) (b := 189) (by omega) (by omega)
    obtain ⟨hl, _⟩ := List.getElem?_eq_some_iff.mp h2
    have e1 : ai_aget ws x (nI (b + k)) = some (f (b + k)) := by
      rw [ai_aget_of h1, ai_ix_nI (by omega) hnx]
      rfl
    have e2 : ai_aset ws y (nI (a + k)) (f (b + k)) = some (ws.set y (.inl (ai_t ny (upd g (a + k) (f (b + k)))))) := by
      rw [ai_aset_of h2, ai_ix_nI (by omega) hny]
      rfl
    have ih := ih (k + 1) (upd g (a + k) (f (b + k))) (ws.set y (.inl (ai_t ny (upd g (a + k) (f (b + k)))))) (by omega) (by rw [List.getElem?_set_ne (by omega)]; exact h1) (by rw [List.getElem?_set_self hl])
    rw [List.set_set] at ih
    rw [r_181_3, cpn]
    simp only [r_181_0, r_181_1, r_181_5, r_181_8, r_181_11, r_181_12, r_181_13, r_181_15, r_181_16, r_181_17, r_181_18, r_181_20, r_181_21, r_181_22, r_181_23, r_181_26, r_181_29, Option.bind_some, Option.bind_none, Option.toList_some, Option.toList_none, List.cons_append, List.nil_append, Option.map_some, Option.map_none, eq_self, if_true, if_false, reduceIte, ai_bi_eq0, ai_bi_eq1, ai_pb_bi, ai_pb_0, ai_pb_1, c, nI_add, e1, e2, nI_1, ih]
theorem m_copies {x y nx ny b a : Nat} {f g : Nat → Int32} {ws : ai_W} (hxy : x ≠ y) (hbx : b + 189 ≤ nx) (hay : a + 189 ≤ ny) (hnx : nx < 2 ^ 31) (hny : ny < 2 ^ 31) (h1 : ws[x]? = some (.inl (ai_t nx f))) (h2 : ws[y]? = some (.inl (ai_t ny g))) : ai_Call 181 [.ref x, .int (nI b), .ref y, .int (nI a)] ws = some (none, ws.set y (.inl (ai_t ny (cpn f b a 0 189 g)))) := by
  have h := m_cploop (x := x) (y := y) (f := f) hxy hbx hay hnx hny 189 0 g ws (by omega) h1 h2
  simp only [e_181, r_181_0, r_181_1, r_181_5, r_181_8, r_181_11, r_181_12, r_181_13, r_181_15, r_181_16, r_181_17, r_181_18, r_181_20, r_181_21, r_181_22, r_181_23, r_181_26, r_181_29, Option.bind_some, Option.bind_none, Option.toList_some, Option.toList_none, List.cons_append, List.nil_append, Option.map_some, Option.map_none, eq_self, if_true, if_false, reduceIte, ai_bi_eq0, ai_bi_eq1, ai_pb_bi, ai_pb_0, ai_pb_1]
  exact h
def cps (b : Nat) (a : Nat) : Nat → Nat → (Nat → Int32) → (Nat → Int32)
  | _, 0, g => g
  | k, n + 1, g => cps b a (k + 1) n (upd g (a + k) (g (b + k)))
theorem cps_at (b a : Nat) (hab : a + 189 ≤ b) : ∀ n k g j, k + n = 189 → cps b a k n g j = if a + k ≤ j ∧ j < a + k + n then g (b + (j - a)) else g j := by
  intro n
  induction n with
  | zero =>
    intro k g j hk
    rw [cps, if_neg (by omega)]
  | succ n ih =>
    intro k g j hk
    rw [cps, ih _ _ _ (by omega)]
    by_cases z : j = a + k
    · rw [if_neg (by omega), if_pos (by omega), z, upd_at, show a + k - a = k by omega]
    · by_cases y : a + (k + 1) ≤ j ∧ j < a + (k + 1) + n
      · rw [if_pos y, if_pos (by omega), upd_ne _ (by omega)]
      · rw [if_neg y, if_neg (by omega), upd_ne _ z]
theorem m_cpsloop {y ny b a : Nat} (hby : b + 189 ≤ ny) (hay : a + 189 ≤ ny) (hny : ny < 2 ^ 31) : ∀ n k g ws, k + n = 189 → ws[y]? = some (.inl (ai_t ny g)) → ai_Run 181 3 [.ref y, .int (nI b), .ref y, .int (nI a), .int (nI k)] [] ws = some (none, ws.set y (.inl (ai_t ny (cps b a k n g)))) := by
  intro n
  induction n with
  | zero =>
    intro k g ws hk h2
    have c : ¬ nI k < 189 := nI_nlt (a := k) (b := 189) (by omega) (by omega)
    rw [r_181_3, cps, set_same ws y _ h2]
    simp only [r_181_0, r_181_1, r_181_5, r_181_8, r_181_11, r_181_12, r_181_13, r_181_15, r_181_16, r_181_17, r_181_18, r_181_20, r_181_21, r_181_22, r_181_23, r_181_26, r_181_29, Option.bind_some, Option.bind_none, Option.toList_some, Option.toList_none, List.cons_append, List.nil_append, Option.map_some, Option.map_none, eq_self, if_true, if_false, reduceIte, ai_bi_eq0, ai_bi_eq1, ai_pb_bi, ai_pb_0, ai_pb_1, c]
  | succ n ih =>
    intro k g ws hk h2
    have c : nI k < 189 := nI_lt (a := k) (b := 189) (by omega) (by omega)
    obtain ⟨hl, _⟩ := List.getElem?_eq_some_iff.mp h2
    have e1 : ai_aget ws y (nI (b + k)) = some (g (b + k)) := by
      rw [ai_aget_of h2, ai_ix_nI (by omega) hny]
      rfl
    have e2 : ai_aset ws y (nI (a + k)) (g (b + k)) = some (ws.set y (.inl (ai_t ny (upd g (a + k) (g (b + k)))))) := by
      rw [ai_aset_of h2, ai_ix_nI (by omega) hny]
      rfl
    have ih := ih (k + 1) (upd g (a + k) (g (b + k))) (ws.set y (.inl (ai_t ny (upd g (a + k) (g (b + k)))))) (by omega) (by rw [List.getElem?_set_self hl])
    rw [List.set_set] at ih
    rw [r_181_3, cps]
    simp only [r_181_0, r_181_1, r_181_5, r_181_8, r_181_11, r_181_12, r_181_13, r_181_15, r_181_16, r_181_17, r_181_18, r_181_20, r_181_21, r_181_22, r_181_23, r_181_26, r_181_29, Option.bind_some, Option.bind_none, Option.toList_some, Option.toList_none, List.cons_append, List.nil_append, Option.map_some, Option.map_none, eq_self, if_true, if_false, reduceIte, ai_bi_eq0, ai_bi_eq1, ai_pb_bi, ai_pb_0, ai_pb_1, c, nI_add, e1, e2, nI_1, ih]
theorem m_copiesS {y ny b a : Nat} {g : Nat → Int32} {ws : ai_W} (hby : b + 189 ≤ ny) (hay : a + 189 ≤ ny) (hny : ny < 2 ^ 31) (h2 : ws[y]? = some (.inl (ai_t ny g))) : ai_Call 181 [.ref y, .int (nI b), .ref y, .int (nI a)] ws = some (none, ws.set y (.inl (ai_t ny (cps b a 0 189 g)))) := by
  have h := m_cpsloop (y := y) hby hay hny 189 0 g ws (by omega) h2
  simp only [e_181, r_181_0, r_181_1, r_181_5, r_181_8, r_181_11, r_181_12, r_181_13, r_181_15, r_181_16, r_181_17, r_181_18, r_181_20, r_181_21, r_181_22, r_181_23, r_181_26, r_181_29, Option.bind_some, Option.bind_none, Option.toList_some, Option.toList_none, List.cons_append, List.nil_append, Option.map_some, Option.map_none, eq_self, if_true, if_false, reduceIte, ai_bi_eq0, ai_bi_eq1, ai_pb_bi, ai_pb_0, ai_pb_1]
  exact h
