/-! A command of a text carried out on both sides. Printed by gen64.py. -/
theorem x_kind {w : xw_W} {i : Nat} (hi : i < 35) : ai_Call 60 [.ref 175, .int (nI i)] (wl w) = some (some (.int (xw_ki w i)), wl w) := by
  have e := x_get_ki w (nI i)
  rw [ai_rgn hi (by decide)] at e
  simp only [e_60, o_175, r_60_0, r_60_1, r_60_4, r_60_5, r_60_8, Option.bind_some, Option.bind_none, Option.toList_some, Option.toList_none, List.cons_append, List.nil_append, Option.map_some, Option.map_none, eq_self, if_true, if_false, reduceIte, ai_bi_eq0, ai_bi_eq1, ai_pb_bi, ai_pb_0, ai_pb_1, f_175_1, e]
theorem x_argument {w : xw_W} {i j : Nat} (hi : i < 35) (hj : j < 3) : ai_Call 59 [.ref 175, .int (nI i), .int (nI j)] (wl w) = some (some (.int (xw_ar w (i * 3 + j))), wl w) := by
  have e := x_get_ar w (nI (i * 3 + j))
  rw [ai_rgn (by omega) (by decide)] at e
  simp only [e_59, o_175, r_59_0, r_59_1, r_59_4, r_59_5, r_59_6, r_59_7, r_59_8, r_59_9, r_59_12, Option.bind_some, Option.bind_none, Option.toList_some, Option.toList_none, List.cons_append, List.nil_append, Option.map_some, Option.map_none, eq_self, if_true, if_false, reduceIte, ai_bi_eq0, ai_bi_eq1, ai_pb_bi, ai_pb_0, ai_pb_1, f_175_2, n_3, pk_mul, nI_add, e]
theorem kt_D_t {c : Nat → Nat} {p : Nat} {G : List (Option Nat)} (h : (kt_D c p G).1 = true) : ∃ v, v < 1000 ∧ (kt_D c p G).2.2 = G ++ [some v] := by
  unfold kt_D at h ⊢
  split at h
  · rename_i hd
    rw [if_pos hd]
    have := kt_d_of hd
    exact ⟨_, by omega, rfl⟩
  · cases h
theorem kt_N_t {c : Nat → Nat} {p : Nat} {G : List (Option Nat)} (h : (kt_N c p G).1 = true) : ∃ v, v < 1000 ∧ (kt_N c p G).2.2 = G ++ [some v] := by
  unfold kt_N at h ⊢
  split at h
  · rename_i hd
    rw [if_pos hd]
    have := kt_d_of hd
    split
    · rename_i hd2
      have := kt_d_of hd2
      exact ⟨_, by omega, rfl⟩
    · exact ⟨_, by omega, rfl⟩
  · cases h
theorem kt_P_t {c : Nat → Nat} {p : Nat} {G : List (Option Nat)} (h : (kt_P c p G).1 = true) : ∃ v, v < 1000 ∧ (kt_P c p G).2.2 = G ++ [some v] := by
  unfold kt_P at h ⊢
  split at h
  · rename_i hd
    rw [if_pos hd]
    exact ⟨1, by decide, rfl⟩
  · rename_i hd
    rw [if_neg hd]
    split at h
    · rename_i hd2
      rw [if_pos hd2]
      exact ⟨0, by decide, rfl⟩
    · cases h
theorem kt_S_t {c : Nat → Nat} {p : Nat} {G : List (Option Nat)} (h : (kt_S c p G).1 = true) : (kt_S c p G).2.2 = G ++ [none] ∨ ∃ v, v < 1000 ∧ (kt_S c p G).2.2 = G ++ [some v] := by
  unfold kt_S at h ⊢
  split at h
  · rename_i hd
    rw [if_pos hd]
    exact Or.inl rfl
  · rename_i hd
    rw [if_neg hd]
    split at h
    · rename_i hd2
      rw [if_pos hd2]
      split at h
      · rename_i hd3
        rw [if_pos hd3]
        have := kt_d_of hd3
        exact Or.inr ⟨_, by omega, rfl⟩
      · cases h
    · cases h
/-- what the items of a command give -/
def kt_f : List Nat → List (Option Nat) → List (Option Nat) → Prop
  | [], G, H => H = G
  | i :: l, G, H => if i < 3 then ∃ v, v < 1000 ∧ kt_f l (G ++ [some v]) H else if i = 3 then (kt_f l (G ++ [none]) H ∨ ∃ v, v < 1000 ∧ kt_f l (G ++ [some v]) H) else kt_f l G H
theorem kt_s_f {c : Nat → Nat} : ∀ (l : List Nat) (p : Nat) (G : List (Option Nat)), (kt_s c l p G).1 = true → kt_f l G (kt_s c l p G).2.2 := by
  intro l
  induction l with
  | nil => intro p G _; rfl
  | cons i l ih =>
    intro p G h
    rw [kt_s] at h ⊢
    by_cases hi : (kt_i c i p G).1 = true
    · rw [if_pos hi] at h ⊢
      have IH := ih _ _ h
      rw [kt_f]
      by_cases h0 : i = 0
      · subst h0
        rw [if_pos (by decide)]
        obtain ⟨v, hv, e⟩ := kt_D_t (c := c) (p := p) (G := G) hi
        refine ⟨v, hv, ?_⟩
        have e' : (kt_i c 0 p G).2.2 = G ++ [some v] := e
        rw [e'] at IH ⊢
        exact IH
      by_cases h1 : i = 1
      · subst h1
        rw [if_pos (by decide)]
        obtain ⟨v, hv, e⟩ := kt_N_t (c := c) (p := p) (G := G) hi
        refine ⟨v, hv, ?_⟩
        have e' : (kt_i c 1 p G).2.2 = G ++ [some v] := e
        rw [e'] at IH ⊢
        exact IH
      by_cases h2 : i = 2
      · subst h2
        rw [if_pos (by decide)]
        obtain ⟨v, hv, e⟩ := kt_P_t (c := c) (p := p) (G := G) hi
        refine ⟨v, hv, ?_⟩
        have e' : (kt_i c 2 p G).2.2 = G ++ [some v] := e
        rw [e'] at IH ⊢
        exact IH
      by_cases h3 : i = 3
      · subst h3
        rw [if_neg (by decide), if_pos rfl]
        rcases kt_S_t (c := c) (p := p) (G := G) hi with e | ⟨v, hv, e⟩
        · have e' : (kt_i c 3 p G).2.2 = G ++ [none] := e
          left
          rw [e'] at IH ⊢
          exact IH
        · have e' : (kt_i c 3 p G).2.2 = G ++ [some v] := e
          right
          refine ⟨v, hv, ?_⟩
          rw [e'] at IH ⊢
          exact IH
      · rw [if_neg (by omega), if_neg h3]
        have e' : (kt_i c i p G).2.2 = G := by
          unfold kt_i at hi ⊢
          rw [if_neg h0, if_neg h1, if_neg h2, if_neg h3] at hi ⊢
          unfold kt_X
          split <;> rfl
        rw [e'] at IH ⊢
        exact IH
    · rw [if_neg hi] at h
      exact absurd h hi
