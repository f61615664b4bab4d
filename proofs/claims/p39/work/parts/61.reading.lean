/-! What a text says: its commands, and where reading it stops. -/
abbrev kt_R : Type := Bool × Nat × List (Option Nat)
abbrev kt_C : Type := Nat × List (Option Nat)
def kt_d (c : Nat → Nat) (p : Nat) : Bool := decide (48 ≤ c p ∧ c p ≤ 57)
def kt_D (c : Nat → Nat) (p : Nat) (G : List (Option Nat)) : kt_R := if kt_d c p = true then (true, p + 1, G ++ [some (c p - 48)]) else (false, p, G)
def kt_N (c : Nat → Nat) (p : Nat) (G : List (Option Nat)) : kt_R := if kt_d c p = true then (if kt_d c (p + 1) = true then (true, p + 2, G ++ [some (10 * (c p - 48) + (c (p + 1) - 48))]) else (true, p + 1, G ++ [some (c p - 48)])) else (false, p, G)
def kt_P (c : Nat → Nat) (p : Nat) (G : List (Option Nat)) : kt_R := if c p = 43 then (true, p + 1, G ++ [some 1]) else if c p = 45 then (true, p + 1, G ++ [some 0]) else (false, p, G)
def kt_S (c : Nat → Nat) (p : Nat) (G : List (Option Nat)) : kt_R := if c p = 45 then (true, p + 1, G ++ [none]) else if c p = 61 then (if kt_d c (p + 1) = true then (true, p + 2, G ++ [some (c (p + 1) - 48)]) else (false, p + 1, G)) else (false, p, G)
def kt_X (c : Nat → Nat) (x p : Nat) (G : List (Option Nat)) : kt_R := if c p = x then (true, p + 1, G) else (false, p, G)
/-- items: 0 a digit, 1 a number, 2 plus or minus, 3 a severity or minus, else a sign -/
def kt_i (c : Nat → Nat) (i p : Nat) (G : List (Option Nat)) : kt_R := if i = 0 then kt_D c p G else if i = 1 then kt_N c p G else if i = 2 then kt_P c p G else if i = 3 then kt_S c p G else kt_X c i p G
def kt_s (c : Nat → Nat) : List Nat → Nat → List (Option Nat) → kt_R
  | [], p, G => (true, p, G)
  | i :: l, p, G => if (kt_i c i p G).1 = true then kt_s c l (kt_i c i p G).2.1 (kt_i c i p G).2.2 else kt_i c i p G
def kt_g (k : Nat) : Option (List Nat) := if k = 97 then some [] else if k = 99 then some [] else if k = 100 then some [0, 64, 1] else if k = 106 then some [0, 3] else if k = 109 then some [0, 0, 61, 0] else if k = 111 then some [0, 2] else if k = 114 then some [0, 64, 1] else if k = 116 then some [0, 0, 0] else if k = 119 then some [1, 64, 0] else if k = 120 then some [0] else none
def kt_c (c : Nat → Nat) (p : Nat) : kt_R := match kt_g (c p) with
  | none => (false, p, [])
  | some l => kt_s c l (p + 1) []
def kt_a (c : Nat → Nat) (n : Nat) : Nat → Nat → Option (List kt_C) × Nat
  | 0, p => (none, p)
  | f + 1, p => if (kt_c c p).1 = true then (if (kt_c c p).2.1 = n then (some [(c p, (kt_c c p).2.2)], (kt_c c p).2.1) else if c (kt_c c p).2.1 = 59 then ((kt_a c n f ((kt_c c p).2.1 + 1)).1.map fun l => (c p, (kt_c c p).2.2) :: l, (kt_a c n f ((kt_c c p).2.1 + 1)).2) else (none, (kt_c c p).2.1)) else (none, (kt_c c p).2.1)
/-- a text: signs below n, none from n on -/
def kt_ok (n : Nat) (c : Nat → Nat) : Prop := n ≤ 70 ∧ (∀ j, j < n → 32 ≤ c j ∧ c j ≤ 126) ∧ (∀ j, n ≤ j → c j = 0)
theorem kt_lt {n : Nat} {c : Nat → Nat} (h : kt_ok n c) {p : Nat} (h0 : 0 < c p) : p < n := by
  rcases Nat.lt_or_ge p n with z | z
  · exact z
  · have := h.2.2 p z
    omega
theorem kt_c127 {n : Nat} {c : Nat → Nat} (h : kt_ok n c) (p : Nat) : c p ≤ 126 := by
  rcases Nat.lt_or_ge p n with z | z
  · exact (h.2.1 p z).2
  · have := h.2.2 p z
    omega
theorem kt_d_of {c : Nat → Nat} {p : Nat} (h : kt_d c p = true) : 48 ≤ c p ∧ c p ≤ 57 := of_decide_eq_true h
theorem kt_i_b {n : Nat} {c : Nat → Nat} (h : kt_ok n c) (i : Nat) {p : Nat} (hp : p ≤ n) (G : List (Option Nat)) : p ≤ (kt_i c i p G).2.1 ∧ (kt_i c i p G).2.1 ≤ n ∧ (kt_i c i p G).2.2.length ≤ G.length + 1 := by
  have hD : ∀ q, kt_d c q = true → q < n := fun q hq => kt_lt h (by have := kt_d_of hq; omega)
  unfold kt_i
  split
  · unfold kt_D
    split
    · rename_i hd
      have := hD _ hd
      refine ⟨?_, ?_, ?_⟩ <;> simp <;> omega
    · refine ⟨?_, ?_, ?_⟩ <;> simp <;> omega
  · split
    · unfold kt_N
      split
      · rename_i hd
        have := hD _ hd
        split
        · rename_i hd2
          have := hD _ hd2
          refine ⟨?_, ?_, ?_⟩ <;> simp <;> omega
        · refine ⟨?_, ?_, ?_⟩ <;> simp <;> omega
      · refine ⟨?_, ?_, ?_⟩ <;> simp <;> omega
    · split
      · unfold kt_P
        split
        · rename_i hd
          have := kt_lt h (p := p) (by omega)
          refine ⟨?_, ?_, ?_⟩ <;> simp <;> omega
        · split
          · rename_i hd
            have := kt_lt h (p := p) (by omega)
            refine ⟨?_, ?_, ?_⟩ <;> simp <;> omega
          · refine ⟨?_, ?_, ?_⟩ <;> simp <;> omega
      · split
        · unfold kt_S
          split
          · rename_i hd
            have := kt_lt h (p := p) (by omega)
            refine ⟨?_, ?_, ?_⟩ <;> simp <;> omega
          · split
            · rename_i hd
              have := kt_lt h (p := p) (by omega)
              split
              · rename_i hd2
                have := hD _ hd2
                refine ⟨?_, ?_, ?_⟩ <;> simp <;> omega
              · refine ⟨?_, ?_, ?_⟩ <;> simp <;> omega
            · refine ⟨?_, ?_, ?_⟩ <;> simp <;> omega
        · unfold kt_X
          split
          · rename_i hd
            have := kt_lt h (p := p) (by omega)
            refine ⟨?_, ?_, ?_⟩ <;> simp <;> omega
          · refine ⟨?_, ?_, ?_⟩ <;> simp <;> omega
theorem kt_s_b {n : Nat} {c : Nat → Nat} (h : kt_ok n c) : ∀ (l : List Nat) {p : Nat}, p ≤ n → ∀ G : List (Option Nat), p ≤ (kt_s c l p G).2.1 ∧ (kt_s c l p G).2.1 ≤ n := by
  intro l
  induction l with
  | nil => intro p hp G; exact ⟨Nat.le_refl _, hp⟩
  | cons i l ih =>
    intro p hp G
    have hb := kt_i_b h i hp G
    rw [kt_s]
    split
    · have := ih hb.2.1 (kt_i c i p G).2.2
      omega
    · exact ⟨hb.1, hb.2.1⟩
theorem kt_g_0 {k : Nat} {l : List Nat} (h : kt_g k = some l) : 0 < k := by
  rcases Nat.eq_zero_or_pos k with z | z
  · subst z; rw [show kt_g 0 = none from rfl] at h; cases h
  · exact z
theorem kt_c_b {n : Nat} {c : Nat → Nat} (h : kt_ok n c) {p : Nat} (hp : p ≤ n) : p ≤ (kt_c c p).2.1 ∧ (kt_c c p).2.1 ≤ n ∧ ((kt_c c p).1 = true → p < (kt_c c p).2.1) := by
  unfold kt_c
  cases hg : kt_g (c p) with
  | none => exact ⟨Nat.le_refl _, hp, fun z => by cases z⟩
  | some l =>
    have hlt := kt_lt h (kt_g_0 hg)
    have := kt_s_b h l (p := p + 1) hlt []
    exact ⟨by dsimp only; omega, this.2, fun _ => by dsimp only; omega⟩
/-! The class reads. -/
def xpo (w : xw_W) := ((xw_b w, xw_ky w, xw_rn w, xw_rr w, xw_rd w, xw_rc w, xw_hi w, xw_sn w, xw_hn w, xw_hm w, xw_hs w, xw_co w, xw_tl w, xw_li w, xw_ll w), w.2)
def kx_a : Option Nat → Int32
  | none => -1
  | some v => nI v
def kx_st (ki ar : Nat → Int32) (Q : List kt_C) : Prop := ∀ i q, Q[i]? = some q → ki i = nI q.1 ∧ ∀ j a, j < 3 → q.2[j]? = some a → ar (i * 3 + j) = kx_a a
def xt (w : xw_W) (n : Nat) (c : Nat → Nat) : Prop := kt_ok n c ∧ xw_tl w = nI n ∧ (∀ j, j < n → xw_co w j = nI (c j))
def xp (w : xw_W) (p : Nat) (Q : List kt_C) (k : Nat) (G : List (Option Nat)) (w1 : xw_W) : Prop := xpo w1 = xpo w ∧ xw_tp w1 = nI p ∧ xw_tc w1 = nI Q.length ∧ xw_tg w1 = nI G.length ∧ kx_st (xw_ki w1) (xw_ar w1) (Q ++ [(k, G)])
def xr (w : xw_W) (Q : List kt_C) (k : Nat) (r : kt_R) (a : Option (Option Value × ai_W)) : Prop := ∃ w2, a = some (some (.int (ai_bi r.1)), wl w2) ∧ xpo w2 = xpo w ∧ xw_tp w2 = nI r.2.1 ∧ xw_tc w2 = nI Q.length ∧ (r.1 = true → xp w r.2.1 Q k r.2.2 w2)
theorem xt_of {w w1 : xw_W} (h : xpo w1 = xpo w) {n : Nat} {c : Nat → Nat} (ht : xt w n c) : xt w1 n c := by
  have e1 : xw_tl w1 = xw_tl w := congrArg (fun x => x.1.2.2.2.2.2.2.2.2.2.2.2.2.1) h
  have e2 : xw_co w1 = xw_co w := congrArg (fun x => x.1.2.2.2.2.2.2.2.2.2.2.2.1) h
  exact ⟨ht.1, e1.trans ht.2.1, by rw [e2]; exact ht.2.2⟩
theorem x_ahead {w : xw_W} {n p : Nat} {c : Nat → Nat} (ht : xt w n c) (hp : p ≤ n) (h : xw_tp w = nI p) : ai_Call 124 [.ref 175] (wl w) = some (some (.int (nI (c p))), wl w) := by
  have hn := ht.1.1
  by_cases z : p < n
  · have c1 : nI p < nI n := nI_lt z (by omega)
    have g : ai_Call 12 [.ref 176, .int (nI p)] (wl w) = some (some (.int (nI (c p))), wl w) := by rw [x_get_co, ai_rgn (by omega) (by decide), ht.2.2 p z]
    simp only [e_124, o_175, r_124_0, r_124_1, r_124_4, r_124_5, r_124_8, r_124_11, r_124_12, r_124_15, r_124_16, r_124_19, r_124_22, r_124_25, r_124_26, Option.bind_some, Option.bind_none, Option.toList_some, Option.toList_none, List.cons_append, List.nil_append, Option.map_some, Option.map_none, eq_self, if_true, if_false, reduceIte, ai_bi_eq0, ai_bi_eq1, ai_pb_bi, ai_pb_0, ai_pb_1, f_175_0, f_175_3, f_175_5, h, ht.2.1, c1, g]
  · have c1 : ¬ nI p < nI n := nI_nlt (by omega) (by omega)
    have e : c p = 0 := ht.1.2.2 p (by omega)
    rw [e]
    simp only [e_124, o_175, r_124_0, r_124_1, r_124_4, r_124_5, r_124_8, r_124_11, r_124_12, r_124_15, r_124_16, r_124_19, r_124_22, r_124_25, r_124_26, Option.bind_some, Option.bind_none, Option.toList_some, Option.toList_none, List.cons_append, List.nil_append, Option.map_some, Option.map_none, eq_self, if_true, if_false, reduceIte, ai_bi_eq0, ai_bi_eq1, ai_pb_bi, ai_pb_0, ai_pb_1, f_175_3, f_175_5, h, ht.2.1, c1]
    rfl
theorem x_isDigit {v : Nat} (hv : v < 1000) (ws : ai_W) : ai_Call 126 [.int (nI v)] ws = some (some (.int (ai_bi (decide (48 ≤ v ∧ v ≤ 57)))), ws) := by
  by_cases c1 : v < 48
  · have d1 : nI v < 48 := nI_lt (b := 48) c1 (by decide)
    have e : decide (48 ≤ v ∧ v ≤ 57) = false := decide_eq_false (by omega)
    rw [e]
    simp only [e_126, r_126_0, r_126_1, r_126_3, r_126_6, r_126_7, r_126_9, r_126_12, r_126_13, r_126_16, r_126_17, Option.bind_some, Option.bind_none, Option.toList_some, Option.toList_none, List.cons_append, List.nil_append, Option.map_some, Option.map_none, eq_self, if_true, if_false, reduceIte, ai_bi_eq0, ai_bi_eq1, ai_pb_bi, ai_pb_0, ai_pb_1, d1]
    rfl
  · have d1 : ¬ nI v < 48 := nI_nlt (b := 48) (by omega) (by omega)
    by_cases c2 : 57 < v
    · have d2 : 57 < nI v := nI_lt (a := 57) c2 (by omega)
      have e : decide (48 ≤ v ∧ v ≤ 57) = false := decide_eq_false (by omega)
      rw [e]
      simp only [e_126, r_126_0, r_126_1, r_126_3, r_126_6, r_126_7, r_126_9, r_126_12, r_126_13, r_126_16, r_126_17, Option.bind_some, Option.bind_none, Option.toList_some, Option.toList_none, List.cons_append, List.nil_append, Option.map_some, Option.map_none, eq_self, if_true, if_false, reduceIte, ai_bi_eq0, ai_bi_eq1, ai_pb_bi, ai_pb_0, ai_pb_1, d1, d2]
      rfl
    · have d2 : ¬ 57 < nI v := nI_nlt (a := 57) (by omega) (by decide)
      have e : decide (48 ≤ v ∧ v ≤ 57) = true := decide_eq_true (by omega)
      rw [e]
      simp only [e_126, r_126_0, r_126_1, r_126_3, r_126_6, r_126_7, r_126_9, r_126_12, r_126_13, r_126_16, r_126_17, Option.bind_some, Option.bind_none, Option.toList_some, Option.toList_none, List.cons_append, List.nil_append, Option.map_some, Option.map_none, eq_self, if_true, if_false, reduceIte, ai_bi_eq0, ai_bi_eq1, ai_pb_bi, ai_pb_0, ai_pb_1, d1, d2]
      rfl
theorem xpo_tp (w : xw_W) (v : Int32) : xpo (xw_wtp w v) = xpo w := rfl
theorem xpo_ga (w : xw_W) (f : Nat → Int32) (v : Int32) : xpo (xw_wtg (xw_war w f) v) = xpo w := rfl
theorem xpo_gk (w : xw_W) (f : Nat → Int32) (v : Int32) : xpo (xw_wtg (xw_wki w f) v) = xpo w := rfl
theorem xpo_tc (w : xw_W) (v : Int32) : xpo (xw_wtc w v) = xpo w := rfl
section READ
variable {w : xw_W} {n p k : Nat} {c : Nat → Nat} {Q : List kt_C} {G : List (Option Nat)} {w1 : xw_W}
theorem x_step (h : xp w p Q k G w1) : ∃ w2, ai_fput (wl w1) 175 9 5 (.int (nI (p + 1))) = some (wl w2) ∧ xp w (p + 1) Q k G w2 := by
  obtain ⟨h1, h2, h3, h4, h5⟩ := h
  exact ⟨xw_wtp w1 (nI (p + 1)), p_175_5 _ _, (xpo_tp _ _).trans h1, rfl, h3, h4, h5⟩
theorem kx_st_put {ki ar : Nat → Int32} (h : kx_st ki ar (Q ++ [(k, G)])) (hg : G.length < 3) (a : Option Nat) : kx_st ki (upd ar (Q.length * 3 + G.length) (kx_a a)) (Q ++ [(k, G ++ [a])]) := by
  intro i q hq
  rcases Nat.lt_trichotomy i Q.length with z | z | z
  · rw [List.getElem?_append_left z] at hq
    have h1 := h i q (by rw [List.getElem?_append_left z]; exact hq)
    refine ⟨h1.1, fun j b hj hb => ?_⟩
    rw [upd_ne _ (by omega)]
    exact h1.2 j b hj hb
  · subst z
    have e : q = (k, G ++ [a]) := by simpa using hq.symm
    subst e
    have h1 := h Q.length (k, G) (by simp)
    refine ⟨h1.1, fun j b hj hb => ?_⟩
    rcases Nat.lt_trichotomy j G.length with y | y | y
    · rw [upd_ne _ (by omega)]
      refine h1.2 j b hj ?_
      have hb' : (G ++ [a])[j]? = some b := hb
      rw [List.getElem?_append_left y] at hb'
      exact hb'
    · subst y
      have hb' : (G ++ [a])[G.length]? = some b := hb
      have e : a = b := by simpa using hb'
      rw [upd_at, e]
    · have hb' : (G ++ [a])[j]? = some b := hb
      rw [List.getElem?_eq_none (by rw [List.length_append, List.length_singleton]; omega)] at hb'
      exact absurd hb' (by simp)
  · rw [List.getElem?_eq_none (by rw [List.length_append, List.length_singleton]; omega)] at hq
    exact absurd hq (by simp)
theorem x_give (h : xp w p Q k G w1) (hg : G.length < 3) (hQ : Q.length < 35) (a : Option Nat) : ∃ w2, ai_Call 127 [.ref 175, .int (kx_a a)] (wl w1) = some (none, wl w2) ∧ xp w p Q k (G ++ [a]) w2 := by
  obtain ⟨h1, h2, h3, h4, h5⟩ := h
  have e1 := x_set_ar w1 (show Q.length * 3 + G.length < 105 by omega) (kx_a a)
  have e2 : ai_fget (wl (xw_war w1 (upd (xw_ar w1) (Q.length * 3 + G.length) (kx_a a)))) 175 9 6 = some (.int (nI G.length)) := by
    rw [f_175_6]
    exact congrArg (fun x => some (Value.int x)) h4
  refine ⟨xw_wtg (xw_war w1 (upd (xw_ar w1) (Q.length * 3 + G.length) (kx_a a))) (nI (G.length + 1)), ?_, (xpo_ga _ _ _).trans h1, h2, h3, ?_, kx_st_put h5 hg a⟩
  · simp only [e_127, o_175, r_127_0, r_127_1, r_127_4, r_127_5, r_127_8, r_127_9, r_127_10, r_127_11, r_127_14, r_127_15, r_127_16, r_127_19, r_127_20, r_127_21, r_127_24, r_127_25, r_127_26, r_127_29, Option.bind_some, Option.bind_none, Option.toList_some, Option.toList_none, List.cons_append, List.nil_append, Option.map_some, Option.map_none, eq_self, if_true, if_false, reduceIte, ai_bi_eq0, ai_bi_eq1, ai_pb_bi, ai_pb_0, ai_pb_1, f_175_2, f_175_4, f_175_6, h3, h4, n_3, pk_mul, nI_add, e1, e2, nI_1, p_175_6]
  · rw [List.length_append, List.length_singleton]
theorem x_take (ht : xt w n c) (h : xp w p Q k G w1) (hp : p ≤ n) {x : Nat} (hx : x < 1000) : xr w Q k (kt_X c x p G) (ai_Call 125 [.ref 175, .int (nI x)] (wl w1)) := by
  have ea := x_ahead (xt_of h.1 ht) hp h.2.1
  have h126 := kt_c127 ht.1 p
  have hn := ht.1.1
  unfold kt_X
  by_cases z : c p = x
  · rw [if_pos z]
    obtain ⟨w2, e2, h2⟩ := x_step h
    refine ⟨w2, ?_, h2.1, h2.2.1, h2.2.2.1, fun _ => h2⟩
    have c1 : nI (c p) = nI x := by rw [z]
    simp only [e_125, o_175, r_125_0, r_125_1, r_125_4, r_125_5, r_125_8, r_125_9, r_125_10, r_125_11, r_125_12, r_125_15, r_125_16, r_125_17, r_125_20, r_125_21, Option.bind_some, Option.bind_none, Option.toList_some, Option.toList_none, List.cons_append, List.nil_append, Option.map_some, Option.map_none, eq_self, if_true, if_false, reduceIte, ai_bi_eq0, ai_bi_eq1, ai_pb_bi, ai_pb_0, ai_pb_1, ea, c1, f_175_5, h.2.1, nI_1, e2]
    rfl
  · rw [if_neg z]
    have c1 : ¬ nI (c p) = nI x := fun y => z ((nI_eq (by omega) (by omega)).mp y)
    refine ⟨w1, ?_, h.1, h.2.1, h.2.2.1, fun y => by cases y⟩
    simp only [e_125, o_175, r_125_0, r_125_1, r_125_4, r_125_5, r_125_8, r_125_9, r_125_10, r_125_11, r_125_12, r_125_15, r_125_16, r_125_17, r_125_20, r_125_21, Option.bind_some, Option.bind_none, Option.toList_some, Option.toList_none, List.cons_append, List.nil_append, Option.map_some, Option.map_none, eq_self, if_true, if_false, reduceIte, ai_bi_eq0, ai_bi_eq1, ai_pb_bi, ai_pb_0, ai_pb_1, ea, c1]
    rfl
theorem nI_48 {v : Nat} (h : 48 ≤ v) : nI v - 48 = nI (v - 48) := pk_sub (b := 48) h
theorem x_takeDigit (ht : xt w n c) (h : xp w p Q k G w1) (hp : p ≤ n) (hg : G.length < 3) (hQ : Q.length < 35) : xr w Q k (kt_D c p G) (ai_Call 128 [.ref 175] (wl w1)) := by
  have ea := x_ahead (xt_of h.1 ht) hp h.2.1
  have h126 := kt_c127 ht.1 p
  have hn := ht.1.1
  have ed : ai_Call 126 [.int (nI (c p))] (wl w1) = some (some (.int (ai_bi (kt_d c p))), wl w1) := x_isDigit (by omega) _
  unfold kt_D
  by_cases z : kt_d c p = true
  · rw [if_pos z]
    rw [z] at ed
    obtain ⟨w2, e2, h2⟩ := x_step h
    obtain ⟨w3, e3, h3⟩ := x_give h2 hg hQ (some (c p - 48))
    have e3' : ai_Call 127 [.ref 175, .int (nI (c p - 48))] (wl w2) = some (none, wl w3) := e3
    refine ⟨w3, ?_, h3.1, h3.2.1, h3.2.2.1, fun _ => h3⟩
    simp only [e_128, o_175, r_128_0, r_128_1, r_128_4, r_128_5, r_128_6, r_128_9, r_128_12, r_128_13, r_128_14, r_128_15, r_128_16, r_128_19, r_128_20, r_128_21, r_128_24, r_128_25, r_128_26, r_128_28, r_128_29, r_128_32, r_128_33, Option.bind_some, Option.bind_none, Option.toList_some, Option.toList_none, List.cons_append, List.nil_append, Option.map_some, Option.map_none, eq_self, if_true, if_false, reduceIte, ai_bi_eq0, ai_bi_eq1, ai_pb_bi, ai_pb_0, ai_pb_1, ea, ed, Bool.true_eq_false, f_175_5, h.2.1, nI_1, e2, nI_48 (kt_d_of z).1, e3']
    rfl
  · rw [if_neg z]
    have z' : kt_d c p = false := by simpa using z
    rw [z'] at ed
    refine ⟨w1, ?_, h.1, h.2.1, h.2.2.1, fun y => by cases y⟩
    simp only [e_128, o_175, r_128_0, r_128_1, r_128_4, r_128_5, r_128_6, r_128_9, r_128_12, r_128_13, r_128_14, r_128_15, r_128_16, r_128_19, r_128_20, r_128_21, r_128_24, r_128_25, r_128_26, r_128_28, r_128_29, r_128_32, r_128_33, Option.bind_some, Option.bind_none, Option.toList_some, Option.toList_none, List.cons_append, List.nil_append, Option.map_some, Option.map_none, eq_self, if_true, if_false, reduceIte, ai_bi_eq0, ai_bi_eq1, ai_pb_bi, ai_pb_0, ai_pb_1, ea, ed]
    rfl
theorem nI_10 {a v : Nat} (h : 48 ≤ v) : 10 * nI a + nI v - 48 = nI (10 * a + (v - 48)) := by
  rw [show (10 : Int32) = nI 10 from rfl, pk_mul, nI_add, nI_48 (by omega)]
  congr 1
  omega
theorem x_takeNumber (ht : xt w n c) (h : xp w p Q k G w1) (hp : p ≤ n) (hg : G.length < 3) (hQ : Q.length < 35) : xr w Q k (kt_N c p G) (ai_Call 129 [.ref 175] (wl w1)) := by
  have ea := x_ahead (xt_of h.1 ht) hp h.2.1
  have h126 := kt_c127 ht.1 p
  have hn := ht.1.1
  have ed : ai_Call 126 [.int (nI (c p))] (wl w1) = some (some (.int (ai_bi (kt_d c p))), wl w1) := x_isDigit (by omega) _
  unfold kt_N
  by_cases z : kt_d c p = true
  · rw [if_pos z]
    rw [z] at ed
    have hlt := kt_lt ht.1 (p := p) (by have := kt_d_of z; omega)
    obtain ⟨w2, e2, h2⟩ := x_step h
    have ea2 := x_ahead (xt_of h2.1 ht) (show p + 1 ≤ n by omega) h2.2.1
    have h1262 := kt_c127 ht.1 (p + 1)
    have ed2 : ai_Call 126 [.int (nI (c (p + 1)))] (wl w2) = some (some (.int (ai_bi (kt_d c (p + 1)))), wl w2) := x_isDigit (by omega) _
    by_cases y : kt_d c (p + 1) = true
    · rw [if_pos y]
      rw [y] at ed2
      obtain ⟨w3, e3, h3⟩ := x_step h2
      obtain ⟨w4, e4, h4⟩ := x_give h3 hg hQ (some (10 * (c p - 48) + (c (p + 1) - 48)))
      have e4' : ai_Call 127 [.ref 175, .int (nI (10 * (c p - 48) + (c (p + 1) - 48)))] (wl w3) = some (none, wl w4) := e4
      refine ⟨w4, ?_, h4.1, h4.2.1, h4.2.2.1, fun _ => h4⟩
      simp only [e_129, o_175, r_129_0, r_129_1, r_129_4, r_129_5, r_129_6, r_129_9, r_129_12, r_129_13, r_129_14, r_129_15, r_129_16, r_129_19, r_129_20, r_129_21, r_129_24, r_129_25, r_129_27, r_129_28, r_129_29, r_129_30, r_129_33, r_129_34, r_129_35, r_129_38, r_129_41, r_129_42, r_129_43, r_129_46, r_129_47, r_129_48, r_129_51, r_129_53, r_129_54, r_129_55, r_129_56, r_129_57, r_129_59, r_129_60, r_129_61, r_129_62, r_129_63, r_129_66, r_129_67, Option.bind_some, Option.bind_none, Option.toList_some, Option.toList_none, List.cons_append, List.nil_append, Option.map_some, Option.map_none, eq_self, if_true, if_false, reduceIte, ai_bi_eq0, ai_bi_eq1, ai_pb_bi, ai_pb_0, ai_pb_1, ea, ed, Bool.true_eq_false, f_175_5, h.2.1, nI_1, e2, nI_48 (kt_d_of z).1, ea2, ed2, h2.2.1, e3, nI_10 (kt_d_of y).1, e4']
      rfl
    · rw [if_neg y]
      have y' : kt_d c (p + 1) = false := by simpa using y
      rw [y'] at ed2
      obtain ⟨w4, e4, h4⟩ := x_give h2 hg hQ (some (c p - 48))
      have e4' : ai_Call 127 [.ref 175, .int (nI (c p - 48))] (wl w2) = some (none, wl w4) := e4
      refine ⟨w4, ?_, h4.1, h4.2.1, h4.2.2.1, fun _ => h4⟩
      simp only [e_129, o_175, r_129_0, r_129_1, r_129_4, r_129_5, r_129_6, r_129_9, r_129_12, r_129_13, r_129_14, r_129_15, r_129_16, r_129_19, r_129_20, r_129_21, r_129_24, r_129_25, r_129_27, r_129_28, r_129_29, r_129_30, r_129_33, r_129_34, r_129_35, r_129_38, r_129_41, r_129_42, r_129_43, r_129_46, r_129_47, r_129_48, r_129_51, r_129_53, r_129_54, r_129_55, r_129_56, r_129_57, r_129_59, r_129_60, r_129_61, r_129_62, r_129_63, r_129_66, r_129_67, Option.bind_some, Option.bind_none, Option.toList_some, Option.toList_none, List.cons_append, List.nil_append, Option.map_some, Option.map_none, eq_self, if_true, if_false, reduceIte, ai_bi_eq0, ai_bi_eq1, ai_pb_bi, ai_pb_0, ai_pb_1, ea, ed, Bool.true_eq_false, f_175_5, h.2.1, nI_1, e2, nI_48 (kt_d_of z).1, ea2, ed2, e4']
      rfl
  · rw [if_neg z]
    have z' : kt_d c p = false := by simpa using z
    rw [z'] at ed
    refine ⟨w1, ?_, h.1, h.2.1, h.2.2.1, fun y => by cases y⟩
    simp only [e_129, o_175, r_129_0, r_129_1, r_129_4, r_129_5, r_129_6, r_129_9, r_129_12, r_129_13, r_129_14, r_129_15, r_129_16, r_129_19, r_129_20, r_129_21, r_129_24, r_129_25, r_129_27, r_129_28, r_129_29, r_129_30, r_129_33, r_129_34, r_129_35, r_129_38, r_129_41, r_129_42, r_129_43, r_129_46, r_129_47, r_129_48, r_129_51, r_129_53, r_129_54, r_129_55, r_129_56, r_129_57, r_129_59, r_129_60, r_129_61, r_129_62, r_129_63, r_129_66, r_129_67, Option.bind_some, Option.bind_none, Option.toList_some, Option.toList_none, List.cons_append, List.nil_append, Option.map_some, Option.map_none, eq_self, if_true, if_false, reduceIte, ai_bi_eq0, ai_bi_eq1, ai_pb_bi, ai_pb_0, ai_pb_1, ea, ed]
    rfl
theorem xr_t {r : kt_R} {q : Nat} {H : List (Option Nat)} {a : Option (Option Value × ai_W)} (h : xr w Q k r a) (hr : r = (true, q, H)) : ∃ w2, a = some (some (.int 1), wl w2) ∧ xp w q Q k H w2 := by
  subst hr
  obtain ⟨w2, e, _, _, _, h2⟩ := h
  exact ⟨w2, e, h2 rfl⟩
theorem xr_f {r : kt_R} {q : Nat} {H : List (Option Nat)} {a : Option (Option Value × ai_W)} (h : xr w Q k r a) (hr : r = (false, q, H)) : ∃ w2, a = some (some (.int 0), wl w2) ∧ xpo w2 = xpo w ∧ xw_tp w2 = nI q ∧ xw_tc w2 = nI Q.length := by
  subst hr
  obtain ⟨w2, e, h1, h2, h3, _⟩ := h
  exact ⟨w2, e, h1, h2, h3⟩
/-- a sign that is not there changes nothing -/
theorem x_take_no (ht : xt w n c) (h : xp w p Q k G w1) (hp : p ≤ n) {x : Nat} (hx : x < 1000) (hc : ¬ c p = x) : ai_Call 125 [.ref 175, .int (nI x)] (wl w1) = some (some (.int 0), wl w1) := by
  have ea := x_ahead (xt_of h.1 ht) hp h.2.1
  have h126 := kt_c127 ht.1 p
  have c1 : ¬ nI (c p) = nI x := fun y => hc ((nI_eq (by omega) (by omega)).mp y)
  simp only [e_125, o_175, r_125_0, r_125_1, r_125_4, r_125_5, r_125_8, r_125_9, r_125_10, r_125_11, r_125_12, r_125_15, r_125_16, r_125_17, r_125_20, r_125_21, Option.bind_some, Option.bind_none, Option.toList_some, Option.toList_none, List.cons_append, List.nil_append, Option.map_some, Option.map_none, eq_self, if_true, if_false, reduceIte, ai_bi_eq0, ai_bi_eq1, ai_pb_bi, ai_pb_0, ai_pb_1, ea, c1]
theorem x_takePM (ht : xt w n c) (h : xp w p Q k G w1) (hp : p ≤ n) (hg : G.length < 3) (hQ : Q.length < 35) : xr w Q k (kt_P c p G) (ai_Call 130 [.ref 175] (wl w1)) := by
  have ea := x_ahead (xt_of h.1 ht) hp h.2.1
  have h126 := kt_c127 ht.1 p
  have hn := ht.1.1
  have e43 : (nI (c p) = 43) ↔ c p = 43 := nI_eq (b := 43) (by omega) (by decide)
  unfold kt_P
  by_cases z : c p = 43
  · rw [if_pos z]
    have d1 := e43.mpr z
    obtain ⟨w2, e2, h2⟩ := x_give h hg hQ (some 1)
    have e2' : ai_Call 127 [.ref 175, .int 1] (wl w1) = some (none, wl w2) := e2
    obtain ⟨w3, e3, h3⟩ := xr_t (x_take ht h2 hp (x := 43) (by decide)) (if_pos z)
    have e3' : ai_Call 125 [.ref 175, .int 43] (wl w2) = some (some (.int 1), wl w3) := e3
    refine ⟨w3, ?_, h3.1, h3.2.1, h3.2.2.1, fun _ => h3⟩
    simp only [e_130, o_175, r_130_0, r_130_1, r_130_2, r_130_5, r_130_7, r_130_10, r_130_11, r_130_14, r_130_15, r_130_18, r_130_19, r_130_21, r_130_24, r_130_27, r_130_28, r_130_30, r_130_33, r_130_36, r_130_37, r_130_40, r_130_41, Option.bind_some, Option.bind_none, Option.toList_some, Option.toList_none, List.cons_append, List.nil_append, Option.map_some, Option.map_none, eq_self, if_true, if_false, reduceIte, ai_bi_eq0, ai_bi_eq1, ai_pb_bi, ai_pb_0, ai_pb_1, ea, d1, e2', e3', show ¬ (1 : Int32) = 0 by decide]
    rfl
  · rw [if_neg z]
    have d1 : ¬ nI (c p) = 43 := fun y => z (e43.mp y)
    obtain ⟨w2, e2, h2⟩ := x_give h hg hQ (some 0)
    have e2' : ai_Call 127 [.ref 175, .int 0] (wl w1) = some (none, wl w2) := e2
    have e3 : ai_Call 125 [.ref 175, .int 43] (wl w2) = some (some (.int 0), wl w2) := x_take_no ht h2 hp (x := 43) (by decide) z
    by_cases y : c p = 45
    · rw [if_pos y]
      obtain ⟨w3, e4, h3⟩ := xr_t (x_take ht h2 hp (x := 45) (by decide)) (if_pos y)
      have e4' : ai_Call 125 [.ref 175, .int 45] (wl w2) = some (some (.int 1), wl w3) := e4
      refine ⟨w3, ?_, h3.1, h3.2.1, h3.2.2.1, fun _ => h3⟩
      simp only [e_130, o_175, r_130_0, r_130_1, r_130_2, r_130_5, r_130_7, r_130_10, r_130_11, r_130_14, r_130_15, r_130_18, r_130_19, r_130_21, r_130_24, r_130_27, r_130_28, r_130_30, r_130_33, r_130_36, r_130_37, r_130_40, r_130_41, Option.bind_some, Option.bind_none, Option.toList_some, Option.toList_none, List.cons_append, List.nil_append, Option.map_some, Option.map_none, eq_self, if_true, if_false, reduceIte, ai_bi_eq0, ai_bi_eq1, ai_pb_bi, ai_pb_0, ai_pb_1, ea, d1, e2', e3, e4', show ¬ (1 : Int32) = 0 by decide]
      rfl
    · rw [if_neg y]
      have e4 : ai_Call 125 [.ref 175, .int 45] (wl w2) = some (some (.int 0), wl w2) := x_take_no ht h2 hp (x := 45) (by decide) y
      refine ⟨w2, ?_, h2.1, h2.2.1, h2.2.2.1, fun x => by cases x⟩
      simp only [e_130, o_175, r_130_0, r_130_1, r_130_2, r_130_5, r_130_7, r_130_10, r_130_11, r_130_14, r_130_15, r_130_18, r_130_19, r_130_21, r_130_24, r_130_27, r_130_28, r_130_30, r_130_33, r_130_36, r_130_37, r_130_40, r_130_41, Option.bind_some, Option.bind_none, Option.toList_some, Option.toList_none, List.cons_append, List.nil_append, Option.map_some, Option.map_none, eq_self, if_true, if_false, reduceIte, ai_bi_eq0, ai_bi_eq1, ai_pb_bi, ai_pb_0, ai_pb_1, ea, d1, e2', e3, e4]
      rfl
theorem x_takeSM (ht : xt w n c) (h : xp w p Q k G w1) (hp : p ≤ n) (hg : G.length < 3) (hQ : Q.length < 35) : xr w Q k (kt_S c p G) (ai_Call 131 [.ref 175] (wl w1)) := by
  have hn := ht.1.1
  unfold kt_S
  by_cases z : c p = 45
  · rw [if_pos z]
    obtain ⟨w2, e2, h2⟩ := xr_t (x_take ht h hp (x := 45) (by decide)) (if_pos z)
    have e2' : ai_Call 125 [.ref 175, .int 45] (wl w1) = some (some (.int 1), wl w2) := e2
    obtain ⟨w3, e3, h3⟩ := x_give h2 hg hQ none
    have e3' : ai_Call 127 [.ref 175, .int (-1)] (wl w2) = some (none, wl w3) := e3
    refine ⟨w3, ?_, h3.1, h3.2.1, h3.2.2.1, fun _ => h3⟩
    simp only [e_131, o_175, r_131_0, r_131_1, r_131_3, r_131_6, r_131_9, r_131_10, r_131_11, r_131_14, r_131_15, r_131_16, r_131_17, r_131_19, r_131_22, r_131_25, r_131_26, r_131_29, r_131_32, r_131_33, r_131_36, r_131_37, Option.bind_some, Option.bind_none, Option.toList_some, Option.toList_none, List.cons_append, List.nil_append, Option.map_some, Option.map_none, eq_self, if_true, if_false, reduceIte, ai_bi_eq0, ai_bi_eq1, ai_pb_bi, ai_pb_0, ai_pb_1, e2', e3', show ¬ (1 : Int32) = 0 by decide]
    rfl
  · rw [if_neg z]
    have e2 : ai_Call 125 [.ref 175, .int 45] (wl w1) = some (some (.int 0), wl w1) := x_take_no ht h hp (x := 45) (by decide) z
    by_cases y : c p = 61
    · rw [if_pos y]
      have hlt := kt_lt ht.1 (p := p) (by omega)
      obtain ⟨w3, e3, h3⟩ := xr_t (x_take ht h hp (x := 61) (by decide)) (if_pos y)
      have e3' : ai_Call 125 [.ref 175, .int 61] (wl w1) = some (some (.int 1), wl w3) := e3
      have hD := x_takeDigit ht h3 (show p + 1 ≤ n by omega) hg hQ
      by_cases u : kt_d c (p + 1) = true
      · rw [if_pos u]
        obtain ⟨w4, e4, h4⟩ := xr_t hD (if_pos u)
        refine ⟨w4, ?_, h4.1, h4.2.1, h4.2.2.1, fun _ => h4⟩
        simp only [e_131, o_175, r_131_0, r_131_1, r_131_3, r_131_6, r_131_9, r_131_10, r_131_11, r_131_14, r_131_15, r_131_16, r_131_17, r_131_19, r_131_22, r_131_25, r_131_26, r_131_29, r_131_32, r_131_33, r_131_36, r_131_37, Option.bind_some, Option.bind_none, Option.toList_some, Option.toList_none, List.cons_append, List.nil_append, Option.map_some, Option.map_none, eq_self, if_true, if_false, reduceIte, ai_bi_eq0, ai_bi_eq1, ai_pb_bi, ai_pb_0, ai_pb_1, e2, e3', e4, show ¬ (1 : Int32) = 0 by decide]
        rfl
      · rw [if_neg u]
        obtain ⟨w4, e4, h4, h5, h6⟩ := xr_f hD (if_neg u)
        refine ⟨w4, ?_, h4, h5, h6, fun x => by cases x⟩
        simp only [e_131, o_175, r_131_0, r_131_1, r_131_3, r_131_6, r_131_9, r_131_10, r_131_11, r_131_14, r_131_15, r_131_16, r_131_17, r_131_19, r_131_22, r_131_25, r_131_26, r_131_29, r_131_32, r_131_33, r_131_36, r_131_37, Option.bind_some, Option.bind_none, Option.toList_some, Option.toList_none, List.cons_append, List.nil_append, Option.map_some, Option.map_none, eq_self, if_true, if_false, reduceIte, ai_bi_eq0, ai_bi_eq1, ai_pb_bi, ai_pb_0, ai_pb_1, e2, e3', e4, show ¬ (1 : Int32) = 0 by decide]
        rfl
    · rw [if_neg y]
      have e3 : ai_Call 125 [.ref 175, .int 61] (wl w1) = some (some (.int 0), wl w1) := x_take_no ht h hp (x := 61) (by decide) y
      refine ⟨w1, ?_, h.1, h.2.1, h.2.2.1, fun x => by cases x⟩
      simp only [e_131, o_175, r_131_0, r_131_1, r_131_3, r_131_6, r_131_9, r_131_10, r_131_11, r_131_14, r_131_15, r_131_16, r_131_17, r_131_19, r_131_22, r_131_25, r_131_26, r_131_29, r_131_32, r_131_33, r_131_36, r_131_37, Option.bind_some, Option.bind_none, Option.toList_some, Option.toList_none, List.cons_append, List.nil_append, Option.map_some, Option.map_none, eq_self, if_true, if_false, reduceIte, ai_bi_eq0, ai_bi_eq1, ai_pb_bi, ai_pb_0, ai_pb_1, e2, e3]
      rfl
end READ

