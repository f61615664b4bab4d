/-! The reference reads a command, and a text. Printed by gen62.py. -/
def mpo (w : xw_W) := (w.1, (xm_s w, xm_was w, xm_saved w, xm_past w, xm_ch w, xm_re w, xm_de w, xm_at w, xm_is w, xm_line w, xm_ll w, xm_tape w, xm_td w))
def kv_a : Option Nat → Int32
  | none => -4
  | some v => nI v
def km_st (f : Nat → Int32) (Q : List kt_C) : Prop := ∀ i q, Q[i]? = some q → f (4 * i) = nI q.1 ∧ ∀ j a, j < 3 → q.2[j]? = some a → f (4 * i + (1 + j)) = kv_a a
def mt (w : xw_W) (n : Nat) (c : Nat → Nat) : Prop := kt_ok n c ∧ xm_td w = nI n ∧ (∀ j, j < n → xm_tape w j = nI (c j))
def mp (w : xw_W) (p : Nat) (Q : List kt_C) (k : Nat) (G : List (Option Nat)) (w1 : xw_W) : Prop := mpo w1 = mpo w ∧ xm_he w1 = nI p ∧ xm_cm w1 = nI (Q.length + 1) ∧ km_st (xm_cmds w1) (Q ++ [(k, G)])
def mq (w : xw_W) (p : Nat) (Q : List kt_C) (w1 : xw_W) : Prop := mpo w1 = mpo w ∧ xm_he w1 = nI p ∧ xm_cm w1 = nI Q.length ∧ km_st (xm_cmds w1) Q
def mr (w : xw_W) (Q : List kt_C) (k : Nat) (r : kt_R) (a : Option (Option Value × ai_W)) : Prop := ∃ w2, a = some (some (.int (ai_bi r.1)), wl w2) ∧ mpo w2 = mpo w ∧ xm_he w2 = nI r.2.1 ∧ (r.1 = true → mp w r.2.1 Q k r.2.2 w2)
theorem mt_of {w w1 : xw_W} (h : mpo w1 = mpo w) {n : Nat} {c : Nat → Nat} (ht : mt w n c) : mt w1 n c := by
  have e1 : xm_td w1 = xm_td w := congrArg (fun x => x.2.2.2.2.2.2.2.2.2.2.2.2.2) h
  have e2 : xm_tape w1 = xm_tape w := congrArg (fun x => x.2.2.2.2.2.2.2.2.2.2.2.2.1) h
  exact ⟨ht.1, e1.trans ht.2.1, by rw [e2]; exact ht.2.2⟩
theorem mpo_he (w : xw_W) (v : Int32) : mpo (xm_whe w v) = mpo w := rfl
theorem mpo_cm (w : xw_W) (v : Int32) : mpo (xm_wcm w v) = mpo w := rfl
theorem mpo_cs (w : xw_W) (f : Nat → Int32) : mpo (xm_wcmds w f) = mpo w := rfl
theorem nI_a0 (p : Nat) : nI p + 0 = nI p := nI_add p 0
theorem nI_2 (p : Nat) : nI p + 2 = nI (p + 2) := nI_add p 2
theorem nI_3 (p : Nat) : nI p + 3 = nI (p + 3) := nI_add p 3
def ms_c (v : Nat) : Int32 := if v = 0 then -1 else nI v
theorem ms_c_n {v : Nat} (h : 0 < v) : ms_c v = nI v := if_neg (by omega)
theorem ms_c_eq {v x : Nat} (hv : v < 1000) (h0 : 0 < x) (hx : x < 1000) : ms_c v = nI x ↔ v = x := by
  unfold ms_c
  split
  · rename_i z
    subst z
    constructor
    · intro y
      exact absurd (show nI x < 0 by rw [← y]; decide) (nI_pos (by omega))
    · intro y; omega
  · exact nI_eq (by omega) (by omega)
theorem ms_in3 {v : Nat} (hv : v < 1000) : ai_in3 (ms_c v) 48 57 = decide (48 ≤ v ∧ v ≤ 57) := by
  unfold ms_c
  split
  · rename_i z
    subst z
    decide
  · unfold ai_in3
    rw [decide_eq_decide]
    constructor
    · rintro ⟨h1, h2⟩
      constructor
      · rcases Nat.lt_or_ge v 48 with z | z
        · exact absurd (nI_lt (b := 48) z (by decide)) h1
        · exact z
      · rcases Nat.lt_or_ge 57 v with z | z
        · exact absurd (nI_lt (a := 57) z (by omega)) h2
        · exact z
    · rintro ⟨h1, h2⟩
      exact ⟨nI_nlt (b := 48) h1 (by omega), nI_nlt (a := 57) h2 (by decide)⟩
theorem ms_48 {v : Nat} (h : 48 ≤ v) : (10 : Int32) * 0 + ms_c v - 48 = nI (v - 48) := by
  rw [ms_c_n (by omega)]
  exact (nI_10 (a := 0) h).trans (by rw [Nat.mul_zero, Nat.zero_add])
theorem ms_10 {a v : Nat} (h : 48 ≤ v) : 10 * nI a + ms_c v - 48 = nI (10 * a + (v - 48)) := by
  rw [ms_c_n (by omega)]
  exact nI_10 h
section READ
variable {w : xw_W} {n p k : Nat} {c : Nat → Nat} {Q : List kt_C} {G : List (Option Nat)} {w1 wa : xw_W}
theorem mr_t {r : kt_R} {q : Nat} {H : List (Option Nat)} {a : Option (Option Value × ai_W)} (h : mr w Q k r a) (hr : r = (true, q, H)) : ∃ w2, a = some (some (.int 1), wl w2) ∧ mp w q Q k H w2 := by
  subst hr
  obtain ⟨w2, e, _, _, h2⟩ := h
  exact ⟨w2, e, h2 rfl⟩
theorem mr_f {r : kt_R} {q : Nat} {H : List (Option Nat)} {a : Option (Option Value × ai_W)} (h : mr w Q k r a) (hr : r = (false, q, H)) : ∃ w2, a = some (some (.int 0), wl w2) ∧ mpo w2 = mpo w ∧ xm_he w2 = nI q := by
  subst hr
  obtain ⟨w2, e, h1, h2, _⟩ := h
  exact ⟨w2, e, h1, h2⟩
theorem m_signHere {w : xw_W} (ht : mt w n c) (hp : p ≤ n) (h : xm_he w = nI p) : ai_Call 233 [.ref 185] (wl w) = some (some (.int (ms_c (c p))), wl w) := by
  have hn := ht.1.1
  by_cases z : p < n
  · have c1 : nI p < nI n := nI_lt z (by omega)
    have g : ai_aget (wl w) 191 (nI p) = some (ms_c (c p)) := by
      have h32 := (ht.1.2.1 p z).1
      rw [ag_191, ai_ix_nI (by omega) (by decide), ms_c_n (by omega)]
      exact congrArg some (ht.2.2 p z)
    simp only [e_233, o_185, r_233_0, r_233_1, r_233_4, r_233_5, r_233_8, r_233_11, r_233_12, r_233_15, r_233_16, r_233_19, r_233_20, r_233_23, r_233_24, Option.bind_some, Option.bind_none, Option.toList_some, Option.toList_none, List.cons_append, List.nil_append, Option.map_some, Option.map_none, eq_self, if_true, if_false, reduceIte, ai_bi_eq0, ai_bi_eq1, ai_pb_bi, ai_pb_0, ai_pb_1, f_185_11, f_185_13, f_185_14, h, ht.2.1, c1, g]
  · have c1 : ¬ nI p < nI n := nI_nlt (by omega) (by omega)
    have e : c p = 0 := ht.1.2.2 p (by omega)
    rw [e]
    simp only [e_233, o_185, r_233_0, r_233_1, r_233_4, r_233_5, r_233_8, r_233_11, r_233_12, r_233_15, r_233_16, r_233_19, r_233_20, r_233_23, r_233_24, Option.bind_some, Option.bind_none, Option.toList_some, Option.toList_none, List.cons_append, List.nil_append, Option.map_some, Option.map_none, eq_self, if_true, if_false, reduceIte, ai_bi_eq0, ai_bi_eq1, ai_pb_bi, ai_pb_0, ai_pb_1, f_185_13, f_185_14, h, ht.2.1, c1]
    rfl
theorem m_step (h : mp w p Q k G w1) (q : Nat) : ∃ w2, ai_fput (wl w1) 185 11 14 (.int (nI q)) = some (wl w2) ∧ mp w q Q k G w2 := by
  obtain ⟨h1, h2, h3, h4⟩ := h
  exact ⟨xm_whe w1 (nI q), p_185_14 _ _, (mpo_he _ _).trans h1, rfl, h3, h4⟩
theorem m_isHere_no (ht : mt w n c) (h : mp w p Q k G w1) (hp : p ≤ n) {x : Nat} (h0 : 0 < x) (hx : x < 1000) (hc : ¬ c p = x) : ∃ w2, ai_Call 234 [.ref 185, .int (nI x)] (wl w1) = some (some (.int 0), wl w2) ∧ mp w p Q k G w2 := by
  have ea := m_signHere (mt_of h.1 ht) hp h.2.1
  have h126 := kt_c127 ht.1 p
  have c1 : ¬ ms_c (c p) = nI x := fun y => hc ((ms_c_eq (by omega) h0 hx).mp y)
  obtain ⟨w2, e2, h2⟩ := m_step h p
  refine ⟨w2, ?_, h2⟩
  simp only [e_234, o_185, r_234_0, r_234_1, r_234_4, r_234_5, r_234_8, r_234_9, r_234_12, r_234_13, r_234_14, r_234_15, r_234_16, r_234_19, r_234_20, r_234_23, r_234_24, r_234_27, r_234_28, r_234_29, r_234_32, r_234_33, Option.bind_some, Option.bind_none, Option.toList_some, Option.toList_none, List.cons_append, List.nil_append, Option.map_some, Option.map_none, eq_self, if_true, if_false, reduceIte, ai_bi_eq0, ai_bi_eq1, ai_pb_bi, ai_pb_0, ai_pb_1, ea, c1, f_185_14, h.2.1, nI_a0, e2]
theorem m_isHere_yes (ht : mt w n c) (h : mp w p Q k G w1) (hp : p ≤ n) {x : Nat} (h0 : 0 < x) (hx : x < 1000) (hc : c p = x) : ∃ w2, ai_Call 234 [.ref 185, .int (nI x)] (wl w1) = some (some (.int 1), wl w2) ∧ mp w (p + 1) Q k G w2 := by
  have ea := m_signHere (mt_of h.1 ht) hp h.2.1
  have h126 := kt_c127 ht.1 p
  have c1 : ms_c (c p) = nI x := (ms_c_eq (by omega) h0 hx).mpr hc
  obtain ⟨w2, e2, h2⟩ := m_step h (p + 1)
  refine ⟨w2, ?_, h2⟩
  simp only [e_234, o_185, r_234_0, r_234_1, r_234_4, r_234_5, r_234_8, r_234_9, r_234_12, r_234_13, r_234_14, r_234_15, r_234_16, r_234_19, r_234_20, r_234_23, r_234_24, r_234_27, r_234_28, r_234_29, r_234_32, r_234_33, Option.bind_some, Option.bind_none, Option.toList_some, Option.toList_none, List.cons_append, List.nil_append, Option.map_some, Option.map_none, eq_self, if_true, if_false, reduceIte, ai_bi_eq0, ai_bi_eq1, ai_pb_bi, ai_pb_0, ai_pb_1, ea, c1, f_185_14, h.2.1, nI_1, e2, show ¬ (1 : Int32) = 0 by decide]
theorem m_isHere (ht : mt w n c) (h : mp w p Q k G w1) (hp : p ≤ n) {x : Nat} (h0 : 0 < x) (hx : x < 1000) : mr w Q k (kt_X c x p G) (ai_Call 234 [.ref 185, .int (nI x)] (wl w1)) := by
  unfold kt_X
  by_cases z : c p = x
  · rw [if_pos z]
    obtain ⟨w2, e2, h2⟩ := m_isHere_yes ht h hp h0 hx z
    exact ⟨w2, e2, h2.1, h2.2.1, fun _ => h2⟩
  · rw [if_neg z]
    obtain ⟨w2, e2, h2⟩ := m_isHere_no ht h hp h0 hx z
    exact ⟨w2, e2, h2.1, h2.2.1, fun y => by cases y⟩
theorem km_st_put {f : Nat → Int32} (h : km_st f (Q ++ [(k, G)])) {s : Nat} (hs : G.length = s) (hg : s < 3) (a : Option Nat) : km_st (upd f (4 * Q.length + (s + 1)) (kv_a a)) (Q ++ [(k, G ++ [a])]) := by
  intro i q hq
  rcases Nat.lt_trichotomy i Q.length with z | z | z
  · rw [List.getElem?_append_left z] at hq
    have h1 := h i q (by rw [List.getElem?_append_left z]; exact hq)
    refine ⟨?_, fun j b hj hb => ?_⟩
    · rw [upd_ne _ (by omega)]
      exact h1.1
    · rw [upd_ne _ (by omega)]
      exact h1.2 j b hj hb
  · subst z
    have e : q = (k, G ++ [a]) := by simpa using hq.symm
    subst e
    have h1 := h Q.length (k, G) (by simp)
    refine ⟨?_, fun j b hj hb => ?_⟩
    · rw [upd_ne _ (by omega)]
      exact h1.1
    · have hb' : (G ++ [a])[j]? = some b := hb
      rcases Nat.lt_trichotomy j G.length with y | y | y
      · rw [upd_ne _ (by omega)]
        refine h1.2 j b hj ?_
        rw [List.getElem?_append_left y] at hb'
        exact hb'
      · subst y
        have e : a = b := by simpa using hb'
        rw [show 4 * Q.length + (1 + G.length) = 4 * Q.length + (s + 1) by omega, upd_at, e]
      · rw [List.getElem?_eq_none (by rw [List.length_append, List.length_singleton]; omega)] at hb'
        exact absurd hb' (by simp)
  · rw [List.getElem?_eq_none (by rw [List.length_append, List.length_singleton]; omega)] at hq
    exact absurd hq (by simp)
theorem km_st_pre {f : Nat → Int32} {b : Option Nat} (h : km_st f (Q ++ [(k, G ++ [b])])) : km_st f (Q ++ [(k, G)]) := by
  intro i q hq
  rcases Nat.lt_trichotomy i Q.length with z | z | z
  · rw [List.getElem?_append_left z] at hq
    exact h i q (by rw [List.getElem?_append_left z]; exact hq)
  · subst z
    have e : q = (k, G) := by simpa using hq.symm
    subst e
    have h1 := h Q.length (k, G ++ [b]) (by simp)
    refine ⟨h1.1, fun j a hj ha => h1.2 j a hj ?_⟩
    have ha' : G[j]? = some a := ha
    have hlt : j < G.length := (List.getElem?_eq_some_iff.mp ha').1
    show (G ++ [b])[j]? = some a
    rw [List.getElem?_append_left hlt]
    exact ha'
  · rw [List.getElem?_eq_none (by rw [List.length_append, List.length_singleton]; omega)] at hq
    exact absurd hq (by simp)
theorem m_store (h : mp w p Q k G w1) {s : Nat} (hs : G.length = s) (hg : s < 3) (hQ : Q.length < 35) (a : Option Nat) : ∃ w2, ai_aset (wl w1) 192 (nI (4 * Q.length + (s + 1))) (kv_a a) = some (wl w2) ∧ mp w p Q k (G ++ [a]) w2 := by
  obtain ⟨h1, h2, h3, h4⟩ := h
  refine ⟨xm_wcmds w1 (upd (xm_cmds w1) (4 * Q.length + (s + 1)) (kv_a a)), ?_, (mpo_cs _ _).trans h1, h2, h3, km_st_put h4 hs hg a⟩
  rw [as_192, ai_ix_nI (by omega) (by decide)]
  rfl
theorem m_isD (ht : mt w n c) (h : mp w p Q k G w1) (hp : p ≤ n) {s : Nat} (hs : G.length = s) (hg : s < 3) (hQ : Q.length < 35) : mr w Q k (kt_D c p G) (ai_Call 236 [.ref 185, .int 1, .int (nI (4 * Q.length + (s + 1)))] (wl w1)) := by
  have ea := m_signHere (mt_of h.1 ht) hp h.2.1
  have h126 := kt_c127 ht.1 p
  have ei := m_isIn (ms_c (c p)) 48 57 (wl w1)
  rw [ms_in3 (show c p < 1000 by omega)] at ei
  have ei : ai_Call 179 [.int (ms_c (c p)), .int 48, .int 57] (wl w1) = some (some (.int (ai_bi (kt_d c p))), wl w1) := ei
  unfold kt_D
  by_cases z : kt_d c p = true
  · rw [if_pos z]
    rw [z] at ei
    obtain ⟨w2, e2, h2⟩ := m_step h (p + 1)
    obtain ⟨w3, e3, h3⟩ := m_store h2 hs hg hQ (some (c p - 48))
    have e3' : ai_aset (wl w2) 192 (nI (4 * Q.length + (s + 1))) (nI (c p - 48)) = some (wl w3) := e3
    refine ⟨w3, ?_, h3.1, h3.2.1, fun _ => h3⟩
    simp only [e_236, o_185, r_236_0, r_236_1, r_236_2, r_236_3, r_236_7, r_236_8, r_236_11, r_236_12, r_236_15, r_236_17, r_236_19, r_236_22, r_236_25, r_236_27, r_236_28, r_236_29, r_236_30, r_236_33, r_236_34, r_236_36, r_236_37, r_236_38, r_236_39, r_236_40, r_236_43, r_236_44, r_236_45, r_236_48, r_236_51, r_236_54, r_236_55, r_236_58, r_236_59, r_236_60, r_236_61, r_236_63, r_236_66, r_236_67, r_236_70, r_236_71, r_236_5, Option.bind_some, Option.bind_none, Option.toList_some, Option.toList_none, List.cons_append, List.nil_append, Option.map_some, Option.map_none, eq_self, if_true, if_false, reduceIte, ai_bi_eq0, ai_bi_eq1, ai_pb_bi, ai_pb_0, ai_pb_1, show (0 : Int32) < 1 by decide, show ¬ (1 : Int32) < 1 by decide, show (0 : Int32) + 1 = 1 by decide, ea, ei, Bool.true_eq_false, ms_48 (kt_d_of z).1, f_185_14, h.2.1, nI_1, e2, f_185_12, e3']
    rfl
  · rw [if_neg z]
    have z' : kt_d c p = false := by simpa using z
    rw [z'] at ei
    obtain ⟨w3, e3, h3⟩ := m_store h hs hg hQ (some 0)
    have e3' : ai_aset (wl w1) 192 (nI (4 * Q.length + (s + 1))) 0 = some (wl w3) := e3
    refine ⟨w3, ?_, h3.1, h3.2.1, fun y => by cases y⟩
    simp only [e_236, o_185, r_236_0, r_236_1, r_236_2, r_236_3, r_236_7, r_236_8, r_236_11, r_236_12, r_236_15, r_236_17, r_236_19, r_236_22, r_236_25, r_236_27, r_236_28, r_236_29, r_236_30, r_236_33, r_236_34, r_236_36, r_236_37, r_236_38, r_236_39, r_236_40, r_236_43, r_236_44, r_236_45, r_236_48, r_236_51, r_236_54, r_236_55, r_236_58, r_236_59, r_236_60, r_236_61, r_236_63, r_236_66, r_236_67, r_236_70, r_236_71, r_236_5, Option.bind_some, Option.bind_none, Option.toList_some, Option.toList_none, List.cons_append, List.nil_append, Option.map_some, Option.map_none, eq_self, if_true, if_false, reduceIte, ai_bi_eq0, ai_bi_eq1, ai_pb_bi, ai_pb_0, ai_pb_1, show (0 : Int32) < 1 by decide, show ¬ (0 : Int32) < 0 by decide, ea, ei, f_185_12, e3']
    rfl
theorem m_isN (ht : mt w n c) (h : mp w p Q k G w1) (hp : p ≤ n) {s : Nat} (hs : G.length = s) (hg : s < 3) (hQ : Q.length < 35) : mr w Q k (kt_N c p G) (ai_Call 236 [.ref 185, .int 2, .int (nI (4 * Q.length + (s + 1)))] (wl w1)) := by
  have ea := m_signHere (mt_of h.1 ht) hp h.2.1
  have h126 := kt_c127 ht.1 p
  have ei := m_isIn (ms_c (c p)) 48 57 (wl w1)
  rw [ms_in3 (show c p < 1000 by omega)] at ei
  have ei : ai_Call 179 [.int (ms_c (c p)), .int 48, .int 57] (wl w1) = some (some (.int (ai_bi (kt_d c p))), wl w1) := ei
  unfold kt_N
  by_cases z : kt_d c p = true
  · rw [if_pos z]
    rw [z] at ei
    have hlt := kt_lt ht.1 (p := p) (by have := kt_d_of z; omega)
    obtain ⟨w2, e2, h2⟩ := m_step h (p + 1)
    have ea2 := m_signHere (mt_of h2.1 ht) (show p + 1 ≤ n by omega) h2.2.1
    have h1262 := kt_c127 ht.1 (p + 1)
    have ei2 := m_isIn (ms_c (c (p + 1))) 48 57 (wl w2)
    rw [ms_in3 (show c (p + 1) < 1000 by omega)] at ei2
    have ei2 : ai_Call 179 [.int (ms_c (c (p + 1))), .int 48, .int 57] (wl w2) = some (some (.int (ai_bi (kt_d c (p + 1)))), wl w2) := ei2
    by_cases y : kt_d c (p + 1) = true
    · rw [if_pos y]
      rw [y] at ei2
      obtain ⟨w3, e3, h3⟩ := m_step h2 (p + 1 + 1)
      obtain ⟨w4, e4, h4⟩ := m_store h3 hs hg hQ (some (10 * (c p - 48) + (c (p + 1) - 48)))
      have e4' : ai_aset (wl w3) 192 (nI (4 * Q.length + (s + 1))) (nI (10 * (c p - 48) + (c (p + 1) - 48))) = some (wl w4) := e4
      refine ⟨w4, ?_, h4.1, h4.2.1, fun _ => h4⟩
      simp only [e_236, o_185, r_236_0, r_236_1, r_236_2, r_236_3, r_236_7, r_236_8, r_236_11, r_236_12, r_236_15, r_236_17, r_236_19, r_236_22, r_236_25, r_236_27, r_236_28, r_236_29, r_236_30, r_236_33, r_236_34, r_236_36, r_236_37, r_236_38, r_236_39, r_236_40, r_236_43, r_236_44, r_236_45, r_236_48, r_236_51, r_236_54, r_236_55, r_236_58, r_236_59, r_236_60, r_236_61, r_236_63, r_236_66, r_236_67, r_236_70, r_236_71, r_236_5, Option.bind_some, Option.bind_none, Option.toList_some, Option.toList_none, List.cons_append, List.nil_append, Option.map_some, Option.map_none, eq_self, if_true, if_false, reduceIte, ai_bi_eq0, ai_bi_eq1, ai_pb_bi, ai_pb_0, ai_pb_1, show (0 : Int32) < 2 by decide, show (1 : Int32) < 2 by decide, show ¬ (2 : Int32) < 2 by decide, show (0 : Int32) + 1 = 1 by decide, show (1 : Int32) + 1 = 2 by decide, ea, ei, Bool.true_eq_false, ms_48 (kt_d_of z).1, f_185_14, h.2.1, nI_1, e2, ea2, ei2, ms_10 (kt_d_of y).1, h2.2.1, e3, f_185_12, e4', show (0 : Int32) < 2 by decide]
      rfl
    · rw [if_neg y]
      have y' : kt_d c (p + 1) = false := by simpa using y
      rw [y'] at ei2
      obtain ⟨w4, e4, h4⟩ := m_store h2 hs hg hQ (some (c p - 48))
      have e4' : ai_aset (wl w2) 192 (nI (4 * Q.length + (s + 1))) (nI (c p - 48)) = some (wl w4) := e4
      refine ⟨w4, ?_, h4.1, h4.2.1, fun _ => h4⟩
      simp only [e_236, o_185, r_236_0, r_236_1, r_236_2, r_236_3, r_236_7, r_236_8, r_236_11, r_236_12, r_236_15, r_236_17, r_236_19, r_236_22, r_236_25, r_236_27, r_236_28, r_236_29, r_236_30, r_236_33, r_236_34, r_236_36, r_236_37, r_236_38, r_236_39, r_236_40, r_236_43, r_236_44, r_236_45, r_236_48, r_236_51, r_236_54, r_236_55, r_236_58, r_236_59, r_236_60, r_236_61, r_236_63, r_236_66, r_236_67, r_236_70, r_236_71, r_236_5, Option.bind_some, Option.bind_none, Option.toList_some, Option.toList_none, List.cons_append, List.nil_append, Option.map_some, Option.map_none, eq_self, if_true, if_false, reduceIte, ai_bi_eq0, ai_bi_eq1, ai_pb_bi, ai_pb_0, ai_pb_1, show (0 : Int32) < 2 by decide, show (1 : Int32) < 2 by decide, show (0 : Int32) < 1 by decide, show (0 : Int32) + 1 = 1 by decide, ea, ei, Bool.true_eq_false, ms_48 (kt_d_of z).1, f_185_14, h.2.1, nI_1, e2, ea2, ei2, f_185_12, e4']
      rfl
  · rw [if_neg z]
    have z' : kt_d c p = false := by simpa using z
    rw [z'] at ei
    obtain ⟨w3, e3, h3⟩ := m_store h hs hg hQ (some 0)
    have e3' : ai_aset (wl w1) 192 (nI (4 * Q.length + (s + 1))) 0 = some (wl w3) := e3
    refine ⟨w3, ?_, h3.1, h3.2.1, fun y => by cases y⟩
    simp only [e_236, o_185, r_236_0, r_236_1, r_236_2, r_236_3, r_236_7, r_236_8, r_236_11, r_236_12, r_236_15, r_236_17, r_236_19, r_236_22, r_236_25, r_236_27, r_236_28, r_236_29, r_236_30, r_236_33, r_236_34, r_236_36, r_236_37, r_236_38, r_236_39, r_236_40, r_236_43, r_236_44, r_236_45, r_236_48, r_236_51, r_236_54, r_236_55, r_236_58, r_236_59, r_236_60, r_236_61, r_236_63, r_236_66, r_236_67, r_236_70, r_236_71, r_236_5, Option.bind_some, Option.bind_none, Option.toList_some, Option.toList_none, List.cons_append, List.nil_append, Option.map_some, Option.map_none, eq_self, if_true, if_false, reduceIte, ai_bi_eq0, ai_bi_eq1, ai_pb_bi, ai_pb_0, ai_pb_1, show (0 : Int32) < 2 by decide, show ¬ (0 : Int32) < 0 by decide, ea, ei, f_185_12, e3']
    rfl
theorem m_isOath (ht : mt w n c) (h : mp w p Q k G w1) (hp : p ≤ n) {s : Nat} (hs : G.length = s) (hg : s < 3) (hQ : Q.length < 35) : mr w Q k (kt_P c p G) (ai_Call 237 [.ref 185, .int (nI (4 * Q.length + (s + 1)))] (wl w1)) := by
  have ea := m_signHere (mt_of h.1 ht) hp h.2.1
  have h126 := kt_c127 ht.1 p
  have e43 : (ms_c (c p) = 43) ↔ c p = 43 := ms_c_eq (x := 43) (by omega) (by decide) (by decide)
  unfold kt_P
  by_cases z : c p = 43
  · rw [if_pos z]
    have d1 := e43.mpr z
    obtain ⟨w2, e2, h2⟩ := m_store h hs hg hQ (some 1)
    have e2' : ai_aset (wl w1) 192 (nI (4 * Q.length + (s + 1))) 1 = some (wl w2) := e2
    obtain ⟨w3, e3, h3⟩ := m_isHere_yes ht h2 hp (x := 43) (by decide) (by decide) z
    have e3' : ai_Call 234 [.ref 185, .int 43] (wl w2) = some (some (.int 1), wl w3) := e3
    refine ⟨w3, ?_, h3.1, h3.2.1, fun _ => h3⟩
    simp only [e_237, o_185, r_237_0, r_237_1, r_237_4, r_237_5, r_237_6, r_237_9, r_237_11, r_237_14, r_237_15, r_237_18, r_237_19, r_237_20, r_237_21, r_237_23, r_237_26, r_237_29, r_237_30, r_237_32, r_237_35, r_237_38, r_237_39, r_237_42, r_237_43, Option.bind_some, Option.bind_none, Option.toList_some, Option.toList_none, List.cons_append, List.nil_append, Option.map_some, Option.map_none, eq_self, if_true, if_false, reduceIte, ai_bi_eq0, ai_bi_eq1, ai_pb_bi, ai_pb_0, ai_pb_1, f_185_12, ea, d1, e2', e3', show ¬ (1 : Int32) = 0 by decide]
    rfl
  · rw [if_neg z]
    have d1 : ¬ ms_c (c p) = 43 := fun y => z (e43.mp y)
    obtain ⟨w2, e2, h2⟩ := m_store h hs hg hQ (some 0)
    have e2' : ai_aset (wl w1) 192 (nI (4 * Q.length + (s + 1))) 0 = some (wl w2) := e2
    obtain ⟨w3, e3, h3⟩ := m_isHere_no ht h2 hp (x := 43) (by decide) (by decide) z
    have e3' : ai_Call 234 [.ref 185, .int 43] (wl w2) = some (some (.int 0), wl w3) := e3
    by_cases y : c p = 45
    · rw [if_pos y]
      obtain ⟨w4, e4, h4⟩ := m_isHere_yes ht h3 hp (x := 45) (by decide) (by decide) y
      have e4' : ai_Call 234 [.ref 185, .int 45] (wl w3) = some (some (.int 1), wl w4) := e4
      refine ⟨w4, ?_, h4.1, h4.2.1, fun _ => h4⟩
      simp only [e_237, o_185, r_237_0, r_237_1, r_237_4, r_237_5, r_237_6, r_237_9, r_237_11, r_237_14, r_237_15, r_237_18, r_237_19, r_237_20, r_237_21, r_237_23, r_237_26, r_237_29, r_237_30, r_237_32, r_237_35, r_237_38, r_237_39, r_237_42, r_237_43, Option.bind_some, Option.bind_none, Option.toList_some, Option.toList_none, List.cons_append, List.nil_append, Option.map_some, Option.map_none, eq_self, if_true, if_false, reduceIte, ai_bi_eq0, ai_bi_eq1, ai_pb_bi, ai_pb_0, ai_pb_1, f_185_12, ea, d1, e2', e3', e4', show ¬ (1 : Int32) = 0 by decide]
      rfl
    · rw [if_neg y]
      obtain ⟨w4, e4, h4⟩ := m_isHere_no ht h3 hp (x := 45) (by decide) (by decide) y
      have e4' : ai_Call 234 [.ref 185, .int 45] (wl w3) = some (some (.int 0), wl w4) := e4
      refine ⟨w4, ?_, h4.1, h4.2.1, fun x => by cases x⟩
      simp only [e_237, o_185, r_237_0, r_237_1, r_237_4, r_237_5, r_237_6, r_237_9, r_237_11, r_237_14, r_237_15, r_237_18, r_237_19, r_237_20, r_237_21, r_237_23, r_237_26, r_237_29, r_237_30, r_237_32, r_237_35, r_237_38, r_237_39, r_237_42, r_237_43, Option.bind_some, Option.bind_none, Option.toList_some, Option.toList_none, List.cons_append, List.nil_append, Option.map_some, Option.map_none, eq_self, if_true, if_false, reduceIte, ai_bi_eq0, ai_bi_eq1, ai_pb_bi, ai_pb_0, ai_pb_1, f_185_12, ea, d1, e2', e3', e4']
      rfl
theorem m_isReader (ht : mt w n c) (h : mp w p Q k G w1) (hp : p ≤ n) {s : Nat} (hs : G.length = s) (hg : s < 3) (hQ : Q.length < 35) : mr w Q k (kt_S c p G) (ai_Call 238 [.ref 185, .int (nI (4 * Q.length + (s + 1)))] (wl w1)) := by
  obtain ⟨w2, e2, h2⟩ := m_store h hs hg hQ none
  have e2' : ai_aset (wl w1) 192 (nI (4 * Q.length + (s + 1))) (-4) = some (wl w2) := e2
  unfold kt_S
  by_cases z : c p = 45
  · rw [if_pos z]
    obtain ⟨w3, e3, h3⟩ := m_isHere_yes ht h2 hp (x := 45) (by decide) (by decide) z
    have e3' : ai_Call 234 [.ref 185, .int 45] (wl w2) = some (some (.int 1), wl w3) := e3
    refine ⟨w3, ?_, h3.1, h3.2.1, fun _ => h3⟩
    simp only [e_238, o_185, r_238_0, r_238_1, r_238_4, r_238_5, r_238_7, r_238_8, r_238_9, r_238_11, r_238_14, r_238_17, r_238_18, r_238_20, r_238_23, r_238_26, r_238_27, r_238_28, r_238_29, r_238_32, r_238_35, r_238_36, r_238_39, r_238_40, Option.bind_some, Option.bind_none, Option.toList_some, Option.toList_none, List.cons_append, List.nil_append, Option.map_some, Option.map_none, eq_self, if_true, if_false, reduceIte, ai_bi_eq0, ai_bi_eq1, ai_pb_bi, ai_pb_0, ai_pb_1, f_185_12, e2', e3', show ¬ (1 : Int32) = 0 by decide]
    rfl
  · rw [if_neg z]
    obtain ⟨w3, e3, h3⟩ := m_isHere_no ht h2 hp (x := 45) (by decide) (by decide) z
    have e3' : ai_Call 234 [.ref 185, .int 45] (wl w2) = some (some (.int 0), wl w3) := e3
    by_cases y : c p = 61
    · rw [if_pos y]
      have hlt := kt_lt ht.1 (p := p) (by omega)
      obtain ⟨w4, e4, h4⟩ := m_isHere_yes ht h3 hp (x := 61) (by decide) (by decide) y
      have e4' : ai_Call 234 [.ref 185, .int 61] (wl w3) = some (some (.int 1), wl w4) := e4
      have h4p : mp w (p + 1) Q k G w4 := ⟨h4.1, h4.2.1, h4.2.2.1, km_st_pre h4.2.2.2⟩
      have hD := m_isD ht h4p (show p + 1 ≤ n by omega) hs hg hQ
      by_cases u : kt_d c (p + 1) = true
      · rw [if_pos u]
        obtain ⟨w5, e5, h5⟩ := mr_t hD (if_pos u)
        refine ⟨w5, ?_, h5.1, h5.2.1, fun _ => h5⟩
        simp only [e_238, o_185, r_238_0, r_238_1, r_238_4, r_238_5, r_238_7, r_238_8, r_238_9, r_238_11, r_238_14, r_238_17, r_238_18, r_238_20, r_238_23, r_238_26, r_238_27, r_238_28, r_238_29, r_238_32, r_238_35, r_238_36, r_238_39, r_238_40, Option.bind_some, Option.bind_none, Option.toList_some, Option.toList_none, List.cons_append, List.nil_append, Option.map_some, Option.map_none, eq_self, if_true, if_false, reduceIte, ai_bi_eq0, ai_bi_eq1, ai_pb_bi, ai_pb_0, ai_pb_1, f_185_12, e2', e3', e4', e5, show ¬ (1 : Int32) = 0 by decide]
        rfl
      · rw [if_neg u]
        obtain ⟨w5, e5, h5, h6⟩ := mr_f hD (if_neg u)
        refine ⟨w5, ?_, h5, h6, fun x => by cases x⟩
        simp only [e_238, o_185, r_238_0, r_238_1, r_238_4, r_238_5, r_238_7, r_238_8, r_238_9, r_238_11, r_238_14, r_238_17, r_238_18, r_238_20, r_238_23, r_238_26, r_238_27, r_238_28, r_238_29, r_238_32, r_238_35, r_238_36, r_238_39, r_238_40, Option.bind_some, Option.bind_none, Option.toList_some, Option.toList_none, List.cons_append, List.nil_append, Option.map_some, Option.map_none, eq_self, if_true, if_false, reduceIte, ai_bi_eq0, ai_bi_eq1, ai_pb_bi, ai_pb_0, ai_pb_1, f_185_12, e2', e3', e4', e5, show ¬ (1 : Int32) = 0 by decide]
        rfl
    · rw [if_neg y]
      obtain ⟨w4, e4, h4⟩ := m_isHere_no ht h3 hp (x := 61) (by decide) (by decide) y
      have e4' : ai_Call 234 [.ref 185, .int 61] (wl w3) = some (some (.int 0), wl w4) := e4
      refine ⟨w4, ?_, h4.1, h4.2.1, fun x => by cases x⟩
      simp only [e_238, o_185, r_238_0, r_238_1, r_238_4, r_238_5, r_238_7, r_238_8, r_238_9, r_238_11, r_238_14, r_238_17, r_238_18, r_238_20, r_238_23, r_238_26, r_238_27, r_238_28, r_238_29, r_238_32, r_238_35, r_238_36, r_238_39, r_238_40, Option.bind_some, Option.bind_none, Option.toList_some, Option.toList_none, List.cons_append, List.nil_append, Option.map_some, Option.map_none, eq_self, if_true, if_false, reduceIte, ai_bi_eq0, ai_bi_eq1, ai_pb_bi, ai_pb_0, ai_pb_1, f_185_12, e2', e3', e4']
      rfl
theorem m_tc_97 (ht : mt w n c) (ha : mp w (p + 1) Q 97 [] wa) (hlt : p + 1 ≤ n) (hQ : Q.length < 35) : mr w Q 97 (kt_s c [] (p + 1) []) (ai_Run 239 48 [.ref 185, .int (nI (4 * Q.length)), .int 97] [] (wl wa)) := by
  rw [kt_s]
  refine ⟨wa, ?_, ha.1, ha.2.1, fun _ => ha⟩
  simp only [r_239_0, r_239_1, r_239_2, r_239_5, r_239_6, r_239_7, r_239_8, r_239_11, r_239_12, r_239_13, r_239_16, r_239_19, r_239_20, r_239_21, r_239_22, r_239_25, r_239_26, r_239_27, r_239_28, r_239_29, r_239_30, r_239_33, r_239_34, r_239_35, r_239_38, r_239_39, r_239_40, r_239_43, r_239_44, r_239_45, r_239_48, r_239_49, r_239_160, r_239_161, r_239_162, r_239_163, r_239_164, r_239_165, r_239_166, r_239_167, r_239_170, r_239_173, r_239_174, r_239_176, r_239_179, r_239_182, r_239_183, r_239_184, r_239_185, r_239_186, r_239_187, r_239_190, r_239_193, r_239_194, r_239_197, r_239_198, r_239_199, r_239_200, r_239_201, r_239_202, r_239_203, r_239_204, r_239_207, r_239_208, r_239_209, r_239_210, r_239_211, r_239_212, r_239_213, r_239_216, r_239_219, r_239_220, r_239_222, r_239_225, r_239_228, r_239_229, r_239_230, r_239_231, r_239_232, r_239_233, r_239_236, r_239_239, r_239_240, r_239_243, r_239_244, r_239_245, r_239_246, r_239_247, r_239_248, r_239_249, r_239_250, r_239_253, r_239_256, r_239_257, r_239_258, r_239_259, r_239_260, r_239_263, r_239_266, r_239_267, r_239_270, r_239_271, r_239_272, r_239_273, r_239_274, r_239_275, r_239_276, r_239_277, r_239_280, r_239_283, r_239_284, r_239_285, r_239_286, r_239_287, r_239_288, r_239_291, r_239_294, r_239_295, r_239_297, r_239_300, r_239_303, r_239_304, r_239_305, r_239_306, r_239_307, r_239_308, r_239_311, r_239_314, r_239_315, r_239_318, r_239_319, r_239_320, r_239_321, r_239_322, r_239_323, r_239_324, r_239_325, r_239_328, r_239_331, r_239_332, r_239_333, r_239_334, r_239_335, r_239_338, r_239_341, r_239_342, r_239_345, r_239_346, r_239_347, r_239_348, r_239_349, r_239_350, r_239_351, r_239_352, r_239_355, r_239_358, r_239_359, r_239_360, r_239_361, r_239_362, r_239_363, r_239_366, r_239_369, r_239_370, r_239_371, r_239_372, r_239_373, r_239_374, r_239_377, r_239_380, r_239_381, r_239_384, r_239_385, Option.bind_some, Option.bind_none, Option.toList_some, Option.toList_none, List.cons_append, List.nil_append, Option.map_some, Option.map_none, eq_self, if_true, if_false, reduceIte, ai_bi_eq0, ai_bi_eq1, ai_pb_bi, ai_pb_0, ai_pb_1, nI_1, nI_2, nI_3, show ¬ (1 : Int32) = 0 by decide]
  rfl
theorem m_tc_99 (ht : mt w n c) (ha : mp w (p + 1) Q 99 [] wa) (hlt : p + 1 ≤ n) (hQ : Q.length < 35) : mr w Q 99 (kt_s c [] (p + 1) []) (ai_Run 239 48 [.ref 185, .int (nI (4 * Q.length)), .int 99] [] (wl wa)) := by
  rw [kt_s]
  refine ⟨wa, ?_, ha.1, ha.2.1, fun _ => ha⟩
  simp only [r_239_0, r_239_1, r_239_2, r_239_5, r_239_6, r_239_7, r_239_8, r_239_11, r_239_12, r_239_13, r_239_16, r_239_19, r_239_20, r_239_21, r_239_22, r_239_25, r_239_26, r_239_27, r_239_28, r_239_29, r_239_30, r_239_33, r_239_34, r_239_35, r_239_38, r_239_39, r_239_40, r_239_43, r_239_44, r_239_45, r_239_48, r_239_49, r_239_160, r_239_161, r_239_162, r_239_163, r_239_164, r_239_165, r_239_166, r_239_167, r_239_170, r_239_173, r_239_174, r_239_176, r_239_179, r_239_182, r_239_183, r_239_184, r_239_185, r_239_186, r_239_187, r_239_190, r_239_193, r_239_194, r_239_197, r_239_198, r_239_199, r_239_200, r_239_201, r_239_202, r_239_203, r_239_204, r_239_207, r_239_208, r_239_209, r_239_210, r_239_211, r_239_212, r_239_213, r_239_216, r_239_219, r_239_220, r_239_222, r_239_225, r_239_228, r_239_229, r_239_230, r_239_231, r_239_232, r_239_233, r_239_236, r_239_239, r_239_240, r_239_243, r_239_244, r_239_245, r_239_246, r_239_247, r_239_248, r_239_249, r_239_250, r_239_253, r_239_256, r_239_257, r_239_258, r_239_259, r_239_260, r_239_263, r_239_266, r_239_267, r_239_270, r_239_271, r_239_272, r_239_273, r_239_274, r_239_275, r_239_276, r_239_277, r_239_280, r_239_283, r_239_284, r_239_285, r_239_286, r_239_287, r_239_288, r_239_291, r_239_294, r_239_295, r_239_297, r_239_300, r_239_303, r_239_304, r_239_305, r_239_306, r_239_307, r_239_308, r_239_311, r_239_314, r_239_315, r_239_318, r_239_319, r_239_320, r_239_321, r_239_322, r_239_323, r_239_324, r_239_325, r_239_328, r_239_331, r_239_332, r_239_333, r_239_334, r_239_335, r_239_338, r_239_341, r_239_342, r_239_345, r_239_346, r_239_347, r_239_348, r_239_349, r_239_350, r_239_351, r_239_352, r_239_355, r_239_358, r_239_359, r_239_360, r_239_361, r_239_362, r_239_363, r_239_366, r_239_369, r_239_370, r_239_371, r_239_372, r_239_373, r_239_374, r_239_377, r_239_380, r_239_381, r_239_384, r_239_385, Option.bind_some, Option.bind_none, Option.toList_some, Option.toList_none, List.cons_append, List.nil_append, Option.map_some, Option.map_none, eq_self, if_true, if_false, reduceIte, ai_bi_eq0, ai_bi_eq1, ai_pb_bi, ai_pb_0, ai_pb_1, nI_1, nI_2, nI_3, show ¬ (99 : Int32) = 97 by decide, show ¬ (1 : Int32) = 0 by decide]
  rfl
theorem m_tc_100 (ht : mt w n c) (ha : mp w (p + 1) Q 100 [] wa) (hlt : p + 1 ≤ n) (hQ : Q.length < 35) : mr w Q 100 (kt_s c [0, 64, 1] (p + 1) []) (ai_Run 239 48 [.ref 185, .int (nI (4 * Q.length)), .int 100] [] (wl wa)) := by
  have X1 : mr w Q 100 (kt_i c 0 (p + 1) []) (ai_Call 236 [.ref 185, .int 1, .int (nI (4 * Q.length + 1))] (wl wa)) := m_isD ht ha hlt (s := 0) (by rfl) (by decide) hQ
  have b1 := kt_i_b ht.1 0 hlt []
  have g1 := kt_i_g (c := c) (i := 0) (p := p + 1) (G := [])
  rw [kt_s]
  generalize kt_i c 0 (p + 1) [] = r1 at X1 b1 g1 ⊢
  obtain ⟨t1, p1, G1⟩ := r1
  have q1 : p1 ≤ n ∧ G1.length ≤ 1 := ⟨b1.2.1, b1.2.2⟩
  have u1 : t1 = true → G1.length = 1 := g1.1 (by decide)
  cases t1
  · obtain ⟨w2, e1, j1, j2⟩ := mr_f X1 rfl
    show mr w Q 100 (false, p1, G1) _
    refine ⟨w2, ?_, j1, j2, fun x => by cases x⟩
    simp only [r_239_0, r_239_1, r_239_2, r_239_5, r_239_6, r_239_7, r_239_8, r_239_11, r_239_12, r_239_13, r_239_16, r_239_19, r_239_20, r_239_21, r_239_22, r_239_25, r_239_26, r_239_27, r_239_28, r_239_29, r_239_30, r_239_33, r_239_34, r_239_35, r_239_38, r_239_39, r_239_40, r_239_43, r_239_44, r_239_45, r_239_48, r_239_49, r_239_160, r_239_161, r_239_162, r_239_163, r_239_164, r_239_165, r_239_166, r_239_167, r_239_170, r_239_173, r_239_174, r_239_176, r_239_179, r_239_182, r_239_183, r_239_184, r_239_185, r_239_186, r_239_187, r_239_190, r_239_193, r_239_194, r_239_197, r_239_198, r_239_199, r_239_200, r_239_201, r_239_202, r_239_203, r_239_204, r_239_207, r_239_208, r_239_209, r_239_210, r_239_211, r_239_212, r_239_213, r_239_216, r_239_219, r_239_220, r_239_222, r_239_225, r_239_228, r_239_229, r_239_230, r_239_231, r_239_232, r_239_233, r_239_236, r_239_239, r_239_240, r_239_243, r_239_244, r_239_245, r_239_246, r_239_247, r_239_248, r_239_249, r_239_250, r_239_253, r_239_256, r_239_257, r_239_258, r_239_259, r_239_260, r_239_263, r_239_266, r_239_267, r_239_270, r_239_271, r_239_272, r_239_273, r_239_274, r_239_275, r_239_276, r_239_277, r_239_280, r_239_283, r_239_284, r_239_285, r_239_286, r_239_287, r_239_288, r_239_291, r_239_294, r_239_295, r_239_297, r_239_300, r_239_303, r_239_304, r_239_305, r_239_306, r_239_307, r_239_308, r_239_311, r_239_314, r_239_315, r_239_318, r_239_319, r_239_320, r_239_321, r_239_322, r_239_323, r_239_324, r_239_325, r_239_328, r_239_331, r_239_332, r_239_333, r_239_334, r_239_335, r_239_338, r_239_341, r_239_342, r_239_345, r_239_346, r_239_347, r_239_348, r_239_349, r_239_350, r_239_351, r_239_352, r_239_355, r_239_358, r_239_359, r_239_360, r_239_361, r_239_362, r_239_363, r_239_366, r_239_369, r_239_370, r_239_371, r_239_372, r_239_373, r_239_374, r_239_377, r_239_380, r_239_381, r_239_384, r_239_385, Option.bind_some, Option.bind_none, Option.toList_some, Option.toList_none, List.cons_append, List.nil_append, Option.map_some, Option.map_none, eq_self, if_true, if_false, reduceIte, ai_bi_eq0, ai_bi_eq1, ai_pb_bi, ai_pb_0, ai_pb_1, nI_1, nI_2, nI_3, show ¬ (100 : Int32) = 97 by decide, show ¬ (100 : Int32) = 99 by decide, e1, show ¬ (1 : Int32) = 0 by decide]
    rfl
  obtain ⟨w2, e1, h1⟩ := mr_t X1 rfl
  have u1 := u1 rfl
  rw [if_pos rfl]
  show mr w Q 100 (kt_s c [64, 1] p1 G1) _
  have X2 : mr w Q 100 (kt_i c 64 (p1) G1) (ai_Call 234 [.ref 185, .int 64] (wl w2)) := m_isHere ht h1 q1.1 (x := 64) (by decide) (by decide)
  have b2 := kt_i_b ht.1 64 q1.1 G1
  have g2 := kt_i_g (c := c) (i := 64) (p := p1) (G := G1)
  rw [kt_s]
  generalize kt_i c 64 (p1) G1 = r2 at X2 b2 g2 ⊢
  obtain ⟨t2, p2, G2⟩ := r2
  have q2 : p2 ≤ n ∧ G2.length ≤ G1.length + 1 := ⟨b2.2.1, b2.2.2⟩
  have u2 : G2.length = G1.length := g2.2 (by decide)
  cases t2
  · obtain ⟨w3, e2, j1, j2⟩ := mr_f X2 rfl
    show mr w Q 100 (false, p2, G2) _
    refine ⟨w3, ?_, j1, j2, fun x => by cases x⟩
    simp only [r_239_0, r_239_1, r_239_2, r_239_5, r_239_6, r_239_7, r_239_8, r_239_11, r_239_12, r_239_13, r_239_16, r_239_19, r_239_20, r_239_21, r_239_22, r_239_25, r_239_26, r_239_27, r_239_28, r_239_29, r_239_30, r_239_33, r_239_34, r_239_35, r_239_38, r_239_39, r_239_40, r_239_43, r_239_44, r_239_45, r_239_48, r_239_49, r_239_160, r_239_161, r_239_162, r_239_163, r_239_164, r_239_165, r_239_166, r_239_167, r_239_170, r_239_173, r_239_174, r_239_176, r_239_179, r_239_182, r_239_183, r_239_184, r_239_185, r_239_186, r_239_187, r_239_190, r_239_193, r_239_194, r_239_197, r_239_198, r_239_199, r_239_200, r_239_201, r_239_202, r_239_203, r_239_204, r_239_207, r_239_208, r_239_209, r_239_210, r_239_211, r_239_212, r_239_213, r_239_216, r_239_219, r_239_220, r_239_222, r_239_225, r_239_228, r_239_229, r_239_230, r_239_231, r_239_232, r_239_233, r_239_236, r_239_239, r_239_240, r_239_243, r_239_244, r_239_245, r_239_246, r_239_247, r_239_248, r_239_249, r_239_250, r_239_253, r_239_256, r_239_257, r_239_258, r_239_259, r_239_260, r_239_263, r_239_266, r_239_267, r_239_270, r_239_271, r_239_272, r_239_273, r_239_274, r_239_275, r_239_276, r_239_277, r_239_280, r_239_283, r_239_284, r_239_285, r_239_286, r_239_287, r_239_288, r_239_291, r_239_294, r_239_295, r_239_297, r_239_300, r_239_303, r_239_304, r_239_305, r_239_306, r_239_307, r_239_308, r_239_311, r_239_314, r_239_315, r_239_318, r_239_319, r_239_320, r_239_321, r_239_322, r_239_323, r_239_324, r_239_325, r_239_328, r_239_331, r_239_332, r_239_333, r_239_334, r_239_335, r_239_338, r_239_341, r_239_342, r_239_345, r_239_346, r_239_347, r_239_348, r_239_349, r_239_350, r_239_351, r_239_352, r_239_355, r_239_358, r_239_359, r_239_360, r_239_361, r_239_362, r_239_363, r_239_366, r_239_369, r_239_370, r_239_371, r_239_372, r_239_373, r_239_374, r_239_377, r_239_380, r_239_381, r_239_384, r_239_385, Option.bind_some, Option.bind_none, Option.toList_some, Option.toList_none, List.cons_append, List.nil_append, Option.map_some, Option.map_none, eq_self, if_true, if_false, reduceIte, ai_bi_eq0, ai_bi_eq1, ai_pb_bi, ai_pb_0, ai_pb_1, nI_1, nI_2, nI_3, show ¬ (100 : Int32) = 97 by decide, show ¬ (100 : Int32) = 99 by decide, e1, e2, show ¬ (1 : Int32) = 0 by decide]
    rfl
  obtain ⟨w3, e2, h2⟩ := mr_t X2 rfl
  rw [if_pos rfl]
  show mr w Q 100 (kt_s c [1] p2 G2) _
  have X3 : mr w Q 100 (kt_i c 1 (p2) G2) (ai_Call 236 [.ref 185, .int 2, .int (nI (4 * Q.length + 2))] (wl w3)) := m_isN ht h2 q2.1 (s := 1) (by omega) (by decide) hQ
  have b3 := kt_i_b ht.1 1 q2.1 G2
  have g3 := kt_i_g (c := c) (i := 1) (p := p2) (G := G2)
  rw [kt_s]
  generalize kt_i c 1 (p2) G2 = r3 at X3 b3 g3 ⊢
  obtain ⟨t3, p3, G3⟩ := r3
  have q3 : p3 ≤ n ∧ G3.length ≤ G2.length + 1 := ⟨b3.2.1, b3.2.2⟩
  have u3 : t3 = true → G3.length = G2.length + 1 := g3.1 (by decide)
  cases t3
  · obtain ⟨w4, e3, j1, j2⟩ := mr_f X3 rfl
    show mr w Q 100 (false, p3, G3) _
    refine ⟨w4, ?_, j1, j2, fun x => by cases x⟩
    simp only [r_239_0, r_239_1, r_239_2, r_239_5, r_239_6, r_239_7, r_239_8, r_239_11, r_239_12, r_239_13, r_239_16, r_239_19, r_239_20, r_239_21, r_239_22, r_239_25, r_239_26, r_239_27, r_239_28, r_239_29, r_239_30, r_239_33, r_239_34, r_239_35, r_239_38, r_239_39, r_239_40, r_239_43, r_239_44, r_239_45, r_239_48, r_239_49, r_239_160, r_239_161, r_239_162, r_239_163, r_239_164, r_239_165, r_239_166, r_239_167, r_239_170, r_239_173, r_239_174, r_239_176, r_239_179, r_239_182, r_239_183, r_239_184, r_239_185, r_239_186, r_239_187, r_239_190, r_239_193, r_239_194, r_239_197, r_239_198, r_239_199, r_239_200, r_239_201, r_239_202, r_239_203, r_239_204, r_239_207, r_239_208, r_239_209, r_239_210, r_239_211, r_239_212, r_239_213, r_239_216, r_239_219, r_239_220, r_239_222, r_239_225, r_239_228, r_239_229, r_239_230, r_239_231, r_239_232, r_239_233, r_239_236, r_239_239, r_239_240, r_239_243, r_239_244, r_239_245, r_239_246, r_239_247, r_239_248, r_239_249, r_239_250, r_239_253, r_239_256, r_239_257, r_239_258, r_239_259, r_239_260, r_239_263, r_239_266, r_239_267, r_239_270, r_239_271, r_239_272, r_239_273, r_239_274, r_239_275, r_239_276, r_239_277, r_239_280, r_239_283, r_239_284, r_239_285, r_239_286, r_239_287, r_239_288, r_239_291, r_239_294, r_239_295, r_239_297, r_239_300, r_239_303, r_239_304, r_239_305, r_239_306, r_239_307, r_239_308, r_239_311, r_239_314, r_239_315, r_239_318, r_239_319, r_239_320, r_239_321, r_239_322, r_239_323, r_239_324, r_239_325, r_239_328, r_239_331, r_239_332, r_239_333, r_239_334, r_239_335, r_239_338, r_239_341, r_239_342, r_239_345, r_239_346, r_239_347, r_239_348, r_239_349, r_239_350, r_239_351, r_239_352, r_239_355, r_239_358, r_239_359, r_239_360, r_239_361, r_239_362, r_239_363, r_239_366, r_239_369, r_239_370, r_239_371, r_239_372, r_239_373, r_239_374, r_239_377, r_239_380, r_239_381, r_239_384, r_239_385, Option.bind_some, Option.bind_none, Option.toList_some, Option.toList_none, List.cons_append, List.nil_append, Option.map_some, Option.map_none, eq_self, if_true, if_false, reduceIte, ai_bi_eq0, ai_bi_eq1, ai_pb_bi, ai_pb_0, ai_pb_1, nI_1, nI_2, nI_3, show ¬ (100 : Int32) = 97 by decide, show ¬ (100 : Int32) = 99 by decide, e1, e2, e3, show ¬ (1 : Int32) = 0 by decide]
    rfl
  obtain ⟨w4, e3, h3⟩ := mr_t X3 rfl
  have u3 := u3 rfl
  rw [if_pos rfl]
  show mr w Q 100 (kt_s c [] p3 G3) _
  rw [kt_s]
  refine ⟨w4, ?_, h3.1, h3.2.1, fun _ => h3⟩
  simp only [r_239_0, r_239_1, r_239_2, r_239_5, r_239_6, r_239_7, r_239_8, r_239_11, r_239_12, r_239_13, r_239_16, r_239_19, r_239_20, r_239_21, r_239_22, r_239_25, r_239_26, r_239_27, r_239_28, r_239_29, r_239_30, r_239_33, r_239_34, r_239_35, r_239_38, r_239_39, r_239_40, r_239_43, r_239_44, r_239_45, r_239_48, r_239_49, r_239_160, r_239_161, r_239_162, r_239_163, r_239_164, r_239_165, r_239_166, r_239_167, r_239_170, r_239_173, r_239_174, r_239_176, r_239_179, r_239_182, r_239_183, r_239_184, r_239_185, r_239_186, r_239_187, r_239_190, r_239_193, r_239_194, r_239_197, r_239_198, r_239_199, r_239_200, r_239_201, r_239_202, r_239_203, r_239_204, r_239_207, r_239_208, r_239_209, r_239_210, r_239_211, r_239_212, r_239_213, r_239_216, r_239_219, r_239_220, r_239_222, r_239_225, r_239_228, r_239_229, r_239_230, r_239_231, r_239_232, r_239_233, r_239_236, r_239_239, r_239_240, r_239_243, r_239_244, r_239_245, r_239_246, r_239_247, r_239_248, r_239_249, r_239_250, r_239_253, r_239_256, r_239_257, r_239_258, r_239_259, r_239_260, r_239_263, r_239_266, r_239_267, r_239_270, r_239_271, r_239_272, r_239_273, r_239_274, r_239_275, r_239_276, r_239_277, r_239_280, r_239_283, r_239_284, r_239_285, r_239_286, r_239_287, r_239_288, r_239_291, r_239_294, r_239_295, r_239_297, r_239_300, r_239_303, r_239_304, r_239_305, r_239_306, r_239_307, r_239_308, r_239_311, r_239_314, r_239_315, r_239_318, r_239_319, r_239_320, r_239_321, r_239_322, r_239_323, r_239_324, r_239_325, r_239_328, r_239_331, r_239_332, r_239_333, r_239_334, r_239_335, r_239_338, r_239_341, r_239_342, r_239_345, r_239_346, r_239_347, r_239_348, r_239_349, r_239_350, r_239_351, r_239_352, r_239_355, r_239_358, r_239_359, r_239_360, r_239_361, r_239_362, r_239_363, r_239_366, r_239_369, r_239_370, r_239_371, r_239_372, r_239_373, r_239_374, r_239_377, r_239_380, r_239_381, r_239_384, r_239_385, Option.bind_some, Option.bind_none, Option.toList_some, Option.toList_none, List.cons_append, List.nil_append, Option.map_some, Option.map_none, eq_self, if_true, if_false, reduceIte, ai_bi_eq0, ai_bi_eq1, ai_pb_bi, ai_pb_0, ai_pb_1, nI_1, nI_2, nI_3, show ¬ (100 : Int32) = 97 by decide, show ¬ (100 : Int32) = 99 by decide, e1, e2, e3, show ¬ (1 : Int32) = 0 by decide]
  rfl
theorem m_tc_106 (ht : mt w n c) (ha : mp w (p + 1) Q 106 [] wa) (hlt : p + 1 ≤ n) (hQ : Q.length < 35) : mr w Q 106 (kt_s c [0, 3] (p + 1) []) (ai_Run 239 48 [.ref 185, .int (nI (4 * Q.length)), .int 106] [] (wl wa)) := by
  have X1 : mr w Q 106 (kt_i c 0 (p + 1) []) (ai_Call 236 [.ref 185, .int 1, .int (nI (4 * Q.length + 1))] (wl wa)) := m_isD ht ha hlt (s := 0) (by rfl) (by decide) hQ
  have b1 := kt_i_b ht.1 0 hlt []
  have g1 := kt_i_g (c := c) (i := 0) (p := p + 1) (G := [])
  rw [kt_s]
  generalize kt_i c 0 (p + 1) [] = r1 at X1 b1 g1 ⊢
  obtain ⟨t1, p1, G1⟩ := r1
  have q1 : p1 ≤ n ∧ G1.length ≤ 1 := ⟨b1.2.1, b1.2.2⟩
  have u1 : t1 = true → G1.length = 1 := g1.1 (by decide)
  cases t1
  · obtain ⟨w2, e1, j1, j2⟩ := mr_f X1 rfl
    show mr w Q 106 (false, p1, G1) _
    refine ⟨w2, ?_, j1, j2, fun x => by cases x⟩
    simp only [r_239_0, r_239_1, r_239_2, r_239_5, r_239_6, r_239_7, r_239_8, r_239_11, r_239_12, r_239_13, r_239_16, r_239_19, r_239_20, r_239_21, r_239_22, r_239_25, r_239_26, r_239_27, r_239_28, r_239_29, r_239_30, r_239_33, r_239_34, r_239_35, r_239_38, r_239_39, r_239_40, r_239_43, r_239_44, r_239_45, r_239_48, r_239_49, r_239_160, r_239_161, r_239_162, r_239_163, r_239_164, r_239_165, r_239_166, r_239_167, r_239_170, r_239_173, r_239_174, r_239_176, r_239_179, r_239_182, r_239_183, r_239_184, r_239_185, r_239_186, r_239_187, r_239_190, r_239_193, r_239_194, r_239_197, r_239_198, r_239_199, r_239_200, r_239_201, r_239_202, r_239_203, r_239_204, r_239_207, r_239_208, r_239_209, r_239_210, r_239_211, r_239_212, r_239_213, r_239_216, r_239_219, r_239_220, r_239_222, r_239_225, r_239_228, r_239_229, r_239_230, r_239_231, r_239_232, r_239_233, r_239_236, r_239_239, r_239_240, r_239_243, r_239_244, r_239_245, r_239_246, r_239_247, r_239_248, r_239_249, r_239_250, r_239_253, r_239_256, r_239_257, r_239_258, r_239_259, r_239_260, r_239_263, r_239_266, r_239_267, r_239_270, r_239_271, r_239_272, r_239_273, r_239_274, r_239_275, r_239_276, r_239_277, r_239_280, r_239_283, r_239_284, r_239_285, r_239_286, r_239_287, r_239_288, r_239_291, r_239_294, r_239_295, r_239_297, r_239_300, r_239_303, r_239_304, r_239_305, r_239_306, r_239_307, r_239_308, r_239_311, r_239_314, r_239_315, r_239_318, r_239_319, r_239_320, r_239_321, r_239_322, r_239_323, r_239_324, r_239_325, r_239_328, r_239_331, r_239_332, r_239_333, r_239_334, r_239_335, r_239_338, r_239_341, r_239_342, r_239_345, r_239_346, r_239_347, r_239_348, r_239_349, r_239_350, r_239_351, r_239_352, r_239_355, r_239_358, r_239_359, r_239_360, r_239_361, r_239_362, r_239_363, r_239_366, r_239_369, r_239_370, r_239_371, r_239_372, r_239_373, r_239_374, r_239_377, r_239_380, r_239_381, r_239_384, r_239_385, Option.bind_some, Option.bind_none, Option.toList_some, Option.toList_none, List.cons_append, List.nil_append, Option.map_some, Option.map_none, eq_self, if_true, if_false, reduceIte, ai_bi_eq0, ai_bi_eq1, ai_pb_bi, ai_pb_0, ai_pb_1, nI_1, nI_2, nI_3, show ¬ (106 : Int32) = 97 by decide, show ¬ (106 : Int32) = 99 by decide, show ¬ (106 : Int32) = 100 by decide, e1, show ¬ (1 : Int32) = 0 by decide]
    rfl
  obtain ⟨w2, e1, h1⟩ := mr_t X1 rfl
  have u1 := u1 rfl
  rw [if_pos rfl]
  show mr w Q 106 (kt_s c [3] p1 G1) _
  have X2 : mr w Q 106 (kt_i c 3 (p1) G1) (ai_Call 238 [.ref 185, .int (nI (4 * Q.length + 2))] (wl w2)) := m_isReader ht h1 q1.1 (s := 1) (by omega) (by decide) hQ
  have b2 := kt_i_b ht.1 3 q1.1 G1
  have g2 := kt_i_g (c := c) (i := 3) (p := p1) (G := G1)
  rw [kt_s]
  generalize kt_i c 3 (p1) G1 = r2 at X2 b2 g2 ⊢
  obtain ⟨t2, p2, G2⟩ := r2
  have q2 : p2 ≤ n ∧ G2.length ≤ G1.length + 1 := ⟨b2.2.1, b2.2.2⟩
  have u2 : t2 = true → G2.length = G1.length + 1 := g2.1 (by decide)
  cases t2
  · obtain ⟨w3, e2, j1, j2⟩ := mr_f X2 rfl
    show mr w Q 106 (false, p2, G2) _
    refine ⟨w3, ?_, j1, j2, fun x => by cases x⟩
    simp only [r_239_0, r_239_1, r_239_2, r_239_5, r_239_6, r_239_7, r_239_8, r_239_11, r_239_12, r_239_13, r_239_16, r_239_19, r_239_20, r_239_21, r_239_22, r_239_25, r_239_26, r_239_27, r_239_28, r_239_29, r_239_30, r_239_33, r_239_34, r_239_35, r_239_38, r_239_39, r_239_40, r_239_43, r_239_44, r_239_45, r_239_48, r_239_49, r_239_160, r_239_161, r_239_162, r_239_163, r_239_164, r_239_165, r_239_166, r_239_167, r_239_170, r_239_173, r_239_174, r_239_176, r_239_179, r_239_182, r_239_183, r_239_184, r_239_185, r_239_186, r_239_187, r_239_190, r_239_193, r_239_194, r_239_197, r_239_198, r_239_199, r_239_200, r_239_201, r_239_202, r_239_203, r_239_204, r_239_207, r_239_208, r_239_209, r_239_210, r_239_211, r_239_212, r_239_213, r_239_216, r_239_219, r_239_220, r_239_222, r_239_225, r_239_228, r_239_229, r_239_230, r_239_231, r_239_232, r_239_233, r_239_236, r_239_239, r_239_240, r_239_243, r_239_244, r_239_245, r_239_246, r_239_247, r_239_248, r_239_249, r_239_250, r_239_253, r_239_256, r_239_257, r_239_258, r_239_259, r_239_260, r_239_263, r_239_266, r_239_267, r_239_270, r_239_271, r_239_272, r_239_273, r_239_274, r_239_275, r_239_276, r_239_277, r_239_280, r_239_283, r_239_284, r_239_285, r_239_286, r_239_287, r_239_288, r_239_291, r_239_294, r_239_295, r_239_297, r_239_300, r_239_303, r_239_304, r_239_305, r_239_306, r_239_307, r_239_308, r_239_311, r_239_314, r_239_315, r_239_318, r_239_319, r_239_320, r_239_321, r_239_322, r_239_323, r_239_324, r_239_325, r_239_328, r_239_331, r_239_332, r_239_333, r_239_334, r_239_335, r_239_338, r_239_341, r_239_342, r_239_345, r_239_346, r_239_347, r_239_348, r_239_349, r_239_350, r_239_351, r_239_352, r_239_355, r_239_358, r_239_359, r_239_360, r_239_361, r_239_362, r_239_363, r_239_366, r_239_369, r_239_370, r_239_371, r_239_372, r_239_373, r_239_374, r_239_377, r_239_380, r_239_381, r_239_384, r_239_385, Option.bind_some, Option.bind_none, Option.toList_some, Option.toList_none, List.cons_append, List.nil_append, Option.map_some, Option.map_none, eq_self, if_true, if_false, reduceIte, ai_bi_eq0, ai_bi_eq1, ai_pb_bi, ai_pb_0, ai_pb_1, nI_1, nI_2, nI_3, show ¬ (106 : Int32) = 97 by decide, show ¬ (106 : Int32) = 99 by decide, show ¬ (106 : Int32) = 100 by decide, e1, e2, show ¬ (1 : Int32) = 0 by decide]
    rfl
  obtain ⟨w3, e2, h2⟩ := mr_t X2 rfl
  have u2 := u2 rfl
  rw [if_pos rfl]
  show mr w Q 106 (kt_s c [] p2 G2) _
  rw [kt_s]
  refine ⟨w3, ?_, h2.1, h2.2.1, fun _ => h2⟩
  simp only [r_239_0, r_239_1, r_239_2, r_239_5, r_239_6, r_239_7, r_239_8, r_239_11, r_239_12, r_239_13, r_239_16, r_239_19, r_239_20, r_239_21, r_239_22, r_239_25, r_239_26, r_239_27, r_239_28, r_239_29, r_239_30, r_239_33, r_239_34, r_239_35, r_239_38, r_239_39, r_239_40, r_239_43, r_239_44, r_239_45, r_239_48, r_239_49, r_239_160, r_239_161, r_239_162, r_239_163, r_239_164, r_239_165, r_239_166, r_239_167, r_239_170, r_239_173, r_239_174, r_239_176, r_239_179, r_239_182, r_239_183, r_239_184, r_239_185, r_239_186, r_239_187, r_239_190, r_239_193, r_239_194, r_239_197, r_239_198, r_239_199, r_239_200, r_239_201, r_239_202, r_239_203, r_239_204, r_239_207, r_239_208, r_239_209, r_239_210, r_239_211, r_239_212, r_239_213, r_239_216, r_239_219, r_239_220, r_239_222, r_239_225, r_239_228, r_239_229, r_239_230, r_239_231, r_239_232, r_239_233, r_239_236, r_239_239, r_239_240, r_239_243, r_239_244, r_239_245, r_239_246, r_239_247, r_239_248, r_239_249, r_239_250, r_239_253, r_239_256, r_239_257, r_239_258, r_239_259, r_239_260, r_239_263, r_239_266, r_239_267, r_239_270, r_239_271, r_239_272, r_239_273, r_239_274, r_239_275, r_239_276, r_239_277, r_239_280, r_239_283, r_239_284, r_239_285, r_239_286, r_239_287, r_239_288, r_239_291, r_239_294, r_239_295, r_239_297, r_239_300, r_239_303, r_239_304, r_239_305, r_239_306, r_239_307, r_239_308, r_239_311, r_239_314, r_239_315, r_239_318, r_239_319, r_239_320, r_239_321, r_239_322, r_239_323, r_239_324, r_239_325, r_239_328, r_239_331, r_239_332, r_239_333, r_239_334, r_239_335, r_239_338, r_239_341, r_239_342, r_239_345, r_239_346, r_239_347, r_239_348, r_239_349, r_239_350, r_239_351, r_239_352, r_239_355, r_239_358, r_239_359, r_239_360, r_239_361, r_239_362, r_239_363, r_239_366, r_239_369, r_239_370, r_239_371, r_239_372, r_239_373, r_239_374, r_239_377, r_239_380, r_239_381, r_239_384, r_239_385, Option.bind_some, Option.bind_none, Option.toList_some, Option.toList_none, List.cons_append, List.nil_append, Option.map_some, Option.map_none, eq_self, if_true, if_false, reduceIte, ai_bi_eq0, ai_bi_eq1, ai_pb_bi, ai_pb_0, ai_pb_1, nI_1, nI_2, nI_3, show ¬ (106 : Int32) = 97 by decide, show ¬ (106 : Int32) = 99 by decide, show ¬ (106 : Int32) = 100 by decide, e1, e2, show ¬ (1 : Int32) = 0 by decide]
  rfl
theorem m_tc_109 (ht : mt w n c) (ha : mp w (p + 1) Q 109 [] wa) (hlt : p + 1 ≤ n) (hQ : Q.length < 35) : mr w Q 109 (kt_s c [0, 0, 61, 0] (p + 1) []) (ai_Run 239 48 [.ref 185, .int (nI (4 * Q.length)), .int 109] [] (wl wa)) := by
  have X1 : mr w Q 109 (kt_i c 0 (p + 1) []) (ai_Call 236 [.ref 185, .int 1, .int (nI (4 * Q.length + 1))] (wl wa)) := m_isD ht ha hlt (s := 0) (by rfl) (by decide) hQ
  have b1 := kt_i_b ht.1 0 hlt []
  have g1 := kt_i_g (c := c) (i := 0) (p := p + 1) (G := [])
  rw [kt_s]
  generalize kt_i c 0 (p + 1) [] = r1 at X1 b1 g1 ⊢
  obtain ⟨t1, p1, G1⟩ := r1
  have q1 : p1 ≤ n ∧ G1.length ≤ 1 := ⟨b1.2.1, b1.2.2⟩
  have u1 : t1 = true → G1.length = 1 := g1.1 (by decide)
  cases t1
  · obtain ⟨w2, e1, j1, j2⟩ := mr_f X1 rfl
    show mr w Q 109 (false, p1, G1) _
    refine ⟨w2, ?_, j1, j2, fun x => by cases x⟩
    simp only [r_239_0, r_239_1, r_239_2, r_239_5, r_239_6, r_239_7, r_239_8, r_239_11, r_239_12, r_239_13, r_239_16, r_239_19, r_239_20, r_239_21, r_239_22, r_239_25, r_239_26, r_239_27, r_239_28, r_239_29, r_239_30, r_239_33, r_239_34, r_239_35, r_239_38, r_239_39, r_239_40, r_239_43, r_239_44, r_239_45, r_239_48, r_239_49, r_239_160, r_239_161, r_239_162, r_239_163, r_239_164, r_239_165, r_239_166, r_239_167, r_239_170, r_239_173, r_239_174, r_239_176, r_239_179, r_239_182, r_239_183, r_239_184, r_239_185, r_239_186, r_239_187, r_239_190, r_239_193, r_239_194, r_239_197, r_239_198, r_239_199, r_239_200, r_239_201, r_239_202, r_239_203, r_239_204, r_239_207, r_239_208, r_239_209, r_239_210, r_239_211, r_239_212, r_239_213, r_239_216, r_239_219, r_239_220, r_239_222, r_239_225, r_239_228, r_239_229, r_239_230, r_239_231, r_239_232, r_239_233, r_239_236, r_239_239, r_239_240, r_239_243, r_239_244, r_239_245, r_239_246, r_239_247, r_239_248, r_239_249, r_239_250, r_239_253, r_239_256, r_239_257, r_239_258, r_239_259, r_239_260, r_239_263, r_239_266, r_239_267, r_239_270, r_239_271, r_239_272, r_239_273, r_239_274, r_239_275, r_239_276, r_239_277, r_239_280, r_239_283, r_239_284, r_239_285, r_239_286, r_239_287, r_239_288, r_239_291, r_239_294, r_239_295, r_239_297, r_239_300, r_239_303, r_239_304, r_239_305, r_239_306, r_239_307, r_239_308, r_239_311, r_239_314, r_239_315, r_239_318, r_239_319, r_239_320, r_239_321, r_239_322, r_239_323, r_239_324, r_239_325, r_239_328, r_239_331, r_239_332, r_239_333, r_239_334, r_239_335, r_239_338, r_239_341, r_239_342, r_239_345, r_239_346, r_239_347, r_239_348, r_239_349, r_239_350, r_239_351, r_239_352, r_239_355, r_239_358, r_239_359, r_239_360, r_239_361, r_239_362, r_239_363, r_239_366, r_239_369, r_239_370, r_239_371, r_239_372, r_239_373, r_239_374, r_239_377, r_239_380, r_239_381, r_239_384, r_239_385, Option.bind_some, Option.bind_none, Option.toList_some, Option.toList_none, List.cons_append, List.nil_append, Option.map_some, Option.map_none, eq_self, if_true, if_false, reduceIte, ai_bi_eq0, ai_bi_eq1, ai_pb_bi, ai_pb_0, ai_pb_1, nI_1, nI_2, nI_3, show ¬ (109 : Int32) = 97 by decide, show ¬ (109 : Int32) = 99 by decide, show ¬ (109 : Int32) = 100 by decide, show ¬ (109 : Int32) = 106 by decide, e1, show ¬ (1 : Int32) = 0 by decide]
    rfl
  obtain ⟨w2, e1, h1⟩ := mr_t X1 rfl
  have u1 := u1 rfl
  rw [if_pos rfl]
  show mr w Q 109 (kt_s c [0, 61, 0] p1 G1) _
  have X2 : mr w Q 109 (kt_i c 0 (p1) G1) (ai_Call 236 [.ref 185, .int 1, .int (nI (4 * Q.length + 2))] (wl w2)) := m_isD ht h1 q1.1 (s := 1) (by omega) (by decide) hQ
  have b2 := kt_i_b ht.1 0 q1.1 G1
  have g2 := kt_i_g (c := c) (i := 0) (p := p1) (G := G1)
  rw [kt_s]
  generalize kt_i c 0 (p1) G1 = r2 at X2 b2 g2 ⊢
  obtain ⟨t2, p2, G2⟩ := r2
  have q2 : p2 ≤ n ∧ G2.length ≤ G1.length + 1 := ⟨b2.2.1, b2.2.2⟩
  have u2 : t2 = true → G2.length = G1.length + 1 := g2.1 (by decide)
  cases t2
  · obtain ⟨w3, e2, j1, j2⟩ := mr_f X2 rfl
    show mr w Q 109 (false, p2, G2) _
    refine ⟨w3, ?_, j1, j2, fun x => by cases x⟩
    simp only [r_239_0, r_239_1, r_239_2, r_239_5, r_239_6, r_239_7, r_239_8, r_239_11, r_239_12, r_239_13, r_239_16, r_239_19, r_239_20, r_239_21, r_239_22, r_239_25, r_239_26, r_239_27, r_239_28, r_239_29, r_239_30, r_239_33, r_239_34, r_239_35, r_239_38, r_239_39, r_239_40, r_239_43, r_239_44, r_239_45, r_239_48, r_239_49, r_239_160, r_239_161, r_239_162, r_239_163, r_239_164, r_239_165, r_239_166, r_239_167, r_239_170, r_239_173, r_239_174, r_239_176, r_239_179, r_239_182, r_239_183, r_239_184, r_239_185, r_239_186, r_239_187, r_239_190, r_239_193, r_239_194, r_239_197, r_239_198, r_239_199, r_239_200, r_239_201, r_239_202, r_239_203, r_239_204, r_239_207, r_239_208, r_239_209, r_239_210, r_239_211, r_239_212, r_239_213, r_239_216, r_239_219, r_239_220, r_239_222, r_239_225, r_239_228, r_239_229, r_239_230, r_239_231, r_239_232, r_239_233, r_239_236, r_239_239, r_239_240, r_239_243, r_239_244, r_239_245, r_239_246, r_239_247, r_239_248, r_239_249, r_239_250, r_239_253, r_239_256, r_239_257, r_239_258, r_239_259, r_239_260, r_239_263, r_239_266, r_239_267, r_239_270, r_239_271, r_239_272, r_239_273, r_239_274, r_239_275, r_239_276, r_239_277, r_239_280, r_239_283, r_239_284, r_239_285, r_239_286, r_239_287, r_239_288, r_239_291, r_239_294, r_239_295, r_239_297, r_239_300, r_239_303, r_239_304, r_239_305, r_239_306, r_239_307, r_239_308, r_239_311, r_239_314, r_239_315, r_239_318, r_239_319, r_239_320, r_239_321, r_239_322, r_239_323, r_239_324, r_239_325, r_239_328, r_239_331, r_239_332, r_239_333, r_239_334, r_239_335, r_239_338, r_239_341, r_239_342, r_239_345, r_239_346, r_239_347, r_239_348, r_239_349, r_239_350, r_239_351, r_239_352, r_239_355, r_239_358, r_239_359, r_239_360, r_239_361, r_239_362, r_239_363, r_239_366, r_239_369, r_239_370, r_239_371, r_239_372, r_239_373, r_239_374, r_239_377, r_239_380, r_239_381, r_239_384, r_239_385, Option.bind_some, Option.bind_none, Option.toList_some, Option.toList_none, List.cons_append, List.nil_append, Option.map_some, Option.map_none, eq_self, if_true, if_false, reduceIte, ai_bi_eq0, ai_bi_eq1, ai_pb_bi, ai_pb_0, ai_pb_1, nI_1, nI_2, nI_3, show ¬ (109 : Int32) = 97 by decide, show ¬ (109 : Int32) = 99 by decide, show ¬ (109 : Int32) = 100 by decide, show ¬ (109 : Int32) = 106 by decide, e1, e2, show ¬ (1 : Int32) = 0 by decide]
    rfl
  obtain ⟨w3, e2, h2⟩ := mr_t X2 rfl
  have u2 := u2 rfl
  rw [if_pos rfl]
  show mr w Q 109 (kt_s c [61, 0] p2 G2) _
  have X3 : mr w Q 109 (kt_i c 61 (p2) G2) (ai_Call 234 [.ref 185, .int 61] (wl w3)) := m_isHere ht h2 q2.1 (x := 61) (by decide) (by decide)
  have b3 := kt_i_b ht.1 61 q2.1 G2
  have g3 := kt_i_g (c := c) (i := 61) (p := p2) (G := G2)
  rw [kt_s]
  generalize kt_i c 61 (p2) G2 = r3 at X3 b3 g3 ⊢
  obtain ⟨t3, p3, G3⟩ := r3
  have q3 : p3 ≤ n ∧ G3.length ≤ G2.length + 1 := ⟨b3.2.1, b3.2.2⟩
  have u3 : G3.length = G2.length := g3.2 (by decide)
  cases t3
  · obtain ⟨w4, e3, j1, j2⟩ := mr_f X3 rfl
    show mr w Q 109 (false, p3, G3) _
    refine ⟨w4, ?_, j1, j2, fun x => by cases x⟩
    simp only [r_239_0, r_239_1, r_239_2, r_239_5, r_239_6, r_239_7, r_239_8, r_239_11, r_239_12, r_239_13, r_239_16, r_239_19, r_239_20, r_239_21, r_239_22, r_239_25, r_239_26, r_239_27, r_239_28, r_239_29, r_239_30, r_239_33, r_239_34, r_239_35, r_239_38, r_239_39, r_239_40, r_239_43, r_239_44, r_239_45, r_239_48, r_239_49, r_239_160, r_239_161, r_239_162, r_239_163, r_239_164, r_239_165, r_239_166, r_239_167, r_239_170, r_239_173, r_239_174, r_239_176, r_239_179, r_239_182, r_239_183, r_239_184, r_239_185, r_239_186, r_239_187, r_239_190, r_239_193, r_239_194, r_239_197, r_239_198, r_239_199, r_239_200, r_239_201, r_239_202, r_239_203, r_239_204, r_239_207, r_239_208, r_239_209, r_239_210, r_239_211, r_239_212, r_239_213, r_239_216, r_239_219, r_239_220, r_239_222, r_239_225, r_239_228, r_239_229, r_239_230, r_239_231, r_239_232, r_239_233, r_239_236, r_239_239, r_239_240, r_239_243, r_239_244, r_239_245, r_239_246, r_239_247, r_239_248, r_239_249, r_239_250, r_239_253, r_239_256, r_239_257, r_239_258, r_239_259, r_239_260, r_239_263, r_239_266, r_239_267, r_239_270, r_239_271, r_239_272, r_239_273, r_239_274, r_239_275, r_239_276, r_239_277, r_239_280, r_239_283, r_239_284, r_239_285, r_239_286, r_239_287, r_239_288, r_239_291, r_239_294, r_239_295, r_239_297, r_239_300, r_239_303, r_239_304, r_239_305, r_239_306, r_239_307, r_239_308, r_239_311, r_239_314, r_239_315, r_239_318, r_239_319, r_239_320, r_239_321, r_239_322, r_239_323, r_239_324, r_239_325, r_239_328, r_239_331, r_239_332, r_239_333, r_239_334, r_239_335, r_239_338, r_239_341, r_239_342, r_239_345, r_239_346, r_239_347, r_239_348, r_239_349, r_239_350, r_239_351, r_239_352, r_239_355, r_239_358, r_239_359, r_239_360, r_239_361, r_239_362, r_239_363, r_239_366, r_239_369, r_239_370, r_239_371, r_239_372, r_239_373, r_239_374, r_239_377, r_239_380, r_239_381, r_239_384, r_239_385, Option.bind_some, Option.bind_none, Option.toList_some, Option.toList_none, List.cons_append, List.nil_append, Option.map_some, Option.map_none, eq_self, if_true, if_false, reduceIte, ai_bi_eq0, ai_bi_eq1, ai_pb_bi, ai_pb_0, ai_pb_1, nI_1, nI_2, nI_3, show ¬ (109 : Int32) = 97 by decide, show ¬ (109 : Int32) = 99 by decide, show ¬ (109 : Int32) = 100 by decide, show ¬ (109 : Int32) = 106 by decide, e1, e2, e3, show ¬ (1 : Int32) = 0 by decide]
    rfl
  obtain ⟨w4, e3, h3⟩ := mr_t X3 rfl
  rw [if_pos rfl]
  show mr w Q 109 (kt_s c [0] p3 G3) _
  have X4 : mr w Q 109 (kt_i c 0 (p3) G3) (ai_Call 236 [.ref 185, .int 1, .int (nI (4 * Q.length + 3))] (wl w4)) := m_isD ht h3 q3.1 (s := 2) (by omega) (by decide) hQ
  have b4 := kt_i_b ht.1 0 q3.1 G3
  have g4 := kt_i_g (c := c) (i := 0) (p := p3) (G := G3)
  rw [kt_s]
  generalize kt_i c 0 (p3) G3 = r4 at X4 b4 g4 ⊢
  obtain ⟨t4, p4, G4⟩ := r4
  have q4 : p4 ≤ n ∧ G4.length ≤ G3.length + 1 := ⟨b4.2.1, b4.2.2⟩
  have u4 : t4 = true → G4.length = G3.length + 1 := g4.1 (by decide)
  cases t4
  · obtain ⟨w5, e4, j1, j2⟩ := mr_f X4 rfl
    show mr w Q 109 (false, p4, G4) _
    refine ⟨w5, ?_, j1, j2, fun x => by cases x⟩
    simp only [r_239_0, r_239_1, r_239_2, r_239_5, r_239_6, r_239_7, r_239_8, r_239_11, r_239_12, r_239_13, r_239_16, r_239_19, r_239_20, r_239_21, r_239_22, r_239_25, r_239_26, r_239_27, r_239_28, r_239_29, r_239_30, r_239_33, r_239_34, r_239_35, r_239_38, r_239_39, r_239_40, r_239_43, r_239_44, r_239_45, r_239_48, r_239_49, r_239_160, r_239_161, r_239_162, r_239_163, r_239_164, r_239_165, r_239_166, r_239_167, r_239_170, r_239_173, r_239_174, r_239_176, r_239_179, r_239_182, r_239_183, r_239_184, r_239_185, r_239_186, r_239_187, r_239_190, r_239_193, r_239_194, r_239_197, r_239_198, r_239_199, r_239_200, r_239_201, r_239_202, r_239_203, r_239_204, r_239_207, r_239_208, r_239_209, r_239_210, r_239_211, r_239_212, r_239_213, r_239_216, r_239_219, r_239_220, r_239_222, r_239_225, r_239_228, r_239_229, r_239_230, r_239_231, r_239_232, r_239_233, r_239_236, r_239_239, r_239_240, r_239_243, r_239_244, r_239_245, r_239_246, r_239_247, r_239_248, r_239_249, r_239_250, r_239_253, r_239_256, r_239_257, r_239_258, r_239_259, r_239_260, r_239_263, r_239_266, r_239_267, r_239_270, r_239_271, r_239_272, r_239_273, r_239_274, r_239_275, r_239_276, r_239_277, r_239_280, r_239_283, r_239_284, r_239_285, r_239_286, r_239_287, r_239_288, r_239_291, r_239_294, r_239_295, r_239_297, r_239_300, r_239_303, r_239_304, r_239_305, r_239_306, r_239_307, r_239_308, r_239_311, r_239_314, r_239_315, r_239_318, r_239_319, r_239_320, r_239_321, r_239_322, r_239_323, r_239_324, r_239_325, r_239_328, r_239_331, r_239_332, r_239_333, r_239_334, r_239_335, r_239_338, r_239_341, r_239_342, r_239_345, r_239_346, r_239_347, r_239_348, r_239_349, r_239_350, r_239_351, r_239_352, r_239_355, r_239_358, r_239_359, r_239_360, r_239_361, r_239_362, r_239_363, r_239_366, r_239_369, r_239_370, r_239_371, r_239_372, r_239_373, r_239_374, r_239_377, r_239_380, r_239_381, r_239_384, r_239_385, Option.bind_some, Option.bind_none, Option.toList_some, Option.toList_none, List.cons_append, List.nil_append, Option.map_some, Option.map_none, eq_self, if_true, if_false, reduceIte, ai_bi_eq0, ai_bi_eq1, ai_pb_bi, ai_pb_0, ai_pb_1, nI_1, nI_2, nI_3, show ¬ (109 : Int32) = 97 by decide, show ¬ (109 : Int32) = 99 by decide, show ¬ (109 : Int32) = 100 by decide, show ¬ (109 : Int32) = 106 by decide, e1, e2, e3, e4, show ¬ (1 : Int32) = 0 by decide]
    rfl
  obtain ⟨w5, e4, h4⟩ := mr_t X4 rfl
  have u4 := u4 rfl
  rw [if_pos rfl]
  show mr w Q 109 (kt_s c [] p4 G4) _
  rw [kt_s]
  refine ⟨w5, ?_, h4.1, h4.2.1, fun _ => h4⟩
  simp only [r_239_0, r_239_1, r_239_2, r_239_5, r_239_6, r_239_7, r_239_8, r_239_11, r_239_12, r_239_13, r_239_16, r_239_19, r_239_20, r_239_21, r_239_22, r_239_25, r_239_26, r_239_27, r_239_28, r_239_29, r_239_30, r_239_33, r_239_34, r_239_35, r_239_38, r_239_39, r_239_40, r_239_43, r_239_44, r_239_45, r_239_48, r_239_49, r_239_160, r_239_161, r_239_162, r_239_163, r_239_164, r_239_165, r_239_166, r_239_167, r_239_170, r_239_173, r_239_174, r_239_176, r_239_179, r_239_182, r_239_183, r_239_184, r_239_185, r_239_186, r_239_187, r_239_190, r_239_193, r_239_194, r_239_197, r_239_198, r_239_199, r_239_200, r_239_201, r_239_202, r_239_203, r_239_204, r_239_207, r_239_208, r_239_209, r_239_210, r_239_211, r_239_212, r_239_213, r_239_216, r_239_219, r_239_220, r_239_222, r_239_225, r_239_228, r_239_229, r_239_230, r_239_231, r_239_232, r_239_233, r_239_236, r_239_239, r_239_240, r_239_243, r_239_244, r_239_245, r_239_246, r_239_247, r_239_248, r_239_249, r_239_250, r_239_253, r_239_256, r_239_257, r_239_258, r_239_259, r_239_260, r_239_263, r_239_266, r_239_267, r_239_270, r_239_271, r_239_272, r_239_273, r_239_274, r_239_275, r_239_276, r_239_277, r_239_280, r_239_283, r_239_284, r_239_285, r_239_286, r_239_287, r_239_288, r_239_291, r_239_294, r_239_295, r_239_297, r_239_300, r_239_303, r_239_304, r_239_305, r_239_306, r_239_307, r_239_308, r_239_311, r_239_314, r_239_315, r_239_318, r_239_319, r_239_320, r_239_321, r_239_322, r_239_323, r_239_324, r_239_325, r_239_328, r_239_331, r_239_332, r_239_333, r_239_334, r_239_335, r_239_338, r_239_341, r_239_342, r_239_345, r_239_346, r_239_347, r_239_348, r_239_349, r_239_350, r_239_351, r_239_352, r_239_355, r_239_358, r_239_359, r_239_360, r_239_361, r_239_362, r_239_363, r_239_366, r_239_369, r_239_370, r_239_371, r_239_372, r_239_373, r_239_374, r_239_377, r_239_380, r_239_381, r_239_384, r_239_385, Option.bind_some, Option.bind_none, Option.toList_some, Option.toList_none, List.cons_append, List.nil_append, Option.map_some, Option.map_none, eq_self, if_true, if_false, reduceIte, ai_bi_eq0, ai_bi_eq1, ai_pb_bi, ai_pb_0, ai_pb_1, nI_1, nI_2, nI_3, show ¬ (109 : Int32) = 97 by decide, show ¬ (109 : Int32) = 99 by decide, show ¬ (109 : Int32) = 100 by decide, show ¬ (109 : Int32) = 106 by decide, e1, e2, e3, e4, show ¬ (1 : Int32) = 0 by decide]
  rfl
theorem m_tc_111 (ht : mt w n c) (ha : mp w (p + 1) Q 111 [] wa) (hlt : p + 1 ≤ n) (hQ : Q.length < 35) : mr w Q 111 (kt_s c [0, 2] (p + 1) []) (ai_Run 239 48 [.ref 185, .int (nI (4 * Q.length)), .int 111] [] (wl wa)) := by
  have X1 : mr w Q 111 (kt_i c 0 (p + 1) []) (ai_Call 236 [.ref 185, .int 1, .int (nI (4 * Q.length + 1))] (wl wa)) := m_isD ht ha hlt (s := 0) (by rfl) (by decide) hQ
  have b1 := kt_i_b ht.1 0 hlt []
  have g1 := kt_i_g (c := c) (i := 0) (p := p + 1) (G := [])
  rw [kt_s]
  generalize kt_i c 0 (p + 1) [] = r1 at X1 b1 g1 ⊢
  obtain ⟨t1, p1, G1⟩ := r1
  have q1 : p1 ≤ n ∧ G1.length ≤ 1 := ⟨b1.2.1, b1.2.2⟩
  have u1 : t1 = true → G1.length = 1 := g1.1 (by decide)
  cases t1
  · obtain ⟨w2, e1, j1, j2⟩ := mr_f X1 rfl
    show mr w Q 111 (false, p1, G1) _
    refine ⟨w2, ?_, j1, j2, fun x => by cases x⟩
    simp only [r_239_0, r_239_1, r_239_2, r_239_5, r_239_6, r_239_7, r_239_8, r_239_11, r_239_12, r_239_13, r_239_16, r_239_19, r_239_20, r_239_21, r_239_22, r_239_25, r_239_26, r_239_27, r_239_28, r_239_29, r_239_30, r_239_33, r_239_34, r_239_35, r_239_38, r_239_39, r_239_40, r_239_43, r_239_44, r_239_45, r_239_48, r_239_49, r_239_160, r_239_161, r_239_162, r_239_163, r_239_164, r_239_165, r_239_166, r_239_167, r_239_170, r_239_173, r_239_174, r_239_176, r_239_179, r_239_182, r_239_183, r_239_184, r_239_185, r_239_186, r_239_187, r_239_190, r_239_193, r_239_194, r_239_197, r_239_198, r_239_199, r_239_200, r_239_201, r_239_202, r_239_203, r_239_204, r_239_207, r_239_208, r_239_209, r_239_210, r_239_211, r_239_212, r_239_213, r_239_216, r_239_219, r_239_220, r_239_222, r_239_225, r_239_228, r_239_229, r_239_230, r_239_231, r_239_232, r_239_233, r_239_236, r_239_239, r_239_240, r_239_243, r_239_244, r_239_245, r_239_246, r_239_247, r_239_248, r_239_249, r_239_250, r_239_253, r_239_256, r_239_257, r_239_258, r_239_259, r_239_260, r_239_263, r_239_266, r_239_267, r_239_270, r_239_271, r_239_272, r_239_273, r_239_274, r_239_275, r_239_276, r_239_277, r_239_280, r_239_283, r_239_284, r_239_285, r_239_286, r_239_287, r_239_288, r_239_291, r_239_294, r_239_295, r_239_297, r_239_300, r_239_303, r_239_304, r_239_305, r_239_306, r_239_307, r_239_308, r_239_311, r_239_314, r_239_315, r_239_318, r_239_319, r_239_320, r_239_321, r_239_322, r_239_323, r_239_324, r_239_325, r_239_328, r_239_331, r_239_332, r_239_333, r_239_334, r_239_335, r_239_338, r_239_341, r_239_342, r_239_345, r_239_346, r_239_347, r_239_348, r_239_349, r_239_350, r_239_351, r_239_352, r_239_355, r_239_358, r_239_359, r_239_360, r_239_361, r_239_362, r_239_363, r_239_366, r_239_369, r_239_370, r_239_371, r_239_372, r_239_373, r_239_374, r_239_377, r_239_380, r_239_381, r_239_384, r_239_385, Option.bind_some, Option.bind_none, Option.toList_some, Option.toList_none, List.cons_append, List.nil_append, Option.map_some, Option.map_none, eq_self, if_true, if_false, reduceIte, ai_bi_eq0, ai_bi_eq1, ai_pb_bi, ai_pb_0, ai_pb_1, nI_1, nI_2, nI_3, show ¬ (111 : Int32) = 97 by decide, show ¬ (111 : Int32) = 99 by decide, show ¬ (111 : Int32) = 100 by decide, show ¬ (111 : Int32) = 106 by decide, show ¬ (111 : Int32) = 109 by decide, e1, show ¬ (1 : Int32) = 0 by decide]
    rfl
  obtain ⟨w2, e1, h1⟩ := mr_t X1 rfl
  have u1 := u1 rfl
  rw [if_pos rfl]
  show mr w Q 111 (kt_s c [2] p1 G1) _
  have X2 : mr w Q 111 (kt_i c 2 (p1) G1) (ai_Call 237 [.ref 185, .int (nI (4 * Q.length + 2))] (wl w2)) := m_isOath ht h1 q1.1 (s := 1) (by omega) (by decide) hQ
  have b2 := kt_i_b ht.1 2 q1.1 G1
  have g2 := kt_i_g (c := c) (i := 2) (p := p1) (G := G1)
  rw [kt_s]
  generalize kt_i c 2 (p1) G1 = r2 at X2 b2 g2 ⊢
  obtain ⟨t2, p2, G2⟩ := r2
  have q2 : p2 ≤ n ∧ G2.length ≤ G1.length + 1 := ⟨b2.2.1, b2.2.2⟩
  have u2 : t2 = true → G2.length = G1.length + 1 := g2.1 (by decide)
  cases t2
  · obtain ⟨w3, e2, j1, j2⟩ := mr_f X2 rfl
    show mr w Q 111 (false, p2, G2) _
    refine ⟨w3, ?_, j1, j2, fun x => by cases x⟩
    simp only [r_239_0, r_239_1, r_239_2, r_239_5, r_239_6, r_239_7, r_239_8, r_239_11, r_239_12, r_239_13, r_239_16, r_239_19, r_239_20, r_239_21, r_239_22, r_239_25, r_239_26, r_239_27, r_239_28, r_239_29, r_239_30, r_239_33, r_239_34, r_239_35, r_239_38, r_239_39, r_239_40, r_239_43, r_239_44, r_239_45, r_239_48, r_239_49, r_239_160, r_239_161, r_239_162, r_239_163, r_239_164, r_239_165, r_239_166, r_239_167, r_239_170, r_239_173, r_239_174, r_239_176, r_239_179, r_239_182, r_239_183, r_239_184, r_239_185, r_239_186, r_239_187, r_239_190, r_239_193, r_239_194, r_239_197, r_239_198, r_239_199, r_239_200, r_239_201, r_239_202, r_239_203, r_239_204, r_239_207, r_239_208, r_239_209, r_239_210, r_239_211, r_239_212, r_239_213, r_239_216, r_239_219, r_239_220, r_239_222, r_239_225, r_239_228, r_239_229, r_239_230, r_239_231, r_239_232, r_239_233, r_239_236, r_239_239, r_239_240, r_239_243, r_239_244, r_239_245, r_239_246, r_239_247, r_239_248, r_239_249, r_239_250, r_239_253, r_239_256, r_239_257, r_239_258, r_239_259, r_239_260, r_239_263, r_239_266, r_239_267, r_239_270, r_239_271, r_239_272, r_239_273, r_239_274, r_239_275, r_239_276, r_239_277, r_239_280, r_239_283, r_239_284, r_239_285, r_239_286, r_239_287, r_239_288, r_239_291, r_239_294, r_239_295, r_239_297, r_239_300, r_239_303, r_239_304, r_239_305, r_239_306, r_239_307, r_239_308, r_239_311, r_239_314, r_239_315, r_239_318, r_239_319, r_239_320, r_239_321, r_239_322, r_239_323, r_239_324, r_239_325, r_239_328, r_239_331, r_239_332, r_239_333, r_239_334, r_239_335, r_239_338, r_239_341, r_239_342, r_239_345, r_239_346, r_239_347, r_239_348, r_239_349, r_239_350, r_239_351, r_239_352, r_239_355, r_239_358, r_239_359, r_239_360, r_239_361, r_239_362, r_239_363, r_239_366, r_239_369, r_239_370, r_239_371, r_239_372, r_239_373, r_239_374, r_239_377, r_239_380, r_239_381, r_239_384, r_239_385, Option.bind_some, Option.bind_none, Option.toList_some, Option.toList_none, List.cons_append, List.nil_append, Option.map_some, Option.map_none, eq_self, if_true, if_false, reduceIte, ai_bi_eq0, ai_bi_eq1, ai_pb_bi, ai_pb_0, ai_pb_1, nI_1, nI_2, nI_3, show ¬ (111 : Int32) = 97 by decide, show ¬ (111 : Int32) = 99 by decide, show ¬ (111 : Int32) = 100 by decide, show ¬ (111 : Int32) = 106 by decide, show ¬ (111 : Int32) = 109 by decide, e1, e2, show ¬ (1 : Int32) = 0 by decide]
    rfl
  obtain ⟨w3, e2, h2⟩ := mr_t X2 rfl
  have u2 := u2 rfl
  rw [if_pos rfl]
  show mr w Q 111 (kt_s c [] p2 G2) _
  rw [kt_s]
  refine ⟨w3, ?_, h2.1, h2.2.1, fun _ => h2⟩
  simp only [r_239_0, r_239_1, r_239_2, r_239_5, r_239_6, r_239_7, r_239_8, r_239_11, r_239_12, r_239_13, r_239_16, r_239_19, r_239_20, r_239_21, r_239_22, r_239_25, r_239_26, r_239_27, r_239_28, r_239_29, r_239_30, r_239_33, r_239_34, r_239_35, r_239_38, r_239_39, r_239_40, r_239_43, r_239_44, r_239_45, r_239_48, r_239_49, r_239_160, r_239_161, r_239_162, r_239_163, r_239_164, r_239_165, r_239_166, r_239_167, r_239_170, r_239_173, r_239_174, r_239_176, r_239_179, r_239_182, r_239_183, r_239_184, r_239_185, r_239_186, r_239_187, r_239_190, r_239_193, r_239_194, r_239_197, r_239_198, r_239_199, r_239_200, r_239_201, r_239_202, r_239_203, r_239_204, r_239_207, r_239_208, r_239_209, r_239_210, r_239_211, r_239_212, r_239_213, r_239_216, r_239_219, r_239_220, r_239_222, r_239_225, r_239_228, r_239_229, r_239_230, r_239_231, r_239_232, r_239_233, r_239_236, r_239_239, r_239_240, r_239_243, r_239_244, r_239_245, r_239_246, r_239_247, r_239_248, r_239_249, r_239_250, r_239_253, r_239_256, r_239_257, r_239_258, r_239_259, r_239_260, r_239_263, r_239_266, r_239_267, r_239_270, r_239_271, r_239_272, r_239_273, r_239_274, r_239_275, r_239_276, r_239_277, r_239_280, r_239_283, r_239_284, r_239_285, r_239_286, r_239_287, r_239_288, r_239_291, r_239_294, r_239_295, r_239_297, r_239_300, r_239_303, r_239_304, r_239_305, r_239_306, r_239_307, r_239_308, r_239_311, r_239_314, r_239_315, r_239_318, r_239_319, r_239_320, r_239_321, r_239_322, r_239_323, r_239_324, r_239_325, r_239_328, r_239_331, r_239_332, r_239_333, r_239_334, r_239_335, r_239_338, r_239_341, r_239_342, r_239_345, r_239_346, r_239_347, r_239_348, r_239_349, r_239_350, r_239_351, r_239_352, r_239_355, r_239_358, r_239_359, r_239_360, r_239_361, r_239_362, r_239_363, r_239_366, r_239_369, r_239_370, r_239_371, r_239_372, r_239_373, r_239_374, r_239_377, r_239_380, r_239_381, r_239_384, r_239_385, Option.bind_some, Option.bind_none, Option.toList_some, Option.toList_none, List.cons_append, List.nil_append, Option.map_some, Option.map_none, eq_self, if_true, if_false, reduceIte, ai_bi_eq0, ai_bi_eq1, ai_pb_bi, ai_pb_0, ai_pb_1, nI_1, nI_2, nI_3, show ¬ (111 : Int32) = 97 by decide, show ¬ (111 : Int32) = 99 by decide, show ¬ (111 : Int32) = 100 by decide, show ¬ (111 : Int32) = 106 by decide, show ¬ (111 : Int32) = 109 by decide, e1, e2, show ¬ (1 : Int32) = 0 by decide]
  rfl
theorem m_tc_114 (ht : mt w n c) (ha : mp w (p + 1) Q 114 [] wa) (hlt : p + 1 ≤ n) (hQ : Q.length < 35) : mr w Q 114 (kt_s c [0, 64, 1] (p + 1) []) (ai_Run 239 48 [.ref 185, .int (nI (4 * Q.length)), .int 114] [] (wl wa)) := by
  have X1 : mr w Q 114 (kt_i c 0 (p + 1) []) (ai_Call 236 [.ref 185, .int 1, .int (nI (4 * Q.length + 1))] (wl wa)) := m_isD ht ha hlt (s := 0) (by rfl) (by decide) hQ
  have b1 := kt_i_b ht.1 0 hlt []
  have g1 := kt_i_g (c := c) (i := 0) (p := p + 1) (G := [])
  rw [kt_s]
  generalize kt_i c 0 (p + 1) [] = r1 at X1 b1 g1 ⊢
  obtain ⟨t1, p1, G1⟩ := r1
  have q1 : p1 ≤ n ∧ G1.length ≤ 1 := ⟨b1.2.1, b1.2.2⟩
  have u1 : t1 = true → G1.length = 1 := g1.1 (by decide)
  cases t1
  · obtain ⟨w2, e1, j1, j2⟩ := mr_f X1 rfl
    show mr w Q 114 (false, p1, G1) _
    refine ⟨w2, ?_, j1, j2, fun x => by cases x⟩
    simp only [r_239_0, r_239_1, r_239_2, r_239_5, r_239_6, r_239_7, r_239_8, r_239_11, r_239_12, r_239_13, r_239_16, r_239_19, r_239_20, r_239_21, r_239_22, r_239_25, r_239_26, r_239_27, r_239_28, r_239_29, r_239_30, r_239_33, r_239_34, r_239_35, r_239_38, r_239_39, r_239_40, r_239_43, r_239_44, r_239_45, r_239_48, r_239_49, r_239_160, r_239_161, r_239_162, r_239_163, r_239_164, r_239_165, r_239_166, r_239_167, r_239_170, r_239_173, r_239_174, r_239_176, r_239_179, r_239_182, r_239_183, r_239_184, r_239_185, r_239_186, r_239_187, r_239_190, r_239_193, r_239_194, r_239_197, r_239_198, r_239_199, r_239_200, r_239_201, r_239_202, r_239_203, r_239_204, r_239_207, r_239_208, r_239_209, r_239_210, r_239_211, r_239_212, r_239_213, r_239_216, r_239_219, r_239_220, r_239_222, r_239_225, r_239_228, r_239_229, r_239_230, r_239_231, r_239_232, r_239_233, r_239_236, r_239_239, r_239_240, r_239_243, r_239_244, r_239_245, r_239_246, r_239_247, r_239_248, r_239_249, r_239_250, r_239_253, r_239_256, r_239_257, r_239_258, r_239_259, r_239_260, r_239_263, r_239_266, r_239_267, r_239_270, r_239_271, r_239_272, r_239_273, r_239_274, r_239_275, r_239_276, r_239_277, r_239_280, r_239_283, r_239_284, r_239_285, r_239_286, r_239_287, r_239_288, r_239_291, r_239_294, r_239_295, r_239_297, r_239_300, r_239_303, r_239_304, r_239_305, r_239_306, r_239_307, r_239_308, r_239_311, r_239_314, r_239_315, r_239_318, r_239_319, r_239_320, r_239_321, r_239_322, r_239_323, r_239_324, r_239_325, r_239_328, r_239_331, r_239_332, r_239_333, r_239_334, r_239_335, r_239_338, r_239_341, r_239_342, r_239_345, r_239_346, r_239_347, r_239_348, r_239_349, r_239_350, r_239_351, r_239_352, r_239_355, r_239_358, r_239_359, r_239_360, r_239_361, r_239_362, r_239_363, r_239_366, r_239_369, r_239_370, r_239_371, r_239_372, r_239_373, r_239_374, r_239_377, r_239_380, r_239_381, r_239_384, r_239_385, Option.bind_some, Option.bind_none, Option.toList_some, Option.toList_none, List.cons_append, List.nil_append, Option.map_some, Option.map_none, eq_self, if_true, if_false, reduceIte, ai_bi_eq0, ai_bi_eq1, ai_pb_bi, ai_pb_0, ai_pb_1, nI_1, nI_2, nI_3, show ¬ (114 : Int32) = 97 by decide, show ¬ (114 : Int32) = 99 by decide, show ¬ (114 : Int32) = 100 by decide, show ¬ (114 : Int32) = 106 by decide, show ¬ (114 : Int32) = 109 by decide, show ¬ (114 : Int32) = 111 by decide, e1, show ¬ (1 : Int32) = 0 by decide]
    rfl
  obtain ⟨w2, e1, h1⟩ := mr_t X1 rfl
  have u1 := u1 rfl
  rw [if_pos rfl]
  show mr w Q 114 (kt_s c [64, 1] p1 G1) _
  have X2 : mr w Q 114 (kt_i c 64 (p1) G1) (ai_Call 234 [.ref 185, .int 64] (wl w2)) := m_isHere ht h1 q1.1 (x := 64) (by decide) (by decide)
  have b2 := kt_i_b ht.1 64 q1.1 G1
  have g2 := kt_i_g (c := c) (i := 64) (p := p1) (G := G1)
  rw [kt_s]
  generalize kt_i c 64 (p1) G1 = r2 at X2 b2 g2 ⊢
  obtain ⟨t2, p2, G2⟩ := r2
  have q2 : p2 ≤ n ∧ G2.length ≤ G1.length + 1 := ⟨b2.2.1, b2.2.2⟩
  have u2 : G2.length = G1.length := g2.2 (by decide)
  cases t2
  · obtain ⟨w3, e2, j1, j2⟩ := mr_f X2 rfl
    show mr w Q 114 (false, p2, G2) _
    refine ⟨w3, ?_, j1, j2, fun x => by cases x⟩
    simp only [r_239_0, r_239_1, r_239_2, r_239_5, r_239_6, r_239_7, r_239_8, r_239_11, r_239_12, r_239_13, r_239_16, r_239_19, r_239_20, r_239_21, r_239_22, r_239_25, r_239_26, r_239_27, r_239_28, r_239_29, r_239_30, r_239_33, r_239_34, r_239_35, r_239_38, r_239_39, r_239_40, r_239_43, r_239_44, r_239_45, r_239_48, r_239_49, r_239_160, r_239_161, r_239_162, r_239_163, r_239_164, r_239_165, r_239_166, r_239_167, r_239_170, r_239_173, r_239_174, r_239_176, r_239_179, r_239_182, r_239_183, r_239_184, r_239_185, r_239_186, r_239_187, r_239_190, r_239_193, r_239_194, r_239_197, r_239_198, r_239_199, r_239_200, r_239_201, r_239_202, r_239_203, r_239_204, r_239_207, r_239_208, r_239_209, r_239_210, r_239_211, r_239_212, r_239_213, r_239_216, r_239_219, r_239_220, r_239_222, r_239_225, r_239_228, r_239_229, r_239_230, r_239_231, r_239_232, r_239_233, r_239_236, r_239_239, r_239_240, r_239_243, r_239_244, r_239_245, r_239_246, r_239_247, r_239_248, r_239_249, r_239_250, r_239_253, r_239_256, r_239_257, r_239_258, r_239_259, r_239_260, r_239_263, r_239_266, r_239_267, r_239_270, r_239_271, r_239_272, r_239_273, r_239_274, r_239_275, r_239_276, r_239_277, r_239_280, r_239_283, r_239_284, r_239_285, r_239_286, r_239_287, r_239_288, r_239_291, r_239_294, r_239_295, r_239_297, r_239_300, r_239_303, r_239_304, r_239_305, r_239_306, r_239_307, r_239_308, r_239_311, r_239_314, r_239_315, r_239_318, r_239_319, r_239_320, r_239_321, r_239_322, r_239_323, r_239_324, r_239_325, r_239_328, r_239_331, r_239_332, r_239_333, r_239_334, r_239_335, r_239_338, r_239_341, r_239_342, r_239_345, r_239_346, r_239_347, r_239_348, r_239_349, r_239_350, r_239_351, r_239_352, r_239_355, r_239_358, r_239_359, r_239_360, r_239_361, r_239_362, r_239_363, r_239_366, r_239_369, r_239_370, r_239_371, r_239_372, r_239_373, r_239_374, r_239_377, r_239_380, r_239_381, r_239_384, r_239_385, Option.bind_some, Option.bind_none, Option.toList_some, Option.toList_none, List.cons_append, List.nil_append, Option.map_some, Option.map_none, eq_self, if_true, if_false, reduceIte, ai_bi_eq0, ai_bi_eq1, ai_pb_bi, ai_pb_0, ai_pb_1, nI_1, nI_2, nI_3, show ¬ (114 : Int32) = 97 by decide, show ¬ (114 : Int32) = 99 by decide, show ¬ (114 : Int32) = 100 by decide, show ¬ (114 : Int32) = 106 by decide, show ¬ (114 : Int32) = 109 by decide, show ¬ (114 : Int32) = 111 by decide, e1, e2, show ¬ (1 : Int32) = 0 by decide]
    rfl
  obtain ⟨w3, e2, h2⟩ := mr_t X2 rfl
  rw [if_pos rfl]
  show mr w Q 114 (kt_s c [1] p2 G2) _
  have X3 : mr w Q 114 (kt_i c 1 (p2) G2) (ai_Call 236 [.ref 185, .int 2, .int (nI (4 * Q.length + 2))] (wl w3)) := m_isN ht h2 q2.1 (s := 1) (by omega) (by decide) hQ
  have b3 := kt_i_b ht.1 1 q2.1 G2
  have g3 := kt_i_g (c := c) (i := 1) (p := p2) (G := G2)
  rw [kt_s]
  generalize kt_i c 1 (p2) G2 = r3 at X3 b3 g3 ⊢
  obtain ⟨t3, p3, G3⟩ := r3
  have q3 : p3 ≤ n ∧ G3.length ≤ G2.length + 1 := ⟨b3.2.1, b3.2.2⟩
  have u3 : t3 = true → G3.length = G2.length + 1 := g3.1 (by decide)
  cases t3
  · obtain ⟨w4, e3, j1, j2⟩ := mr_f X3 rfl
    show mr w Q 114 (false, p3, G3) _
    refine ⟨w4, ?_, j1, j2, fun x => by cases x⟩
    simp only [r_239_0, r_239_1, r_239_2, r_239_5, r_239_6, r_239_7, r_239_8, r_239_11, r_239_12, r_239_13, r_239_16, r_239_19, r_239_20, r_239_21, r_239_22, r_239_25, r_239_26, r_239_27, r_239_28, r_239_29, r_239_30, r_239_33, r_239_34, r_239_35, r_239_38, r_239_39, r_239_40, r_239_43, r_239_44, r_239_45, r_239_48, r_239_49, r_239_160, r_239_161, r_239_162, r_239_163, r_239_164, r_239_165, r_239_166, r_239_167, r_239_170, r_239_173, r_239_174, r_239_176, r_239_179, r_239_182, r_239_183, r_239_184, r_239_185, r_239_186, r_239_187, r_239_190, r_239_193, r_239_194, r_239_197, r_239_198, r_239_199, r_239_200, r_239_201, r_239_202, r_239_203, r_239_204, r_239_207, r_239_208, r_239_209, r_239_210, r_239_211, r_239_212, r_239_213, r_239_216, r_239_219, r_239_220, r_239_222, r_239_225, r_239_228, r_239_229, r_239_230, r_239_231, r_239_232, r_239_233, r_239_236, r_239_239, r_239_240, r_239_243, r_239_244, r_239_245, r_239_246, r_239_247, r_239_248, r_239_249, r_239_250, r_239_253, r_239_256, r_239_257, r_239_258, r_239_259, r_239_260, r_239_263, r_239_266, r_239_267, r_239_270, r_239_271, r_239_272, r_239_273, r_239_274, r_239_275, r_239_276, r_239_277, r_239_280, r_239_283, r_239_284, r_239_285, r_239_286, r_239_287, r_239_288, r_239_291, r_239_294, r_239_295, r_239_297, r_239_300, r_239_303, r_239_304, r_239_305, r_239_306, r_239_307, r_239_308, r_239_311, r_239_314, r_239_315, r_239_318, r_239_319, r_239_320, r_239_321, r_239_322, r_239_323, r_239_324, r_239_325, r_239_328, r_239_331, r_239_332, r_239_333, r_239_334, r_239_335, r_239_338, r_239_341, r_239_342, r_239_345, r_239_346, r_239_347, r_239_348, r_239_349, r_239_350, r_239_351, r_239_352, r_239_355, r_239_358, r_239_359, r_239_360, r_239_361, r_239_362, r_239_363, r_239_366, r_239_369, r_239_370, r_239_371, r_239_372, r_239_373, r_239_374, r_239_377, r_239_380, r_239_381, r_239_384, r_239_385, Option.bind_some, Option.bind_none, Option.toList_some, Option.toList_none, List.cons_append, List.nil_append, Option.map_some, Option.map_none, eq_self, if_true, if_false, reduceIte, ai_bi_eq0, ai_bi_eq1, ai_pb_bi, ai_pb_0, ai_pb_1, nI_1, nI_2, nI_3, show ¬ (114 : Int32) = 97 by decide, show ¬ (114 : Int32) = 99 by decide, show ¬ (114 : Int32) = 100 by decide, show ¬ (114 : Int32) = 106 by decide, show ¬ (114 : Int32) = 109 by decide, show ¬ (114 : Int32) = 111 by decide, e1, e2, e3, show ¬ (1 : Int32) = 0 by decide]
    rfl
  obtain ⟨w4, e3, h3⟩ := mr_t X3 rfl
  have u3 := u3 rfl
  rw [if_pos rfl]
  show mr w Q 114 (kt_s c [] p3 G3) _
  rw [kt_s]
  refine ⟨w4, ?_, h3.1, h3.2.1, fun _ => h3⟩
  simp only [r_239_0, r_239_1, r_239_2, r_239_5, r_239_6, r_239_7, r_239_8, r_239_11, r_239_12, r_239_13, r_239_16, r_239_19, r_239_20, r_239_21, r_239_22, r_239_25, r_239_26, r_239_27, r_239_28, r_239_29, r_239_30, r_239_33, r_239_34, r_239_35, r_239_38, r_239_39, r_239_40, r_239_43, r_239_44, r_239_45, r_239_48, r_239_49, r_239_160, r_239_161, r_239_162, r_239_163, r_239_164, r_239_165, r_239_166, r_239_167, r_239_170, r_239_173, r_239_174, r_239_176, r_239_179, r_239_182, r_239_183, r_239_184, r_239_185, r_239_186, r_239_187, r_239_190, r_239_193, r_239_194, r_239_197, r_239_198, r_239_199, r_239_200, r_239_201, r_239_202, r_239_203, r_239_204, r_239_207, r_239_208, r_239_209, r_239_210, r_239_211, r_239_212, r_239_213, r_239_216, r_239_219, r_239_220, r_239_222, r_239_225, r_239_228, r_239_229, r_239_230, r_239_231, r_239_232, r_239_233, r_239_236, r_239_239, r_239_240, r_239_243, r_239_244, r_239_245, r_239_246, r_239_247, r_239_248, r_239_249, r_239_250, r_239_253, r_239_256, r_239_257, r_239_258, r_239_259, r_239_260, r_239_263, r_239_266, r_239_267, r_239_270, r_239_271, r_239_272, r_239_273, r_239_274, r_239_275, r_239_276, r_239_277, r_239_280, r_239_283, r_239_284, r_239_285, r_239_286, r_239_287, r_239_288, r_239_291, r_239_294, r_239_295, r_239_297, r_239_300, r_239_303, r_239_304, r_239_305, r_239_306, r_239_307, r_239_308, r_239_311, r_239_314, r_239_315, r_239_318, r_239_319, r_239_320, r_239_321, r_239_322, r_239_323, r_239_324, r_239_325, r_239_328, r_239_331, r_239_332, r_239_333, r_239_334, r_239_335, r_239_338, r_239_341, r_239_342, r_239_345, r_239_346, r_239_347, r_239_348, r_239_349, r_239_350, r_239_351, r_239_352, r_239_355, r_239_358, r_239_359, r_239_360, r_239_361, r_239_362, r_239_363, r_239_366, r_239_369, r_239_370, r_239_371, r_239_372, r_239_373, r_239_374, r_239_377, r_239_380, r_239_381, r_239_384, r_239_385, Option.bind_some, Option.bind_none, Option.toList_some, Option.toList_none, List.cons_append, List.nil_append, Option.map_some, Option.map_none, eq_self, if_true, if_false, reduceIte, ai_bi_eq0, ai_bi_eq1, ai_pb_bi, ai_pb_0, ai_pb_1, nI_1, nI_2, nI_3, show ¬ (114 : Int32) = 97 by decide, show ¬ (114 : Int32) = 99 by decide, show ¬ (114 : Int32) = 100 by decide, show ¬ (114 : Int32) = 106 by decide, show ¬ (114 : Int32) = 109 by decide, show ¬ (114 : Int32) = 111 by decide, e1, e2, e3, show ¬ (1 : Int32) = 0 by decide]
  rfl
theorem m_tc_116 (ht : mt w n c) (ha : mp w (p + 1) Q 116 [] wa) (hlt : p + 1 ≤ n) (hQ : Q.length < 35) : mr w Q 116 (kt_s c [0, 0, 0] (p + 1) []) (ai_Run 239 48 [.ref 185, .int (nI (4 * Q.length)), .int 116] [] (wl wa)) := by
  have X1 : mr w Q 116 (kt_i c 0 (p + 1) []) (ai_Call 236 [.ref 185, .int 1, .int (nI (4 * Q.length + 1))] (wl wa)) := m_isD ht ha hlt (s := 0) (by rfl) (by decide) hQ
  have b1 := kt_i_b ht.1 0 hlt []
  have g1 := kt_i_g (c := c) (i := 0) (p := p + 1) (G := [])
  rw [kt_s]
  generalize kt_i c 0 (p + 1) [] = r1 at X1 b1 g1 ⊢
  obtain ⟨t1, p1, G1⟩ := r1
  have q1 : p1 ≤ n ∧ G1.length ≤ 1 := ⟨b1.2.1, b1.2.2⟩
  have u1 : t1 = true → G1.length = 1 := g1.1 (by decide)
  cases t1
  · obtain ⟨w2, e1, j1, j2⟩ := mr_f X1 rfl
    show mr w Q 116 (false, p1, G1) _
    refine ⟨w2, ?_, j1, j2, fun x => by cases x⟩
    simp only [r_239_0, r_239_1, r_239_2, r_239_5, r_239_6, r_239_7, r_239_8, r_239_11, r_239_12, r_239_13, r_239_16, r_239_19, r_239_20, r_239_21, r_239_22, r_239_25, r_239_26, r_239_27, r_239_28, r_239_29, r_239_30, r_239_33, r_239_34, r_239_35, r_239_38, r_239_39, r_239_40, r_239_43, r_239_44, r_239_45, r_239_48, r_239_49, r_239_160, r_239_161, r_239_162, r_239_163, r_239_164, r_239_165, r_239_166, r_239_167, r_239_170, r_239_173, r_239_174, r_239_176, r_239_179, r_239_182, r_239_183, r_239_184, r_239_185, r_239_186, r_239_187, r_239_190, r_239_193, r_239_194, r_239_197, r_239_198, r_239_199, r_239_200, r_239_201, r_239_202, r_239_203, r_239_204, r_239_207, r_239_208, r_239_209, r_239_210, r_239_211, r_239_212, r_239_213, r_239_216, r_239_219, r_239_220, r_239_222, r_239_225, r_239_228, r_239_229, r_239_230, r_239_231, r_239_232, r_239_233, r_239_236, r_239_239, r_239_240, r_239_243, r_239_244, r_239_245, r_239_246, r_239_247, r_239_248, r_239_249, r_239_250, r_239_253, r_239_256, r_239_257, r_239_258, r_239_259, r_239_260, r_239_263, r_239_266, r_239_267, r_239_270, r_239_271, r_239_272, r_239_273, r_239_274, r_239_275, r_239_276, r_239_277, r_239_280, r_239_283, r_239_284, r_239_285, r_239_286, r_239_287, r_239_288, r_239_291, r_239_294, r_239_295, r_239_297, r_239_300, r_239_303, r_239_304, r_239_305, r_239_306, r_239_307, r_239_308, r_239_311, r_239_314, r_239_315, r_239_318, r_239_319, r_239_320, r_239_321, r_239_322, r_239_323, r_239_324, r_239_325, r_239_328, r_239_331, r_239_332, r_239_333, r_239_334, r_239_335, r_239_338, r_239_341, r_239_342, r_239_345, r_239_346, r_239_347, r_239_348, r_239_349, r_239_350, r_239_351, r_239_352, r_239_355, r_239_358, r_239_359, r_239_360, r_239_361, r_239_362, r_239_363, r_239_366, r_239_369, r_239_370, r_239_371, r_239_372, r_239_373, r_239_374, r_239_377, r_239_380, r_239_381, r_239_384, r_239_385, Option.bind_some, Option.bind_none, Option.toList_some, Option.toList_none, List.cons_append, List.nil_append, Option.map_some, Option.map_none, eq_self, if_true, if_false, reduceIte, ai_bi_eq0, ai_bi_eq1, ai_pb_bi, ai_pb_0, ai_pb_1, nI_1, nI_2, nI_3, show ¬ (116 : Int32) = 97 by decide, show ¬ (116 : Int32) = 99 by decide, show ¬ (116 : Int32) = 100 by decide, show ¬ (116 : Int32) = 106 by decide, show ¬ (116 : Int32) = 109 by decide, show ¬ (116 : Int32) = 111 by decide, show ¬ (116 : Int32) = 114 by decide, show ¬ (116 : Int32) = 119 by decide, show ¬ (116 : Int32) = 120 by decide, e1, show ¬ (1 : Int32) = 0 by decide]
    rfl
  obtain ⟨w2, e1, h1⟩ := mr_t X1 rfl
  have u1 := u1 rfl
  rw [if_pos rfl]
  show mr w Q 116 (kt_s c [0, 0] p1 G1) _
  have X2 : mr w Q 116 (kt_i c 0 (p1) G1) (ai_Call 236 [.ref 185, .int 1, .int (nI (4 * Q.length + 2))] (wl w2)) := m_isD ht h1 q1.1 (s := 1) (by omega) (by decide) hQ
  have b2 := kt_i_b ht.1 0 q1.1 G1
  have g2 := kt_i_g (c := c) (i := 0) (p := p1) (G := G1)
  rw [kt_s]
  generalize kt_i c 0 (p1) G1 = r2 at X2 b2 g2 ⊢
  obtain ⟨t2, p2, G2⟩ := r2
  have q2 : p2 ≤ n ∧ G2.length ≤ G1.length + 1 := ⟨b2.2.1, b2.2.2⟩
  have u2 : t2 = true → G2.length = G1.length + 1 := g2.1 (by decide)
  cases t2
  · obtain ⟨w3, e2, j1, j2⟩ := mr_f X2 rfl
    show mr w Q 116 (false, p2, G2) _
    refine ⟨w3, ?_, j1, j2, fun x => by cases x⟩
    simp only [r_239_0, r_239_1, r_239_2, r_239_5, r_239_6, r_239_7, r_239_8, r_239_11, r_239_12, r_239_13, r_239_16, r_239_19, r_239_20, r_239_21, r_239_22, r_239_25, r_239_26, r_239_27, r_239_28, r_239_29, r_239_30, r_239_33, r_239_34, r_239_35, r_239_38, r_239_39, r_239_40, r_239_43, r_239_44, r_239_45, r_239_48, r_239_49, r_239_160, r_239_161, r_239_162, r_239_163, r_239_164, r_239_165, r_239_166, r_239_167, r_239_170, r_239_173, r_239_174, r_239_176, r_239_179, r_239_182, r_239_183, r_239_184, r_239_185, r_239_186, r_239_187, r_239_190, r_239_193, r_239_194, r_239_197, r_239_198, r_239_199, r_239_200, r_239_201, r_239_202, r_239_203, r_239_204, r_239_207, r_239_208, r_239_209, r_239_210, r_239_211, r_239_212, r_239_213, r_239_216, r_239_219, r_239_220, r_239_222, r_239_225, r_239_228, r_239_229, r_239_230, r_239_231, r_239_232, r_239_233, r_239_236, r_239_239, r_239_240, r_239_243, r_239_244, r_239_245, r_239_246, r_239_247, r_239_248, r_239_249, r_239_250, r_239_253, r_239_256, r_239_257, r_239_258, r_239_259, r_239_260, r_239_263, r_239_266, r_239_267, r_239_270, r_239_271, r_239_272, r_239_273, r_239_274, r_239_275, r_239_276, r_239_277, r_239_280, r_239_283, r_239_284, r_239_285, r_239_286, r_239_287, r_239_288, r_239_291, r_239_294, r_239_295, r_239_297, r_239_300, r_239_303, r_239_304, r_239_305, r_239_306, r_239_307, r_239_308, r_239_311, r_239_314, r_239_315, r_239_318, r_239_319, r_239_320, r_239_321, r_239_322, r_239_323, r_239_324, r_239_325, r_239_328, r_239_331, r_239_332, r_239_333, r_239_334, r_239_335, r_239_338, r_239_341, r_239_342, r_239_345, r_239_346, r_239_347, r_239_348, r_239_349, r_239_350, r_239_351, r_239_352, r_239_355, r_239_358, r_239_359, r_239_360, r_239_361, r_239_362, r_239_363, r_239_366, r_239_369, r_239_370, r_239_371, r_239_372, r_239_373, r_239_374, r_239_377, r_239_380, r_239_381, r_239_384, r_239_385, Option.bind_some, Option.bind_none, Option.toList_some, Option.toList_none, List.cons_append, List.nil_append, Option.map_some, Option.map_none, eq_self, if_true, if_false, reduceIte, ai_bi_eq0, ai_bi_eq1, ai_pb_bi, ai_pb_0, ai_pb_1, nI_1, nI_2, nI_3, show ¬ (116 : Int32) = 97 by decide, show ¬ (116 : Int32) = 99 by decide, show ¬ (116 : Int32) = 100 by decide, show ¬ (116 : Int32) = 106 by decide, show ¬ (116 : Int32) = 109 by decide, show ¬ (116 : Int32) = 111 by decide, show ¬ (116 : Int32) = 114 by decide, show ¬ (116 : Int32) = 119 by decide, show ¬ (116 : Int32) = 120 by decide, e1, e2, show ¬ (1 : Int32) = 0 by decide]
    rfl
  obtain ⟨w3, e2, h2⟩ := mr_t X2 rfl
  have u2 := u2 rfl
  rw [if_pos rfl]
  show mr w Q 116 (kt_s c [0] p2 G2) _
  have X3 : mr w Q 116 (kt_i c 0 (p2) G2) (ai_Call 236 [.ref 185, .int 1, .int (nI (4 * Q.length + 3))] (wl w3)) := m_isD ht h2 q2.1 (s := 2) (by omega) (by decide) hQ
  have b3 := kt_i_b ht.1 0 q2.1 G2
  have g3 := kt_i_g (c := c) (i := 0) (p := p2) (G := G2)
  rw [kt_s]
  generalize kt_i c 0 (p2) G2 = r3 at X3 b3 g3 ⊢
  obtain ⟨t3, p3, G3⟩ := r3
  have q3 : p3 ≤ n ∧ G3.length ≤ G2.length + 1 := ⟨b3.2.1, b3.2.2⟩
  have u3 : t3 = true → G3.length = G2.length + 1 := g3.1 (by decide)
  cases t3
  · obtain ⟨w4, e3, j1, j2⟩ := mr_f X3 rfl
    show mr w Q 116 (false, p3, G3) _
    refine ⟨w4, ?_, j1, j2, fun x => by cases x⟩
    simp only [r_239_0, r_239_1, r_239_2, r_239_5, r_239_6, r_239_7, r_239_8, r_239_11, r_239_12, r_239_13, r_239_16, r_239_19, r_239_20, r_239_21, r_239_22, r_239_25, r_239_26, r_239_27, r_239_28, r_239_29, r_239_30, r_239_33, r_239_34, r_239_35, r_239_38, r_239_39, r_239_40, r_239_43, r_239_44, r_239_45, r_239_48, r_239_49, r_239_160, r_239_161, r_239_162, r_239_163, r_239_164, r_239_165, r_239_166, r_239_167, r_239_170, r_239_173, r_239_174, r_239_176, r_239_179, r_239_182, r_239_183, r_239_184, r_239_185, r_239_186, r_239_187, r_239_190, r_239_193, r_239_194, r_239_197, r_239_198, r_239_199, r_239_200, r_239_201, r_239_202, r_239_203, r_239_204, r_239_207, r_239_208, r_239_209, r_239_210, r_239_211, r_239_212, r_239_213, r_239_216, r_239_219, r_239_220, r_239_222, r_239_225, r_239_228, r_239_229, r_239_230, r_239_231, r_239_232, r_239_233, r_239_236, r_239_239, r_239_240, r_239_243, r_239_244, r_239_245, r_239_246, r_239_247, r_239_248, r_239_249, r_239_250, r_239_253, r_239_256, r_239_257, r_239_258, r_239_259, r_239_260, r_239_263, r_239_266, r_239_267, r_239_270, r_239_271, r_239_272, r_239_273, r_239_274, r_239_275, r_239_276, r_239_277, r_239_280, r_239_283, r_239_284, r_239_285, r_239_286, r_239_287, r_239_288, r_239_291, r_239_294, r_239_295, r_239_297, r_239_300, r_239_303, r_239_304, r_239_305, r_239_306, r_239_307, r_239_308, r_239_311, r_239_314, r_239_315, r_239_318, r_239_319, r_239_320, r_239_321, r_239_322, r_239_323, r_239_324, r_239_325, r_239_328, r_239_331, r_239_332, r_239_333, r_239_334, r_239_335, r_239_338, r_239_341, r_239_342, r_239_345, r_239_346, r_239_347, r_239_348, r_239_349, r_239_350, r_239_351, r_239_352, r_239_355, r_239_358, r_239_359, r_239_360, r_239_361, r_239_362, r_239_363, r_239_366, r_239_369, r_239_370, r_239_371, r_239_372, r_239_373, r_239_374, r_239_377, r_239_380, r_239_381, r_239_384, r_239_385, Option.bind_some, Option.bind_none, Option.toList_some, Option.toList_none, List.cons_append, List.nil_append, Option.map_some, Option.map_none, eq_self, if_true, if_false, reduceIte, ai_bi_eq0, ai_bi_eq1, ai_pb_bi, ai_pb_0, ai_pb_1, nI_1, nI_2, nI_3, show ¬ (116 : Int32) = 97 by decide, show ¬ (116 : Int32) = 99 by decide, show ¬ (116 : Int32) = 100 by decide, show ¬ (116 : Int32) = 106 by decide, show ¬ (116 : Int32) = 109 by decide, show ¬ (116 : Int32) = 111 by decide, show ¬ (116 : Int32) = 114 by decide, show ¬ (116 : Int32) = 119 by decide, show ¬ (116 : Int32) = 120 by decide, e1, e2, e3, show ¬ (1 : Int32) = 0 by decide]
    rfl
  obtain ⟨w4, e3, h3⟩ := mr_t X3 rfl
  have u3 := u3 rfl
  rw [if_pos rfl]
  show mr w Q 116 (kt_s c [] p3 G3) _
  rw [kt_s]
  refine ⟨w4, ?_, h3.1, h3.2.1, fun _ => h3⟩
  simp only [r_239_0, r_239_1, r_239_2, r_239_5, r_239_6, r_239_7, r_239_8, r_239_11, r_239_12, r_239_13, r_239_16, r_239_19, r_239_20, r_239_21, r_239_22, r_239_25, r_239_26, r_239_27, r_239_28, r_239_29, r_239_30, r_239_33, r_239_34, r_239_35, r_239_38, r_239_39, r_239_40, r_239_43, r_239_44, r_239_45, r_239_48, r_239_49, r_239_160, r_239_161, r_239_162, r_239_163, r_239_164, r_239_165, r_239_166, r_239_167, r_239_170, r_239_173, r_239_174, r_239_176, r_239_179, r_239_182, r_239_183, r_239_184, r_239_185, r_239_186, r_239_187, r_239_190, r_239_193, r_239_194, r_239_197, r_239_198, r_239_199, r_239_200, r_239_201, r_239_202, r_239_203, r_239_204, r_239_207, r_239_208, r_239_209, r_239_210, r_239_211, r_239_212, r_239_213, r_239_216, r_239_219, r_239_220, r_239_222, r_239_225, r_239_228, r_239_229, r_239_230, r_239_231, r_239_232, r_239_233, r_239_236, r_239_239, r_239_240, r_239_243, r_239_244, r_239_245, r_239_246, r_239_247, r_239_248, r_239_249, r_239_250, r_239_253, r_239_256, r_239_257, r_239_258, r_239_259, r_239_260, r_239_263, r_239_266, r_239_267, r_239_270, r_239_271, r_239_272, r_239_273, r_239_274, r_239_275, r_239_276, r_239_277, r_239_280, r_239_283, r_239_284, r_239_285, r_239_286, r_239_287, r_239_288, r_239_291, r_239_294, r_239_295, r_239_297, r_239_300, r_239_303, r_239_304, r_239_305, r_239_306, r_239_307, r_239_308, r_239_311, r_239_314, r_239_315, r_239_318, r_239_319, r_239_320, r_239_321, r_239_322, r_239_323, r_239_324, r_239_325, r_239_328, r_239_331, r_239_332, r_239_333, r_239_334, r_239_335, r_239_338, r_239_341, r_239_342, r_239_345, r_239_346, r_239_347, r_239_348, r_239_349, r_239_350, r_239_351, r_239_352, r_239_355, r_239_358, r_239_359, r_239_360, r_239_361, r_239_362, r_239_363, r_239_366, r_239_369, r_239_370, r_239_371, r_239_372, r_239_373, r_239_374, r_239_377, r_239_380, r_239_381, r_239_384, r_239_385, Option.bind_some, Option.bind_none, Option.toList_some, Option.toList_none, List.cons_append, List.nil_append, Option.map_some, Option.map_none, eq_self, if_true, if_false, reduceIte, ai_bi_eq0, ai_bi_eq1, ai_pb_bi, ai_pb_0, ai_pb_1, nI_1, nI_2, nI_3, show ¬ (116 : Int32) = 97 by decide, show ¬ (116 : Int32) = 99 by decide, show ¬ (116 : Int32) = 100 by decide, show ¬ (116 : Int32) = 106 by decide, show ¬ (116 : Int32) = 109 by decide, show ¬ (116 : Int32) = 111 by decide, show ¬ (116 : Int32) = 114 by decide, show ¬ (116 : Int32) = 119 by decide, show ¬ (116 : Int32) = 120 by decide, e1, e2, e3, show ¬ (1 : Int32) = 0 by decide]
  rfl
theorem m_tc_119 (ht : mt w n c) (ha : mp w (p + 1) Q 119 [] wa) (hlt : p + 1 ≤ n) (hQ : Q.length < 35) : mr w Q 119 (kt_s c [1, 64, 0] (p + 1) []) (ai_Run 239 48 [.ref 185, .int (nI (4 * Q.length)), .int 119] [] (wl wa)) := by
  have X1 : mr w Q 119 (kt_i c 1 (p + 1) []) (ai_Call 236 [.ref 185, .int 2, .int (nI (4 * Q.length + 1))] (wl wa)) := m_isN ht ha hlt (s := 0) (by rfl) (by decide) hQ
  have b1 := kt_i_b ht.1 1 hlt []
  have g1 := kt_i_g (c := c) (i := 1) (p := p + 1) (G := [])
  rw [kt_s]
  generalize kt_i c 1 (p + 1) [] = r1 at X1 b1 g1 ⊢
  obtain ⟨t1, p1, G1⟩ := r1
  have q1 : p1 ≤ n ∧ G1.length ≤ 1 := ⟨b1.2.1, b1.2.2⟩
  have u1 : t1 = true → G1.length = 1 := g1.1 (by decide)
  cases t1
  · obtain ⟨w2, e1, j1, j2⟩ := mr_f X1 rfl
    show mr w Q 119 (false, p1, G1) _
    refine ⟨w2, ?_, j1, j2, fun x => by cases x⟩
    simp only [r_239_0, r_239_1, r_239_2, r_239_5, r_239_6, r_239_7, r_239_8, r_239_11, r_239_12, r_239_13, r_239_16, r_239_19, r_239_20, r_239_21, r_239_22, r_239_25, r_239_26, r_239_27, r_239_28, r_239_29, r_239_30, r_239_33, r_239_34, r_239_35, r_239_38, r_239_39, r_239_40, r_239_43, r_239_44, r_239_45, r_239_48, r_239_49, r_239_160, r_239_161, r_239_162, r_239_163, r_239_164, r_239_165, r_239_166, r_239_167, r_239_170, r_239_173, r_239_174, r_239_176, r_239_179, r_239_182, r_239_183, r_239_184, r_239_185, r_239_186, r_239_187, r_239_190, r_239_193, r_239_194, r_239_197, r_239_198, r_239_199, r_239_200, r_239_201, r_239_202, r_239_203, r_239_204, r_239_207, r_239_208, r_239_209, r_239_210, r_239_211, r_239_212, r_239_213, r_239_216, r_239_219, r_239_220, r_239_222, r_239_225, r_239_228, r_239_229, r_239_230, r_239_231, r_239_232, r_239_233, r_239_236, r_239_239, r_239_240, r_239_243, r_239_244, r_239_245, r_239_246, r_239_247, r_239_248, r_239_249, r_239_250, r_239_253, r_239_256, r_239_257, r_239_258, r_239_259, r_239_260, r_239_263, r_239_266, r_239_267, r_239_270, r_239_271, r_239_272, r_239_273, r_239_274, r_239_275, r_239_276, r_239_277, r_239_280, r_239_283, r_239_284, r_239_285, r_239_286, r_239_287, r_239_288, r_239_291, r_239_294, r_239_295, r_239_297, r_239_300, r_239_303, r_239_304, r_239_305, r_239_306, r_239_307, r_239_308, r_239_311, r_239_314, r_239_315, r_239_318, r_239_319, r_239_320, r_239_321, r_239_322, r_239_323, r_239_324, r_239_325, r_239_328, r_239_331, r_239_332, r_239_333, r_239_334, r_239_335, r_239_338, r_239_341, r_239_342, r_239_345, r_239_346, r_239_347, r_239_348, r_239_349, r_239_350, r_239_351, r_239_352, r_239_355, r_239_358, r_239_359, r_239_360, r_239_361, r_239_362, r_239_363, r_239_366, r_239_369, r_239_370, r_239_371, r_239_372, r_239_373, r_239_374, r_239_377, r_239_380, r_239_381, r_239_384, r_239_385, Option.bind_some, Option.bind_none, Option.toList_some, Option.toList_none, List.cons_append, List.nil_append, Option.map_some, Option.map_none, eq_self, if_true, if_false, reduceIte, ai_bi_eq0, ai_bi_eq1, ai_pb_bi, ai_pb_0, ai_pb_1, nI_1, nI_2, nI_3, show ¬ (119 : Int32) = 97 by decide, show ¬ (119 : Int32) = 99 by decide, show ¬ (119 : Int32) = 100 by decide, show ¬ (119 : Int32) = 106 by decide, show ¬ (119 : Int32) = 109 by decide, show ¬ (119 : Int32) = 111 by decide, show ¬ (119 : Int32) = 114 by decide, e1, show ¬ (1 : Int32) = 0 by decide]
    rfl
  obtain ⟨w2, e1, h1⟩ := mr_t X1 rfl
  have u1 := u1 rfl
  rw [if_pos rfl]
  show mr w Q 119 (kt_s c [64, 0] p1 G1) _
  have X2 : mr w Q 119 (kt_i c 64 (p1) G1) (ai_Call 234 [.ref 185, .int 64] (wl w2)) := m_isHere ht h1 q1.1 (x := 64) (by decide) (by decide)
  have b2 := kt_i_b ht.1 64 q1.1 G1
  have g2 := kt_i_g (c := c) (i := 64) (p := p1) (G := G1)
  rw [kt_s]
  generalize kt_i c 64 (p1) G1 = r2 at X2 b2 g2 ⊢
  obtain ⟨t2, p2, G2⟩ := r2
  have q2 : p2 ≤ n ∧ G2.length ≤ G1.length + 1 := ⟨b2.2.1, b2.2.2⟩
  have u2 : G2.length = G1.length := g2.2 (by decide)
  cases t2
  · obtain ⟨w3, e2, j1, j2⟩ := mr_f X2 rfl
    show mr w Q 119 (false, p2, G2) _
    refine ⟨w3, ?_, j1, j2, fun x => by cases x⟩
    simp only [r_239_0, r_239_1, r_239_2, r_239_5, r_239_6, r_239_7, r_239_8, r_239_11, r_239_12, r_239_13, r_239_16, r_239_19, r_239_20, r_239_21, r_239_22, r_239_25, r_239_26, r_239_27, r_239_28, r_239_29, r_239_30, r_239_33, r_239_34, r_239_35, r_239_38, r_239_39, r_239_40, r_239_43, r_239_44, r_239_45, r_239_48, r_239_49, r_239_160, r_239_161, r_239_162, r_239_163, r_239_164, r_239_165, r_239_166, r_239_167, r_239_170, r_239_173, r_239_174, r_239_176, r_239_179, r_239_182, r_239_183, r_239_184, r_239_185, r_239_186, r_239_187, r_239_190, r_239_193, r_239_194, r_239_197, r_239_198, r_239_199, r_239_200, r_239_201, r_239_202, r_239_203, r_239_204, r_239_207, r_239_208, r_239_209, r_239_210, r_239_211, r_239_212, r_239_213, r_239_216, r_239_219, r_239_220, r_239_222, r_239_225, r_239_228, r_239_229, r_239_230, r_239_231, r_239_232, r_239_233, r_239_236, r_239_239, r_239_240, r_239_243, r_239_244, r_239_245, r_239_246, r_239_247, r_239_248, r_239_249, r_239_250, r_239_253, r_239_256, r_239_257, r_239_258, r_239_259, r_239_260, r_239_263, r_239_266, r_239_267, r_239_270, r_239_271, r_239_272, r_239_273, r_239_274, r_239_275, r_239_276, r_239_277, r_239_280, r_239_283, r_239_284, r_239_285, r_239_286, r_239_287, r_239_288, r_239_291, r_239_294, r_239_295, r_239_297, r_239_300, r_239_303, r_239_304, r_239_305, r_239_306, r_239_307, r_239_308, r_239_311, r_239_314, r_239_315, r_239_318, r_239_319, r_239_320, r_239_321, r_239_322, r_239_323, r_239_324, r_239_325, r_239_328, r_239_331, r_239_332, r_239_333, r_239_334, r_239_335, r_239_338, r_239_341, r_239_342, r_239_345, r_239_346, r_239_347, r_239_348, r_239_349, r_239_350, r_239_351, r_239_352, r_239_355, r_239_358, r_239_359, r_239_360, r_239_361, r_239_362, r_239_363, r_239_366, r_239_369, r_239_370, r_239_371, r_239_372, r_239_373, r_239_374, r_239_377, r_239_380, r_239_381, r_239_384, r_239_385, Option.bind_some, Option.bind_none, Option.toList_some, Option.toList_none, List.cons_append, List.nil_append, Option.map_some, Option.map_none, eq_self, if_true, if_false, reduceIte, ai_bi_eq0, ai_bi_eq1, ai_pb_bi, ai_pb_0, ai_pb_1, nI_1, nI_2, nI_3, show ¬ (119 : Int32) = 97 by decide, show ¬ (119 : Int32) = 99 by decide, show ¬ (119 : Int32) = 100 by decide, show ¬ (119 : Int32) = 106 by decide, show ¬ (119 : Int32) = 109 by decide, show ¬ (119 : Int32) = 111 by decide, show ¬ (119 : Int32) = 114 by decide, e1, e2, show ¬ (1 : Int32) = 0 by decide]
    rfl
  obtain ⟨w3, e2, h2⟩ := mr_t X2 rfl
  rw [if_pos rfl]
  show mr w Q 119 (kt_s c [0] p2 G2) _
  have X3 : mr w Q 119 (kt_i c 0 (p2) G2) (ai_Call 236 [.ref 185, .int 1, .int (nI (4 * Q.length + 2))] (wl w3)) := m_isD ht h2 q2.1 (s := 1) (by omega) (by decide) hQ
  have b3 := kt_i_b ht.1 0 q2.1 G2
  have g3 := kt_i_g (c := c) (i := 0) (p := p2) (G := G2)
  rw [kt_s]
  generalize kt_i c 0 (p2) G2 = r3 at X3 b3 g3 ⊢
  obtain ⟨t3, p3, G3⟩ := r3
  have q3 : p3 ≤ n ∧ G3.length ≤ G2.length + 1 := ⟨b3.2.1, b3.2.2⟩
  have u3 : t3 = true → G3.length = G2.length + 1 := g3.1 (by decide)
  cases t3
  · obtain ⟨w4, e3, j1, j2⟩ := mr_f X3 rfl
    show mr w Q 119 (false, p3, G3) _
    refine ⟨w4, ?_, j1, j2, fun x => by cases x⟩
    simp only [r_239_0, r_239_1, r_239_2, r_239_5, r_239_6, r_239_7, r_239_8, r_239_11, r_239_12, r_239_13, r_239_16, r_239_19, r_239_20, r_239_21, r_239_22, r_239_25, r_239_26, r_239_27, r_239_28, r_239_29, r_239_30, r_239_33, r_239_34, r_239_35, r_239_38, r_239_39, r_239_40, r_239_43, r_239_44, r_239_45, r_239_48, r_239_49, r_239_160, r_239_161, r_239_162, r_239_163, r_239_164, r_239_165, r_239_166, r_239_167, r_239_170, r_239_173, r_239_174, r_239_176, r_239_179, r_239_182, r_239_183, r_239_184, r_239_185, r_239_186, r_239_187, r_239_190, r_239_193, r_239_194, r_239_197, r_239_198, r_239_199, r_239_200, r_239_201, r_239_202, r_239_203, r_239_204, r_239_207, r_239_208, r_239_209, r_239_210, r_239_211, r_239_212, r_239_213, r_239_216, r_239_219, r_239_220, r_239_222, r_239_225, r_239_228, r_239_229, r_239_230, r_239_231, r_239_232, r_239_233, r_239_236, r_239_239, r_239_240, r_239_243, r_239_244, r_239_245, r_239_246, r_239_247, r_239_248, r_239_249, r_239_250, r_239_253, r_239_256, r_239_257, r_239_258, r_239_259, r_239_260, r_239_263, r_239_266, r_239_267, r_239_270, r_239_271, r_239_272, r_239_273, r_239_274, r_239_275, r_239_276, r_239_277, r_239_280, r_239_283, r_239_284, r_239_285, r_239_286, r_239_287, r_239_288, r_239_291, r_239_294, r_239_295, r_239_297, r_239_300, r_239_303, r_239_304, r_239_305, r_239_306, r_239_307, r_239_308, r_239_311, r_239_314, r_239_315, r_239_318, r_239_319, r_239_320, r_239_321, r_239_322, r_239_323, r_239_324, r_239_325, r_239_328, r_239_331, r_239_332, r_239_333, r_239_334, r_239_335, r_239_338, r_239_341, r_239_342, r_239_345, r_239_346, r_239_347, r_239_348, r_239_349, r_239_350, r_239_351, r_239_352, r_239_355, r_239_358, r_239_359, r_239_360, r_239_361, r_239_362, r_239_363, r_239_366, r_239_369, r_239_370, r_239_371, r_239_372, r_239_373, r_239_374, r_239_377, r_239_380, r_239_381, r_239_384, r_239_385, Option.bind_some, Option.bind_none, Option.toList_some, Option.toList_none, List.cons_append, List.nil_append, Option.map_some, Option.map_none, eq_self, if_true, if_false, reduceIte, ai_bi_eq0, ai_bi_eq1, ai_pb_bi, ai_pb_0, ai_pb_1, nI_1, nI_2, nI_3, show ¬ (119 : Int32) = 97 by decide, show ¬ (119 : Int32) = 99 by decide, show ¬ (119 : Int32) = 100 by decide, show ¬ (119 : Int32) = 106 by decide, show ¬ (119 : Int32) = 109 by decide, show ¬ (119 : Int32) = 111 by decide, show ¬ (119 : Int32) = 114 by decide, e1, e2, e3, show ¬ (1 : Int32) = 0 by decide]
    rfl
  obtain ⟨w4, e3, h3⟩ := mr_t X3 rfl
  have u3 := u3 rfl
  rw [if_pos rfl]
  show mr w Q 119 (kt_s c [] p3 G3) _
  rw [kt_s]
  refine ⟨w4, ?_, h3.1, h3.2.1, fun _ => h3⟩
  simp only [r_239_0, r_239_1, r_239_2, r_239_5, r_239_6, r_239_7, r_239_8, r_239_11, r_239_12, r_239_13, r_239_16, r_239_19, r_239_20, r_239_21, r_239_22, r_239_25, r_239_26, r_239_27, r_239_28, r_239_29, r_239_30, r_239_33, r_239_34, r_239_35, r_239_38, r_239_39, r_239_40, r_239_43, r_239_44, r_239_45, r_239_48, r_239_49, r_239_160, r_239_161, r_239_162, r_239_163, r_239_164, r_239_165, r_239_166, r_239_167, r_239_170, r_239_173, r_239_174, r_239_176, r_239_179, r_239_182, r_239_183, r_239_184, r_239_185, r_239_186, r_239_187, r_239_190, r_239_193, r_239_194, r_239_197, r_239_198, r_239_199, r_239_200, r_239_201, r_239_202, r_239_203, r_239_204, r_239_207, r_239_208, r_239_209, r_239_210, r_239_211, r_239_212, r_239_213, r_239_216, r_239_219, r_239_220, r_239_222, r_239_225, r_239_228, r_239_229, r_239_230, r_239_231, r_239_232, r_239_233, r_239_236, r_239_239, r_239_240, r_239_243, r_239_244, r_239_245, r_239_246, r_239_247, r_239_248, r_239_249, r_239_250, r_239_253, r_239_256, r_239_257, r_239_258, r_239_259, r_239_260, r_239_263, r_239_266, r_239_267, r_239_270, r_239_271, r_239_272, r_239_273, r_239_274, r_239_275, r_239_276, r_239_277, r_239_280, r_239_283, r_239_284, r_239_285, r_239_286, r_239_287, r_239_288, r_239_291, r_239_294, r_239_295, r_239_297, r_239_300, r_239_303, r_239_304, r_239_305, r_239_306, r_239_307, r_239_308, r_239_311, r_239_314, r_239_315, r_239_318, r_239_319, r_239_320, r_239_321, r_239_322, r_239_323, r_239_324, r_239_325, r_239_328, r_239_331, r_239_332, r_239_333, r_239_334, r_239_335, r_239_338, r_239_341, r_239_342, r_239_345, r_239_346, r_239_347, r_239_348, r_239_349, r_239_350, r_239_351, r_239_352, r_239_355, r_239_358, r_239_359, r_239_360, r_239_361, r_239_362, r_239_363, r_239_366, r_239_369, r_239_370, r_239_371, r_239_372, r_239_373, r_239_374, r_239_377, r_239_380, r_239_381, r_239_384, r_239_385, Option.bind_some, Option.bind_none, Option.toList_some, Option.toList_none, List.cons_append, List.nil_append, Option.map_some, Option.map_none, eq_self, if_true, if_false, reduceIte, ai_bi_eq0, ai_bi_eq1, ai_pb_bi, ai_pb_0, ai_pb_1, nI_1, nI_2, nI_3, show ¬ (119 : Int32) = 97 by decide, show ¬ (119 : Int32) = 99 by decide, show ¬ (119 : Int32) = 100 by decide, show ¬ (119 : Int32) = 106 by decide, show ¬ (119 : Int32) = 109 by decide, show ¬ (119 : Int32) = 111 by decide, show ¬ (119 : Int32) = 114 by decide, e1, e2, e3, show ¬ (1 : Int32) = 0 by decide]
  rfl
theorem m_tc_120 (ht : mt w n c) (ha : mp w (p + 1) Q 120 [] wa) (hlt : p + 1 ≤ n) (hQ : Q.length < 35) : mr w Q 120 (kt_s c [0] (p + 1) []) (ai_Run 239 48 [.ref 185, .int (nI (4 * Q.length)), .int 120] [] (wl wa)) := by
  have X1 : mr w Q 120 (kt_i c 0 (p + 1) []) (ai_Call 236 [.ref 185, .int 1, .int (nI (4 * Q.length + 1))] (wl wa)) := m_isD ht ha hlt (s := 0) (by rfl) (by decide) hQ
  have b1 := kt_i_b ht.1 0 hlt []
  have g1 := kt_i_g (c := c) (i := 0) (p := p + 1) (G := [])
  rw [kt_s]
  generalize kt_i c 0 (p + 1) [] = r1 at X1 b1 g1 ⊢
  obtain ⟨t1, p1, G1⟩ := r1
  have q1 : p1 ≤ n ∧ G1.length ≤ 1 := ⟨b1.2.1, b1.2.2⟩
  have u1 : t1 = true → G1.length = 1 := g1.1 (by decide)
  cases t1
  · obtain ⟨w2, e1, j1, j2⟩ := mr_f X1 rfl
    show mr w Q 120 (false, p1, G1) _
    refine ⟨w2, ?_, j1, j2, fun x => by cases x⟩
    simp only [r_239_0, r_239_1, r_239_2, r_239_5, r_239_6, r_239_7, r_239_8, r_239_11, r_239_12, r_239_13, r_239_16, r_239_19, r_239_20, r_239_21, r_239_22, r_239_25, r_239_26, r_239_27, r_239_28, r_239_29, r_239_30, r_239_33, r_239_34, r_239_35, r_239_38, r_239_39, r_239_40, r_239_43, r_239_44, r_239_45, r_239_48, r_239_49, r_239_160, r_239_161, r_239_162, r_239_163, r_239_164, r_239_165, r_239_166, r_239_167, r_239_170, r_239_173, r_239_174, r_239_176, r_239_179, r_239_182, r_239_183, r_239_184, r_239_185, r_239_186, r_239_187, r_239_190, r_239_193, r_239_194, r_239_197, r_239_198, r_239_199, r_239_200, r_239_201, r_239_202, r_239_203, r_239_204, r_239_207, r_239_208, r_239_209, r_239_210, r_239_211, r_239_212, r_239_213, r_239_216, r_239_219, r_239_220, r_239_222, r_239_225, r_239_228, r_239_229, r_239_230, r_239_231, r_239_232, r_239_233, r_239_236, r_239_239, r_239_240, r_239_243, r_239_244, r_239_245, r_239_246, r_239_247, r_239_248, r_239_249, r_239_250, r_239_253, r_239_256, r_239_257, r_239_258, r_239_259, r_239_260, r_239_263, r_239_266, r_239_267, r_239_270, r_239_271, r_239_272, r_239_273, r_239_274, r_239_275, r_239_276, r_239_277, r_239_280, r_239_283, r_239_284, r_239_285, r_239_286, r_239_287, r_239_288, r_239_291, r_239_294, r_239_295, r_239_297, r_239_300, r_239_303, r_239_304, r_239_305, r_239_306, r_239_307, r_239_308, r_239_311, r_239_314, r_239_315, r_239_318, r_239_319, r_239_320, r_239_321, r_239_322, r_239_323, r_239_324, r_239_325, r_239_328, r_239_331, r_239_332, r_239_333, r_239_334, r_239_335, r_239_338, r_239_341, r_239_342, r_239_345, r_239_346, r_239_347, r_239_348, r_239_349, r_239_350, r_239_351, r_239_352, r_239_355, r_239_358, r_239_359, r_239_360, r_239_361, r_239_362, r_239_363, r_239_366, r_239_369, r_239_370, r_239_371, r_239_372, r_239_373, r_239_374, r_239_377, r_239_380, r_239_381, r_239_384, r_239_385, Option.bind_some, Option.bind_none, Option.toList_some, Option.toList_none, List.cons_append, List.nil_append, Option.map_some, Option.map_none, eq_self, if_true, if_false, reduceIte, ai_bi_eq0, ai_bi_eq1, ai_pb_bi, ai_pb_0, ai_pb_1, nI_1, nI_2, nI_3, show ¬ (120 : Int32) = 97 by decide, show ¬ (120 : Int32) = 99 by decide, show ¬ (120 : Int32) = 100 by decide, show ¬ (120 : Int32) = 106 by decide, show ¬ (120 : Int32) = 109 by decide, show ¬ (120 : Int32) = 111 by decide, show ¬ (120 : Int32) = 114 by decide, show ¬ (120 : Int32) = 119 by decide, e1, show ¬ (1 : Int32) = 0 by decide]
    rfl
  obtain ⟨w2, e1, h1⟩ := mr_t X1 rfl
  have u1 := u1 rfl
  rw [if_pos rfl]
  show mr w Q 120 (kt_s c [] p1 G1) _
  rw [kt_s]
  refine ⟨w2, ?_, h1.1, h1.2.1, fun _ => h1⟩
  simp only [r_239_0, r_239_1, r_239_2, r_239_5, r_239_6, r_239_7, r_239_8, r_239_11, r_239_12, r_239_13, r_239_16, r_239_19, r_239_20, r_239_21, r_239_22, r_239_25, r_239_26, r_239_27, r_239_28, r_239_29, r_239_30, r_239_33, r_239_34, r_239_35, r_239_38, r_239_39, r_239_40, r_239_43, r_239_44, r_239_45, r_239_48, r_239_49, r_239_160, r_239_161, r_239_162, r_239_163, r_239_164, r_239_165, r_239_166, r_239_167, r_239_170, r_239_173, r_239_174, r_239_176, r_239_179, r_239_182, r_239_183, r_239_184, r_239_185, r_239_186, r_239_187, r_239_190, r_239_193, r_239_194, r_239_197, r_239_198, r_239_199, r_239_200, r_239_201, r_239_202, r_239_203, r_239_204, r_239_207, r_239_208, r_239_209, r_239_210, r_239_211, r_239_212, r_239_213, r_239_216, r_239_219, r_239_220, r_239_222, r_239_225, r_239_228, r_239_229, r_239_230, r_239_231, r_239_232, r_239_233, r_239_236, r_239_239, r_239_240, r_239_243, r_239_244, r_239_245, r_239_246, r_239_247, r_239_248, r_239_249, r_239_250, r_239_253, r_239_256, r_239_257, r_239_258, r_239_259, r_239_260, r_239_263, r_239_266, r_239_267, r_239_270, r_239_271, r_239_272, r_239_273, r_239_274, r_239_275, r_239_276, r_239_277, r_239_280, r_239_283, r_239_284, r_239_285, r_239_286, r_239_287, r_239_288, r_239_291, r_239_294, r_239_295, r_239_297, r_239_300, r_239_303, r_239_304, r_239_305, r_239_306, r_239_307, r_239_308, r_239_311, r_239_314, r_239_315, r_239_318, r_239_319, r_239_320, r_239_321, r_239_322, r_239_323, r_239_324, r_239_325, r_239_328, r_239_331, r_239_332, r_239_333, r_239_334, r_239_335, r_239_338, r_239_341, r_239_342, r_239_345, r_239_346, r_239_347, r_239_348, r_239_349, r_239_350, r_239_351, r_239_352, r_239_355, r_239_358, r_239_359, r_239_360, r_239_361, r_239_362, r_239_363, r_239_366, r_239_369, r_239_370, r_239_371, r_239_372, r_239_373, r_239_374, r_239_377, r_239_380, r_239_381, r_239_384, r_239_385, Option.bind_some, Option.bind_none, Option.toList_some, Option.toList_none, List.cons_append, List.nil_append, Option.map_some, Option.map_none, eq_self, if_true, if_false, reduceIte, ai_bi_eq0, ai_bi_eq1, ai_pb_bi, ai_pb_0, ai_pb_1, nI_1, nI_2, nI_3, show ¬ (120 : Int32) = 97 by decide, show ¬ (120 : Int32) = 99 by decide, show ¬ (120 : Int32) = 100 by decide, show ¬ (120 : Int32) = 106 by decide, show ¬ (120 : Int32) = 109 by decide, show ¬ (120 : Int32) = 111 by decide, show ¬ (120 : Int32) = 114 by decide, show ¬ (120 : Int32) = 119 by decide, e1, show ¬ (1 : Int32) = 0 by decide]
  rfl
theorem m_isKind_t (ws : ai_W) (h : kt_g k ≠ none) : ai_Call 235 [.int (nI k)] ws = some (some (.int 1), ws) := by
  unfold kt_g at h
  by_cases d1 : k = 97
  · subst d1
    simp only [show nI 97 = 97 from rfl, e_235, r_235_0, r_235_1, r_235_3, r_235_6, r_235_7, r_235_9, r_235_12, r_235_13, r_235_15, r_235_18, r_235_19, r_235_21, r_235_24, r_235_25, r_235_27, r_235_30, r_235_31, r_235_33, r_235_36, r_235_37, r_235_39, r_235_42, r_235_43, r_235_45, r_235_48, r_235_49, r_235_51, r_235_54, r_235_55, r_235_57, r_235_60, r_235_61, r_235_64, r_235_65, Option.bind_some, Option.bind_none, Option.toList_some, Option.toList_none, List.cons_append, List.nil_append, Option.map_some, Option.map_none, eq_self, if_true, if_false, reduceIte, ai_bi_eq0, ai_bi_eq1, ai_pb_bi, ai_pb_0, ai_pb_1, show ¬ (97 : Int32) = 99 by decide]
  by_cases d2 : k = 99
  · subst d2
    simp only [show nI 99 = 99 from rfl, e_235, r_235_0, r_235_1, r_235_3, r_235_6, r_235_7, r_235_9, r_235_12, r_235_13, r_235_15, r_235_18, r_235_19, r_235_21, r_235_24, r_235_25, r_235_27, r_235_30, r_235_31, r_235_33, r_235_36, r_235_37, r_235_39, r_235_42, r_235_43, r_235_45, r_235_48, r_235_49, r_235_51, r_235_54, r_235_55, r_235_57, r_235_60, r_235_61, r_235_64, r_235_65, Option.bind_some, Option.bind_none, Option.toList_some, Option.toList_none, List.cons_append, List.nil_append, Option.map_some, Option.map_none, eq_self, if_true, if_false, reduceIte, ai_bi_eq0, ai_bi_eq1, ai_pb_bi, ai_pb_0, ai_pb_1]
  by_cases d3 : k = 100
  · subst d3
    simp only [show nI 100 = 100 from rfl, e_235, r_235_0, r_235_1, r_235_3, r_235_6, r_235_7, r_235_9, r_235_12, r_235_13, r_235_15, r_235_18, r_235_19, r_235_21, r_235_24, r_235_25, r_235_27, r_235_30, r_235_31, r_235_33, r_235_36, r_235_37, r_235_39, r_235_42, r_235_43, r_235_45, r_235_48, r_235_49, r_235_51, r_235_54, r_235_55, r_235_57, r_235_60, r_235_61, r_235_64, r_235_65, Option.bind_some, Option.bind_none, Option.toList_some, Option.toList_none, List.cons_append, List.nil_append, Option.map_some, Option.map_none, eq_self, if_true, if_false, reduceIte, ai_bi_eq0, ai_bi_eq1, ai_pb_bi, ai_pb_0, ai_pb_1, show ¬ (100 : Int32) = 99 by decide, show ¬ (100 : Int32) = 97 by decide]
  by_cases d4 : k = 106
  · subst d4
    simp only [show nI 106 = 106 from rfl, e_235, r_235_0, r_235_1, r_235_3, r_235_6, r_235_7, r_235_9, r_235_12, r_235_13, r_235_15, r_235_18, r_235_19, r_235_21, r_235_24, r_235_25, r_235_27, r_235_30, r_235_31, r_235_33, r_235_36, r_235_37, r_235_39, r_235_42, r_235_43, r_235_45, r_235_48, r_235_49, r_235_51, r_235_54, r_235_55, r_235_57, r_235_60, r_235_61, r_235_64, r_235_65, Option.bind_some, Option.bind_none, Option.toList_some, Option.toList_none, List.cons_append, List.nil_append, Option.map_some, Option.map_none, eq_self, if_true, if_false, reduceIte, ai_bi_eq0, ai_bi_eq1, ai_pb_bi, ai_pb_0, ai_pb_1, show ¬ (106 : Int32) = 99 by decide, show ¬ (106 : Int32) = 97 by decide, show ¬ (106 : Int32) = 100 by decide, show ¬ (106 : Int32) = 114 by decide, show ¬ (106 : Int32) = 120 by decide, show ¬ (106 : Int32) = 119 by decide, show ¬ (106 : Int32) = 111 by decide, show ¬ (106 : Int32) = 109 by decide]
  by_cases d5 : k = 109
  · subst d5
    simp only [show nI 109 = 109 from rfl, e_235, r_235_0, r_235_1, r_235_3, r_235_6, r_235_7, r_235_9, r_235_12, r_235_13, r_235_15, r_235_18, r_235_19, r_235_21, r_235_24, r_235_25, r_235_27, r_235_30, r_235_31, r_235_33, r_235_36, r_235_37, r_235_39, r_235_42, r_235_43, r_235_45, r_235_48, r_235_49, r_235_51, r_235_54, r_235_55, r_235_57, r_235_60, r_235_61, r_235_64, r_235_65, Option.bind_some, Option.bind_none, Option.toList_some, Option.toList_none, List.cons_append, List.nil_append, Option.map_some, Option.map_none, eq_self, if_true, if_false, reduceIte, ai_bi_eq0, ai_bi_eq1, ai_pb_bi, ai_pb_0, ai_pb_1, show ¬ (109 : Int32) = 99 by decide, show ¬ (109 : Int32) = 97 by decide, show ¬ (109 : Int32) = 100 by decide, show ¬ (109 : Int32) = 114 by decide, show ¬ (109 : Int32) = 120 by decide, show ¬ (109 : Int32) = 119 by decide, show ¬ (109 : Int32) = 111 by decide]
  by_cases d6 : k = 111
  · subst d6
    simp only [show nI 111 = 111 from rfl, e_235, r_235_0, r_235_1, r_235_3, r_235_6, r_235_7, r_235_9, r_235_12, r_235_13, r_235_15, r_235_18, r_235_19, r_235_21, r_235_24, r_235_25, r_235_27, r_235_30, r_235_31, r_235_33, r_235_36, r_235_37, r_235_39, r_235_42, r_235_43, r_235_45, r_235_48, r_235_49, r_235_51, r_235_54, r_235_55, r_235_57, r_235_60, r_235_61, r_235_64, r_235_65, Option.bind_some, Option.bind_none, Option.toList_some, Option.toList_none, List.cons_append, List.nil_append, Option.map_some, Option.map_none, eq_self, if_true, if_false, reduceIte, ai_bi_eq0, ai_bi_eq1, ai_pb_bi, ai_pb_0, ai_pb_1, show ¬ (111 : Int32) = 99 by decide, show ¬ (111 : Int32) = 97 by decide, show ¬ (111 : Int32) = 100 by decide, show ¬ (111 : Int32) = 114 by decide, show ¬ (111 : Int32) = 120 by decide, show ¬ (111 : Int32) = 119 by decide]
  by_cases d7 : k = 114
  · subst d7
    simp only [show nI 114 = 114 from rfl, e_235, r_235_0, r_235_1, r_235_3, r_235_6, r_235_7, r_235_9, r_235_12, r_235_13, r_235_15, r_235_18, r_235_19, r_235_21, r_235_24, r_235_25, r_235_27, r_235_30, r_235_31, r_235_33, r_235_36, r_235_37, r_235_39, r_235_42, r_235_43, r_235_45, r_235_48, r_235_49, r_235_51, r_235_54, r_235_55, r_235_57, r_235_60, r_235_61, r_235_64, r_235_65, Option.bind_some, Option.bind_none, Option.toList_some, Option.toList_none, List.cons_append, List.nil_append, Option.map_some, Option.map_none, eq_self, if_true, if_false, reduceIte, ai_bi_eq0, ai_bi_eq1, ai_pb_bi, ai_pb_0, ai_pb_1, show ¬ (114 : Int32) = 99 by decide, show ¬ (114 : Int32) = 97 by decide, show ¬ (114 : Int32) = 100 by decide]
  by_cases d8 : k = 116
  · subst d8
    simp only [show nI 116 = 116 from rfl, e_235, r_235_0, r_235_1, r_235_3, r_235_6, r_235_7, r_235_9, r_235_12, r_235_13, r_235_15, r_235_18, r_235_19, r_235_21, r_235_24, r_235_25, r_235_27, r_235_30, r_235_31, r_235_33, r_235_36, r_235_37, r_235_39, r_235_42, r_235_43, r_235_45, r_235_48, r_235_49, r_235_51, r_235_54, r_235_55, r_235_57, r_235_60, r_235_61, r_235_64, r_235_65, Option.bind_some, Option.bind_none, Option.toList_some, Option.toList_none, List.cons_append, List.nil_append, Option.map_some, Option.map_none, eq_self, if_true, if_false, reduceIte, ai_bi_eq0, ai_bi_eq1, ai_pb_bi, ai_pb_0, ai_pb_1, show ¬ (116 : Int32) = 99 by decide, show ¬ (116 : Int32) = 97 by decide, show ¬ (116 : Int32) = 100 by decide, show ¬ (116 : Int32) = 114 by decide, show ¬ (116 : Int32) = 120 by decide, show ¬ (116 : Int32) = 119 by decide, show ¬ (116 : Int32) = 111 by decide, show ¬ (116 : Int32) = 109 by decide, show ¬ (116 : Int32) = 106 by decide]
  by_cases d9 : k = 119
  · subst d9
    simp only [show nI 119 = 119 from rfl, e_235, r_235_0, r_235_1, r_235_3, r_235_6, r_235_7, r_235_9, r_235_12, r_235_13, r_235_15, r_235_18, r_235_19, r_235_21, r_235_24, r_235_25, r_235_27, r_235_30, r_235_31, r_235_33, r_235_36, r_235_37, r_235_39, r_235_42, r_235_43, r_235_45, r_235_48, r_235_49, r_235_51, r_235_54, r_235_55, r_235_57, r_235_60, r_235_61, r_235_64, r_235_65, Option.bind_some, Option.bind_none, Option.toList_some, Option.toList_none, List.cons_append, List.nil_append, Option.map_some, Option.map_none, eq_self, if_true, if_false, reduceIte, ai_bi_eq0, ai_bi_eq1, ai_pb_bi, ai_pb_0, ai_pb_1, show ¬ (119 : Int32) = 99 by decide, show ¬ (119 : Int32) = 97 by decide, show ¬ (119 : Int32) = 100 by decide, show ¬ (119 : Int32) = 114 by decide, show ¬ (119 : Int32) = 120 by decide]
  by_cases d10 : k = 120
  · subst d10
    simp only [show nI 120 = 120 from rfl, e_235, r_235_0, r_235_1, r_235_3, r_235_6, r_235_7, r_235_9, r_235_12, r_235_13, r_235_15, r_235_18, r_235_19, r_235_21, r_235_24, r_235_25, r_235_27, r_235_30, r_235_31, r_235_33, r_235_36, r_235_37, r_235_39, r_235_42, r_235_43, r_235_45, r_235_48, r_235_49, r_235_51, r_235_54, r_235_55, r_235_57, r_235_60, r_235_61, r_235_64, r_235_65, Option.bind_some, Option.bind_none, Option.toList_some, Option.toList_none, List.cons_append, List.nil_append, Option.map_some, Option.map_none, eq_self, if_true, if_false, reduceIte, ai_bi_eq0, ai_bi_eq1, ai_pb_bi, ai_pb_0, ai_pb_1, show ¬ (120 : Int32) = 99 by decide, show ¬ (120 : Int32) = 97 by decide, show ¬ (120 : Int32) = 100 by decide, show ¬ (120 : Int32) = 114 by decide]
  rw [if_neg d1, if_neg d2, if_neg d3, if_neg d4, if_neg d5, if_neg d6, if_neg d7, if_neg d8, if_neg d9, if_neg d10] at h
  exact absurd rfl h
theorem m_isKind_f (ws : ai_W) (hk : k < 1000) (h : kt_g k = none) : ai_Call 235 [.int (ms_c k)] ws = some (some (.int 0), ws) := by
  have ne : ∀ j, 0 < j → j < 1000 → ¬ k = j → ¬ ms_c k = nI j := fun j h0 hj y z => y ((ms_c_eq hk h0 hj).mp z)
  have g : ∀ j, kt_g j ≠ none → ¬ k = j := fun j hj y => hj (by rw [← y]; exact h)
  have f1 : ¬ ms_c k = 97 := ne 97 (by decide) (by decide) (g 97 (by decide))
  have f2 : ¬ ms_c k = 99 := ne 99 (by decide) (by decide) (g 99 (by decide))
  have f3 : ¬ ms_c k = 100 := ne 100 (by decide) (by decide) (g 100 (by decide))
  have f4 : ¬ ms_c k = 106 := ne 106 (by decide) (by decide) (g 106 (by decide))
  have f5 : ¬ ms_c k = 109 := ne 109 (by decide) (by decide) (g 109 (by decide))
  have f6 : ¬ ms_c k = 111 := ne 111 (by decide) (by decide) (g 111 (by decide))
  have f7 : ¬ ms_c k = 114 := ne 114 (by decide) (by decide) (g 114 (by decide))
  have f8 : ¬ ms_c k = 116 := ne 116 (by decide) (by decide) (g 116 (by decide))
  have f9 : ¬ ms_c k = 119 := ne 119 (by decide) (by decide) (g 119 (by decide))
  have f10 : ¬ ms_c k = 120 := ne 120 (by decide) (by decide) (g 120 (by decide))
  simp only [e_235, r_235_0, r_235_1, r_235_3, r_235_6, r_235_7, r_235_9, r_235_12, r_235_13, r_235_15, r_235_18, r_235_19, r_235_21, r_235_24, r_235_25, r_235_27, r_235_30, r_235_31, r_235_33, r_235_36, r_235_37, r_235_39, r_235_42, r_235_43, r_235_45, r_235_48, r_235_49, r_235_51, r_235_54, r_235_55, r_235_57, r_235_60, r_235_61, r_235_64, r_235_65, Option.bind_some, Option.bind_none, Option.toList_some, Option.toList_none, List.cons_append, List.nil_append, Option.map_some, Option.map_none, eq_self, if_true, if_false, reduceIte, ai_bi_eq0, ai_bi_eq1, ai_pb_bi, ai_pb_0, ai_pb_1, f1, f2, f3, f4, f5, f6, f7, f8, f9, f10]
theorem km_st_new {f : Nat → Int32} (h : km_st f Q) (hlen : ∀ i q, Q[i]? = some q → i < Q.length) (k : Nat) : km_st (upd f (4 * Q.length) (nI k)) (Q ++ [(k, [])]) := by
  intro i q hq
  rcases Nat.lt_trichotomy i Q.length with z | z | z
  · rw [List.getElem?_append_left z] at hq
    have h1 := h i q hq
    refine ⟨?_, fun j b hj hb => ?_⟩
    · rw [upd_ne _ (by omega)]; exact h1.1
    · rw [upd_ne _ (by omega)]; exact h1.2 j b hj hb
  · subst z
    have e : q = (k, []) := by simpa using hq.symm
    subst e
    rw [upd_at]
    exact ⟨rfl, fun j b hj hb => absurd hb (by simp)⟩
  · rw [List.getElem?_eq_none (by rw [List.length_append, List.length_singleton]; omega)] at hq
    exact absurd hq (by simp)
theorem m_rc0 (ht : mt w n c) (h : mq w p Q w1) (hp : p ≤ n) (hQ : Q.length < 35) (hg : kt_g (c p) ≠ none) (h0 : 0 < c p) : ∃ w2, ai_Call 239 [.ref 185] (wl w1) = ai_Run 239 48 [.ref 185, .int (nI (4 * Q.length)), .int (nI (c p))] [] (wl w2) ∧ mp w (p + 1) Q (c p) [] w2 := by
  have ea := m_signHere (mt_of h.1 ht) hp h.2.1
  rw [ms_c_n h0] at ea
  have ek := m_isKind_t (wl w1) hg
  obtain ⟨wa, ea1, ha1, ha2, ha3, ha4⟩ : ∃ wa, ai_aset (wl w1) 192 (nI (4 * Q.length)) (nI (c p)) = some (wl wa) ∧ mpo wa = mpo w ∧ xm_he wa = nI p ∧ xm_cm wa = nI Q.length ∧ km_st (xm_cmds wa) (Q ++ [(c p, [])]) := by
    refine ⟨xm_wcmds w1 (upd (xm_cmds w1) (4 * Q.length) (nI (c p))), ?_, (mpo_cs _ _).trans h.1, h.2.1, h.2.2.1, km_st_new h.2.2.2 (fun i q hq => (List.getElem?_eq_some_iff.mp hq).1) _⟩
    rw [as_192, ai_ix_nI (by omega) (by decide)]
    rfl
  obtain ⟨wb, eb1, hb1, hb2, hb3, hb4⟩ : ∃ wb, ai_fput (wl wa) 185 11 14 (.int (nI (p + 1))) = some (wl wb) ∧ mpo wb = mpo w ∧ xm_he wb = nI (p + 1) ∧ xm_cm wb = nI Q.length ∧ km_st (xm_cmds wb) (Q ++ [(c p, [])]) := ⟨xm_whe wa (nI (p + 1)), p_185_14 _ _, (mpo_he _ _).trans ha1, rfl, ha3, ha4⟩
  obtain ⟨wc, ec1, hc1⟩ : ∃ wc, ai_fput (wl wb) 185 11 15 (.int (nI (Q.length + 1))) = some (wl wc) ∧ mp w (p + 1) Q (c p) [] wc := ⟨xm_wcm wb (nI (Q.length + 1)), p_185_15 _ _, (mpo_cm _ _).trans hb1, hb2, rfl, hb4⟩
  refine ⟨wc, ?_, hc1⟩
  have e4 : (4 : Int32) * nI Q.length = nI (4 * Q.length) := pk_mul 4 _
  simp only [e_239, o_185, r_239_0, r_239_1, r_239_2, r_239_5, r_239_6, r_239_7, r_239_8, r_239_11, r_239_12, r_239_13, r_239_16, r_239_19, r_239_20, r_239_21, r_239_22, r_239_25, r_239_26, r_239_27, r_239_28, r_239_29, r_239_30, r_239_33, r_239_34, r_239_35, r_239_38, r_239_39, r_239_40, r_239_43, r_239_44, r_239_45, Option.bind_some, Option.bind_none, Option.toList_some, Option.toList_none, List.cons_append, List.nil_append, Option.map_some, Option.map_none, eq_self, if_true, if_false, reduceIte, ai_bi_eq0, ai_bi_eq1, ai_pb_bi, ai_pb_0, ai_pb_1, f_185_15, h.2.2.1, e4, ea, ek, show ¬ (1 : Int32) = 0 by decide, f_185_12, ea1, f_185_14, ha2, nI_1, eb1, hb3, ec1]
theorem m_readsCommand (ht : mt w n c) (h : mq w p Q w1) (hp : p ≤ n) (hQ : 2 * Q.length ≤ p) : mr w Q (c p) (kt_c c p) (ai_Call 239 [.ref 185] (wl w1)) := by
  have h126 := kt_c127 ht.1 p
  have hn := ht.1.1
  unfold kt_c
  cases hg : kt_g (c p) with
  | none =>
    have ea := m_signHere (mt_of h.1 ht) hp h.2.1
    have ek := m_isKind_f (wl w1) (k := c p) (by omega) hg
    refine ⟨w1, ?_, h.1, h.2.1, fun z => by cases z⟩
    simp only [e_239, o_185, r_239_0, r_239_1, r_239_2, r_239_5, r_239_6, r_239_7, r_239_8, r_239_11, r_239_12, r_239_13, r_239_16, r_239_19, r_239_20, r_239_21, r_239_22, r_239_25, r_239_26, r_239_27, r_239_28, r_239_29, r_239_30, r_239_33, r_239_34, r_239_35, r_239_38, r_239_39, r_239_40, r_239_43, r_239_44, r_239_45, Option.bind_some, Option.bind_none, Option.toList_some, Option.toList_none, List.cons_append, List.nil_append, Option.map_some, Option.map_none, eq_self, if_true, if_false, reduceIte, ai_bi_eq0, ai_bi_eq1, ai_pb_bi, ai_pb_0, ai_pb_1, f_185_15, ea, ek]
    rfl
  | some l =>
    show mr w Q (c p) (kt_s c l (p + 1) []) _
    have h0 := kt_g_0 hg
    have hlt : p + 1 ≤ n := kt_lt ht.1 h0
    have hQ5 : Q.length < 35 := by omega
    obtain ⟨w2, e2, h2⟩ := m_rc0 ht h hp hQ5 (by rw [hg]; intro z; cases z) h0
    rw [e2]
    generalize hk : c p = k at h2 hg ⊢
    unfold kt_g at hg
    by_cases d1 : k = 97
    · rw [if_pos d1] at hg; cases hg; subst d1; exact m_tc_97 ht h2 hlt hQ5
    rw [if_neg d1] at hg
    by_cases d2 : k = 99
    · rw [if_pos d2] at hg; cases hg; subst d2; exact m_tc_99 ht h2 hlt hQ5
    rw [if_neg d2] at hg
    by_cases d3 : k = 100
    · rw [if_pos d3] at hg; cases hg; subst d3; exact m_tc_100 ht h2 hlt hQ5
    rw [if_neg d3] at hg
    by_cases d4 : k = 106
    · rw [if_pos d4] at hg; cases hg; subst d4; exact m_tc_106 ht h2 hlt hQ5
    rw [if_neg d4] at hg
    by_cases d5 : k = 109
    · rw [if_pos d5] at hg; cases hg; subst d5; exact m_tc_109 ht h2 hlt hQ5
    rw [if_neg d5] at hg
    by_cases d6 : k = 111
    · rw [if_pos d6] at hg; cases hg; subst d6; exact m_tc_111 ht h2 hlt hQ5
    rw [if_neg d6] at hg
    by_cases d7 : k = 114
    · rw [if_pos d7] at hg; cases hg; subst d7; exact m_tc_114 ht h2 hlt hQ5
    rw [if_neg d7] at hg
    by_cases d8 : k = 116
    · rw [if_pos d8] at hg; cases hg; subst d8; exact m_tc_116 ht h2 hlt hQ5
    rw [if_neg d8] at hg
    by_cases d9 : k = 119
    · rw [if_pos d9] at hg; cases hg; subst d9; exact m_tc_119 ht h2 hlt hQ5
    rw [if_neg d9] at hg
    by_cases d10 : k = 120
    · rw [if_pos d10] at hg; cases hg; subst d10; exact m_tc_120 ht h2 hlt hQ5
    rw [if_neg d10] at hg
    cases hg
theorem m_isHereq (ht : mt w n c) (h : mq w p Q w1) (hp : p ≤ n) : (c p = 59 → ∃ w2, ai_Call 234 [.ref 185, .int 59] (wl w1) = some (some (.int 1), wl w2) ∧ mq w (p + 1) Q w2) ∧ (¬ c p = 59 → ∃ w2, ai_Call 234 [.ref 185, .int 59] (wl w1) = some (some (.int 0), wl w2) ∧ mq w p Q w2) := by
  have ea := m_signHere (mt_of h.1 ht) hp h.2.1
  have h126 := kt_c127 ht.1 p
  have e59 : (ms_c (c p) = 59) ↔ c p = 59 := ms_c_eq (x := 59) (by omega) (by decide) (by decide)
  constructor
  · intro z
    have c1 := e59.mpr z
    refine ⟨xm_whe w1 (nI (p + 1)), ?_, (mpo_he _ _).trans h.1, rfl, h.2.2.1, h.2.2.2⟩
    simp only [e_234, o_185, r_234_0, r_234_1, r_234_4, r_234_5, r_234_8, r_234_9, r_234_12, r_234_13, r_234_14, r_234_15, r_234_16, r_234_19, r_234_20, r_234_23, r_234_24, r_234_27, r_234_28, r_234_29, r_234_32, r_234_33, Option.bind_some, Option.bind_none, Option.toList_some, Option.toList_none, List.cons_append, List.nil_append, Option.map_some, Option.map_none, eq_self, if_true, if_false, reduceIte, ai_bi_eq0, ai_bi_eq1, ai_pb_bi, ai_pb_0, ai_pb_1, ea, c1, f_185_14, h.2.1, nI_1, p_185_14, show ¬ (1 : Int32) = 0 by decide]
  · intro z
    have c1 : ¬ ms_c (c p) = 59 := fun y => z (e59.mp y)
    refine ⟨xm_whe w1 (nI p), ?_, (mpo_he _ _).trans h.1, rfl, h.2.2.1, h.2.2.2⟩
    simp only [e_234, o_185, r_234_0, r_234_1, r_234_4, r_234_5, r_234_8, r_234_9, r_234_12, r_234_13, r_234_14, r_234_15, r_234_16, r_234_19, r_234_20, r_234_23, r_234_24, r_234_27, r_234_28, r_234_29, r_234_32, r_234_33, Option.bind_some, Option.bind_none, Option.toList_some, Option.toList_none, List.cons_append, List.nil_append, Option.map_some, Option.map_none, eq_self, if_true, if_false, reduceIte, ai_bi_eq0, ai_bi_eq1, ai_pb_bi, ai_pb_0, ai_pb_1, ea, c1, f_185_14, h.2.1, nI_a0, p_185_14]
theorem m_isText_loop (ht : mt w n c) : ∀ (f i p : Nat) (Q : List kt_C) (w1 : xw_W) (R : Option (Option Value × ai_W)), (∀ b w2, ai_Call 239 [.ref 185] (wl w1) = some (some (.int b), wl w2) → R = ai_Run 240 15 [.ref 185, .int b] [] (wl w2)) → i + f = 35 → Q.length = i → mq w p Q w1 → p ≤ n → 2 * i ≤ p → ∃ w2, R = some (some (.int (ai_bi (kt_a c n f p).1.isSome)), wl w2) ∧ mpo w2 = mpo w ∧ (∀ l, (kt_a c n f p).1 = some l → xm_cm w2 = nI (Q.length + l.length) ∧ km_st (xm_cmds w2) (Q ++ l)) ∧ ((kt_a c n f p).1 = none → xm_he w2 = nI (kt_a c n f p).2) := by
  intro f
  induction f with
  | zero =>
    intro i p Q w1 R hR hi hQ h hp h2
    have hn := ht.1.1
    have X := m_readsCommand ht h hp (by omega)
    have e0 : c p = 0 := ht.1.2.2 p (by omega)
    have er : kt_c c p = (false, p, []) := by unfold kt_c; rw [e0]; rfl
    rw [er] at X
    obtain ⟨w2, e2, h3, h4⟩ := mr_f X rfl
    refine ⟨w2, ?_, h3, fun l hl => (by cases hl), fun _ => h4⟩
    rw [hR _ _ e2, r_240_15]
    simp only [r_240_0, r_240_1, r_240_2, r_240_5, r_240_6, r_240_7, r_240_10, r_240_11, r_240_14, r_240_16, r_240_19, r_240_20, r_240_22, r_240_25, r_240_28, r_240_29, r_240_32, r_240_33, r_240_36, r_240_37, r_240_40, r_240_41, r_240_44, r_240_45, r_240_48, r_240_51, r_240_52, r_240_55, r_240_56, Option.bind_some, Option.bind_none, Option.toList_some, Option.toList_none, List.cons_append, List.nil_append, Option.map_some, Option.map_none, eq_self, if_true, if_false, reduceIte, ai_bi_eq0, ai_bi_eq1, ai_pb_bi, ai_pb_0, ai_pb_1]
    rfl
  | succ f ih =>
    intro i p Q w1 R hR hi hQ h hp h2i
    have hn := ht.1.1
    have X := m_readsCommand ht h hp (by omega)
    have hb := kt_c_b ht.1 hp
    rw [kt_a]
    generalize kt_c c p = r at X hb ⊢
    obtain ⟨t, q, G⟩ := r
    obtain ⟨-, hb, hb3⟩ := hb
    have hqn : q ≤ n := hb
    have hq3 : t = true → p < q := hb3
    cases t
    · obtain ⟨w2, e2, h3, h4⟩ := mr_f X rfl
      rw [if_neg (show ¬ (false = true) from Bool.false_ne_true)]
      refine ⟨w2, ?_, h3, fun l hl => (by cases hl), fun _ => h4⟩
      rw [hR _ _ e2, r_240_15]
      simp only [r_240_0, r_240_1, r_240_2, r_240_5, r_240_6, r_240_7, r_240_10, r_240_11, r_240_14, r_240_16, r_240_19, r_240_20, r_240_22, r_240_25, r_240_28, r_240_29, r_240_32, r_240_33, r_240_36, r_240_37, r_240_40, r_240_41, r_240_44, r_240_45, r_240_48, r_240_51, r_240_52, r_240_55, r_240_56, Option.bind_some, Option.bind_none, Option.toList_some, Option.toList_none, List.cons_append, List.nil_append, Option.map_some, Option.map_none, eq_self, if_true, if_false, reduceIte, ai_bi_eq0, ai_bi_eq1, ai_pb_bi, ai_pb_0, ai_pb_1]
      rfl
    · obtain ⟨w2, e2, h2⟩ := mr_t X rfl
      have hb3 := hq3 rfl
      rw [if_pos rfl, hR _ _ e2]
      have h3 : mq w q (Q ++ [(c p, G)]) w2 := ⟨h2.1, h2.2.1, by rw [List.length_append]; exact h2.2.2.1, h2.2.2.2⟩
      obtain ⟨T, F⟩ := m_isHereq ht h3 hqn
      show ∃ w3, ai_Run 240 15 [.ref 185, .int 1] [] (wl w2) = some (some (Value.int (ai_bi (if q = n then (some [(c p, G)], q) else if c q = 59 then ((kt_a c n f (q + 1)).1.map fun l => (c p, G) :: l, (kt_a c n f (q + 1)).2) else (none, q)).1.isSome)), wl w3) ∧ mpo w3 = mpo w ∧ (∀ l, (if q = n then (some [(c p, G)], q) else if c q = 59 then ((kt_a c n f (q + 1)).1.map fun l => (c p, G) :: l, (kt_a c n f (q + 1)).2) else (none, q)).1 = some l → _) ∧ ((if q = n then (some [(c p, G)], q) else if c q = 59 then ((kt_a c n f (q + 1)).1.map fun l => (c p, G) :: l, (kt_a c n f (q + 1)).2) else (none, q)).1 = none → xm_he w3 = nI (if q = n then (some [(c p, G)], q) else if c q = 59 then ((kt_a c n f (q + 1)).1.map fun l => (c p, G) :: l, (kt_a c n f (q + 1)).2) else (none, q)).2)
      by_cases d1 : q = n
      · rw [if_pos d1]
        have d1' : nI q = nI n := by rw [d1]
        obtain ⟨w3, e3, h4⟩ := F (by rw [d1, ht.1.2.2 n (Nat.le_refl _)]; decide)
        have h4p := h4.2.1
        have h4l := (mt_of h4.1 ht).2.1
        refine ⟨w3, ?_, h4.1, fun l hl => ?_, fun hl => by cases hl⟩
        · rw [r_240_15]
          simp only [r_240_0, r_240_1, r_240_2, r_240_5, r_240_6, r_240_7, r_240_10, r_240_11, r_240_14, r_240_16, r_240_19, r_240_20, r_240_22, r_240_25, r_240_28, r_240_29, r_240_32, r_240_33, r_240_36, r_240_37, r_240_40, r_240_41, r_240_44, r_240_45, r_240_48, r_240_51, r_240_52, r_240_55, r_240_56, Option.bind_some, Option.bind_none, Option.toList_some, Option.toList_none, List.cons_append, List.nil_append, Option.map_some, Option.map_none, eq_self, if_true, if_false, reduceIte, ai_bi_eq0, ai_bi_eq1, ai_pb_bi, ai_pb_0, ai_pb_1, show ¬ (1 : Int32) = 0 by decide, e3, f_185_13, f_185_14, h4p, h4l, d1']
          rfl
        · have el : l = [(c p, G)] := by simpa using hl.symm
          subst el
          exact ⟨h4.2.2.1.trans (by rw [List.length_append]), h4.2.2.2⟩
      · rw [if_neg d1]
        have d1' : ¬ nI q = nI n := fun y => d1 ((nI_eq (by omega) (by omega)).mp y)
        by_cases d2 : c q = 59
        · rw [if_pos d2]
          obtain ⟨w4, e4, h4⟩ := T d2
          have hlt := kt_lt ht.1 (p := q) (by omega)
          obtain ⟨w5, e5, h5, h6, h7⟩ := ih (i + 1) (q + 1) (Q ++ [(c p, G)]) w4 (ai_Run 240 15 [.ref 185, .int 1] [] (wl w2)) (fun b w9 e9 => by
            rw [r_240_15]
            simp only [r_240_0, r_240_1, r_240_2, r_240_5, r_240_6, r_240_7, r_240_10, r_240_11, r_240_14, r_240_16, r_240_19, r_240_20, r_240_22, r_240_25, r_240_28, r_240_29, r_240_32, r_240_33, r_240_36, r_240_37, r_240_40, r_240_41, r_240_44, r_240_45, r_240_48, r_240_51, r_240_52, r_240_55, r_240_56, Option.bind_some, Option.bind_none, Option.toList_some, Option.toList_none, List.cons_append, List.nil_append, Option.map_some, Option.map_none, eq_self, if_true, if_false, reduceIte, ai_bi_eq0, ai_bi_eq1, ai_pb_bi, ai_pb_0, ai_pb_1, show ¬ (1 : Int32) = 0 by decide, e4, e9]) (by omega) (by rw [List.length_append, List.length_singleton, hQ]) h4 hlt (by omega)
          refine ⟨w5, ?_, h5, fun l hl => ?_, fun hl => ?_⟩
          · rw [e5]
            cases (kt_a c n f (q + 1)).1 <;> rfl
          · cases hr : (kt_a c n f (q + 1)).1 with
            | none => rw [hr] at hl; cases hl
            | some m =>
              rw [hr] at hl
              have el : l = (c p, G) :: m := by simpa using hl.symm
              subst el
              obtain ⟨k1, k2⟩ := h6 m hr
              refine ⟨k1.trans ?_, by simpa using k2⟩
              simp only [List.length_append, List.length_cons, List.length_nil]
              congr 1
              omega
          · cases hr : (kt_a c n f (q + 1)).1 with
            | none => exact h7 hr
            | some m => rw [hr] at hl; cases hl
        · rw [if_neg d2]
          obtain ⟨w3, e3, h4⟩ := F d2
          have h4p := h4.2.1
          have h4l := (mt_of h4.1 ht).2.1
          refine ⟨w3, ?_, h4.1, fun l hl => (by cases hl), fun _ => h4p⟩
          rw [r_240_15]
          simp only [r_240_0, r_240_1, r_240_2, r_240_5, r_240_6, r_240_7, r_240_10, r_240_11, r_240_14, r_240_16, r_240_19, r_240_20, r_240_22, r_240_25, r_240_28, r_240_29, r_240_32, r_240_33, r_240_36, r_240_37, r_240_40, r_240_41, r_240_44, r_240_45, r_240_48, r_240_51, r_240_52, r_240_55, r_240_56, Option.bind_some, Option.bind_none, Option.toList_some, Option.toList_none, List.cons_append, List.nil_append, Option.map_some, Option.map_none, eq_self, if_true, if_false, reduceIte, ai_bi_eq0, ai_bi_eq1, ai_pb_bi, ai_pb_0, ai_pb_1, show ¬ (1 : Int32) = 0 by decide, e3, f_185_13, f_185_14, h4p, h4l, d1']
          rfl
theorem m_isText (ht : mt w n c) : ∃ w2, ai_Call 240 [.ref 185] (wl w) = some (some (.int (ai_bi (kt_a c n 35 0).1.isSome)), wl w2) ∧ mpo w2 = mpo w ∧ (∀ l, (kt_a c n 35 0).1 = some l → xm_cm w2 = nI l.length ∧ km_st (xm_cmds w2) l) ∧ ((kt_a c n 35 0).1 = none → xm_he w2 = nI (kt_a c n 35 0).2) := by
  obtain ⟨w0, ea, eb, h0⟩ : ∃ w0, ai_fput (wl w) 185 11 14 (.int 0) = some (wl (xm_whe w 0)) ∧ ai_fput (wl (xm_whe w 0)) 185 11 15 (.int 0) = some (wl w0) ∧ mq w 0 [] w0 := ⟨xm_wcm (xm_whe w 0) 0, p_185_14 _ _, p_185_15 _ _, rfl, rfl, rfl, fun i q hq => absurd hq (by simp)⟩
  obtain ⟨w2, e2, h2, h3, h4⟩ := m_isText_loop ht 35 0 0 [] w0 (ai_Call 240 [.ref 185] (wl w)) (fun b w9 e9 => by
    simp only [e_240, o_185, r_240_0, r_240_1, r_240_2, r_240_5, r_240_6, r_240_7, r_240_10, r_240_11, r_240_14, r_240_16, r_240_19, r_240_20, r_240_22, r_240_25, r_240_28, r_240_29, r_240_32, r_240_33, r_240_36, r_240_37, r_240_40, r_240_41, r_240_44, r_240_45, r_240_48, r_240_51, r_240_52, r_240_55, r_240_56, Option.bind_some, Option.bind_none, Option.toList_some, Option.toList_none, List.cons_append, List.nil_append, Option.map_some, Option.map_none, eq_self, if_true, if_false, reduceIte, ai_bi_eq0, ai_bi_eq1, ai_pb_bi, ai_pb_0, ai_pb_1, ea, eb, e9]) rfl rfl h0 (Nat.zero_le _) (Nat.zero_le _)
  refine ⟨w2, e2, h2, fun l hl => ?_, h4⟩
  obtain ⟨k1, k2⟩ := h3 l hl
  exact ⟨k1.trans (by rw [List.length_nil, Nat.zero_add]), k2⟩
end READ
