/-! The law's numbers from the script; a text read; cells behind that only grow. -/
theorem and_pos (x : Int32) : ∃ a, a < 2 ^ 31 ∧ x &&& 2147483647 = nI a := by
  have h : ¬ (x &&& 2147483647) < 0 := by
    rw [Int32.lt_iff_toInt_lt]
    have e : (x &&& 2147483647).toBitVec.msb = false := by
      rw [Int32.toBitVec_and, BitVec.msb_and]
      simp only [Bool.and_eq_false_imp]
      intro _
      decide
    rw [BitVec.msb_eq_toInt] at e
    have := of_decide_eq_false e
    exact this
  obtain ⟨a, ha, e⟩ := nI_of h
  exact ⟨a, ha, e⟩
/-- the script: at most 2^31 - 1 numbers -/
def scr (k : Nat) : Prop := 24 ≤ k ∧ (ai_dec (k - 24)).length < 2 ^ 31
theorem l_cell {k : Nat} (hk : scr k) {i : Nat} (hi : i < 2 ^ 31) (ws : ai_W) : ∃ v, ai_Call 163 [.retAddr k, .int (nI i)] ws = some (some (.int v), ws) := by
  obtain ⟨h1, h2⟩ := hk
  have xl : ai_xlen k = some (nI (ai_dec (k - 24)).length) := by unfold ai_xlen; rw [if_pos h1]; rfl
  have nk : ¬ k = 23 := by omega
  by_cases z : i < (ai_dec (k - 24)).length
  · have c1 : nI i < nI (ai_dec (k - 24)).length := nI_lt z h2
    have xa : ai_xaget k (nI i) = some ((ai_dec (k - 24)).getD i 0) := by
      unfold ai_xaget
      rw [if_pos h1, ai_ix_nI z h2]
      rfl
    simp only [ex_163, r_163_0, r_163_2, r_163_3, rx_163_3, r_163_4, rx_163_4, r_163_5, r_163_8, rx_163_8, r_163_9, r_163_10, rx_163_10, r_163_11, r_163_14, r_163_15, r_163_18, r_163_19, r_163_20, r_163_21, r_163_22, r_163_25, r_163_26, r_163_27, r_163_28, r_163_29, r_163_31, r_163_32, r_163_33, r_163_35, r_163_36, r_163_37, r_163_38, r_163_39, r_163_41, r_163_42, r_163_43, Option.bind_some, Option.bind_none, Option.toList_some, Option.toList_none, List.cons_append, List.nil_append, Option.map_some, Option.map_none, eq_self, if_true, if_false, reduceIte, ai_bi_eq0, ai_bi_eq1, ai_pb_bi, ai_pb_0, ai_pb_1, nk, not_false_eq_true, xl, c1, xa]
    exact ⟨_, rfl⟩
  · have c1 : ¬ nI i < nI (ai_dec (k - 24)).length := nI_nlt (by omega) hi
    simp only [ex_163, r_163_0, r_163_2, r_163_3, rx_163_3, r_163_4, rx_163_4, r_163_5, r_163_8, rx_163_8, r_163_9, r_163_10, rx_163_10, r_163_11, r_163_14, r_163_15, r_163_18, r_163_19, r_163_20, r_163_21, r_163_22, r_163_25, r_163_26, r_163_27, r_163_28, r_163_29, r_163_31, r_163_32, r_163_33, r_163_35, r_163_36, r_163_37, r_163_38, r_163_39, r_163_41, r_163_42, r_163_43, Option.bind_some, Option.bind_none, Option.toList_some, Option.toList_none, List.cons_append, List.nil_append, Option.map_some, Option.map_none, eq_self, if_true, if_false, reduceIte, ai_bi_eq0, ai_bi_eq1, ai_pb_bi, ai_pb_0, ai_pb_1, nk, not_false_eq_true, xl, c1]
    exact ⟨_, rfl⟩
theorem l_in {k : Nat} (hk : scr k) {i n : Nat} (hi : i < 2 ^ 31) (h0 : 0 < n) (hn : n < 2 ^ 31) (ws : ai_W) : ∃ r, r < n ∧ ai_Call 164 [.retAddr k, .int (nI i), .int (nI n)] ws = some (some (.int (nI r)), ws) := by
  obtain ⟨v, hv⟩ := l_cell hk hi ws
  obtain ⟨a, ha, e⟩ := and_pos v
  have nk : ¬ k = 23 := by have := hk.1; omega
  have nz : ¬ nI n = 0 := fun z => by
    have := (nI_eq (a := n) (b := 0) hn (by decide)).mp z
    omega
  refine ⟨a % n, Nat.mod_lt _ h0, ?_⟩
  have er : nI a - nI a / nI n * nI n = nI (a % n) := pk_rem ha h0 hn
  simp only [ex_164, r_164_0, rx_164_0, r_164_1, r_164_2, r_164_5, r_164_7, r_164_8, r_164_9, r_164_10, Option.bind_some, Option.bind_none, Option.toList_some, Option.toList_none, List.cons_append, List.nil_append, Option.map_some, Option.map_none, eq_self, if_true, if_false, reduceIte, ai_bi_eq0, ai_bi_eq1, ai_pb_bi, ai_pb_0, ai_pb_1, nk, not_false_eq_true, hv, e, nz, er]
theorem l_isError (a : Int32) (ws : ai_W) : ai_Call 199 [.int a] ws = some (some (.int (ai_bi (decide (a < 0 ∧ ¬ a = -4)))), ws) := by
  by_cases c1 : a < 0
  · by_cases c2 : a = -4
    · subst c2
      simp only [e_199, r_199_0, r_199_1, r_199_4, r_199_5, r_199_7, r_199_10, r_199_11, r_199_14, r_199_15, Option.bind_some, Option.bind_none, Option.toList_some, Option.toList_none, List.cons_append, List.nil_append, Option.map_some, Option.map_none, eq_self, if_true, if_false, reduceIte, ai_bi_eq0, ai_bi_eq1, ai_pb_bi, ai_pb_0, ai_pb_1, show (-4 : Int32) < 0 by decide, not_true_eq_false, and_false, decide_false]
      rfl
    · simp only [e_199, r_199_0, r_199_1, r_199_4, r_199_5, r_199_7, r_199_10, r_199_11, r_199_14, r_199_15, Option.bind_some, Option.bind_none, Option.toList_some, Option.toList_none, List.cons_append, List.nil_append, Option.map_some, Option.map_none, eq_self, if_true, if_false, reduceIte, ai_bi_eq0, ai_bi_eq1, ai_pb_bi, ai_pb_0, ai_pb_1, c1, c2, not_false_eq_true, and_self, decide_true]
      rfl
  · simp only [e_199, r_199_0, r_199_1, r_199_4, r_199_5, r_199_7, r_199_10, r_199_11, r_199_14, r_199_15, Option.bind_some, Option.bind_none, Option.toList_some, Option.toList_none, List.cons_append, List.nil_append, Option.map_some, Option.map_none, eq_self, if_true, if_false, reduceIte, ai_bi_eq0, ai_bi_eq1, ai_pb_bi, ai_pb_0, ai_pb_1, c1, false_and, decide_false]
    rfl
theorem pe_is {a : Int32} (h : pe a) : decide (a < 0 ∧ ¬ a = -4) = true := by
  refine decide_eq_true ⟨?_, fun e => ?_⟩
  · rw [Int32.lt_iff_toInt_lt]; exact h.1
  · rw [e] at h; exact h.2.1 (by decide)
theorem pf_is {a : Int32} (h : pf a) : decide (a < 0 ∧ ¬ a = -4) = false := by
  refine decide_eq_false fun ⟨h1, h2⟩ => ?_
  rw [Int32.lt_iff_toInt_lt] at h1
  have h1 : a.toInt < 0 := h1
  rcases h with z | z
  · exact h2 (Int32.toInt_inj.mp (by rw [z]; decide))
  · omega
theorem pd_bound {w w2 : xw_W} {B : kb_B} {L : List kb_B} {a : Int32} (h : pd w w2 B L a) : -200 ≤ a.toInt ∧ a.toInt < 64 := by
  rcases h.2 with ⟨z, -⟩ | ⟨z, -⟩
  · exact ⟨z.2.2, by have := z.1; omega⟩
  · rcases z with y | y <;> omega
/-- cells that grow behind: n more, none of more than 260 numbers -/
def gw (ws0 ws : ai_W) (n : Nat) : Prop := ∃ K, ws = ws0 ++ K ∧ K.length = n ∧ ∀ (j : Nat) (c : ai_C), K[j]? = some c → ai_sz c ≤ 260
theorem gw_len {ws0 ws : ai_W} {n : Nat} (h : gw ws0 ws n) : ws.length = ws0.length + n := by
  obtain ⟨K, e, h1, -⟩ := h
  rw [e, List.length_append, h1]
theorem gw_0 (ws : ai_W) : gw ws ws 0 := ⟨[], (List.append_nil _).symm, rfl, fun j c h => (by cases h)⟩
theorem gw_app {ws0 ws : ai_W} {n : Nat} (h : gw ws0 ws n) {K : ai_W} (hK : ∀ c, c ∈ K → ai_sz c ≤ 260) : gw ws0 (ws ++ K) (n + K.length) := by
  obtain ⟨M, e, h1, h2⟩ := h
  refine ⟨M ++ K, by rw [e, List.append_assoc], by rw [List.length_append, h1], fun j c hj => ?_⟩
  by_cases z : j < M.length
  · rw [List.getElem?_append_left z] at hj
    exact h2 j c hj
  · rw [List.getElem?_append_right (by omega)] at hj
    exact hK c (List.mem_iff_getElem?.mpr ⟨_, hj⟩)
theorem gw_sm {ws0 ws ws2 : ai_W} {n p q : Nat} {t : List Nat} (h : gw ws0 ws n) (hp : ws0.length ≤ p) (hq : ws0.length ≤ q) (hs : sb ws2 p q t) (hm : sm p q ws ws2) : gw ws0 ws2 n := by
  obtain ⟨M, e, h1, h2⟩ := h
  obtain ⟨m1, m2⟩ := hm
  have ht : ws2.take ws0.length = ws0 := by
    refine List.ext_getElem? fun j => ?_
    rw [List.getElem?_take]
    by_cases z : j < ws0.length
    · rw [if_pos z, m2 j (by omega) (by omega), e, List.getElem?_append_left z]
    · rw [if_neg z, List.getElem?_eq_none (by omega)]
  refine ⟨ws2.drop ws0.length, ?_, ?_, fun j c hj => ?_⟩
  · have := List.take_append_drop ws0.length ws2
    rw [ht] at this
    exact this.symm
  · rw [List.length_drop, m1, e, List.length_append, h1]
    omega
  · rw [List.getElem?_drop] at hj
    obtain ⟨-, s1, -, fs, s2, s3⟩ := hs
    by_cases z1 : ws0.length + j = p
    · rw [z1, s1] at hj
      rw [← Option.some.inj hj]
      show 4 ≤ 260
      omega
    · by_cases z2 : ws0.length + j = q
      · rw [z2, s2] at hj
        rw [← Option.some.inj hj]
        show fs.length ≤ 260
        rw [s3.1]
        omega
      · rw [m2 _ z1 z2, e, List.getElem?_append_right (by omega), Nat.add_sub_cancel_left] at hj
        exact h2 j c hj
theorem sb_sm {ws ws2 : ai_W} {p q p2 q2 : Nat} {t : List Nat} (h : sb ws p q t) (hm : sm p2 q2 ws ws2) (h1 : p ≠ p2 ∧ p ≠ q2 ∧ q ≠ p2 ∧ q ≠ q2) : sb ws2 p q t := by
  obtain ⟨a1, a2, a3, fs, a4, a5⟩ := h
  exact ⟨a1, (hm.2 p h1.1 h1.2.1).trans a2, a3, fs, (hm.2 q h1.2.2.1 h1.2.2.2).trans a4, a5⟩
theorem stg_sm {ws ws2 : ai_W} {p q p2 q2 : Nat} {t : List Nat} (h : stg ws p q t) (hm : sm p2 q2 ws ws2) (h1 : p ≠ p2 ∧ p ≠ q2 ∧ q ≠ p2 ∧ q ≠ q2) : stg ws2 p q t := by
  obtain ⟨a2, a1, a3, fs, a4, a5⟩ := h
  exact ⟨(hm.2 p h1.1 h1.2.1).trans a2, a1, a3, fs, (hm.2 q h1.2.2.1 h1.2.2.2).trans a4, a5⟩
theorem wl_at (w w' : xw_W) (J : ai_W) {r : Nat} (hr : 185 ≤ r) : (wl w' ++ J)[r]? = (wl w ++ J)[r]? := by
  rw [List.getElem?_append_right (by rw [wl_len]; exact hr), List.getElem?_append_right (by rw [wl_len]; exact hr), wl_len, wl_len]
theorem stg_w {w : xw_W} {J : ai_W} {r s : Nat} {u : List Nat} (h : stg (wl w ++ J) r s u) (hr : 185 ≤ r) (hs : 185 ≤ s) (w' : xw_W) : stg (wl w' ++ J) r s u := by
  obtain ⟨a2, a1, a3, fs, a4, a5⟩ := h
  exact ⟨(wl_at w w' J hr).trans a2, a1, a3, fs, (wl_at w w' J hs).trans a4, a5⟩
def ro (w : xw_W) := (xw_b w, xw_hi w, xw_sn w, xw_hn w, xw_hm w, xw_hs w)
theorem l_reads {w : xw_W} {B : kb_B} {L : List kb_B} (h : pq w B L) {J : ai_W} {r s : Nat} {u : List Nat} (hst : stg (wl w ++ J) r s u) (hr : 185 ≤ r) (hs : 185 ≤ s) : ∃ a w2, ai_Call 197 [.ref 0, .ref r] (wl w ++ J) = some (some (.int a), wl w2 ++ J) ∧ pd w w2 B L a := by
  obtain ⟨hk, hx, hh, htl⟩ := h
  have hu := hst.2.2.1
  have hl := hst.2.1
  let Q : Option (Option Value × ai_W) → Prop := fun x => ∃ a w2, x = some (some (.int a), wl w2 ++ J) ∧ pd w w2 B L a
  show Q _
  have hsum : ∀ n, n ≤ 16 → kb_s (fun j => j + 1) n ≤ 136 := by
    intro n hn
    have : ∀ m, m ≤ 16 → kb_s (fun j => j + 1) m ≤ 136 := by decide
    exact this n hn
  have loop : ∀ w1, ro w1 = ro w → xw_tl w1 = nI 0 → (∀ j c, j < 0 → u[j]? = some c → xw_co w1 j = nI c) → Q (ai_Run 197 4 [.ref 0, .ref r, .int (nI (kb_s (fun j => j + 1) 0)), .int (nI 0)] [] (wl w1 ++ J)) := by
    refine lp_d (P := fun i => ∀ w1, ro w1 = ro w → xw_tl w1 = nI i → (∀ j c, j < i → u[j]? = some c → xw_co w1 j = nI c) → Q (ai_Run 197 4 [.ref 0, .ref r, .int (nI (kb_s (fun j => j + 1) i)), .int (nI i)] [] (wl w1 ++ J))) u.length (fun i hi hP w1 h1 h2 h3 => ?_) (fun w1 h1 h2 h3 => ?_)
    · have c1 : nI i < nI u.length := nI_lt hi (by omega)
      have hc : u[i]? = some u[i] := List.getElem?_eq_getElem hi
      have hcc := hu u[i] (List.getElem_mem hi)
      have st1 := stg_w hst hr hs w1
      have el := (s_1len st1).2
      have ec := a_charAt st1 hc
      have ea := fr_wl (p_append (w := w1) h2 (by omega) hcc.1 hcc.2) J
      have hP := hP (xw_wtl (xw_wco w1 (upd (xw_co w1) i (nI u[i]))) (nI (i + 1))) h1 rfl (fun j c hj hjc => by
        show upd (xw_co w1) i (nI u[i]) j = nI c
        by_cases z : j = i
        · subst z
          rw [upd_at]
          rw [hc] at hjc
          rw [Option.some.inj hjc]
        · rw [upd_ne _ z]
          exact h3 j c (by omega) hjc)
      have es : nI (kb_s (fun j => j + 1) (i + 1)) = nI (kb_s (fun j => j + 1) i) + nI (i + 1) := by rw [kb_s, nI_add]
      rw [es] at hP
      rw [r_197_4]
      simp only [r_197_0, r_197_1, r_197_2, r_197_3, r_197_5, rx_197_5, r_197_6, r_197_9, r_197_12, r_197_13, rx_197_13, r_197_14, rx_197_14, r_197_15, r_197_16, r_197_19, r_197_22, r_197_23, r_197_24, r_197_27, r_197_30, r_197_31, r_197_34, r_197_36, r_197_39, rx_197_39, r_197_40, r_197_43, Option.bind_some, Option.bind_none, Option.toList_some, Option.toList_none, List.cons_append, List.nil_append, Option.map_some, Option.map_none, eq_self, if_true, if_false, reduceIte, ai_bi_eq0, ai_bi_eq1, ai_pb_bi, ai_pb_0, ai_pb_1, el, c1, ec, ea, nI_1]
      exact hP
    · have c1 : ¬ nI u.length < nI u.length := nI_nlt (Nat.le_refl _) (by omega)
      have el := (s_1len (stg_w hst hr hs w1)).2
      have hsm := hsum u.length hl
      have c2 : ¬ nI (kb_s (fun j => j + 1) u.length) < 0 := nI_pos (by omega)
      have hxt : xt w1 u.length (fun j => u.getD j 0) := by
        refine ⟨⟨by omega, fun j hj => ?_, fun j hj => ?_⟩, h2, fun j hj => ?_⟩
        · have e : u.getD j 0 = u[j] := by rw [List.getD_eq_getElem?_getD, List.getElem?_eq_getElem hj]; rfl
          show 32 ≤ u.getD j 0 ∧ u.getD j 0 ≤ 126
          rw [e]
          exact hu _ (List.getElem_mem hj)
        · show u.getD j 0 = 0
          rw [List.getD_eq_getElem?_getD, List.getElem?_eq_none hj]
          rfl
        · have e : u[j]? = some u[j] := List.getElem?_eq_getElem hj
          rw [h3 j u[j] hj e]
          show nI u[j] = nI (u.getD j 0)
          rw [List.getD_eq_getElem?_getD, e]
          rfl
      have hb : xw_b w1 = xw_b w := congrArg (fun x => x.1) h1
      have hph : ph w1 L := by
        obtain ⟨p1, p2, p, p3, p4, p5⟩ := hh
        refine ⟨p1, (congrArg (fun x => x.2.2.2.2.1) h1).trans p2, p, p3, (congrArg (fun x => x.2.2.2.1) h1).trans p4, ?_⟩
        rw [show xw_hi w1 = xw_hi w from congrArg (fun x => x.2.1) h1]
        exact p5
      obtain ⟨a, w2, e2, d1, d2⟩ := p_read hxt hk (by rw [hb]; exact hx) hph
      have e2 := fr_wl e2 J
      rw [r_197_4]
      simp only [r_197_0, r_197_1, r_197_2, r_197_3, r_197_5, rx_197_5, r_197_6, r_197_9, r_197_12, r_197_13, rx_197_13, r_197_14, rx_197_14, r_197_15, r_197_16, r_197_19, r_197_22, r_197_23, r_197_24, r_197_27, r_197_30, r_197_31, r_197_34, r_197_36, r_197_39, rx_197_39, r_197_40, r_197_43, Option.bind_some, Option.bind_none, Option.toList_some, Option.toList_none, List.cons_append, List.nil_append, Option.map_some, Option.map_none, eq_self, if_true, if_false, reduceIte, ai_bi_eq0, ai_bi_eq1, ai_pb_bi, ai_pb_0, ai_pb_1, el, c1, c2, e2]
      refine ⟨a, w2, rfl, d1.trans ?_, d2⟩
      exact congrArg (fun x => (x.2.2.2.2.2, x.2.2.1)) h1
  simp only [e_197, r_197_0, r_197_1, r_197_2, r_197_3, r_197_5, rx_197_5, r_197_6, r_197_9, r_197_12, r_197_13, rx_197_13, r_197_14, rx_197_14, r_197_15, r_197_16, r_197_19, r_197_22, r_197_23, r_197_24, r_197_27, r_197_30, r_197_31, r_197_34, r_197_36, r_197_39, rx_197_39, r_197_40, r_197_43, Option.bind_some, Option.bind_none, Option.toList_some, Option.toList_none, List.cons_append, List.nil_append, Option.map_some, Option.map_none, eq_self, if_true, if_false, reduceIte, ai_bi_eq0, ai_bi_eq1, ai_pb_bi, ai_pb_0, ai_pb_1]
  exact loop w rfl htl (fun j c hj => absurd hj (Nat.not_lt_zero _))
