/-! The law walked. -/
theorem pq_xo {w w1 : xw_W} {B : kb_B} {L : List kb_B} (e : xo w1 = xo w) (h : pq w B L) : pq w1 B L := by
  obtain ⟨hk, hx, ⟨a1, a2, p, a3, a4, a5⟩, ht⟩ := h
  refine ⟨hk, by rw [xo_b e]; exact hx, ⟨a1, (congrArg (fun x => x.1.2.2.2.2.2.2.2.2.2.1) e).trans a2, p, a3, (congrArg (fun x => x.1.2.2.2.2.2.2.2.2.1) e).trans a4, ?_⟩, (congrArg (fun x => x.1.2.2.2.2.2.2.2.2.2.2.2.2.2.2.1) e).trans ht⟩
  rw [show xw_hi w1 = xw_hi w from congrArg (fun x => x.1.2.2.2.2.2.2.1) e]
  exact a5
theorem ps_xo {w w1 : xw_W} (e : xo w1 = xo w) : ps w1 = ps w := congrArg (fun x => (x.1.2.2.2.2.2.2.2.2.2.2.1, x.1.2.2.2.2.2.2.2.1)) e
def jj (J : ai_W) (n : Nat) : Prop := J.length ≤ n ∧ ∀ (j : Nat) (c : ai_C), J[j]? = some c → ai_sz c ≤ 260
theorem jj_app {J K : ai_W} {n m : Nat} (h : jj J n) (h1 : K.length ≤ m) (h2 : ∀ (j : Nat) (c : ai_C), K[j]? = some c → ai_sz c ≤ 260) : jj (J ++ K) (n + m) := by
  refine ⟨by rw [List.length_append]; have := h.1; omega, fun j c hj => ?_⟩
  by_cases z : j < J.length
  · rw [List.getElem?_append_left z] at hj
    exact h.2 j c hj
  · rw [List.getElem?_append_right (by omega)] at hj
    exact h2 _ c hj
theorem jj_sn {J : ai_W} {n : Nat} (h : jj J n) (B : kb_B) : jj (J ++ [Sum.inl (sn B)]) (n + 1) := by
  refine jj_app h (Nat.le_refl _) (fun j c hj => ?_)
  match j, hj with
  | 0, hj =>
    rw [← Option.some.inj hj]
    show (sn B).length ≤ 260
    rw [sn_len]
    omega
  | j + 1, hj => cases hj
theorem sl_small : ∀ (J : ai_W), (∀ (j : Nat) (c : ai_C), J[j]? = some c → ai_sz c ≤ 260) → ai_sl J ≤ 260 * J.length := by
  intro J
  induction J with
  | nil => intro _; exact Nat.le_refl _
  | cons c J ih =>
    intro h
    have h1 := h 0 c rfl
    have h2 := ih (fun j d hj => h (j + 1) d hj)
    unfold ai_sl at h2 ⊢
    rw [List.map_cons, List.sum_cons, List.length_cons]
    omega
theorem sl_app (w : xw_W) {J : ai_W} {n : Nat} (h : jj J n) : (wl w ++ J).length ≤ 185 + n ∧ ai_sl (wl w ++ J) ≤ 2540 + 260 * n := by
  have h1 := sl_small J h.2
  have h2 := wl_sl w
  have h3 := h.1
  refine ⟨by rw [List.length_append, wl_len]; omega, ?_⟩
  unfold ai_sl at h1 h2 ⊢
  rw [List.map_append, List.sum_append]
  omega
theorem at_JK (w : xw_W) (J K : ai_W) (c : ai_C) : (wl w ++ (J ++ [c] ++ K))[185 + J.length]? = some c := by
  rw [List.getElem?_append_right (by rw [wl_len]; omega), wl_len, Nat.add_sub_cancel_left, List.append_assoc, List.getElem?_append_right (Nat.le_refl _), Nat.sub_self]
  rfl
/-- seen again, and alike -/
theorem l_again {w : xw_W} {B : kb_B} {L : List kb_B} (h : pq w B L) (J K : ai_W) : ∃ w1, ai_Call 201 [.ref 0] (wl w ++ (J ++ [Sum.inl (sn B)] ++ K)) = some (some (.ref (185 + (J ++ [Sum.inl (sn B)] ++ K).length)), wl w1 ++ (J ++ [Sum.inl (sn B)] ++ (K ++ [Sum.inl (sn B)]))) ∧ ai_Call 162 [.ref (185 + J.length), .ref (185 + (J ++ [Sum.inl (sn B)] ++ K).length)] (wl w1 ++ (J ++ [Sum.inl (sn B)] ++ (K ++ [Sum.inl (sn B)]))) = some (some (.int 1), wl w1 ++ (J ++ [Sum.inl (sn B)] ++ (K ++ [Sum.inl (sn B)]))) ∧ xo w1 = xo w := by
  obtain ⟨w1, e, hx⟩ := l_seen h.2.1 h.1.1 (J ++ [Sum.inl (sn B)] ++ K)
  rw [List.append_assoc (J ++ [Sum.inl (sn B)])] at e
  refine ⟨w1, e, l_areAlike (at_JK w1 J (K ++ [Sum.inl (sn B)]) _) ?_ (sn_len B), hx⟩
  rw [← List.append_assoc (J ++ [Sum.inl (sn B)])]
  exact at_J w1 _ _
def lwf (r : Option (Option Value × ai_W)) : Prop := ∃ ws1, r = some (some (.int 1), ws1) ∧ ws1.length ≤ 1000 ∧ ai_sl ws1 ≤ 300000
theorem ne_of_b {a : Int32} (h : -200 ≤ a.toInt) : ¬ a = -99999 := by
  intro e
  rw [e] at h
  exact absurd h (by decide)
section LW
variable {k : Nat}
theorem lw_round (hk : scr k) {w : xw_W} {B : kb_B} {L : List kb_B} (h : pq w B L) {J : ai_W} {i : Nat} (hi : i < 8) {m : Nat} (hJ : jj J m) (v3 v4 : Value) : ∃ w2 B2 L2 J2 u3 u4, ai_Run 202 20 [.retAddr k, .ref 0, .int (nI i), v3, v4] [] (wl w ++ J) = ai_Run 202 20 [.retAddr k, .ref 0, .int (nI (i + 1)), u3, u4] [] (wl w2 ++ J2) ∧ pq w2 B2 L2 ∧ jj J2 (m + 14) := by
  have nk : ¬ k = 23 := by have := hk.1; omega
  have c1 : nI i < 8 := nI_lt (b := 8) hi (by decide)
  obtain ⟨w1, e1, x1⟩ := l_seen h.2.1 h.1.1 J
  have h1 := pq_xo x1 h
  obtain ⟨a, w2, K, e2, hd, k1, k2⟩ := l_does (k := k) hk (i := 48 + 4 * i) (by omega) h1 (J ++ [Sum.inl (sn B)])
  have hb := pd_bound hd
  have na := ne_of_b hb.1
  have en : (48 : Int32) + 4 * nI i = nI (48 + 4 * i) := by rw [show (4 : Int32) * nI i = nI (4 * i) from pk_mul 4 i]; exact nI_add 48 (4 * i)
  have hJ2 := jj_app (jj_sn hJ B) k1 k2
  rcases hd.2 with ⟨hp, h2⟩ | ⟨hp, B2, h2⟩
  · have e3 := fr_wl (l_isWell h2.2.1 h2.1) (J ++ [Sum.inl (sn B)] ++ K)
    have e4 := fr_wl (s_account h2.2.1 h2.1.1 9) (J ++ [Sum.inl (sn B)] ++ K)
    rw [(q_23 B _ _).2.2.2.2.1, h2.2.2.2] at e4
    obtain ⟨w3, e5, e6, x3⟩ := l_again h2 J K
    have e7 := fun ws => l_isError a ws
    rw [pe_is hp] at e7
    have e7 : ∀ ws, ai_Call 199 [.int a] ws = some (some (.int 1), ws) := e7
    refine ⟨w3, B, L, J ++ [Sum.inl (sn B)] ++ (K ++ [Sum.inl (sn B)]), .ref (185 + J.length), .int a, ?_, pq_xo x3 h2, ?_⟩
    · rw [r_202_20]
      simp only [r_202_21, r_202_23, r_202_26, rx_202_26, r_202_27, r_202_30, r_202_31, rx_202_31, r_202_32, rx_202_32, r_202_33, r_202_35, r_202_36, r_202_37, r_202_38, r_202_39, r_202_42, r_202_44, r_202_46, r_202_48, r_202_51, rx_202_51, r_202_52, r_202_55, r_202_58, rx_202_58, r_202_59, r_202_61, r_202_64, r_202_67, r_202_69, r_202_72, r_202_75, rx_202_75, r_202_76, rx_202_76, r_202_77, r_202_80, r_202_83, r_202_86, r_202_87, r_202_88, r_202_90, r_202_93, r_202_96, rx_202_96, r_202_97, r_202_99, r_202_100, r_202_101, r_202_102, r_202_105, r_202_108, rx_202_108, r_202_109, r_202_112, r_202_115, rx_202_115, r_202_116, rx_202_116, r_202_117, r_202_120, r_202_123, r_202_126, r_202_127, r_202_128, r_202_131, Option.bind_some, Option.bind_none, Option.toList_some, Option.toList_none, List.cons_append, List.nil_append, Option.map_some, Option.map_none, eq_self, if_true, if_false, reduceIte, ai_bi_eq0, ai_bi_eq1, ai_pb_bi, ai_pb_0, ai_pb_1, nk, not_false_eq_true, c1, en, e1, e2, na, e3, e4, e5, e6, e7, nI_1, show ¬ (1 : Int32) = 0 by decide]
    · rw [← List.append_assoc]
      exact jj_sn hJ2 B
  · have e3 := fr_wl (l_isWell h2.2.1 h2.1) (J ++ [Sum.inl (sn B)] ++ K)
    have e4 := fr_wl (s_account h2.2.1 h2.1.1 9) (J ++ [Sum.inl (sn B)] ++ K)
    rw [(q_23 B2 _ _).2.2.2.2.1, h2.2.2.2] at e4
    have e7 := fun ws => l_isError a ws
    rw [pf_is hp] at e7
    have e7 : ∀ ws, ai_Call 199 [.int a] ws = some (some (.int 0), ws) := e7
    obtain ⟨x, hx, e8⟩ := l_in hk (i := 81 + i) (n := 5) (by omega) (by decide) (by decide) (wl w2 ++ (J ++ [Sum.inl (sn B)] ++ K))
    have e8 : ai_Call 164 [.retAddr k, .int (nI (81 + i)), .int 5] (wl w2 ++ (J ++ [Sum.inl (sn B)] ++ K)) = some (some (.int (nI x)), wl w2 ++ (J ++ [Sum.inl (sn B)] ++ K)) := e8
    have ei : (81 : Int32) + nI i = nI (81 + i) := nI_add 81 i
    by_cases z : nI x = 0
    · have h3 : pq w2 B2 (B :: L.take 7) := h2
      have hl7 : (L.take 7).length ≤ 7 := by rw [List.length_take]; omega
      obtain ⟨w4, e9, -, h4⟩ := p_undo h3
      have e9 := fr_wl e9 (J ++ [Sum.inl (sn B)] ++ K)
      have c9 : ¬ nI (L.take 7).length < 0 := nI_pos (by omega)
      obtain ⟨w3, e5, e6, x3⟩ := l_again h4 J K
      refine ⟨w3, B, L.take 7, J ++ [Sum.inl (sn B)] ++ (K ++ [Sum.inl (sn B)]), .ref (185 + J.length), .int a, ?_, pq_xo x3 h4, ?_⟩
      · rw [r_202_20]
        simp only [r_202_21, r_202_23, r_202_26, rx_202_26, r_202_27, r_202_30, r_202_31, rx_202_31, r_202_32, rx_202_32, r_202_33, r_202_35, r_202_36, r_202_37, r_202_38, r_202_39, r_202_42, r_202_44, r_202_46, r_202_48, r_202_51, rx_202_51, r_202_52, r_202_55, r_202_58, rx_202_58, r_202_59, r_202_61, r_202_64, r_202_67, r_202_69, r_202_72, r_202_75, rx_202_75, r_202_76, rx_202_76, r_202_77, r_202_80, r_202_83, r_202_86, r_202_87, r_202_88, r_202_90, r_202_93, r_202_96, rx_202_96, r_202_97, r_202_99, r_202_100, r_202_101, r_202_102, r_202_105, r_202_108, rx_202_108, r_202_109, r_202_112, r_202_115, rx_202_115, r_202_116, rx_202_116, r_202_117, r_202_120, r_202_123, r_202_126, r_202_127, r_202_128, r_202_131, Option.bind_some, Option.bind_none, Option.toList_some, Option.toList_none, List.cons_append, List.nil_append, Option.map_some, Option.map_none, eq_self, if_true, if_false, reduceIte, ai_bi_eq0, ai_bi_eq1, ai_pb_bi, ai_pb_0, ai_pb_1, nk, not_false_eq_true, c1, en, e1, e2, na, e3, e4, e7, ei, e8, z, e9, c9, e5, e6, nI_1, show ¬ (1 : Int32) = 0 by decide]
      · rw [← List.append_assoc]
        exact jj_sn hJ2 B
    · refine ⟨w2, B2, _, J ++ [Sum.inl (sn B)] ++ K, .ref (185 + J.length), .int a, ?_, h2, ?_⟩
      · rw [r_202_20]
        simp only [r_202_21, r_202_23, r_202_26, rx_202_26, r_202_27, r_202_30, r_202_31, rx_202_31, r_202_32, rx_202_32, r_202_33, r_202_35, r_202_36, r_202_37, r_202_38, r_202_39, r_202_42, r_202_44, r_202_46, r_202_48, r_202_51, rx_202_51, r_202_52, r_202_55, r_202_58, rx_202_58, r_202_59, r_202_61, r_202_64, r_202_67, r_202_69, r_202_72, r_202_75, rx_202_75, r_202_76, rx_202_76, r_202_77, r_202_80, r_202_83, r_202_86, r_202_87, r_202_88, r_202_90, r_202_93, r_202_96, rx_202_96, r_202_97, r_202_99, r_202_100, r_202_101, r_202_102, r_202_105, r_202_108, rx_202_108, r_202_109, r_202_112, r_202_115, rx_202_115, r_202_116, rx_202_116, r_202_117, r_202_120, r_202_123, r_202_126, r_202_127, r_202_128, r_202_131, Option.bind_some, Option.bind_none, Option.toList_some, Option.toList_none, List.cons_append, List.nil_append, Option.map_some, Option.map_none, eq_self, if_true, if_false, reduceIte, ai_bi_eq0, ai_bi_eq1, ai_pb_bi, ai_pb_0, ai_pb_1, nk, not_false_eq_true, c1, en, e1, e2, na, e3, e4, e7, ei, e8, z, nI_1, show ¬ (1 : Int32) = 0 by decide]
      · exact ⟨by have := hJ2.1; omega, hJ2.2⟩
-- numbers of the end
def sm2 (a : Int32) : Prop := -200 ≤ a.toInt ∧ a.toInt < 64
theorem sm_nI {n : Nat} (h : n < 64) : sm2 (nI n) := by
  unfold sm2
  rw [nI_toInt (by omega)]
  omega
theorem sm_bi (c : Bool) : sm2 (ai_bi c) := by cases c <;> (unfold sm2; decide)
theorem sm_m {a : Int32} (h : a = -1 ∨ a = -2) : sm2 a := by rcases h with rfl | rfl <;> (unfold sm2; decide)
theorem sm_20 (B : kb_B) (x y z : Int32) : sm2 (kb_q20 B x y z) := by
  unfold kb_q20
  split
  · split
    · exact sm_m (Or.inr rfl)
    · exact sm_nI (by have := kb_votes7 B (kb_w B x.toNatClampNeg y.toNatClampNeg z.toNatClampNeg); omega)
  · exact sm_m (Or.inl rfl)
theorem sm_21 (B : kb_B) (u v x y z : Int32) : sm2 (kb_q21 B u v x y z) := by
  unfold kb_q21
  repeat' split
  all_goals first | exact sm_bi _ | exact sm_m (Or.inl rfl) | exact sm_m (Or.inr rfl)
theorem sm_fst (f : Nat → Bool) : ∀ n i, i + n ≤ 8 → sm2 (kb_fst f n i) := by
  intro n
  induction n with
  | zero => intro i _; exact sm_m (Or.inl rfl)
  | succ n ih =>
    intro i hi
    rw [kb_fst]
    split
    · exact sm_nI (by omega)
    · exact ih (i + 1) (by omega)
theorem sm_22 {B : kb_B} (hk : kb_ok B) (x p : Int32) : sm2 (kb_q22 B x p) := by
  unfold kb_q22
  split
  · unfold kb_at
    exact sm_fst _ _ _ (by have := kb_many8 hk x.toNatClampNeg; omega)
  · exact sm_m (Or.inr rfl)
theorem fl_bd : ∀ b, b < 25 → 0 < b → ∀ a, a ≤ b → -4 ≤ (fl_q a b).toInt32.toInt ∧ (fl_q a b).toInt32.toInt ≤ 1065353216 := by
  have h : (List.range 25).all (fun b => decide (b = 0) || (List.range (b + 1)).all fun a => decide (-4 ≤ (fl_q a b).toInt32.toInt ∧ (fl_q a b).toInt32.toInt ≤ 1065353216)) = true := by decide +kernel
  intro b hb h0 a ha
  have h1 := List.all_eq_true.mp h b (List.mem_range.mpr hb)
  rw [decide_eq_false (show ¬ b = 0 by omega), Bool.false_or] at h1
  exact of_decide_eq_true (List.all_eq_true.mp h1 a (List.mem_range.mpr (by omega)))
theorem sh_24 {B : kb_B} (hk : kb_ok B) : -4 ≤ (kb_q24 B).toInt ∧ (kb_q24 B).toInt ≤ 1065353216 := by
  have h1 := kb_as_le B
  have h2 := kb_al_le hk
  unfold kb_q24
  by_cases z : kb_al B = 0
  · rw [if_pos z]; decide
  · rw [if_neg z]
    exact fl_bd _ (by omega) (by omega) _ h1
theorem l_tell {w : xw_W} {B : kb_B} {L : List kb_B} (h : pq w B L) : ∃ a w1, ai_Call 154 [.ref 0, .int 0] (wl w) = some (some (.int a), wl w1) ∧ xo w1 = xo w ∧ sm2 a := by
  have hk := h.1.1
  have hx := h.2.1
  by_cases c : 0 < kb_n B
  · obtain ⟨w1, e1, h1⟩ := s_tellCharacter hx hk c
    exact ⟨_, w1, e1, h1.1, sm_nI (by have := h1.2.2.1; omega)⟩
  · have c' : ai_is (kb_n B) 0 = false := by
      rw [show kb_n B = 0 by omega]
      rfl
    refine ⟨-1, w, ?_, rfl, sm_m (Or.inl rfl)⟩
    simp only [e_154, o_0, r_154_0, r_154_1, r_154_4, r_154_5, r_154_8, r_154_11, r_154_12, r_154_13, r_154_14, r_154_17, r_154_20, r_154_21, r_154_24, r_154_25, r_154_28, r_154_29, r_154_32, r_154_34, r_154_37, r_154_38, r_154_40, r_154_41, r_154_44, r_154_47, r_154_48, r_154_51, r_154_54, r_154_55, r_154_56, r_154_57, r_154_60, r_154_63, r_154_66, r_154_67, r_154_70, r_154_73, Option.bind_some, Option.bind_none, Option.toList_some, Option.toList_none, List.cons_append, List.nil_append, Option.map_some, Option.map_none, eq_self, if_true, if_false, reduceIte, ai_bi_eq0, ai_bi_eq1, ai_pb_bi, ai_pb_0, ai_pb_1, f_0_0, x_isCharacter hx, c']
def nbS (n : Int32) (m : Nat) : Prop := -(200 * m : Int) ≤ n.toInt ∧ n.toInt ≤ 1065353216 + 200 * m
theorem lw_end (hk : scr k) {w : xw_W} {B : kb_B} {L : List kb_B} (h : pq w B L) {J : ai_W} {m : Nat} (hJ : jj J m) (hm : m ≤ 200) (v3 v4 : Value) : lwf (ai_Run 202 134 [.retAddr k, .ref 0, .int (nI 8), v3, v4] [] (wl w ++ J)) := by
  have nk : ¬ k = 23 := by have := hk.1; omega
  obtain ⟨w1, e1, x1⟩ := l_seen h.2.1 h.1.1 J
  have h1 := pq_xo x1 h
  obtain ⟨w2, e2, s1, s2, h2⟩ := p_save h1
  have e2 := fr_wl e2 (J ++ [Sum.inl (sn B)])
  have e3 := fr_wl (s_guilty h2.2.1 h2.1.1 0 1 0) (J ++ [Sum.inl (sn B)])
  have e4 := fr_wl (s_would h2.2.1 h2.1.1 0 5 1 0 0) (J ++ [Sum.inl (sn B)])
  obtain ⟨f, e5⟩ := s_ranked h2.2.1 h2.1.1 1 0
  have h3 : pq (xw_wky w2 f) B L := h2
  have t1 : xw_hs (xw_wky w2 f) = 1 := s1
  have t2 : kb_x (xw_sn (xw_wky w2 f)) B := s2
  have e5 := fr_wl e5 (J ++ [Sum.inl (sn B)])
  generalize xw_wky w2 f = w3 at e5 h3 t1 t2
  obtain ⟨a6, w4, e6, x4, b6⟩ := l_tell h3
  have h4 := pq_xo x4 h3
  have ps4 := ps_xo x4
  have e6 := fr_wl e6 (J ++ [Sum.inl (sn B)])
  have e7 := fr_wl (s_share h4.2.1 h4.1.1) (J ++ [Sum.inl (sn B)])
  obtain ⟨w5, e8, e9, x5⟩ := l_again h4 J []
  rw [List.append_nil] at e8 e9
  have h5 := pq_xo x5 h4
  have ps5 := (ps_xo x5).trans ps4
  obtain ⟨c1, w6, f1, d1⟩ := p_character h5
  have f1 := fr_wl f1 (J ++ [Sum.inl (sn B)] ++ ([] ++ [Sum.inl (sn B)]))
  obtain ⟨B6, L6, h6⟩ := p_of d1
  obtain ⟨c2, w7, f2, d2⟩ := p_rise h6 0 29
  have f2 := fr_wl f2 (J ++ [Sum.inl (sn B)] ++ ([] ++ [Sum.inl (sn B)]))
  obtain ⟨B7, L7, h7⟩ := p_of d2
  obtain ⟨c3, w8, f3, d3⟩ := p_motive h7 0 1 7
  have f3 := fr_wl f3 (J ++ [Sum.inl (sn B)] ++ ([] ++ [Sum.inl (sn B)]))
  obtain ⟨B8, L8, h8⟩ := p_of d3
  obtain ⟨c4, w9, f4, d4⟩ := p_leave h8 0
  have f4 := fr_wl f4 (J ++ [Sum.inl (sn B)] ++ ([] ++ [Sum.inl (sn B)]))
  obtain ⟨B9, L9, h9⟩ := p_of d4
  obtain ⟨c5, wa, f5, d5⟩ := p_swear h9 0 1
  have f5 := fr_wl f5 (J ++ [Sum.inl (sn B)] ++ ([] ++ [Sum.inl (sn B)]))
  obtain ⟨Ba, La, ha⟩ := p_of d5
  have psa : ps wa = ps w3 := d5.1.trans (d4.1.trans (d3.1.trans (d2.1.trans (d1.1.trans ps5))))
  have u1 : xw_hs wa = 1 := (congrArg (fun x => x.1) psa).trans t1
  have u2 : kb_x (xw_sn wa) B := by rw [show xw_sn wa = xw_sn w3 from congrArg (fun x => x.2) psa]; exact t2
  obtain ⟨wb, f6, hb⟩ := p_restore ha u1 h.1 u2
  have f6 := fr_wl f6 (J ++ [Sum.inl (sn B)] ++ ([] ++ [Sum.inl (sn B)]))
  obtain ⟨wc, f7, f8, xc⟩ := l_again hb J ([] ++ [Sum.inl (sn B)])
  have hc := pq_xo xc hb
  have f9 := fr_wl (s_account hc.2.1 hc.1.1 10) (J ++ [Sum.inl (sn B)] ++ ([] ++ [Sum.inl (sn B)] ++ [Sum.inl (sn B)]))
  rw [(q_23 B _ _).2.2.2.2.2, show xw_hm wc = 0 from hc.2.2.1.2.1] at f9
  have g1 : nb (kb_q20 B 0 1 0) 1 := by
    have := sm_20 B 0 1 0
    unfold sm2 at this
    unfold nb
    omega
  have g4 := nb_add (nb_add (nb_add g1 (by decide) (sm_21 B 0 5 1 0 0)) (by decide) (sm_22 h.1.1 1 0)) (by decide) b6
  have gd : nb c1 1 := by
    have := pd_bound d1
    unfold nb
    omega
  have gd := nb_add (nb_add (nb_add (nb_add gd (by decide) (pd_bound d2)) (by decide) (pd_bound d3)) (by decide) (pd_bound d4)) (by decide) (pd_bound d5)
  have gs := sh_24 h.1.1
  have hne : ¬ kb_q20 B 0 1 0 + kb_q21 B 0 5 1 0 0 + kb_q22 B 1 0 + a6 + kb_q24 B + (c1 + c2 + c3 + c4 + c5) = -90000 := by
    generalize kb_q20 B 0 1 0 + kb_q21 B 0 5 1 0 0 + kb_q22 B 1 0 + a6 = X at g4
    generalize c1 + c2 + c3 + c4 + c5 = Y at gd
    generalize kb_q24 B = Z at gs
    unfold nb at g4 gd
    intro e
    have e := congrArg Int32.toInt e
    rw [show (-90000 : Int32).toInt = -90000 by decide, Int32.toInt_add, Int32.toInt_add, Int.bmod_eq_of_le (n := X.toInt + Z.toInt) (by omega) (by omega), Int.bmod_eq_of_le (by omega) (by omega)] at e
    omega
  have E : ∀ x : ai_C, ([] : ai_W) ++ [x] ++ [x] = [x, x] := fun x => rfl
  rw [List.nil_append] at e8 e9 f1 f2 f3 f4 f5 f6
  rw [E] at f9
  rw [show ([] : ai_W) ++ [Sum.inl (sn B)] = [Sum.inl (sn B)] from rfl] at f7 f8
  rw [show ([Sum.inl (sn B)] : ai_W) ++ [Sum.inl (sn B)] = [Sum.inl (sn B), Sum.inl (sn B)] from rfl] at f7 f8
  have F : ai_Run 202 134 [.retAddr k, .ref 0, .int (nI 8), v3, v4] [] (wl w ++ J) = some (some (.int 1), wl wc ++ (J ++ [Sum.inl (sn B)] ++ [Sum.inl (sn B), Sum.inl (sn B)])) := by
    simp only [r_202_134, rx_202_134, r_202_135, r_202_138, r_202_139, rx_202_139, r_202_140, r_202_143, r_202_144, rx_202_144, r_202_145, r_202_146, r_202_147, r_202_148, r_202_151, rx_202_151, r_202_152, r_202_153, r_202_154, r_202_155, r_202_156, r_202_157, r_202_160, r_202_161, rx_202_161, r_202_162, r_202_163, r_202_164, r_202_167, r_202_168, rx_202_168, r_202_169, r_202_170, r_202_173, r_202_174, rx_202_174, r_202_175, r_202_178, r_202_179, r_202_181, rx_202_181, r_202_182, rx_202_182, r_202_183, r_202_186, r_202_189, r_202_192, r_202_193, r_202_194, r_202_196, rx_202_196, r_202_197, r_202_200, rx_202_200, r_202_201, r_202_202, r_202_204, r_202_207, r_202_208, rx_202_208, r_202_209, r_202_210, r_202_211, r_202_213, r_202_216, r_202_217, rx_202_217, r_202_218, r_202_219, r_202_222, r_202_223, rx_202_223, r_202_224, r_202_225, r_202_226, r_202_229, r_202_230, r_202_231, r_202_233, rx_202_233, r_202_234, r_202_237, r_202_238, r_202_241, rx_202_241, r_202_242, rx_202_242, r_202_243, r_202_246, r_202_249, r_202_252, rx_202_252, r_202_253, r_202_255, r_202_258, r_202_261, r_202_263, r_202_265, r_202_268, r_202_269, r_202_272, r_202_273, Option.bind_some, Option.bind_none, Option.toList_some, Option.toList_none, List.cons_append, List.nil_append, Option.map_some, Option.map_none, eq_self, if_true, if_false, reduceIte, ai_bi_eq0, ai_bi_eq1, ai_pb_bi, ai_pb_0, ai_pb_1, nk, not_false_eq_true, e1, e2, e3, e4, e5, e6, e7, e8, e9, f1, f2, f3, f4, f5, f6, f7, f8, f9, hne, show ¬ (1 : Int32) = 0 by decide]
  have hj := jj_sn (jj_sn (jj_sn hJ B) B) B
  have ej : J ++ [Sum.inl (sn B)] ++ [Sum.inl (sn B)] ++ [Sum.inl (sn B)] = J ++ [Sum.inl (sn B)] ++ [Sum.inl (sn B), Sum.inl (sn B)] := by
    rw [List.append_assoc (J ++ [Sum.inl (sn B)])]
    rfl
  rw [ej] at hj
  obtain ⟨z1, z2⟩ := sl_app wc hj
  rw [F]
  exact ⟨_, rfl, Nat.le_trans z1 ((show ∀ m, m ≤ 200 → 185 + (m + 1 + 1 + 1) ≤ 1000 from fun m h => by omega) m hm), Nat.le_trans z2 ((show ∀ m, m ≤ 200 → 2540 + 260 * (m + 1 + 1 + 1) ≤ 300000 from fun m h => by omega) m hm)⟩
theorem lw_loop (hk : scr k) : ∀ n i, i + n = 8 → ∀ (w : xw_W) (B : kb_B) (L : List kb_B) (J : ai_W) (v3 v4 : Value), pq w B L → jj J (14 * i) → lwf (ai_Run 202 20 [.retAddr k, .ref 0, .int (nI i), v3, v4] [] (wl w ++ J)) := by
  intro n
  induction n with
  | zero =>
    intro i hi w B L J v3 v4 h hJ
    have ei : i = 8 := by omega
    subst ei
    have c1 : ¬ nI 8 < 8 := by decide
    have F : ai_Run 202 20 [.retAddr k, .ref 0, .int (nI 8), v3, v4] [] (wl w ++ J) = ai_Run 202 134 [.retAddr k, .ref 0, .int (nI 8), v3, v4] [] (wl w ++ J) := by
      rw [r_202_20]
      simp only [r_202_21, r_202_23, Option.bind_some, Option.bind_none, Option.toList_some, Option.toList_none, List.cons_append, List.nil_append, Option.map_some, Option.map_none, eq_self, if_true, if_false, reduceIte, ai_bi_eq0, ai_bi_eq1, ai_pb_bi, ai_pb_0, ai_pb_1, c1]
    rw [F]
    exact lw_end hk h hJ (by omega) v3 v4
  | succ n ih =>
    intro i hi w B L J v3 v4 h hJ
    obtain ⟨w2, B2, L2, J2, u3, u4, e, h2, hJ2⟩ := lw_round hk h (i := i) (by omega) hJ v3 v4
    rw [e]
    exact ih (i + 1) (by omega) w2 B2 L2 J2 u3 u4 h2 hJ2
/-- the law's body from its start: it answers true -/
theorem lw_law (hk : scr k) : lwf (ai_Run 202 0 [.retAddr k, .null, .null, .null, .null] [] []) := by
  have nk : ¬ k = 23 := by have := hk.1; omega
  obtain ⟨w, B, L, e1, h⟩ := l_begun hk
  have e2 := l_isWell h.2.1 h.1
  have F : ai_Run 202 0 [.retAddr k, .null, .null, .null, .null] [] [] = ai_Run 202 20 [.retAddr k, .ref 0, .int (nI 0), .null, .null] [] (wl w ++ []) := by
    rw [List.append_nil]
    simp only [r_202_0, rx_202_0, r_202_1, r_202_4, r_202_5, rx_202_5, r_202_6, r_202_9, rx_202_9, r_202_10, r_202_13, r_202_16, r_202_17, r_202_18, r_202_19, Option.bind_some, Option.bind_none, Option.toList_some, Option.toList_none, List.cons_append, List.nil_append, Option.map_some, Option.map_none, eq_self, if_true, if_false, reduceIte, ai_bi_eq0, ai_bi_eq1, ai_pb_bi, ai_pb_0, ai_pb_1, nk, not_false_eq_true, e1, e2, show ¬ (1 : Int32) = 0 by decide]
    rfl
  rw [F]
  exact lw_loop hk 8 0 (by omega) w B L [] .null .null h ⟨Nat.le_refl _, fun j c hj => by cases hj⟩
end LW
