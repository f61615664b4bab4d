/-! The class's state: the book, what was before, and what every command makes of it. -/
def kb_wf (B : kb_B) : Prop := kb_ok B ∧ kb_m0 B
def ph (w : xw_W) (L : List kb_B) : Prop := L.length ≤ 8 ∧ xw_hm w = nI L.length ∧ ∃ p, p < 9 ∧ xw_hn w = nI p ∧ ∀ i B, L[i]? = some B → kb_wf B ∧ kb_x (xw_hi w ((p + 8 - i) % 9)) B
def pq (w : xw_W) (B : kb_B) (L : List kb_B) : Prop := kb_wf B ∧ kb_x (xw_b w) B ∧ ph w L ∧ xw_tl w = 0
def ps (w : xw_W) : Int32 × xb_B := (xw_hs w, xw_sn w)
def pe (a : Int32) : Prop := a.toInt < 0 ∧ ¬ a.toInt = -4 ∧ -200 ≤ a.toInt
def pf (a : Int32) : Prop := a.toInt = -4 ∨ (0 ≤ a.toInt ∧ a.toInt < 64)
def pd (w w2 : xw_W) (B : kb_B) (L : List kb_B) (a : Int32) : Prop := ps w2 = ps w ∧ ((pe a ∧ pq w2 B L) ∨ (pf a ∧ ∃ B2, pq w2 B2 ((B :: L).take 8)))
theorem pe_m {a : Int32} (h : a = -1 ∨ a = -2 ∨ a = -3) : pe a ∧ kc_er a = true := by
  rcases h with rfl | rfl | rfl <;> exact ⟨by unfold pe; decide, by decide⟩
theorem pf_4 : pf (-4) ∧ kc_er (-4) = false := ⟨Or.inl (by decide), by decide⟩
theorem pf_nI {n : Nat} (h : n < 64) : pf (nI n) := Or.inr (by rw [nI_toInt (by omega)]; omega)
theorem ph_err {w w2 : xw_W} {L : List kb_B} {p : Nat} {b : xb_B} (hp : p < 9) (hn : xw_hn w = nI p) (h : ph w L) (e1 : xw_hm w2 = xw_hm w) (e3 : xw_hn w2 = xw_hn w) (e4 : xw_hi w2 = up (xw_hi w) p b) : ph w2 L := by
  obtain ⟨h1, h2, p', hp', hn', h4⟩ := h
  have e : p = p' := (nI_eq (by omega) (by omega)).mp (hn.symm.trans hn')
  subst e
  refine ⟨h1, e1.trans h2, p, hp, e3.trans hn, fun i B hi => ?_⟩
  have hl : i < L.length := (List.getElem?_eq_some_iff.mp hi).1
  rw [e4, up_ne _ (by omega)]
  exact h4 i B hi
theorem ph_ok {w w2 : xw_W} {L : List kb_B} {B : kb_B} {p : Nat} (hk : kb_wf B) (hx : kb_x (xw_b w) B) (hp : p < 9) (hn : xw_hn w = nI p) (h : ph w L) (e1 : xw_hm w2 = nI (min (L.length + 1) 8)) (e3 : xw_hn w2 = nI (if p < 8 then p + 1 else 0)) (e4 : xw_hi w2 = up (xw_hi w) p (xw_b w)) : ph w2 ((B :: L).take 8) := by
  obtain ⟨h1, h2, p', hp', hn', h4⟩ := h
  have e : p = p' := (nI_eq (by omega) (by omega)).mp (hn.symm.trans hn')
  subst e
  have hl : ((B :: L).take 8).length = min (L.length + 1) 8 := by
    rw [List.length_take, List.length_cons]
    omega
  have hg : ∀ i X, ((B :: L).take 8)[i]? = some X → i < 8 ∧ (B :: L)[i]? = some X := by
    intro i X hi
    rw [List.getElem?_take] at hi
    by_cases z : i < 8
    · rw [if_pos z] at hi
      exact ⟨z, hi⟩
    · rw [if_neg z] at hi
      exact absurd hi (by simp)
  unfold ph
  rw [hl]
  refine ⟨by omega, e1, if p < 8 then p + 1 else 0, by split <;> omega, e3, fun i X hi => ?_⟩
  obtain ⟨h8, hi⟩ := hg i X hi
  rw [e4]
  match i, h8, hi with
  | 0, _, hi =>
    have hX : X = B := by simpa using hi.symm
    rw [hX, show ((if p < 8 then p + 1 else 0) + 8 - 0) % 9 = p by split <;> omega, up_at]
    exact ⟨hk, hx⟩
  | k + 1, h8, hi =>
    have hi : L[k]? = some X := by simpa using hi
    have hkl : k < L.length := (List.getElem?_eq_some_iff.mp hi).1
    rw [show ((if p < 8 then p + 1 else 0) + 8 - (k + 1)) % 9 = (p + 8 - k) % 9 by split <;> omega, up_ne _ (by omega)]
    exact h4 k X hi
theorem kc_pd {B : kb_B} {o : kc_O} (h : kc_good B o) : (pe o.2.1 ∧ kc_er o.2.1 = true ∧ o.1 = B) ∨ (pf o.2.1 ∧ kc_er o.2.1 = false ∧ o.2.2 = none) := by
  rcases h.2 with ⟨y, d, e, hy⟩ | e | e | ⟨e, ha⟩
  · left; rw [e]; exact ⟨(pe_m (by simp)).1, (pe_m (by simp)).2, rfl⟩
  · left; rw [e]; exact ⟨(pe_m (by simp)).1, (pe_m (by simp)).2, rfl⟩
  · left; rw [e]; exact ⟨(pe_m (by simp)).1, (pe_m (by simp)).2, rfl⟩
  · right
    rcases ha with z | ⟨n, hn, z⟩
    · rw [z]; exact ⟨pf_4.1, pf_4.2, e⟩
    · rw [z]; exact ⟨pf_nI hn, er_nI (by omega), e⟩
theorem ps_kx (w : xw_W) (b : xb_B) (r : Option (Int32 × Int32)) : ps (kx_w w b r) = ps w ∧ xw_hm (kx_w w b r) = xw_hm w ∧ xw_hn (kx_w w b r) = xw_hn w ∧ xw_hi (kx_w w b r) = xw_hi w ∧ xw_tl (kx_w w b r) = xw_tl w := by
  cases r <;> exact ⟨rfl, rfl, rfl, rfl, rfl⟩
theorem pc_cmd {yc yG : Nat} {args : List Value} (o : kb_B → kc_O) (hgood : ∀ B, kb_ok B → kc_good B (o B)) (hm0 : ∀ B, kb_ok B → kb_m0 B → kb_m0 (o B).1)
    (HC : ∀ w w1 r w2 a, ai_Call 46 [.ref 0] (wl w) = some (none, wl w1) → ai_Call yG (.ref 22 :: args) (wl w1) = some (some (.int a), wl r) → ai_Call 51 [.ref 0, .int a] (wl r) = some (some (.int a), wl w2) → ai_Call yc (.ref 0 :: args) (wl w) = some (some (.int a), wl w2))
    (h1 : ∀ w B, kb_x (xw_b w) B → kb_ok B → kx_is w (o B) (ai_Call yG (.ref 22 :: args) (wl w)))
    {w : xw_W} {B : kb_B} {L : List kb_B} (h : pq w B L) : ∃ a w2, ai_Call yc (.ref 0 :: args) (wl w) = some (some (.int a), wl w2) ∧ pd w w2 B L a := by
  obtain ⟨hk, hx, hh, ht⟩ := h
  have hh2 := hh
  obtain ⟨hL, hm1, p, hp, hpn, -⟩ := hh2
  have hb := x_begin hp hpn
  obtain ⟨b, hbx, eb⟩ := h1 (kw_b w p) B hx hk.1
  have hg := hgood B hk.1
  obtain ⟨q1, q2, q3, q4, q5⟩ := ps_kx (kw_b w p) b (o B).2.2
  have q6 := b_kx (kw_b w p) b (o B).2.2
  rcases kc_pd hg with ⟨z1, z2, z3⟩ | ⟨z1, z2, z3⟩
  · have ef := x_finish_er z2 (kx_w (kw_b w p) b (o B).2.2)
    refine ⟨_, _, HC _ _ _ _ _ hb eb ef, q1, Or.inl ⟨z1, hk, ?_, ph_err (b := xw_b w) hp hpn hh q2 q3 q4, q5.trans ht⟩⟩
    rw [q6, ← z3]
    exact hbx
  · have ef := x_finish_ok z2 (w := kx_w (kw_b w p) b (o B).2.2) hp hL (q3.trans hpn) (q2.trans hm1)
    refine ⟨_, _, HC _ _ _ _ _ hb eb ef, q1, Or.inr ⟨z1, (o B).1, ⟨hg.1, hm0 B hk.1 hk.2⟩, ?_, ph_ok hk hx hp hpn hh rfl rfl q4, q5.trans ht⟩⟩
    show kb_x (xw_b (kx_w (kw_b w p) b (o B).2.2)) (o B).1
    rw [q6]
    exact hbx
section CMDS
variable {w : xw_W} {B : kb_B} {L : List kb_B}
theorem p_character (h : pq w B L) : ∃ a w2, ai_Call 92 (.ref 0 :: []) (wl w) = some (some (.int a), wl w2) ∧ pd w w2 B L a := pc_cmd (yG := 61) (fun B => kc_character B) (fun _ hk => good_character hk) (fun _ _ h => m0_character h) (fun w w1 r w2 a e1 e2 e3 => by
  simp only [e_92, o_0, r_92_0, r_92_1, r_92_4, r_92_5, r_92_6, r_92_9, r_92_12, r_92_15, Option.bind_some, Option.bind_none, Option.toList_some, Option.toList_none, List.cons_append, List.nil_append, Option.map_some, Option.map_none, eq_self, if_true, if_false, reduceIte, ai_bi_eq0, ai_bi_eq1, ai_pb_bi, ai_pb_0, ai_pb_1, f_0_5, e1, e2, e3]) (fun _ _ h hk => c_character h hk) h
theorem p_author (h : pq w B L) : ∃ a w2, ai_Call 52 (.ref 0 :: []) (wl w) = some (some (.int a), wl w2) ∧ pd w w2 B L a := pc_cmd (yG := 48) (fun B => kc_author B) (fun _ hk => good_author hk) (fun _ _ h => m0_author h) (fun w w1 r w2 a e1 e2 e3 => by
  simp only [e_52, o_0, r_52_0, r_52_1, r_52_4, r_52_5, r_52_6, r_52_9, r_52_12, r_52_15, Option.bind_some, Option.bind_none, Option.toList_some, Option.toList_none, List.cons_append, List.nil_append, Option.map_some, Option.map_none, eq_self, if_true, if_false, reduceIte, ai_bi_eq0, ai_bi_eq1, ai_pb_bi, ai_pb_0, ai_pb_1, f_0_5, e1, e2, e3]) (fun _ _ h hk => c_author h hk) h
theorem p_die (h : pq w B L) (x y : Int32) : ∃ a w2, ai_Call 109 (.ref 0 :: [.int x, .int y]) (wl w) = some (some (.int a), wl w2) ∧ pd w w2 B L a := pc_cmd (yG := 68) (fun B => kc_die B x y) (fun _ hk => good_die hk x y) (fun _ _ h => m0_die h _ _) (fun w w1 r w2 a e1 e2 e3 => by
  simp only [e_109, o_0, r_109_0, r_109_1, r_109_4, r_109_5, r_109_6, r_109_9, r_109_10, r_109_11, r_109_14, r_109_17, Option.bind_some, Option.bind_none, Option.toList_some, Option.toList_none, List.cons_append, List.nil_append, Option.map_some, Option.map_none, eq_self, if_true, if_false, reduceIte, ai_bi_eq0, ai_bi_eq1, ai_pb_bi, ai_pb_0, ai_pb_1, f_0_5, e1, e2, e3]) (fun _ _ h hk => c_die h hk x y) h
theorem p_rise (h : pq w B L) (x y : Int32) : ∃ a w2, ai_Call 140 (.ref 0 :: [.int x, .int y]) (wl w) = some (some (.int a), wl w2) ∧ pd w w2 B L a := pc_cmd (yG := 69) (fun B => kc_rise B x y) (fun _ hk => good_rise hk x y) (fun _ _ h => m0_rise h _ _) (fun w w1 r w2 a e1 e2 e3 => by
  simp only [e_140, o_0, r_140_0, r_140_1, r_140_4, r_140_5, r_140_6, r_140_9, r_140_10, r_140_11, r_140_14, r_140_17, Option.bind_some, Option.bind_none, Option.toList_some, Option.toList_none, List.cons_append, List.nil_append, Option.map_some, Option.map_none, eq_self, if_true, if_false, reduceIte, ai_bi_eq0, ai_bi_eq1, ai_pb_bi, ai_pb_0, ai_pb_1, f_0_5, e1, e2, e3]) (fun _ _ h hk => c_rise h hk x y) h
theorem p_strike (h : pq w B L) (x : Int32) : ∃ a w2, ai_Call 147 (.ref 0 :: [.int x]) (wl w) = some (some (.int a), wl w2) ∧ pd w w2 B L a := pc_cmd (yG := 72) (fun B => kc_strike B x) (fun _ hk => good_strike hk x) (fun _ _ h => m0_strike h _) (fun w w1 r w2 a e1 e2 e3 => by
  simp only [e_147, o_0, r_147_0, r_147_1, r_147_4, r_147_5, r_147_6, r_147_9, r_147_10, r_147_13, r_147_16, Option.bind_some, Option.bind_none, Option.toList_some, Option.toList_none, List.cons_append, List.nil_append, Option.map_some, Option.map_none, eq_self, if_true, if_false, reduceIte, ai_bi_eq0, ai_bi_eq1, ai_pb_bi, ai_pb_0, ai_pb_1, f_0_5, e1, e2, e3]) (fun _ _ h hk => c_strike h hk x) h
theorem p_write (h : pq w B L) (x y : Int32) : ∃ a w2, ai_Call 161 (.ref 0 :: [.int x, .int y]) (wl w) = some (some (.int a), wl w2) ∧ pd w w2 B L a := pc_cmd (yG := 73) (fun B => kc_write B x y) (fun _ hk => good_write hk x y) (fun _ _ h => m0_write h _ _) (fun w w1 r w2 a e1 e2 e3 => by
  simp only [e_161, o_0, r_161_0, r_161_1, r_161_4, r_161_5, r_161_6, r_161_9, r_161_10, r_161_11, r_161_14, r_161_17, Option.bind_some, Option.bind_none, Option.toList_some, Option.toList_none, List.cons_append, List.nil_append, Option.map_some, Option.map_none, eq_self, if_true, if_false, reduceIte, ai_bi_eq0, ai_bi_eq1, ai_pb_bi, ai_pb_0, ai_pb_1, f_0_5, e1, e2, e3]) (fun _ _ h hk => c_write h hk x y) h
theorem p_swear (h : pq w B L) (x y : Int32) : ∃ a w2, ai_Call 150 (.ref 0 :: [.int x, .int y]) (wl w) = some (some (.int a), wl w2) ∧ pd w w2 B L a := pc_cmd (yG := 75) (fun B => kc_swear B x y) (fun _ hk => good_swear hk x y) (fun _ _ h => m0_swear h _ _) (fun w w1 r w2 a e1 e2 e3 => by
  simp only [e_150, o_0, r_150_0, r_150_1, r_150_4, r_150_5, r_150_6, r_150_9, r_150_10, r_150_11, r_150_14, r_150_17, Option.bind_some, Option.bind_none, Option.toList_some, Option.toList_none, List.cons_append, List.nil_append, Option.map_some, Option.map_none, eq_self, if_true, if_false, reduceIte, ai_bi_eq0, ai_bi_eq1, ai_pb_bi, ai_pb_0, ai_pb_1, f_0_5, e1, e2, e3]) (fun _ _ h hk => c_swear h hk x y) h
theorem p_motive (h : pq w B L) (x y z : Int32) : ∃ a w2, ai_Call 118 (.ref 0 :: [.int x, .int y, .int z]) (wl w) = some (some (.int a), wl w2) ∧ pd w w2 B L a := pc_cmd (yG := 77) (fun B => kc_motive B x y z) (fun _ hk => good_motive hk x y z) (fun _ hk h => m0_motive h hk _ _ _) (fun w w1 r w2 a e1 e2 e3 => by
  simp only [e_118, o_0, r_118_0, r_118_1, r_118_4, r_118_5, r_118_6, r_118_9, r_118_10, r_118_11, r_118_12, r_118_15, r_118_18, Option.bind_some, Option.bind_none, Option.toList_some, Option.toList_none, List.cons_append, List.nil_append, Option.map_some, Option.map_none, eq_self, if_true, if_false, reduceIte, ai_bi_eq0, ai_bi_eq1, ai_pb_bi, ai_pb_0, ai_pb_1, f_0_5, e1, e2, e3]) (fun _ _ h hk => c_motive h hk x y z) h
theorem p_seat (h : pq w B L) (x y : Int32) : ∃ a w2, ai_Call 143 (.ref 0 :: [.int x, .int y]) (wl w) = some (some (.int a), wl w2) ∧ pd w w2 B L a := pc_cmd (yG := 81) (fun B => kc_seat B x y) (fun _ hk => good_seat hk x y) (fun _ _ h => m0_seat h _ _) (fun w w1 r w2 a e1 e2 e3 => by
  simp only [e_143, o_0, r_143_0, r_143_1, r_143_4, r_143_5, r_143_6, r_143_9, r_143_10, r_143_11, r_143_14, r_143_17, Option.bind_some, Option.bind_none, Option.toList_some, Option.toList_none, List.cons_append, List.nil_append, Option.map_some, Option.map_none, eq_self, if_true, if_false, reduceIte, ai_bi_eq0, ai_bi_eq1, ai_pb_bi, ai_pb_0, ai_pb_1, f_0_5, e1, e2, e3]) (fun _ _ h hk => c_seat h hk x y) h
theorem p_leave (h : pq w B L) (x : Int32) : ∃ a w2, ai_Call 117 (.ref 0 :: [.int x]) (wl w) = some (some (.int a), wl w2) ∧ pd w w2 B L a := pc_cmd (yG := 79) (fun B => kc_leave B x) (fun _ hk => good_leave hk x) (fun _ _ h => m0_leave h _) (fun w w1 r w2 a e1 e2 e3 => by
  simp only [e_117, o_0, r_117_0, r_117_1, r_117_4, r_117_5, r_117_6, r_117_9, r_117_10, r_117_13, r_117_16, Option.bind_some, Option.bind_none, Option.toList_some, Option.toList_none, List.cons_append, List.nil_append, Option.map_some, Option.map_none, eq_self, if_true, if_false, reduceIte, ai_bi_eq0, ai_bi_eq1, ai_pb_bi, ai_pb_0, ai_pb_1, f_0_5, e1, e2, e3]) (fun _ _ h hk => c_leave h hk x) h
theorem p_trial (h : pq w B L) (x y z : Int32) : ∃ a w2, ai_Call 156 (.ref 0 :: [.int x, .int y, .int z]) (wl w) = some (some (.int a), wl w2) ∧ pd w w2 B L a := pc_cmd (yG := 90) (fun B => kc_trial B x y z) (fun _ hk => good_trial hk x y z) (fun _ _ h => m0_trial h _ _ _) (fun w w1 r w2 a e1 e2 e3 => by
  simp only [e_156, o_0, r_156_0, r_156_1, r_156_4, r_156_5, r_156_6, r_156_9, r_156_10, r_156_11, r_156_12, r_156_15, r_156_18, Option.bind_some, Option.bind_none, Option.toList_some, Option.toList_none, List.cons_append, List.nil_append, Option.map_some, Option.map_none, eq_self, if_true, if_false, reduceIte, ai_bi_eq0, ai_bi_eq1, ai_pb_bi, ai_pb_0, ai_pb_1, f_0_5, e1, e2, e3]) (fun _ _ h hk => c_trial h hk x y z) h
theorem p_undo {B0 : kb_B} (h : pq w B (B0 :: L)) : ∃ w2, ai_Call 158 [.ref 0] (wl w) = some (some (.int (nI L.length)), wl w2) ∧ ps w2 = ps w ∧ pq w2 B0 L := by
  obtain ⟨hk, hx, ⟨hL, hm1, p, hp, hpn, h4⟩, ht⟩ := h
  have hl : (B0 :: L).length = L.length + 1 := rfl
  rw [hl] at hL hm1
  have e1 := x_stepBack (w := w) (m := L.length) hp (by omega) hpn hm1
  have hi : (if 0 < p then p - 1 else 8) = (p + 8 - 0) % 9 := by split <;> omega
  rw [hi] at e1
  obtain ⟨k0, x0⟩ := h4 0 B0 rfl
  have e3 : ai_fget (wl (xw_wb (xw_whm (xw_whn w (nI ((p + 8 - 0) % 9))) (nI L.length)) (xw_hi w ((p + 8 - 0) % 9)))) 23 3 3 = some (.int (nI L.length)) := f_23_3 _
  have e4 : ai_Call 27 [.ref 23] (wl (xw_wb (xw_whm (xw_whn w (nI ((p + 8 - 0) % 9))) (nI L.length)) (xw_hi w ((p + 8 - 0) % 9)))) = some (some (.int (nI L.length)), wl (xw_wb (xw_whm (xw_whn w (nI ((p + 8 - 0) % 9))) (nI L.length)) (xw_hi w ((p + 8 - 0) % 9)))) := by
    simp only [e_27, o_23, r_27_0, r_27_1, r_27_4, Option.bind_some, Option.bind_none, Option.toList_some, Option.toList_none, List.cons_append, List.nil_append, Option.map_some, Option.map_none, eq_self, if_true, if_false, reduceIte, ai_bi_eq0, ai_bi_eq1, ai_pb_bi, ai_pb_0, ai_pb_1, e3]
  refine ⟨xw_wb (xw_whm (xw_whn w (nI ((p + 8 - 0) % 9))) (nI L.length)) (xw_hi w ((p + 8 - 0) % 9)), ?_, rfl, k0, x0, ⟨by omega, rfl, (p + 8 - 0) % 9, by omega, rfl, fun i X hX => ?_⟩, ht⟩
  · simp only [e_158, o_0, r_158_0, r_158_1, r_158_4, r_158_5, r_158_8, r_158_11, r_158_14, r_158_15, r_158_18, r_158_21, r_158_24, r_158_26, Option.bind_some, Option.bind_none, Option.toList_some, Option.toList_none, List.cons_append, List.nil_append, Option.map_some, Option.map_none, eq_self, if_true, if_false, reduceIte, ai_bi_eq0, ai_bi_eq1, ai_pb_bi, ai_pb_0, ai_pb_1, f_0_0, f_0_6, e1, show ¬ (1 : Int32) = 0 by decide, e4]
  · have hil : i < L.length := (List.getElem?_eq_some_iff.mp hX).1
    have q := h4 (i + 1) X (by simpa using hX)
    rw [show ((p + 8 - 0) % 9 + 8 - i) % 9 = (p + 8 - (i + 1)) % 9 by omega]
    exact q
theorem p_save (h : pq w B L) : ∃ w2, ai_Call 142 [.ref 0] (wl w) = some (some (.int (nI (kb_n B))), wl w2) ∧ xw_hs w2 = 1 ∧ kb_x (xw_sn w2) B ∧ pq w2 B L := by
  obtain ⟨hk, hx, hh, ht⟩ := h
  have e1 := x_saveSnapshot w
  have e3 : ai_fget (wl (xw_whs (xw_wsn w (xw_b w)) 1)) 1 0 0 = some (.int (nI (kb_n B))) := by
    rw [f_1_0]
    exact congrArg (fun x => some (Value.int x)) hx.1
  refine ⟨xw_whs (xw_wsn w (xw_b w)) 1, ?_, rfl, hx, hk, hx, hh, ht⟩
  simp only [e_142, o_0, r_142_0, r_142_1, r_142_4, r_142_5, r_142_8, r_142_11, r_142_12, r_142_15, r_142_18, Option.bind_some, Option.bind_none, Option.toList_some, Option.toList_none, List.cons_append, List.nil_append, Option.map_some, Option.map_none, eq_self, if_true, if_false, reduceIte, ai_bi_eq0, ai_bi_eq1, ai_pb_bi, ai_pb_0, ai_pb_1, f_0_0, f_0_6, e1, e3]
theorem p_restore {Z : kb_B} (h : pq w B L) (s1 : xw_hs w = 1) (zk : kb_wf Z) (zx : kb_x (xw_sn w) Z) : ∃ w2, ai_Call 139 [.ref 0] (wl w) = some (some (.int (nI (kb_n Z))), wl w2) ∧ pq w2 Z [] := by
  obtain ⟨hk, hx, ⟨hL, hm1, p, hp, hpn, h4⟩, ht⟩ := h
  have e1 := x_restoreSnapshot (w := w) s1
  have e3 : ai_fget (wl (xw_whm (xw_wb w (xw_sn w)) 0)) 1 0 0 = some (.int (nI (kb_n Z))) := by
    rw [f_1_0]
    exact congrArg (fun x => some (Value.int x)) zx.1
  refine ⟨xw_whm (xw_wb w (xw_sn w)) 0, ?_, zk, zx, ⟨by decide, rfl, p, hp, hpn, fun i X hX => absurd hX (by simp)⟩, ht⟩
  simp only [e_139, o_0, r_139_0, r_139_1, r_139_4, r_139_5, r_139_8, r_139_11, r_139_14, r_139_15, r_139_18, r_139_21, r_139_24, r_139_26, Option.bind_some, Option.bind_none, Option.toList_some, Option.toList_none, List.cons_append, List.nil_append, Option.map_some, Option.map_none, eq_self, if_true, if_false, reduceIte, ai_bi_eq0, ai_bi_eq1, ai_pb_bi, ai_pb_0, ai_pb_1, f_0_0, f_0_6, e1, show ¬ (1 : Int32) = 0 by decide, e3]
theorem p_append {n c : Nat} (h1 : xw_tl w = nI n) (hn : n < 70) (c1 : 32 ≤ c) (c2 : c ≤ 126) : ai_Call 39 [.ref 0, .int (nI c)] (wl w) = some (some (.int (nI (n + 1))), wl (xw_wtl (xw_wco w (upd (xw_co w) n (nI c))) (nI (n + 1)))) := by
  have c3 : ¬ nI c < 32 := nI_nlt (a := c) (b := 32) c1 (by omega)
  have c4 : ¬ 126 < nI c := nI_nlt (a := 126) (b := c) c2 (by decide)
  have c5 : nI n < 70 := nI_lt (a := n) (b := 70) (by omega) (by decide)
  have g1 := x_set_co w hn (nI c)
  have g2 : ai_fget (wl (xw_wco w (upd (xw_co w) n (nI c)))) 175 9 3 = some (.int (nI n)) := by
    rw [f_175_3]
    exact congrArg (fun x => some (Value.int x)) h1
  have e1 : ai_Call 38 [.ref 175, .int (nI c)] (wl w) = some (some (.int 1), wl (xw_wtl (xw_wco w (upd (xw_co w) n (nI c))) (nI (n + 1)))) := by
    simp only [e_38, o_175, r_38_0, r_38_1, r_38_3, r_38_6, r_38_7, r_38_9, r_38_12, r_38_13, r_38_16, r_38_18, r_38_21, r_38_22, r_38_23, r_38_24, r_38_27, r_38_28, r_38_31, r_38_32, r_38_35, r_38_36, r_38_37, r_38_40, r_38_41, r_38_42, r_38_45, r_38_46, Option.bind_some, Option.bind_none, Option.toList_some, Option.toList_none, List.cons_append, List.nil_append, Option.map_some, Option.map_none, eq_self, if_true, if_false, reduceIte, ai_bi_eq0, ai_bi_eq1, ai_pb_bi, ai_pb_0, ai_pb_1, c3, c4, f_175_0, f_175_3, h1, c5, g1, g2, nI_1, p_175_3]
  have g3 : ai_fget (wl (xw_wtl (xw_wco w (upd (xw_co w) n (nI c))) (nI (n + 1)))) 175 9 3 = some (.int (nI (n + 1))) := f_175_3 _
  have e2 : ai_Call 26 [.ref 175] (wl (xw_wtl (xw_wco w (upd (xw_co w) n (nI c))) (nI (n + 1)))) = some (some (.int (nI (n + 1))), wl (xw_wtl (xw_wco w (upd (xw_co w) n (nI c))) (nI (n + 1)))) := by
    simp only [e_26, o_175, r_26_0, r_26_1, r_26_4, Option.bind_some, Option.bind_none, Option.toList_some, Option.toList_none, List.cons_append, List.nil_append, Option.map_some, Option.map_none, eq_self, if_true, if_false, reduceIte, ai_bi_eq0, ai_bi_eq1, ai_pb_bi, ai_pb_0, ai_pb_1, g3]
  simp only [e_39, o_0, r_39_0, r_39_1, r_39_4, r_39_5, r_39_8, r_39_11, r_39_12, r_39_15, r_39_18, r_39_21, r_39_23, Option.bind_some, Option.bind_none, Option.toList_some, Option.toList_none, List.cons_append, List.nil_append, Option.map_some, Option.map_none, eq_self, if_true, if_false, reduceIte, ai_bi_eq0, ai_bi_eq1, ai_pb_bi, ai_pb_0, ai_pb_1, f_0_7, e1, show ¬ (1 : Int32) = 0 by decide, e2]
theorem kt_x_m0 {l : List kt_C} {O : Nat → kb_B → kc_O} (hO : ∀ i q, l[i]? = some q → kt_does q (O i)) : ∀ (m i : Nat) (B B2 : kb_B), i + m = l.length → kb_wf B → kt_x O m i B = (B2, none) → kb_wf B2 := by
  intro m
  induction m with
  | zero =>
    intro i B B2 hi hw e
    have eB : B = B2 := congrArg (fun x => x.1) e
    rw [← eB]
    exact hw
  | succ m ih =>
    intro i B B2 hi hw e
    have hil : i < l.length := by omega
    obtain ⟨hg, -, h0⟩ := hO i _ (List.getElem?_eq_getElem hil)
    rw [kt_x] at e
    split at e
    · cases e
    · exact ih (i + 1) _ _ (by omega) ⟨(hg B hw.1).1, h0 B hw.1 hw.2⟩ e
theorem kt_x_er {l : List kt_C} {O : Nat → kb_B → kc_O} : ∀ (m i : Nat) (B B2 : kb_B) (j : Nat) (a : Int32) (r : Option (Int32 × Int32)), kt_x O m i B = (B2, some (j, a, r)) → pe (kt_ans a) := by
  intro m i B B2 j a r _
  unfold kt_ans
  split
  · exact (pe_m (by simp)).1
  · exact (pe_m (by simp)).1
theorem p_read {n : Nat} {c : Nat → Nat} (ht : xt w n c) (hk : kb_wf B) (hx : kb_x (xw_b w) B) (hh : ph w L) : ∃ a w2, ai_Call 137 [.ref 0] (wl w) = some (some (.int a), wl w2) ∧ pd w w2 B L a := by
  have hh2 := hh
  obtain ⟨hL, hm1, p, hp, hpn, h4⟩ := hh2
  cases hq : (kt_a c n 35 0).1 with
  | none =>
    obtain ⟨w1, e1, x1, x2⟩ := x_read_bad ht hq
    have hb := kt_a_b ht.1 35 (p := 0) (Nat.zero_le _)
    have hn := ht.1.1
    refine ⟨_, w1, e1, ?_, Or.inl ⟨?_, hk, ?_, ⟨hL, ?_, p, hp, ?_, ?_⟩, x2⟩⟩
    · exact congrArg (fun x => (x.1.2.2.2.2.2.2.2.2.1, x.1.2.2.2.2.2.1)) x1
    · generalize (kt_a c n 35 0).2 = q at hb
      unfold pe
      rw [Int32.toInt_sub, nI_toInt (by omega), show (-100 : Int32).toInt = -100 by decide, Int.bmod_eq_of_le (by omega) (by omega)]
      omega
    · rw [show xw_b w1 = xw_b w from congrArg (fun x => x.1.1) x1]; exact hx
    · exact (congrArg (fun x => x.1.2.2.2.2.2.2.2.1) x1).trans hm1
    · exact (congrArg (fun x => x.1.2.2.2.2.2.2.1) x1).trans hpn
    · rw [show xw_hi w1 = xw_hi w from congrArg (fun x => x.1.2.2.2.2.1) x1]; exact h4
  | some l =>
    obtain ⟨O, hO⟩ := kt_a_O hq
    have hl35 := (kt_a_do 35 0 l hq).1
    obtain ⟨wa, wb, e1, eb, x1, x2, x3⟩ := x_read_run ht hq hp hpn
    have xb_b : xw_b wb = xw_b w := by rw [eb]; exact congrArg (fun x => x.1.1) x1
    have xb_hi : xw_hi wb = up (xw_hi w) p (xw_b w) := by
      rw [eb]
      show up (xw_hi wa) p (xw_b wa) = _
      rw [show xw_hi wa = xw_hi w from congrArg (fun x => x.1.2.2.2.2.1) x1, show xw_b wa = xw_b w from congrArg (fun x => x.1.1) x1]
    have xb_sn : xw_sn wb = xw_sn w := by rw [eb]; exact congrArg (fun x => x.1.2.2.2.2.2.1) x1
    have xb_hn : xw_hn wb = xw_hn w := by rw [eb]; exact congrArg (fun x => x.1.2.2.2.2.2.2.1) x1
    have xb_hm : xw_hm wb = xw_hm w := by rw [eb]; exact congrArg (fun x => x.1.2.2.2.2.2.2.2.1) x1
    have xb_hs : xw_hs wb = xw_hs w := by rw [eb]; exact congrArg (fun x => x.1.2.2.2.2.2.2.2.2.1) x1
    have xb_tl : xw_tl wb = 0 := by rw [eb]; exact x2
    clear eb x1 x2
    obtain ⟨LT, LF⟩ := x_read_loop hO hl35 x3 hp (xb_hn.trans hpn) l.length 0 B wb .null (by omega) rfl rfl (by rw [xb_b]; exact hx) hk.1
    cases hX : kt_x O l.length 0 B with
    | mk B2 R =>
      cases R with
      | none =>
        obtain ⟨w2, v2, e2, a1, a2, a3, a4⟩ := LT B2 hX
        have h2n : xw_hn w2 = nI p := (congrArg (fun x => x.1.2.2.2.1) a1).trans (xb_hn.trans hpn)
        have h2m : xw_hm w2 = nI L.length := (congrArg (fun x => x.1.2.2.2.2.1) a1).trans (xb_hm.trans hm1)
        have ec := x_confirm (w := w2) hp hL h2n h2m
        refine ⟨nI l.length, xw_whm (xw_whn w2 (nI (if p < 8 then p + 1 else 0))) (nI (min (L.length + 1) 8)), ?_, ?_, Or.inr ⟨pf_nI (by omega), B2, kt_x_m0 hO _ _ _ _ (by omega) hk hX, ?_, ph_ok hk hx hp hpn hh rfl rfl ?_, ?_⟩⟩
        · rw [e1]
          refine e2.trans ?_
          rw [r_137_46]
          simp only [r_137_0, r_137_1, r_137_4, r_137_7, r_137_8, r_137_9, r_137_12, r_137_15, r_137_16, r_137_17, r_137_20, r_137_22, r_137_23, r_137_24, r_137_25, r_137_26, r_137_29, r_137_30, r_137_33, r_137_36, r_137_37, r_137_40, r_137_43, r_137_44, r_137_45, r_137_47, r_137_48, r_137_51, r_137_52, r_137_55, r_137_56, r_137_59, r_137_60, r_137_61, r_137_64, r_137_66, r_137_68, r_137_71, r_137_74, r_137_75, r_137_78, r_137_79, r_137_82, r_137_85, r_137_87, r_137_89, r_137_92, r_137_94, r_137_97, r_137_99, r_137_100, r_137_103, r_137_106, r_137_107, r_137_110, r_137_113, r_137_114, Option.bind_some, Option.bind_none, Option.toList_some, Option.toList_none, List.cons_append, List.nil_append, Option.map_some, Option.map_none, eq_self, if_true, if_false, reduceIte, ai_bi_eq0, ai_bi_eq1, ai_pb_bi, ai_pb_0, ai_pb_1, show ¬ nI l.length < nI l.length from nI_nlt (Nat.le_refl _) (by omega), f_0_6, ec]
        · show (xw_hs w2, xw_sn w2) = (xw_hs w, xw_sn w)
          rw [show xw_hs w2 = xw_hs wb from congrArg (fun x => x.1.2.2.2.2.2.1) a1, show xw_sn w2 = xw_sn wb from congrArg (fun x => x.1.2.2.1) a1, xb_hs, xb_sn]
        · exact a3
        · exact (congrArg (fun x => x.1.2.1) a1).trans xb_hi
        · exact (congrArg (fun x => x.1.2.2.2.2.2.2.2.2.2.1) a1).trans xb_tl
      | some R =>
        obtain ⟨j, a, r⟩ := R
        obtain ⟨w3, e2, a1, a2, a3⟩ := LF B2 j a r hX
        refine ⟨kt_ans a, w3, e1.trans e2, ?_, Or.inl ⟨kt_x_er (l := l) _ _ _ _ _ _ _ hX, hk, ?_, ph_err (b := xw_b w) hp hpn hh ?_ ?_ ?_, ?_⟩⟩
        · show (xw_hs w3, xw_sn w3) = (xw_hs w, xw_sn w)
          rw [show xw_hs w3 = xw_hs wb from congrArg (fun x => x.1.2.2.2.2.2.1) a1, show xw_sn w3 = xw_sn wb from congrArg (fun x => x.1.2.2.1) a1, xb_hs, xb_sn]
        · rw [a2, xb_hi, up_at]; exact hx
        · exact (congrArg (fun x => x.1.2.2.2.2.1) a1).trans xb_hm
        · exact (congrArg (fun x => x.1.2.2.2.1) a1).trans xb_hn
        · exact (congrArg (fun x => x.1.2.1) a1).trans xb_hi
        · exact (congrArg (fun x => x.1.2.2.2.2.2.2.2.2.2.1) a1).trans xb_tl
end CMDS
