/-! Texts: a StringBuilder and a String by what their cells hold. -/
theorem fr_11_0 : ai_isr (ai_fty 11 0) = true := by decide +kernel
theorem fr_12_0 : ai_isr (ai_fty 12 0) = true := by decide +kernel
theorem ft_11_1 : ai_fty 11 1 = some .byte := by decide +kernel
theorem ft_11_2 : ai_fty 11 2 = some .boolean := by decide +kernel
theorem ft_11_3 : ai_fty 11 3 = some .int := by decide +kernel
theorem ft_12_1 : ai_fty 12 1 = some .byte := by decide +kernel
theorem ft_12_2 : ai_fty 12 2 = some .int := by decide +kernel
theorem ft_12_3 : ai_fty 12 3 = some .boolean := by decide +kernel
theorem bl_11 : ai_blank 11 = ob 11 [.null, .int 0, .int 0, .int 0] := by
  have h : (ai_cl 11).2.2 = 4 := by decide +kernel
  unfold ai_blank ob
  rw [h]
  show (Sum.inr (Sum.inr (11, [ai_dv (ai_fty 11 0), ai_dv (ai_fty 11 1), ai_dv (ai_fty 11 2), ai_dv (ai_fty 11 3)])) : ai_C) = _
  rw [dv_r fr_11_0, ft_11_1, ft_11_2, ft_11_3]
  rfl
theorem bl_12 : ai_blank 12 = ob 12 [.null, .int 0, .int 0, .int 0] := by
  have h : (ai_cl 12).2.2 = 4 := by decide +kernel
  unfold ai_blank ob
  rw [h]
  show (Sum.inr (Sum.inr (12, [ai_dv (ai_fty 12 0), ai_dv (ai_fty 12 1), ai_dv (ai_fty 12 2), ai_dv (ai_fty 12 3)])) : ai_C) = _
  rw [dv_r fr_12_0, ft_12_1, ft_12_2, ft_12_3]
  rfl
def tok (t : List Nat) : Prop := ∀ c ∈ t, 32 ≤ c ∧ c ≤ 126
def bt (fs : List Value) (n : Nat) (t : List Nat) : Prop := fs.length = n ∧ t.length ≤ n ∧ (∀ (j : Nat) (v : Value), fs[j]? = some v → ai_fb8 v = true) ∧ ∀ (j c : Nat), t[j]? = some c → fs[j]? = some (.int (nI c))
def sb (ws : ai_W) (p q : Nat) (t : List Nat) : Prop := p ≠ q ∧ ws[p]? = some (ob 11 [.ref q, .int 0, .int 0, .int (nI t.length)]) ∧ tok t ∧ ∃ fs, ws[q]? = some (ob 77 fs) ∧ bt fs 16 t
def stg (ws : ai_W) (p q : Nat) (t : List Nat) : Prop := ws[p]? = some (ob 12 [.ref q, .int 0, .int 0, .int 0]) ∧ t.length ≤ 16 ∧ tok t ∧ ∃ fs, ws[q]? = some (ob 77 fs) ∧ bt fs t.length t
/-- all but two cells are as they were -/
def sm (p q : Nat) (ws ws2 : ai_W) : Prop := ws2.length = ws.length ∧ ∀ j, j ≠ p → j ≠ q → ws2[j]? = ws[j]?
theorem fb_all {fs : List Value} (h : ∀ (j : Nat) (v : Value), fs[j]? = some v → ai_fb8 v = true) : fs.all ai_fb8 = true := by
  rw [List.all_eq_true]
  intro v hv
  obtain ⟨j, hj⟩ := List.mem_iff_getElem?.mp hv
  exact h j v hj
theorem ch_all : ∀ c, c < 127 → ai_fb8 (.int (nI c)) = true ∧ (nI c).toInt8.toInt32 = nI c ∧ nI c &&& 255 = nI c ∧ ((nI c).toUInt32 % 65536).toInt32 = nI c ∧ ai_pchar (nI c) = true := by
  have h : (List.range 127).all (fun c => ai_fb8 (.int (nI c)) && decide ((nI c).toInt8.toInt32 = nI c) && decide (nI c &&& 255 = nI c) && decide (((nI c).toUInt32 % 65536).toInt32 = nI c) && ai_pchar (nI c)) = true := by decide +kernel
  intro c hc
  have := List.all_eq_true.mp h c (List.mem_range.mpr hc)
  simp only [Bool.and_eq_true, decide_eq_true_eq] at this
  exact ⟨this.1.1.1.1, this.1.1.1.2, this.1.1.2, this.1.2, this.2⟩
theorem shr0 (x : Int32) : x >>> ((0 : Int32) &&& 31) = x := by
  rw [show (0 : Int32) &&& 31 = 0 by decide]
  exact Int32.shiftRight_zero
theorem shl0 (x : Int32) : x <<< ((0 : Int32) &&& 31) = x := by
  rw [show (0 : Int32) &&& 31 = 0 by decide]
  exact Int32.shiftLeft_zero
theorem cap_16 : ∀ m, m ≤ 16 → ¬ (0 : Int32) < nI m - 16 := by decide
def ctx : Nat → List Nat
  | 1 => [109] | 2 => [61] | 3 => [59, 116] | 4 => [48] | 5 => [59, 120] | 6 => [59, 100] | 7 => [64] | 8 => [59, 119] | 9 => [59, 106] | 10 => [45] | _ => []
theorem ctx_all : ∀ k, k < 11 → 1 ≤ k → ai_xb (k + 10) = some ((ctx k).map nI) ∧ tok (ctx k) ∧ (ctx k).length ≤ 2 := by
  intro k h2 h1
  unfold tok
  match k, h1, h2 with
  | 1, _, _ => exact ⟨by decide, by decide, by decide⟩
  | 2, _, _ => exact ⟨by decide, by decide, by decide⟩
  | 3, _, _ => exact ⟨by decide, by decide, by decide⟩
  | 4, _, _ => exact ⟨by decide, by decide, by decide⟩
  | 5, _, _ => exact ⟨by decide, by decide, by decide⟩
  | 6, _, _ => exact ⟨by decide, by decide, by decide⟩
  | 7, _, _ => exact ⟨by decide, by decide, by decide⟩
  | 8, _, _ => exact ⟨by decide, by decide, by decide⟩
  | 9, _, _ => exact ⟨by decide, by decide, by decide⟩
  | 10, _, _ => exact ⟨by decide, by decide, by decide⟩
theorem sb_0 {ws : ai_W} {p q : Nat} {t : List Nat} (h : sb ws p q t) : ai_isob ws p 11 = true ∧ ai_fget ws p 11 0 = some (.ref q) ∧ ai_fget ws p 11 1 = some (.int 0) ∧ ai_fget ws p 11 3 = some (.int (nI t.length)) ∧ ai_len ws q = some 16 := by
  obtain ⟨-, h1, -, fs, h2, h3⟩ := h
  refine ⟨ai_isob_of h1, ai_fget_of h1, ai_fget_of h1, ai_fget_of h1, ?_⟩
  unfold ai_len
  rw [h2]
  show (if 77 = 77 then some (Int32.ofNat fs.length) else none) = _
  rw [if_pos rfl, h3.1]
  rfl
theorem bt_pre {fs : List Value} {n : Nat} {t u : List Nat} (h : bt fs n (t ++ u)) : bt fs n t := by
  obtain ⟨h1, h2, h3, h4⟩ := h
  rw [List.length_append] at h2
  refine ⟨h1, by omega, h3, fun j c hj => h4 j c ?_⟩
  rw [List.getElem?_append_left (List.getElem?_eq_some_iff.mp hj).1]
  exact hj
theorem sb_1 {ws : ai_W} {p q : Nat} {t u : List Nat} {fs : List Value} (h : sb ws p q t) (hb : bt fs 16 (t ++ u)) : sb (ws.set q (ob 77 fs)) p q t := by
  obtain ⟨hne, h1, ht, gs, h2, h3⟩ := h
  refine ⟨hne, ?_, ht, fs, ?_, bt_pre hb⟩
  · rw [List.getElem?_set_ne (fun e => hne e.symm)]; exact h1
  · rw [List.getElem?_set_self (List.getElem?_eq_some_iff.mp h2).1]
theorem sb_2 {ws : ai_W} {p q : Nat} {t u : List Nat} {fs : List Value} (h : sb ws p q t) (hb : bt fs 16 (t ++ u)) (hu : tok u) : ∃ ws2, ai_fput (ws.set q (ob 77 fs)) p 11 3 (.int (nI (t ++ u).length)) = some ws2 ∧ sb ws2 p q (t ++ u) ∧ sm p q ws ws2 := by
  have h1 := sb_1 h hb
  obtain ⟨hne, g1, gt, gs, g2, g3⟩ := h1
  have hp := ai_fput_of (k := 3) (v := .int (nI (t ++ u).length)) g1 (show 3 < 4 by decide) (ai_pok_int ft_11_3)
  refine ⟨_, hp, ⟨hne, ?_, ?_, gs, ?_, ?_⟩, ?_, ?_⟩
  · rw [List.getElem?_set_self (List.getElem?_eq_some_iff.mp g1).1]
    rfl
  · intro c hc
    rcases List.mem_append.mp hc with z | z
    · exact gt c z
    · exact hu c z
  · rw [List.getElem?_set_ne hne]; exact g2
  · have e : gs = fs := by
      rw [List.getElem?_set_self (List.getElem?_eq_some_iff.mp h.2.2.2.choose_spec.1).1] at g2
      exact (Prod.mk.inj (Sum.inr.inj (Sum.inr.inj (Option.some.inj g2)))).2.symm
    rw [e]; exact hb
  · rw [List.length_set, List.length_set]
  · intro j hj1 hj2
    rw [List.getElem?_set_ne (fun e => hj1 e.symm), List.getElem?_set_ne (fun e => hj2 e.symm)]
theorem lay_at (f g : List Value) (d n j : Nat) (hj : j < g.length) : (ai_lay f g 0 d n)[j]? = some (if d ≤ j ∧ j < d + n then f.getD (0 + (j - d)) .null else g.getD j .null) := by
  unfold ai_lay
  rw [List.getElem?_map, List.getElem?_range hj]
  rfl
theorem lay_len (f g : List Value) (d n : Nat) : (ai_lay f g 0 d n).length = g.length := by
  unfold ai_lay
  rw [List.length_map, List.length_range]
theorem bt_layn {n : Nat} {f g : List Value} {t u : List Nat} (hg : bt g n t) (hu : tok u) (hf : ∀ (j c : Nat), u[j]? = some c → f[j]? = some (.int (nI c))) (hl : t.length + u.length ≤ n) : bt (ai_lay f g 0 t.length u.length) n (t ++ u) := by
  obtain ⟨h1, h2, h3, h4⟩ := hg
  have key : ∀ j, j < u.length → f.getD (0 + j) .null = .int (nI (u.getD j 0)) ∧ u.getD j 0 < 127 := by
    intro j hj
    have e : u[j]? = some u[j] := List.getElem?_eq_getElem hj
    have := hu u[j] (List.getElem_mem hj)
    rw [Nat.zero_add, List.getD_eq_getElem?_getD, hf j _ e, List.getD_eq_getElem?_getD, e]
    exact ⟨rfl, by show u[j] < 127; omega⟩
  refine ⟨(lay_len _ _ _ _).trans h1, by rw [List.length_append]; exact hl, fun j v hj => ?_, fun j c hj => ?_⟩
  · have hjg : j < g.length := by
      have := (List.getElem?_eq_some_iff.mp hj).1
      rw [lay_len] at this
      exact this
    rw [lay_at _ _ _ _ _ hjg] at hj
    have hj := Option.some.inj hj
    rw [← hj]
    split
    · rename_i z
      obtain ⟨k1, k2⟩ := key (j - t.length) (by omega)
      rw [k1]
      exact (ch_all _ k2).1
    · have e : g[j]? = some g[j] := List.getElem?_eq_getElem hjg
      rw [List.getD_eq_getElem?_getD, e]
      exact h3 j _ e
  · have hjl := (List.getElem?_eq_some_iff.mp hj).1
    rw [List.length_append] at hjl
    rw [lay_at _ _ _ _ _ (by omega)]
    by_cases z : j < t.length
    · rw [if_neg (by omega)]
      rw [List.getElem?_append_left z] at hj
      rw [List.getD_eq_getElem?_getD, h4 j c hj]
      rfl
    · rw [if_pos (by omega)]
      rw [List.getElem?_append_right (by omega)] at hj
      obtain ⟨k1, k2⟩ := key (j - t.length) (by omega)
      rw [k1, List.getD_eq_getElem?_getD, hj]
      rfl
theorem bt_lay {f g : List Value} {t u : List Nat} (hg : bt g 16 t) (hu : tok u) (hf : ∀ (j c : Nat), u[j]? = some c → f[j]? = some (.int (nI c))) (hl : t.length + u.length ≤ 16) : bt (ai_lay f g 0 t.length u.length) 16 (t ++ u) := bt_layn hg hu hf hl
theorem bcopy_of {ws : ai_W} {q a n : Nat} {f g : List Value} (hq : ws[q]? = some (ob 77 g)) (hf : f.all ai_fb8 = true) (hn : n ≤ f.length) (hg : a + n ≤ g.length) (hs : g.length ≤ 16) : ai_bcopy f ws 0 q (nI a) (nI n) = some (ws.set q (ob 77 (ai_lay f g 0 a n))) := by
  unfold ai_bcopy
  rw [hq]
  have e1 : (nI a).toNatClampNeg = a := nI_clamp (by omega)
  have e2 : (nI n).toNatClampNeg = n := nI_clamp (by omega)
  have e3 : (0 : Int32).toNatClampNeg = 0 := rfl
  show (if 77 = 77 ∧ ¬ (0 : Int32) < 0 ∧ ¬ nI a < 0 ∧ ¬ nI n < 0 ∧ _ ∧ _ ∧ _ then _ else none) = _
  rw [if_pos ⟨rfl, by decide, nI_pos (by omega), nI_pos (by omega), by rw [e2, e3]; omega, by rw [e1, e2]; exact hg, hf⟩, e1, e2, e3]
  rfl
section TX
variable {ws : ai_W} {p q : Nat} {t : List Nat}
theorem a_cap (h : sb ws p q t) {m : Nat} (hm : m ≤ 16) : ai_Call 172 [.ref p, .int (nI m)] ws = some (none, ws) := by
  obtain ⟨h0, h1, h2, h3, h4⟩ := sb_0 h
  have c := cap_16 m hm
  simp only [e_172, h0, r_172_0, rx_172_0, r_172_1, r_172_4, rx_172_4, r_172_5, rx_172_5, r_172_6, r_172_9, r_172_10, r_172_11, r_172_12, r_172_13, r_172_14, r_172_17, rx_172_17, r_172_18, rx_172_18, r_172_19, r_172_22, rx_172_22, r_172_23, r_172_38, Option.bind_some, Option.bind_none, Option.toList_some, Option.toList_none, List.cons_append, List.nil_append, Option.map_some, Option.map_none, eq_self, if_true, if_false, reduceIte, ai_bi_eq0, ai_bi_eq1, ai_pb_bi, ai_pb_0, ai_pb_1, h1, h2, h4, shr0, c]
theorem x_1len {k : Nat} (h1 : 1 ≤ k) (h2 : k ≤ 10) (ws : ai_W) : ai_Call 170 [.retAddr k] ws = some (some (.int 0), ws) ∧ ai_Call 171 [.retAddr k] ws = some (some (.int (nI (ctx k).length)), ws) := by
  have x0 : ai_xget k 12 0 = some (.retAddr (k + 10)) := by unfold ai_xget; rw [if_pos ⟨h1, h2, rfl⟩]; rfl
  have x1 : ai_xget k 12 1 = some (.int 0) := by unfold ai_xget; rw [if_pos ⟨h1, h2, rfl⟩]; rfl
  have hb := (ctx_all k (by omega) h1).1
  have xl : ai_xlen (k + 10) = some (nI (ctx k).length) := by
    unfold ai_xlen
    rw [if_neg (by omega), if_pos ⟨by omega, by omega⟩, hb]
    show some (Int32.ofNat ((ctx k).map nI).length) = _
    rw [List.length_map]
    rfl
  have n1 : ¬ k = 23 := by omega
  have n2 : ¬ k + 10 = 23 := by omega
  have ec : ai_Call 170 [.retAddr k] ws = some (some (.int 0), ws) := by
    simp only [ex_170 h1 h2, r_170_0, r_170_3, r_170_6, rx_170_6, r_170_7, rx_170_7, r_170_10, r_170_13, r_170_14, Option.bind_some, Option.bind_none, Option.toList_some, Option.toList_none, List.cons_append, List.nil_append, Option.map_some, Option.map_none, eq_self, if_true, if_false, reduceIte, ai_bi_eq0, ai_bi_eq1, ai_pb_bi, ai_pb_0, ai_pb_1, x1, n1, not_false_eq_true, show ¬ (1 : Int32) = 0 by decide, show ai_pbyte 0 = true by decide]
  refine ⟨ec, ?_⟩
  simp only [ex_171 h1 h2, r_171_0, rx_171_0, r_171_1, rx_171_1, r_171_4, rx_171_4, r_171_5, rx_171_5, r_171_6, r_171_9, r_171_10, Option.bind_some, Option.bind_none, Option.toList_some, Option.toList_none, List.cons_append, List.nil_append, Option.map_some, Option.map_none, eq_self, if_true, if_false, reduceIte, ai_bi_eq0, ai_bi_eq1, ai_pb_bi, ai_pb_0, ai_pb_1, x0, xl, n1, n2, not_false_eq_true, ec, shr0]
end TX
