/-! The class reads a command, and a text. Printed by gen62.py. -/
def xq (w : xw_W) (p : Nat) (Q : List kt_C) (w1 : xw_W) : Prop := xpo w1 = xpo w ∧ xw_tp w1 = nI p ∧ xw_tc w1 = nI Q.length ∧ kx_st (xw_ki w1) (xw_ar w1) Q
theorem kt_i_g {c : Nat → Nat} {i p : Nat} {G : List (Option Nat)} : (i < 4 → (kt_i c i p G).1 = true → (kt_i c i p G).2.2.length = G.length + 1) ∧ (4 ≤ i → (kt_i c i p G).2.2.length = G.length) := by
  constructor
  · intro hi
    unfold kt_i
    split
    · unfold kt_D
      split <;> simp
    · split
      · unfold kt_N
        split
        · split <;> simp
        · simp
      · split
        · unfold kt_P
          split
          · simp
          · split <;> simp
        · split
          · unfold kt_S
            split
            · simp
            · split
              · split <;> simp
              · simp
          · omega
  · intro hi
    unfold kt_i
    rw [if_neg (by omega), if_neg (by omega), if_neg (by omega), if_neg (by omega)]
    unfold kt_X
    split <;> rfl
section READ
variable {w : xw_W} {n p k : Nat} {c : Nat → Nat} {Q : List kt_C} {G : List (Option Nat)} {w1 : xw_W}
theorem kx_st_new {ki ar : Nat → Int32} (h : kx_st ki ar Q) (k : Nat) : kx_st (upd ki Q.length (nI k)) ar (Q ++ [(k, [])]) := by
  intro i q hq
  rcases Nat.lt_trichotomy i Q.length with z | z | z
  · rw [List.getElem?_append_left z] at hq
    have h1 := h i q hq
    rw [upd_ne _ (by omega)]
    exact h1
  · subst z
    have e : q = (k, []) := by simpa using hq.symm
    subst e
    rw [upd_at]
    exact ⟨rfl, fun j b hj hb => absurd hb (by simp)⟩
  · rw [List.getElem?_eq_none (by rw [List.length_append, List.length_singleton]; omega)] at hq
    exact absurd hq (by simp)
theorem x_takeq (ht : xt w n c) (h : xq w p Q w1) (hp : p ≤ n) : (c p = 59 → ∃ w2, ai_Call 125 [.ref 175, .int 59] (wl w1) = some (some (.int 1), wl w2) ∧ xq w (p + 1) Q w2) ∧ (¬ c p = 59 → ai_Call 125 [.ref 175, .int 59] (wl w1) = some (some (.int 0), wl w1)) := by
  have ea := x_ahead (xt_of h.1 ht) hp h.2.1
  have h126 := kt_c127 ht.1 p
  have e59 : (nI (c p) = 59) ↔ c p = 59 := nI_eq (b := 59) (by omega) (by decide)
  constructor
  · intro z
    have c1 := e59.mpr z
    refine ⟨xw_wtp w1 (nI (p + 1)), ?_, (xpo_tp _ _).trans h.1, rfl, h.2.2.1, h.2.2.2⟩
    simp only [e_125, o_175, r_125_0, r_125_1, r_125_4, r_125_5, r_125_8, r_125_9, r_125_10, r_125_11, r_125_12, r_125_15, r_125_16, r_125_17, r_125_20, r_125_21, Option.bind_some, Option.bind_none, Option.toList_some, Option.toList_none, List.cons_append, List.nil_append, Option.map_some, Option.map_none, eq_self, if_true, if_false, reduceIte, ai_bi_eq0, ai_bi_eq1, ai_pb_bi, ai_pb_0, ai_pb_1, ea, c1, f_175_5, h.2.1, nI_1, p_175_5]
  · intro z
    have c1 : ¬ nI (c p) = 59 := fun y => z (e59.mp y)
    simp only [e_125, o_175, r_125_0, r_125_1, r_125_4, r_125_5, r_125_8, r_125_9, r_125_10, r_125_11, r_125_12, r_125_15, r_125_16, r_125_17, r_125_20, r_125_21, Option.bind_some, Option.bind_none, Option.toList_some, Option.toList_none, List.cons_append, List.nil_append, Option.map_some, Option.map_none, eq_self, if_true, if_false, reduceIte, ai_bi_eq0, ai_bi_eq1, ai_pb_bi, ai_pb_0, ai_pb_1, ea, c1]
theorem x_tc0 (ht : xt w n c) (h : xq w p Q w1) (hp : p ≤ n) (hQ : Q.length < 35) : ∃ w2, ai_Call 132 [.ref 175] (wl w1) = ai_Run 132 22 [.ref 175, .int (nI (c p))] [] (wl w2) ∧ xp w p Q (c p) [] w2 := by
  have ea := x_ahead (xt_of h.1 ht) hp h.2.1
  have e1 := x_set_ki w1 hQ (nI (c p))
  refine ⟨xw_wtg (xw_wki w1 (upd (xw_ki w1) Q.length (nI (c p)))) 0, ?_, (xpo_gk _ _ _).trans h.1, h.2.1, h.2.2.1, rfl, kx_st_new h.2.2.2 _⟩
  simp only [e_132, o_175, r_132_0, r_132_1, r_132_4, r_132_5, r_132_6, r_132_9, r_132_10, r_132_13, r_132_14, r_132_17, r_132_18, r_132_19, Option.bind_some, Option.bind_none, Option.toList_some, Option.toList_none, List.cons_append, List.nil_append, Option.map_some, Option.map_none, eq_self, if_true, if_false, reduceIte, ai_bi_eq0, ai_bi_eq1, ai_pb_bi, ai_pb_0, ai_pb_1, ea, f_175_1, f_175_4, h.2.2.1, e1, p_175_6]
theorem x_tc_no (hc : kt_g k = none) (hk : k < 1000) : ai_Run 132 22 [.ref 175, .int (nI k)] [] (wl w1) = some (some (.int 0), wl w1) := by
  have ne : ∀ j, j < 1000 → ¬ k = j → ¬ nI k = nI j := fun j hj y z => y ((nI_eq (by omega) (by omega)).mp z)
  unfold kt_g at hc
  by_cases d1 : k = 97
  · rw [if_pos d1] at hc; cases hc
  rw [if_neg d1] at hc
  by_cases d2 : k = 99
  · rw [if_pos d2] at hc; cases hc
  rw [if_neg d2] at hc
  by_cases d3 : k = 100
  · rw [if_pos d3] at hc; cases hc
  rw [if_neg d3] at hc
  by_cases d4 : k = 106
  · rw [if_pos d4] at hc; cases hc
  rw [if_neg d4] at hc
  by_cases d5 : k = 109
  · rw [if_pos d5] at hc; cases hc
  rw [if_neg d5] at hc
  by_cases d6 : k = 111
  · rw [if_pos d6] at hc; cases hc
  rw [if_neg d6] at hc
  by_cases d7 : k = 114
  · rw [if_pos d7] at hc; cases hc
  rw [if_neg d7] at hc
  by_cases d8 : k = 116
  · rw [if_pos d8] at hc; cases hc
  rw [if_neg d8] at hc
  by_cases d9 : k = 119
  · rw [if_pos d9] at hc; cases hc
  rw [if_neg d9] at hc
  by_cases d10 : k = 120
  · rw [if_pos d10] at hc; cases hc
  have f1 : ¬ nI k = 97 := ne 97 (by decide) d1
  have f2 : ¬ nI k = 99 := ne 99 (by decide) d2
  have f3 : ¬ nI k = 100 := ne 100 (by decide) d3
  have f4 : ¬ nI k = 106 := ne 106 (by decide) d4
  have f5 : ¬ nI k = 109 := ne 109 (by decide) d5
  have f6 : ¬ nI k = 111 := ne 111 (by decide) d6
  have f7 : ¬ nI k = 114 := ne 114 (by decide) d7
  have f8 : ¬ nI k = 116 := ne 116 (by decide) d8
  have f9 : ¬ nI k = 119 := ne 119 (by decide) d9
  have f10 : ¬ nI k = 120 := ne 120 (by decide) d10
  simp only [r_132_0, r_132_1, r_132_4, r_132_5, r_132_6, r_132_9, r_132_10, r_132_13, r_132_14, r_132_17, r_132_18, r_132_19, r_132_22, r_132_23, r_132_132, r_132_133, r_132_134, r_132_137, r_132_138, r_132_139, r_132_140, r_132_143, r_132_146, r_132_147, r_132_150, r_132_153, r_132_154, r_132_156, r_132_159, r_132_162, r_132_163, r_132_166, r_132_169, r_132_170, r_132_173, r_132_174, r_132_175, r_132_176, r_132_177, r_132_180, r_132_183, r_132_184, r_132_187, r_132_190, r_132_191, r_132_194, r_132_195, r_132_196, r_132_197, r_132_198, r_132_201, r_132_204, r_132_205, r_132_208, r_132_211, r_132_212, r_132_214, r_132_217, r_132_220, r_132_221, r_132_224, r_132_227, r_132_228, r_132_231, r_132_232, r_132_233, r_132_234, r_132_235, r_132_238, r_132_241, r_132_242, r_132_245, r_132_248, r_132_249, r_132_252, r_132_255, r_132_256, r_132_259, r_132_260, r_132_261, r_132_262, r_132_263, r_132_266, r_132_269, r_132_270, r_132_273, r_132_276, r_132_277, r_132_280, r_132_283, r_132_284, r_132_286, r_132_289, r_132_292, r_132_293, r_132_296, r_132_299, r_132_300, r_132_303, r_132_304, r_132_305, r_132_306, r_132_307, r_132_310, r_132_313, r_132_314, r_132_317, r_132_320, r_132_321, r_132_324, r_132_327, r_132_328, r_132_331, r_132_332, r_132_333, r_132_334, r_132_335, r_132_338, r_132_341, r_132_342, r_132_345, r_132_348, r_132_349, r_132_352, r_132_355, r_132_356, r_132_359, r_132_362, r_132_363, r_132_366, r_132_367, r_132_368, r_132_369, Option.bind_some, Option.bind_none, Option.toList_some, Option.toList_none, List.cons_append, List.nil_append, Option.map_some, Option.map_none, eq_self, if_true, if_false, reduceIte, ai_bi_eq0, ai_bi_eq1, ai_pb_bi, ai_pb_0, ai_pb_1, f1, f2, f3, f4, f5, f6, f7, f8, f9, f10]
theorem x_tc_97 (ht : xt w n c) (h : xp w p Q 97 [] w1) (hc : c p = 97) (hp : p ≤ n) (hQ : Q.length < 35) : xr w Q 97 (kt_s c [] (p + 1) []) (ai_Run 132 22 [.ref 175, .int 97] [] (wl w1)) := by
  have hlt : p + 1 ≤ n := kt_lt ht.1 (p := p) (by omega)
  obtain ⟨wa, ea, ha⟩ := xr_t (x_take ht h hp (x := 97) (by decide)) (if_pos hc)
  have ea : ai_Call 125 [.ref 175, .int 97] (wl w1) = some (some (.int 1), wl wa) := ea
  rw [kt_s]
  refine ⟨wa, ?_, ha.1, ha.2.1, ha.2.2.1, fun _ => ha⟩
  simp only [r_132_0, r_132_1, r_132_4, r_132_5, r_132_6, r_132_9, r_132_10, r_132_13, r_132_14, r_132_17, r_132_18, r_132_19, r_132_22, r_132_23, r_132_132, r_132_133, r_132_134, r_132_137, r_132_138, r_132_139, r_132_140, r_132_143, r_132_146, r_132_147, r_132_150, r_132_153, r_132_154, r_132_156, r_132_159, r_132_162, r_132_163, r_132_166, r_132_169, r_132_170, r_132_173, r_132_174, r_132_175, r_132_176, r_132_177, r_132_180, r_132_183, r_132_184, r_132_187, r_132_190, r_132_191, r_132_194, r_132_195, r_132_196, r_132_197, r_132_198, r_132_201, r_132_204, r_132_205, r_132_208, r_132_211, r_132_212, r_132_214, r_132_217, r_132_220, r_132_221, r_132_224, r_132_227, r_132_228, r_132_231, r_132_232, r_132_233, r_132_234, r_132_235, r_132_238, r_132_241, r_132_242, r_132_245, r_132_248, r_132_249, r_132_252, r_132_255, r_132_256, r_132_259, r_132_260, r_132_261, r_132_262, r_132_263, r_132_266, r_132_269, r_132_270, r_132_273, r_132_276, r_132_277, r_132_280, r_132_283, r_132_284, r_132_286, r_132_289, r_132_292, r_132_293, r_132_296, r_132_299, r_132_300, r_132_303, r_132_304, r_132_305, r_132_306, r_132_307, r_132_310, r_132_313, r_132_314, r_132_317, r_132_320, r_132_321, r_132_324, r_132_327, r_132_328, r_132_331, r_132_332, r_132_333, r_132_334, r_132_335, r_132_338, r_132_341, r_132_342, r_132_345, r_132_348, r_132_349, r_132_352, r_132_355, r_132_356, r_132_359, r_132_362, r_132_363, r_132_366, r_132_367, r_132_368, r_132_369, Option.bind_some, Option.bind_none, Option.toList_some, Option.toList_none, List.cons_append, List.nil_append, Option.map_some, Option.map_none, eq_self, if_true, if_false, reduceIte, ai_bi_eq0, ai_bi_eq1, ai_pb_bi, ai_pb_0, ai_pb_1, ea, show ¬ (1 : Int32) = 0 by decide]
  rfl
theorem x_tc_99 (ht : xt w n c) (h : xp w p Q 99 [] w1) (hc : c p = 99) (hp : p ≤ n) (hQ : Q.length < 35) : xr w Q 99 (kt_s c [] (p + 1) []) (ai_Run 132 22 [.ref 175, .int 99] [] (wl w1)) := by
  have hlt : p + 1 ≤ n := kt_lt ht.1 (p := p) (by omega)
  obtain ⟨wa, ea, ha⟩ := xr_t (x_take ht h hp (x := 99) (by decide)) (if_pos hc)
  have ea : ai_Call 125 [.ref 175, .int 99] (wl w1) = some (some (.int 1), wl wa) := ea
  rw [kt_s]
  refine ⟨wa, ?_, ha.1, ha.2.1, ha.2.2.1, fun _ => ha⟩
  simp only [r_132_0, r_132_1, r_132_4, r_132_5, r_132_6, r_132_9, r_132_10, r_132_13, r_132_14, r_132_17, r_132_18, r_132_19, r_132_22, r_132_23, r_132_132, r_132_133, r_132_134, r_132_137, r_132_138, r_132_139, r_132_140, r_132_143, r_132_146, r_132_147, r_132_150, r_132_153, r_132_154, r_132_156, r_132_159, r_132_162, r_132_163, r_132_166, r_132_169, r_132_170, r_132_173, r_132_174, r_132_175, r_132_176, r_132_177, r_132_180, r_132_183, r_132_184, r_132_187, r_132_190, r_132_191, r_132_194, r_132_195, r_132_196, r_132_197, r_132_198, r_132_201, r_132_204, r_132_205, r_132_208, r_132_211, r_132_212, r_132_214, r_132_217, r_132_220, r_132_221, r_132_224, r_132_227, r_132_228, r_132_231, r_132_232, r_132_233, r_132_234, r_132_235, r_132_238, r_132_241, r_132_242, r_132_245, r_132_248, r_132_249, r_132_252, r_132_255, r_132_256, r_132_259, r_132_260, r_132_261, r_132_262, r_132_263, r_132_266, r_132_269, r_132_270, r_132_273, r_132_276, r_132_277, r_132_280, r_132_283, r_132_284, r_132_286, r_132_289, r_132_292, r_132_293, r_132_296, r_132_299, r_132_300, r_132_303, r_132_304, r_132_305, r_132_306, r_132_307, r_132_310, r_132_313, r_132_314, r_132_317, r_132_320, r_132_321, r_132_324, r_132_327, r_132_328, r_132_331, r_132_332, r_132_333, r_132_334, r_132_335, r_132_338, r_132_341, r_132_342, r_132_345, r_132_348, r_132_349, r_132_352, r_132_355, r_132_356, r_132_359, r_132_362, r_132_363, r_132_366, r_132_367, r_132_368, r_132_369, Option.bind_some, Option.bind_none, Option.toList_some, Option.toList_none, List.cons_append, List.nil_append, Option.map_some, Option.map_none, eq_self, if_true, if_false, reduceIte, ai_bi_eq0, ai_bi_eq1, ai_pb_bi, ai_pb_0, ai_pb_1, show ¬ (99 : Int32) = 97 by decide, ea, show ¬ (1 : Int32) = 0 by decide]
  rfl
theorem x_tc_100 (ht : xt w n c) (h : xp w p Q 100 [] w1) (hc : c p = 100) (hp : p ≤ n) (hQ : Q.length < 35) : xr w Q 100 (kt_s c [0, 64, 1] (p + 1) []) (ai_Run 132 22 [.ref 175, .int 100] [] (wl w1)) := by
  have hlt : p + 1 ≤ n := kt_lt ht.1 (p := p) (by omega)
  obtain ⟨wa, ea, ha⟩ := xr_t (x_take ht h hp (x := 100) (by decide)) (if_pos hc)
  have ea : ai_Call 125 [.ref 175, .int 100] (wl w1) = some (some (.int 1), wl wa) := ea
  have X1 : xr w Q 100 (kt_i c 0 (p + 1) []) (ai_Call 128 [.ref 175] (wl wa)) := x_takeDigit ht ha hlt (by decide) hQ
  have b1 := kt_i_b ht.1 0 hlt []
  rw [kt_s]
  generalize kt_i c 0 (p + 1) [] = r1 at X1 b1 ⊢
  obtain ⟨t1, p1, G1⟩ := r1
  have q1 : p1 ≤ n ∧ G1.length ≤ 1 := ⟨b1.2.1, b1.2.2⟩
  cases t1
  · obtain ⟨w2, e1, j1, j2, j3⟩ := xr_f X1 rfl
    show xr w Q 100 (false, p1, G1) _
    refine ⟨w2, ?_, j1, j2, j3, fun x => by cases x⟩
    simp only [r_132_0, r_132_1, r_132_4, r_132_5, r_132_6, r_132_9, r_132_10, r_132_13, r_132_14, r_132_17, r_132_18, r_132_19, r_132_22, r_132_23, r_132_132, r_132_133, r_132_134, r_132_137, r_132_138, r_132_139, r_132_140, r_132_143, r_132_146, r_132_147, r_132_150, r_132_153, r_132_154, r_132_156, r_132_159, r_132_162, r_132_163, r_132_166, r_132_169, r_132_170, r_132_173, r_132_174, r_132_175, r_132_176, r_132_177, r_132_180, r_132_183, r_132_184, r_132_187, r_132_190, r_132_191, r_132_194, r_132_195, r_132_196, r_132_197, r_132_198, r_132_201, r_132_204, r_132_205, r_132_208, r_132_211, r_132_212, r_132_214, r_132_217, r_132_220, r_132_221, r_132_224, r_132_227, r_132_228, r_132_231, r_132_232, r_132_233, r_132_234, r_132_235, r_132_238, r_132_241, r_132_242, r_132_245, r_132_248, r_132_249, r_132_252, r_132_255, r_132_256, r_132_259, r_132_260, r_132_261, r_132_262, r_132_263, r_132_266, r_132_269, r_132_270, r_132_273, r_132_276, r_132_277, r_132_280, r_132_283, r_132_284, r_132_286, r_132_289, r_132_292, r_132_293, r_132_296, r_132_299, r_132_300, r_132_303, r_132_304, r_132_305, r_132_306, r_132_307, r_132_310, r_132_313, r_132_314, r_132_317, r_132_320, r_132_321, r_132_324, r_132_327, r_132_328, r_132_331, r_132_332, r_132_333, r_132_334, r_132_335, r_132_338, r_132_341, r_132_342, r_132_345, r_132_348, r_132_349, r_132_352, r_132_355, r_132_356, r_132_359, r_132_362, r_132_363, r_132_366, r_132_367, r_132_368, r_132_369, Option.bind_some, Option.bind_none, Option.toList_some, Option.toList_none, List.cons_append, List.nil_append, Option.map_some, Option.map_none, eq_self, if_true, if_false, reduceIte, ai_bi_eq0, ai_bi_eq1, ai_pb_bi, ai_pb_0, ai_pb_1, show ¬ (100 : Int32) = 97 by decide, show ¬ (100 : Int32) = 99 by decide, ea, e1, show ¬ (1 : Int32) = 0 by decide]
    rfl
  obtain ⟨w2, e1, h1⟩ := xr_t X1 rfl
  rw [if_pos rfl]
  show xr w Q 100 (kt_s c [64, 1] p1 G1) _
  have X2 : xr w Q 100 (kt_i c 64 (p1) G1) (ai_Call 125 [.ref 175, .int 64] (wl w2)) := x_take ht h1 q1.1 (x := 64) (by decide)
  have b2 := kt_i_b ht.1 64 q1.1 G1
  have g2 := kt_i_g (c := c) (i := 64) (p := p1) (G := G1)
  rw [kt_s]
  generalize kt_i c 64 (p1) G1 = r2 at X2 b2 g2 ⊢
  obtain ⟨t2, p2, G2⟩ := r2
  have q2 : p2 ≤ n ∧ G2.length ≤ G1.length + 1 := ⟨b2.2.1, b2.2.2⟩
  have u2 : G2.length = G1.length := g2.2 (by decide)
  cases t2
  · obtain ⟨w3, e2, j1, j2, j3⟩ := xr_f X2 rfl
    show xr w Q 100 (false, p2, G2) _
    refine ⟨w3, ?_, j1, j2, j3, fun x => by cases x⟩
    simp only [r_132_0, r_132_1, r_132_4, r_132_5, r_132_6, r_132_9, r_132_10, r_132_13, r_132_14, r_132_17, r_132_18, r_132_19, r_132_22, r_132_23, r_132_132, r_132_133, r_132_134, r_132_137, r_132_138, r_132_139, r_132_140, r_132_143, r_132_146, r_132_147, r_132_150, r_132_153, r_132_154, r_132_156, r_132_159, r_132_162, r_132_163, r_132_166, r_132_169, r_132_170, r_132_173, r_132_174, r_132_175, r_132_176, r_132_177, r_132_180, r_132_183, r_132_184, r_132_187, r_132_190, r_132_191, r_132_194, r_132_195, r_132_196, r_132_197, r_132_198, r_132_201, r_132_204, r_132_205, r_132_208, r_132_211, r_132_212, r_132_214, r_132_217, r_132_220, r_132_221, r_132_224, r_132_227, r_132_228, r_132_231, r_132_232, r_132_233, r_132_234, r_132_235, r_132_238, r_132_241, r_132_242, r_132_245, r_132_248, r_132_249, r_132_252, r_132_255, r_132_256, r_132_259, r_132_260, r_132_261, r_132_262, r_132_263, r_132_266, r_132_269, r_132_270, r_132_273, r_132_276, r_132_277, r_132_280, r_132_283, r_132_284, r_132_286, r_132_289, r_132_292, r_132_293, r_132_296, r_132_299, r_132_300, r_132_303, r_132_304, r_132_305, r_132_306, r_132_307, r_132_310, r_132_313, r_132_314, r_132_317, r_132_320, r_132_321, r_132_324, r_132_327, r_132_328, r_132_331, r_132_332, r_132_333, r_132_334, r_132_335, r_132_338, r_132_341, r_132_342, r_132_345, r_132_348, r_132_349, r_132_352, r_132_355, r_132_356, r_132_359, r_132_362, r_132_363, r_132_366, r_132_367, r_132_368, r_132_369, Option.bind_some, Option.bind_none, Option.toList_some, Option.toList_none, List.cons_append, List.nil_append, Option.map_some, Option.map_none, eq_self, if_true, if_false, reduceIte, ai_bi_eq0, ai_bi_eq1, ai_pb_bi, ai_pb_0, ai_pb_1, show ¬ (100 : Int32) = 97 by decide, show ¬ (100 : Int32) = 99 by decide, ea, e1, e2, show ¬ (1 : Int32) = 0 by decide]
    rfl
  obtain ⟨w3, e2, h2⟩ := xr_t X2 rfl
  rw [if_pos rfl]
  show xr w Q 100 (kt_s c [1] p2 G2) _
  have X3 : xr w Q 100 (kt_i c 1 (p2) G2) (ai_Call 129 [.ref 175] (wl w3)) := x_takeNumber ht h2 q2.1 (by omega) hQ
  have b3 := kt_i_b ht.1 1 q2.1 G2
  rw [kt_s]
  generalize kt_i c 1 (p2) G2 = r3 at X3 b3 ⊢
  obtain ⟨t3, p3, G3⟩ := r3
  have q3 : p3 ≤ n ∧ G3.length ≤ G2.length + 1 := ⟨b3.2.1, b3.2.2⟩
  cases t3
  · obtain ⟨w4, e3, j1, j2, j3⟩ := xr_f X3 rfl
    show xr w Q 100 (false, p3, G3) _
    refine ⟨w4, ?_, j1, j2, j3, fun x => by cases x⟩
    simp only [r_132_0, r_132_1, r_132_4, r_132_5, r_132_6, r_132_9, r_132_10, r_132_13, r_132_14, r_132_17, r_132_18, r_132_19, r_132_22, r_132_23, r_132_132, r_132_133, r_132_134, r_132_137, r_132_138, r_132_139, r_132_140, r_132_143, r_132_146, r_132_147, r_132_150, r_132_153, r_132_154, r_132_156, r_132_159, r_132_162, r_132_163, r_132_166, r_132_169, r_132_170, r_132_173, r_132_174, r_132_175, r_132_176, r_132_177, r_132_180, r_132_183, r_132_184, r_132_187, r_132_190, r_132_191, r_132_194, r_132_195, r_132_196, r_132_197, r_132_198, r_132_201, r_132_204, r_132_205, r_132_208, r_132_211, r_132_212, r_132_214, r_132_217, r_132_220, r_132_221, r_132_224, r_132_227, r_132_228, r_132_231, r_132_232, r_132_233, r_132_234, r_132_235, r_132_238, r_132_241, r_132_242, r_132_245, r_132_248, r_132_249, r_132_252, r_132_255, r_132_256, r_132_259, r_132_260, r_132_261, r_132_262, r_132_263, r_132_266, r_132_269, r_132_270, r_132_273, r_132_276, r_132_277, r_132_280, r_132_283, r_132_284, r_132_286, r_132_289, r_132_292, r_132_293, r_132_296, r_132_299, r_132_300, r_132_303, r_132_304, r_132_305, r_132_306, r_132_307, r_132_310, r_132_313, r_132_314, r_132_317, r_132_320, r_132_321, r_132_324, r_132_327, r_132_328, r_132_331, r_132_332, r_132_333, r_132_334, r_132_335, r_132_338, r_132_341, r_132_342, r_132_345, r_132_348, r_132_349, r_132_352, r_132_355, r_132_356, r_132_359, r_132_362, r_132_363, r_132_366, r_132_367, r_132_368, r_132_369, Option.bind_some, Option.bind_none, Option.toList_some, Option.toList_none, List.cons_append, List.nil_append, Option.map_some, Option.map_none, eq_self, if_true, if_false, reduceIte, ai_bi_eq0, ai_bi_eq1, ai_pb_bi, ai_pb_0, ai_pb_1, show ¬ (100 : Int32) = 97 by decide, show ¬ (100 : Int32) = 99 by decide, ea, e1, e2, e3, show ¬ (1 : Int32) = 0 by decide]
    rfl
  obtain ⟨w4, e3, h3⟩ := xr_t X3 rfl
  rw [if_pos rfl]
  show xr w Q 100 (kt_s c [] p3 G3) _
  rw [kt_s]
  refine ⟨w4, ?_, h3.1, h3.2.1, h3.2.2.1, fun _ => h3⟩
  simp only [r_132_0, r_132_1, r_132_4, r_132_5, r_132_6, r_132_9, r_132_10, r_132_13, r_132_14, r_132_17, r_132_18, r_132_19, r_132_22, r_132_23, r_132_132, r_132_133, r_132_134, r_132_137, r_132_138, r_132_139, r_132_140, r_132_143, r_132_146, r_132_147, r_132_150, r_132_153, r_132_154, r_132_156, r_132_159, r_132_162, r_132_163, r_132_166, r_132_169, r_132_170, r_132_173, r_132_174, r_132_175, r_132_176, r_132_177, r_132_180, r_132_183, r_132_184, r_132_187, r_132_190, r_132_191, r_132_194, r_132_195, r_132_196, r_132_197, r_132_198, r_132_201, r_132_204, r_132_205, r_132_208, r_132_211, r_132_212, r_132_214, r_132_217, r_132_220, r_132_221, r_132_224, r_132_227, r_132_228, r_132_231, r_132_232, r_132_233, r_132_234, r_132_235, r_132_238, r_132_241, r_132_242, r_132_245, r_132_248, r_132_249, r_132_252, r_132_255, r_132_256, r_132_259, r_132_260, r_132_261, r_132_262, r_132_263, r_132_266, r_132_269, r_132_270, r_132_273, r_132_276, r_132_277, r_132_280, r_132_283, r_132_284, r_132_286, r_132_289, r_132_292, r_132_293, r_132_296, r_132_299, r_132_300, r_132_303, r_132_304, r_132_305, r_132_306, r_132_307, r_132_310, r_132_313, r_132_314, r_132_317, r_132_320, r_132_321, r_132_324, r_132_327, r_132_328, r_132_331, r_132_332, r_132_333, r_132_334, r_132_335, r_132_338, r_132_341, r_132_342, r_132_345, r_132_348, r_132_349, r_132_352, r_132_355, r_132_356, r_132_359, r_132_362, r_132_363, r_132_366, r_132_367, r_132_368, r_132_369, Option.bind_some, Option.bind_none, Option.toList_some, Option.toList_none, List.cons_append, List.nil_append, Option.map_some, Option.map_none, eq_self, if_true, if_false, reduceIte, ai_bi_eq0, ai_bi_eq1, ai_pb_bi, ai_pb_0, ai_pb_1, show ¬ (100 : Int32) = 97 by decide, show ¬ (100 : Int32) = 99 by decide, ea, e1, e2, e3, show ¬ (1 : Int32) = 0 by decide]
  rfl
theorem x_tc_106 (ht : xt w n c) (h : xp w p Q 106 [] w1) (hc : c p = 106) (hp : p ≤ n) (hQ : Q.length < 35) : xr w Q 106 (kt_s c [0, 3] (p + 1) []) (ai_Run 132 22 [.ref 175, .int 106] [] (wl w1)) := by
  have hlt : p + 1 ≤ n := kt_lt ht.1 (p := p) (by omega)
  obtain ⟨wa, ea, ha⟩ := xr_t (x_take ht h hp (x := 106) (by decide)) (if_pos hc)
  have ea : ai_Call 125 [.ref 175, .int 106] (wl w1) = some (some (.int 1), wl wa) := ea
  have X1 : xr w Q 106 (kt_i c 0 (p + 1) []) (ai_Call 128 [.ref 175] (wl wa)) := x_takeDigit ht ha hlt (by decide) hQ
  have b1 := kt_i_b ht.1 0 hlt []
  rw [kt_s]
  generalize kt_i c 0 (p + 1) [] = r1 at X1 b1 ⊢
  obtain ⟨t1, p1, G1⟩ := r1
  have q1 : p1 ≤ n ∧ G1.length ≤ 1 := ⟨b1.2.1, b1.2.2⟩
  cases t1
  · obtain ⟨w2, e1, j1, j2, j3⟩ := xr_f X1 rfl
    show xr w Q 106 (false, p1, G1) _
    refine ⟨w2, ?_, j1, j2, j3, fun x => by cases x⟩
    simp only [r_132_0, r_132_1, r_132_4, r_132_5, r_132_6, r_132_9, r_132_10, r_132_13, r_132_14, r_132_17, r_132_18, r_132_19, r_132_22, r_132_23, r_132_132, r_132_133, r_132_134, r_132_137, r_132_138, r_132_139, r_132_140, r_132_143, r_132_146, r_132_147, r_132_150, r_132_153, r_132_154, r_132_156, r_132_159, r_132_162, r_132_163, r_132_166, r_132_169, r_132_170, r_132_173, r_132_174, r_132_175, r_132_176, r_132_177, r_132_180, r_132_183, r_132_184, r_132_187, r_132_190, r_132_191, r_132_194, r_132_195, r_132_196, r_132_197, r_132_198, r_132_201, r_132_204, r_132_205, r_132_208, r_132_211, r_132_212, r_132_214, r_132_217, r_132_220, r_132_221, r_132_224, r_132_227, r_132_228, r_132_231, r_132_232, r_132_233, r_132_234, r_132_235, r_132_238, r_132_241, r_132_242, r_132_245, r_132_248, r_132_249, r_132_252, r_132_255, r_132_256, r_132_259, r_132_260, r_132_261, r_132_262, r_132_263, r_132_266, r_132_269, r_132_270, r_132_273, r_132_276, r_132_277, r_132_280, r_132_283, r_132_284, r_132_286, r_132_289, r_132_292, r_132_293, r_132_296, r_132_299, r_132_300, r_132_303, r_132_304, r_132_305, r_132_306, r_132_307, r_132_310, r_132_313, r_132_314, r_132_317, r_132_320, r_132_321, r_132_324, r_132_327, r_132_328, r_132_331, r_132_332, r_132_333, r_132_334, r_132_335, r_132_338, r_132_341, r_132_342, r_132_345, r_132_348, r_132_349, r_132_352, r_132_355, r_132_356, r_132_359, r_132_362, r_132_363, r_132_366, r_132_367, r_132_368, r_132_369, Option.bind_some, Option.bind_none, Option.toList_some, Option.toList_none, List.cons_append, List.nil_append, Option.map_some, Option.map_none, eq_self, if_true, if_false, reduceIte, ai_bi_eq0, ai_bi_eq1, ai_pb_bi, ai_pb_0, ai_pb_1, show ¬ (106 : Int32) = 97 by decide, show ¬ (106 : Int32) = 99 by decide, show ¬ (106 : Int32) = 100 by decide, ea, e1, show ¬ (1 : Int32) = 0 by decide]
    rfl
  obtain ⟨w2, e1, h1⟩ := xr_t X1 rfl
  rw [if_pos rfl]
  show xr w Q 106 (kt_s c [3] p1 G1) _
  have X2 : xr w Q 106 (kt_i c 3 (p1) G1) (ai_Call 131 [.ref 175] (wl w2)) := x_takeSM ht h1 q1.1 (by omega) hQ
  have b2 := kt_i_b ht.1 3 q1.1 G1
  rw [kt_s]
  generalize kt_i c 3 (p1) G1 = r2 at X2 b2 ⊢
  obtain ⟨t2, p2, G2⟩ := r2
  have q2 : p2 ≤ n ∧ G2.length ≤ G1.length + 1 := ⟨b2.2.1, b2.2.2⟩
  cases t2
  · obtain ⟨w3, e2, j1, j2, j3⟩ := xr_f X2 rfl
    show xr w Q 106 (false, p2, G2) _
    refine ⟨w3, ?_, j1, j2, j3, fun x => by cases x⟩
    simp only [r_132_0, r_132_1, r_132_4, r_132_5, r_132_6, r_132_9, r_132_10, r_132_13, r_132_14, r_132_17, r_132_18, r_132_19, r_132_22, r_132_23, r_132_132, r_132_133, r_132_134, r_132_137, r_132_138, r_132_139, r_132_140, r_132_143, r_132_146, r_132_147, r_132_150, r_132_153, r_132_154, r_132_156, r_132_159, r_132_162, r_132_163, r_132_166, r_132_169, r_132_170, r_132_173, r_132_174, r_132_175, r_132_176, r_132_177, r_132_180, r_132_183, r_132_184, r_132_187, r_132_190, r_132_191, r_132_194, r_132_195, r_132_196, r_132_197, r_132_198, r_132_201, r_132_204, r_132_205, r_132_208, r_132_211, r_132_212, r_132_214, r_132_217, r_132_220, r_132_221, r_132_224, r_132_227, r_132_228, r_132_231, r_132_232, r_132_233, r_132_234, r_132_235, r_132_238, r_132_241, r_132_242, r_132_245, r_132_248, r_132_249, r_132_252, r_132_255, r_132_256, r_132_259, r_132_260, r_132_261, r_132_262, r_132_263, r_132_266, r_132_269, r_132_270, r_132_273, r_132_276, r_132_277, r_132_280, r_132_283, r_132_284, r_132_286, r_132_289, r_132_292, r_132_293, r_132_296, r_132_299, r_132_300, r_132_303, r_132_304, r_132_305, r_132_306, r_132_307, r_132_310, r_132_313, r_132_314, r_132_317, r_132_320, r_132_321, r_132_324, r_132_327, r_132_328, r_132_331, r_132_332, r_132_333, r_132_334, r_132_335, r_132_338, r_132_341, r_132_342, r_132_345, r_132_348, r_132_349, r_132_352, r_132_355, r_132_356, r_132_359, r_132_362, r_132_363, r_132_366, r_132_367, r_132_368, r_132_369, Option.bind_some, Option.bind_none, Option.toList_some, Option.toList_none, List.cons_append, List.nil_append, Option.map_some, Option.map_none, eq_self, if_true, if_false, reduceIte, ai_bi_eq0, ai_bi_eq1, ai_pb_bi, ai_pb_0, ai_pb_1, show ¬ (106 : Int32) = 97 by decide, show ¬ (106 : Int32) = 99 by decide, show ¬ (106 : Int32) = 100 by decide, ea, e1, e2, show ¬ (1 : Int32) = 0 by decide]
    rfl
  obtain ⟨w3, e2, h2⟩ := xr_t X2 rfl
  rw [if_pos rfl]
  show xr w Q 106 (kt_s c [] p2 G2) _
  rw [kt_s]
  refine ⟨w3, ?_, h2.1, h2.2.1, h2.2.2.1, fun _ => h2⟩
  simp only [r_132_0, r_132_1, r_132_4, r_132_5, r_132_6, r_132_9, r_132_10, r_132_13, r_132_14, r_132_17, r_132_18, r_132_19, r_132_22, r_132_23, r_132_132, r_132_133, r_132_134, r_132_137, r_132_138, r_132_139, r_132_140, r_132_143, r_132_146, r_132_147, r_132_150, r_132_153, r_132_154, r_132_156, r_132_159, r_132_162, r_132_163, r_132_166, r_132_169, r_132_170, r_132_173, r_132_174, r_132_175, r_132_176, r_132_177, r_132_180, r_132_183, r_132_184, r_132_187, r_132_190, r_132_191, r_132_194, r_132_195, r_132_196, r_132_197, r_132_198, r_132_201, r_132_204, r_132_205, r_132_208, r_132_211, r_132_212, r_132_214, r_132_217, r_132_220, r_132_221, r_132_224, r_132_227, r_132_228, r_132_231, r_132_232, r_132_233, r_132_234, r_132_235, r_132_238, r_132_241, r_132_242, r_132_245, r_132_248, r_132_249, r_132_252, r_132_255, r_132_256, r_132_259, r_132_260, r_132_261, r_132_262, r_132_263, r_132_266, r_132_269, r_132_270, r_132_273, r_132_276, r_132_277, r_132_280, r_132_283, r_132_284, r_132_286, r_132_289, r_132_292, r_132_293, r_132_296, r_132_299, r_132_300, r_132_303, r_132_304, r_132_305, r_132_306, r_132_307, r_132_310, r_132_313, r_132_314, r_132_317, r_132_320, r_132_321, r_132_324, r_132_327, r_132_328, r_132_331, r_132_332, r_132_333, r_132_334, r_132_335, r_132_338, r_132_341, r_132_342, r_132_345, r_132_348, r_132_349, r_132_352, r_132_355, r_132_356, r_132_359, r_132_362, r_132_363, r_132_366, r_132_367, r_132_368, r_132_369, Option.bind_some, Option.bind_none, Option.toList_some, Option.toList_none, List.cons_append, List.nil_append, Option.map_some, Option.map_none, eq_self, if_true, if_false, reduceIte, ai_bi_eq0, ai_bi_eq1, ai_pb_bi, ai_pb_0, ai_pb_1, show ¬ (106 : Int32) = 97 by decide, show ¬ (106 : Int32) = 99 by decide, show ¬ (106 : Int32) = 100 by decide, ea, e1, e2, show ¬ (1 : Int32) = 0 by decide]
  rfl
theorem x_tc_109 (ht : xt w n c) (h : xp w p Q 109 [] w1) (hc : c p = 109) (hp : p ≤ n) (hQ : Q.length < 35) : xr w Q 109 (kt_s c [0, 0, 61, 0] (p + 1) []) (ai_Run 132 22 [.ref 175, .int 109] [] (wl w1)) := by
  have hlt : p + 1 ≤ n := kt_lt ht.1 (p := p) (by omega)
  obtain ⟨wa, ea, ha⟩ := xr_t (x_take ht h hp (x := 109) (by decide)) (if_pos hc)
  have ea : ai_Call 125 [.ref 175, .int 109] (wl w1) = some (some (.int 1), wl wa) := ea
  have X1 : xr w Q 109 (kt_i c 0 (p + 1) []) (ai_Call 128 [.ref 175] (wl wa)) := x_takeDigit ht ha hlt (by decide) hQ
  have b1 := kt_i_b ht.1 0 hlt []
  rw [kt_s]
  generalize kt_i c 0 (p + 1) [] = r1 at X1 b1 ⊢
  obtain ⟨t1, p1, G1⟩ := r1
  have q1 : p1 ≤ n ∧ G1.length ≤ 1 := ⟨b1.2.1, b1.2.2⟩
  cases t1
  · obtain ⟨w2, e1, j1, j2, j3⟩ := xr_f X1 rfl
    show xr w Q 109 (false, p1, G1) _
    refine ⟨w2, ?_, j1, j2, j3, fun x => by cases x⟩
    simp only [r_132_0, r_132_1, r_132_4, r_132_5, r_132_6, r_132_9, r_132_10, r_132_13, r_132_14, r_132_17, r_132_18, r_132_19, r_132_22, r_132_23, r_132_132, r_132_133, r_132_134, r_132_137, r_132_138, r_132_139, r_132_140, r_132_143, r_132_146, r_132_147, r_132_150, r_132_153, r_132_154, r_132_156, r_132_159, r_132_162, r_132_163, r_132_166, r_132_169, r_132_170, r_132_173, r_132_174, r_132_175, r_132_176, r_132_177, r_132_180, r_132_183, r_132_184, r_132_187, r_132_190, r_132_191, r_132_194, r_132_195, r_132_196, r_132_197, r_132_198, r_132_201, r_132_204, r_132_205, r_132_208, r_132_211, r_132_212, r_132_214, r_132_217, r_132_220, r_132_221, r_132_224, r_132_227, r_132_228, r_132_231, r_132_232, r_132_233, r_132_234, r_132_235, r_132_238, r_132_241, r_132_242, r_132_245, r_132_248, r_132_249, r_132_252, r_132_255, r_132_256, r_132_259, r_132_260, r_132_261, r_132_262, r_132_263, r_132_266, r_132_269, r_132_270, r_132_273, r_132_276, r_132_277, r_132_280, r_132_283, r_132_284, r_132_286, r_132_289, r_132_292, r_132_293, r_132_296, r_132_299, r_132_300, r_132_303, r_132_304, r_132_305, r_132_306, r_132_307, r_132_310, r_132_313, r_132_314, r_132_317, r_132_320, r_132_321, r_132_324, r_132_327, r_132_328, r_132_331, r_132_332, r_132_333, r_132_334, r_132_335, r_132_338, r_132_341, r_132_342, r_132_345, r_132_348, r_132_349, r_132_352, r_132_355, r_132_356, r_132_359, r_132_362, r_132_363, r_132_366, r_132_367, r_132_368, r_132_369, Option.bind_some, Option.bind_none, Option.toList_some, Option.toList_none, List.cons_append, List.nil_append, Option.map_some, Option.map_none, eq_self, if_true, if_false, reduceIte, ai_bi_eq0, ai_bi_eq1, ai_pb_bi, ai_pb_0, ai_pb_1, show ¬ (109 : Int32) = 97 by decide, show ¬ (109 : Int32) = 99 by decide, show ¬ (109 : Int32) = 100 by decide, show ¬ (109 : Int32) = 106 by decide, ea, e1, show ¬ (1 : Int32) = 0 by decide]
    rfl
  obtain ⟨w2, e1, h1⟩ := xr_t X1 rfl
  rw [if_pos rfl]
  show xr w Q 109 (kt_s c [0, 61, 0] p1 G1) _
  have X2 : xr w Q 109 (kt_i c 0 (p1) G1) (ai_Call 128 [.ref 175] (wl w2)) := x_takeDigit ht h1 q1.1 (by omega) hQ
  have b2 := kt_i_b ht.1 0 q1.1 G1
  rw [kt_s]
  generalize kt_i c 0 (p1) G1 = r2 at X2 b2 ⊢
  obtain ⟨t2, p2, G2⟩ := r2
  have q2 : p2 ≤ n ∧ G2.length ≤ G1.length + 1 := ⟨b2.2.1, b2.2.2⟩
  cases t2
  · obtain ⟨w3, e2, j1, j2, j3⟩ := xr_f X2 rfl
    show xr w Q 109 (false, p2, G2) _
    refine ⟨w3, ?_, j1, j2, j3, fun x => by cases x⟩
    simp only [r_132_0, r_132_1, r_132_4, r_132_5, r_132_6, r_132_9, r_132_10, r_132_13, r_132_14, r_132_17, r_132_18, r_132_19, r_132_22, r_132_23, r_132_132, r_132_133, r_132_134, r_132_137, r_132_138, r_132_139, r_132_140, r_132_143, r_132_146, r_132_147, r_132_150, r_132_153, r_132_154, r_132_156, r_132_159, r_132_162, r_132_163, r_132_166, r_132_169, r_132_170, r_132_173, r_132_174, r_132_175, r_132_176, r_132_177, r_132_180, r_132_183, r_132_184, r_132_187, r_132_190, r_132_191, r_132_194, r_132_195, r_132_196, r_132_197, r_132_198, r_132_201, r_132_204, r_132_205, r_132_208, r_132_211, r_132_212, r_132_214, r_132_217, r_132_220, r_132_221, r_132_224, r_132_227, r_132_228, r_132_231, r_132_232, r_132_233, r_132_234, r_132_235, r_132_238, r_132_241, r_132_242, r_132_245, r_132_248, r_132_249, r_132_252, r_132_255, r_132_256, r_132_259, r_132_260, r_132_261, r_132_262, r_132_263, r_132_266, r_132_269, r_132_270, r_132_273, r_132_276, r_132_277, r_132_280, r_132_283, r_132_284, r_132_286, r_132_289, r_132_292, r_132_293, r_132_296, r_132_299, r_132_300, r_132_303, r_132_304, r_132_305, r_132_306, r_132_307, r_132_310, r_132_313, r_132_314, r_132_317, r_132_320, r_132_321, r_132_324, r_132_327, r_132_328, r_132_331, r_132_332, r_132_333, r_132_334, r_132_335, r_132_338, r_132_341, r_132_342, r_132_345, r_132_348, r_132_349, r_132_352, r_132_355, r_132_356, r_132_359, r_132_362, r_132_363, r_132_366, r_132_367, r_132_368, r_132_369, Option.bind_some, Option.bind_none, Option.toList_some, Option.toList_none, List.cons_append, List.nil_append, Option.map_some, Option.map_none, eq_self, if_true, if_false, reduceIte, ai_bi_eq0, ai_bi_eq1, ai_pb_bi, ai_pb_0, ai_pb_1, show ¬ (109 : Int32) = 97 by decide, show ¬ (109 : Int32) = 99 by decide, show ¬ (109 : Int32) = 100 by decide, show ¬ (109 : Int32) = 106 by decide, ea, e1, e2, show ¬ (1 : Int32) = 0 by decide]
    rfl
  obtain ⟨w3, e2, h2⟩ := xr_t X2 rfl
  rw [if_pos rfl]
  show xr w Q 109 (kt_s c [61, 0] p2 G2) _
  have X3 : xr w Q 109 (kt_i c 61 (p2) G2) (ai_Call 125 [.ref 175, .int 61] (wl w3)) := x_take ht h2 q2.1 (x := 61) (by decide)
  have b3 := kt_i_b ht.1 61 q2.1 G2
  have g3 := kt_i_g (c := c) (i := 61) (p := p2) (G := G2)
  rw [kt_s]
  generalize kt_i c 61 (p2) G2 = r3 at X3 b3 g3 ⊢
  obtain ⟨t3, p3, G3⟩ := r3
  have q3 : p3 ≤ n ∧ G3.length ≤ G2.length + 1 := ⟨b3.2.1, b3.2.2⟩
  have u3 : G3.length = G2.length := g3.2 (by decide)
  cases t3
  · obtain ⟨w4, e3, j1, j2, j3⟩ := xr_f X3 rfl
    show xr w Q 109 (false, p3, G3) _
    refine ⟨w4, ?_, j1, j2, j3, fun x => by cases x⟩
    simp only [r_132_0, r_132_1, r_132_4, r_132_5, r_132_6, r_132_9, r_132_10, r_132_13, r_132_14, r_132_17, r_132_18, r_132_19, r_132_22, r_132_23, r_132_132, r_132_133, r_132_134, r_132_137, r_132_138, r_132_139, r_132_140, r_132_143, r_132_146, r_132_147, r_132_150, r_132_153, r_132_154, r_132_156, r_132_159, r_132_162, r_132_163, r_132_166, r_132_169, r_132_170, r_132_173, r_132_174, r_132_175, r_132_176, r_132_177, r_132_180, r_132_183, r_132_184, r_132_187, r_132_190, r_132_191, r_132_194, r_132_195, r_132_196, r_132_197, r_132_198, r_132_201, r_132_204, r_132_205, r_132_208, r_132_211, r_132_212, r_132_214, r_132_217, r_132_220, r_132_221, r_132_224, r_132_227, r_132_228, r_132_231, r_132_232, r_132_233, r_132_234, r_132_235, r_132_238, r_132_241, r_132_242, r_132_245, r_132_248, r_132_249, r_132_252, r_132_255, r_132_256, r_132_259, r_132_260, r_132_261, r_132_262, r_132_263, r_132_266, r_132_269, r_132_270, r_132_273, r_132_276, r_132_277, r_132_280, r_132_283, r_132_284, r_132_286, r_132_289, r_132_292, r_132_293, r_132_296, r_132_299, r_132_300, r_132_303, r_132_304, r_132_305, r_132_306, r_132_307, r_132_310, r_132_313, r_132_314, r_132_317, r_132_320, r_132_321, r_132_324, r_132_327, r_132_328, r_132_331, r_132_332, r_132_333, r_132_334, r_132_335, r_132_338, r_132_341, r_132_342, r_132_345, r_132_348, r_132_349, r_132_352, r_132_355, r_132_356, r_132_359, r_132_362, r_132_363, r_132_366, r_132_367, r_132_368, r_132_369, Option.bind_some, Option.bind_none, Option.toList_some, Option.toList_none, List.cons_append, List.nil_append, Option.map_some, Option.map_none, eq_self, if_true, if_false, reduceIte, ai_bi_eq0, ai_bi_eq1, ai_pb_bi, ai_pb_0, ai_pb_1, show ¬ (109 : Int32) = 97 by decide, show ¬ (109 : Int32) = 99 by decide, show ¬ (109 : Int32) = 100 by decide, show ¬ (109 : Int32) = 106 by decide, ea, e1, e2, e3, show ¬ (1 : Int32) = 0 by decide]
    rfl
  obtain ⟨w4, e3, h3⟩ := xr_t X3 rfl
  rw [if_pos rfl]
  show xr w Q 109 (kt_s c [0] p3 G3) _
  have X4 : xr w Q 109 (kt_i c 0 (p3) G3) (ai_Call 128 [.ref 175] (wl w4)) := x_takeDigit ht h3 q3.1 (by omega) hQ
  have b4 := kt_i_b ht.1 0 q3.1 G3
  rw [kt_s]
  generalize kt_i c 0 (p3) G3 = r4 at X4 b4 ⊢
  obtain ⟨t4, p4, G4⟩ := r4
  have q4 : p4 ≤ n ∧ G4.length ≤ G3.length + 1 := ⟨b4.2.1, b4.2.2⟩
  cases t4
  · obtain ⟨w5, e4, j1, j2, j3⟩ := xr_f X4 rfl
    show xr w Q 109 (false, p4, G4) _
    refine ⟨w5, ?_, j1, j2, j3, fun x => by cases x⟩
    simp only [r_132_0, r_132_1, r_132_4, r_132_5, r_132_6, r_132_9, r_132_10, r_132_13, r_132_14, r_132_17, r_132_18, r_132_19, r_132_22, r_132_23, r_132_132, r_132_133, r_132_134, r_132_137, r_132_138, r_132_139, r_132_140, r_132_143, r_132_146, r_132_147, r_132_150, r_132_153, r_132_154, r_132_156, r_132_159, r_132_162, r_132_163, r_132_166, r_132_169, r_132_170, r_132_173, r_132_174, r_132_175, r_132_176, r_132_177, r_132_180, r_132_183, r_132_184, r_132_187, r_132_190, r_132_191, r_132_194, r_132_195, r_132_196, r_132_197, r_132_198, r_132_201, r_132_204, r_132_205, r_132_208, r_132_211, r_132_212, r_132_214, r_132_217, r_132_220, r_132_221, r_132_224, r_132_227, r_132_228, r_132_231, r_132_232, r_132_233, r_132_234, r_132_235, r_132_238, r_132_241, r_132_242, r_132_245, r_132_248, r_132_249, r_132_252, r_132_255, r_132_256, r_132_259, r_132_260, r_132_261, r_132_262, r_132_263, r_132_266, r_132_269, r_132_270, r_132_273, r_132_276, r_132_277, r_132_280, r_132_283, r_132_284, r_132_286, r_132_289, r_132_292, r_132_293, r_132_296, r_132_299, r_132_300, r_132_303, r_132_304, r_132_305, r_132_306, r_132_307, r_132_310, r_132_313, r_132_314, r_132_317, r_132_320, r_132_321, r_132_324, r_132_327, r_132_328, r_132_331, r_132_332, r_132_333, r_132_334, r_132_335, r_132_338, r_132_341, r_132_342, r_132_345, r_132_348, r_132_349, r_132_352, r_132_355, r_132_356, r_132_359, r_132_362, r_132_363, r_132_366, r_132_367, r_132_368, r_132_369, Option.bind_some, Option.bind_none, Option.toList_some, Option.toList_none, List.cons_append, List.nil_append, Option.map_some, Option.map_none, eq_self, if_true, if_false, reduceIte, ai_bi_eq0, ai_bi_eq1, ai_pb_bi, ai_pb_0, ai_pb_1, show ¬ (109 : Int32) = 97 by decide, show ¬ (109 : Int32) = 99 by decide, show ¬ (109 : Int32) = 100 by decide, show ¬ (109 : Int32) = 106 by decide, ea, e1, e2, e3, e4, show ¬ (1 : Int32) = 0 by decide]
    rfl
  obtain ⟨w5, e4, h4⟩ := xr_t X4 rfl
  rw [if_pos rfl]
  show xr w Q 109 (kt_s c [] p4 G4) _
  rw [kt_s]
  refine ⟨w5, ?_, h4.1, h4.2.1, h4.2.2.1, fun _ => h4⟩
  simp only [r_132_0, r_132_1, r_132_4, r_132_5, r_132_6, r_132_9, r_132_10, r_132_13, r_132_14, r_132_17, r_132_18, r_132_19, r_132_22, r_132_23, r_132_132, r_132_133, r_132_134, r_132_137, r_132_138, r_132_139, r_132_140, r_132_143, r_132_146, r_132_147, r_132_150, r_132_153, r_132_154, r_132_156, r_132_159, r_132_162, r_132_163, r_132_166, r_132_169, r_132_170, r_132_173, r_132_174, r_132_175, r_132_176, r_132_177, r_132_180, r_132_183, r_132_184, r_132_187, r_132_190, r_132_191, r_132_194, r_132_195, r_132_196, r_132_197, r_132_198, r_132_201, r_132_204, r_132_205, r_132_208, r_132_211, r_132_212, r_132_214, r_132_217, r_132_220, r_132_221, r_132_224, r_132_227, r_132_228, r_132_231, r_132_232, r_132_233, r_132_234, r_132_235, r_132_238, r_132_241, r_132_242, r_132_245, r_132_248, r_132_249, r_132_252, r_132_255, r_132_256, r_132_259, r_132_260, r_132_261, r_132_262, r_132_263, r_132_266, r_132_269, r_132_270, r_132_273, r_132_276, r_132_277, r_132_280, r_132_283, r_132_284, r_132_286, r_132_289, r_132_292, r_132_293, r_132_296, r_132_299, r_132_300, r_132_303, r_132_304, r_132_305, r_132_306, r_132_307, r_132_310, r_132_313, r_132_314, r_132_317, r_132_320, r_132_321, r_132_324, r_132_327, r_132_328, r_132_331, r_132_332, r_132_333, r_132_334, r_132_335, r_132_338, r_132_341, r_132_342, r_132_345, r_132_348, r_132_349, r_132_352, r_132_355, r_132_356, r_132_359, r_132_362, r_132_363, r_132_366, r_132_367, r_132_368, r_132_369, Option.bind_some, Option.bind_none, Option.toList_some, Option.toList_none, List.cons_append, List.nil_append, Option.map_some, Option.map_none, eq_self, if_true, if_false, reduceIte, ai_bi_eq0, ai_bi_eq1, ai_pb_bi, ai_pb_0, ai_pb_1, show ¬ (109 : Int32) = 97 by decide, show ¬ (109 : Int32) = 99 by decide, show ¬ (109 : Int32) = 100 by decide, show ¬ (109 : Int32) = 106 by decide, ea, e1, e2, e3, e4, show ¬ (1 : Int32) = 0 by decide]
  rfl
theorem x_tc_111 (ht : xt w n c) (h : xp w p Q 111 [] w1) (hc : c p = 111) (hp : p ≤ n) (hQ : Q.length < 35) : xr w Q 111 (kt_s c [0, 2] (p + 1) []) (ai_Run 132 22 [.ref 175, .int 111] [] (wl w1)) := by
  have hlt : p + 1 ≤ n := kt_lt ht.1 (p := p) (by omega)
  obtain ⟨wa, ea, ha⟩ := xr_t (x_take ht h hp (x := 111) (by decide)) (if_pos hc)
  have ea : ai_Call 125 [.ref 175, .int 111] (wl w1) = some (some (.int 1), wl wa) := ea
  have X1 : xr w Q 111 (kt_i c 0 (p + 1) []) (ai_Call 128 [.ref 175] (wl wa)) := x_takeDigit ht ha hlt (by decide) hQ
  have b1 := kt_i_b ht.1 0 hlt []
  rw [kt_s]
  generalize kt_i c 0 (p + 1) [] = r1 at X1 b1 ⊢
  obtain ⟨t1, p1, G1⟩ := r1
  have q1 : p1 ≤ n ∧ G1.length ≤ 1 := ⟨b1.2.1, b1.2.2⟩
  cases t1
  · obtain ⟨w2, e1, j1, j2, j3⟩ := xr_f X1 rfl
    show xr w Q 111 (false, p1, G1) _
    refine ⟨w2, ?_, j1, j2, j3, fun x => by cases x⟩
    simp only [r_132_0, r_132_1, r_132_4, r_132_5, r_132_6, r_132_9, r_132_10, r_132_13, r_132_14, r_132_17, r_132_18, r_132_19, r_132_22, r_132_23, r_132_132, r_132_133, r_132_134, r_132_137, r_132_138, r_132_139, r_132_140, r_132_143, r_132_146, r_132_147, r_132_150, r_132_153, r_132_154, r_132_156, r_132_159, r_132_162, r_132_163, r_132_166, r_132_169, r_132_170, r_132_173, r_132_174, r_132_175, r_132_176, r_132_177, r_132_180, r_132_183, r_132_184, r_132_187, r_132_190, r_132_191, r_132_194, r_132_195, r_132_196, r_132_197, r_132_198, r_132_201, r_132_204, r_132_205, r_132_208, r_132_211, r_132_212, r_132_214, r_132_217, r_132_220, r_132_221, r_132_224, r_132_227, r_132_228, r_132_231, r_132_232, r_132_233, r_132_234, r_132_235, r_132_238, r_132_241, r_132_242, r_132_245, r_132_248, r_132_249, r_132_252, r_132_255, r_132_256, r_132_259, r_132_260, r_132_261, r_132_262, r_132_263, r_132_266, r_132_269, r_132_270, r_132_273, r_132_276, r_132_277, r_132_280, r_132_283, r_132_284, r_132_286, r_132_289, r_132_292, r_132_293, r_132_296, r_132_299, r_132_300, r_132_303, r_132_304, r_132_305, r_132_306, r_132_307, r_132_310, r_132_313, r_132_314, r_132_317, r_132_320, r_132_321, r_132_324, r_132_327, r_132_328, r_132_331, r_132_332, r_132_333, r_132_334, r_132_335, r_132_338, r_132_341, r_132_342, r_132_345, r_132_348, r_132_349, r_132_352, r_132_355, r_132_356, r_132_359, r_132_362, r_132_363, r_132_366, r_132_367, r_132_368, r_132_369, Option.bind_some, Option.bind_none, Option.toList_some, Option.toList_none, List.cons_append, List.nil_append, Option.map_some, Option.map_none, eq_self, if_true, if_false, reduceIte, ai_bi_eq0, ai_bi_eq1, ai_pb_bi, ai_pb_0, ai_pb_1, show ¬ (111 : Int32) = 97 by decide, show ¬ (111 : Int32) = 99 by decide, show ¬ (111 : Int32) = 100 by decide, show ¬ (111 : Int32) = 106 by decide, show ¬ (111 : Int32) = 109 by decide, ea, e1, show ¬ (1 : Int32) = 0 by decide]
    rfl
  obtain ⟨w2, e1, h1⟩ := xr_t X1 rfl
  rw [if_pos rfl]
  show xr w Q 111 (kt_s c [2] p1 G1) _
  have X2 : xr w Q 111 (kt_i c 2 (p1) G1) (ai_Call 130 [.ref 175] (wl w2)) := x_takePM ht h1 q1.1 (by omega) hQ
  have b2 := kt_i_b ht.1 2 q1.1 G1
  rw [kt_s]
  generalize kt_i c 2 (p1) G1 = r2 at X2 b2 ⊢
  obtain ⟨t2, p2, G2⟩ := r2
  have q2 : p2 ≤ n ∧ G2.length ≤ G1.length + 1 := ⟨b2.2.1, b2.2.2⟩
  cases t2
  · obtain ⟨w3, e2, j1, j2, j3⟩ := xr_f X2 rfl
    show xr w Q 111 (false, p2, G2) _
    refine ⟨w3, ?_, j1, j2, j3, fun x => by cases x⟩
    simp only [r_132_0, r_132_1, r_132_4, r_132_5, r_132_6, r_132_9, r_132_10, r_132_13, r_132_14, r_132_17, r_132_18, r_132_19, r_132_22, r_132_23, r_132_132, r_132_133, r_132_134, r_132_137, r_132_138, r_132_139, r_132_140, r_132_143, r_132_146, r_132_147, r_132_150, r_132_153, r_132_154, r_132_156, r_132_159, r_132_162, r_132_163, r_132_166, r_132_169, r_132_170, r_132_173, r_132_174, r_132_175, r_132_176, r_132_177, r_132_180, r_132_183, r_132_184, r_132_187, r_132_190, r_132_191, r_132_194, r_132_195, r_132_196, r_132_197, r_132_198, r_132_201, r_132_204, r_132_205, r_132_208, r_132_211, r_132_212, r_132_214, r_132_217, r_132_220, r_132_221, r_132_224, r_132_227, r_132_228, r_132_231, r_132_232, r_132_233, r_132_234, r_132_235, r_132_238, r_132_241, r_132_242, r_132_245, r_132_248, r_132_249, r_132_252, r_132_255, r_132_256, r_132_259, r_132_260, r_132_261, r_132_262, r_132_263, r_132_266, r_132_269, r_132_270, r_132_273, r_132_276, r_132_277, r_132_280, r_132_283, r_132_284, r_132_286, r_132_289, r_132_292, r_132_293, r_132_296, r_132_299, r_132_300, r_132_303, r_132_304, r_132_305, r_132_306, r_132_307, r_132_310, r_132_313, r_132_314, r_132_317, r_132_320, r_132_321, r_132_324, r_132_327, r_132_328, r_132_331, r_132_332, r_132_333, r_132_334, r_132_335, r_132_338, r_132_341, r_132_342, r_132_345, r_132_348, r_132_349, r_132_352, r_132_355, r_132_356, r_132_359, r_132_362, r_132_363, r_132_366, r_132_367, r_132_368, r_132_369, Option.bind_some, Option.bind_none, Option.toList_some, Option.toList_none, List.cons_append, List.nil_append, Option.map_some, Option.map_none, eq_self, if_true, if_false, reduceIte, ai_bi_eq0, ai_bi_eq1, ai_pb_bi, ai_pb_0, ai_pb_1, show ¬ (111 : Int32) = 97 by decide, show ¬ (111 : Int32) = 99 by decide, show ¬ (111 : Int32) = 100 by decide, show ¬ (111 : Int32) = 106 by decide, show ¬ (111 : Int32) = 109 by decide, ea, e1, e2, show ¬ (1 : Int32) = 0 by decide]
    rfl
  obtain ⟨w3, e2, h2⟩ := xr_t X2 rfl
  rw [if_pos rfl]
  show xr w Q 111 (kt_s c [] p2 G2) _
  rw [kt_s]
  refine ⟨w3, ?_, h2.1, h2.2.1, h2.2.2.1, fun _ => h2⟩
  simp only [r_132_0, r_132_1, r_132_4, r_132_5, r_132_6, r_132_9, r_132_10, r_132_13, r_132_14, r_132_17, r_132_18, r_132_19, r_132_22, r_132_23, r_132_132, r_132_133, r_132_134, r_132_137, r_132_138, r_132_139, r_132_140, r_132_143, r_132_146, r_132_147, r_132_150, r_132_153, r_132_154, r_132_156, r_132_159, r_132_162, r_132_163, r_132_166, r_132_169, r_132_170, r_132_173, r_132_174, r_132_175, r_132_176, r_132_177, r_132_180, r_132_183, r_132_184, r_132_187, r_132_190, r_132_191, r_132_194, r_132_195, r_132_196, r_132_197, r_132_198, r_132_201, r_132_204, r_132_205, r_132_208, r_132_211, r_132_212, r_132_214, r_132_217, r_132_220, r_132_221, r_132_224, r_132_227, r_132_228, r_132_231, r_132_232, r_132_233, r_132_234, r_132_235, r_132_238, r_132_241, r_132_242, r_132_245, r_132_248, r_132_249, r_132_252, r_132_255, r_132_256, r_132_259, r_132_260, r_132_261, r_132_262, r_132_263, r_132_266, r_132_269, r_132_270, r_132_273, r_132_276, r_132_277, r_132_280, r_132_283, r_132_284, r_132_286, r_132_289, r_132_292, r_132_293, r_132_296, r_132_299, r_132_300, r_132_303, r_132_304, r_132_305, r_132_306, r_132_307, r_132_310, r_132_313, r_132_314, r_132_317, r_132_320, r_132_321, r_132_324, r_132_327, r_132_328, r_132_331, r_132_332, r_132_333, r_132_334, r_132_335, r_132_338, r_132_341, r_132_342, r_132_345, r_132_348, r_132_349, r_132_352, r_132_355, r_132_356, r_132_359, r_132_362, r_132_363, r_132_366, r_132_367, r_132_368, r_132_369, Option.bind_some, Option.bind_none, Option.toList_some, Option.toList_none, List.cons_append, List.nil_append, Option.map_some, Option.map_none, eq_self, if_true, if_false, reduceIte, ai_bi_eq0, ai_bi_eq1, ai_pb_bi, ai_pb_0, ai_pb_1, show ¬ (111 : Int32) = 97 by decide, show ¬ (111 : Int32) = 99 by decide, show ¬ (111 : Int32) = 100 by decide, show ¬ (111 : Int32) = 106 by decide, show ¬ (111 : Int32) = 109 by decide, ea, e1, e2, show ¬ (1 : Int32) = 0 by decide]
  rfl
theorem x_tc_114 (ht : xt w n c) (h : xp w p Q 114 [] w1) (hc : c p = 114) (hp : p ≤ n) (hQ : Q.length < 35) : xr w Q 114 (kt_s c [0, 64, 1] (p + 1) []) (ai_Run 132 22 [.ref 175, .int 114] [] (wl w1)) := by
  have hlt : p + 1 ≤ n := kt_lt ht.1 (p := p) (by omega)
  obtain ⟨wa, ea, ha⟩ := xr_t (x_take ht h hp (x := 114) (by decide)) (if_pos hc)
  have ea : ai_Call 125 [.ref 175, .int 114] (wl w1) = some (some (.int 1), wl wa) := ea
  have X1 : xr w Q 114 (kt_i c 0 (p + 1) []) (ai_Call 128 [.ref 175] (wl wa)) := x_takeDigit ht ha hlt (by decide) hQ
  have b1 := kt_i_b ht.1 0 hlt []
  rw [kt_s]
  generalize kt_i c 0 (p + 1) [] = r1 at X1 b1 ⊢
  obtain ⟨t1, p1, G1⟩ := r1
  have q1 : p1 ≤ n ∧ G1.length ≤ 1 := ⟨b1.2.1, b1.2.2⟩
  cases t1
  · obtain ⟨w2, e1, j1, j2, j3⟩ := xr_f X1 rfl
    show xr w Q 114 (false, p1, G1) _
    refine ⟨w2, ?_, j1, j2, j3, fun x => by cases x⟩
    simp only [r_132_0, r_132_1, r_132_4, r_132_5, r_132_6, r_132_9, r_132_10, r_132_13, r_132_14, r_132_17, r_132_18, r_132_19, r_132_22, r_132_23, r_132_132, r_132_133, r_132_134, r_132_137, r_132_138, r_132_139, r_132_140, r_132_143, r_132_146, r_132_147, r_132_150, r_132_153, r_132_154, r_132_156, r_132_159, r_132_162, r_132_163, r_132_166, r_132_169, r_132_170, r_132_173, r_132_174, r_132_175, r_132_176, r_132_177, r_132_180, r_132_183, r_132_184, r_132_187, r_132_190, r_132_191, r_132_194, r_132_195, r_132_196, r_132_197, r_132_198, r_132_201, r_132_204, r_132_205, r_132_208, r_132_211, r_132_212, r_132_214, r_132_217, r_132_220, r_132_221, r_132_224, r_132_227, r_132_228, r_132_231, r_132_232, r_132_233, r_132_234, r_132_235, r_132_238, r_132_241, r_132_242, r_132_245, r_132_248, r_132_249, r_132_252, r_132_255, r_132_256, r_132_259, r_132_260, r_132_261, r_132_262, r_132_263, r_132_266, r_132_269, r_132_270, r_132_273, r_132_276, r_132_277, r_132_280, r_132_283, r_132_284, r_132_286, r_132_289, r_132_292, r_132_293, r_132_296, r_132_299, r_132_300, r_132_303, r_132_304, r_132_305, r_132_306, r_132_307, r_132_310, r_132_313, r_132_314, r_132_317, r_132_320, r_132_321, r_132_324, r_132_327, r_132_328, r_132_331, r_132_332, r_132_333, r_132_334, r_132_335, r_132_338, r_132_341, r_132_342, r_132_345, r_132_348, r_132_349, r_132_352, r_132_355, r_132_356, r_132_359, r_132_362, r_132_363, r_132_366, r_132_367, r_132_368, r_132_369, Option.bind_some, Option.bind_none, Option.toList_some, Option.toList_none, List.cons_append, List.nil_append, Option.map_some, Option.map_none, eq_self, if_true, if_false, reduceIte, ai_bi_eq0, ai_bi_eq1, ai_pb_bi, ai_pb_0, ai_pb_1, show ¬ (114 : Int32) = 97 by decide, show ¬ (114 : Int32) = 99 by decide, show ¬ (114 : Int32) = 100 by decide, show ¬ (114 : Int32) = 106 by decide, show ¬ (114 : Int32) = 109 by decide, show ¬ (114 : Int32) = 111 by decide, ea, e1, show ¬ (1 : Int32) = 0 by decide]
    rfl
  obtain ⟨w2, e1, h1⟩ := xr_t X1 rfl
  rw [if_pos rfl]
  show xr w Q 114 (kt_s c [64, 1] p1 G1) _
  have X2 : xr w Q 114 (kt_i c 64 (p1) G1) (ai_Call 125 [.ref 175, .int 64] (wl w2)) := x_take ht h1 q1.1 (x := 64) (by decide)
  have b2 := kt_i_b ht.1 64 q1.1 G1
  have g2 := kt_i_g (c := c) (i := 64) (p := p1) (G := G1)
  rw [kt_s]
  generalize kt_i c 64 (p1) G1 = r2 at X2 b2 g2 ⊢
  obtain ⟨t2, p2, G2⟩ := r2
  have q2 : p2 ≤ n ∧ G2.length ≤ G1.length + 1 := ⟨b2.2.1, b2.2.2⟩
  have u2 : G2.length = G1.length := g2.2 (by decide)
  cases t2
  · obtain ⟨w3, e2, j1, j2, j3⟩ := xr_f X2 rfl
    show xr w Q 114 (false, p2, G2) _
    refine ⟨w3, ?_, j1, j2, j3, fun x => by cases x⟩
    simp only [r_132_0, r_132_1, r_132_4, r_132_5, r_132_6, r_132_9, r_132_10, r_132_13, r_132_14, r_132_17, r_132_18, r_132_19, r_132_22, r_132_23, r_132_132, r_132_133, r_132_134, r_132_137, r_132_138, r_132_139, r_132_140, r_132_143, r_132_146, r_132_147, r_132_150, r_132_153, r_132_154, r_132_156, r_132_159, r_132_162, r_132_163, r_132_166, r_132_169, r_132_170, r_132_173, r_132_174, r_132_175, r_132_176, r_132_177, r_132_180, r_132_183, r_132_184, r_132_187, r_132_190, r_132_191, r_132_194, r_132_195, r_132_196, r_132_197, r_132_198, r_132_201, r_132_204, r_132_205, r_132_208, r_132_211, r_132_212, r_132_214, r_132_217, r_132_220, r_132_221, r_132_224, r_132_227, r_132_228, r_132_231, r_132_232, r_132_233, r_132_234, r_132_235, r_132_238, r_132_241, r_132_242, r_132_245, r_132_248, r_132_249, r_132_252, r_132_255, r_132_256, r_132_259, r_132_260, r_132_261, r_132_262, r_132_263, r_132_266, r_132_269, r_132_270, r_132_273, r_132_276, r_132_277, r_132_280, r_132_283, r_132_284, r_132_286, r_132_289, r_132_292, r_132_293, r_132_296, r_132_299, r_132_300, r_132_303, r_132_304, r_132_305, r_132_306, r_132_307, r_132_310, r_132_313, r_132_314, r_132_317, r_132_320, r_132_321, r_132_324, r_132_327, r_132_328, r_132_331, r_132_332, r_132_333, r_132_334, r_132_335, r_132_338, r_132_341, r_132_342, r_132_345, r_132_348, r_132_349, r_132_352, r_132_355, r_132_356, r_132_359, r_132_362, r_132_363, r_132_366, r_132_367, r_132_368, r_132_369, Option.bind_some, Option.bind_none, Option.toList_some, Option.toList_none, List.cons_append, List.nil_append, Option.map_some, Option.map_none, eq_self, if_true, if_false, reduceIte, ai_bi_eq0, ai_bi_eq1, ai_pb_bi, ai_pb_0, ai_pb_1, show ¬ (114 : Int32) = 97 by decide, show ¬ (114 : Int32) = 99 by decide, show ¬ (114 : Int32) = 100 by decide, show ¬ (114 : Int32) = 106 by decide, show ¬ (114 : Int32) = 109 by decide, show ¬ (114 : Int32) = 111 by decide, ea, e1, e2, show ¬ (1 : Int32) = 0 by decide]
    rfl
  obtain ⟨w3, e2, h2⟩ := xr_t X2 rfl
  rw [if_pos rfl]
  show xr w Q 114 (kt_s c [1] p2 G2) _
  have X3 : xr w Q 114 (kt_i c 1 (p2) G2) (ai_Call 129 [.ref 175] (wl w3)) := x_takeNumber ht h2 q2.1 (by omega) hQ
  have b3 := kt_i_b ht.1 1 q2.1 G2
  rw [kt_s]
  generalize kt_i c 1 (p2) G2 = r3 at X3 b3 ⊢
  obtain ⟨t3, p3, G3⟩ := r3
  have q3 : p3 ≤ n ∧ G3.length ≤ G2.length + 1 := ⟨b3.2.1, b3.2.2⟩
  cases t3
  · obtain ⟨w4, e3, j1, j2, j3⟩ := xr_f X3 rfl
    show xr w Q 114 (false, p3, G3) _
    refine ⟨w4, ?_, j1, j2, j3, fun x => by cases x⟩
    simp only [r_132_0, r_132_1, r_132_4, r_132_5, r_132_6, r_132_9, r_132_10, r_132_13, r_132_14, r_132_17, r_132_18, r_132_19, r_132_22, r_132_23, r_132_132, r_132_133, r_132_134, r_132_137, r_132_138, r_132_139, r_132_140, r_132_143, r_132_146, r_132_147, r_132_150, r_132_153, r_132_154, r_132_156, r_132_159, r_132_162, r_132_163, r_132_166, r_132_169, r_132_170, r_132_173, r_132_174, r_132_175, r_132_176, r_132_177, r_132_180, r_132_183, r_132_184, r_132_187, r_132_190, r_132_191, r_132_194, r_132_195, r_132_196, r_132_197, r_132_198, r_132_201, r_132_204, r_132_205, r_132_208, r_132_211, r_132_212, r_132_214, r_132_217, r_132_220, r_132_221, r_132_224, r_132_227, r_132_228, r_132_231, r_132_232, r_132_233, r_132_234, r_132_235, r_132_238, r_132_241, r_132_242, r_132_245, r_132_248, r_132_249, r_132_252, r_132_255, r_132_256, r_132_259, r_132_260, r_132_261, r_132_262, r_132_263, r_132_266, r_132_269, r_132_270, r_132_273, r_132_276, r_132_277, r_132_280, r_132_283, r_132_284, r_132_286, r_132_289, r_132_292, r_132_293, r_132_296, r_132_299, r_132_300, r_132_303, r_132_304, r_132_305, r_132_306, r_132_307, r_132_310, r_132_313, r_132_314, r_132_317, r_132_320, r_132_321, r_132_324, r_132_327, r_132_328, r_132_331, r_132_332, r_132_333, r_132_334, r_132_335, r_132_338, r_132_341, r_132_342, r_132_345, r_132_348, r_132_349, r_132_352, r_132_355, r_132_356, r_132_359, r_132_362, r_132_363, r_132_366, r_132_367, r_132_368, r_132_369, Option.bind_some, Option.bind_none, Option.toList_some, Option.toList_none, List.cons_append, List.nil_append, Option.map_some, Option.map_none, eq_self, if_true, if_false, reduceIte, ai_bi_eq0, ai_bi_eq1, ai_pb_bi, ai_pb_0, ai_pb_1, show ¬ (114 : Int32) = 97 by decide, show ¬ (114 : Int32) = 99 by decide, show ¬ (114 : Int32) = 100 by decide, show ¬ (114 : Int32) = 106 by decide, show ¬ (114 : Int32) = 109 by decide, show ¬ (114 : Int32) = 111 by decide, ea, e1, e2, e3, show ¬ (1 : Int32) = 0 by decide]
    rfl
  obtain ⟨w4, e3, h3⟩ := xr_t X3 rfl
  rw [if_pos rfl]
  show xr w Q 114 (kt_s c [] p3 G3) _
  rw [kt_s]
  refine ⟨w4, ?_, h3.1, h3.2.1, h3.2.2.1, fun _ => h3⟩
  simp only [r_132_0, r_132_1, r_132_4, r_132_5, r_132_6, r_132_9, r_132_10, r_132_13, r_132_14, r_132_17, r_132_18, r_132_19, r_132_22, r_132_23, r_132_132, r_132_133, r_132_134, r_132_137, r_132_138, r_132_139, r_132_140, r_132_143, r_132_146, r_132_147, r_132_150, r_132_153, r_132_154, r_132_156, r_132_159, r_132_162, r_132_163, r_132_166, r_132_169, r_132_170, r_132_173, r_132_174, r_132_175, r_132_176, r_132_177, r_132_180, r_132_183, r_132_184, r_132_187, r_132_190, r_132_191, r_132_194, r_132_195, r_132_196, r_132_197, r_132_198, r_132_201, r_132_204, r_132_205, r_132_208, r_132_211, r_132_212, r_132_214, r_132_217, r_132_220, r_132_221, r_132_224, r_132_227, r_132_228, r_132_231, r_132_232, r_132_233, r_132_234, r_132_235, r_132_238, r_132_241, r_132_242, r_132_245, r_132_248, r_132_249, r_132_252, r_132_255, r_132_256, r_132_259, r_132_260, r_132_261, r_132_262, r_132_263, r_132_266, r_132_269, r_132_270, r_132_273, r_132_276, r_132_277, r_132_280, r_132_283, r_132_284, r_132_286, r_132_289, r_132_292, r_132_293, r_132_296, r_132_299, r_132_300, r_132_303, r_132_304, r_132_305, r_132_306, r_132_307, r_132_310, r_132_313, r_132_314, r_132_317, r_132_320, r_132_321, r_132_324, r_132_327, r_132_328, r_132_331, r_132_332, r_132_333, r_132_334, r_132_335, r_132_338, r_132_341, r_132_342, r_132_345, r_132_348, r_132_349, r_132_352, r_132_355, r_132_356, r_132_359, r_132_362, r_132_363, r_132_366, r_132_367, r_132_368, r_132_369, Option.bind_some, Option.bind_none, Option.toList_some, Option.toList_none, List.cons_append, List.nil_append, Option.map_some, Option.map_none, eq_self, if_true, if_false, reduceIte, ai_bi_eq0, ai_bi_eq1, ai_pb_bi, ai_pb_0, ai_pb_1, show ¬ (114 : Int32) = 97 by decide, show ¬ (114 : Int32) = 99 by decide, show ¬ (114 : Int32) = 100 by decide, show ¬ (114 : Int32) = 106 by decide, show ¬ (114 : Int32) = 109 by decide, show ¬ (114 : Int32) = 111 by decide, ea, e1, e2, e3, show ¬ (1 : Int32) = 0 by decide]
  rfl
theorem x_tc_116 (ht : xt w n c) (h : xp w p Q 116 [] w1) (hc : c p = 116) (hp : p ≤ n) (hQ : Q.length < 35) : xr w Q 116 (kt_s c [0, 0, 0] (p + 1) []) (ai_Run 132 22 [.ref 175, .int 116] [] (wl w1)) := by
  have hlt : p + 1 ≤ n := kt_lt ht.1 (p := p) (by omega)
  obtain ⟨wa, ea, ha⟩ := xr_t (x_take ht h hp (x := 116) (by decide)) (if_pos hc)
  have ea : ai_Call 125 [.ref 175, .int 116] (wl w1) = some (some (.int 1), wl wa) := ea
  have X1 : xr w Q 116 (kt_i c 0 (p + 1) []) (ai_Call 128 [.ref 175] (wl wa)) := x_takeDigit ht ha hlt (by decide) hQ
  have b1 := kt_i_b ht.1 0 hlt []
  rw [kt_s]
  generalize kt_i c 0 (p + 1) [] = r1 at X1 b1 ⊢
  obtain ⟨t1, p1, G1⟩ := r1
  have q1 : p1 ≤ n ∧ G1.length ≤ 1 := ⟨b1.2.1, b1.2.2⟩
  cases t1
  · obtain ⟨w2, e1, j1, j2, j3⟩ := xr_f X1 rfl
    show xr w Q 116 (false, p1, G1) _
    refine ⟨w2, ?_, j1, j2, j3, fun x => by cases x⟩
    simp only [r_132_0, r_132_1, r_132_4, r_132_5, r_132_6, r_132_9, r_132_10, r_132_13, r_132_14, r_132_17, r_132_18, r_132_19, r_132_22, r_132_23, r_132_132, r_132_133, r_132_134, r_132_137, r_132_138, r_132_139, r_132_140, r_132_143, r_132_146, r_132_147, r_132_150, r_132_153, r_132_154, r_132_156, r_132_159, r_132_162, r_132_163, r_132_166, r_132_169, r_132_170, r_132_173, r_132_174, r_132_175, r_132_176, r_132_177, r_132_180, r_132_183, r_132_184, r_132_187, r_132_190, r_132_191, r_132_194, r_132_195, r_132_196, r_132_197, r_132_198, r_132_201, r_132_204, r_132_205, r_132_208, r_132_211, r_132_212, r_132_214, r_132_217, r_132_220, r_132_221, r_132_224, r_132_227, r_132_228, r_132_231, r_132_232, r_132_233, r_132_234, r_132_235, r_132_238, r_132_241, r_132_242, r_132_245, r_132_248, r_132_249, r_132_252, r_132_255, r_132_256, r_132_259, r_132_260, r_132_261, r_132_262, r_132_263, r_132_266, r_132_269, r_132_270, r_132_273, r_132_276, r_132_277, r_132_280, r_132_283, r_132_284, r_132_286, r_132_289, r_132_292, r_132_293, r_132_296, r_132_299, r_132_300, r_132_303, r_132_304, r_132_305, r_132_306, r_132_307, r_132_310, r_132_313, r_132_314, r_132_317, r_132_320, r_132_321, r_132_324, r_132_327, r_132_328, r_132_331, r_132_332, r_132_333, r_132_334, r_132_335, r_132_338, r_132_341, r_132_342, r_132_345, r_132_348, r_132_349, r_132_352, r_132_355, r_132_356, r_132_359, r_132_362, r_132_363, r_132_366, r_132_367, r_132_368, r_132_369, Option.bind_some, Option.bind_none, Option.toList_some, Option.toList_none, List.cons_append, List.nil_append, Option.map_some, Option.map_none, eq_self, if_true, if_false, reduceIte, ai_bi_eq0, ai_bi_eq1, ai_pb_bi, ai_pb_0, ai_pb_1, show ¬ (116 : Int32) = 97 by decide, show ¬ (116 : Int32) = 99 by decide, show ¬ (116 : Int32) = 100 by decide, show ¬ (116 : Int32) = 106 by decide, show ¬ (116 : Int32) = 109 by decide, show ¬ (116 : Int32) = 111 by decide, show ¬ (116 : Int32) = 114 by decide, ea, e1, show ¬ (1 : Int32) = 0 by decide]
    rfl
  obtain ⟨w2, e1, h1⟩ := xr_t X1 rfl
  rw [if_pos rfl]
  show xr w Q 116 (kt_s c [0, 0] p1 G1) _
  have X2 : xr w Q 116 (kt_i c 0 (p1) G1) (ai_Call 128 [.ref 175] (wl w2)) := x_takeDigit ht h1 q1.1 (by omega) hQ
  have b2 := kt_i_b ht.1 0 q1.1 G1
  rw [kt_s]
  generalize kt_i c 0 (p1) G1 = r2 at X2 b2 ⊢
  obtain ⟨t2, p2, G2⟩ := r2
  have q2 : p2 ≤ n ∧ G2.length ≤ G1.length + 1 := ⟨b2.2.1, b2.2.2⟩
  cases t2
  · obtain ⟨w3, e2, j1, j2, j3⟩ := xr_f X2 rfl
    show xr w Q 116 (false, p2, G2) _
    refine ⟨w3, ?_, j1, j2, j3, fun x => by cases x⟩
    simp only [r_132_0, r_132_1, r_132_4, r_132_5, r_132_6, r_132_9, r_132_10, r_132_13, r_132_14, r_132_17, r_132_18, r_132_19, r_132_22, r_132_23, r_132_132, r_132_133, r_132_134, r_132_137, r_132_138, r_132_139, r_132_140, r_132_143, r_132_146, r_132_147, r_132_150, r_132_153, r_132_154, r_132_156, r_132_159, r_132_162, r_132_163, r_132_166, r_132_169, r_132_170, r_132_173, r_132_174, r_132_175, r_132_176, r_132_177, r_132_180, r_132_183, r_132_184, r_132_187, r_132_190, r_132_191, r_132_194, r_132_195, r_132_196, r_132_197, r_132_198, r_132_201, r_132_204, r_132_205, r_132_208, r_132_211, r_132_212, r_132_214, r_132_217, r_132_220, r_132_221, r_132_224, r_132_227, r_132_228, r_132_231, r_132_232, r_132_233, r_132_234, r_132_235, r_132_238, r_132_241, r_132_242, r_132_245, r_132_248, r_132_249, r_132_252, r_132_255, r_132_256, r_132_259, r_132_260, r_132_261, r_132_262, r_132_263, r_132_266, r_132_269, r_132_270, r_132_273, r_132_276, r_132_277, r_132_280, r_132_283, r_132_284, r_132_286, r_132_289, r_132_292, r_132_293, r_132_296, r_132_299, r_132_300, r_132_303, r_132_304, r_132_305, r_132_306, r_132_307, r_132_310, r_132_313, r_132_314, r_132_317, r_132_320, r_132_321, r_132_324, r_132_327, r_132_328, r_132_331, r_132_332, r_132_333, r_132_334, r_132_335, r_132_338, r_132_341, r_132_342, r_132_345, r_132_348, r_132_349, r_132_352, r_132_355, r_132_356, r_132_359, r_132_362, r_132_363, r_132_366, r_132_367, r_132_368, r_132_369, Option.bind_some, Option.bind_none, Option.toList_some, Option.toList_none, List.cons_append, List.nil_append, Option.map_some, Option.map_none, eq_self, if_true, if_false, reduceIte, ai_bi_eq0, ai_bi_eq1, ai_pb_bi, ai_pb_0, ai_pb_1, show ¬ (116 : Int32) = 97 by decide, show ¬ (116 : Int32) = 99 by decide, show ¬ (116 : Int32) = 100 by decide, show ¬ (116 : Int32) = 106 by decide, show ¬ (116 : Int32) = 109 by decide, show ¬ (116 : Int32) = 111 by decide, show ¬ (116 : Int32) = 114 by decide, ea, e1, e2, show ¬ (1 : Int32) = 0 by decide]
    rfl
  obtain ⟨w3, e2, h2⟩ := xr_t X2 rfl
  rw [if_pos rfl]
  show xr w Q 116 (kt_s c [0] p2 G2) _
  have X3 : xr w Q 116 (kt_i c 0 (p2) G2) (ai_Call 128 [.ref 175] (wl w3)) := x_takeDigit ht h2 q2.1 (by omega) hQ
  have b3 := kt_i_b ht.1 0 q2.1 G2
  rw [kt_s]
  generalize kt_i c 0 (p2) G2 = r3 at X3 b3 ⊢
  obtain ⟨t3, p3, G3⟩ := r3
  have q3 : p3 ≤ n ∧ G3.length ≤ G2.length + 1 := ⟨b3.2.1, b3.2.2⟩
  cases t3
  · obtain ⟨w4, e3, j1, j2, j3⟩ := xr_f X3 rfl
    show xr w Q 116 (false, p3, G3) _
    refine ⟨w4, ?_, j1, j2, j3, fun x => by cases x⟩
    simp only [r_132_0, r_132_1, r_132_4, r_132_5, r_132_6, r_132_9, r_132_10, r_132_13, r_132_14, r_132_17, r_132_18, r_132_19, r_132_22, r_132_23, r_132_132, r_132_133, r_132_134, r_132_137, r_132_138, r_132_139, r_132_140, r_132_143, r_132_146, r_132_147, r_132_150, r_132_153, r_132_154, r_132_156, r_132_159, r_132_162, r_132_163, r_132_166, r_132_169, r_132_170, r_132_173, r_132_174, r_132_175, r_132_176, r_132_177, r_132_180, r_132_183, r_132_184, r_132_187, r_132_190, r_132_191, r_132_194, r_132_195, r_132_196, r_132_197, r_132_198, r_132_201, r_132_204, r_132_205, r_132_208, r_132_211, r_132_212, r_132_214, r_132_217, r_132_220, r_132_221, r_132_224, r_132_227, r_132_228, r_132_231, r_132_232, r_132_233, r_132_234, r_132_235, r_132_238, r_132_241, r_132_242, r_132_245, r_132_248, r_132_249, r_132_252, r_132_255, r_132_256, r_132_259, r_132_260, r_132_261, r_132_262, r_132_263, r_132_266, r_132_269, r_132_270, r_132_273, r_132_276, r_132_277, r_132_280, r_132_283, r_132_284, r_132_286, r_132_289, r_132_292, r_132_293, r_132_296, r_132_299, r_132_300, r_132_303, r_132_304, r_132_305, r_132_306, r_132_307, r_132_310, r_132_313, r_132_314, r_132_317, r_132_320, r_132_321, r_132_324, r_132_327, r_132_328, r_132_331, r_132_332, r_132_333, r_132_334, r_132_335, r_132_338, r_132_341, r_132_342, r_132_345, r_132_348, r_132_349, r_132_352, r_132_355, r_132_356, r_132_359, r_132_362, r_132_363, r_132_366, r_132_367, r_132_368, r_132_369, Option.bind_some, Option.bind_none, Option.toList_some, Option.toList_none, List.cons_append, List.nil_append, Option.map_some, Option.map_none, eq_self, if_true, if_false, reduceIte, ai_bi_eq0, ai_bi_eq1, ai_pb_bi, ai_pb_0, ai_pb_1, show ¬ (116 : Int32) = 97 by decide, show ¬ (116 : Int32) = 99 by decide, show ¬ (116 : Int32) = 100 by decide, show ¬ (116 : Int32) = 106 by decide, show ¬ (116 : Int32) = 109 by decide, show ¬ (116 : Int32) = 111 by decide, show ¬ (116 : Int32) = 114 by decide, ea, e1, e2, e3, show ¬ (1 : Int32) = 0 by decide]
    rfl
  obtain ⟨w4, e3, h3⟩ := xr_t X3 rfl
  rw [if_pos rfl]
  show xr w Q 116 (kt_s c [] p3 G3) _
  rw [kt_s]
  refine ⟨w4, ?_, h3.1, h3.2.1, h3.2.2.1, fun _ => h3⟩
  simp only [r_132_0, r_132_1, r_132_4, r_132_5, r_132_6, r_132_9, r_132_10, r_132_13, r_132_14, r_132_17, r_132_18, r_132_19, r_132_22, r_132_23, r_132_132, r_132_133, r_132_134, r_132_137, r_132_138, r_132_139, r_132_140, r_132_143, r_132_146, r_132_147, r_132_150, r_132_153, r_132_154, r_132_156, r_132_159, r_132_162, r_132_163, r_132_166, r_132_169, r_132_170, r_132_173, r_132_174, r_132_175, r_132_176, r_132_177, r_132_180, r_132_183, r_132_184, r_132_187, r_132_190, r_132_191, r_132_194, r_132_195, r_132_196, r_132_197, r_132_198, r_132_201, r_132_204, r_132_205, r_132_208, r_132_211, r_132_212, r_132_214, r_132_217, r_132_220, r_132_221, r_132_224, r_132_227, r_132_228, r_132_231, r_132_232, r_132_233, r_132_234, r_132_235, r_132_238, r_132_241, r_132_242, r_132_245, r_132_248, r_132_249, r_132_252, r_132_255, r_132_256, r_132_259, r_132_260, r_132_261, r_132_262, r_132_263, r_132_266, r_132_269, r_132_270, r_132_273, r_132_276, r_132_277, r_132_280, r_132_283, r_132_284, r_132_286, r_132_289, r_132_292, r_132_293, r_132_296, r_132_299, r_132_300, r_132_303, r_132_304, r_132_305, r_132_306, r_132_307, r_132_310, r_132_313, r_132_314, r_132_317, r_132_320, r_132_321, r_132_324, r_132_327, r_132_328, r_132_331, r_132_332, r_132_333, r_132_334, r_132_335, r_132_338, r_132_341, r_132_342, r_132_345, r_132_348, r_132_349, r_132_352, r_132_355, r_132_356, r_132_359, r_132_362, r_132_363, r_132_366, r_132_367, r_132_368, r_132_369, Option.bind_some, Option.bind_none, Option.toList_some, Option.toList_none, List.cons_append, List.nil_append, Option.map_some, Option.map_none, eq_self, if_true, if_false, reduceIte, ai_bi_eq0, ai_bi_eq1, ai_pb_bi, ai_pb_0, ai_pb_1, show ¬ (116 : Int32) = 97 by decide, show ¬ (116 : Int32) = 99 by decide, show ¬ (116 : Int32) = 100 by decide, show ¬ (116 : Int32) = 106 by decide, show ¬ (116 : Int32) = 109 by decide, show ¬ (116 : Int32) = 111 by decide, show ¬ (116 : Int32) = 114 by decide, ea, e1, e2, e3, show ¬ (1 : Int32) = 0 by decide]
  rfl
theorem x_tc_119 (ht : xt w n c) (h : xp w p Q 119 [] w1) (hc : c p = 119) (hp : p ≤ n) (hQ : Q.length < 35) : xr w Q 119 (kt_s c [1, 64, 0] (p + 1) []) (ai_Run 132 22 [.ref 175, .int 119] [] (wl w1)) := by
  have hlt : p + 1 ≤ n := kt_lt ht.1 (p := p) (by omega)
  obtain ⟨wa, ea, ha⟩ := xr_t (x_take ht h hp (x := 119) (by decide)) (if_pos hc)
  have ea : ai_Call 125 [.ref 175, .int 119] (wl w1) = some (some (.int 1), wl wa) := ea
  have X1 : xr w Q 119 (kt_i c 1 (p + 1) []) (ai_Call 129 [.ref 175] (wl wa)) := x_takeNumber ht ha hlt (by decide) hQ
  have b1 := kt_i_b ht.1 1 hlt []
  rw [kt_s]
  generalize kt_i c 1 (p + 1) [] = r1 at X1 b1 ⊢
  obtain ⟨t1, p1, G1⟩ := r1
  have q1 : p1 ≤ n ∧ G1.length ≤ 1 := ⟨b1.2.1, b1.2.2⟩
  cases t1
  · obtain ⟨w2, e1, j1, j2, j3⟩ := xr_f X1 rfl
    show xr w Q 119 (false, p1, G1) _
    refine ⟨w2, ?_, j1, j2, j3, fun x => by cases x⟩
    simp only [r_132_0, r_132_1, r_132_4, r_132_5, r_132_6, r_132_9, r_132_10, r_132_13, r_132_14, r_132_17, r_132_18, r_132_19, r_132_22, r_132_23, r_132_132, r_132_133, r_132_134, r_132_137, r_132_138, r_132_139, r_132_140, r_132_143, r_132_146, r_132_147, r_132_150, r_132_153, r_132_154, r_132_156, r_132_159, r_132_162, r_132_163, r_132_166, r_132_169, r_132_170, r_132_173, r_132_174, r_132_175, r_132_176, r_132_177, r_132_180, r_132_183, r_132_184, r_132_187, r_132_190, r_132_191, r_132_194, r_132_195, r_132_196, r_132_197, r_132_198, r_132_201, r_132_204, r_132_205, r_132_208, r_132_211, r_132_212, r_132_214, r_132_217, r_132_220, r_132_221, r_132_224, r_132_227, r_132_228, r_132_231, r_132_232, r_132_233, r_132_234, r_132_235, r_132_238, r_132_241, r_132_242, r_132_245, r_132_248, r_132_249, r_132_252, r_132_255, r_132_256, r_132_259, r_132_260, r_132_261, r_132_262, r_132_263, r_132_266, r_132_269, r_132_270, r_132_273, r_132_276, r_132_277, r_132_280, r_132_283, r_132_284, r_132_286, r_132_289, r_132_292, r_132_293, r_132_296, r_132_299, r_132_300, r_132_303, r_132_304, r_132_305, r_132_306, r_132_307, r_132_310, r_132_313, r_132_314, r_132_317, r_132_320, r_132_321, r_132_324, r_132_327, r_132_328, r_132_331, r_132_332, r_132_333, r_132_334, r_132_335, r_132_338, r_132_341, r_132_342, r_132_345, r_132_348, r_132_349, r_132_352, r_132_355, r_132_356, r_132_359, r_132_362, r_132_363, r_132_366, r_132_367, r_132_368, r_132_369, Option.bind_some, Option.bind_none, Option.toList_some, Option.toList_none, List.cons_append, List.nil_append, Option.map_some, Option.map_none, eq_self, if_true, if_false, reduceIte, ai_bi_eq0, ai_bi_eq1, ai_pb_bi, ai_pb_0, ai_pb_1, show ¬ (119 : Int32) = 97 by decide, show ¬ (119 : Int32) = 99 by decide, show ¬ (119 : Int32) = 100 by decide, show ¬ (119 : Int32) = 106 by decide, show ¬ (119 : Int32) = 109 by decide, show ¬ (119 : Int32) = 111 by decide, show ¬ (119 : Int32) = 114 by decide, show ¬ (119 : Int32) = 116 by decide, ea, e1, show ¬ (1 : Int32) = 0 by decide]
    rfl
  obtain ⟨w2, e1, h1⟩ := xr_t X1 rfl
  rw [if_pos rfl]
  show xr w Q 119 (kt_s c [64, 0] p1 G1) _
  have X2 : xr w Q 119 (kt_i c 64 (p1) G1) (ai_Call 125 [.ref 175, .int 64] (wl w2)) := x_take ht h1 q1.1 (x := 64) (by decide)
  have b2 := kt_i_b ht.1 64 q1.1 G1
  have g2 := kt_i_g (c := c) (i := 64) (p := p1) (G := G1)
  rw [kt_s]
  generalize kt_i c 64 (p1) G1 = r2 at X2 b2 g2 ⊢
  obtain ⟨t2, p2, G2⟩ := r2
  have q2 : p2 ≤ n ∧ G2.length ≤ G1.length + 1 := ⟨b2.2.1, b2.2.2⟩
  have u2 : G2.length = G1.length := g2.2 (by decide)
  cases t2
  · obtain ⟨w3, e2, j1, j2, j3⟩ := xr_f X2 rfl
    show xr w Q 119 (false, p2, G2) _
    refine ⟨w3, ?_, j1, j2, j3, fun x => by cases x⟩
    simp only [r_132_0, r_132_1, r_132_4, r_132_5, r_132_6, r_132_9, r_132_10, r_132_13, r_132_14, r_132_17, r_132_18, r_132_19, r_132_22, r_132_23, r_132_132, r_132_133, r_132_134, r_132_137, r_132_138, r_132_139, r_132_140, r_132_143, r_132_146, r_132_147, r_132_150, r_132_153, r_132_154, r_132_156, r_132_159, r_132_162, r_132_163, r_132_166, r_132_169, r_132_170, r_132_173, r_132_174, r_132_175, r_132_176, r_132_177, r_132_180, r_132_183, r_132_184, r_132_187, r_132_190, r_132_191, r_132_194, r_132_195, r_132_196, r_132_197, r_132_198, r_132_201, r_132_204, r_132_205, r_132_208, r_132_211, r_132_212, r_132_214, r_132_217, r_132_220, r_132_221, r_132_224, r_132_227, r_132_228, r_132_231, r_132_232, r_132_233, r_132_234, r_132_235, r_132_238, r_132_241, r_132_242, r_132_245, r_132_248, r_132_249, r_132_252, r_132_255, r_132_256, r_132_259, r_132_260, r_132_261, r_132_262, r_132_263, r_132_266, r_132_269, r_132_270, r_132_273, r_132_276, r_132_277, r_132_280, r_132_283, r_132_284, r_132_286, r_132_289, r_132_292, r_132_293, r_132_296, r_132_299, r_132_300, r_132_303, r_132_304, r_132_305, r_132_306, r_132_307, r_132_310, r_132_313, r_132_314, r_132_317, r_132_320, r_132_321, r_132_324, r_132_327, r_132_328, r_132_331, r_132_332, r_132_333, r_132_334, r_132_335, r_132_338, r_132_341, r_132_342, r_132_345, r_132_348, r_132_349, r_132_352, r_132_355, r_132_356, r_132_359, r_132_362, r_132_363, r_132_366, r_132_367, r_132_368, r_132_369, Option.bind_some, Option.bind_none, Option.toList_some, Option.toList_none, List.cons_append, List.nil_append, Option.map_some, Option.map_none, eq_self, if_true, if_false, reduceIte, ai_bi_eq0, ai_bi_eq1, ai_pb_bi, ai_pb_0, ai_pb_1, show ¬ (119 : Int32) = 97 by decide, show ¬ (119 : Int32) = 99 by decide, show ¬ (119 : Int32) = 100 by decide, show ¬ (119 : Int32) = 106 by decide, show ¬ (119 : Int32) = 109 by decide, show ¬ (119 : Int32) = 111 by decide, show ¬ (119 : Int32) = 114 by decide, show ¬ (119 : Int32) = 116 by decide, ea, e1, e2, show ¬ (1 : Int32) = 0 by decide]
    rfl
  obtain ⟨w3, e2, h2⟩ := xr_t X2 rfl
  rw [if_pos rfl]
  show xr w Q 119 (kt_s c [0] p2 G2) _
  have X3 : xr w Q 119 (kt_i c 0 (p2) G2) (ai_Call 128 [.ref 175] (wl w3)) := x_takeDigit ht h2 q2.1 (by omega) hQ
  have b3 := kt_i_b ht.1 0 q2.1 G2
  rw [kt_s]
  generalize kt_i c 0 (p2) G2 = r3 at X3 b3 ⊢
  obtain ⟨t3, p3, G3⟩ := r3
  have q3 : p3 ≤ n ∧ G3.length ≤ G2.length + 1 := ⟨b3.2.1, b3.2.2⟩
  cases t3
  · obtain ⟨w4, e3, j1, j2, j3⟩ := xr_f X3 rfl
    show xr w Q 119 (false, p3, G3) _
    refine ⟨w4, ?_, j1, j2, j3, fun x => by cases x⟩
    simp only [r_132_0, r_132_1, r_132_4, r_132_5, r_132_6, r_132_9, r_132_10, r_132_13, r_132_14, r_132_17, r_132_18, r_132_19, r_132_22, r_132_23, r_132_132, r_132_133, r_132_134, r_132_137, r_132_138, r_132_139, r_132_140, r_132_143, r_132_146, r_132_147, r_132_150, r_132_153, r_132_154, r_132_156, r_132_159, r_132_162, r_132_163, r_132_166, r_132_169, r_132_170, r_132_173, r_132_174, r_132_175, r_132_176, r_132_177, r_132_180, r_132_183, r_132_184, r_132_187, r_132_190, r_132_191, r_132_194, r_132_195, r_132_196, r_132_197, r_132_198, r_132_201, r_132_204, r_132_205, r_132_208, r_132_211, r_132_212, r_132_214, r_132_217, r_132_220, r_132_221, r_132_224, r_132_227, r_132_228, r_132_231, r_132_232, r_132_233, r_132_234, r_132_235, r_132_238, r_132_241, r_132_242, r_132_245, r_132_248, r_132_249, r_132_252, r_132_255, r_132_256, r_132_259, r_132_260, r_132_261, r_132_262, r_132_263, r_132_266, r_132_269, r_132_270, r_132_273, r_132_276, r_132_277, r_132_280, r_132_283, r_132_284, r_132_286, r_132_289, r_132_292, r_132_293, r_132_296, r_132_299, r_132_300, r_132_303, r_132_304, r_132_305, r_132_306, r_132_307, r_132_310, r_132_313, r_132_314, r_132_317, r_132_320, r_132_321, r_132_324, r_132_327, r_132_328, r_132_331, r_132_332, r_132_333, r_132_334, r_132_335, r_132_338, r_132_341, r_132_342, r_132_345, r_132_348, r_132_349, r_132_352, r_132_355, r_132_356, r_132_359, r_132_362, r_132_363, r_132_366, r_132_367, r_132_368, r_132_369, Option.bind_some, Option.bind_none, Option.toList_some, Option.toList_none, List.cons_append, List.nil_append, Option.map_some, Option.map_none, eq_self, if_true, if_false, reduceIte, ai_bi_eq0, ai_bi_eq1, ai_pb_bi, ai_pb_0, ai_pb_1, show ¬ (119 : Int32) = 97 by decide, show ¬ (119 : Int32) = 99 by decide, show ¬ (119 : Int32) = 100 by decide, show ¬ (119 : Int32) = 106 by decide, show ¬ (119 : Int32) = 109 by decide, show ¬ (119 : Int32) = 111 by decide, show ¬ (119 : Int32) = 114 by decide, show ¬ (119 : Int32) = 116 by decide, ea, e1, e2, e3, show ¬ (1 : Int32) = 0 by decide]
    rfl
  obtain ⟨w4, e3, h3⟩ := xr_t X3 rfl
  rw [if_pos rfl]
  show xr w Q 119 (kt_s c [] p3 G3) _
  rw [kt_s]
  refine ⟨w4, ?_, h3.1, h3.2.1, h3.2.2.1, fun _ => h3⟩
  simp only [r_132_0, r_132_1, r_132_4, r_132_5, r_132_6, r_132_9, r_132_10, r_132_13, r_132_14, r_132_17, r_132_18, r_132_19, r_132_22, r_132_23, r_132_132, r_132_133, r_132_134, r_132_137, r_132_138, r_132_139, r_132_140, r_132_143, r_132_146, r_132_147, r_132_150, r_132_153, r_132_154, r_132_156, r_132_159, r_132_162, r_132_163, r_132_166, r_132_169, r_132_170, r_132_173, r_132_174, r_132_175, r_132_176, r_132_177, r_132_180, r_132_183, r_132_184, r_132_187, r_132_190, r_132_191, r_132_194, r_132_195, r_132_196, r_132_197, r_132_198, r_132_201, r_132_204, r_132_205, r_132_208, r_132_211, r_132_212, r_132_214, r_132_217, r_132_220, r_132_221, r_132_224, r_132_227, r_132_228, r_132_231, r_132_232, r_132_233, r_132_234, r_132_235, r_132_238, r_132_241, r_132_242, r_132_245, r_132_248, r_132_249, r_132_252, r_132_255, r_132_256, r_132_259, r_132_260, r_132_261, r_132_262, r_132_263, r_132_266, r_132_269, r_132_270, r_132_273, r_132_276, r_132_277, r_132_280, r_132_283, r_132_284, r_132_286, r_132_289, r_132_292, r_132_293, r_132_296, r_132_299, r_132_300, r_132_303, r_132_304, r_132_305, r_132_306, r_132_307, r_132_310, r_132_313, r_132_314, r_132_317, r_132_320, r_132_321, r_132_324, r_132_327, r_132_328, r_132_331, r_132_332, r_132_333, r_132_334, r_132_335, r_132_338, r_132_341, r_132_342, r_132_345, r_132_348, r_132_349, r_132_352, r_132_355, r_132_356, r_132_359, r_132_362, r_132_363, r_132_366, r_132_367, r_132_368, r_132_369, Option.bind_some, Option.bind_none, Option.toList_some, Option.toList_none, List.cons_append, List.nil_append, Option.map_some, Option.map_none, eq_self, if_true, if_false, reduceIte, ai_bi_eq0, ai_bi_eq1, ai_pb_bi, ai_pb_0, ai_pb_1, show ¬ (119 : Int32) = 97 by decide, show ¬ (119 : Int32) = 99 by decide, show ¬ (119 : Int32) = 100 by decide, show ¬ (119 : Int32) = 106 by decide, show ¬ (119 : Int32) = 109 by decide, show ¬ (119 : Int32) = 111 by decide, show ¬ (119 : Int32) = 114 by decide, show ¬ (119 : Int32) = 116 by decide, ea, e1, e2, e3, show ¬ (1 : Int32) = 0 by decide]
  rfl
theorem x_tc_120 (ht : xt w n c) (h : xp w p Q 120 [] w1) (hc : c p = 120) (hp : p ≤ n) (hQ : Q.length < 35) : xr w Q 120 (kt_s c [0] (p + 1) []) (ai_Run 132 22 [.ref 175, .int 120] [] (wl w1)) := by
  have hlt : p + 1 ≤ n := kt_lt ht.1 (p := p) (by omega)
  obtain ⟨wa, ea, ha⟩ := xr_t (x_take ht h hp (x := 120) (by decide)) (if_pos hc)
  have ea : ai_Call 125 [.ref 175, .int 120] (wl w1) = some (some (.int 1), wl wa) := ea
  have X1 : xr w Q 120 (kt_i c 0 (p + 1) []) (ai_Call 128 [.ref 175] (wl wa)) := x_takeDigit ht ha hlt (by decide) hQ
  have b1 := kt_i_b ht.1 0 hlt []
  rw [kt_s]
  generalize kt_i c 0 (p + 1) [] = r1 at X1 b1 ⊢
  obtain ⟨t1, p1, G1⟩ := r1
  have q1 : p1 ≤ n ∧ G1.length ≤ 1 := ⟨b1.2.1, b1.2.2⟩
  cases t1
  · obtain ⟨w2, e1, j1, j2, j3⟩ := xr_f X1 rfl
    show xr w Q 120 (false, p1, G1) _
    refine ⟨w2, ?_, j1, j2, j3, fun x => by cases x⟩
    simp only [r_132_0, r_132_1, r_132_4, r_132_5, r_132_6, r_132_9, r_132_10, r_132_13, r_132_14, r_132_17, r_132_18, r_132_19, r_132_22, r_132_23, r_132_132, r_132_133, r_132_134, r_132_137, r_132_138, r_132_139, r_132_140, r_132_143, r_132_146, r_132_147, r_132_150, r_132_153, r_132_154, r_132_156, r_132_159, r_132_162, r_132_163, r_132_166, r_132_169, r_132_170, r_132_173, r_132_174, r_132_175, r_132_176, r_132_177, r_132_180, r_132_183, r_132_184, r_132_187, r_132_190, r_132_191, r_132_194, r_132_195, r_132_196, r_132_197, r_132_198, r_132_201, r_132_204, r_132_205, r_132_208, r_132_211, r_132_212, r_132_214, r_132_217, r_132_220, r_132_221, r_132_224, r_132_227, r_132_228, r_132_231, r_132_232, r_132_233, r_132_234, r_132_235, r_132_238, r_132_241, r_132_242, r_132_245, r_132_248, r_132_249, r_132_252, r_132_255, r_132_256, r_132_259, r_132_260, r_132_261, r_132_262, r_132_263, r_132_266, r_132_269, r_132_270, r_132_273, r_132_276, r_132_277, r_132_280, r_132_283, r_132_284, r_132_286, r_132_289, r_132_292, r_132_293, r_132_296, r_132_299, r_132_300, r_132_303, r_132_304, r_132_305, r_132_306, r_132_307, r_132_310, r_132_313, r_132_314, r_132_317, r_132_320, r_132_321, r_132_324, r_132_327, r_132_328, r_132_331, r_132_332, r_132_333, r_132_334, r_132_335, r_132_338, r_132_341, r_132_342, r_132_345, r_132_348, r_132_349, r_132_352, r_132_355, r_132_356, r_132_359, r_132_362, r_132_363, r_132_366, r_132_367, r_132_368, r_132_369, Option.bind_some, Option.bind_none, Option.toList_some, Option.toList_none, List.cons_append, List.nil_append, Option.map_some, Option.map_none, eq_self, if_true, if_false, reduceIte, ai_bi_eq0, ai_bi_eq1, ai_pb_bi, ai_pb_0, ai_pb_1, show ¬ (120 : Int32) = 97 by decide, show ¬ (120 : Int32) = 99 by decide, show ¬ (120 : Int32) = 100 by decide, show ¬ (120 : Int32) = 106 by decide, show ¬ (120 : Int32) = 109 by decide, show ¬ (120 : Int32) = 111 by decide, show ¬ (120 : Int32) = 114 by decide, show ¬ (120 : Int32) = 116 by decide, show ¬ (120 : Int32) = 119 by decide, ea, e1, show ¬ (1 : Int32) = 0 by decide]
    rfl
  obtain ⟨w2, e1, h1⟩ := xr_t X1 rfl
  rw [if_pos rfl]
  show xr w Q 120 (kt_s c [] p1 G1) _
  rw [kt_s]
  refine ⟨w2, ?_, h1.1, h1.2.1, h1.2.2.1, fun _ => h1⟩
  simp only [r_132_0, r_132_1, r_132_4, r_132_5, r_132_6, r_132_9, r_132_10, r_132_13, r_132_14, r_132_17, r_132_18, r_132_19, r_132_22, r_132_23, r_132_132, r_132_133, r_132_134, r_132_137, r_132_138, r_132_139, r_132_140, r_132_143, r_132_146, r_132_147, r_132_150, r_132_153, r_132_154, r_132_156, r_132_159, r_132_162, r_132_163, r_132_166, r_132_169, r_132_170, r_132_173, r_132_174, r_132_175, r_132_176, r_132_177, r_132_180, r_132_183, r_132_184, r_132_187, r_132_190, r_132_191, r_132_194, r_132_195, r_132_196, r_132_197, r_132_198, r_132_201, r_132_204, r_132_205, r_132_208, r_132_211, r_132_212, r_132_214, r_132_217, r_132_220, r_132_221, r_132_224, r_132_227, r_132_228, r_132_231, r_132_232, r_132_233, r_132_234, r_132_235, r_132_238, r_132_241, r_132_242, r_132_245, r_132_248, r_132_249, r_132_252, r_132_255, r_132_256, r_132_259, r_132_260, r_132_261, r_132_262, r_132_263, r_132_266, r_132_269, r_132_270, r_132_273, r_132_276, r_132_277, r_132_280, r_132_283, r_132_284, r_132_286, r_132_289, r_132_292, r_132_293, r_132_296, r_132_299, r_132_300, r_132_303, r_132_304, r_132_305, r_132_306, r_132_307, r_132_310, r_132_313, r_132_314, r_132_317, r_132_320, r_132_321, r_132_324, r_132_327, r_132_328, r_132_331, r_132_332, r_132_333, r_132_334, r_132_335, r_132_338, r_132_341, r_132_342, r_132_345, r_132_348, r_132_349, r_132_352, r_132_355, r_132_356, r_132_359, r_132_362, r_132_363, r_132_366, r_132_367, r_132_368, r_132_369, Option.bind_some, Option.bind_none, Option.toList_some, Option.toList_none, List.cons_append, List.nil_append, Option.map_some, Option.map_none, eq_self, if_true, if_false, reduceIte, ai_bi_eq0, ai_bi_eq1, ai_pb_bi, ai_pb_0, ai_pb_1, show ¬ (120 : Int32) = 97 by decide, show ¬ (120 : Int32) = 99 by decide, show ¬ (120 : Int32) = 100 by decide, show ¬ (120 : Int32) = 106 by decide, show ¬ (120 : Int32) = 109 by decide, show ¬ (120 : Int32) = 111 by decide, show ¬ (120 : Int32) = 114 by decide, show ¬ (120 : Int32) = 116 by decide, show ¬ (120 : Int32) = 119 by decide, ea, e1, show ¬ (1 : Int32) = 0 by decide]
  rfl
theorem x_takeCommand (ht : xt w n c) (h : xq w p Q w1) (hp : p ≤ n) (hQ : Q.length < 35) : xr w Q (c p) (kt_c c p) (ai_Call 132 [.ref 175] (wl w1)) := by
  obtain ⟨w2, e2, h2⟩ := x_tc0 ht h hp hQ
  rw [e2]
  have h126 := kt_c127 ht.1 p
  unfold kt_c
  cases hg : kt_g (c p) with
  | none => exact ⟨w2, x_tc_no hg (by omega), h2.1, h2.2.1, h2.2.2.1, fun z => by cases z⟩
  | some l =>
    show xr w Q (c p) (kt_s c l (p + 1) []) _
    have hc : c p = c p := rfl
    generalize hk : c p = k at h2 hg ⊢
    unfold kt_g at hg
    by_cases d1 : k = 97
    · rw [if_pos d1] at hg; cases hg; subst d1; exact x_tc_97 ht h2 hk hp hQ
    rw [if_neg d1] at hg
    by_cases d2 : k = 99
    · rw [if_pos d2] at hg; cases hg; subst d2; exact x_tc_99 ht h2 hk hp hQ
    rw [if_neg d2] at hg
    by_cases d3 : k = 100
    · rw [if_pos d3] at hg; cases hg; subst d3; exact x_tc_100 ht h2 hk hp hQ
    rw [if_neg d3] at hg
    by_cases d4 : k = 106
    · rw [if_pos d4] at hg; cases hg; subst d4; exact x_tc_106 ht h2 hk hp hQ
    rw [if_neg d4] at hg
    by_cases d5 : k = 109
    · rw [if_pos d5] at hg; cases hg; subst d5; exact x_tc_109 ht h2 hk hp hQ
    rw [if_neg d5] at hg
    by_cases d6 : k = 111
    · rw [if_pos d6] at hg; cases hg; subst d6; exact x_tc_111 ht h2 hk hp hQ
    rw [if_neg d6] at hg
    by_cases d7 : k = 114
    · rw [if_pos d7] at hg; cases hg; subst d7; exact x_tc_114 ht h2 hk hp hQ
    rw [if_neg d7] at hg
    by_cases d8 : k = 116
    · rw [if_pos d8] at hg; cases hg; subst d8; exact x_tc_116 ht h2 hk hp hQ
    rw [if_neg d8] at hg
    by_cases d9 : k = 119
    · rw [if_pos d9] at hg; cases hg; subst d9; exact x_tc_119 ht h2 hk hp hQ
    rw [if_neg d9] at hg
    by_cases d10 : k = 120
    · rw [if_pos d10] at hg; cases hg; subst d10; exact x_tc_120 ht h2 hk hp hQ
    rw [if_neg d10] at hg
    cases hg
def kt_o (r : Option (List kt_C) × Nat) : Int32 := match r.1 with
  | none => nI r.2
  | some _ => -1
theorem kt_o_map (r : Option (List kt_C) × Nat) (f : List kt_C → List kt_C) : kt_o (r.1.map f, r.2) = kt_o r := by
  unfold kt_o
  cases h : r.1 <;> simp
theorem x_parse_loop (ht : xt w n c) : ∀ (f i p : Nat) (Q : List kt_C) (w1 : xw_W), i + f = 35 → Q.length = i → xq w p Q w1 → p ≤ n → ∃ w2, ai_Run 133 12 [.ref 175, .int (nI i)] [] (wl w1) = some (some (.int (kt_o (kt_a c n f p))), wl w2) ∧ xpo w2 = xpo w ∧ (∀ l, (kt_a c n f p).1 = some l → xw_tc w2 = nI (Q.length + l.length) ∧ kx_st (xw_ki w2) (xw_ar w2) (Q ++ l)) := by
  intro f
  induction f with
  | zero =>
    intro i p Q w1 hi hQ h hp
    have ei : i = 35 := by omega
    subst ei
    refine ⟨w1, ?_, h.1, fun l hl => by cases hl⟩
    rw [r_133_12]
    simp only [r_133_0, r_133_1, r_133_2, r_133_5, r_133_6, r_133_7, r_133_10, r_133_11, r_133_13, r_133_15, r_133_18, r_133_19, r_133_22, r_133_25, r_133_26, r_133_29, r_133_30, r_133_31, r_133_32, r_133_35, r_133_36, r_133_37, r_133_40, r_133_41, r_133_44, r_133_45, r_133_48, r_133_51, r_133_52, r_133_53, r_133_54, r_133_56, r_133_59, r_133_62, r_133_63, r_133_66, r_133_67, r_133_70, r_133_73, r_133_74, r_133_77, Option.bind_some, Option.bind_none, Option.toList_some, Option.toList_none, List.cons_append, List.nil_append, Option.map_some, Option.map_none, eq_self, if_true, if_false, reduceIte, ai_bi_eq0, ai_bi_eq1, ai_pb_bi, ai_pb_0, ai_pb_1, show ¬ nI 35 < 35 by decide, f_175_5, h.2.1]
    rfl
  | succ f ih =>
    intro i p Q w1 hi hQ h hp
    have c1 : nI i < 35 := nI_lt (b := 35) (by omega) (by decide)
    have hn := ht.1.1
    have X := x_takeCommand ht h hp (by omega)
    have hb := kt_c_b ht.1 hp
    rw [kt_a]
    rw [r_133_12]
    generalize kt_c c p = r at X hb ⊢
    obtain ⟨t, q, G⟩ := r
    have hqn : q ≤ n := hb.2.1
    cases t
    · obtain ⟨w2, e2, h1, h2, h3⟩ := xr_f X rfl
      rw [if_neg (show ¬ (false = true) from Bool.false_ne_true)]
      refine ⟨w2, ?_, h1, fun l hl => by cases hl⟩
      simp only [r_133_0, r_133_1, r_133_2, r_133_5, r_133_6, r_133_7, r_133_10, r_133_11, r_133_13, r_133_15, r_133_18, r_133_19, r_133_22, r_133_25, r_133_26, r_133_29, r_133_30, r_133_31, r_133_32, r_133_35, r_133_36, r_133_37, r_133_40, r_133_41, r_133_44, r_133_45, r_133_48, r_133_51, r_133_52, r_133_53, r_133_54, r_133_56, r_133_59, r_133_62, r_133_63, r_133_66, r_133_67, r_133_70, r_133_73, r_133_74, r_133_77, Option.bind_some, Option.bind_none, Option.toList_some, Option.toList_none, List.cons_append, List.nil_append, Option.map_some, Option.map_none, eq_self, if_true, if_false, reduceIte, ai_bi_eq0, ai_bi_eq1, ai_pb_bi, ai_pb_0, ai_pb_1, c1, e2, f_175_5, h2]
      rfl
    · obtain ⟨w2, e2, h2⟩ := xr_t X rfl
      rw [if_pos rfl]
      obtain ⟨w3, e3, h3⟩ : ∃ w3, ai_fput (wl w2) 175 9 4 (.int (nI (Q.length + 1))) = some (wl w3) ∧ xq w q (Q ++ [(c p, G)]) w3 := ⟨xw_wtc w2 (nI (Q.length + 1)), p_175_4 _ _, (xpo_tc _ _).trans h2.1, h2.2.1, by rw [List.length_append, List.length_singleton], h2.2.2.2.2⟩
      have h2t := h2.2.2.1
      have h3p := h3.2.1
      have h3l := (xt_of h3.1 ht).2.1
      show ∃ w2, _ = some (some (Value.int (kt_o (if q = n then (some [(c p, G)], q) else if c q = 59 then ((kt_a c n f (q + 1)).1.map fun l => (c p, G) :: l, (kt_a c n f (q + 1)).2) else (none, q)))), wl w2) ∧ xpo w2 = xpo w ∧ (∀ l, (if q = n then (some [(c p, G)], q) else if c q = 59 then ((kt_a c n f (q + 1)).1.map fun l => (c p, G) :: l, (kt_a c n f (q + 1)).2) else (none, q)).1 = some l → _)
      by_cases d1 : q = n
      · rw [if_pos d1]
        have d1' : nI q = nI n := by rw [d1]
        refine ⟨w3, ?_, h3.1, fun l hl => ?_⟩
        · simp only [r_133_0, r_133_1, r_133_2, r_133_5, r_133_6, r_133_7, r_133_10, r_133_11, r_133_13, r_133_15, r_133_18, r_133_19, r_133_22, r_133_25, r_133_26, r_133_29, r_133_30, r_133_31, r_133_32, r_133_35, r_133_36, r_133_37, r_133_40, r_133_41, r_133_44, r_133_45, r_133_48, r_133_51, r_133_52, r_133_53, r_133_54, r_133_56, r_133_59, r_133_62, r_133_63, r_133_66, r_133_67, r_133_70, r_133_73, r_133_74, r_133_77, Option.bind_some, Option.bind_none, Option.toList_some, Option.toList_none, List.cons_append, List.nil_append, Option.map_some, Option.map_none, eq_self, if_true, if_false, reduceIte, ai_bi_eq0, ai_bi_eq1, ai_pb_bi, ai_pb_0, ai_pb_1, c1, e2, show ¬ (1 : Int32) = 0 by decide, f_175_4, h2t, nI_1, e3, f_175_3, f_175_5, h3p, h3l, d1']
          rfl
        · have el : l = [(c p, G)] := by simpa using hl.symm
          subst el
          exact ⟨h3.2.2.1.trans (by rw [List.length_append]), h3.2.2.2⟩
      · rw [if_neg d1]
        have d1' : ¬ nI q = nI n := fun y => d1 ((nI_eq (by omega) (by omega)).mp y)
        obtain ⟨T, F⟩ := x_takeq ht h3 hqn
        by_cases d2 : c q = 59
        · rw [if_pos d2]
          obtain ⟨w4, e4, h4⟩ := T d2
          have hlt := kt_lt ht.1 (p := q) (by omega)
          obtain ⟨w5, e5, h5, h6⟩ := ih (i + 1) (q + 1) (Q ++ [(c p, G)]) w4 (by omega) (by rw [List.length_append, List.length_singleton, hQ]) h4 hlt
          refine ⟨w5, ?_, h5, fun l hl => ?_⟩
          · rw [kt_o_map (kt_a c n f (q + 1)), ← e5]
            simp only [r_133_0, r_133_1, r_133_2, r_133_5, r_133_6, r_133_7, r_133_10, r_133_11, r_133_13, r_133_15, r_133_18, r_133_19, r_133_22, r_133_25, r_133_26, r_133_29, r_133_30, r_133_31, r_133_32, r_133_35, r_133_36, r_133_37, r_133_40, r_133_41, r_133_44, r_133_45, r_133_48, r_133_51, r_133_52, r_133_53, r_133_54, r_133_56, r_133_59, r_133_62, r_133_63, r_133_66, r_133_67, r_133_70, r_133_73, r_133_74, r_133_77, Option.bind_some, Option.bind_none, Option.toList_some, Option.toList_none, List.cons_append, List.nil_append, Option.map_some, Option.map_none, eq_self, if_true, if_false, reduceIte, ai_bi_eq0, ai_bi_eq1, ai_pb_bi, ai_pb_0, ai_pb_1, c1, e2, show ¬ (1 : Int32) = 0 by decide, f_175_4, h2t, nI_1, e3, f_175_3, f_175_5, h3p, h3l, d1', e4]
          · cases hr : (kt_a c n f (q + 1)).1 with
            | none => rw [hr] at hl; cases hl
            | some m =>
              rw [hr] at hl
              have el : l = (c p, G) :: m := by simpa using hl.symm
              subst el
              obtain ⟨k1, k2⟩ := h6 m hr
              refine ⟨k1.trans ?_, by simpa using k2⟩
              simp only [List.length_append, List.length_cons, List.length_nil]
              congr 1
              omega
        · rw [if_neg d2]
          have e4 := F d2
          refine ⟨w3, ?_, h3.1, fun l hl => by cases hl⟩
          simp only [r_133_0, r_133_1, r_133_2, r_133_5, r_133_6, r_133_7, r_133_10, r_133_11, r_133_13, r_133_15, r_133_18, r_133_19, r_133_22, r_133_25, r_133_26, r_133_29, r_133_30, r_133_31, r_133_32, r_133_35, r_133_36, r_133_37, r_133_40, r_133_41, r_133_44, r_133_45, r_133_48, r_133_51, r_133_52, r_133_53, r_133_54, r_133_56, r_133_59, r_133_62, r_133_63, r_133_66, r_133_67, r_133_70, r_133_73, r_133_74, r_133_77, Option.bind_some, Option.bind_none, Option.toList_some, Option.toList_none, List.cons_append, List.nil_append, Option.map_some, Option.map_none, eq_self, if_true, if_false, reduceIte, ai_bi_eq0, ai_bi_eq1, ai_pb_bi, ai_pb_0, ai_pb_1, c1, e2, show ¬ (1 : Int32) = 0 by decide, f_175_4, h2t, nI_1, e3, f_175_3, f_175_5, h3p, h3l, d1', e4]
          rfl
theorem x_parse (ht : xt w n c) : ∃ w2, ai_Call 133 [.ref 175] (wl w) = some (some (.int (kt_o (kt_a c n 35 0))), wl w2) ∧ xpo w2 = xpo w ∧ (∀ l, (kt_a c n 35 0).1 = some l → xw_tc w2 = nI l.length ∧ kx_st (xw_ki w2) (xw_ar w2) l) := by
  obtain ⟨w2, e2, h2, h3⟩ := x_parse_loop ht 35 0 0 [] (xw_wtc (xw_wtp w 0) 0) rfl rfl ⟨rfl, rfl, rfl, fun i q hq => absurd hq (by simp)⟩ (Nat.zero_le _)
  refine ⟨w2, ?_, h2, fun l hl => ?_⟩
  · rw [← e2]
    simp only [e_133, o_175, r_133_0, r_133_1, r_133_2, r_133_5, r_133_6, r_133_7, r_133_10, r_133_11, r_133_13, r_133_15, r_133_18, r_133_19, r_133_22, r_133_25, r_133_26, r_133_29, r_133_30, r_133_31, r_133_32, r_133_35, r_133_36, r_133_37, r_133_40, r_133_41, r_133_44, r_133_45, r_133_48, r_133_51, r_133_52, r_133_53, r_133_54, r_133_56, r_133_59, r_133_62, r_133_63, r_133_66, r_133_67, r_133_70, r_133_73, r_133_74, r_133_77, Option.bind_some, Option.bind_none, Option.toList_some, Option.toList_none, List.cons_append, List.nil_append, Option.map_some, Option.map_none, eq_self, if_true, if_false, reduceIte, ai_bi_eq0, ai_bi_eq1, ai_pb_bi, ai_pb_0, ai_pb_1, p_175_4, p_175_5]
    rfl
  · obtain ⟨k1, k2⟩ := h3 l hl
    refine ⟨k1.trans ?_, k2⟩
    rw [List.length_nil, Nat.zero_add]
end READ

