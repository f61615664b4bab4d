/-! A command of a text carried out on both sides. Printed by gen64.py. -/
theorem x_kind {w : xw_W} {i : Nat} (hi : i < 35) : ai_Call 60 [.ref 175, .int (nI i)] (wl w) = some (some (.int (xw_ki w i)), wl w) := by
  have e := x_get_ki w (nI i)
  rw [ai_rgn hi (by decide)] at e
  simp only [e_60, o_175, r_60_0, r_60_1, r_60_4, r_60_5, r_60_8, Option.bind_some, Option.bind_none, Option.toList_some, Option.toList_none, List.cons_append, List.nil_append, Option.map_some, Option.map_none, eq_self, if_true, if_false, reduceIte, ai_bi_eq0, ai_bi_eq1, ai_pb_bi, ai_pb_0, ai_pb_1, f_175_1, e]
theorem x_argument {w : xw_W} {i j : Nat} (hi : i < 35) (hj : j < 3) : ai_Call 59 [.ref 175, .int (nI i), .int (nI j)] (wl w) = some (some (.int (xw_ar w (i * 3 + j))), wl w) := by
  have e := x_get_ar w (nI (i * 3 + j))
  rw [ai_rgn (by omega) (by decide)] at e
  simp only [e_59, o_175, r_59_0, r_59_1, r_59_4, r_59_5, r_59_6, r_59_7, r_59_8, r_59_9, r_59_12, Option.bind_some, Option.bind_none, Option.toList_some, Option.toList_none, List.cons_append, List.nil_append, Option.map_some, Option.map_none, eq_self, if_true, if_false, reduceIte, ai_bi_eq0, ai_bi_eq1, ai_pb_bi, ai_pb_0, ai_pb_1, f_175_2, n_3, pk_mul, nI_add, e]

/-- no motive of one against oneself -/
def kb_m0 (B : kb_B) : Prop := ∀ c, kb_M B c c = 0
theorem m0_author {B : kb_B} (h : kb_m0 B) : kb_m0 (kc_author B).1 := by
  unfold kc_author
  repeat' split
  all_goals exact h
theorem m0_character {B : kb_B} (h : kb_m0 B) : kb_m0 (kc_character B).1 := by
  unfold kc_character
  repeat' split
  all_goals exact h
theorem m0_die {B : kb_B} (h : kb_m0 B) (x y : Int32) : kb_m0 (kc_die B x y).1 := by
  unfold kc_die
  unfold kc_turn
  repeat' split
  all_goals exact h
theorem m0_rise {B : kb_B} (h : kb_m0 B) (x y : Int32) : kb_m0 (kc_rise B x y).1 := by
  unfold kc_rise
  unfold kc_turn
  repeat' split
  all_goals exact h
theorem m0_strike {B : kb_B} (h : kb_m0 B) (x : Int32) : kb_m0 (kc_strike B x).1 := by
  unfold kc_strike
  unfold kb_tk
  repeat' split
  all_goals exact h
theorem m0_write {B : kb_B} (h : kb_m0 B) (x y : Int32) : kb_m0 (kc_write B x y).1 := by
  unfold kc_write
  repeat' split
  all_goals exact h
theorem m0_swear {B : kb_B} (h : kb_m0 B) (x y : Int32) : kb_m0 (kc_swear B x y).1 := by
  unfold kc_swear
  repeat' split
  all_goals exact h
theorem m0_seat {B : kb_B} (h : kb_m0 B) (x y : Int32) : kb_m0 (kc_seat B x y).1 := by
  unfold kc_seat
  repeat' split
  all_goals exact h
theorem m0_leave {B : kb_B} (h : kb_m0 B) (x : Int32) : kb_m0 (kc_leave B x).1 := by
  unfold kc_leave
  repeat' split
  all_goals exact h
theorem m0_trial {B : kb_B} (h : kb_m0 B) (x y z : Int32) : kb_m0 (kc_trial B x y z).1 := by
  unfold kc_trial
  repeat' split
  all_goals exact h
theorem m0_motive {B : kb_B} (h : kb_m0 B) (hk : kb_ok B) (x y z : Int32) : kb_m0 (kc_motive B x y z).1 := by
  have hn := hk.1
  unfold kc_motive
  split
  · split
    · split
      · split
        · exact h
        · split
          · exact h
          · rename_i c1 c2 c3 c4 c5
            obtain ⟨i, hi, rfl⟩ := ai_is_of (by omega) c1
            obtain ⟨j, hj, rfl⟩ := ai_is_of (by omega) c2
            rw [nI_clamp (show i < 2 ^ 31 by omega), nI_clamp (show j < 2 ^ 31 by omega)]
            intro c
            show up (kb_M B) i (up (kb_M B i) j z.toNatClampNeg) c c = 0
            by_cases q : c = i
            · rw [q, up_at, up_ne _ (fun e => c4 (by rw [e]))]
              exact h i
            · rw [up_ne _ q]
              exact h c
      · exact h
    · exact h
  · exact h
/-- a command does so -/
def kt_does (q : kt_C) (o : kb_B → kc_O) : Prop := (∀ B, kb_ok B → kc_good B (o B)) ∧ (∀ w B i, kb_x (xw_b w) B → kb_ok B → i < 35 → xw_ki w i = nI q.1 → (∀ j a, j < 3 → q.2[j]? = some a → xw_ar w (i * 3 + j) = kx_a a) → kx_is w (o B) (ai_Call 91 [.ref 0, .int (nI i)] (wl w))) ∧ (∀ B, kb_ok B → kb_m0 B → kb_m0 (o B).1)

theorem kt_do_0 : kt_does (97, []) (fun B => kc_author B) := by
  refine ⟨fun B hk => good_author hk, fun w B i h hk hi hki har => ?_, fun B _ h => m0_author h⟩
  obtain ⟨b, hb, eb⟩ := (c_author h hk : kx_is w (kc_author B) _)
  have ek := x_kind (w := w) hi
  rw [hki] at ek
  have ek : ai_Call 60 [.ref 175, .int (nI i)] (wl w) = some (some (.int 97), wl w) := ek
  have e0 := x_argument (w := w) hi (j := 0) (by decide)
  have e0 : ai_Call 59 [.ref 175, .int (nI i), .int 0] (wl w) = some (some (.int (xw_ar w (i * 3 + 0))), wl w) := e0
  have e1 := x_argument (w := w) hi (j := 1) (by decide)
  have e1 : ai_Call 59 [.ref 175, .int (nI i), .int 1] (wl w) = some (some (.int (xw_ar w (i * 3 + 1))), wl w) := e1
  have e2 := x_argument (w := w) hi (j := 2) (by decide)
  have e2 : ai_Call 59 [.ref 175, .int (nI i), .int 2] (wl w) = some (some (.int (xw_ar w (i * 3 + 2))), wl w) := e2
  refine ⟨b, hb, ?_⟩
  simp only [e_91, o_0, r_91_0, r_91_1, r_91_4, r_91_5, r_91_6, r_91_9, r_91_10, r_91_11, r_91_14, r_91_15, r_91_16, r_91_19, r_91_20, r_91_21, r_91_24, r_91_25, r_91_26, r_91_29, r_91_31, r_91_32, r_91_35, r_91_36, r_91_39, r_91_148, r_91_149, r_91_152, r_91_155, r_91_156, r_91_157, r_91_160, r_91_163, r_91_164, r_91_165, r_91_168, r_91_169, r_91_170, r_91_173, r_91_174, r_91_175, r_91_178, r_91_179, r_91_180, r_91_183, r_91_184, r_91_185, r_91_188, r_91_189, r_91_192, r_91_193, r_91_194, r_91_197, r_91_198, r_91_199, r_91_202, r_91_203, r_91_204, r_91_207, r_91_208, r_91_209, r_91_212, r_91_213, r_91_214, r_91_217, r_91_218, r_91_219, r_91_221, r_91_224, r_91_225, r_91_226, r_91_227, r_91_230, r_91_231, r_91_234, r_91_235, r_91_238, r_91_241, r_91_242, r_91_245, r_91_246, r_91_247, r_91_250, r_91_251, r_91_252, r_91_255, r_91_256, r_91_257, r_91_259, r_91_262, r_91_263, r_91_265, Option.bind_some, Option.bind_none, Option.toList_some, Option.toList_none, List.cons_append, List.nil_append, Option.map_some, Option.map_none, eq_self, if_true, if_false, reduceIte, ai_bi_eq0, ai_bi_eq1, ai_pb_bi, ai_pb_0, ai_pb_1, f_0_5, f_0_7, ek, e0, e1, e2, eb]
theorem kt_do_1 : kt_does (99, []) (fun B => kc_character B) := by
  refine ⟨fun B hk => good_character hk, fun w B i h hk hi hki har => ?_, fun B _ h => m0_character h⟩
  obtain ⟨b, hb, eb⟩ := (c_character h hk : kx_is w (kc_character B) _)
  have ek := x_kind (w := w) hi
  rw [hki] at ek
  have ek : ai_Call 60 [.ref 175, .int (nI i)] (wl w) = some (some (.int 99), wl w) := ek
  have e0 := x_argument (w := w) hi (j := 0) (by decide)
  have e0 : ai_Call 59 [.ref 175, .int (nI i), .int 0] (wl w) = some (some (.int (xw_ar w (i * 3 + 0))), wl w) := e0
  have e1 := x_argument (w := w) hi (j := 1) (by decide)
  have e1 : ai_Call 59 [.ref 175, .int (nI i), .int 1] (wl w) = some (some (.int (xw_ar w (i * 3 + 1))), wl w) := e1
  have e2 := x_argument (w := w) hi (j := 2) (by decide)
  have e2 : ai_Call 59 [.ref 175, .int (nI i), .int 2] (wl w) = some (some (.int (xw_ar w (i * 3 + 2))), wl w) := e2
  refine ⟨b, hb, ?_⟩
  simp only [e_91, o_0, r_91_0, r_91_1, r_91_4, r_91_5, r_91_6, r_91_9, r_91_10, r_91_11, r_91_14, r_91_15, r_91_16, r_91_19, r_91_20, r_91_21, r_91_24, r_91_25, r_91_26, r_91_29, r_91_31, r_91_32, r_91_35, r_91_36, r_91_39, r_91_148, r_91_149, r_91_152, r_91_155, r_91_156, r_91_157, r_91_160, r_91_163, r_91_164, r_91_165, r_91_168, r_91_169, r_91_170, r_91_173, r_91_174, r_91_175, r_91_178, r_91_179, r_91_180, r_91_183, r_91_184, r_91_185, r_91_188, r_91_189, r_91_192, r_91_193, r_91_194, r_91_197, r_91_198, r_91_199, r_91_202, r_91_203, r_91_204, r_91_207, r_91_208, r_91_209, r_91_212, r_91_213, r_91_214, r_91_217, r_91_218, r_91_219, r_91_221, r_91_224, r_91_225, r_91_226, r_91_227, r_91_230, r_91_231, r_91_234, r_91_235, r_91_238, r_91_241, r_91_242, r_91_245, r_91_246, r_91_247, r_91_250, r_91_251, r_91_252, r_91_255, r_91_256, r_91_257, r_91_259, r_91_262, r_91_263, r_91_265, Option.bind_some, Option.bind_none, Option.toList_some, Option.toList_none, List.cons_append, List.nil_append, Option.map_some, Option.map_none, eq_self, if_true, if_false, reduceIte, ai_bi_eq0, ai_bi_eq1, ai_pb_bi, ai_pb_0, ai_pb_1, f_0_5, f_0_7, ek, e0, e1, e2, show ¬ (99 : Int32) = 97 by decide, eb]
theorem kt_do_2 {x y : Nat} : kt_does (100, [some x, some y]) (fun B => kc_die B (nI x) (nI y)) := by
  refine ⟨fun B hk => good_die hk _ _, fun w B i h hk hi hki har => ?_, fun B _ h => m0_die h _ _⟩
  obtain ⟨b, hb, eb⟩ := (c_die h hk _ _ : kx_is w (kc_die B (nI x) (nI y)) _)
  have ek := x_kind (w := w) hi
  rw [hki] at ek
  have ek : ai_Call 60 [.ref 175, .int (nI i)] (wl w) = some (some (.int 100), wl w) := ek
  have e0 := x_argument (w := w) hi (j := 0) (by decide)
  rw [har 0 (some x) (by decide) rfl] at e0
  have e0 : ai_Call 59 [.ref 175, .int (nI i), .int 0] (wl w) = some (some (.int (nI x)), wl w) := e0
  have e1 := x_argument (w := w) hi (j := 1) (by decide)
  rw [har 1 (some y) (by decide) rfl] at e1
  have e1 : ai_Call 59 [.ref 175, .int (nI i), .int 1] (wl w) = some (some (.int (nI y)), wl w) := e1
  have e2 := x_argument (w := w) hi (j := 2) (by decide)
  have e2 : ai_Call 59 [.ref 175, .int (nI i), .int 2] (wl w) = some (some (.int (xw_ar w (i * 3 + 2))), wl w) := e2
  refine ⟨b, hb, ?_⟩
  simp only [e_91, o_0, r_91_0, r_91_1, r_91_4, r_91_5, r_91_6, r_91_9, r_91_10, r_91_11, r_91_14, r_91_15, r_91_16, r_91_19, r_91_20, r_91_21, r_91_24, r_91_25, r_91_26, r_91_29, r_91_31, r_91_32, r_91_35, r_91_36, r_91_39, r_91_148, r_91_149, r_91_152, r_91_155, r_91_156, r_91_157, r_91_160, r_91_163, r_91_164, r_91_165, r_91_168, r_91_169, r_91_170, r_91_173, r_91_174, r_91_175, r_91_178, r_91_179, r_91_180, r_91_183, r_91_184, r_91_185, r_91_188, r_91_189, r_91_192, r_91_193, r_91_194, r_91_197, r_91_198, r_91_199, r_91_202, r_91_203, r_91_204, r_91_207, r_91_208, r_91_209, r_91_212, r_91_213, r_91_214, r_91_217, r_91_218, r_91_219, r_91_221, r_91_224, r_91_225, r_91_226, r_91_227, r_91_230, r_91_231, r_91_234, r_91_235, r_91_238, r_91_241, r_91_242, r_91_245, r_91_246, r_91_247, r_91_250, r_91_251, r_91_252, r_91_255, r_91_256, r_91_257, r_91_259, r_91_262, r_91_263, r_91_265, Option.bind_some, Option.bind_none, Option.toList_some, Option.toList_none, List.cons_append, List.nil_append, Option.map_some, Option.map_none, eq_self, if_true, if_false, reduceIte, ai_bi_eq0, ai_bi_eq1, ai_pb_bi, ai_pb_0, ai_pb_1, f_0_5, f_0_7, ek, e0, e1, e2, show ¬ (100 : Int32) = 97 by decide, show ¬ (100 : Int32) = 99 by decide, eb]
theorem kt_do_3 {x y z : Nat} : kt_does (109, [some x, some y, some z]) (fun B => kc_motive B (nI x) (nI y) (nI z)) := by
  refine ⟨fun B hk => good_motive hk _ _ _, fun w B i h hk hi hki har => ?_, fun B hk h => m0_motive h hk _ _ _⟩
  obtain ⟨b, hb, eb⟩ := (c_motive h hk _ _ _ : kx_is w (kc_motive B (nI x) (nI y) (nI z)) _)
  have ek := x_kind (w := w) hi
  rw [hki] at ek
  have ek : ai_Call 60 [.ref 175, .int (nI i)] (wl w) = some (some (.int 109), wl w) := ek
  have e0 := x_argument (w := w) hi (j := 0) (by decide)
  rw [har 0 (some x) (by decide) rfl] at e0
  have e0 : ai_Call 59 [.ref 175, .int (nI i), .int 0] (wl w) = some (some (.int (nI x)), wl w) := e0
  have e1 := x_argument (w := w) hi (j := 1) (by decide)
  rw [har 1 (some y) (by decide) rfl] at e1
  have e1 : ai_Call 59 [.ref 175, .int (nI i), .int 1] (wl w) = some (some (.int (nI y)), wl w) := e1
  have e2 := x_argument (w := w) hi (j := 2) (by decide)
  rw [har 2 (some z) (by decide) rfl] at e2
  have e2 : ai_Call 59 [.ref 175, .int (nI i), .int 2] (wl w) = some (some (.int (nI z)), wl w) := e2
  refine ⟨b, hb, ?_⟩
  simp only [e_91, o_0, r_91_0, r_91_1, r_91_4, r_91_5, r_91_6, r_91_9, r_91_10, r_91_11, r_91_14, r_91_15, r_91_16, r_91_19, r_91_20, r_91_21, r_91_24, r_91_25, r_91_26, r_91_29, r_91_31, r_91_32, r_91_35, r_91_36, r_91_39, r_91_148, r_91_149, r_91_152, r_91_155, r_91_156, r_91_157, r_91_160, r_91_163, r_91_164, r_91_165, r_91_168, r_91_169, r_91_170, r_91_173, r_91_174, r_91_175, r_91_178, r_91_179, r_91_180, r_91_183, r_91_184, r_91_185, r_91_188, r_91_189, r_91_192, r_91_193, r_91_194, r_91_197, r_91_198, r_91_199, r_91_202, r_91_203, r_91_204, r_91_207, r_91_208, r_91_209, r_91_212, r_91_213, r_91_214, r_91_217, r_91_218, r_91_219, r_91_221, r_91_224, r_91_225, r_91_226, r_91_227, r_91_230, r_91_231, r_91_234, r_91_235, r_91_238, r_91_241, r_91_242, r_91_245, r_91_246, r_91_247, r_91_250, r_91_251, r_91_252, r_91_255, r_91_256, r_91_257, r_91_259, r_91_262, r_91_263, r_91_265, Option.bind_some, Option.bind_none, Option.toList_some, Option.toList_none, List.cons_append, List.nil_append, Option.map_some, Option.map_none, eq_self, if_true, if_false, reduceIte, ai_bi_eq0, ai_bi_eq1, ai_pb_bi, ai_pb_0, ai_pb_1, f_0_5, f_0_7, ek, e0, e1, e2, show ¬ (109 : Int32) = 97 by decide, show ¬ (109 : Int32) = 99 by decide, show ¬ (109 : Int32) = 100 by decide, show ¬ (109 : Int32) = 106 by decide, eb]
theorem kt_do_4 {x y : Nat} : kt_does (111, [some x, some y]) (fun B => kc_swear B (nI x) (nI y)) := by
  refine ⟨fun B hk => good_swear hk _ _, fun w B i h hk hi hki har => ?_, fun B _ h => m0_swear h _ _⟩
  obtain ⟨b, hb, eb⟩ := (c_swear h hk _ _ : kx_is w (kc_swear B (nI x) (nI y)) _)
  have ek := x_kind (w := w) hi
  rw [hki] at ek
  have ek : ai_Call 60 [.ref 175, .int (nI i)] (wl w) = some (some (.int 111), wl w) := ek
  have e0 := x_argument (w := w) hi (j := 0) (by decide)
  rw [har 0 (some x) (by decide) rfl] at e0
  have e0 : ai_Call 59 [.ref 175, .int (nI i), .int 0] (wl w) = some (some (.int (nI x)), wl w) := e0
  have e1 := x_argument (w := w) hi (j := 1) (by decide)
  rw [har 1 (some y) (by decide) rfl] at e1
  have e1 : ai_Call 59 [.ref 175, .int (nI i), .int 1] (wl w) = some (some (.int (nI y)), wl w) := e1
  have e2 := x_argument (w := w) hi (j := 2) (by decide)
  have e2 : ai_Call 59 [.ref 175, .int (nI i), .int 2] (wl w) = some (some (.int (xw_ar w (i * 3 + 2))), wl w) := e2
  refine ⟨b, hb, ?_⟩
  simp only [e_91, o_0, r_91_0, r_91_1, r_91_4, r_91_5, r_91_6, r_91_9, r_91_10, r_91_11, r_91_14, r_91_15, r_91_16, r_91_19, r_91_20, r_91_21, r_91_24, r_91_25, r_91_26, r_91_29, r_91_31, r_91_32, r_91_35, r_91_36, r_91_39, r_91_148, r_91_149, r_91_152, r_91_155, r_91_156, r_91_157, r_91_160, r_91_163, r_91_164, r_91_165, r_91_168, r_91_169, r_91_170, r_91_173, r_91_174, r_91_175, r_91_178, r_91_179, r_91_180, r_91_183, r_91_184, r_91_185, r_91_188, r_91_189, r_91_192, r_91_193, r_91_194, r_91_197, r_91_198, r_91_199, r_91_202, r_91_203, r_91_204, r_91_207, r_91_208, r_91_209, r_91_212, r_91_213, r_91_214, r_91_217, r_91_218, r_91_219, r_91_221, r_91_224, r_91_225, r_91_226, r_91_227, r_91_230, r_91_231, r_91_234, r_91_235, r_91_238, r_91_241, r_91_242, r_91_245, r_91_246, r_91_247, r_91_250, r_91_251, r_91_252, r_91_255, r_91_256, r_91_257, r_91_259, r_91_262, r_91_263, r_91_265, Option.bind_some, Option.bind_none, Option.toList_some, Option.toList_none, List.cons_append, List.nil_append, Option.map_some, Option.map_none, eq_self, if_true, if_false, reduceIte, ai_bi_eq0, ai_bi_eq1, ai_pb_bi, ai_pb_0, ai_pb_1, f_0_5, f_0_7, ek, e0, e1, e2, show ¬ (111 : Int32) = 97 by decide, show ¬ (111 : Int32) = 99 by decide, show ¬ (111 : Int32) = 100 by decide, show ¬ (111 : Int32) = 106 by decide, show ¬ (111 : Int32) = 109 by decide, eb]
theorem kt_do_5 {x y : Nat} : kt_does (114, [some x, some y]) (fun B => kc_rise B (nI x) (nI y)) := by
  refine ⟨fun B hk => good_rise hk _ _, fun w B i h hk hi hki har => ?_, fun B _ h => m0_rise h _ _⟩
  obtain ⟨b, hb, eb⟩ := (c_rise h hk _ _ : kx_is w (kc_rise B (nI x) (nI y)) _)
  have ek := x_kind (w := w) hi
  rw [hki] at ek
  have ek : ai_Call 60 [.ref 175, .int (nI i)] (wl w) = some (some (.int 114), wl w) := ek
  have e0 := x_argument (w := w) hi (j := 0) (by decide)
  rw [har 0 (some x) (by decide) rfl] at e0
  have e0 : ai_Call 59 [.ref 175, .int (nI i), .int 0] (wl w) = some (some (.int (nI x)), wl w) := e0
  have e1 := x_argument (w := w) hi (j := 1) (by decide)
  rw [har 1 (some y) (by decide) rfl] at e1
  have e1 : ai_Call 59 [.ref 175, .int (nI i), .int 1] (wl w) = some (some (.int (nI y)), wl w) := e1
  have e2 := x_argument (w := w) hi (j := 2) (by decide)
  have e2 : ai_Call 59 [.ref 175, .int (nI i), .int 2] (wl w) = some (some (.int (xw_ar w (i * 3 + 2))), wl w) := e2
  refine ⟨b, hb, ?_⟩
  simp only [e_91, o_0, r_91_0, r_91_1, r_91_4, r_91_5, r_91_6, r_91_9, r_91_10, r_91_11, r_91_14, r_91_15, r_91_16, r_91_19, r_91_20, r_91_21, r_91_24, r_91_25, r_91_26, r_91_29, r_91_31, r_91_32, r_91_35, r_91_36, r_91_39, r_91_148, r_91_149, r_91_152, r_91_155, r_91_156, r_91_157, r_91_160, r_91_163, r_91_164, r_91_165, r_91_168, r_91_169, r_91_170, r_91_173, r_91_174, r_91_175, r_91_178, r_91_179, r_91_180, r_91_183, r_91_184, r_91_185, r_91_188, r_91_189, r_91_192, r_91_193, r_91_194, r_91_197, r_91_198, r_91_199, r_91_202, r_91_203, r_91_204, r_91_207, r_91_208, r_91_209, r_91_212, r_91_213, r_91_214, r_91_217, r_91_218, r_91_219, r_91_221, r_91_224, r_91_225, r_91_226, r_91_227, r_91_230, r_91_231, r_91_234, r_91_235, r_91_238, r_91_241, r_91_242, r_91_245, r_91_246, r_91_247, r_91_250, r_91_251, r_91_252, r_91_255, r_91_256, r_91_257, r_91_259, r_91_262, r_91_263, r_91_265, Option.bind_some, Option.bind_none, Option.toList_some, Option.toList_none, List.cons_append, List.nil_append, Option.map_some, Option.map_none, eq_self, if_true, if_false, reduceIte, ai_bi_eq0, ai_bi_eq1, ai_pb_bi, ai_pb_0, ai_pb_1, f_0_5, f_0_7, ek, e0, e1, e2, show ¬ (114 : Int32) = 97 by decide, show ¬ (114 : Int32) = 99 by decide, show ¬ (114 : Int32) = 100 by decide, show ¬ (114 : Int32) = 106 by decide, show ¬ (114 : Int32) = 109 by decide, show ¬ (114 : Int32) = 111 by decide, eb]
theorem kt_do_6 {x y z : Nat} : kt_does (116, [some x, some y, some z]) (fun B => kc_trial B (nI x) (nI y) (nI z)) := by
  refine ⟨fun B hk => good_trial hk _ _ _, fun w B i h hk hi hki har => ?_, fun B _ h => m0_trial h _ _ _⟩
  obtain ⟨b, hb, eb⟩ := (c_trial h hk _ _ _ : kx_is w (kc_trial B (nI x) (nI y) (nI z)) _)
  have ek := x_kind (w := w) hi
  rw [hki] at ek
  have ek : ai_Call 60 [.ref 175, .int (nI i)] (wl w) = some (some (.int 116), wl w) := ek
  have e0 := x_argument (w := w) hi (j := 0) (by decide)
  rw [har 0 (some x) (by decide) rfl] at e0
  have e0 : ai_Call 59 [.ref 175, .int (nI i), .int 0] (wl w) = some (some (.int (nI x)), wl w) := e0
  have e1 := x_argument (w := w) hi (j := 1) (by decide)
  rw [har 1 (some y) (by decide) rfl] at e1
  have e1 : ai_Call 59 [.ref 175, .int (nI i), .int 1] (wl w) = some (some (.int (nI y)), wl w) := e1
  have e2 := x_argument (w := w) hi (j := 2) (by decide)
  rw [har 2 (some z) (by decide) rfl] at e2
  have e2 : ai_Call 59 [.ref 175, .int (nI i), .int 2] (wl w) = some (some (.int (nI z)), wl w) := e2
  refine ⟨b, hb, ?_⟩
  simp only [e_91, o_0, r_91_0, r_91_1, r_91_4, r_91_5, r_91_6, r_91_9, r_91_10, r_91_11, r_91_14, r_91_15, r_91_16, r_91_19, r_91_20, r_91_21, r_91_24, r_91_25, r_91_26, r_91_29, r_91_31, r_91_32, r_91_35, r_91_36, r_91_39, r_91_148, r_91_149, r_91_152, r_91_155, r_91_156, r_91_157, r_91_160, r_91_163, r_91_164, r_91_165, r_91_168, r_91_169, r_91_170, r_91_173, r_91_174, r_91_175, r_91_178, r_91_179, r_91_180, r_91_183, r_91_184, r_91_185, r_91_188, r_91_189, r_91_192, r_91_193, r_91_194, r_91_197, r_91_198, r_91_199, r_91_202, r_91_203, r_91_204, r_91_207, r_91_208, r_91_209, r_91_212, r_91_213, r_91_214, r_91_217, r_91_218, r_91_219, r_91_221, r_91_224, r_91_225, r_91_226, r_91_227, r_91_230, r_91_231, r_91_234, r_91_235, r_91_238, r_91_241, r_91_242, r_91_245, r_91_246, r_91_247, r_91_250, r_91_251, r_91_252, r_91_255, r_91_256, r_91_257, r_91_259, r_91_262, r_91_263, r_91_265, Option.bind_some, Option.bind_none, Option.toList_some, Option.toList_none, List.cons_append, List.nil_append, Option.map_some, Option.map_none, eq_self, if_true, if_false, reduceIte, ai_bi_eq0, ai_bi_eq1, ai_pb_bi, ai_pb_0, ai_pb_1, f_0_5, f_0_7, ek, e0, e1, e2, show ¬ (116 : Int32) = 97 by decide, show ¬ (116 : Int32) = 99 by decide, show ¬ (116 : Int32) = 100 by decide, show ¬ (116 : Int32) = 106 by decide, show ¬ (116 : Int32) = 109 by decide, show ¬ (116 : Int32) = 111 by decide, show ¬ (116 : Int32) = 114 by decide, eb]
theorem kt_do_7 {x y : Nat} : kt_does (119, [some x, some y]) (fun B => kc_write B (nI x) (nI y)) := by
  refine ⟨fun B hk => good_write hk _ _, fun w B i h hk hi hki har => ?_, fun B _ h => m0_write h _ _⟩
  obtain ⟨b, hb, eb⟩ := (c_write h hk _ _ : kx_is w (kc_write B (nI x) (nI y)) _)
  have ek := x_kind (w := w) hi
  rw [hki] at ek
  have ek : ai_Call 60 [.ref 175, .int (nI i)] (wl w) = some (some (.int 119), wl w) := ek
  have e0 := x_argument (w := w) hi (j := 0) (by decide)
  rw [har 0 (some x) (by decide) rfl] at e0
  have e0 : ai_Call 59 [.ref 175, .int (nI i), .int 0] (wl w) = some (some (.int (nI x)), wl w) := e0
  have e1 := x_argument (w := w) hi (j := 1) (by decide)
  rw [har 1 (some y) (by decide) rfl] at e1
  have e1 : ai_Call 59 [.ref 175, .int (nI i), .int 1] (wl w) = some (some (.int (nI y)), wl w) := e1
  have e2 := x_argument (w := w) hi (j := 2) (by decide)
  have e2 : ai_Call 59 [.ref 175, .int (nI i), .int 2] (wl w) = some (some (.int (xw_ar w (i * 3 + 2))), wl w) := e2
  refine ⟨b, hb, ?_⟩
  simp only [e_91, o_0, r_91_0, r_91_1, r_91_4, r_91_5, r_91_6, r_91_9, r_91_10, r_91_11, r_91_14, r_91_15, r_91_16, r_91_19, r_91_20, r_91_21, r_91_24, r_91_25, r_91_26, r_91_29, r_91_31, r_91_32, r_91_35, r_91_36, r_91_39, r_91_148, r_91_149, r_91_152, r_91_155, r_91_156, r_91_157, r_91_160, r_91_163, r_91_164, r_91_165, r_91_168, r_91_169, r_91_170, r_91_173, r_91_174, r_91_175, r_91_178, r_91_179, r_91_180, r_91_183, r_91_184, r_91_185, r_91_188, r_91_189, r_91_192, r_91_193, r_91_194, r_91_197, r_91_198, r_91_199, r_91_202, r_91_203, r_91_204, r_91_207, r_91_208, r_91_209, r_91_212, r_91_213, r_91_214, r_91_217, r_91_218, r_91_219, r_91_221, r_91_224, r_91_225, r_91_226, r_91_227, r_91_230, r_91_231, r_91_234, r_91_235, r_91_238, r_91_241, r_91_242, r_91_245, r_91_246, r_91_247, r_91_250, r_91_251, r_91_252, r_91_255, r_91_256, r_91_257, r_91_259, r_91_262, r_91_263, r_91_265, Option.bind_some, Option.bind_none, Option.toList_some, Option.toList_none, List.cons_append, List.nil_append, Option.map_some, Option.map_none, eq_self, if_true, if_false, reduceIte, ai_bi_eq0, ai_bi_eq1, ai_pb_bi, ai_pb_0, ai_pb_1, f_0_5, f_0_7, ek, e0, e1, e2, show ¬ (119 : Int32) = 97 by decide, show ¬ (119 : Int32) = 99 by decide, show ¬ (119 : Int32) = 100 by decide, show ¬ (119 : Int32) = 106 by decide, show ¬ (119 : Int32) = 109 by decide, show ¬ (119 : Int32) = 111 by decide, show ¬ (119 : Int32) = 114 by decide, show ¬ (119 : Int32) = 116 by decide, eb]
theorem kt_do_8 {x : Nat} : kt_does (120, [some x]) (fun B => kc_strike B (nI x)) := by
  refine ⟨fun B hk => good_strike hk _, fun w B i h hk hi hki har => ?_, fun B _ h => m0_strike h _⟩
  obtain ⟨b, hb, eb⟩ := (c_strike h hk _ : kx_is w (kc_strike B (nI x)) _)
  have ek := x_kind (w := w) hi
  rw [hki] at ek
  have ek : ai_Call 60 [.ref 175, .int (nI i)] (wl w) = some (some (.int 120), wl w) := ek
  have e0 := x_argument (w := w) hi (j := 0) (by decide)
  rw [har 0 (some x) (by decide) rfl] at e0
  have e0 : ai_Call 59 [.ref 175, .int (nI i), .int 0] (wl w) = some (some (.int (nI x)), wl w) := e0
  have e1 := x_argument (w := w) hi (j := 1) (by decide)
  have e1 : ai_Call 59 [.ref 175, .int (nI i), .int 1] (wl w) = some (some (.int (xw_ar w (i * 3 + 1))), wl w) := e1
  have e2 := x_argument (w := w) hi (j := 2) (by decide)
  have e2 : ai_Call 59 [.ref 175, .int (nI i), .int 2] (wl w) = some (some (.int (xw_ar w (i * 3 + 2))), wl w) := e2
  refine ⟨b, hb, ?_⟩
  simp only [e_91, o_0, r_91_0, r_91_1, r_91_4, r_91_5, r_91_6, r_91_9, r_91_10, r_91_11, r_91_14, r_91_15, r_91_16, r_91_19, r_91_20, r_91_21, r_91_24, r_91_25, r_91_26, r_91_29, r_91_31, r_91_32, r_91_35, r_91_36, r_91_39, r_91_148, r_91_149, r_91_152, r_91_155, r_91_156, r_91_157, r_91_160, r_91_163, r_91_164, r_91_165, r_91_168, r_91_169, r_91_170, r_91_173, r_91_174, r_91_175, r_91_178, r_91_179, r_91_180, r_91_183, r_91_184, r_91_185, r_91_188, r_91_189, r_91_192, r_91_193, r_91_194, r_91_197, r_91_198, r_91_199, r_91_202, r_91_203, r_91_204, r_91_207, r_91_208, r_91_209, r_91_212, r_91_213, r_91_214, r_91_217, r_91_218, r_91_219, r_91_221, r_91_224, r_91_225, r_91_226, r_91_227, r_91_230, r_91_231, r_91_234, r_91_235, r_91_238, r_91_241, r_91_242, r_91_245, r_91_246, r_91_247, r_91_250, r_91_251, r_91_252, r_91_255, r_91_256, r_91_257, r_91_259, r_91_262, r_91_263, r_91_265, Option.bind_some, Option.bind_none, Option.toList_some, Option.toList_none, List.cons_append, List.nil_append, Option.map_some, Option.map_none, eq_self, if_true, if_false, reduceIte, ai_bi_eq0, ai_bi_eq1, ai_pb_bi, ai_pb_0, ai_pb_1, f_0_5, f_0_7, ek, e0, e1, e2, show ¬ (120 : Int32) = 97 by decide, show ¬ (120 : Int32) = 99 by decide, show ¬ (120 : Int32) = 100 by decide, show ¬ (120 : Int32) = 106 by decide, show ¬ (120 : Int32) = 109 by decide, show ¬ (120 : Int32) = 111 by decide, show ¬ (120 : Int32) = 114 by decide, show ¬ (120 : Int32) = 116 by decide, show ¬ (120 : Int32) = 119 by decide, eb]
theorem kt_do_9 {x : Nat} : kt_does (106, [some x, none]) (fun B => kc_leave B (nI x)) := by
  refine ⟨fun B hk => good_leave hk _, fun w B i h hk hi hki har => ?_, fun B _ h => m0_leave h _⟩
  obtain ⟨b, hb, eb⟩ := (c_leave h hk _ : kx_is w (kc_leave B (nI x)) _)
  have ek := x_kind (w := w) hi
  rw [hki] at ek
  have ek : ai_Call 60 [.ref 175, .int (nI i)] (wl w) = some (some (.int 106), wl w) := ek
  have e0 := x_argument (w := w) hi (j := 0) (by decide)
  rw [har 0 (some x) (by decide) rfl] at e0
  have e0 : ai_Call 59 [.ref 175, .int (nI i), .int 0] (wl w) = some (some (.int (nI x)), wl w) := e0
  have e1 := x_argument (w := w) hi (j := 1) (by decide)
  rw [har 1 (none) (by decide) rfl] at e1
  have e1 : ai_Call 59 [.ref 175, .int (nI i), .int 1] (wl w) = some (some (.int (-1)), wl w) := e1
  have e2 := x_argument (w := w) hi (j := 2) (by decide)
  have e2 : ai_Call 59 [.ref 175, .int (nI i), .int 2] (wl w) = some (some (.int (xw_ar w (i * 3 + 2))), wl w) := e2
  refine ⟨b, hb, ?_⟩
  simp only [e_91, o_0, r_91_0, r_91_1, r_91_4, r_91_5, r_91_6, r_91_9, r_91_10, r_91_11, r_91_14, r_91_15, r_91_16, r_91_19, r_91_20, r_91_21, r_91_24, r_91_25, r_91_26, r_91_29, r_91_31, r_91_32, r_91_35, r_91_36, r_91_39, r_91_148, r_91_149, r_91_152, r_91_155, r_91_156, r_91_157, r_91_160, r_91_163, r_91_164, r_91_165, r_91_168, r_91_169, r_91_170, r_91_173, r_91_174, r_91_175, r_91_178, r_91_179, r_91_180, r_91_183, r_91_184, r_91_185, r_91_188, r_91_189, r_91_192, r_91_193, r_91_194, r_91_197, r_91_198, r_91_199, r_91_202, r_91_203, r_91_204, r_91_207, r_91_208, r_91_209, r_91_212, r_91_213, r_91_214, r_91_217, r_91_218, r_91_219, r_91_221, r_91_224, r_91_225, r_91_226, r_91_227, r_91_230, r_91_231, r_91_234, r_91_235, r_91_238, r_91_241, r_91_242, r_91_245, r_91_246, r_91_247, r_91_250, r_91_251, r_91_252, r_91_255, r_91_256, r_91_257, r_91_259, r_91_262, r_91_263, r_91_265, Option.bind_some, Option.bind_none, Option.toList_some, Option.toList_none, List.cons_append, List.nil_append, Option.map_some, Option.map_none, eq_self, if_true, if_false, reduceIte, ai_bi_eq0, ai_bi_eq1, ai_pb_bi, ai_pb_0, ai_pb_1, f_0_5, f_0_7, ek, e0, e1, e2, show ¬ (106 : Int32) = 97 by decide, show ¬ (106 : Int32) = 99 by decide, show ¬ (106 : Int32) = 100 by decide, eb]
theorem kt_do_10 {x y : Nat} (hy : y < 2 ^ 31) : kt_does (106, [some x, some y]) (fun B => kc_seat B (nI x) (nI y)) := by
  refine ⟨fun B hk => good_seat hk _ _, fun w B i h hk hi hki har => ?_, fun B _ h => m0_seat h _ _⟩
  obtain ⟨b, hb, eb⟩ := (c_seat h hk _ _ : kx_is w (kc_seat B (nI x) (nI y)) _)
  have ek := x_kind (w := w) hi
  rw [hki] at ek
  have ek : ai_Call 60 [.ref 175, .int (nI i)] (wl w) = some (some (.int 106), wl w) := ek
  have e0 := x_argument (w := w) hi (j := 0) (by decide)
  rw [har 0 (some x) (by decide) rfl] at e0
  have e0 : ai_Call 59 [.ref 175, .int (nI i), .int 0] (wl w) = some (some (.int (nI x)), wl w) := e0
  have e1 := x_argument (w := w) hi (j := 1) (by decide)
  rw [har 1 (some y) (by decide) rfl] at e1
  have e1 : ai_Call 59 [.ref 175, .int (nI i), .int 1] (wl w) = some (some (.int (nI y)), wl w) := e1
  have e2 := x_argument (w := w) hi (j := 2) (by decide)
  have e2 : ai_Call 59 [.ref 175, .int (nI i), .int 2] (wl w) = some (some (.int (xw_ar w (i * 3 + 2))), wl w) := e2
  have cy : ¬ nI y = -1 := fun z => nI_pos hy (by rw [z]; decide)
  refine ⟨b, hb, ?_⟩
  simp only [e_91, o_0, r_91_0, r_91_1, r_91_4, r_91_5, r_91_6, r_91_9, r_91_10, r_91_11, r_91_14, r_91_15, r_91_16, r_91_19, r_91_20, r_91_21, r_91_24, r_91_25, r_91_26, r_91_29, r_91_31, r_91_32, r_91_35, r_91_36, r_91_39, r_91_148, r_91_149, r_91_152, r_91_155, r_91_156, r_91_157, r_91_160, r_91_163, r_91_164, r_91_165, r_91_168, r_91_169, r_91_170, r_91_173, r_91_174, r_91_175, r_91_178, r_91_179, r_91_180, r_91_183, r_91_184, r_91_185, r_91_188, r_91_189, r_91_192, r_91_193, r_91_194, r_91_197, r_91_198, r_91_199, r_91_202, r_91_203, r_91_204, r_91_207, r_91_208, r_91_209, r_91_212, r_91_213, r_91_214, r_91_217, r_91_218, r_91_219, r_91_221, r_91_224, r_91_225, r_91_226, r_91_227, r_91_230, r_91_231, r_91_234, r_91_235, r_91_238, r_91_241, r_91_242, r_91_245, r_91_246, r_91_247, r_91_250, r_91_251, r_91_252, r_91_255, r_91_256, r_91_257, r_91_259, r_91_262, r_91_263, r_91_265, Option.bind_some, Option.bind_none, Option.toList_some, Option.toList_none, List.cons_append, List.nil_append, Option.map_some, Option.map_none, eq_self, if_true, if_false, reduceIte, ai_bi_eq0, ai_bi_eq1, ai_pb_bi, ai_pb_0, ai_pb_1, f_0_5, f_0_7, ek, e0, e1, e2, show ¬ (106 : Int32) = 97 by decide, show ¬ (106 : Int32) = 99 by decide, show ¬ (106 : Int32) = 100 by decide, cy, eb]
theorem kt_D_t {c : Nat → Nat} {p : Nat} {G : List (Option Nat)} (h : (kt_D c p G).1 = true) : ∃ v, v < 1000 ∧ (kt_D c p G).2.2 = G ++ [some v] := by
  unfold kt_D at h ⊢
  split at h
  · rename_i hd
    rw [if_pos hd]
    have := kt_d_of hd
    exact ⟨_, by omega, rfl⟩
  · cases h
theorem kt_N_t {c : Nat → Nat} {p : Nat} {G : List (Option Nat)} (h : (kt_N c p G).1 = true) : ∃ v, v < 1000 ∧ (kt_N c p G).2.2 = G ++ [some v] := by
  unfold kt_N at h ⊢
  split at h
  · rename_i hd
    rw [if_pos hd]
    have := kt_d_of hd
    split
    · rename_i hd2
      have := kt_d_of hd2
      exact ⟨_, by omega, rfl⟩
    · exact ⟨_, by omega, rfl⟩
  · cases h
theorem kt_P_t {c : Nat → Nat} {p : Nat} {G : List (Option Nat)} (h : (kt_P c p G).1 = true) : ∃ v, v < 1000 ∧ (kt_P c p G).2.2 = G ++ [some v] := by
  unfold kt_P at h ⊢
  split at h
  · rename_i hd
    rw [if_pos hd]
    exact ⟨1, by decide, rfl⟩
  · rename_i hd
    rw [if_neg hd]
    split at h
    · rename_i hd2
      rw [if_pos hd2]
      exact ⟨0, by decide, rfl⟩
    · cases h
theorem kt_S_t {c : Nat → Nat} {p : Nat} {G : List (Option Nat)} (h : (kt_S c p G).1 = true) : (kt_S c p G).2.2 = G ++ [none] ∨ ∃ v, v < 1000 ∧ (kt_S c p G).2.2 = G ++ [some v] := by
  unfold kt_S at h ⊢
  split at h
  · rename_i hd
    rw [if_pos hd]
    exact Or.inl rfl
  · rename_i hd
    rw [if_neg hd]
    split at h
    · rename_i hd2
      rw [if_pos hd2]
      split at h
      · rename_i hd3
        rw [if_pos hd3]
        have := kt_d_of hd3
        exact Or.inr ⟨_, by omega, rfl⟩
      · cases h
    · cases h
/-- what the items of a command give -/
def kt_f : List Nat → List (Option Nat) → List (Option Nat) → Prop
  | [], G, H => H = G
  | i :: l, G, H => if i < 3 then ∃ v, v < 1000 ∧ kt_f l (G ++ [some v]) H else if i = 3 then (kt_f l (G ++ [none]) H ∨ ∃ v, v < 1000 ∧ kt_f l (G ++ [some v]) H) else kt_f l G H
theorem kt_s_f {c : Nat → Nat} : ∀ (l : List Nat) (p : Nat) (G : List (Option Nat)), (kt_s c l p G).1 = true → kt_f l G (kt_s c l p G).2.2 := by
  intro l
  induction l with
  | nil => intro p G _; rfl
  | cons i l ih =>
    intro p G h
    rw [kt_s] at h ⊢
    by_cases hi : (kt_i c i p G).1 = true
    · rw [if_pos hi] at h ⊢
      have IH := ih _ _ h
      rw [kt_f]
      by_cases h0 : i = 0
      · subst h0
        rw [if_pos (by decide)]
        obtain ⟨v, hv, e⟩ := kt_D_t (c := c) (p := p) (G := G) hi
        refine ⟨v, hv, ?_⟩
        have e' : (kt_i c 0 p G).2.2 = G ++ [some v] := e
        rw [e'] at IH ⊢
        exact IH
      by_cases h1 : i = 1
      · subst h1
        rw [if_pos (by decide)]
        obtain ⟨v, hv, e⟩ := kt_N_t (c := c) (p := p) (G := G) hi
        refine ⟨v, hv, ?_⟩
        have e' : (kt_i c 1 p G).2.2 = G ++ [some v] := e
        rw [e'] at IH ⊢
        exact IH
      by_cases h2 : i = 2
      · subst h2
        rw [if_pos (by decide)]
        obtain ⟨v, hv, e⟩ := kt_P_t (c := c) (p := p) (G := G) hi
        refine ⟨v, hv, ?_⟩
        have e' : (kt_i c 2 p G).2.2 = G ++ [some v] := e
        rw [e'] at IH ⊢
        exact IH
      by_cases h3 : i = 3
      · subst h3
        rw [if_neg (by decide), if_pos rfl]
        rcases kt_S_t (c := c) (p := p) (G := G) hi with e | ⟨v, hv, e⟩
        · have e' : (kt_i c 3 p G).2.2 = G ++ [none] := e
          left
          rw [e'] at IH ⊢
          exact IH
        · have e' : (kt_i c 3 p G).2.2 = G ++ [some v] := e
          right
          refine ⟨v, hv, ?_⟩
          rw [e'] at IH ⊢
          exact IH
      · rw [if_neg (by omega), if_neg h3]
        have e' : (kt_i c i p G).2.2 = G := by
          unfold kt_i at hi ⊢
          rw [if_neg h0, if_neg h1, if_neg h2, if_neg h3] at hi ⊢
          unfold kt_X
          split <;> rfl
        rw [e'] at IH ⊢
        exact IH
    · rw [if_neg hi] at h
      exact absurd h hi
theorem kt_do_of {c : Nat → Nat} {p : Nat} (h : (kt_c c p).1 = true) : ∃ o, kt_does (c p, (kt_c c p).2.2) o := by
  unfold kt_c at h ⊢
  generalize c p = k at h ⊢
  cases hg : kt_g k with
  | none => rw [hg] at h; cases h
  | some l =>
    rw [hg] at h
    have hf := kt_s_f l (p + 1) [] h
    show ∃ o, kt_does (k, (kt_s c l (p + 1) []).2.2) o
    generalize (kt_s c l (p + 1) []).2.2 = H at hf
    unfold kt_g at hg
    by_cases d1 : k = 97
    · rw [if_pos d1] at hg; cases hg; subst d1
      have hf : H = [] := hf
      subst hf; exact ⟨_, kt_do_0⟩
    rw [if_neg d1] at hg
    by_cases d2 : k = 99
    · rw [if_pos d2] at hg; cases hg; subst d2
      have hf : H = [] := hf
      subst hf; exact ⟨_, kt_do_1⟩
    rw [if_neg d2] at hg
    by_cases d3 : k = 100
    · rw [if_pos d3] at hg; cases hg; subst d3
      have hf : ∃ v, v < 1000 ∧ ∃ u, u < 1000 ∧ H = [some v, some u] := hf
      obtain ⟨v, _, u, _, rfl⟩ := hf; exact ⟨_, kt_do_2⟩
    rw [if_neg d3] at hg
    by_cases d4 : k = 106
    · rw [if_pos d4] at hg; cases hg; subst d4
      have hf : ∃ v, v < 1000 ∧ (H = [some v, none] ∨ ∃ u, u < 1000 ∧ H = [some v, some u]) := hf
      obtain ⟨v, _, hf⟩ := hf
      rcases hf with rfl | ⟨u, hu, rfl⟩
      · exact ⟨_, kt_do_9⟩
      · exact ⟨_, kt_do_10 (by omega)⟩
    rw [if_neg d4] at hg
    by_cases d5 : k = 109
    · rw [if_pos d5] at hg; cases hg; subst d5
      have hf : ∃ v, v < 1000 ∧ ∃ u, u < 1000 ∧ ∃ t, t < 1000 ∧ H = [some v, some u, some t] := hf
      obtain ⟨v, _, u, _, t, _, rfl⟩ := hf; exact ⟨_, kt_do_3⟩
    rw [if_neg d5] at hg
    by_cases d6 : k = 111
    · rw [if_pos d6] at hg; cases hg; subst d6
      have hf : ∃ v, v < 1000 ∧ ∃ u, u < 1000 ∧ H = [some v, some u] := hf
      obtain ⟨v, _, u, _, rfl⟩ := hf; exact ⟨_, kt_do_4⟩
    rw [if_neg d6] at hg
    by_cases d7 : k = 114
    · rw [if_pos d7] at hg; cases hg; subst d7
      have hf : ∃ v, v < 1000 ∧ ∃ u, u < 1000 ∧ H = [some v, some u] := hf
      obtain ⟨v, _, u, _, rfl⟩ := hf; exact ⟨_, kt_do_5⟩
    rw [if_neg d7] at hg
    by_cases d8 : k = 116
    · rw [if_pos d8] at hg; cases hg; subst d8
      have hf : ∃ v, v < 1000 ∧ ∃ u, u < 1000 ∧ ∃ t, t < 1000 ∧ H = [some v, some u, some t] := hf
      obtain ⟨v, _, u, _, t, _, rfl⟩ := hf; exact ⟨_, kt_do_6⟩
    rw [if_neg d8] at hg
    by_cases d9 : k = 119
    · rw [if_pos d9] at hg; cases hg; subst d9
      have hf : ∃ v, v < 1000 ∧ ∃ u, u < 1000 ∧ H = [some v, some u] := hf
      obtain ⟨v, _, u, _, rfl⟩ := hf; exact ⟨_, kt_do_7⟩
    rw [if_neg d9] at hg
    by_cases d10 : k = 120
    · rw [if_pos d10] at hg; cases hg; subst d10
      have hf : ∃ v, v < 1000 ∧ H = [some v] := hf
      obtain ⟨v, _, rfl⟩ := hf; exact ⟨_, kt_do_8⟩
    rw [if_neg d10] at hg
    cases hg
/-- the commands of a text, each with what it does -/
theorem kt_a_do {c : Nat → Nat} {n : Nat} : ∀ (f p : Nat) (l : List kt_C), (kt_a c n f p).1 = some l → l.length ≤ f ∧ ∀ q, q ∈ l → ∃ o, kt_does q o := by
  intro f
  induction f with
  | zero => intro p l h; cases h
  | succ f ih =>
    intro p l h
    rw [kt_a] at h
    by_cases c1 : (kt_c c p).1 = true
    · have hd := kt_do_of c1
      rw [if_pos c1] at h
      by_cases c2 : (kt_c c p).2.1 = n
      · rw [if_pos c2] at h
        have e : l = [(c p, (kt_c c p).2.2)] := by simpa using h.symm
        subst e
        refine ⟨by simp, fun q hq => ?_⟩
        rw [List.mem_singleton] at hq
        subst hq
        exact hd
      · rw [if_neg c2] at h
        by_cases c3 : c (kt_c c p).2.1 = 59
        · rw [if_pos c3] at h
          cases hr : (kt_a c n f ((kt_c c p).2.1 + 1)).1 with
          | none => rw [hr] at h; cases h
          | some m =>
            rw [hr] at h
            have e : l = (c p, (kt_c c p).2.2) :: m := by simpa using h.symm
            subst e
            obtain ⟨k1, k2⟩ := ih _ _ hr
            refine ⟨by rw [List.length_cons]; omega, fun q hq => ?_⟩
            rcases List.mem_cons.mp hq with rfl | hq
            · exact hd
            · exact k2 q hq
        · rw [if_neg c3] at h; cases h
    · rw [if_neg c1] at h; cases h

