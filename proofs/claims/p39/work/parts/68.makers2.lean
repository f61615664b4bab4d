/-! The class's constructor. Printed by gen68.py. -/
theorem fput0 (L : ai_W) {c k : Nat} {fs : List Value} {x : Value} (hk : k < fs.length) (hp : ai_pok (ai_fty c k) x = true) : ai_fput (ob c fs :: L) 0 c k x = some (ob c (fs.set k x) :: L) := fput_mid [] L hk hp
theorem sn_1 {ws : ai_W} (h : ws.length = 1) : ai_Run 11 4 [.ref 0, .null, .null, .null, .null] [] ws = ai_Run 11 12 [.ref 0, .ref 1, .null, .null, .null] [] (ws ++ bc 1) := by
  have e := n_book ws
  rw [h] at e
  simp only [r_11_4, r_11_7, r_11_8, r_11_11, h, e, Option.bind_some, Option.toList_none, List.nil_append]
theorem sn_2 {ws : ai_W} (h : ws.length = 16) : ai_Run 11 12 [.ref 0, .ref 1, .null, .null, .null] [] ws = ai_Run 11 21 [.ref 0, .ref 1, .ref 16, .null, .null] [] (ws ++ [ob 4 [.ref 1]]) := by
  have e := n_inq ws 1
  rw [h] at e
  simp only [r_11_12, r_11_15, r_11_16, r_11_17, r_11_20, h, e, Option.bind_some, Option.toList_none, List.nil_append]
theorem sn_3 {ws : ai_W} (h : ws.length = 17) : ai_Run 11 21 [.ref 0, .ref 1, .ref 16, .null, .null] [] ws = ai_Run 11 30 [.ref 0, .ref 1, .ref 16, .ref 17, .null] [] (ws ++ [ob 5 [.ref 1]]) := by
  have e := n_jury ws 1
  rw [h] at e
  simp only [r_11_21, r_11_24, r_11_25, r_11_26, r_11_29, h, e, Option.bind_some, Option.toList_none, List.nil_append]
theorem sn_4 {ws : ai_W} (h : ws.length = 18) : ai_Run 11 30 [.ref 0, .ref 1, .ref 16, .ref 17, .null] [] ws = ai_Run 11 39 [.ref 0, .ref 1, .ref 16, .ref 17, .ref 18] [] (ws ++ [ob 7 [.int (-4), .int (-4), .int (-4), .int (-4)]]) := by
  have e := n_ref ws
  rw [h] at e
  simp only [r_11_30, r_11_33, r_11_34, r_11_37, h, e, Option.bind_some, Option.toList_none, List.nil_append]
theorem sn_5 (X : ai_W) : ai_Run 11 39 [.ref 0, .ref 1, .ref 16, .ref 17, .ref 18] [] (ob 10 [.null, .null, .null, .null, .null, .null, .null, .null, .null] :: X) = ai_Run 11 54 [.ref 0, .ref 1, .ref 16, .ref 17, .ref 18] [] (ob 10 [.ref 1, .ref 16, .ref 17, .null, .null, .null, .null, .null, .null] :: X) := by
  have h0 := fput0 X (c := 10) (k := 0) (fs := [.null, .null, .null, .null, .null, .null, .null, .null, .null]) (x := .ref 1) (by decide) (pok_r fr_10_0 _)
  have h1 := fput0 X (c := 10) (k := 1) (fs := [.ref 1, .null, .null, .null, .null, .null, .null, .null, .null]) (x := .ref 16) (by decide) (pok_r fr_10_1 _)
  have h2 := fput0 X (c := 10) (k := 2) (fs := [.ref 1, .ref 16, .null, .null, .null, .null, .null, .null, .null]) (x := .ref 17) (by decide) (pok_r fr_10_2 _)
  simp only [List.set_cons_zero, List.set_cons_succ] at h0 h1 h2
  simp only [r_11_39, r_11_40, r_11_41, r_11_44, r_11_45, r_11_46, r_11_49, r_11_50, r_11_51, h0, h1, h2, Option.bind_some]
theorem sn_6 {X : ai_W} (h : X.length = 18) : ai_Run 11 54 [.ref 0, .ref 1, .ref 16, .ref 17, .ref 18] [] (ob 10 [.ref 1, .ref 16, .ref 17, .null, .null, .null, .null, .null, .null] :: X) = ai_Run 11 66 [.ref 0, .ref 1, .ref 16, .ref 17, .ref 18] [] (ob 10 [.ref 1, .ref 16, .ref 17, .ref 19, .null, .null, .null, .null, .null] :: (X ++ cc2 19 1)) := by
  have hl : (ob 10 [.ref 1, .ref 16, .ref 17, .null, .null, .null, .null, .null, .null] :: X).length = 19 := by rw [List.length_cons, h]
  have e := n_cnt (ob 10 [.ref 1, .ref 16, .ref 17, .null, .null, .null, .null, .null, .null] :: X) 1
  rw [hl] at e
  have ep := fput0 (X ++ cc2 19 1) (c := 10) (k := 3) (fs := [.ref 1, .ref 16, .ref 17, .null, .null, .null, .null, .null, .null]) (x := .ref 19) (by decide) (pok_r fr_10_3 _)
  simp only [List.set_cons_zero, List.set_cons_succ] at ep
  have ep : ai_fput ((ob 10 [.ref 1, .ref 16, .ref 17, .null, .null, .null, .null, .null, .null] :: X) ++ cc2 19 1) 0 10 3 (.ref 19) = _ := ep
  generalize (ob 10 [.ref 1, .ref 16, .ref 17, .null, .null, .null, .null, .null, .null] :: X) = ws at hl e ep ⊢
  simp only [r_11_54, r_11_55, r_11_58, r_11_59, r_11_60, r_11_63, hl, e, ep, Option.bind_some, Option.toList_none, List.nil_append]
theorem sn_7 (X : ai_W) : ai_Run 11 66 [.ref 0, .ref 1, .ref 16, .ref 17, .ref 18] [] (ob 10 [.ref 1, .ref 16, .ref 17, .ref 19, .null, .null, .null, .null, .null] :: X) = ai_Run 11 72 [.ref 0, .ref 1, .ref 16, .ref 17, .ref 18] [] (ob 10 [.ref 1, .ref 16, .ref 17, .ref 19, .ref 18, .null, .null, .null, .null] :: X) := by
  have h0 := fput0 X (c := 10) (k := 4) (fs := [.ref 1, .ref 16, .ref 17, .ref 19, .null, .null, .null, .null, .null]) (x := .ref 18) (by decide) (pok_r fr_10_4 _)
  simp only [List.set_cons_zero, List.set_cons_succ] at h0
  simp only [r_11_66, r_11_67, r_11_69, h0, Option.bind_some]
theorem sn_8 {X : ai_W} (h : X.length = 21) : ai_Run 11 72 [.ref 0, .ref 1, .ref 16, .ref 17, .ref 18] [] (ob 10 [.ref 1, .ref 16, .ref 17, .ref 19, .ref 18, .null, .null, .null, .null] :: X) = ai_Run 11 88 [.ref 0, .ref 1, .ref 16, .ref 17, .ref 18] [] (ob 10 [.ref 1, .ref 16, .ref 17, .ref 19, .ref 18, .ref 22, .null, .null, .null] :: (X ++ [ob 1 [.ref 1, .ref 16, .ref 17, .ref 18]])) := by
  have hl : (ob 10 [.ref 1, .ref 16, .ref 17, .ref 19, .ref 18, .null, .null, .null, .null] :: X).length = 22 := by rw [List.length_cons, h]
  have e := n_chg (ob 10 [.ref 1, .ref 16, .ref 17, .ref 19, .ref 18, .null, .null, .null, .null] :: X) 1 16 17 18
  rw [hl] at e
  have ep := fput0 (X ++ [ob 1 [.ref 1, .ref 16, .ref 17, .ref 18]]) (c := 10) (k := 5) (fs := [.ref 1, .ref 16, .ref 17, .ref 19, .ref 18, .null, .null, .null, .null]) (x := .ref 22) (by decide) (pok_r fr_10_5 _)
  simp only [List.set_cons_zero, List.set_cons_succ] at ep
  have ep : ai_fput ((ob 10 [.ref 1, .ref 16, .ref 17, .ref 19, .ref 18, .null, .null, .null, .null] :: X) ++ [ob 1 [.ref 1, .ref 16, .ref 17, .ref 18]]) 0 10 5 (.ref 22) = _ := ep
  generalize (ob 10 [.ref 1, .ref 16, .ref 17, .ref 19, .ref 18, .null, .null, .null, .null] :: X) = ws at hl e ep ⊢
  simp only [r_11_72, r_11_73, r_11_76, r_11_77, r_11_78, r_11_79, r_11_80, r_11_82, r_11_85, hl, e, ep, Option.bind_some, Option.toList_none, List.nil_append]
theorem sn_9 {X : ai_W} (h : X.length = 22) : ai_Run 11 88 [.ref 0, .ref 1, .ref 16, .ref 17, .ref 18] [] (ob 10 [.ref 1, .ref 16, .ref 17, .ref 19, .ref 18, .ref 22, .null, .null, .null] :: X) = ai_Run 11 99 [.ref 0, .ref 1, .ref 16, .ref 17, .ref 18] [] (ob 10 [.ref 1, .ref 16, .ref 17, .ref 19, .ref 18, .ref 22, .ref 23, .null, .null] :: (X ++ hs9 23 9)) := by
  have hl : (ob 10 [.ref 1, .ref 16, .ref 17, .ref 19, .ref 18, .ref 22, .null, .null, .null] :: X).length = 23 := by rw [List.length_cons, h]
  have e := n_hist (ob 10 [.ref 1, .ref 16, .ref 17, .ref 19, .ref 18, .ref 22, .null, .null, .null] :: X)
  rw [hl] at e
  have ep := fput0 (X ++ hs9 23 9) (c := 10) (k := 6) (fs := [.ref 1, .ref 16, .ref 17, .ref 19, .ref 18, .ref 22, .null, .null, .null]) (x := .ref 23) (by decide) (pok_r fr_10_6 _)
  simp only [List.set_cons_zero, List.set_cons_succ] at ep
  have ep : ai_fput ((ob 10 [.ref 1, .ref 16, .ref 17, .ref 19, .ref 18, .ref 22, .null, .null, .null] :: X) ++ hs9 23 9) 0 10 6 (.ref 23) = _ := ep
  generalize (ob 10 [.ref 1, .ref 16, .ref 17, .ref 19, .ref 18, .ref 22, .null, .null, .null] :: X) = ws at hl e ep ⊢
  simp only [r_11_88, r_11_89, r_11_92, r_11_93, r_11_96, hl, e, ep, Option.bind_some, Option.toList_none, List.nil_append]
theorem sn_10 {X : ai_W} (h : X.length = 174) : ai_Run 11 99 [.ref 0, .ref 1, .ref 16, .ref 17, .ref 18] [] (ob 10 [.ref 1, .ref 16, .ref 17, .ref 19, .ref 18, .ref 22, .ref 23, .null, .null] :: X) = ai_Run 11 110 [.ref 0, .ref 1, .ref 16, .ref 17, .ref 18] [] (ob 10 [.ref 1, .ref 16, .ref 17, .ref 19, .ref 18, .ref 22, .ref 23, .ref 175, .null] :: (X ++ tc 175)) := by
  have hl : (ob 10 [.ref 1, .ref 16, .ref 17, .ref 19, .ref 18, .ref 22, .ref 23, .null, .null] :: X).length = 175 := by rw [List.length_cons, h]
  have e := n_text (ob 10 [.ref 1, .ref 16, .ref 17, .ref 19, .ref 18, .ref 22, .ref 23, .null, .null] :: X)
  rw [hl] at e
  have ep := fput0 (X ++ tc 175) (c := 10) (k := 7) (fs := [.ref 1, .ref 16, .ref 17, .ref 19, .ref 18, .ref 22, .ref 23, .null, .null]) (x := .ref 175) (by decide) (pok_r fr_10_7 _)
  simp only [List.set_cons_zero, List.set_cons_succ] at ep
  have ep : ai_fput ((ob 10 [.ref 1, .ref 16, .ref 17, .ref 19, .ref 18, .ref 22, .ref 23, .null, .null] :: X) ++ tc 175) 0 10 7 (.ref 175) = _ := ep
  generalize (ob 10 [.ref 1, .ref 16, .ref 17, .ref 19, .ref 18, .ref 22, .ref 23, .null, .null] :: X) = ws at hl e ep ⊢
  simp only [r_11_99, r_11_100, r_11_103, r_11_104, r_11_107, hl, e, ep, Option.bind_some, Option.toList_none, List.nil_append]
theorem sn_11 {X : ai_W} (h : X.length = 181) : ai_Run 11 110 [.ref 0, .ref 1, .ref 16, .ref 17, .ref 18] [] (ob 10 [.ref 1, .ref 16, .ref 17, .ref 19, .ref 18, .ref 22, .ref 23, .ref 175, .null] :: X) = ai_Run 11 121 [.ref 0, .ref 1, .ref 16, .ref 17, .ref 18] [] (ob 10 [.ref 1, .ref 16, .ref 17, .ref 19, .ref 18, .ref 22, .ref 23, .ref 175, .ref 182] :: (X ++ lc 182)) := by
  have hl : (ob 10 [.ref 1, .ref 16, .ref 17, .ref 19, .ref 18, .ref 22, .ref 23, .ref 175, .null] :: X).length = 182 := by rw [List.length_cons, h]
  have e := n_line (ob 10 [.ref 1, .ref 16, .ref 17, .ref 19, .ref 18, .ref 22, .ref 23, .ref 175, .null] :: X)
  rw [hl] at e
  have ep := fput0 (X ++ lc 182) (c := 10) (k := 8) (fs := [.ref 1, .ref 16, .ref 17, .ref 19, .ref 18, .ref 22, .ref 23, .ref 175, .null]) (x := .ref 182) (by decide) (pok_r fr_10_8 _)
  simp only [List.set_cons_zero, List.set_cons_succ] at ep
  have ep : ai_fput ((ob 10 [.ref 1, .ref 16, .ref 17, .ref 19, .ref 18, .ref 22, .ref 23, .ref 175, .null] :: X) ++ lc 182) 0 10 8 (.ref 182) = _ := ep
  generalize (ob 10 [.ref 1, .ref 16, .ref 17, .ref 19, .ref 18, .ref 22, .ref 23, .ref 175, .null] :: X) = ws at hl e ep ⊢
  simp only [r_11_110, r_11_111, r_11_114, r_11_115, r_11_118, hl, e, ep, Option.bind_some, Option.toList_none, List.nil_append]
def sX : ai_W := (((((((bc 1 ++ [ob 4 [.ref 1]]) ++ [ob 5 [.ref 1]]) ++ [ob 7 [.int (-4), .int (-4), .int (-4), .int (-4)]]) ++ cc2 19 1) ++ [ob 1 [.ref 1, .ref 16, .ref 17, .ref 18]]) ++ hs9 23 9) ++ tc 175) ++ lc 182
theorem n_S0 : ai_Call 11 [.ref 0] [ai_blank 10] = some (none, ob 10 [.ref 1, .ref 16, .ref 17, .ref 19, .ref 18, .ref 22, .ref 23, .ref 175, .ref 182] :: sX) := by
  have hi := isob_new [] bl_10
  have hi : ai_isob [ai_blank 10] 0 10 = true := hi
  simp only [e_11, hi, r_11_0, r_11_1, if_true]
  rw [bl_10, sn_1 rfl, sn_2 rfl, sn_3 rfl, sn_4 rfl]
  show ai_Run 11 39 [.ref 0, .ref 1, .ref 16, .ref 17, .ref 18] [] (ob 10 [.null, .null, .null, .null, .null, .null, .null, .null, .null] :: (((bc 1 ++ [ob 4 [.ref 1]]) ++ [ob 5 [.ref 1]]) ++ [ob 7 [.int (-4), .int (-4), .int (-4), .int (-4)]])) = _
  rw [sn_5, sn_6 rfl, sn_7, sn_8 rfl, sn_9 rfl, sn_10 rfl, sn_11 rfl, r_11_121]
  rfl
set_option maxRecDepth 100000 in
theorem n_S : ai_Call 11 [.ref 0] [ai_blank 10] = some (none, wl xw_0) := by
  rw [n_S0]
  rfl
