/-! The class's and the reference's constructor. Printed by gen68.py. -/
theorem fput0 (L : ai_W) {c k : Nat} {fs : List Value} {x : Value} (hk : k < fs.length) (hp : ai_pok (ai_fty c k) x = true) : ai_fput (ob c fs :: L) 0 c k x = some (ob c (fs.set k x) :: L) := fput_mid [] L hk hp
theorem sn_1 {ws : ai_W} (h : ws.length = 1) : ai_Run 11 4 [.ref 0, .null, .null, .null, .null] [] ws = ai_Run 11 12 [.ref 0, .ref 1, .null, .null, .null] [] (ws ++ bc 1) := by
  have e := n_book ws
  rw [h] at e
  simp only [r_11_4, r_11_7, r_11_8, r_11_11, h, e, Option.bind_some, Option.toList_none, List.nil_append]
theorem sn_2 {ws : ai_W} (h : ws.length = 16) : ai_Run 11 12 [.ref 0, .ref 1, .null, .null, .null] [] ws = ai_Run 11 21 [.ref 0, .ref 1, .ref 16, .null, .null] [] (ws ++ [ob 4 [.ref 1]]) := by
  have e := n_inq ws 1
  rw [h] at e
  simp only [r_11_12, r_11_15, r_11_16, r_11_17, r_11_20, h, e, Option.bind_some, Option.toList_none, List.nil_append]
theorem sn_3 {ws : ai_W} (h : ws.length = 17) : ai_Run 11 21 [.ref 0, .ref 1, .ref 16, .null, .null] [] ws = ai_Run 11 30 [.ref 0, .ref 1, .ref 16, .ref 17, .null] [] (ws ++ [ob 5 [.ref 1]]) := by
  have e := n_jury ws 1
  rw [h] at e
  simp only [r_11_21, r_11_24, r_11_25, r_11_26, r_11_29, h, e, Option.bind_some, Option.toList_none, List.nil_append]
theorem sn_4 {ws : ai_W} (h : ws.length = 18) : ai_Run 11 30 [.ref 0, .ref 1, .ref 16, .ref 17, .null] [] ws = ai_Run 11 39 [.ref 0, .ref 1, .ref 16, .ref 17, .ref 18] [] (ws ++ [ob 7 [.int (-4), .int (-4), .int (-4), .int (-4)]]) := by
  have e := n_ref ws
  rw [h] at e
  simp only [r_11_30, r_11_33, r_11_34, r_11_37, h, e, Option.bind_some, Option.toList_none, List.nil_append]
theorem sn_5 (X : ai_W) : ai_Run 11 39 [.ref 0, .ref 1, .ref 16, .ref 17, .ref 18] [] (ob 10 [.null, .null, .null, .null, .null, .null, .null, .null, .null] :: X) = ai_Run 11 54 [.ref 0, .ref 1, .ref 16, .ref 17, .ref 18] [] (ob 10 [.ref 1, .ref 16, .ref 17, .null, .null, .null, .null, .null, .null] :: X) := by
  have h0 := fput0 X (c := 10) (k := 0) (fs := [.null, .null, .null, .null, .null, .null, .null, .null, .null]) (x := .ref 1) (by decide) (pok_r fr_10_0 _)
  have h1 := fput0 X (c := 10) (k := 1) (fs := [.ref 1, .null, .null, .null, .null, .null, .null, .null, .null]) (x := .ref 16) (by decide) (pok_r fr_10_1 _)
  have h2 := fput0 X (c := 10) (k := 2) (fs := [.ref 1, .ref 16, .null, .null, .null, .null, .null, .null, .null]) (x := .ref 17) (by decide) (pok_r fr_10_2 _)
  simp only [List.set_cons_zero, List.set_cons_succ] at h0 h1 h2
  simp only [r_11_39, r_11_40, r_11_41, r_11_44, r_11_45, r_11_46, r_11_49, r_11_50, r_11_51, h0, h1, h2, Option.bind_some]
theorem sn_6 {X : ai_W} (h : X.length = 18) : ai_Run 11 54 [.ref 0, .ref 1, .ref 16, .ref 17, .ref 18] [] (ob 10 [.ref 1, .ref 16, .ref 17, .null, .null, .null, .null, .null, .null] :: X) = ai_Run 11 66 [.ref 0, .ref 1, .ref 16, .ref 17, .ref 18] [] (ob 10 [.ref 1, .ref 16, .ref 17, .ref 19, .null, .null, .null, .null, .null] :: (X ++ cc2 19 1)) := by
  have hl : (ob 10 [.ref 1, .ref 16, .ref 17, .null, .null, .null, .null, .null, .null] :: X).length = 19 := by rw [List.length_cons, h]
  have e := n_cnt (ob 10 [.ref 1, .ref 16, .ref 17, .null, .null, .null, .null, .null, .null] :: X) 1
  rw [hl] at e
  have ep := fput0 (X ++ cc2 19 1) (c := 10) (k := 3) (fs := [.ref 1, .ref 16, .ref 17, .null, .null, .null, .null, .null, .null]) (x := .ref 19) (by decide) (pok_r fr_10_3 _)
  simp only [List.set_cons_zero, List.set_cons_succ] at ep
  have ep : ai_fput ((ob 10 [.ref 1, .ref 16, .ref 17, .null, .null, .null, .null, .null, .null] :: X) ++ cc2 19 1) 0 10 3 (.ref 19) = _ := ep
  generalize (ob 10 [.ref 1, .ref 16, .ref 17, .null, .null, .null, .null, .null, .null] :: X) = ws at hl e ep ⊢
  simp only [r_11_54, r_11_55, r_11_58, r_11_59, r_11_60, r_11_63, hl, e, ep, Option.bind_some, Option.toList_none, List.nil_append]
theorem sn_7 (X : ai_W) : ai_Run 11 66 [.ref 0, .ref 1, .ref 16, .ref 17, .ref 18] [] (ob 10 [.ref 1, .ref 16, .ref 17, .ref 19, .null, .null, .null, .null, .null] :: X) = ai_Run 11 72 [.ref 0, .ref 1, .ref 16, .ref 17, .ref 18] [] (ob 10 [.ref 1, .ref 16, .ref 17, .ref 19, .ref 18, .null, .null, .null, .null] :: X) := by
  have h0 := fput0 X (c := 10) (k := 4) (fs := [.ref 1, .ref 16, .ref 17, .ref 19, .null, .null, .null, .null, .null]) (x := .ref 18) (by decide) (pok_r fr_10_4 _)
  simp only [List.set_cons_zero, List.set_cons_succ] at h0
  simp only [r_11_66, r_11_67, r_11_69, h0, Option.bind_some]
theorem sn_8 {X : ai_W} (h : X.length = 21) : ai_Run 11 72 [.ref 0, .ref 1, .ref 16, .ref 17, .ref 18] [] (ob 10 [.ref 1, .ref 16, .ref 17, .ref 19, .ref 18, .null, .null, .null, .null] :: X) = ai_Run 11 88 [.ref 0, .ref 1, .ref 16, .ref 17, .ref 18] [] (ob 10 [.ref 1, .ref 16, .ref 17, .ref 19, .ref 18, .ref 22, .null, .null, .null] :: (X ++ [ob 1 [.ref 1, .ref 16, .ref 17, .ref 18]])) := by
  have hl : (ob 10 [.ref 1, .ref 16, .ref 17, .ref 19, .ref 18, .null, .null, .null, .null] :: X).length = 22 := by rw [List.length_cons, h]
  have e := n_chg (ob 10 [.ref 1, .ref 16, .ref 17, .ref 19, .ref 18, .null, .null, .null, .null] :: X) 1 16 17 18
  rw [hl] at e
  have ep := fput0 (X ++ [ob 1 [.ref 1, .ref 16, .ref 17, .ref 18]]) (c := 10) (k := 5) (fs := [.ref 1, .ref 16, .ref 17, .ref 19, .ref 18, .null, .null, .null, .null]) (x := .ref 22) (by decide) (pok_r fr_10_5 _)
  simp only [List.set_cons_zero, List.set_cons_succ] at ep
  have ep : ai_fput ((ob 10 [.ref 1, .ref 16, .ref 17, .ref 19, .ref 18, .null, .null, .null, .null] :: X) ++ [ob 1 [.ref 1, .ref 16, .ref 17, .ref 18]]) 0 10 5 (.ref 22) = _ := ep
  generalize (ob 10 [.ref 1, .ref 16, .ref 17, .ref 19, .ref 18, .null, .null, .null, .null] :: X) = ws at hl e ep ⊢
  simp only [r_11_72, r_11_73, r_11_76, r_11_77, r_11_78, r_11_79, r_11_80, r_11_82, r_11_85, hl, e, ep, Option.bind_some, Option.toList_none, List.nil_append]
theorem sn_9 {X : ai_W} (h : X.length = 22) : ai_Run 11 88 [.ref 0, .ref 1, .ref 16, .ref 17, .ref 18] [] (ob 10 [.ref 1, .ref 16, .ref 17, .ref 19, .ref 18, .ref 22, .null, .null, .null] :: X) = ai_Run 11 99 [.ref 0, .ref 1, .ref 16, .ref 17, .ref 18] [] (ob 10 [.ref 1, .ref 16, .ref 17, .ref 19, .ref 18, .ref 22, .ref 23, .null, .null] :: (X ++ hs9 23 9)) := by
  have hl : (ob 10 [.ref 1, .ref 16, .ref 17, .ref 19, .ref 18, .ref 22, .null, .null, .null] :: X).length = 23 := by rw [List.length_cons, h]
  have e := n_hist (ob 10 [.ref 1, .ref 16, .ref 17, .ref 19, .ref 18, .ref 22, .null, .null, .null] :: X)
  rw [hl] at e
  have ep := fput0 (X ++ hs9 23 9) (c := 10) (k := 6) (fs := [.ref 1, .ref 16, .ref 17, .ref 19, .ref 18, .ref 22, .null, .null, .null]) (x := .ref 23) (by decide) (pok_r fr_10_6 _)
  simp only [List.set_cons_zero, List.set_cons_succ] at ep
  have ep : ai_fput ((ob 10 [.ref 1, .ref 16, .ref 17, .ref 19, .ref 18, .ref 22, .null, .null, .null] :: X) ++ hs9 23 9) 0 10 6 (.ref 23) = _ := ep
  generalize (ob 10 [.ref 1, .ref 16, .ref 17, .ref 19, .ref 18, .ref 22, .null, .null, .null] :: X) = ws at hl e ep ⊢
  simp only [r_11_88, r_11_89, r_11_92, r_11_93, r_11_96, hl, e, ep, Option.bind_some, Option.toList_none, List.nil_append]
theorem sn_10 {X : ai_W} (h : X.length = 174) : ai_Run 11 99 [.ref 0, .ref 1, .ref 16, .ref 17, .ref 18] [] (ob 10 [.ref 1, .ref 16, .ref 17, .ref 19, .ref 18, .ref 22, .ref 23, .null, .null] :: X) = ai_Run 11 110 [.ref 0, .ref 1, .ref 16, .ref 17, .ref 18] [] (ob 10 [.ref 1, .ref 16, .ref 17, .ref 19, .ref 18, .ref 22, .ref 23, .ref 175, .null] :: (X ++ tc 175)) := by
  have hl : (ob 10 [.ref 1, .ref 16, .ref 17, .ref 19, .ref 18, .ref 22, .ref 23, .null, .null] :: X).length = 175 := by rw [List.length_cons, h]
  have e := n_text (ob 10 [.ref 1, .ref 16, .ref 17, .ref 19, .ref 18, .ref 22, .ref 23, .null, .null] :: X)
  rw [hl] at e
  have ep := fput0 (X ++ tc 175) (c := 10) (k := 7) (fs := [.ref 1, .ref 16, .ref 17, .ref 19, .ref 18, .ref 22, .ref 23, .null, .null]) (x := .ref 175) (by decide) (pok_r fr_10_7 _)
  simp only [List.set_cons_zero, List.set_cons_succ] at ep
  have ep : ai_fput ((ob 10 [.ref 1, .ref 16, .ref 17, .ref 19, .ref 18, .ref 22, .ref 23, .null, .null] :: X) ++ tc 175) 0 10 7 (.ref 175) = _ := ep
  generalize (ob 10 [.ref 1, .ref 16, .ref 17, .ref 19, .ref 18, .ref 22, .ref 23, .null, .null] :: X) = ws at hl e ep ⊢
  simp only [r_11_99, r_11_100, r_11_103, r_11_104, r_11_107, hl, e, ep, Option.bind_some, Option.toList_none, List.nil_append]
theorem sn_11 {X : ai_W} (h : X.length = 181) : ai_Run 11 110 [.ref 0, .ref 1, .ref 16, .ref 17, .ref 18] [] (ob 10 [.ref 1, .ref 16, .ref 17, .ref 19, .ref 18, .ref 22, .ref 23, .ref 175, .null] :: X) = ai_Run 11 121 [.ref 0, .ref 1, .ref 16, .ref 17, .ref 18] [] (ob 10 [.ref 1, .ref 16, .ref 17, .ref 19, .ref 18, .ref 22, .ref 23, .ref 175, .ref 182] :: (X ++ lc 182)) := by
  have hl : (ob 10 [.ref 1, .ref 16, .ref 17, .ref 19, .ref 18, .ref 22, .ref 23, .ref 175, .null] :: X).length = 182 := by rw [List.length_cons, h]
  have e := n_line (ob 10 [.ref 1, .ref 16, .ref 17, .ref 19, .ref 18, .ref 22, .ref 23, .ref 175, .null] :: X)
  rw [hl] at e
  have ep := fput0 (X ++ lc 182) (c := 10) (k := 8) (fs := [.ref 1, .ref 16, .ref 17, .ref 19, .ref 18, .ref 22, .ref 23, .ref 175, .null]) (x := .ref 182) (by decide) (pok_r fr_10_8 _)
  simp only [List.set_cons_zero, List.set_cons_succ] at ep
  have ep : ai_fput ((ob 10 [.ref 1, .ref 16, .ref 17, .ref 19, .ref 18, .ref 22, .ref 23, .ref 175, .null] :: X) ++ lc 182) 0 10 8 (.ref 182) = _ := ep
  generalize (ob 10 [.ref 1, .ref 16, .ref 17, .ref 19, .ref 18, .ref 22, .ref 23, .ref 175, .null] :: X) = ws at hl e ep ⊢
  simp only [r_11_110, r_11_111, r_11_114, r_11_115, r_11_118, hl, e, ep, Option.bind_some, Option.toList_none, List.nil_append]
def sX : ai_W := (((((((bc 1 ++ [ob 4 [.ref 1]]) ++ [ob 5 [.ref 1]]) ++ [ob 7 [.int (-4), .int (-4), .int (-4), .int (-4)]]) ++ cc2 19 1) ++ [ob 1 [.ref 1, .ref 16, .ref 17, .ref 18]]) ++ hs9 23 9) ++ tc 175) ++ lc 182
theorem n_S0 : ai_Call 11 [.ref 0] [ai_blank 10] = some (none, ob 10 [.ref 1, .ref 16, .ref 17, .ref 19, .ref 18, .ref 22, .ref 23, .ref 175, .ref 182] :: sX) := by
  have hi := isob_new [] bl_10
  have hi : ai_isob [ai_blank 10] 0 10 = true := hi
  simp only [e_11, hi, r_11_0, r_11_1, if_true]
  rw [bl_10, sn_1 rfl, sn_2 rfl, sn_3 rfl, sn_4 rfl]
  show ai_Run 11 39 [.ref 0, .ref 1, .ref 16, .ref 17, .ref 18] [] (ob 10 [.null, .null, .null, .null, .null, .null, .null, .null, .null] :: (((bc 1 ++ [ob 4 [.ref 1]]) ++ [ob 5 [.ref 1]]) ++ [ob 7 [.int (-4), .int (-4), .int (-4), .int (-4)]])) = _
  rw [sn_5, sn_6 rfl, sn_7, sn_8 rfl, sn_9 rfl, sn_10 rfl, sn_11 rfl, r_11_121]
  rfl
set_option maxRecDepth 100000 in
theorem n_S : ai_Call 11 [.ref 0] [ai_blank 10] = some (none, (wl xw_0).take 185) := by
  rw [n_S0]
  rfl
theorem mn_0 (W L : ai_W) {fs : List Value} (hf : fs.length = 16) : ai_Run 164 4 [.ref W.length, .null] [] (W ++ (ob 11 fs :: L)) = ai_Run 164 13 [.ref W.length, .null] [] (W ++ (ob 11 (fs.set 0 (.ref (W.length + (L.length + 1)))) :: (L ++ [ra 189 0]))) := by
  have ep := fput_mid W (L ++ [ra 189 0]) (c := 11) (k := 0) (fs := fs) (x := .ref (W.length + (L.length + 1))) (by omega) (pok_r fr_11_0 _)
  have ea : W ++ (ob 11 fs :: L) ++ [Sum.inl (List.replicate (Int32.toNatClampNeg 189) 0)] = W ++ (ob 11 fs :: (L ++ [ra 189 0])) := by rw [show Int32.toNatClampNeg 189 = 189 from by decide, rep_t, List.append_assoc]; rfl
  have hn : ¬ ((189 : Int32) < 0 ∨ 100000 < Int32.toNatClampNeg 189) := by decide
  have hl := mid_len W L (ob 11 fs)
  generalize W ++ (ob 11 fs :: L) = ws at hl ea ⊢
  simp only [r_164_4, r_164_5, r_164_8, r_164_10, hn, if_false, ea, hl, ep, Option.bind_some]
theorem mn_1 (W L : ai_W) {fs : List Value} (hf : fs.length = 16) : ai_Run 164 13 [.ref W.length, .null] [] (W ++ (ob 11 fs :: L)) = ai_Run 164 22 [.ref W.length, .null] [] (W ++ (ob 11 (fs.set 1 (.ref (W.length + (L.length + 1)))) :: (L ++ [ra 189 0]))) := by
  have ep := fput_mid W (L ++ [ra 189 0]) (c := 11) (k := 1) (fs := fs) (x := .ref (W.length + (L.length + 1))) (by omega) (pok_r fr_11_1 _)
  have ea : W ++ (ob 11 fs :: L) ++ [Sum.inl (List.replicate (Int32.toNatClampNeg 189) 0)] = W ++ (ob 11 fs :: (L ++ [ra 189 0])) := by rw [show Int32.toNatClampNeg 189 = 189 from by decide, rep_t, List.append_assoc]; rfl
  have hn : ¬ ((189 : Int32) < 0 ∨ 100000 < Int32.toNatClampNeg 189) := by decide
  have hl := mid_len W L (ob 11 fs)
  generalize W ++ (ob 11 fs :: L) = ws at hl ea ⊢
  simp only [r_164_13, r_164_14, r_164_17, r_164_19, hn, if_false, ea, hl, ep, Option.bind_some]
theorem mn_2 (W L : ai_W) {fs : List Value} (hf : fs.length = 16) : ai_Run 164 22 [.ref W.length, .null] [] (W ++ (ob 11 fs :: L)) = ai_Run 164 31 [.ref W.length, .null] [] (W ++ (ob 11 (fs.set 2 (.ref (W.length + (L.length + 1)))) :: (L ++ [ra 189 0]))) := by
  have ep := fput_mid W (L ++ [ra 189 0]) (c := 11) (k := 2) (fs := fs) (x := .ref (W.length + (L.length + 1))) (by omega) (pok_r fr_11_2 _)
  have ea : W ++ (ob 11 fs :: L) ++ [Sum.inl (List.replicate (Int32.toNatClampNeg 189) 0)] = W ++ (ob 11 fs :: (L ++ [ra 189 0])) := by rw [show Int32.toNatClampNeg 189 = 189 from by decide, rep_t, List.append_assoc]; rfl
  have hn : ¬ ((189 : Int32) < 0 ∨ 100000 < Int32.toNatClampNeg 189) := by decide
  have hl := mid_len W L (ob 11 fs)
  generalize W ++ (ob 11 fs :: L) = ws at hl ea ⊢
  simp only [r_164_22, r_164_23, r_164_26, r_164_28, hn, if_false, ea, hl, ep, Option.bind_some]
theorem mn_3 (W L : ai_W) {fs : List Value} (hf : fs.length = 16) : ai_Run 164 31 [.ref W.length, .null] [] (W ++ (ob 11 fs :: L)) = ai_Run 164 40 [.ref W.length, .null] [] (W ++ (ob 11 (fs.set 3 (.ref (W.length + (L.length + 1)))) :: (L ++ [ra 1512 0]))) := by
  have ep := fput_mid W (L ++ [ra 1512 0]) (c := 11) (k := 3) (fs := fs) (x := .ref (W.length + (L.length + 1))) (by omega) (pok_r fr_11_3 _)
  have ea : W ++ (ob 11 fs :: L) ++ [Sum.inl (List.replicate (Int32.toNatClampNeg 1512) 0)] = W ++ (ob 11 fs :: (L ++ [ra 1512 0])) := by rw [show Int32.toNatClampNeg 1512 = 1512 from by decide, rep_t, List.append_assoc]; rfl
  have hn : ¬ ((1512 : Int32) < 0 ∨ 100000 < Int32.toNatClampNeg 1512) := by decide
  have hl := mid_len W L (ob 11 fs)
  generalize W ++ (ob 11 fs :: L) = ws at hl ea ⊢
  simp only [r_164_31, r_164_32, r_164_35, r_164_37, hn, if_false, ea, hl, ep, Option.bind_some]
theorem mn_7 (W L : ai_W) {fs : List Value} (hf : fs.length = 16) : ai_Run 164 40 [.ref W.length, .null] [] (W ++ (ob 11 fs :: L)) = ai_Run 164 46 [.ref W.length, .null] [] (W ++ (ob 11 (fs.set 7 (.int (-4))) :: L)) := by
  have ep := fput_mid W L (c := 11) (k := 7) (fs := fs) (x := .int (-4)) (by omega) (by rw [fi_11_7]; rfl)
  simp only [r_164_40, r_164_41, r_164_43, ep, Option.bind_some]
theorem mn_9 (W L : ai_W) {fs : List Value} (hf : fs.length = 16) : ai_Run 164 46 [.ref W.length, .null] [] (W ++ (ob 11 fs :: L)) = ai_Run 164 54 [.ref W.length, .null] [] (W ++ (ob 11 (fs.set 9 (.ref (W.length + (L.length + 1)))) :: (L ++ [ra 50 0]))) := by
  have ep := fput_mid W (L ++ [ra 50 0]) (c := 11) (k := 9) (fs := fs) (x := .ref (W.length + (L.length + 1))) (by omega) (pok_r fr_11_9 _)
  have ea : W ++ (ob 11 fs :: L) ++ [Sum.inl (List.replicate (Int32.toNatClampNeg 50) 0)] = W ++ (ob 11 fs :: (L ++ [ra 50 0])) := by rw [show Int32.toNatClampNeg 50 = 50 from by decide, rep_t, List.append_assoc]; rfl
  have hn : ¬ ((50 : Int32) < 0 ∨ 100000 < Int32.toNatClampNeg 50) := by decide
  have hl := mid_len W L (ob 11 fs)
  generalize W ++ (ob 11 fs :: L) = ws at hl ea ⊢
  simp only [r_164_46, r_164_47, r_164_49, r_164_51, hn, if_false, ea, hl, ep, Option.bind_some]
theorem mn_11 (W L : ai_W) {fs : List Value} (hf : fs.length = 16) : ai_Run 164 54 [.ref W.length, .null] [] (W ++ (ob 11 fs :: L)) = ai_Run 164 62 [.ref W.length, .null] [] (W ++ (ob 11 (fs.set 11 (.ref (W.length + (L.length + 1)))) :: (L ++ [ra 70 0]))) := by
  have ep := fput_mid W (L ++ [ra 70 0]) (c := 11) (k := 11) (fs := fs) (x := .ref (W.length + (L.length + 1))) (by omega) (pok_r fr_11_11 _)
  have ea : W ++ (ob 11 fs :: L) ++ [Sum.inl (List.replicate (Int32.toNatClampNeg 70) 0)] = W ++ (ob 11 fs :: (L ++ [ra 70 0])) := by rw [show Int32.toNatClampNeg 70 = 70 from by decide, rep_t, List.append_assoc]; rfl
  have hn : ¬ ((70 : Int32) < 0 ∨ 100000 < Int32.toNatClampNeg 70) := by decide
  have hl := mid_len W L (ob 11 fs)
  generalize W ++ (ob 11 fs :: L) = ws at hl ea ⊢
  simp only [r_164_54, r_164_55, r_164_57, r_164_59, hn, if_false, ea, hl, ep, Option.bind_some]
theorem mn_12 (W L : ai_W) {fs : List Value} (hf : fs.length = 16) : ai_Run 164 62 [.ref W.length, .null] [] (W ++ (ob 11 fs :: L)) = ai_Run 164 71 [.ref W.length, .null] [] (W ++ (ob 11 (fs.set 12 (.ref (W.length + (L.length + 1)))) :: (L ++ [ra 144 0]))) := by
  have ep := fput_mid W (L ++ [ra 144 0]) (c := 11) (k := 12) (fs := fs) (x := .ref (W.length + (L.length + 1))) (by omega) (pok_r fr_11_12 _)
  have ea : W ++ (ob 11 fs :: L) ++ [Sum.inl (List.replicate (Int32.toNatClampNeg 144) 0)] = W ++ (ob 11 fs :: (L ++ [ra 144 0])) := by rw [show Int32.toNatClampNeg 144 = 144 from by decide, rep_t, List.append_assoc]; rfl
  have hn : ¬ ((144 : Int32) < 0 ∨ 100000 < Int32.toNatClampNeg 144) := by decide
  have hl := mid_len W L (ob 11 fs)
  generalize W ++ (ob 11 fs :: L) = ws at hl ea ⊢
  simp only [r_164_62, r_164_63, r_164_66, r_164_68, hn, if_false, ea, hl, ep, Option.bind_some]
def mc (W : ai_W) (i : Nat) : ai_W := W ++ (ob 11 [.ref (W.length + 1), .ref (W.length + 2), .ref (W.length + 3), .ref (W.length + 4), .int 0, .int 0, .int 0, .int (-4), .int 0, .ref (W.length + 5), .int 0, .ref (W.length + 6), .ref (W.length + 7), .int 0, .int 0, .int 0] :: (.inl (ai_t 189 fun j => if 3 ≤ j ∧ j < 3 + i then (-4) else 0) :: [ra 189 0, ra 189 0, ra 1512 0, ra 50 0, ra 70 0, ra 144 0]))
theorem n_M0 (W : ai_W) : ai_Call 164 [.ref W.length] (W ++ [ai_blank 11]) = some (none, mc W 31) := by
  have hi := isob_new W bl_11
  simp only [e_164, hi, r_164_0, r_164_1, if_true]
  rw [bl_11, mn_0 W [] rfl, mn_1 W _ rfl, mn_2 W _ rfl, mn_3 W _ rfl, mn_7 W _ rfl, mn_9 W _ rfl, mn_11 W _ rfl, mn_12 W _ rfl]
  have e0 : ai_t 189 (fun j => if 3 ≤ j ∧ j < 3 + 0 then (-4 : Int32) else 0) = ai_t 189 fun _ => 0 := ai_t_congr fun j _ => if_neg (by omega)
  have eW : ai_Run 164 71 [.ref W.length, .null] [] (W ++ (ob 11 [.ref (W.length + 1), .ref (W.length + 2), .ref (W.length + 3), .ref (W.length + 4), .int 0, .int 0, .int 0, .int (-4), .int 0, .ref (W.length + 5), .int 0, .ref (W.length + 6), .ref (W.length + 7), .int 0, .int 0, .int 0] :: (ra 189 0 :: [ra 189 0, ra 189 0, ra 1512 0, ra 50 0, ra 70 0, ra 144 0]))) = ai_Run 164 73 [.ref W.length, .int 0] [] (mc W 0) := by
    unfold mc
    rw [e0, r_164_71, r_164_72]
    rfl
  refine eW.trans ?_
  have step : ∀ i, i < 31 → ai_Run 164 73 [.ref W.length, .int (nI i)] [] (mc W i) = ai_Run 164 73 [.ref W.length, .int (nI (i + 1))] [] (mc W (i + 1)) := by
    intro i hi
    have c1 : ¬ 30 < nI i := nI_nlt (a := 30) (by omega) (by decide)
    have f0 : ai_fget (mc W i) W.length 11 0 = some (.ref (W.length + 1)) := fget_mid W _
    have g0 : (mc W i)[W.length + 1]? = some (.inl (ai_t 189 fun j => if 3 ≤ j ∧ j < 3 + i then (-4) else 0)) := by
      unfold mc
      rw [List.getElem?_append_right (by omega), show W.length + 1 - W.length = 1 by omega]
      rfl
    have f2 : ai_aset (mc W i) (W.length + 1) (nI (3 + i)) (-4) = some (mc W (i + 1)) := by
      rw [ai_aset_of g0, ai_ix_nI (by omega) (by decide)]
      have et : ai_t 189 (upd (fun j => if 3 ≤ j ∧ j < 3 + i then (-4 : Int32) else 0) (3 + i) (-4)) = ai_t 189 (fun j => if 3 ≤ j ∧ j < 3 + (i + 1) then (-4 : Int32) else 0) := ai_t_congr fun j hj => by
        show (if j = 3 + i then (-4 : Int32) else if 3 ≤ j ∧ j < 3 + i then (-4) else 0) = if 3 ≤ j ∧ j < 3 + (i + 1) then (-4) else 0
        by_cases z : j = 3 + i
        · rw [if_pos z, if_pos (by omega)]
        · rw [if_neg z]
          by_cases y : 3 ≤ j ∧ j < 3 + i
          · rw [if_pos y, if_pos (by omega)]
          · rw [if_neg y, if_neg (by omega)]
      show some ((mc W i).set (W.length + 1) (.inl (ai_t 189 (upd (fun j => if 3 ≤ j ∧ j < 3 + i then (-4 : Int32) else 0) (3 + i) (-4))))) = _
      rw [et]
      unfold mc
      rw [List.set_append_right _ _ (by omega), show W.length + 1 - W.length = 1 by omega]
      rfl
    rw [r_164_73]
    simp only [r_164_0, r_164_1, r_164_4, r_164_5, r_164_8, r_164_10, r_164_13, r_164_14, r_164_17, r_164_19, r_164_22, r_164_23, r_164_26, r_164_28, r_164_31, r_164_32, r_164_35, r_164_37, r_164_40, r_164_41, r_164_43, r_164_46, r_164_47, r_164_49, r_164_51, r_164_54, r_164_55, r_164_57, r_164_59, r_164_62, r_164_63, r_164_66, r_164_68, r_164_71, r_164_72, r_164_74, r_164_76, r_164_79, r_164_80, r_164_83, r_164_84, r_164_85, r_164_86, r_164_88, r_164_89, r_164_92, r_164_95, Option.bind_some, Option.bind_none, Option.toList_some, Option.toList_none, List.cons_append, List.nil_append, Option.map_some, Option.map_none, eq_self, if_true, if_false, reduceIte, ai_bi_eq0, ai_bi_eq1, ai_pb_bi, ai_pb_0, ai_pb_1, c1, f0, a_3, f2, nI_1]
  have e := lp_n (fun i => ai_Run 164 73 [.ref W.length, .int (nI i)] [] (mc W i)) 31 step
  refine e.trans ?_
  rw [r_164_73]
  simp only [r_164_0, r_164_1, r_164_4, r_164_5, r_164_8, r_164_10, r_164_13, r_164_14, r_164_17, r_164_19, r_164_22, r_164_23, r_164_26, r_164_28, r_164_31, r_164_32, r_164_35, r_164_37, r_164_40, r_164_41, r_164_43, r_164_46, r_164_47, r_164_49, r_164_51, r_164_54, r_164_55, r_164_57, r_164_59, r_164_62, r_164_63, r_164_66, r_164_68, r_164_71, r_164_72, r_164_74, r_164_76, r_164_79, r_164_80, r_164_83, r_164_84, r_164_85, r_164_86, r_164_88, r_164_89, r_164_92, r_164_95, Option.bind_some, Option.bind_none, Option.toList_some, Option.toList_none, List.cons_append, List.nil_append, Option.map_some, Option.map_none, eq_self, if_true, if_false, reduceIte, ai_bi_eq0, ai_bi_eq1, ai_pb_bi, ai_pb_0, ai_pb_1, show 30 < nI 31 by decide]
set_option maxRecDepth 100000 in
theorem n_M : ai_Call 164 [.ref 185] ((wl xw_0).take 185 ++ [ai_blank 11]) = some (none, wl xw_0) := by
  have e := n_M0 ((wl xw_0).take 185)
  have hl : ((wl xw_0).take 185).length = 185 := rfl
  have e2 : mc ((wl xw_0).take 185) 31 = wl xw_0 := by
    unfold mc
    have et : ai_t 189 (fun j => if 3 ≤ j ∧ j < 3 + 31 then (-4 : Int32) else 0) = ai_t 189 (xm_s xw_0) := ai_t_congr fun j hj => by
      show (if 3 ≤ j ∧ j < 3 + 31 then (-4 : Int32) else 0) = if 3 ≤ j ∧ j ≤ 33 then (-4) else 0
      by_cases z : 3 ≤ j ∧ j ≤ 33
      · rw [if_pos z, if_pos (by omega)]
      · rw [if_neg z, if_neg (by omega)]
    rw [et, hl]
    refine Eq.trans ?_ (List.take_append_drop 185 (wl xw_0))
    exact congrArg (fun x => (wl xw_0).take 185 ++ x) rfl
  rw [hl, e2] at e
  exact e
