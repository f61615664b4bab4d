/-! The constructors. Printed by gen67.py. -/
def ai_isr : Option FieldType → Bool
  | some (.object _) => true
  | some (.array _) => true
  | _ => false
theorem dv_r {t : Option FieldType} (h : ai_isr t = true) : ai_dv t = .null := by
  unfold ai_isr at h
  split at h
  · rfl
  · rfl
  · cases h
theorem dv_i {t : Option FieldType} (h : t = some .int) : ai_dv t = .int 0 := by rw [h]; rfl
theorem dv_z {t : Option FieldType} (h : t = some .boolean) : ai_dv t = .int 0 := by rw [h]; rfl
theorem pok_r {t : Option FieldType} (h : ai_isr t = true) (a : Nat) : ai_pok t (.ref a) = true := by
  unfold ai_isr at h
  split at h
  · rfl
  · rfl
  · cases h
def ob (c : Nat) (fs : List Value) : ai_C := .inr (.inr (c, fs))
def ra (n : Nat) (v : Int32) : ai_C := .inl (ai_t n fun _ => v)
def rw2 (a n : Nat) (v : Int32) : ai_W := [ob 8 [.ref (a + 1)], ra n v]
theorem fi_0_0 : ai_fty 0 0 = some .int := by decide +kernel
theorem fi_0_1 : ai_fty 0 1 = some .int := by decide +kernel
theorem fi_0_2 : ai_fty 0 2 = some .int := by decide +kernel
theorem fr_0_3 : ai_isr (ai_fty 0 3) = true := by decide +kernel
theorem fr_0_4 : ai_isr (ai_fty 0 4) = true := by decide +kernel
theorem fr_0_5 : ai_isr (ai_fty 0 5) = true := by decide +kernel
theorem fr_0_6 : ai_isr (ai_fty 0 6) = true := by decide +kernel
theorem fr_0_7 : ai_isr (ai_fty 0 7) = true := by decide +kernel
theorem fr_0_8 : ai_isr (ai_fty 0 8) = true := by decide +kernel
theorem fr_0_9 : ai_isr (ai_fty 0 9) = true := by decide +kernel
theorem bl_0 : ai_blank 0 = ob 0 [.int 0, .int 0, .int 0, .null, .null, .null, .null, .null, .null, .null] := by
  have h : (ai_cl 0).2.2 = 10 := by decide +kernel
  unfold ai_blank ob
  rw [h]
  show (Sum.inr (Sum.inr (0, [ai_dv (ai_fty 0 0), ai_dv (ai_fty 0 1), ai_dv (ai_fty 0 2), ai_dv (ai_fty 0 3), ai_dv (ai_fty 0 4), ai_dv (ai_fty 0 5), ai_dv (ai_fty 0 6), ai_dv (ai_fty 0 7), ai_dv (ai_fty 0 8), ai_dv (ai_fty 0 9)])) : ai_C) = _
  rw [dv_i fi_0_0, dv_i fi_0_1, dv_i fi_0_2, dv_r fr_0_3, dv_r fr_0_4, dv_r fr_0_5, dv_r fr_0_6, dv_r fr_0_7, dv_r fr_0_8, dv_r fr_0_9]
theorem fr_1_0 : ai_isr (ai_fty 1 0) = true := by decide +kernel
theorem fr_1_1 : ai_isr (ai_fty 1 1) = true := by decide +kernel
theorem fr_1_2 : ai_isr (ai_fty 1 2) = true := by decide +kernel
theorem fr_1_3 : ai_isr (ai_fty 1 3) = true := by decide +kernel
theorem bl_1 : ai_blank 1 = ob 1 [.null, .null, .null, .null] := by
  have h : (ai_cl 1).2.2 = 4 := by decide +kernel
  unfold ai_blank ob
  rw [h]
  show (Sum.inr (Sum.inr (1, [ai_dv (ai_fty 1 0), ai_dv (ai_fty 1 1), ai_dv (ai_fty 1 2), ai_dv (ai_fty 1 3)])) : ai_C) = _
  rw [dv_r fr_1_0, dv_r fr_1_1, dv_r fr_1_2, dv_r fr_1_3]
theorem fr_2_0 : ai_isr (ai_fty 2 0) = true := by decide +kernel
theorem fr_2_1 : ai_isr (ai_fty 2 1) = true := by decide +kernel
theorem bl_2 : ai_blank 2 = ob 2 [.null, .null] := by
  have h : (ai_cl 2).2.2 = 2 := by decide +kernel
  unfold ai_blank ob
  rw [h]
  show (Sum.inr (Sum.inr (2, [ai_dv (ai_fty 2 0), ai_dv (ai_fty 2 1)])) : ai_C) = _
  rw [dv_r fr_2_0, dv_r fr_2_1]
theorem fr_3_0 : ai_isr (ai_fty 3 0) = true := by decide +kernel
theorem fr_3_1 : ai_isr (ai_fty 3 1) = true := by decide +kernel
theorem fi_3_2 : ai_fty 3 2 = some .int := by decide +kernel
theorem fi_3_3 : ai_fty 3 3 = some .int := by decide +kernel
theorem fz_3_4 : ai_fty 3 4 = some .boolean := by decide +kernel
theorem bl_3 : ai_blank 3 = ob 3 [.null, .null, .int 0, .int 0, .int 0] := by
  have h : (ai_cl 3).2.2 = 5 := by decide +kernel
  unfold ai_blank ob
  rw [h]
  show (Sum.inr (Sum.inr (3, [ai_dv (ai_fty 3 0), ai_dv (ai_fty 3 1), ai_dv (ai_fty 3 2), ai_dv (ai_fty 3 3), ai_dv (ai_fty 3 4)])) : ai_C) = _
  rw [dv_r fr_3_0, dv_r fr_3_1, dv_i fi_3_2, dv_i fi_3_3, dv_z fz_3_4]
theorem fr_4_0 : ai_isr (ai_fty 4 0) = true := by decide +kernel
theorem bl_4 : ai_blank 4 = ob 4 [.null] := by
  have h : (ai_cl 4).2.2 = 1 := by decide +kernel
  unfold ai_blank ob
  rw [h]
  show (Sum.inr (Sum.inr (4, [ai_dv (ai_fty 4 0)])) : ai_C) = _
  rw [dv_r fr_4_0]
theorem fr_5_0 : ai_isr (ai_fty 5 0) = true := by decide +kernel
theorem bl_5 : ai_blank 5 = ob 5 [.null] := by
  have h : (ai_cl 5).2.2 = 1 := by decide +kernel
  unfold ai_blank ob
  rw [h]
  show (Sum.inr (Sum.inr (5, [ai_dv (ai_fty 5 0)])) : ai_C) = _
  rw [dv_r fr_5_0]
theorem fr_6_0 : ai_isr (ai_fty 6 0) = true := by decide +kernel
theorem fi_6_1 : ai_fty 6 1 = some .int := by decide +kernel
theorem bl_6 : ai_blank 6 = ob 6 [.null, .int 0] := by
  have h : (ai_cl 6).2.2 = 2 := by decide +kernel
  unfold ai_blank ob
  rw [h]
  show (Sum.inr (Sum.inr (6, [ai_dv (ai_fty 6 0), ai_dv (ai_fty 6 1)])) : ai_C) = _
  rw [dv_r fr_6_0, dv_i fi_6_1]
theorem fi_7_0 : ai_fty 7 0 = some .int := by decide +kernel
theorem fi_7_1 : ai_fty 7 1 = some .int := by decide +kernel
theorem fi_7_2 : ai_fty 7 2 = some .int := by decide +kernel
theorem fi_7_3 : ai_fty 7 3 = some .int := by decide +kernel
theorem bl_7 : ai_blank 7 = ob 7 [.int 0, .int 0, .int 0, .int 0] := by
  have h : (ai_cl 7).2.2 = 4 := by decide +kernel
  unfold ai_blank ob
  rw [h]
  show (Sum.inr (Sum.inr (7, [ai_dv (ai_fty 7 0), ai_dv (ai_fty 7 1), ai_dv (ai_fty 7 2), ai_dv (ai_fty 7 3)])) : ai_C) = _
  rw [dv_i fi_7_0, dv_i fi_7_1, dv_i fi_7_2, dv_i fi_7_3]
theorem fr_8_0 : ai_isr (ai_fty 8 0) = true := by decide +kernel
theorem bl_8 : ai_blank 8 = ob 8 [.null] := by
  have h : (ai_cl 8).2.2 = 1 := by decide +kernel
  unfold ai_blank ob
  rw [h]
  show (Sum.inr (Sum.inr (8, [ai_dv (ai_fty 8 0)])) : ai_C) = _
  rw [dv_r fr_8_0]
theorem fr_9_0 : ai_isr (ai_fty 9 0) = true := by decide +kernel
theorem fr_9_1 : ai_isr (ai_fty 9 1) = true := by decide +kernel
theorem fr_9_2 : ai_isr (ai_fty 9 2) = true := by decide +kernel
theorem fi_9_3 : ai_fty 9 3 = some .int := by decide +kernel
theorem fi_9_4 : ai_fty 9 4 = some .int := by decide +kernel
theorem fi_9_5 : ai_fty 9 5 = some .int := by decide +kernel
theorem fi_9_6 : ai_fty 9 6 = some .int := by decide +kernel
theorem bl_9 : ai_blank 9 = ob 9 [.null, .null, .null, .int 0, .int 0, .int 0, .int 0] := by
  have h : (ai_cl 9).2.2 = 7 := by decide +kernel
  unfold ai_blank ob
  rw [h]
  show (Sum.inr (Sum.inr (9, [ai_dv (ai_fty 9 0), ai_dv (ai_fty 9 1), ai_dv (ai_fty 9 2), ai_dv (ai_fty 9 3), ai_dv (ai_fty 9 4), ai_dv (ai_fty 9 5), ai_dv (ai_fty 9 6)])) : ai_C) = _
  rw [dv_r fr_9_0, dv_r fr_9_1, dv_r fr_9_2, dv_i fi_9_3, dv_i fi_9_4, dv_i fi_9_5, dv_i fi_9_6]
theorem fr_10_0 : ai_isr (ai_fty 10 0) = true := by decide +kernel
theorem fr_10_1 : ai_isr (ai_fty 10 1) = true := by decide +kernel
theorem fr_10_2 : ai_isr (ai_fty 10 2) = true := by decide +kernel
theorem fr_10_3 : ai_isr (ai_fty 10 3) = true := by decide +kernel
theorem fr_10_4 : ai_isr (ai_fty 10 4) = true := by decide +kernel
theorem fr_10_5 : ai_isr (ai_fty 10 5) = true := by decide +kernel
theorem fr_10_6 : ai_isr (ai_fty 10 6) = true := by decide +kernel
theorem fr_10_7 : ai_isr (ai_fty 10 7) = true := by decide +kernel
theorem fr_10_8 : ai_isr (ai_fty 10 8) = true := by decide +kernel
theorem bl_10 : ai_blank 10 = ob 10 [.null, .null, .null, .null, .null, .null, .null, .null, .null] := by
  have h : (ai_cl 10).2.2 = 9 := by decide +kernel
  unfold ai_blank ob
  rw [h]
  show (Sum.inr (Sum.inr (10, [ai_dv (ai_fty 10 0), ai_dv (ai_fty 10 1), ai_dv (ai_fty 10 2), ai_dv (ai_fty 10 3), ai_dv (ai_fty 10 4), ai_dv (ai_fty 10 5), ai_dv (ai_fty 10 6), ai_dv (ai_fty 10 7), ai_dv (ai_fty 10 8)])) : ai_C) = _
  rw [dv_r fr_10_0, dv_r fr_10_1, dv_r fr_10_2, dv_r fr_10_3, dv_r fr_10_4, dv_r fr_10_5, dv_r fr_10_6, dv_r fr_10_7, dv_r fr_10_8]
theorem mid_get (W L : ai_W) (o : ai_C) : (W ++ (o :: L))[W.length]? = some o := by simp
theorem mid_set (W L : ai_W) (o q : ai_C) : (W ++ (o :: L)).set W.length q = W ++ (q :: L) := by simp
theorem mid_len (W L : ai_W) (o : ai_C) : (W ++ (o :: L)).length = W.length + (L.length + 1) := by simp
theorem fput_mid (W L : ai_W) {c k : Nat} {fs : List Value} {x : Value} (hk : k < fs.length) (hp : ai_pok (ai_fty c k) x = true) : ai_fput (W ++ (ob c fs :: L)) W.length c k x = some (W ++ (ob c (fs.set k x) :: L)) := by
  exact (ai_fput_of (mid_get W L _) hk hp).trans (congrArg some (mid_set W L _ _))
theorem fget_mid (W L : ai_W) {c k : Nat} {fs : List Value} : ai_fget (W ++ (ob c fs :: L)) W.length c k = ai_nr fs[k]? := ai_fget_of (mid_get W L _)
theorem isob_mid (W L : ai_W) {c : Nat} {fs : List Value} : ai_isob (W ++ (ob c fs :: L)) W.length c = true := ai_isob_of (mid_get W L _)
theorem isob_new (W : ai_W) {c : Nat} {fs : List Value} (h : ai_blank c = ob c fs) : ai_isob (W ++ [ai_blank c]) W.length c = true := by
  rw [h]
  exact isob_mid W []
theorem rep_t (n : Nat) (v : Int32) : List.replicate n v = ai_t n (fun _ => v) := by
  unfold ai_t
  refine List.ext_getElem? fun i => ?_
  rw [List.getElem?_map, List.getElem?_replicate]
  by_cases h : i < n
  · rw [if_pos h, List.getElem?_range h]; rfl
  · rw [if_neg h, List.getElem?_eq_none (by rw [List.length_range]; omega)]; rfl
theorem nI_small {n : Nat} (hn : n < 2000) : ¬ (nI n < 0 ∨ 100000 < (nI n).toNatClampNeg) := by
  rw [nI_clamp (by omega)]
  rintro (z | z)
  · exact nI_pos (by omega) z
  · omega
theorem x_max0 {n : Nat} (hn : n < 2000) (ws : ai_W) : ai_Call 0 [.int (nI n), .int 0] ws = some (some (.int (nI n)), ws) := by
  have c : ¬ nI n < 0 := nI_pos (by omega)
  simp only [e_0, r_0_0, r_0_1, r_0_2, r_0_5, r_0_6, r_0_9, r_0_10, Option.bind_some, Option.bind_none, Option.toList_some, Option.toList_none, List.cons_append, List.nil_append, Option.map_some, Option.map_none, eq_self, if_true, if_false, reduceIte, ai_bi_eq0, ai_bi_eq1, ai_pb_bi, ai_pb_0, ai_pb_1, c]
theorem n_row (ws : ai_W) {n : Nat} (hn : n < 2000) (v : Int32) : ai_Call 1 [.ref ws.length, .int (nI n), .int v] (ws ++ [ai_blank 8]) = some (none, ws ++ rw2 ws.length n v) := by
  have hi := isob_new ws bl_8
  have hm := x_max0 hn (ws ++ [ai_blank 8])
  have hp : ai_fput (ws ++ [ai_blank 8] ++ [.inl (List.replicate (nI n).toNatClampNeg 0)]) ws.length 8 0 (.ref (ws ++ [ai_blank 8]).length) = some (ws ++ [ob 8 [.ref (ws.length + 1)], .inl (ai_t n fun j => if j < 0 then v else 0)]) := by
    rw [bl_8, List.append_assoc]
    refine (fput_mid ws [.inl (List.replicate (nI n).toNatClampNeg 0)] (c := 8) (k := 0) (fs := [.null]) (by decide) (pok_r fr_8_0 _)).trans ?_
    rw [nI_clamp (by omega), rep_t, List.length_append]
    rfl
  have step : ∀ i, i < n → ai_Run 1 17 [.ref ws.length, .int (nI n), .int v, .int (nI i)] [] (ws ++ [ob 8 [.ref (ws.length + 1)], .inl (ai_t n fun j => if j < i then v else 0)]) = ai_Run 1 17 [.ref ws.length, .int (nI n), .int v, .int (nI (i + 1))] [] (ws ++ [ob 8 [.ref (ws.length + 1)], .inl (ai_t n fun j => if j < i + 1 then v else 0)]) := by
    intro i hi
    have f0 : ai_fget (ws ++ [ob 8 [.ref (ws.length + 1)], .inl (ai_t n fun j => if j < i then v else 0)]) ws.length 8 0 = some (.ref (ws.length + 1)) := fget_mid ws _
    have g0 : (ws ++ [ob 8 [.ref (ws.length + 1)], .inl (ai_t n fun j => if j < i then v else 0)])[ws.length + 1]? = some (.inl (ai_t n fun j => if j < i then v else 0)) := by simp
    have f1 : ai_len (ws ++ [ob 8 [.ref (ws.length + 1)], .inl (ai_t n fun j => if j < i then v else 0)]) (ws.length + 1) = some (nI n) := by unfold ai_len; rw [g0]; simp only [ai_t_len]; rfl
    have f2 : ai_aset (ws ++ [ob 8 [.ref (ws.length + 1)], .inl (ai_t n fun j => if j < i then v else 0)]) (ws.length + 1) (nI i) v = some (ws ++ [ob 8 [.ref (ws.length + 1)], .inl (ai_t n fun j => if j < i + 1 then v else 0)]) := by
      rw [ai_aset_of g0, ai_ix_nI hi (by omega)]
      have et : ai_t n (upd (fun j => if j < i then v else 0) i v) = ai_t n (fun j => if j < i + 1 then v else 0) := ai_t_congr fun j hj => by
        show (if j = i then v else if j < i then v else 0) = if j < i + 1 then v else 0
        by_cases z : j = i
        · rw [if_pos z, if_pos (by omega)]
        · rw [if_neg z]
          by_cases y : j < i
          · rw [if_pos y, if_pos (by omega)]
          · rw [if_neg y, if_neg (by omega)]
      simp [et]
    have c1 : nI i < nI n := nI_lt hi (by omega)
    rw [r_1_17]
    simp only [r_1_0, r_1_1, r_1_4, r_1_5, r_1_6, r_1_7, r_1_10, r_1_12, r_1_15, r_1_16, r_1_18, r_1_19, r_1_22, r_1_23, r_1_26, r_1_27, r_1_30, r_1_31, r_1_32, r_1_33, r_1_36, r_1_39, Option.bind_some, Option.bind_none, Option.toList_some, Option.toList_none, List.cons_append, List.nil_append, Option.map_some, Option.map_none, eq_self, if_true, if_false, reduceIte, ai_bi_eq0, ai_bi_eq1, ai_pb_bi, ai_pb_0, ai_pb_1, f0, f1, f2, c1, nI_1]
  have e := lp_n (fun i => ai_Run 1 17 [.ref ws.length, .int (nI n), .int v, .int (nI i)] [] (ws ++ [ob 8 [.ref (ws.length + 1)], .inl (ai_t n fun j => if j < i then v else 0)])) n step
  simp only [e_1, hi, r_1_0, r_1_1, r_1_4, r_1_5, r_1_6, r_1_7, r_1_10, r_1_12, r_1_15, r_1_16, r_1_18, r_1_19, r_1_22, r_1_23, r_1_26, r_1_27, r_1_30, r_1_31, r_1_32, r_1_33, r_1_36, r_1_39, Option.bind_some, Option.bind_none, Option.toList_some, Option.toList_none, List.cons_append, List.nil_append, Option.map_some, Option.map_none, eq_self, if_true, if_false, reduceIte, ai_bi_eq0, ai_bi_eq1, ai_pb_bi, ai_pb_0, ai_pb_1, hm, nI_small hn, hp]
  refine e.trans ?_
  have ef : ai_t n (fun j => if j < n then v else 0) = ai_t n (fun _ => v) := ai_t_congr fun j hj => if_pos hj
  simp only [ef]
  have f0 : ai_fget (ws ++ [ob 8 [.ref (ws.length + 1)], .inl (ai_t n fun _ => v)]) ws.length 8 0 = some (.ref (ws.length + 1)) := fget_mid ws _
  have g0 : (ws ++ [ob 8 [.ref (ws.length + 1)], .inl (ai_t n fun _ => v)])[ws.length + 1]? = some (.inl (ai_t n fun _ => v)) := by simp
  have f1 : ai_len (ws ++ [ob 8 [.ref (ws.length + 1)], .inl (ai_t n fun _ => v)]) (ws.length + 1) = some (nI n) := by unfold ai_len; rw [g0]; simp only [ai_t_len]; rfl
  have c2 : ¬ nI n < nI n := nI_nlt (Nat.le_refl _) (by omega)
  rw [r_1_17]
  simp only [r_1_0, r_1_1, r_1_4, r_1_5, r_1_6, r_1_7, r_1_10, r_1_12, r_1_15, r_1_16, r_1_18, r_1_19, r_1_22, r_1_23, r_1_26, r_1_27, r_1_30, r_1_31, r_1_32, r_1_33, r_1_36, r_1_39, Option.bind_some, Option.bind_none, Option.toList_some, Option.toList_none, List.cons_append, List.nil_append, Option.map_some, Option.map_none, eq_self, if_true, if_false, reduceIte, ai_bi_eq0, ai_bi_eq1, ai_pb_bi, ai_pb_0, ai_pb_1, f0, f1, c2]
  rfl
theorem bk_3 (W L : ai_W) {fs : List Value} (hf : fs.length = 10) : ai_Run 2 4 [.ref W.length] [] (W ++ (ob 0 fs :: L)) = ai_Run 2 18 [.ref W.length] [] (W ++ (ob 0 (fs.set 3 (.ref (W.length + (L.length + 1)))) :: (L ++ rw2 (W.length + (L.length + 1)) 8 0))) := by
  have e : ai_Call 1 [.ref (W ++ (ob 0 fs :: L)).length, .int 8, .int 0] (W ++ (ob 0 fs :: L) ++ [ai_blank 8]) = some (none, W ++ (ob 0 fs :: (L ++ rw2 (W.length + (L.length + 1)) 8 0))) := (n_row (W ++ (ob 0 fs :: L)) (n := 8) (by decide) 0).trans (by rw [mid_len, List.append_assoc]; rfl)
  have ep := fput_mid W (L ++ rw2 (W.length + (L.length + 1)) 8 0) (c := 0) (k := 3) (fs := fs) (x := .ref (W.length + (L.length + 1))) (by omega) (pok_r fr_0_3 _)
  rw [← mid_len W L (ob 0 fs)] at ep ⊢
  rw [← mid_len W L (ob 0 fs)] at e
  generalize W ++ (ob 0 fs :: L) = ws at e ep ⊢
  simp only [r_2_4, r_2_5, r_2_8, r_2_9, r_2_11, r_2_12, r_2_15, Option.bind_some, Option.toList_none, List.nil_append, e, ep]
theorem bk_4 (W L : ai_W) {fs : List Value} (hf : fs.length = 10) : ai_Run 2 18 [.ref W.length] [] (W ++ (ob 0 fs :: L)) = ai_Run 2 32 [.ref W.length] [] (W ++ (ob 0 (fs.set 4 (.ref (W.length + (L.length + 1)))) :: (L ++ rw2 (W.length + (L.length + 1)) 48 0))) := by
  have e : ai_Call 1 [.ref (W ++ (ob 0 fs :: L)).length, .int 48, .int 0] (W ++ (ob 0 fs :: L) ++ [ai_blank 8]) = some (none, W ++ (ob 0 fs :: (L ++ rw2 (W.length + (L.length + 1)) 48 0))) := (n_row (W ++ (ob 0 fs :: L)) (n := 48) (by decide) 0).trans (by rw [mid_len, List.append_assoc]; rfl)
  have ep := fput_mid W (L ++ rw2 (W.length + (L.length + 1)) 48 0) (c := 0) (k := 4) (fs := fs) (x := .ref (W.length + (L.length + 1))) (by omega) (pok_r fr_0_4 _)
  rw [← mid_len W L (ob 0 fs)] at ep ⊢
  rw [← mid_len W L (ob 0 fs)] at e
  generalize W ++ (ob 0 fs :: L) = ws at e ep ⊢
  simp only [r_2_18, r_2_19, r_2_22, r_2_23, r_2_25, r_2_26, r_2_29, Option.bind_some, Option.toList_none, List.nil_append, e, ep]
theorem bk_5 (W L : ai_W) {fs : List Value} (hf : fs.length = 10) : ai_Run 2 32 [.ref W.length] [] (W ++ (ob 0 fs :: L)) = ai_Run 2 47 [.ref W.length] [] (W ++ (ob 0 (fs.set 5 (.ref (W.length + (L.length + 1)))) :: (L ++ rw2 (W.length + (L.length + 1)) 24 (-4)))) := by
  have e : ai_Call 1 [.ref (W ++ (ob 0 fs :: L)).length, .int 24, .int (-4)] (W ++ (ob 0 fs :: L) ++ [ai_blank 8]) = some (none, W ++ (ob 0 fs :: (L ++ rw2 (W.length + (L.length + 1)) 24 (-4)))) := (n_row (W ++ (ob 0 fs :: L)) (n := 24) (by decide) (-4)).trans (by rw [mid_len, List.append_assoc]; rfl)
  have ep := fput_mid W (L ++ rw2 (W.length + (L.length + 1)) 24 (-4)) (c := 0) (k := 5) (fs := fs) (x := .ref (W.length + (L.length + 1))) (by omega) (pok_r fr_0_5 _)
  rw [← mid_len W L (ob 0 fs)] at ep ⊢
  rw [← mid_len W L (ob 0 fs)] at e
  generalize W ++ (ob 0 fs :: L) = ws at e ep ⊢
  simp only [r_2_32, r_2_33, r_2_36, r_2_37, r_2_39, r_2_41, r_2_44, Option.bind_some, Option.toList_none, List.nil_append, e, ep]
theorem bk_6 (W L : ai_W) {fs : List Value} (hf : fs.length = 10) : ai_Run 2 47 [.ref W.length] [] (W ++ (ob 0 fs :: L)) = ai_Run 2 62 [.ref W.length] [] (W ++ (ob 0 (fs.set 6 (.ref (W.length + (L.length + 1)))) :: (L ++ rw2 (W.length + (L.length + 1)) 31 (-4)))) := by
  have e : ai_Call 1 [.ref (W ++ (ob 0 fs :: L)).length, .int 31, .int (-4)] (W ++ (ob 0 fs :: L) ++ [ai_blank 8]) = some (none, W ++ (ob 0 fs :: (L ++ rw2 (W.length + (L.length + 1)) 31 (-4)))) := (n_row (W ++ (ob 0 fs :: L)) (n := 31) (by decide) (-4)).trans (by rw [mid_len, List.append_assoc]; rfl)
  have ep := fput_mid W (L ++ rw2 (W.length + (L.length + 1)) 31 (-4)) (c := 0) (k := 6) (fs := fs) (x := .ref (W.length + (L.length + 1))) (by omega) (pok_r fr_0_6 _)
  rw [← mid_len W L (ob 0 fs)] at ep ⊢
  rw [← mid_len W L (ob 0 fs)] at e
  generalize W ++ (ob 0 fs :: L) = ws at e ep ⊢
  simp only [r_2_47, r_2_48, r_2_51, r_2_52, r_2_54, r_2_56, r_2_59, Option.bind_some, Option.toList_none, List.nil_append, e, ep]
theorem bk_7 (W L : ai_W) {fs : List Value} (hf : fs.length = 10) : ai_Run 2 62 [.ref W.length] [] (W ++ (ob 0 fs :: L)) = ai_Run 2 75 [.ref W.length] [] (W ++ (ob 0 (fs.set 7 (.ref (W.length + (L.length + 1)))) :: (L ++ rw2 (W.length + (L.length + 1)) 4 0))) := by
  have e : ai_Call 1 [.ref (W ++ (ob 0 fs :: L)).length, .int 4, .int 0] (W ++ (ob 0 fs :: L) ++ [ai_blank 8]) = some (none, W ++ (ob 0 fs :: (L ++ rw2 (W.length + (L.length + 1)) 4 0))) := (n_row (W ++ (ob 0 fs :: L)) (n := 4) (by decide) 0).trans (by rw [mid_len, List.append_assoc]; rfl)
  have ep := fput_mid W (L ++ rw2 (W.length + (L.length + 1)) 4 0) (c := 0) (k := 7) (fs := fs) (x := .ref (W.length + (L.length + 1))) (by omega) (pok_r fr_0_7 _)
  rw [← mid_len W L (ob 0 fs)] at ep ⊢
  rw [← mid_len W L (ob 0 fs)] at e
  generalize W ++ (ob 0 fs :: L) = ws at e ep ⊢
  simp only [r_2_62, r_2_63, r_2_66, r_2_67, r_2_68, r_2_69, r_2_72, Option.bind_some, Option.toList_none, List.nil_append, e, ep]
theorem bk_8 (W L : ai_W) {fs : List Value} (hf : fs.length = 10) : ai_Run 2 75 [.ref W.length] [] (W ++ (ob 0 fs :: L)) = ai_Run 2 89 [.ref W.length] [] (W ++ (ob 0 (fs.set 8 (.ref (W.length + (L.length + 1)))) :: (L ++ rw2 (W.length + (L.length + 1)) 64 0))) := by
  have e : ai_Call 1 [.ref (W ++ (ob 0 fs :: L)).length, .int 64, .int 0] (W ++ (ob 0 fs :: L) ++ [ai_blank 8]) = some (none, W ++ (ob 0 fs :: (L ++ rw2 (W.length + (L.length + 1)) 64 0))) := (n_row (W ++ (ob 0 fs :: L)) (n := 64) (by decide) 0).trans (by rw [mid_len, List.append_assoc]; rfl)
  have ep := fput_mid W (L ++ rw2 (W.length + (L.length + 1)) 64 0) (c := 0) (k := 8) (fs := fs) (x := .ref (W.length + (L.length + 1))) (by omega) (pok_r fr_0_8 _)
  rw [← mid_len W L (ob 0 fs)] at ep ⊢
  rw [← mid_len W L (ob 0 fs)] at e
  generalize W ++ (ob 0 fs :: L) = ws at e ep ⊢
  simp only [r_2_75, r_2_76, r_2_79, r_2_80, r_2_82, r_2_83, r_2_86, Option.bind_some, Option.toList_none, List.nil_append, e, ep]
theorem bk_9 (W L : ai_W) {fs : List Value} (hf : fs.length = 10) : ai_Run 2 89 [.ref W.length] [] (W ++ (ob 0 fs :: L)) = ai_Run 2 103 [.ref W.length] [] (W ++ (ob 0 (fs.set 9 (.ref (W.length + (L.length + 1)))) :: (L ++ rw2 (W.length + (L.length + 1)) 7 0))) := by
  have e : ai_Call 1 [.ref (W ++ (ob 0 fs :: L)).length, .int 7, .int 0] (W ++ (ob 0 fs :: L) ++ [ai_blank 8]) = some (none, W ++ (ob 0 fs :: (L ++ rw2 (W.length + (L.length + 1)) 7 0))) := (n_row (W ++ (ob 0 fs :: L)) (n := 7) (by decide) 0).trans (by rw [mid_len, List.append_assoc]; rfl)
  have ep := fput_mid W (L ++ rw2 (W.length + (L.length + 1)) 7 0) (c := 0) (k := 9) (fs := fs) (x := .ref (W.length + (L.length + 1))) (by omega) (pok_r fr_0_9 _)
  rw [← mid_len W L (ob 0 fs)] at ep ⊢
  rw [← mid_len W L (ob 0 fs)] at e
  generalize W ++ (ob 0 fs :: L) = ws at e ep ⊢
  simp only [r_2_89, r_2_90, r_2_93, r_2_94, r_2_96, r_2_97, r_2_100, Option.bind_some, Option.toList_none, List.nil_append, e, ep]
def bc (a : Nat) : ai_W := ob 0 [.int 0, .int 0, .int 0, .ref (a + 1), .ref (a + 3), .ref (a + 5), .ref (a + 7), .ref (a + 9), .ref (a + 11), .ref (a + 13)] :: (rw2 (a + 1) 8 0 ++ (rw2 (a + 3) 48 0 ++ (rw2 (a + 5) 24 (-4) ++ (rw2 (a + 7) 31 (-4) ++ (rw2 (a + 9) 4 0 ++ (rw2 (a + 11) 64 0 ++ rw2 (a + 13) 7 0))))))
theorem bc_len (a : Nat) : (bc a).length = 15 := rfl
theorem n_book (W : ai_W) : ai_Call 2 [.ref W.length] (W ++ [ai_blank 0]) = some (none, W ++ bc W.length) := by
  have hi := isob_new W bl_0
  simp only [e_2, hi, r_2_0, r_2_1, if_true]
  rw [bl_0, bk_3 W [] rfl, bk_4 W _ rfl, bk_5 W _ rfl, bk_6 W _ rfl, bk_7 W _ rfl, bk_8 W _ rfl, bk_9 W _ rfl, r_2_103]
  rfl
theorem tx_0 (W L : ai_W) {fs : List Value} (hf : fs.length = 7) : ai_Run 9 4 [.ref W.length] [] (W ++ (ob 9 fs :: L)) = ai_Run 9 18 [.ref W.length] [] (W ++ (ob 9 (fs.set 0 (.ref (W.length + (L.length + 1)))) :: (L ++ rw2 (W.length + (L.length + 1)) 70 0))) := by
  have e : ai_Call 1 [.ref (W ++ (ob 9 fs :: L)).length, .int 70, .int 0] (W ++ (ob 9 fs :: L) ++ [ai_blank 8]) = some (none, W ++ (ob 9 fs :: (L ++ rw2 (W.length + (L.length + 1)) 70 0))) := (n_row (W ++ (ob 9 fs :: L)) (n := 70) (by decide) 0).trans (by rw [mid_len, List.append_assoc]; rfl)
  have ep := fput_mid W (L ++ rw2 (W.length + (L.length + 1)) 70 0) (c := 9) (k := 0) (fs := fs) (x := .ref (W.length + (L.length + 1))) (by omega) (pok_r fr_9_0 _)
  rw [← mid_len W L (ob 9 fs)] at ep ⊢
  rw [← mid_len W L (ob 9 fs)] at e
  generalize W ++ (ob 9 fs :: L) = ws at e ep ⊢
  simp only [r_9_4, r_9_5, r_9_8, r_9_9, r_9_11, r_9_12, r_9_15, Option.bind_some, Option.toList_none, List.nil_append, e, ep]
theorem tx_1 (W L : ai_W) {fs : List Value} (hf : fs.length = 7) : ai_Run 9 18 [.ref W.length] [] (W ++ (ob 9 fs :: L)) = ai_Run 9 32 [.ref W.length] [] (W ++ (ob 9 (fs.set 1 (.ref (W.length + (L.length + 1)))) :: (L ++ rw2 (W.length + (L.length + 1)) 35 0))) := by
  have e : ai_Call 1 [.ref (W ++ (ob 9 fs :: L)).length, .int 35, .int 0] (W ++ (ob 9 fs :: L) ++ [ai_blank 8]) = some (none, W ++ (ob 9 fs :: (L ++ rw2 (W.length + (L.length + 1)) 35 0))) := (n_row (W ++ (ob 9 fs :: L)) (n := 35) (by decide) 0).trans (by rw [mid_len, List.append_assoc]; rfl)
  have ep := fput_mid W (L ++ rw2 (W.length + (L.length + 1)) 35 0) (c := 9) (k := 1) (fs := fs) (x := .ref (W.length + (L.length + 1))) (by omega) (pok_r fr_9_1 _)
  rw [← mid_len W L (ob 9 fs)] at ep ⊢
  rw [← mid_len W L (ob 9 fs)] at e
  generalize W ++ (ob 9 fs :: L) = ws at e ep ⊢
  simp only [r_9_18, r_9_19, r_9_22, r_9_23, r_9_25, r_9_26, r_9_29, Option.bind_some, Option.toList_none, List.nil_append, e, ep]
theorem tx_2 (W L : ai_W) {fs : List Value} (hf : fs.length = 7) : ai_Run 9 32 [.ref W.length] [] (W ++ (ob 9 fs :: L)) = ai_Run 9 46 [.ref W.length] [] (W ++ (ob 9 (fs.set 2 (.ref (W.length + (L.length + 1)))) :: (L ++ rw2 (W.length + (L.length + 1)) 105 0))) := by
  have e : ai_Call 1 [.ref (W ++ (ob 9 fs :: L)).length, .int 105, .int 0] (W ++ (ob 9 fs :: L) ++ [ai_blank 8]) = some (none, W ++ (ob 9 fs :: (L ++ rw2 (W.length + (L.length + 1)) 105 0))) := (n_row (W ++ (ob 9 fs :: L)) (n := 105) (by decide) 0).trans (by rw [mid_len, List.append_assoc]; rfl)
  have ep := fput_mid W (L ++ rw2 (W.length + (L.length + 1)) 105 0) (c := 9) (k := 2) (fs := fs) (x := .ref (W.length + (L.length + 1))) (by omega) (pok_r fr_9_2 _)
  rw [← mid_len W L (ob 9 fs)] at ep ⊢
  rw [← mid_len W L (ob 9 fs)] at e
  generalize W ++ (ob 9 fs :: L) = ws at e ep ⊢
  simp only [r_9_32, r_9_33, r_9_36, r_9_37, r_9_39, r_9_40, r_9_43, Option.bind_some, Option.toList_none, List.nil_append, e, ep]
theorem li_0 (W L : ai_W) {fs : List Value} (hf : fs.length = 2) : ai_Run 10 4 [.ref W.length] [] (W ++ (ob 6 fs :: L)) = ai_Run 10 18 [.ref W.length] [] (W ++ (ob 6 (fs.set 0 (.ref (W.length + (L.length + 1)))) :: (L ++ rw2 (W.length + (L.length + 1)) 40 0))) := by
  have e : ai_Call 1 [.ref (W ++ (ob 6 fs :: L)).length, .int 40, .int 0] (W ++ (ob 6 fs :: L) ++ [ai_blank 8]) = some (none, W ++ (ob 6 fs :: (L ++ rw2 (W.length + (L.length + 1)) 40 0))) := (n_row (W ++ (ob 6 fs :: L)) (n := 40) (by decide) 0).trans (by rw [mid_len, List.append_assoc]; rfl)
  have ep := fput_mid W (L ++ rw2 (W.length + (L.length + 1)) 40 0) (c := 6) (k := 0) (fs := fs) (x := .ref (W.length + (L.length + 1))) (by omega) (pok_r fr_6_0 _)
  rw [← mid_len W L (ob 6 fs)] at ep ⊢
  rw [← mid_len W L (ob 6 fs)] at e
  generalize W ++ (ob 6 fs :: L) = ws at e ep ⊢
  simp only [r_10_4, r_10_5, r_10_8, r_10_9, r_10_11, r_10_12, r_10_15, Option.bind_some, Option.toList_none, List.nil_append, e, ep]
def tc (a : Nat) : ai_W := ob 9 [.ref (a + 1), .ref (a + 3), .ref (a + 5), .int 0, .int 0, .int 0, .int 0] :: (rw2 (a + 1) 70 0 ++ (rw2 (a + 3) 35 0 ++ rw2 (a + 5) 105 0))
def lc (a : Nat) : ai_W := ob 6 [.ref (a + 1), .int 0] :: rw2 (a + 1) 40 0
theorem n_text (W : ai_W) : ai_Call 9 [.ref W.length] (W ++ [ai_blank 9]) = some (none, W ++ tc W.length) := by
  have hi := isob_new W bl_9
  simp only [e_9, hi, r_9_0, r_9_1, if_true]
  rw [bl_9, tx_0 W [] rfl, tx_1 W _ rfl, tx_2 W _ rfl, r_9_46]
  rfl
theorem n_line (W : ai_W) : ai_Call 10 [.ref W.length] (W ++ [ai_blank 6]) = some (none, W ++ lc W.length) := by
  have hi := isob_new W bl_6
  simp only [e_10, hi, r_10_0, r_10_1, if_true]
  rw [bl_6, li_0 W [] rfl, r_10_18]
  rfl
theorem n_inq (W : ai_W) (b : Nat) : ai_Call 3 [.ref W.length, .ref b] (W ++ [ai_blank 4]) = some (none, W ++ [ob 4 [.ref b]]) := by
  have hi := isob_new W bl_4
  have hp : ai_fput (W ++ [ai_blank 4]) W.length 4 0 (.ref b) = some (W ++ [ob 4 [.ref b]]) := by
    rw [bl_4]
    exact fput_mid W [] (c := 4) (k := 0) (fs := [.null]) (by decide) (pok_r fr_4_0 _)
  simp only [e_3, hi, r_3_0, r_3_1, r_3_4, r_3_5, r_3_6, r_3_9, Option.bind_some, Option.bind_none, Option.toList_some, Option.toList_none, List.cons_append, List.nil_append, Option.map_some, Option.map_none, eq_self, if_true, if_false, reduceIte, ai_bi_eq0, ai_bi_eq1, ai_pb_bi, ai_pb_0, ai_pb_1, hp]
theorem n_jury (W : ai_W) (b : Nat) : ai_Call 4 [.ref W.length, .ref b] (W ++ [ai_blank 5]) = some (none, W ++ [ob 5 [.ref b]]) := by
  have hi := isob_new W bl_5
  have hp : ai_fput (W ++ [ai_blank 5]) W.length 5 0 (.ref b) = some (W ++ [ob 5 [.ref b]]) := by
    rw [bl_5]
    exact fput_mid W [] (c := 5) (k := 0) (fs := [.null]) (by decide) (pok_r fr_5_0 _)
  simp only [e_4, hi, r_4_0, r_4_1, r_4_4, r_4_5, r_4_6, r_4_9, Option.bind_some, Option.bind_none, Option.toList_some, Option.toList_none, List.cons_append, List.nil_append, Option.map_some, Option.map_none, eq_self, if_true, if_false, reduceIte, ai_bi_eq0, ai_bi_eq1, ai_pb_bi, ai_pb_0, ai_pb_1, hp]
theorem fput_I (W : ai_W) {c k : Nat} {fs : List Value} {x : Int32} (hk : k < fs.length) (hp : ai_fty c k = some .int) : ai_fput (W ++ [ob c fs]) W.length c k (.int x) = some (W ++ [ob c (fs.set k (.int x))]) := fput_mid W [] hk (by rw [hp]; rfl)
theorem fput_R (W : ai_W) {c k : Nat} {fs : List Value} {x : Nat} (hk : k < fs.length) (hp : ai_isr (ai_fty c k) = true) : ai_fput (W ++ [ob c fs]) W.length c k (.ref x) = some (W ++ [ob c (fs.set k (.ref x))]) := fput_mid W [] hk (pok_r hp _)
theorem n_ref (W : ai_W) : ai_Call 5 [.ref W.length] (W ++ [ai_blank 7]) = some (none, W ++ [ob 7 [.int (-4), .int (-4), .int (-4), .int (-4)]]) := by
  have hi := isob_new W bl_7
  have h0 := fput_I W (c := 7) (k := 0) (fs := [.int 0, .int 0, .int 0, .int 0]) (x := -4) (by decide) fi_7_0
  have h1 := fput_I W (c := 7) (k := 1) (fs := [.int (-4), .int 0, .int 0, .int 0]) (x := -4) (by decide) fi_7_1
  have h2 := fput_I W (c := 7) (k := 2) (fs := [.int (-4), .int (-4), .int 0, .int 0]) (x := -4) (by decide) fi_7_2
  have h3 := fput_I W (c := 7) (k := 3) (fs := [.int (-4), .int (-4), .int (-4), .int 0]) (x := -4) (by decide) fi_7_3
  simp only [List.set_cons_zero, List.set_cons_succ] at h0 h1 h2 h3
  simp only [e_5, hi, r_5_0, r_5_1, if_true]
  rw [bl_7]
  simp only [r_5_0, r_5_1, r_5_4, r_5_5, r_5_7, r_5_10, r_5_11, r_5_13, r_5_16, r_5_17, r_5_19, r_5_22, r_5_23, r_5_25, r_5_28, Option.bind_some, Option.bind_none, Option.toList_some, Option.toList_none, List.cons_append, List.nil_append, Option.map_some, Option.map_none, eq_self, if_true, if_false, reduceIte, ai_bi_eq0, ai_bi_eq1, ai_pb_bi, ai_pb_0, ai_pb_1, h0, h1, h2, h3]
theorem n_chg (W : ai_W) (b i j r : Nat) : ai_Call 7 [.ref W.length, .ref b, .ref i, .ref j, .ref r] (W ++ [ai_blank 1]) = some (none, W ++ [ob 1 [.ref b, .ref i, .ref j, .ref r]]) := by
  have hi := isob_new W bl_1
  have h0 := fput_R W (c := 1) (k := 0) (fs := [.null, .null, .null, .null]) (x := b) (by decide) fr_1_0
  have h1 := fput_R W (c := 1) (k := 1) (fs := [.ref b, .null, .null, .null]) (x := i) (Nat.le_of_ble_eq_true rfl) fr_1_1
  have h2 := fput_R W (c := 1) (k := 2) (fs := [.ref b, .ref i, .null, .null]) (x := j) (Nat.le_of_ble_eq_true rfl) fr_1_2
  have h3 := fput_R W (c := 1) (k := 3) (fs := [.ref b, .ref i, .ref j, .null]) (x := r) (Nat.le_of_ble_eq_true rfl) fr_1_3
  simp only [List.set_cons_zero, List.set_cons_succ] at h0 h1 h2 h3
  simp only [e_7, hi, r_7_0, r_7_1, if_true]
  rw [bl_1]
  simp only [r_7_0, r_7_1, r_7_4, r_7_5, r_7_6, r_7_9, r_7_10, r_7_11, r_7_14, r_7_15, r_7_16, r_7_19, r_7_20, r_7_22, r_7_25, Option.bind_some, Option.bind_none, Option.toList_some, Option.toList_none, List.cons_append, List.nil_append, Option.map_some, Option.map_none, eq_self, if_true, if_false, reduceIte, ai_bi_eq0, ai_bi_eq1, ai_pb_bi, ai_pb_0, ai_pb_1, h0, h1, h2, h3]
def cc2 (a b : Nat) : ai_W := ob 2 [.ref b, .ref (a + 1)] :: rw2 (a + 1) 8 0
theorem ct_1 (W L : ai_W) {fs : List Value} (hf : fs.length = 2) (b : Nat) : ai_Run 6 4 [.ref W.length, .ref b] [] (W ++ (ob 2 fs :: L)) = ai_Run 6 18 [.ref W.length, .ref b] [] (W ++ (ob 2 (fs.set 1 (.ref (W.length + (L.length + 1)))) :: (L ++ rw2 (W.length + (L.length + 1)) 8 0))) := by
  have e : ai_Call 1 [.ref (W ++ (ob 2 fs :: L)).length, .int 8, .int 0] (W ++ (ob 2 fs :: L) ++ [ai_blank 8]) = some (none, W ++ (ob 2 fs :: (L ++ rw2 (W.length + (L.length + 1)) 8 0))) := (n_row (W ++ (ob 2 fs :: L)) (n := 8) (by decide) 0).trans (by rw [mid_len, List.append_assoc]; rfl)
  have ep := fput_mid W (L ++ rw2 (W.length + (L.length + 1)) 8 0) (c := 2) (k := 1) (fs := fs) (x := .ref (W.length + (L.length + 1))) (by omega) (pok_r fr_2_1 _)
  rw [← mid_len W L (ob 2 fs)] at ep ⊢
  rw [← mid_len W L (ob 2 fs)] at e
  generalize W ++ (ob 2 fs :: L) = ws at e ep ⊢
  simp only [r_6_4, r_6_5, r_6_8, r_6_9, r_6_11, r_6_12, r_6_15, Option.bind_some, Option.toList_none, List.nil_append, e, ep]
theorem n_cnt (W : ai_W) (b : Nat) : ai_Call 6 [.ref W.length, .ref b] (W ++ [ai_blank 2]) = some (none, W ++ cc2 W.length b) := by
  have hi := isob_new W bl_2
  have hp := fput_mid W (rw2 (W.length + 1) 8 0) (c := 2) (k := 0) (fs := [.null, .ref (W.length + 1)]) (x := .ref b) (Nat.le_of_ble_eq_true rfl) (pok_r fr_2_0 _)
  simp only [e_6, hi, r_6_0, r_6_1, if_true]
  rw [bl_2, ct_1 W [] rfl b]
  show ai_Run 6 18 [.ref W.length, .ref b] [] (W ++ (ob 2 [.null, .ref (W.length + 1)] :: rw2 (W.length + 1) 8 0)) = _
  simp only [r_6_18, r_6_19, r_6_20, r_6_23, Option.bind_some, Option.bind_none, Option.toList_some, Option.toList_none, List.cons_append, List.nil_append, Option.map_some, Option.map_none, eq_self, if_true, if_false, reduceIte, ai_bi_eq0, ai_bi_eq1, ai_pb_bi, ai_pb_0, ai_pb_1, hp]
  rfl
/-- the states of the history -/
def hr9 (a i : Nat) : List (Option Nat) := (List.range 9).map fun j => if j < i then some (a + 17 + 15 * j) else none
def hb9 (a : Nat) : Nat → ai_W
  | 0 => bc (a + 2)
  | i + 1 => hb9 a i ++ bc (a + 17 + 15 * i)
theorem hb9_len (a i : Nat) : (hb9 a i).length = 15 * (i + 1) := by
  induction i with
  | zero => rfl
  | succ i ih => rw [hb9, List.length_append, ih, bc_len]; omega
def hs9 (a i : Nat) : ai_W := ob 3 [.ref (a + 1), .ref (a + 2), .int 0, .int 0, .int 0] :: (.inr (.inl (hr9 a i)) :: hb9 a i)
theorem hr9_set (a i : Nat) (hi : i < 9) : (hr9 a i).set i (some (a + 17 + 15 * i)) = hr9 a (i + 1) := by
  refine List.ext_getElem? fun j => ?_
  simp only [hr9, List.getElem?_set, List.getElem?_map, List.length_map, List.length_range]
  by_cases hj : j < 9
  · rw [List.getElem?_range hj]
    by_cases z : i = j
    · subst z
      simp [hi]
    · rw [if_neg z]
      by_cases y : j < i
      · simp [y, show j < i + 1 by omega]
      · simp [y, show ¬ j < i + 1 by omega]
  · rw [List.getElem?_eq_none (by simp; omega)]
    have z : ¬ i = j := by omega
    rw [if_neg z]
    rfl
theorem n_hist (W : ai_W) : ai_Call 8 [.ref W.length] (W ++ [ai_blank 3]) = some (none, W ++ hs9 W.length 9) := by
  have hi := isob_new W bl_3
  have hp0 : ai_fput (W ++ [ai_blank 3] ++ [.inr (.inl (List.replicate (Int32.toNatClampNeg 9) none))]) W.length 3 0 (.ref (W ++ [ai_blank 3]).length) = some (W ++ (ob 3 [.ref (W.length + 1), .null, .int 0, .int 0, .int 0] :: [.inr (.inl (hr9 W.length 0))])) := by
    rw [bl_3, List.append_assoc]
    refine (fput_mid W [.inr (.inl (List.replicate (Int32.toNatClampNeg 9) none))] (c := 3) (k := 0) (fs := [.null, .null, .int 0, .int 0, .int 0]) (by decide) (pok_r fr_3_0 _)).trans ?_
    rw [List.length_append]
    rfl
  have hq : ai_Run 8 13 [.ref W.length, .null] [] (W ++ (ob 3 [.ref (W.length + 1), .null, .int 0, .int 0, .int 0] :: [.inr (.inl (hr9 W.length 0))])) = ai_Run 8 26 [.ref W.length, .int 0] [] (W ++ hs9 W.length 0) := by
    have e := n_book (W ++ (ob 3 [.ref (W.length + 1), .null, .int 0, .int 0, .int 0] :: [.inr (.inl (hr9 W.length 0))]))
    have hl : (W ++ (ob 3 [.ref (W.length + 1), .null, .int 0, .int 0, .int 0] :: [.inr (.inl (hr9 W.length 0))])).length = W.length + 2 := by rw [mid_len]; rfl
    rw [hl, List.append_assoc] at e
    have ep := fput_mid W (.inr (.inl (hr9 W.length 0)) :: bc (W.length + 2)) (c := 3) (k := 1) (fs := [.ref (W.length + 1), .null, .int 0, .int 0, .int 0]) (x := .ref (W.length + 2)) (Nat.le_of_ble_eq_true rfl) (pok_r fr_3_1 _)
    have e : ai_Call 2 [.ref (W.length + 2)] (W ++ (ob 3 [.ref (W.length + 1), .null, .int 0, .int 0, .int 0] :: [.inr (.inl (hr9 W.length 0))]) ++ [ai_blank 0]) = some (none, W ++ (ob 3 [.ref (W.length + 1), .null, .int 0, .int 0, .int 0] :: (.inr (.inl (hr9 W.length 0)) :: bc (W.length + 2)))) := by
      rw [List.append_assoc]
      exact e.trans (by rw [List.append_assoc]; rfl)
    generalize W ++ (ob 3 [.ref (W.length + 1), .null, .int 0, .int 0, .int 0] :: [.inr (.inl (hr9 W.length 0))]) = ws at e hl ⊢
    simp only [r_8_13, r_8_14, r_8_17, r_8_18, r_8_21, r_8_24, r_8_25, hl, Option.bind_some, Option.toList_none, List.nil_append, e, ep]
    rfl
  have step : ∀ i, i < 9 → ai_Run 8 26 [.ref W.length, .int (nI i)] [] (W ++ hs9 W.length i) = ai_Run 8 26 [.ref W.length, .int (nI (i + 1))] [] (W ++ hs9 W.length (i + 1)) := by
    intro i hi
    have c1 : nI i < 9 := nI_lt (b := 9) hi (by decide)
    have f0 : ai_fget (W ++ hs9 W.length i) W.length 3 0 = some (.ref (W.length + 1)) := fget_mid W _
    have g0 : (W ++ hs9 W.length i)[W.length + 1]? = some (.inr (.inl (hr9 W.length i))) := by
      rw [List.getElem?_append_right (by omega), show W.length + 1 - W.length = 1 by omega]
      rfl
    have f1 : ai_len (W ++ hs9 W.length i) (W.length + 1) = some 9 := by
      unfold ai_len
      rw [g0]
      simp only [hr9, List.length_map, List.length_range]
      rfl
    have hl : (W ++ hs9 W.length i).length = W.length + 17 + 15 * i := by
      unfold hs9
      rw [mid_len, List.length_cons, hb9_len]
      omega
    have e := n_book (W ++ hs9 W.length i)
    rw [hl] at e
    have g1 : (W ++ hs9 W.length i ++ bc (W.length + 17 + 15 * i))[W.length + 1]? = some (.inr (.inl (hr9 W.length i))) := by
      rw [List.getElem?_append_left (by rw [hl]; omega)]
      exact g0
    have g2 : ai_isob (W ++ hs9 W.length i ++ bc (W.length + 17 + 15 * i)) (W.length + 17 + 15 * i) 0 = true := by
      refine ai_isob_of (ci := 0) (fs := ?_) ?_
      rotate_left
      · rw [List.getElem?_append_right (by rw [hl]; omega), hl, Nat.sub_self]
        rfl
    have fq : ai_qset (W ++ hs9 W.length i ++ bc (W.length + 17 + 15 * i)) (W.length + 1) (nI i) (W.length + 17 + 15 * i) = some (W ++ hs9 W.length (i + 1)) := by
      unfold ai_qset
      rw [g1]
      show (if ai_isob (W ++ hs9 W.length i ++ bc (W.length + 17 + 15 * i)) (W.length + 17 + 15 * i) 0 = true then (ai_ix (nI i) (hr9 W.length i).length).map (fun j => (W ++ hs9 W.length i ++ bc (W.length + 17 + 15 * i)).set (W.length + 1) (.inr (.inl ((hr9 W.length i).set j (some (W.length + 17 + 15 * i)))))) else none) = _
      rw [if_pos g2, show (hr9 W.length i).length = 9 from by simp [hr9], ai_ix_nI hi (by decide)]
      show some ((W ++ hs9 W.length i ++ bc (W.length + 17 + 15 * i)).set (W.length + 1) (.inr (.inl ((hr9 W.length i).set i (some (W.length + 17 + 15 * i)))))) = _
      rw [hr9_set _ _ hi, List.append_assoc, List.set_append_right _ _ (by omega), show W.length + 1 - W.length = 1 by omega]
      rfl
    rw [r_8_26]
    generalize hX : W ++ hs9 W.length i = ws at f0 f1 e fq hl ⊢
    simp only [r_8_0, r_8_1, r_8_4, r_8_5, r_8_7, r_8_10, r_8_13, r_8_14, r_8_17, r_8_18, r_8_21, r_8_24, r_8_25, r_8_27, r_8_28, r_8_31, r_8_32, r_8_35, r_8_36, r_8_39, r_8_40, r_8_43, r_8_44, r_8_47, r_8_48, r_8_51, r_8_54, Option.bind_some, Option.bind_none, Option.toList_some, Option.toList_none, List.cons_append, List.nil_append, Option.map_some, Option.map_none, eq_self, if_true, if_false, reduceIte, ai_bi_eq0, ai_bi_eq1, ai_pb_bi, ai_pb_0, ai_pb_1, f0, f1, c1, hl, e, fq, nI_1]
  have e := lp_n (fun i => ai_Run 8 26 [.ref W.length, .int (nI i)] [] (W ++ hs9 W.length i)) 9 step
  have f0 : ai_fget (W ++ hs9 W.length 9) W.length 3 0 = some (.ref (W.length + 1)) := fget_mid W _
  have g0 : (W ++ hs9 W.length 9)[W.length + 1]? = some (.inr (.inl (hr9 W.length 9))) := by
    rw [List.getElem?_append_right (by omega), show W.length + 1 - W.length = 1 by omega]
    rfl
  have f1 : ai_len (W ++ hs9 W.length 9) (W.length + 1) = some 9 := by
    unfold ai_len
    rw [g0]
    simp only [hr9, List.length_map, List.length_range]
    rfl
  have n9 : ¬ ((9 : Int32) < 0 ∨ 100000 < Int32.toNatClampNeg 9) := by decide
  have eA : ai_Call 8 [.ref W.length] (W ++ [ai_blank 3]) = ai_Run 8 13 [.ref W.length, .null] [] (W ++ (ob 3 [.ref (W.length + 1), .null, .int 0, .int 0, .int 0] :: [.inr (.inl (hr9 W.length 0))])) := by
    generalize W ++ [ai_blank 3] = ws at hi hp0 ⊢
    simp only [e_8, hi, r_8_0, r_8_1, r_8_4, r_8_5, r_8_7, r_8_10, if_true, n9, if_false, hp0, Option.bind_some]
  rw [eA, hq]
  refine e.trans ?_
  rw [r_8_26]
  simp only [r_8_0, r_8_1, r_8_4, r_8_5, r_8_7, r_8_10, r_8_13, r_8_14, r_8_17, r_8_18, r_8_21, r_8_24, r_8_25, r_8_27, r_8_28, r_8_31, r_8_32, r_8_35, r_8_36, r_8_39, r_8_40, r_8_43, r_8_44, r_8_47, r_8_48, r_8_51, r_8_54, Option.bind_some, Option.bind_none, Option.toList_some, Option.toList_none, List.cons_append, List.nil_append, Option.map_some, Option.map_none, eq_self, if_true, if_false, reduceIte, ai_bi_eq0, ai_bi_eq1, ai_pb_bi, ai_pb_0, ai_pb_1, f0, f1, show ¬ nI 9 < 9 by decide]
