/-! Cells: fields, arrays, new ones. -/
theorem ai_f_of {y i ci k wi : Nat} (hy : y < 203) (h : ai_lk ai_vf (ai_view y) i = some (ci, k, wi)) : ∃ r : vw_C, vwCl[ci]? = some r ∧ k < r.2.2 ∧ Cond.fieldLink (ai_name y).cls i (r.2.1 k).1 (r.2.1 k).2.1 (r.2.1 k).2.2.1 ∈ ai_T ∧ ((r.2.1 k).2.2.2 = true → (r.2.1 k).1 = r.1) := by
  obtain ⟨l, h1, h2⟩ := ai_lk_mem h
  have hl : ai_view y < ai_vf.length := (List.getElem?_eq_some_iff.mp h1).1
  have h3 := List.all_eq_true.mp ai_okf_all _ (List.mem_range.mpr hl)
  rw [h1] at h3
  have h4 := List.all_eq_true.mp h3 _ h2
  unfold ai_okf at h4
  rw [ai_vw hy] at h4
  split at h4
  · rename_i own r hown hr
    cases hown
    simp only [Bool.and_eq_true, decide_eq_true_eq, Bool.or_eq_true, Bool.not_eq_true'] at h4
    refine ⟨r, hr, h4.1.1, ai_has_in h4.1.2, fun hf => ?_⟩
    rcases h4.2 with h5 | h5
    · rw [hf] at h5
      cases h5
    · exact h5
  · cases h4
theorem ai_c_of {ci : Nat} {r : vw_C} (h : vwCl[ci]? = some r) : (∀ w ∈ u_ws r.1 r.2.1 r.2.2, w ∈ ai_T) ∧ (∀ k, k < r.2.2 → parseFieldDescriptor (r.2.1 k).2.2.1 = some ((parseFieldDescriptor (r.2.1 k).2.2.1).getD .int)) ∧ ∀ a, a < r.2.2 → ∀ b, b < r.2.2 → a ≠ b → (r.2.1 a).2.1 ≠ (r.2.1 b).2.1 := by
  have h1 := List.all_eq_true.mp ai_okc_all r (List.mem_of_getElem? h)
  unfold ai_okc at h1
  rw [Bool.and_eq_true] at h1
  refine ⟨fun w hw => ?_, fun k hk => ?_, fun a ha b hb hab => ?_⟩
  · have h2 := List.all_eq_true.mp h1.1 w hw
    rw [Bool.and_eq_true, decide_eq_true_eq] at h2
    exact List.mem_filter.mpr ⟨List.mem_append_left _ h2.1, h2.2⟩
  · have h2 := List.all_eq_true.mp h1.2 k (List.mem_range.mpr hk)
    rw [Bool.and_eq_true] at h2
    obtain ⟨t, ht⟩ := Option.isSome_iff_exists.mp h2.1
    rw [ht]
    rfl
  · have h2 := List.all_eq_true.mp h1.2 a (List.mem_range.mpr ha)
    rw [Bool.and_eq_true] at h2
    have h3 := List.all_eq_true.mp h2.2 b (List.mem_range.mpr hb)
    simp only [Bool.or_eq_true, decide_eq_true_eq] at h3
    rcases h3 with h3 | h3
    · exact absurd h3 hab
    · exact h3
theorem ai_cl_at {ci : Nat} {r : vw_C} (h : vwCl[ci]? = some r) : ai_cl ci = r := by
  unfold ai_cl
  rw [h]
  rfl
theorem ai_n_of {y i ci w1 w2 w3 : Nat} (hy : y < 203) (h : ai_lk ai_vn (ai_view y) i = some (ci, w1, w2, w3)) : ∃ r : vw_C, vwCl[ci]? = some r ∧ Cond.classLink (ai_name y).cls i r.1 ∈ ai_T ∧ Cond.instantiable r.1 r.2.2 ∈ ai_T ∧ Cond.initialized r.1 ∈ ai_T := by
  obtain ⟨l, h1, h2⟩ := ai_lk_mem h
  have hl : ai_view y < ai_vn.length := (List.getElem?_eq_some_iff.mp h1).1
  have h3 := List.all_eq_true.mp ai_okn_all _ (List.mem_range.mpr hl)
  rw [h1] at h3
  have h4 := List.all_eq_true.mp h3 _ h2
  unfold ai_okn at h4
  rw [ai_vw hy] at h4
  split at h4
  · rename_i own r hown hr
    cases hown
    simp only [Bool.and_eq_true] at h4
    exact ⟨r, hr, ai_has_in h4.1.1, ai_has_in h4.1.2, ai_has_in h4.2⟩
  · cases h4
theorem ai_ix_in {i : Int32} {n j : Nat} (h : ai_ix i n = some j) : vp_in i n ∧ j = i.toNatClampNeg ∧ j < n := by
  unfold ai_ix at h
  split at h
  · cases h
  · rename_i h1
    cases h
    exact ⟨h1, rfl, by omega⟩
theorem ai_ne77 {ci : Nat} {r : vw_C} (h : vwCl[ci]? = some r) : ¬ ci = 77 := by
  have h1 := (List.getElem?_eq_some_iff.mp h).1
  have h2 : vwCl.length = 13 := rfl
  omega
theorem ai_w_geto {b : ai_B} {cI cB cY : ClassId} {ws : ai_W} {k ci : Nat} {fs : List Value} (h : ws[k]? = some (.inr (.inr (ci, fs)))) (h7 : ¬ ci = 77) : (ai_w b cI cB cY ws)[k]? = some (b.1 + k, .inr (ci, fs.map (ai_cv b))) := by
  rw [ai_w_get h, ai_e_o h7]
theorem ai_w_getb {b : ai_B} {cI cB cY : ClassId} {ws : ai_W} {k : Nat} {fs : List Value} (h : ws[k]? = some (.inr (.inr (77, fs)))) : (ai_w b cI cB cY ws)[k]? = some (b.1 + k, .inl (cY, fs.length, .inl (fun j => ai_iv (fs.getD j .null)))) := by
  rw [ai_w_get h, ai_e_b]
theorem ai_own_all : (List.range 203).all (fun y => decide (ai_kind y = 2 → ai_ci y = 11 ∨ ai_cn (ai_ci y) = (ai_name y).cls)) = true := by decide +kernel
theorem ai_own {y k : Nat} {r : vw_C} (hy : y < 203) (hk : ai_kind y = 2) (hr : vwCl[ai_ci y]? = some r) (hf : (r.2.1 k).2.2.2 = true) : r.1 = (ai_name y).cls := by
  rcases of_decide_eq_true (List.all_eq_true.mp ai_own_all y (List.mem_range.mpr hy)) hk with h | h
  · rw [h] at hr
    cases hr
    exfalso
    revert hf
    show (TJ4 k).2.2.2 = true → False
    unfold TJ4
    split <;> exact fun h => by cases h
  · unfold ai_cn at h
    rw [hr] at h
    exact h
theorem ai_cv_nar {b : ai_B} {ty : FieldType} {v : Value} (h : ai_pok (some ty) v = true) : narrow ty (ai_cv b v) = ai_cv b v ∧ fits ty (ai_cv b v) = true := by
  cases ty <;> cases v <;> first
    | (cases h; done)
    | exact ⟨rfl, rfl⟩
    | (simp only [ai_pok, Bool.or_eq_true, beq_iff_eq] at h; rcases h with rfl | rfl <;> exact ⟨rfl, rfl⟩)
    | (simp only [ai_pok, decide_eq_true_eq] at h; rw [← h]; exact ⟨pk_nb _, pk_fb _⟩)
    | (simp only [ai_pok, decide_eq_true_eq] at h; rw [← h]; exact ⟨pk_nc _, pk_fc _⟩)
theorem ai_fit8 {v : Value} (h : ai_fb8 v = true) : fits .byte (.int (ai_iv v)) = true := by
  cases v <;> first
    | (cases h; done)
    | (simp only [ai_fb8, decide_eq_true_eq] at h; simp only [ai_iv]; rw [← h]; exact pk_fb _)
/-- every field's first value -/
def ai_dvk (r : vw_C) : Bool := (List.range r.2.2).all fun k => match parseFieldDescriptor (r.2.1 k).2.2.1 with
  | some ty => decide (defaultValue ty = ai_dv (some ty))
  | none => false
theorem ai_dvk_all : vwCl.all ai_dvk = true := by decide +kernel
theorem ai_dv_cv {b : ai_B} {t : Option FieldType} : ai_cv b (ai_dv t) = ai_dv t := by
  cases t with
  | none => rfl
  | some t => cases t <;> rfl
theorem ai_dv_ok {b : ai_B} {ci : Nat} {r : vw_C} (h : vwCl[ci]? = some r) (j : Nat) (hj : j < r.2.2) {ty : FieldType} (hty : parseFieldDescriptor (r.2.1 j).2.2.1 = some ty) : defaultValue ty = ai_cv b (ai_dv (some ty)) := by
  have h1 := List.all_eq_true.mp (List.all_eq_true.mp ai_dvk_all r (List.mem_of_getElem? h)) j (List.mem_range.mpr hj)
  rw [hty] at h1
  rw [ai_dv_cv]
  exact of_decide_eq_true h1
section AIS
variable {p : Program} {l : Launch} {e : Env} {R : Room} {s : State} {m : MethodId} {args : Array Value} {below : List Frame} {meth : Method} {c : Code} {Q : State → Prop} {b : ai_B} {N n0 s0 : Nat} {cI cB cY : ClassId} {dC : Nat → ClassId} {dI : Nat → Nat → Nat} {A : Nat → Prop}
theorem ai_get_ok {y i pc pc2 : Nat} {ls st ls2 st2 : List Value} {ws ws2 : ai_W} (hF : ai_F p R s m args meth c b N n0 cI cB cY dC dI A y) (hd : decode (ai_code y) pc = .ok (.getfield i, 3)) (h : ai_in y pc ls st ws (.getfield i) 3 = some (.inr (.inl (pc2, ls2, st2, ws2)))) (kk : ai_X p l e R s m args below meth c Q b n0 s0 cI cB cY dC dI A pc2 ls2 st2 ws2) : ai_X p l e R s m args below meth c Q b n0 s0 cI cB cY dC dI A pc ls st ws := by
  obtain ⟨hy, hx, hb, hml, hown, hts, hK, hr, hlk, hin, hZ, hA, hA2, hz, hR1, hR2, hY⟩ := hF
  simp only [ai_in] at h
  split at h
  · rename_i ci k wi a st hv
    split at h
    · rename_i v hg
      cases h
      obtain ⟨r, r1, r2, r3, r4⟩ := ai_f_of hy hv
      intro arr H locs cells slots hl hP hD hS h1 h2
      unfold ai_fget at hg
      split at hg
      · rename_i cc fs hc
        split at hg
        · rename_i hcc
          subst hcc
          refine va_get (C := r.1) (T := r.2.1) (N := r.2.2) hx hb hts (ai_c_of r1).1 hown hK hP a (ai_w_geto hc (ai_ne77 r1)) r1 k r2 (hts _ r3) (fun _ q => q) (v := ai_cv b v) ?_ hd ?_
          · show (fs.map (ai_cv b))[k]? = _
            rw [List.getElem?_map, (ai_nr_some hg).1]
            rfl
          · exact kk arr H locs cells slots hl hP hD hS h1 h2
        · cases hg
      · cases hg
    · cases h
  · rename_i ci k wi q st hv
    split at h
    · rename_i v hg
      cases h
      obtain ⟨r, r1, r2, r3, r4⟩ := ai_f_of hy hv
      unfold ai_xget at hg
      split at hg
      · rename_i hq
        obtain ⟨q1, q2, rfl⟩ := hq
        cases r1
        intro arr H locs cells slots hl hP hD hS h1 h2
        have hk := kk arr H locs cells slots hl hP hD hS h1 h2
        have hE := hY.2.2.1.1 (q - 1) (by omega)
        rw [List.map_cons, ai_cv_x (show ¬ q = 23 by omega)]
        have e1 : ai_xa b q = b.2.1 (q - 1 + 1) := by
          unfold ai_xa
          rw [if_neg (by omega), show q - 1 + 1 = q by omega]
        rw [e1]
        split at hg
        · rename_i k0
          subst k0
          cases hg
          refine vk_getf (o := "java/lang/String") (n := "value") (d := "[B") hx hb hE.2.2.1 hS hown (hts _ r3) (fun _ q => q) hd ?_
          rw [List.map_cons, ai_cv_x (show ¬ q + 10 = 23 by omega)] at hk
          have e2 : ai_xa b (q + 10) = b.2.1 (q - 1 + 11) := by
            unfold ai_xa
            rw [if_neg (by omega), show q - 1 + 11 = q + 10 by omega]
          rw [e2] at hk
          exact hk
        · split at hg
          · rename_i k1
            subst k1
            cases hg
            exact vk_getf (o := "java/lang/String") (n := "coder") (d := "B") hx hb hE.2.1 hS hown (hts _ r3) (fun _ q => q) hd hk
          · cases hg
      · cases hg
    · cases h
  · cases h
theorem ai_put_ok {y i pc pc2 : Nat} {ls st ls2 st2 : List Value} {ws ws2 : ai_W} (hF : ai_F p R s m args meth c b N n0 cI cB cY dC dI A y) (hd : decode (ai_code y) pc = .ok (.putfield i, 3)) (h : ai_in y pc ls st ws (.putfield i) 3 = some (.inr (.inl (pc2, ls2, st2, ws2)))) (kk : ai_X p l e R s m args below meth c Q b n0 s0 cI cB cY dC dI A pc2 ls2 st2 ws2) : ai_X p l e R s m args below meth c Q b n0 s0 cI cB cY dC dI A pc ls st ws := by
  obtain ⟨hy, hx, hb, hml, hown, hts, hK, hr, hlk, hin, hZ, hA, hA2, hz, hR1, hR2, hY⟩ := hF
  simp only [ai_in] at h
  split at h
  · rename_i ci k wi v a st hv
    split at h
    · rename_i hfin
      split at h
      · rename_i hg
        cases h
        obtain ⟨r, r1, r2, r3, r4⟩ := ai_f_of hy hv
        have hcl := ai_cl_at r1
        intro arr H locs cells slots hl hP hD hS h1 h2
        unfold ai_fput at hg
        split at hg
        · rename_i cc fs hc
          split at hg
          · rename_i hcc
            obtain ⟨e1, hkl, hpo⟩ := hcc
            subst e1
            cases hg
            have c1 := ai_c_of r1
            have hty := c1.2.1 k r2
            generalize (parseFieldDescriptor (r.2.1 k).2.2.1).getD FieldType.int = ty at hty
            have hpo2 : ai_pok (some ty) v = true := by
              rw [← hty, ← hcl]
              exact hpo
            have hnf := ai_cv_nar (b := b) hpo2
            have hkl2 : k < (fs.map (ai_cv b)).length := by rw [List.length_map]; exact hkl
            have hco := ai_w_geto (b := b) (cI := cI) (cB := cB) (cY := cY) hc (ai_ne77 r1)
            have fin : ∀ (H1 : Heap) (locs1 : List Loc), va_P (dC, dI) vwCl ((ai_w b cI cB cY ws).set a (b.1 + a, .inr (cc, (fs.map (ai_cv b)).set k (ai_cv b v)))) H1 → va_D A ((ai_w b cI cB cY ws).set a (b.1 + a, .inr (cc, (fs.map (ai_cv b)).set k (ai_cv b v)))) → va_S A s.heap H1 locs1 → W p l e R s m args below meth c H1 locs1 cells slots Q (F0 m (pc + 3) arr (st2.map (ai_cv b))) := by
              intro H1 locs1 g1 g2 g3
              have e2 : (ai_w b cI cB cY ws).set a (b.1 + a, .inr (cc, (fs.map (ai_cv b)).set k (ai_cv b v))) = ai_w b cI cB cY (ws.set a (.inr (.inr (cc, fs.set k v)))) := by
                rw [← ai_w_set, ← List.map_set, ai_e_o (ai_ne77 r1)]
              rw [e2] at g1 g2
              exact kk arr H1 locs1 cells slots hl g1 g2 g3 (by rw [List.length_set]; exact h1) (by rw [ai_sl_set hc (by simp [ai_sz])]; exact h2)
            cases hfi : (r.2.1 k).2.2.2
            · exact va_put (C := r.1) (T := r.2.1) (N := r.2.2) (ref := (r.2.1 k).1) hx hb hts c1.1 _ c1.2.1 c1.2.2 hown hK hP hD hS a hco r1 k r2 (hts _ r3) (fun _ q => q) hfi hty hnf.1 hnf.2 hkl2 hd fin
            · have hk2 := hfin (by rw [hcl]; exact hfi)
              have hcn : r.1 = (ai_name y).cls := ai_own hy hk2.1 (by rw [hk2.2]; exact r1) hfi
              exact va_putF (C := r.1) (T := r.2.1) (N := r.2.2) (ref := (r.2.1 k).1) hx hb hts c1.1 _ c1.2.1 c1.2.2 hown hK hP hD hS a hco r1 k r2 (hts _ r3) (fun _ q => q) hfi (hin hk2.1) ((r4 hfi).trans hcn) hty hnf.1 hnf.2 hkl2 hd fin
          · cases hg
        · cases hg
      · cases h
    · cases h
  · cases h
theorem ai_iald_ok {y pc pc2 : Nat} {ls st ls2 st2 : List Value} {ws ws2 : ai_W} (hF : ai_F p R s m args meth c b N n0 cI cB cY dC dI A y) (hgs : ∀ v ∈ st, ai_gv N v) (hd : decode (ai_code y) pc = .ok (.iaload, 1)) (h : ai_in y pc ls st ws .iaload 1 = some (.inr (.inl (pc2, ls2, st2, ws2)))) (kk : ai_X p l e R s m args below meth c Q b n0 s0 cI cB cY dC dI A pc2 ls2 st2 ws2) : ai_X p l e R s m args below meth c Q b n0 s0 cI cB cY dC dI A pc ls st ws := by
  obtain ⟨hy, hx, hb, hml, hown, hts, hK, hr, hlk, hin, hZ, hA, hA2, hz, hR1, hR2, hY⟩ := hF
  simp only [ai_in] at h
  split at h
  · rename_i i a st
    split at h
    · rename_i x hg
      cases h
      unfold ai_aget at hg
      split at hg
      · rename_i q hc
        rw [Option.map_eq_some_iff] at hg
        obtain ⟨j, hj, rfl⟩ := hg
        obtain ⟨j1, rfl, j3⟩ := ai_ix_in hj
        intro arr H locs cells slots hl hP hD hS h1 h2
        exact va_iald hx hb hK hP a 0 (ai_w_get hc) rfl j1 hd (kk arr H locs cells slots hl hP hD hS h1 h2)
      · cases hg
    · cases h
  · rename_i i k st
    split at h
    · rename_i x hg
      cases h
      unfold ai_xaget at hg
      split at hg
      · rename_i h24
        rw [Option.map_eq_some_iff] at hg
        obtain ⟨j, hj, rfl⟩ := hg
        obtain ⟨j1, rfl, j3⟩ := ai_ix_in hj
        have hkN : k = 24 + N := by
          rcases hgs (.retAddr k) (List.mem_cons_of_mem _ List.mem_cons_self) k rfl with q | q
          · omega
          · exact q
        subst hkN
        rw [Nat.add_sub_cancel_left] at j1 j3 kk
        intro arr H locs cells slots hl hP hD hS h1 h2
        have hk := kk arr H locs cells slots hl hP hD hS h1 h2
        rw [List.map_cons, List.map_cons, ai_cv_x (show ¬ 24 + N = 23 by omega), show ai_xa b (24 + N) = b.2.1 0 by unfold ai_xa; rw [if_pos (by omega)]]
        exact va_sld hx hb hY.1.1 hY.1.2.1 hY.1.2.2 hS j1 hd hk
      · cases hg
    · cases h
  · cases h
theorem ai_iast_ok {y pc pc2 : Nat} {ls st ls2 st2 : List Value} {ws ws2 : ai_W} (hF : ai_F p R s m args meth c b N n0 cI cB cY dC dI A y) (hd : decode (ai_code y) pc = .ok (.iastore, 1)) (h : ai_in y pc ls st ws .iastore 1 = some (.inr (.inl (pc2, ls2, st2, ws2)))) (kk : ai_X p l e R s m args below meth c Q b n0 s0 cI cB cY dC dI A pc2 ls2 st2 ws2) : ai_X p l e R s m args below meth c Q b n0 s0 cI cB cY dC dI A pc ls st ws := by
  obtain ⟨hy, hx, hb, hml, hown, hts, hK, hr, hlk, hin, hZ, hA, hA2, hz, hR1, hR2, hY⟩ := hF
  simp only [ai_in] at h
  split at h
  · rename_i x i a st
    split at h
    · rename_i hg
      cases h
      unfold ai_aset at hg
      split at hg
      · rename_i q hc
        rw [Option.map_eq_some_iff] at hg
        obtain ⟨j, hj, rfl⟩ := hg
        obtain ⟨j1, rfl, j3⟩ := ai_ix_in hj
        intro arr H locs cells slots hl hP hD hS h1 h2
        refine va_iast hx hb hK hP hD hS a 0 (ai_w_get hc) rfl j1 hd (fun H1 locs1 g1 g2 g3 => ?_)
        have e2 : (b.1 + a, (Sum.inl (cI, q.length, .inl (upd (fun j => q.getD j 0) i.toNatClampNeg x)) : va_E)) = (b.1 + a, ai_e b cI cB cY (.inl (q.set i.toNatClampNeg x))) := by
          have e3 : upd (fun j => q.getD j 0) i.toNatClampNeg x = fun j => (q.set i.toNatClampNeg x).getD j 0 := by
            funext k
            simp only [upd, List.getD_eq_getElem?_getD, List.getElem?_set]
            by_cases hk : k = i.toNatClampNeg
            · subst hk
              simp [j3]
            · simp [hk, Ne.symm hk]
          simp only [ai_e, e3, List.length_set]
        rw [e2, ai_w_set] at g1 g2
        exact kk arr H1 locs1 cells slots hl g1 g2 g3 (by rw [List.length_set]; exact h1) (by rw [ai_sl_set hc (by simp [ai_sz])]; exact h2)
      · cases hg
    · cases h
  · cases h
theorem ai_bald_ok {y pc pc2 : Nat} {ls st ls2 st2 : List Value} {ws ws2 : ai_W} (hF : ai_F p R s m args meth c b N n0 cI cB cY dC dI A y) (hd : decode (ai_code y) pc = .ok (.baload, 1)) (h : ai_in y pc ls st ws .baload 1 = some (.inr (.inl (pc2, ls2, st2, ws2)))) (kk : ai_X p l e R s m args below meth c Q b n0 s0 cI cB cY dC dI A pc2 ls2 st2 ws2) : ai_X p l e R s m args below meth c Q b n0 s0 cI cB cY dC dI A pc ls st ws := by
  obtain ⟨hy, hx, hb, hml, hown, hts, hK, hr, hlk, hin, hZ, hA, hA2, hz, hR1, hR2, hY⟩ := hF
  simp only [ai_in] at h
  split at h
  · rename_i i a st
    split at h
    · rename_i x hg
      cases h
      unfold ai_bget at hg
      split at hg
      · rename_i cc fs hc
        split at hg
        · rename_i h7
          subst h7
          rw [Option.map_eq_some_iff] at hg
          obtain ⟨j, hj, rfl⟩ := hg
          obtain ⟨j1, rfl, j3⟩ := ai_ix_in hj
          intro arr H locs cells slots hl hP hD hS h1 h2
          exact va_bald hx hb hK hP a 2 (ai_w_getb hc) rfl j1 hd (kk arr H locs cells slots hl hP hD hS h1 h2)
        · cases hg
      · cases hg
    · cases h
  · rename_i i k st
    split at h
    · rename_i x hg
      cases h
      unfold ai_xbget at hg
      split at hg
      · rename_i hk
        intro arr H locs cells slots hl hP hD hS h1 h2
        have hkk := kk arr H locs cells slots hl hP hD hS h1 h2
        rw [List.map_cons, List.map_cons, ai_cv_x (show ¬ k = 23 by omega)]
        rcases hk with rfl | rfl
        · have e : ai_xb 21 = some ai_d1 := rfl
          rw [e] at hg
          dsimp only at hg
          rw [Option.map_eq_some_iff] at hg
          obtain ⟨j, hj, rfl⟩ := hg
          obtain ⟨j1, rfl, j3⟩ := ai_ix_in hj
          exact va_tb hx hb hY.2.2.2.2.2.2.2.1 hS j1 rfl hd hkk
        · have e : ai_xb 22 = some ai_d10 := rfl
          rw [e] at hg
          dsimp only at hg
          rw [Option.map_eq_some_iff] at hg
          obtain ⟨j, hj, rfl⟩ := hg
          obtain ⟨j1, rfl, j3⟩ := ai_ix_in hj
          exact va_tb hx hb hY.2.2.2.2.2.2.2.2 hS j1 rfl hd hkk
      · cases hg
    · cases h
  · cases h
theorem ai_bast_ok {y pc pc2 : Nat} {ls st ls2 st2 : List Value} {ws ws2 : ai_W} (hF : ai_F p R s m args meth c b N n0 cI cB cY dC dI A y) (hd : decode (ai_code y) pc = .ok (.bastore, 1)) (h : ai_in y pc ls st ws .bastore 1 = some (.inr (.inl (pc2, ls2, st2, ws2)))) (kk : ai_X p l e R s m args below meth c Q b n0 s0 cI cB cY dC dI A pc2 ls2 st2 ws2) : ai_X p l e R s m args below meth c Q b n0 s0 cI cB cY dC dI A pc ls st ws := by
  obtain ⟨hy, hx, hb, hml, hown, hts, hK, hr, hlk, hin, hZ, hA, hA2, hz, hR1, hR2, hY⟩ := hF
  simp only [ai_in] at h
  split at h
  · rename_i x i a st
    split at h
    · rename_i hg
      cases h
      unfold ai_bset at hg
      split at hg
      · rename_i cc q hc
        split at hg
        · rename_i h7
          subst h7
          rw [Option.map_eq_some_iff] at hg
          obtain ⟨j, hj, rfl⟩ := hg
          obtain ⟨j1, rfl, j3⟩ := ai_ix_in hj
          intro arr H locs cells slots hl hP hD hS h1 h2
          refine va_bast hx hb hK hP hD hS a 2 (ai_w_getb hc) rfl j1 hd (fun H1 locs1 g1 g2 g3 => ?_)
          have e2 : (b.1 + a, (Sum.inl (cY, q.length, .inl (upd (fun j => ai_iv (q.getD j .null)) i.toNatClampNeg (vp_nar .byte x))) : va_E)) = (b.1 + a, ai_e b cI cB cY (.inr (.inr (77, q.set i.toNatClampNeg (.int x.toInt8.toInt32))))) := by
            have e3 : upd (fun j => ai_iv (q.getD j .null)) i.toNatClampNeg (vp_nar .byte x) = fun j => ai_iv ((q.set i.toNatClampNeg (.int x.toInt8.toInt32)).getD j .null) := by
              funext k
              simp only [upd, List.getD_eq_getElem?_getD, List.getElem?_set]
              by_cases hk : k = i.toNatClampNeg
              · subst hk
                simp [j3, ai_iv, vp_nar_byte]
              · simp [hk, Ne.symm hk]
            rw [ai_e_b, e3, List.length_set]
          rw [e2, ai_w_set] at g1 g2
          exact kk arr H1 locs1 cells slots hl g1 g2 g3 (by rw [List.length_set]; exact h1) (by rw [ai_sl_set hc (by simp [ai_sz])]; exact h2)
        · cases hg
      · cases hg
    · cases h
  · cases h
theorem ai_alen_ok {y pc pc2 : Nat} {ls st ls2 st2 : List Value} {ws ws2 : ai_W} (hF : ai_F p R s m args meth c b N n0 cI cB cY dC dI A y) (hgs : ∀ v ∈ st, ai_gv N v) (hd : decode (ai_code y) pc = .ok (.arraylength, 1)) (h : ai_in y pc ls st ws .arraylength 1 = some (.inr (.inl (pc2, ls2, st2, ws2)))) (kk : ai_X p l e R s m args below meth c Q b n0 s0 cI cB cY dC dI A pc2 ls2 st2 ws2) : ai_X p l e R s m args below meth c Q b n0 s0 cI cB cY dC dI A pc ls st ws := by
  obtain ⟨hy, hx, hb, hml, hown, hts, hK, hr, hlk, hin, hZ, hA, hA2, hz, hR1, hR2, hY⟩ := hF
  simp only [ai_in] at h
  split at h
  · rename_i a st
    split at h
    · rename_i x hg
      cases h
      unfold ai_len at hg
      split at hg
      · rename_i q hc
        cases hg
        intro arr H locs cells slots hl hP hD hS h1 h2
        exact va_alen hx hb hK hP a 0 (ai_w_get hc) rfl rfl hd (kk arr H locs cells slots hl hP hD hS h1 h2)
      · rename_i cc q hc
        split at hg
        · rename_i h7
          subst h7
          cases hg
          intro arr H locs cells slots hl hP hD hS h1 h2
          exact va_alen hx hb hK hP a 2 (ai_w_getb hc) rfl rfl hd (kk arr H locs cells slots hl hP hD hS h1 h2)
        · cases hg
      · rename_i q hc
        cases hg
        intro arr H locs cells slots hl hP hD hS h1 h2
        exact va_alen hx hb hK hP a 1 (ai_w_get hc) rfl rfl hd (kk arr H locs cells slots hl hP hD hS h1 h2)
      · cases hg
    · cases h
  · rename_i k st
    split at h
    · rename_i x hg
      cases h
      unfold ai_xlen at hg
      intro arr H locs cells slots hl hP hD hS h1 h2
      have hkk := kk arr H locs cells slots hl hP hD hS h1 h2
      split at hg
      · rename_i h24
        cases hg
        have hkN : k = 24 + N := by
          rcases hgs (.retAddr k) List.mem_cons_self k rfl with q | q
          · omega
          · exact q
        subst hkN
        rw [Nat.add_sub_cancel_left] at hkk
        rw [List.map_cons, ai_cv_x (show ¬ 24 + N = 23 by omega), show ai_xa b (24 + N) = b.2.1 0 by unfold ai_xa; rw [if_pos (by omega)]]
        exact va_slen hx hb hY.1.1 hY.1.2.1 hY.1.2.2 hS hd hkk
      · split at hg
        · rename_i hq
          rw [Option.map_eq_some_iff] at hg
          obtain ⟨l0, hl0, rfl⟩ := hg
          have hE := hY.2.2.1.1 (k - 11) (by omega)
          rw [List.map_cons, ai_cv_x (show ¬ k = 23 by omega), show ai_xa b k = b.2.1 (k - 11 + 11) by unfold ai_xa; rw [if_neg (by omega), show k - 11 + 11 = k by omega]]
          refine va_tlen hx hb hE.2.2.2 hS ?_ hd hkk
          unfold ai_xb at hl0
          rw [if_pos hq, Option.map_eq_some_iff] at hl0
          obtain ⟨q0, hq0, rfl⟩ := hl0
          unfold ai_tlen
          rw [List.getD_eq_getElem?_getD, List.getElem?_map, hq0]
          rfl
        · cases hg
    · cases h
  · cases h
theorem ai_aald_ok {y pc pc2 : Nat} {ls st ls2 st2 : List Value} {ws ws2 : ai_W} (hF : ai_F p R s m args meth c b N n0 cI cB cY dC dI A y) (hd : decode (ai_code y) pc = .ok (.aaload, 1)) (h : ai_in y pc ls st ws .aaload 1 = some (.inr (.inl (pc2, ls2, st2, ws2)))) (kk : ai_X p l e R s m args below meth c Q b n0 s0 cI cB cY dC dI A pc2 ls2 st2 ws2) : ai_X p l e R s m args below meth c Q b n0 s0 cI cB cY dC dI A pc ls st ws := by
  obtain ⟨hy, hx, hb, hml, hown, hts, hK, hr, hlk, hin, hZ, hA, hA2, hz, hR1, hR2, hY⟩ := hF
  simp only [ai_in] at h
  split at h
  · rename_i i a st
    split at h
    · rename_i x hg
      cases h
      unfold ai_qget at hg
      split at hg
      · rename_i q hc
        rw [Option.map_eq_some_iff] at hg
        obtain ⟨j, hj, rfl⟩ := hg
        obtain ⟨j1, rfl, j3⟩ := ai_ix_in hj
        intro arr H locs cells slots hl hP hD hS h1 h2
        refine va_aldq hx hb hK hP a 1 (ai_w_get hc) rfl j1 hd ?_
        have e2 : va_rf ((q.getD i.toNatClampNeg none).map (b.1 + ·)) = ai_cv b (ai_qv (q.getD i.toNatClampNeg none)) := by
          cases q.getD i.toNatClampNeg none <;> rfl
        have := kk arr H locs cells slots hl hP hD hS h1 h2
        rw [List.map_cons, ← e2] at this
        exact this
      · cases hg
    · cases h
  · cases h
theorem ai_aast_ok {y pc pc2 : Nat} {ls st ls2 st2 : List Value} {ws ws2 : ai_W} (hF : ai_F p R s m args meth c b N n0 cI cB cY dC dI A y) (hd : decode (ai_code y) pc = .ok (.aastore, 1)) (h : ai_in y pc ls st ws .aastore 1 = some (.inr (.inl (pc2, ls2, st2, ws2)))) (kk : ai_X p l e R s m args below meth c Q b n0 s0 cI cB cY dC dI A pc2 ls2 st2 ws2) : ai_X p l e R s m args below meth c Q b n0 s0 cI cB cY dC dI A pc ls st ws := by
  obtain ⟨hy, hx, hb, hml, hown, hts, hK, hr, hlk, hin, hZ, hA, hA2, hz, hR1, hR2, hY⟩ := hF
  simp only [ai_in] at h
  split at h
  · rename_i x i a st
    split at h
    · rename_i hg
      cases h
      unfold ai_qset at hg
      split at hg
      · rename_i q hc
        split at hg
        · rename_i hob
          rw [Option.map_eq_some_iff] at hg
          obtain ⟨j, hj, rfl⟩ := hg
          obtain ⟨j1, rfl, j3⟩ := ai_ix_in hj
          intro arr H locs cells slots hl hP hD hS h1 h2
          unfold ai_isob at hob
          split at hob
          · rename_i c2 fs hx2
            rw [decide_eq_true_eq] at hob
            subst hob
            refine va_astq (r := (RX0, TX0, 10)) hx hb hK hP hD hS a 1 x 0 (ai_w_get hc) rfl (ai_w_geto hx2 (by decide)) rfl j1 hd (fun H1 locs1 g1 g2 g3 => ?_)
            have e2 : (b.1 + a, (Sum.inl (cB, q.length, .inr (.inr (.inr (.inr (va_up (fun j => (q.getD j none).map (b.1 + ·)) i.toNatClampNeg (some (b.1 + x))))))) : va_E)) = (b.1 + a, ai_e b cI cB cY (.inr (.inl (q.set i.toNatClampNeg (some x))))) := by
              have e3 : va_up (fun j => (q.getD j none).map (b.1 + ·)) i.toNatClampNeg (some (b.1 + x)) = fun j => ((q.set i.toNatClampNeg (some x)).getD j none).map (b.1 + ·) := by
                funext k
                simp only [va_up, List.getD_eq_getElem?_getD, List.getElem?_set]
                by_cases hk : k = i.toNatClampNeg
                · subst hk
                  simp [j3]
                · simp [hk, Ne.symm hk]
              simp only [ai_e, e3, List.length_set]
            rw [e2, ai_w_set] at g1 g2
            exact kk arr H1 locs1 cells slots hl g1 g2 g3 (by rw [List.length_set]; exact h1) (by rw [ai_sl_set hc (by simp [ai_sz])]; exact h2)
          · cases hob
        · cases hg
      · cases hg
    · cases h
  · cases h
/-- a new cell stands behind the others -/
theorem ai_fresh {T : State} {H1 : Heap} {locs : List Loc} {cells slots q : Nat} {ce : va_E} {ws : ai_W} (X : Stand p l e R s m args below meth c T locs (cells + 1) slots) (hT : T.heap = H1) (hP : va_P (dC, dI) vwCl (ai_w b cI cB cY ws ++ [(q, ce)]) H1) (hD : va_D A (ai_w b cI cB cY ws ++ [(q, ce)])) (hA2 : ∀ q, A q → b.1 ≤ q) (hz : s.heap.size = b.1 + n0) (h1 : ws.length = n0 + cells) : q = b.1 + ws.length := by
  have hq : (ai_w b cI cB cY ws ++ [(q, ce)])[ws.length]? = some (q, ce) := by
    rw [List.getElem?_append_right (by rw [ai_w_len]; exact Nat.le_refl _), ai_w_len, Nat.sub_self]
    rfl
  have g1 := (hP _ _ hq).lt
  have g2 : H1.size ≤ s.heap.size + (cells + 1) := by
    have := X.same.2.2.1
    rw [← hT]
    exact this
  have g3 := hA2 _ (hD.2 _ _ hq)
  dsimp only at g1 g3
  rcases Nat.lt_or_ge q (b.1 + ws.length) with g4 | g4
  · exfalso
    have hk : q - b.1 < ws.length := by omega
    have hk2 := ai_w_get (b := b) (cI := cI) (cB := cB) (cY := cY) (List.getElem?_eq_getElem hk)
    have hk3 : (ai_w b cI cB cY ws ++ [(q, ce)])[q - b.1]? = some (b.1 + (q - b.1), ai_e b cI cB cY ws[q - b.1]) := by
      rw [List.getElem?_append_left (by rw [ai_w_len]; exact hk)]
      exact hk2
    have := hD.1 _ _ _ _ hk3 hq (by dsimp only; omega)
    omega
  · omega
theorem ai_size {T : State} {H : Heap} {locs : List Loc} {cells slots : Nat} {ws : ai_W} (X : Stand p l e R s m args below meth c T locs cells slots) (hT : T.heap = H) (hP : va_P (dC, dI) vwCl (ai_w b cI cB cY ws) H) (hS : va_S A s.heap H locs) (hz : s.heap.size = b.1 + n0) (h1 : ws.length = n0 + cells) : H.size = b.1 + ws.length := by
  have g2 : H.size ≤ s.heap.size + cells := by
    have := X.same.2.2.1
    rw [← hT]
    exact this
  have g3 := hS.1
  rcases Nat.eq_zero_or_pos cells with g4 | g4
  · omega
  · have hk : ws.length - 1 < ws.length := by omega
    have hk2 := (hP _ _ (ai_w_get (b := b) (cI := cI) (cB := cB) (cY := cY) (List.getElem?_eq_getElem hk))).lt
    dsimp only at hk2
    omega
theorem ai_new_ok {y i pc pc2 : Nat} {ls st ls2 st2 : List Value} {ws ws2 : ai_W} (hF : ai_F p R s m args meth c b N n0 cI cB cY dC dI A y) (hd : decode (ai_code y) pc = .ok (.new i, 3)) (h : ai_in y pc ls st ws (.new i) 3 = some (.inr (.inl (pc2, ls2, st2, ws2)))) (hcap : ws2.length ≤ n0 + R.cells ∧ ai_sl ws2 ≤ s0 + R.slots) (kk : ai_X p l e R s m args below meth c Q b n0 s0 cI cB cY dC dI A pc2 ls2 st2 ws2) : ai_X p l e R s m args below meth c Q b n0 s0 cI cB cY dC dI A pc ls st ws := by
  obtain ⟨hy, hx, hb, hml, hown, hts, hK, hr, hlk, hin, hZ, hA, hA2, hz, hR1, hR2, hY⟩ := hF
  simp only [ai_in] at h
  split at h
  · rename_i ci w1 w2 w3 hv
    cases h
    obtain ⟨r, r1, r2, r3, r4⟩ := ai_n_of hy hv
    have c1 := ai_c_of r1
    have hcl := ai_cl_at r1
    have hbl : ai_blank ci = .inr (.inr (ci, (List.range r.2.2).map fun k => ai_dv (parseFieldDescriptor (r.2.1 k).2.2.1))) := by
      unfold ai_blank ai_fty
      rw [hcl]
    intro arr H locs cells slots hl hP hD hS h1 h2
    have hsz : ai_sz (ai_blank ci) = r.2.2 := by rw [hbl]; simp [ai_sz]
    have hc1 : cells + 1 ≤ R.cells := by
      have := hcap.1
      rw [List.length_append] at this
      simp only [List.length_cons, List.length_nil] at this
      omega
    have hc2 : slots + r.2.2 ≤ R.slots := by
      have := hcap.2
      rw [ai_sl_push, hsz] at this
      omega
    refine va_new (C := r.1) (T := r.2.1) (N := r.2.2) (ci := ci) (fs := ((List.range r.2.2).map fun k => ai_dv (parseFieldDescriptor (r.2.1 k).2.2.1)).map (ai_cv b)) hx hb hts c1.1 (fun k => (parseFieldDescriptor (r.2.1 k).2.2.1).getD .int) c1.2.1 hown (hts _ r2) (hts _ r3) (hts _ r4) hK hP hD hS hA r1 ?_ hc1 hc2 hd (fun q H1 g1 g2 g3 => ?_)
    · intro j hj
      have hty := c1.2.1 j hj
      generalize (parseFieldDescriptor (r.2.1 j).2.2.1).getD .int = ty at hty
      simp only [vp_V, List.getD_eq_getElem?_getD, List.getElem?_map, List.getElem?_range hj, Option.map_some, Option.getD_some, hty]
      exact ai_dv_ok r1 j hj hty
    · intro T hT XX
      have hq := ai_fresh XX hT g1 g2 hA2 hz h1
      subst hq
      rw [show (Sum.inr (ci, ((List.range r.2.2).map fun k => ai_dv (parseFieldDescriptor (r.2.1 k).2.2.1)).map (ai_cv b)) : va_E) = ai_e b cI cB cY (ai_blank ci) by rw [hbl, ai_e_o (ai_ne77 r1)], ai_w_push] at g1 g2
      exact kk arr H1 locs (cells + 1) (slots + r.2.2) hl g1 g2 g3 (by rw [List.length_append]; simp only [List.length_cons, List.length_nil]; omega) (by rw [ai_sl_push, hsz]; omega) T hT XX
  · cases h
end AIS
