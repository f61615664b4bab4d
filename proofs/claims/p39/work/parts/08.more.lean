/-! New arrays, native calls, and any instruction. -/
theorem ai_k_of {y i wi : Nat} {x : Int32 ⊕ UInt32} (hy : y < 203) (h : ai_lk ai_vk (ai_view y) i = some (x, wi)) : (match x with
    | .inl v => Cond.constant (ai_name y).cls i v
    | .inr v => Cond.constantFloat (ai_name y).cls i v) ∈ ai_T := by
  obtain ⟨l, h1, h2⟩ := ai_lk_mem h
  have hl : ai_view y < ai_vk.length := (List.getElem?_eq_some_iff.mp h1).1
  have h3 := List.all_eq_true.mp ai_okk_all _ (List.mem_range.mpr hl)
  rw [h1] at h3
  have h4 := List.all_eq_true.mp h3 _ h2
  unfold ai_okk at h4
  rw [ai_vw hy] at h4
  dsimp only at h4
  cases x with
  | inl v => exact ai_has_in h4
  | inr v => exact ai_has_in h4
theorem ai_l_of {y i k y2 wi : Nat} (hy : y < 203) (h : ai_lk ai_vm (ai_view y) i = some (k, y2, wi)) : (match k with
    | 0 => Cond.methodLink (ai_name y).cls i (ai_name y2) ∈ ai_T ∧ ai_kind y2 = 1 ∧ Cond.selects (ai_name y2).cls (ai_name y2) (ai_name y2) ∈ ai_T ∧ ai_cn (ai_ci y2) = (ai_name y2).cls ∧ y2 < 202
    | 1 => Cond.methodLink (ai_name y).cls i (ai_name y2) ∈ ai_T ∧ ai_kind y2 = 0 ∧ y2 < 202
    | 2 => Cond.methodLink (ai_name y).cls i (ai_name y2) ∈ ai_T ∧ ai_kind y2 = 2 ∧ y2 < 202
    | 3 => ((ai_name y).cls, i, ai_name y2) ∈ ai_nest ∧ ai_kind y2 = 0 ∧ y2 < 202
    | 4 => ((ai_name y).cls, i, ai_name y2) ∈ ai_nest ∧ ai_kind y2 = 2 ∧ y2 < 202
    | 5 => Cond.methodLink (ai_name y).cls i Lib.objectInit ∈ ai_T
    | 6 => Cond.methodLink (ai_name y).cls i arraycopyName ∈ ai_T
    | 8 => ∃ x, Cond.methodLink (ai_name y).cls i (ai_name x) ∈ ai_T ∧ Cond.sameMethod (ai_name x).cls (ai_name x).cls (ai_name x).name (ai_name x).desc ∈ ai_T ∧ Cond.selects (ai_cn (ai_ci y2)) (ai_name x) (ai_name y2) ∈ ai_T ∧ ai_kind y2 = 1 ∧ ai_kind x = 1 ∧ x < 202 ∧ y2 < 202 ∧ ai_n x = ai_n y2
    | 9 => Cond.methodLink (ai_name y).cls i (ai_name y2) ∈ ai_T ∧ Cond.sameMethod (ai_name y2).cls (ai_name y2).cls (ai_name y2).name (ai_name y2).desc ∈ ai_T ∧ Cond.superclass (ai_name y).cls (ai_name y2).cls ∈ ai_T ∧ ai_kind y2 = 1 ∧ y2 < 202
    | 10 => Cond.methodLink (ai_name y).cls i ⟨"[B", "clone", "()Ljava/lang/Object;"⟩ ∈ ai_T
    | _ => False) := by
  obtain ⟨l, h1, h2⟩ := ai_lk_mem h
  have hl : ai_view y < ai_vm.length := (List.getElem?_eq_some_iff.mp h1).1
  have h3 := List.all_eq_true.mp ai_okl_all _ (List.mem_range.mpr hl)
  rw [h1] at h3
  have h4 := List.all_eq_true.mp h3 _ h2
  unfold ai_okl at h4
  rw [ai_vw hy] at h4
  dsimp only at h4
  split at h4 <;> rename_i hq <;> (try (cases hq)) <;> (try (simp only [Bool.and_eq_true, decide_eq_true_eq] at h4))
  · exact ⟨ai_has_in h4.1.1.1.1, h4.1.1.1.2, ai_has_in h4.1.1.2, h4.1.2, h4.2⟩
  · exact ⟨ai_has_in h4.1.1, h4.1.2, h4.2⟩
  · exact ⟨ai_has_in h4.1.1, h4.1.2, h4.2⟩
  · exact ⟨h4.1.1, h4.1.2, h4.2⟩
  · exact ⟨h4.1.1, h4.1.2, h4.2⟩
  · exact ai_has_in h4
  · exact ai_has_in h4
  · split at h4
    · rename_i x wl ws we hu
      simp only [Bool.and_eq_true, decide_eq_true_eq] at h4
      obtain ⟨⟨⟨⟨⟨⟨⟨q1, q2⟩, q3⟩, q4⟩, q5⟩, q6⟩, q7⟩, q8⟩ := h4
      exact ⟨x, ai_has_in q1, ai_has_in q2, ai_has_in q3, q4, q5, q6, q7, q8⟩
    · cases h4
  · split at h4
    · simp only [Bool.and_eq_true, decide_eq_true_eq] at h4
      obtain ⟨⟨⟨⟨q1, q2⟩, q3⟩, q4⟩, q5⟩ := h4
      exact ⟨ai_has_in q1, ai_has_in q2, ai_has_in q3, q4, q5⟩
    · cases h4
  · exact ai_has_in h4
  · cases h4
theorem ai_t_of {y i k : Nat} (hy : y < 203) (h : ai_lk ai_vt (ai_view y) i = some k) : (ai_name y).cls = "StoryCoronerLaw" ∧ ∃ q, ai_tx[k]? = some q ∧ q.1 = i := by
  obtain ⟨l, h1, h2⟩ := ai_lk_mem h
  have hl : ai_view y < ai_vt.length := (List.getElem?_eq_some_iff.mp h1).1
  have h3 := List.all_eq_true.mp ai_okt_all _ (List.mem_range.mpr hl)
  rw [h1] at h3
  have h4 := List.all_eq_true.mp h3 _ h2
  unfold ai_okt at h4
  rw [ai_vw hy] at h4
  split at h4
  · rename_i own r hown hr
    cases hown
    simp only [Bool.and_eq_true, decide_eq_true_eq] at h4
    exact ⟨h4.1, r, hr, h4.2⟩
  · cases h4
theorem ai_g_of {y i k wi : Nat} (hy : y < 203) (h : ai_lk ai_vg (ai_view y) i = some (k, wi)) : ∃ r, ai_gs[k]? = some r ∧ Cond.fieldLink (ai_name y).cls i r.1 r.2.1 r.2.2 ∈ ai_T := by
  obtain ⟨l, h1, h2⟩ := ai_lk_mem h
  have hl : ai_view y < ai_vg.length := (List.getElem?_eq_some_iff.mp h1).1
  have h3 := List.all_eq_true.mp ai_okg_all _ (List.mem_range.mpr hl)
  rw [h1] at h3
  have h4 := List.all_eq_true.mp h3 _ h2
  unfold ai_okg at h4
  rw [ai_vw hy] at h4
  split at h4
  · rename_i own r hown hr
    cases hown
    exact ⟨r, hr, ai_has_in h4⟩
  · cases h4
theorem ai_cats {b : ai_B} : ∀ {st : List Value}, st.length ≤ 4 → ((st.map (ai_cv b)).map fun v => v.category).sum ≤ 2 * st.length := by
  intro st _
  induction st with
  | nil => exact Nat.le_refl _
  | cons v st ih =>
    have h1 : (ai_cv b v).category ≤ 2 := by rcases lv_cat (ai_cv b v) with q | q <;> omega
    simp only [List.map_cons, List.sum_cons, List.length_cons]
    have := ih (by simp only [List.length_cons] at *; omega)
    omega
theorem ai_fitL {fs : List Value} (h : fs.all ai_fb8 = true) (k : Nat) (hk : k < fs.length) : fits .byte (.int (ai_iv (fs.getD k .null))) = true := by
  refine ai_fit8 (List.all_eq_true.mp h _ ?_)
  rw [List.getD_eq_getElem?_getD, List.getElem?_eq_getElem hk]
  exact List.getElem_mem hk
theorem ai_map_iv (l : List Int32) (k : Nat) : ai_iv ((l.map Value.int).getD k .null) = l.getD k 0 := by
  simp only [List.getD_eq_getElem?_getD, List.getElem?_map]
  cases l[k]? <;> rfl
theorem ai_xb_of {k : Nat} {l : List Int32} (hq : 11 ≤ k ∧ k ≤ 20) (h : ai_xb k = some l) : ai_tlen.getD (k - 11) 0 = l.length ∧ (fun j => (ai_tby.getD (k - 11) []).getD j 0) = (fun j => l.getD j 0) := by
  unfold ai_xb at h
  rw [if_pos hq, Option.map_eq_some_iff] at h
  obtain ⟨q0, hq0, rfl⟩ := h
  unfold ai_tlen ai_tby
  refine ⟨?_, funext fun j => ?_⟩
  · rw [List.getD_eq_getElem?_getD, List.getElem?_map, hq0]
    rfl
  · rw [List.getD_eq_getElem?_getD (l := ai_tx.map _), List.getElem?_map, hq0]
    rfl
theorem ai_lay_e {b : ai_B} {cI cB cY : ClassId} {d sp dp n : Nat} {fs gs : List Value} (h : dp + n ≤ gs.length) : (b.1 + d, (Sum.inl (cY, gs.length, .inl (va_cpy (fun j => ai_iv (fs.getD j .null)) (fun j => ai_iv (gs.getD j .null)) sp dp n)) : va_E)) = (b.1 + d, ai_e b cI cB cY (.inr (.inr (77, ai_lay fs gs sp dp n)))) := by
  rw [ai_e_b, ai_lay_len]
  congr 5
  funext k
  unfold va_cpy ai_lay
  rw [List.getD_eq_getElem?_getD, List.getElem?_map]
  by_cases hk : k < gs.length
  · rw [List.getElem?_range hk]
    simp only [Option.map_some, Option.getD_some]
    split <;> rfl
  · rw [List.getElem?_eq_none (by rw [List.length_range]; omega), if_neg (by omega)]
    dsimp only
    rw [List.getD_eq_getElem?_getD, List.getElem?_eq_none (by omega)]
    rfl
section AIS
variable {p : Program} {l : Launch} {e : Env} {R : Room} {s : State} {m : MethodId} {args : Array Value} {below : List Frame} {meth : Method} {c : Code} {Q : State → Prop} {b : ai_B} {N n0 s0 : Nat} {cI cB cY : ClassId} {dC : Nat → ClassId} {dI : Nat → Nat → Nat} {A : Nat → Prop}
theorem ai_newa_ok {y pc pc2 : Nat} {ls st ls2 st2 : List Value} {ws ws2 : ai_W} (hF : ai_F p R s m args meth c b N n0 cI cB cY dC dI A y) (hd : decode (ai_code y) pc = .ok (.newarray .int, 2)) (h : ai_in y pc ls st ws (.newarray .int) 2 = some (.inr (.inl (pc2, ls2, st2, ws2)))) (hcap : ws2.length ≤ n0 + R.cells ∧ ai_sl ws2 ≤ s0 + R.slots) (kk : ai_X p l e R s m args below meth c Q b n0 s0 cI cB cY dC dI A pc2 ls2 st2 ws2) : ai_X p l e R s m args below meth c Q b n0 s0 cI cB cY dC dI A pc ls st ws := by
  obtain ⟨hy, hx, hb, hml, hown, hts, hK, hr, hlk, hin, hZ, hA, hA2, hz, hR1, hR2, hY⟩ := hF
  simp only [ai_in] at h
  split at h
  · rename_i n st
    split at h
    · cases h
    · rename_i hn
      cases h
      intro arr H locs cells slots hl hP hD hS h1 h2
      have hsz : ai_sz (.inl (List.replicate n.toNatClampNeg 0)) = n.toNatClampNeg := by simp [ai_sz]
      have hc1 : cells + 1 ≤ R.cells := by
        have := hcap.1
        rw [List.length_append] at this
        simp only [List.length_cons, List.length_nil] at this
        omega
      have hc2 : slots + n.toNatClampNeg ≤ R.slots := by
        have := hcap.2
        rw [ai_sl_push, hsz] at this
        omega
      refine va_newa (atype := .int) (ty := .int) (N' := n.toNatClampNeg) (a0 := (n.toNatClampNeg, .inl (fun _ => 0))) hx hb (hts _ (ai_has_in ai_wp_ok.1)) rfl hK hP hD hS hA (fun cA => rfl) (fun q => hn (Or.inl q)) rfl (by show n.toNatClampNeg * 4 ≤ _; omega) hc1 hc2 hd (fun q cA H1 gK g1 g2 g3 => ?_)
      intro T hT XX
      have hq := ai_fresh XX hT g1 g2 hA2 hz h1
      subst hq
      have hcA : cA = cI := by
        have k1 := (gK.2 3 (cA, .int) rfl).2
        have k2 := (hK.2 0 (cI, .int) rfl).2
        exact Option.some.inj (k1.symm.trans k2)
      subst hcA
      have e3 : (fun _ : Nat => (0 : Int32)) = fun j => (List.replicate n.toNatClampNeg (0 : Int32)).getD j 0 := by
        funext j
        simp only [List.getD_eq_getElem?_getD, List.getElem?_replicate]
        split <;> rfl
      have e2 : (Sum.inl (cA, n.toNatClampNeg, .inl (fun _ => 0)) : va_E) = ai_e b cA cB cY (.inl (List.replicate n.toNatClampNeg 0)) := by
        rw [e3]
        simp only [ai_e, List.length_replicate]
      rw [e2, ai_w_push] at g1 g2
      exact kk arr H1 locs (cells + 1) (slots + n.toNatClampNeg) hl g1 g2 g3 (by rw [List.length_append]; simp only [List.length_cons, List.length_nil]; omega) (by rw [ai_sl_push, hsz]; omega) T hT XX
  · cases h
theorem ai_newb_ok {y pc pc2 : Nat} {ls st ls2 st2 : List Value} {ws ws2 : ai_W} (hF : ai_F p R s m args meth c b N n0 cI cB cY dC dI A y) (hd : decode (ai_code y) pc = .ok (.newarray .byte, 2)) (h : ai_in y pc ls st ws (.newarray .byte) 2 = some (.inr (.inl (pc2, ls2, st2, ws2)))) (hcap : ws2.length ≤ n0 + R.cells ∧ ai_sl ws2 ≤ s0 + R.slots) (kk : ai_X p l e R s m args below meth c Q b n0 s0 cI cB cY dC dI A pc2 ls2 st2 ws2) : ai_X p l e R s m args below meth c Q b n0 s0 cI cB cY dC dI A pc ls st ws := by
  obtain ⟨hy, hx, hb, hml, hown, hts, hK, hr, hlk, hin, hZ, hA, hA2, hz, hR1, hR2, hY⟩ := hF
  simp only [ai_in] at h
  split at h
  · rename_i n st
    split at h
    · cases h
    · rename_i hn
      cases h
      intro arr H locs cells slots hl hP hD hS h1 h2
      have hsz : ai_sz (.inr (.inr (77, List.replicate n.toNatClampNeg (.int 0)))) = n.toNatClampNeg := by simp [ai_sz]
      have hc1 : cells + 1 ≤ R.cells := by
        have := hcap.1
        rw [List.length_append] at this
        simp only [List.length_cons, List.length_nil] at this
        omega
      have hc2 : slots + n.toNatClampNeg ≤ R.slots := by
        have := hcap.2
        rw [ai_sl_push, hsz] at this
        omega
      refine va_newa (atype := .byte) (ty := .byte) (N' := n.toNatClampNeg) (a0 := (n.toNatClampNeg, .inl (fun _ => 0))) hx hb (hts _ (ai_has_in ai_wp_ok.2.2)) rfl hK hP hD hS hA (fun cA => rfl) (fun q => hn (Or.inl q)) rfl (by show n.toNatClampNeg * 1 ≤ _; omega) hc1 hc2 hd (fun q cA H1 gK g1 g2 g3 => ?_)
      intro T hT XX
      have hq := ai_fresh XX hT g1 g2 hA2 hz h1
      subst hq
      have hcA : cA = cY := by
        have k1 := (gK.2 3 (cA, .byte) rfl).2
        have k2 := (hK.2 2 (cY, .byte) rfl).2
        exact Option.some.inj (k1.symm.trans k2)
      subst hcA
      have e3 : (fun _ : Nat => (0 : Int32)) = fun j => ai_iv ((List.replicate n.toNatClampNeg (Value.int 0)).getD j .null) := by
        funext j
        simp only [List.getD_eq_getElem?_getD, List.getElem?_replicate]
        split <;> rfl
      have e2 : (Sum.inl (cA, n.toNatClampNeg, .inl (fun _ => 0)) : va_E) = ai_e b cI cB cA (.inr (.inr (77, List.replicate n.toNatClampNeg (.int 0)))) := by
        rw [ai_e_b, e3, List.length_replicate]
      rw [e2, ai_w_push] at g1 g2
      exact kk arr H1 locs (cells + 1) (slots + n.toNatClampNeg) hl g1 g2 g3 (by rw [List.length_append]; simp only [List.length_cons, List.length_nil]; omega) (by rw [ai_sl_push, hsz]; omega) T hT XX
  · cases h
theorem ai_newq_ok {y i pc pc2 : Nat} {ls st ls2 st2 : List Value} {ws ws2 : ai_W} (hF : ai_F p R s m args meth c b N n0 cI cB cY dC dI A y) (hd : decode (ai_code y) pc = .ok (.anewarray i, 3)) (h : ai_in y pc ls st ws (.anewarray i) 3 = some (.inr (.inl (pc2, ls2, st2, ws2)))) (hcap : ws2.length ≤ n0 + R.cells ∧ ai_sl ws2 ≤ s0 + R.slots) (kk : ai_X p l e R s m args below meth c Q b n0 s0 cI cB cY dC dI A pc2 ls2 st2 ws2) : ai_X p l e R s m args below meth c Q b n0 s0 cI cB cY dC dI A pc ls st ws := by
  obtain ⟨hy, hx, hb, hml, hown, hts, hK, hr, hlk, hin, hZ, hA, hA2, hz, hR1, hR2, hY⟩ := hF
  simp only [ai_in] at h
  split at h
  · rename_i w1 w2 w3 n st hv
    split at h
    · cases h
    · rename_i hn
      cases h
      obtain ⟨r, r1, r2, -, -⟩ := ai_n_of hy hv
      cases r1
      intro arr H locs cells slots hl hP hD hS h1 h2
      have hsz : ai_sz (.inr (.inl (List.replicate n.toNatClampNeg none))) = n.toNatClampNeg := by simp [ai_sz]
      have hc1 : cells + 1 ≤ R.cells := by
        have := hcap.1
        rw [List.length_append] at this
        simp only [List.length_cons, List.length_nil] at this
        omega
      have hc2 : slots + n.toNatClampNeg ≤ R.slots := by
        have := hcap.2
        rw [ai_sl_push, hsz] at this
        omega
      refine va_newq (C := RX0) (N' := n.toNatClampNeg) hx hb hown (hts _ r2) hZ.1 hK hP hD hS hA (fun q => hn (Or.inl q)) rfl (by omega) hc1 hc2 hd (fun q cA H1 gK g1 g2 g3 => ?_)
      intro T hT XX
      have hq := ai_fresh XX hT g1 g2 hA2 hz h1
      subst hq
      have hcA : cA = cB := by
        obtain ⟨_, _, _, _, _, k1⟩ := (gK.2 3 (cA, .object RX0) rfl).2
        obtain ⟨_, _, _, _, _, k2⟩ := (hK.2 1 (cB, .object RX0) rfl).2
        exact Option.some.inj (k1.symm.trans k2)
      subst hcA
      have e3 : (fun _ : Nat => (none : Option Nat)) = fun j => ((List.replicate n.toNatClampNeg (none : Option Nat)).getD j none).map (b.1 + ·) := by
        funext j
        simp only [List.getD_eq_getElem?_getD, List.getElem?_replicate]
        split <;> rfl
      have e2 : (Sum.inl (cA, n.toNatClampNeg, .inr (.inr (.inr (.inr (fun _ => none))))) : va_E) = ai_e b cI cA cY (.inr (.inl (List.replicate n.toNatClampNeg none))) := by
        rw [e3]
        simp only [ai_e, List.length_replicate]
      rw [e2, ai_w_push] at g1 g2
      exact kk arr H1 locs (cells + 1) (slots + n.toNatClampNeg) hl g1 g2 g3 (by rw [List.length_append]; simp only [List.length_cons, List.length_nil]; omega) (by rw [ai_sl_push, hsz]; omega) T hT XX
  · cases h
theorem ai_st_ok {y i pc pc2 : Nat} {ls st ls2 st2 : List Value} {ws ws2 : ai_W} (hF : ai_F p R s m args meth c b N n0 cI cB cY dC dI A y) (hL : ls.length = ai_L y) (hd : decode (ai_code y) pc = .ok (.invokestatic i, 3)) (h : ai_in y pc ls st ws (.invokestatic i) 3 = some (.inr (.inl (pc2, ls2, st2, ws2)))) (kk : ai_X p l e R s m args below meth c Q b n0 s0 cI cB cY dC dI A pc2 ls2 st2 ws2) : ai_X p l e R s m args below meth c Q b n0 s0 cI cB cY dC dI A pc ls st ws := by
  obtain ⟨hy, hx, hb, hml, hown, hts, hK, hr, hlk, hin, hZ, hA, hA2, hz, hR1, hR2, hY⟩ := hF
  simp only [ai_in, ai_ins] at h
  split at h
  · unfold ai_call at h
    split at h <;> cases h
  · unfold ai_call at h
    split at h <;> cases h
  · rename_i hv
    have hlk := ai_l_of hy hv
    have z0 : (0 : Int32).toNatClampNeg = 0 := by decide
    have hw : nativeFrameWords "java/lang/System" "arraycopy" 5 ≤ 20 := by decide
    split at h
    · rename_i n j d i0 a st
      split at h
      · rename_i ws1 hg
        split at h
        · rename_i h4
          obtain ⟨h4, hnat⟩ := h4
          have hnat := of_decide_eq_true hnat
          cases h
          unfold ai_copy at hg
          split at hg
          · rename_i q q2 hc hc2
            split at hg
            · rename_i hcc
              obtain ⟨rfl, rfl, hn0, hn1, hn2⟩ := hcc
              cases hg
              intro arr H locs cells slots hl hP hD hS h1 h2
              have hcat := ai_cats (b := b) h4
              refine va_copyi hx hb (by rw [hml, hl.1, hL]) hown (hts _ hlk) (hts _ (ai_has_in ai_wp_ok.2.1)) (hts _ (ai_has_in ai_wo_ok.2.2.1)) (hts _ (ai_has_in ai_wo_ok.2.2.2)) hK hP hD hS a d 0 0 (ai_w_get hc) (ai_w_get hc2) rfl rfl rfl (by decide) (by decide) hn0 (by rw [z0]; omega) (by rw [z0]; omega) (fun _ _ => rfl) (by omega) (by omega) hd (fun H1 locs1 g1 g2 g3 => ?_)
              have e3 : va_cpy (fun j => q.getD j 0) (fun j => q2.getD j 0) (0 : Int32).toNatClampNeg (0 : Int32).toNatClampNeg n.toNatClampNeg = fun j => q.getD j 0 := by
                funext k
                unfold va_cpy
                rw [z0]
                split
                · simp
                · rename_i hk
                  simp only [List.getD_eq_getElem?_getD]
                  rw [List.getElem?_eq_none (by omega), List.getElem?_eq_none (by omega)]
              have e2 : (b.1 + d, (Sum.inl (cI, q2.length, .inl (va_cpy (fun j => q.getD j 0) (fun j => q2.getD j 0) (0 : Int32).toNatClampNeg (0 : Int32).toNatClampNeg n.toNatClampNeg)) : va_E)) = (b.1 + d, ai_e b cI cB cY (.inl q)) := by
                rw [e3, hn2]
                rfl
              rw [e2, ai_w_set] at g1 g2
              exact kk arr H1 locs1 cells slots hl g1 g2 g3 (by rw [List.length_set]; exact h1) (by rw [ai_sl_set hc2 (by simp [ai_sz, hn2])]; exact h2)
            · cases hg
          · cases hg
        · cases h
      · split at h
        · rename_i ws1 hg
          split at h
          · rename_i h4
            obtain ⟨h4, hnat⟩ := h4
            have hnat := of_decide_eq_true hnat
            cases h
            unfold ai_cpb at hg
            split at hg
            · rename_i c0 fs hc
              split at hg
              · rename_i h7
                obtain ⟨rfl, had⟩ := h7
                unfold ai_bcopy at hg
                split at hg
                · rename_i c2 gs hc2
                  split at hg
                  · rename_i hcc
                    obtain ⟨rfl, hi, hj, hn, hs1, hs2, hal⟩ := hcc
                    cases hg
                    intro arr H locs cells slots hl hP hD hS h1 h2
                    have hcat := ai_cats (b := b) h4
                    refine va_copyi hx hb (by rw [hml, hl.1, hL]) hown (hts _ hlk) (hts _ (ai_has_in ai_wp_ok.2.1)) (hts _ (ai_has_in ai_wo_ok.2.2.1)) (hts _ (ai_has_in ai_wo_ok.2.2.2)) hK hP hD hS a d 2 2 (ai_w_getb hc) (ai_w_getb hc2) rfl rfl rfl hi hj hn hs1 hs2 (fun k hk => ?_) (by omega) (by omega) hd (fun H1 locs1 g1 g2 g3 => ?_)
                    · exact ai_fitL hal _ (by omega)
                    · rw [ai_lay_e (b := b) (cI := cI) (cB := cB) hs2, ai_w_set] at g1 g2
                      exact kk arr H1 locs1 cells slots hl g1 g2 g3 (by rw [List.length_set]; exact h1) (by rw [ai_sl_set hc2 (by simp [ai_sz, ai_lay_len])]; exact h2)
                  · cases hg
                · cases hg
              · cases hg
            · cases hg
          · cases h
        · cases h
    · rename_i n j d i0 k st
      split at h
      · rename_i ws1 hg
        split at h
        · rename_i h4
          obtain ⟨h4, hnat⟩ := h4
          have hnat := of_decide_eq_true hnat
          cases h
          unfold ai_cpx at hg
          split at hg
          · rename_i hq
            split at hg
            · rename_i l0 hl0
              unfold ai_bcopy at hg
              split at hg
              · rename_i c2 gs hc2
                split at hg
                · rename_i hcc
                  obtain ⟨rfl, hi, hj, hn, hs1, hs2, hal⟩ := hcc
                  cases hg
                  intro arr H locs cells slots hl hP hD hS h1 h2
                  have hcat := ai_cats (b := b) h4
                  have hE := hY.2.2.1.1 (k - 11) (by omega)
                  obtain ⟨e5, e6⟩ := ai_xb_of hq hl0
                  rw [List.length_map] at hs1
                  simp only [List.map_cons]
                  rw [ai_cv_x (show ¬ k = 23 by omega), show ai_xa b k = b.2.1 (k - 11 + 11) by unfold ai_xa; rw [if_neg (by omega), show k - 11 + 11 = k by omega]]
                  refine vk_copyt hx hb (by rw [hml, hl.1, hL]) hown (hts _ hlk) (hts _ (ai_has_in ai_wp_ok.2.1)) (hts _ (ai_has_in ai_wo_ok.2.2.1)) (hts _ (ai_has_in ai_wo_ok.2.2.2)) hK hP hD hS hE.2.2.2 d 2 (ai_w_getb hc2) rfl hi hj hn (by rw [e5]; exact hs1) hs2 (fun q hq2 => ?_) (by omega) (by omega) hd (fun H1 locs1 g1 g2 g3 => ?_)
                  · have := ai_fitL hal (i0.toNatClampNeg + q) (by rw [List.length_map]; omega)
                    rw [congrFun e6 (i0.toNatClampNeg + q), ← ai_map_iv]
                    exact this
                  · rw [e6, show (fun q => l0.getD q 0) = (fun q => ai_iv ((l0.map Value.int).getD q .null)) from funext fun q => (ai_map_iv l0 q).symm, ai_lay_e (b := b) (cI := cI) (cB := cB) hs2, ai_w_set] at g1 g2
                    exact kk arr H1 locs1 cells slots hl g1 g2 g3 (by rw [List.length_set]; exact h1) (by rw [ai_sl_set hc2 (by simp [ai_sz, ai_lay_len])]; exact h2)
                · cases hg
              · cases hg
            · cases hg
          · cases hg
        · cases h
      · cases h
    · cases h
  · cases h
theorem ai_sp_ok {y i pc pc2 : Nat} {ls st ls2 st2 : List Value} {ws ws2 : ai_W} (hF : ai_F p R s m args meth c b N n0 cI cB cY dC dI A y) (hL : ls.length = ai_L y) (hd : decode (ai_code y) pc = .ok (.invokespecial i, 3)) (h : ai_in y pc ls st ws (.invokespecial i) 3 = some (.inr (.inl (pc2, ls2, st2, ws2)))) (kk : ai_X p l e R s m args below meth c Q b n0 s0 cI cB cY dC dI A pc2 ls2 st2 ws2) : ai_X p l e R s m args below meth c Q b n0 s0 cI cB cY dC dI A pc ls st ws := by
  obtain ⟨hy, hx, hb, hml, hown, hts, hK, hr, hlk, hin, hZ, hA, hA2, hz, hR1, hR2, hY⟩ := hF
  simp only [ai_in, ai_spc] at h
  split at h
  · unfold ai_call at h
    split at h <;> cases h
  · unfold ai_call at h
    split at h <;> cases h
  · unfold ai_call at h
    split at h <;> cases h
  · rename_i hv
    split at h
    · split at h
      · rename_i x st h4
        obtain ⟨h4, hnat⟩ := h4
        have hnat := of_decide_eq_true hnat
        have hlk := ai_l_of hy hv
        cases h
        intro arr H locs cells slots hl hP hD hS h1 h2
        have hcat := ai_cats (b := b) h4
        refine W.objInit hx hb hown (hts _ hlk) (hts _ (ai_has_in ai_wo_ok.1)) (hts _ (ai_has_in ai_wo_ok.2.1)) rfl (by show arr.size = _; rw [hml, hl.1, hL]) rfl hd (by omega) (by show 2 * 0 + _ + 12 ≤ _; omega) ?_
        exact kk arr H locs cells slots hl hP hD hS h1 h2
      · cases h
    · cases h
  · cases h
end AIS
