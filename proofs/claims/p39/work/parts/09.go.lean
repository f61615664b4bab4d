/-! Any instruction that is no call and no end. -/
theorem ai_nmB {cI cB cY : ClassId} {dC : Nat → ClassId} {dI : Nat → Nat → Nat} {s : State} (hK : va_K (dC, dI) vwCl (ai_tys cI cB cY) s) : s.vm.findClass "[B" = some cY := (hK.2 2 (cY, .byte) rfl).2
section AIS
variable {p : Program} {l : Launch} {e : Env} {R : Room} {s : State} {m : MethodId} {args : Array Value} {below : List Frame} {meth : Method} {c : Code} {Q : State → Prop} {b : ai_B} {N n0 s0 : Nat} {cI cB cY : ClassId} {dC : Nat → ClassId} {dI : Nat → Nat → Nat} {A : Nat → Prop}
theorem ai_ldcwF {cc : ByteArray} {pc : Nat} {arr : Array Slot} {rest : List Value} {H : Heap} {locs : List Loc} {cells slots : Nat} (hexec : p.tables.exec = Jvm.exec) (hb : c.code = cc) {own : String} {index : Nat} {v : UInt32} (hown : s.vm.findClass own = some m.cls) (hconst : (Jvm.Cond.constantFloat own index v).before args s = true) (hdg : decode cc pc = .ok (.ldc_w index, 3)) (k : W p l e R s m args below meth c H locs cells slots Q (F0 m (pc + 3) arr (.float v :: rest))) : W p l e R s m args below meth c H locs cells slots Q (F0 m pc arr rest) := by
  intro T hT X
  obtain ⟨t, a, b⟩ := k T hT X
  refine ⟨t, ?_, b⟩
  obtain ⟨k, cf, hk, hcf, hcp⟩ := Cond.constantFloat_spec hown hconst
  obtain ⟨k', hk', he⟩ := X.warmed.alike.2.2 _ _ hk
  jvm_step X.here [hexec, hb, hdg, ldc_w.wp_float (s := T) (f := F0 m pc arr rest) X.here.top hk' (by rw [he]; exact hcf) hcp]
  exact a
theorem ai_go_ok {y pc n pc2 : Nat} {i : Instr} {ls st ls2 st2 : List Value} {ws ws2 : ai_W} (hF : ai_F p R s m args meth c b N n0 cI cB cY dC dI A y) (hL : ls.length = ai_L y) (hgs : ∀ v ∈ st, ai_gv N v) (hd : decode (ai_code y) pc = .ok (i, n)) (h : ai_in y pc ls st ws i n = some (.inr (.inl (pc2, ls2, st2, ws2)))) (hcap : ws2.length ≤ n0 + R.cells ∧ ai_sl ws2 ≤ s0 + R.slots) (kk : ai_X p l e R s m args below meth c Q b n0 s0 cI cB cY dC dI A pc2 ls2 st2 ws2) : ai_X p l e R s m args below meth c Q b n0 s0 cI cB cY dC dI A pc ls st ws := by
  have hF0 := hF
  have h0 := h
  obtain ⟨hy, hx, hb, hml, hown, hts, hK, hr, hlk, hin, hZ, hA, hA2, hz, hR1, hR2, hY⟩ := hF
  unfold ai_in at h
  split at h
  · exact ai_lda_ok (fun q w => lv_aload_n hx hb hd rfl q w) h kk
  · exact ai_lda_ok (fun q w => lv_aload hx hb hd q w) h kk
  · exact ai_ldi_ok (fun q w => lv_iload_n hx hb hd rfl q w) h kk
  · exact ai_ldi_ok (fun q w => lv_iload hx hb hd q w) h kk
  · exact ai_ldf_ok (fun q w => lv_fload_n hx hb hd rfl q w) h kk
  · exact ai_sti_ok (fun q k w => lv_istore_n hx hb hd rfl q k rfl w) h kk
  · exact ai_sti_ok (fun q k w => lv_istore hx hb hd q k rfl w) h kk
  · exact ai_stf_ok (fun q k w => lv_fstore_n hx hb hd rfl q k rfl w) h kk
  · exact ai_sta_ok (fun q k w => lv_astore_n hx hb hd rfl q k rfl w) h kk
  · exact ai_sta_ok (fun q k w => lv_astore hx hb hd q k rfl w) h kk
  · split at h
    · rename_i x hxx
      unfold ai_go at h
      cases h
      intro arr H locs cells slots hl hP hD hS h1 h2
      obtain ⟨hk, -⟩ := List.getElem?_eq_some_iff.mp hxx
      obtain ⟨j, hj⟩ := List.getElem?_of_mem (ai_ps_mem (b := b).mpr ⟨_, hxx, rfl, rfl⟩)
      exact lv_iinc hx hb hd (ai_l_has hl) hj rfl hk rfl (fun arr2 h3 => kk arr2 H locs cells slots (ai_l_store (v := .int _) hk rfl h3) hP hD hS h1 h2)
    · cases h
  · unfold ai_go at h
    cases h
    intro arr H locs cells slots hl hP hD hS h1 h2
    exact lv_iconst hx hb hd rfl (kk arr H locs cells slots hl hP hD hS h1 h2)
  · unfold ai_go at h
    cases h
    intro arr H locs cells slots hl hP hD hS h1 h2
    exact lv_bipush hx hb hd rfl (kk arr H locs cells slots hl hP hD hS h1 h2)
  · unfold ai_go at h
    cases h
    intro arr H locs cells slots hl hP hD hS h1 h2
    exact lv_sipush hx hb hd rfl (kk arr H locs cells slots hl hP hD hS h1 h2)
  · rename_i f
    unfold ai_go at h
    cases h
    intro arr H locs cells slots hl hP hD hS h1 h2
    have := kk arr H locs cells slots hl hP hD hS h1 h2
    match f, hd, this with
    | 0, hd, this => exact lv_fconst0 hx hb hd this
    | 1, hd, this => exact lv_fconst1 hx hb hd this
    | 2, hd, this => exact lv_fconst2 hx hb hd this
  · split at h
    · rename_i k hk
      split at h
      · rename_i hk10
        unfold ai_go at h
        cases h
        obtain ⟨e1, q, hq, rfl⟩ := ai_t_of hy hk
        intro arr H locs cells slots hl hP hD hS h1 h2
        have hkk := kk arr H locs cells slots hl hP hD hS h1 h2
        rw [List.map_cons, ai_cv_x (show ¬ k + 1 = 23 by omega), show ai_xa b (k + 1) = b.2.1 (k + 1) by unfold ai_xa; rw [if_neg (by omega)]] at hkk
        rw [e1] at hown
        exact va_ldcS hx hb hown (hY.2.1 k q hq) hd hkk
      · cases h
    unfold ai_wide at h
    split at h
    · rename_i v w hv
      unfold ai_go at h
      cases h
      intro arr H locs cells slots hl hP hD hS h1 h2
      exact lv_ldc hx hb hown (hts _ (ai_k_of hy hv)) hd (kk arr H locs cells slots hl hP hD hS h1 h2)
    · rw [if_neg (by decide)] at h
      cases h
    · cases h
  · unfold ai_wide at h
    split at h
    · rename_i v w hv
      unfold ai_go at h
      cases h
      intro arr H locs cells slots hl hP hD hS h1 h2
      exact lv_ldcw hx hb hown (hts _ (ai_k_of hy hv)) hd (kk arr H locs cells slots hl hP hD hS h1 h2)
    · rename_i v w hv
      rw [if_pos rfl] at h
      unfold ai_go at h
      cases h
      intro arr H locs cells slots hl hP hD hS h1 h2
      exact ai_ldcwF hx hb hown (hts _ (ai_k_of hy hv)) hd (kk arr H locs cells slots hl hP hD hS h1 h2)
    · cases h
  · exact ai_bin_ok (fun q w => by cases q; exact lv_iadd hx hb hd w) h kk
  · exact ai_bin_ok (fun q w => by cases q; exact lv_isub hx hb hd w) h kk
  · exact ai_bin_ok (fun q w => by cases q; exact lv_imul hx hb hd w) h kk
  · exact ai_bin_ok (fun q w => by cases q; exact lv_iand hx hb hd w) h kk
  · exact ai_bin_ok (fun q w => by cases q; exact lv_ior hx hb hd w) h kk
  · exact ai_bin_ok (fun q w => by cases q; exact lv_ixor hx hb hd w) h kk
  · exact ai_bin_ok (fun q w => by cases q; exact lv_ishl hx hb hd w) h kk
  · exact ai_bin_ok (fun q w => by cases q; exact lv_ishr hx hb hd w) h kk
  · exact ai_bin_ok (fun q w => by cases q; exact lv_iushr hx hb hd rfl w) h kk
  · exact ai_bin_ok (fun {_ _ _ _ _ _ x y z} q w => by
      split at q
      · cases q
      · rename_i h9; cases q; exact lv_idiv hx hb hd h9 w) h kk
  · exact ai_bin_ok (fun {_ _ _ _ _ _ x y z} q w => by
      split at q
      · cases q
      · rename_i h9; cases q; exact lv_irem hx hb hd h9 w) h kk
  · split at h
    · unfold ai_go at h
      cases h
      intro arr H locs cells slots hl hP hD hS h1 h2
      exact lv_ineg hx hb hd (kk arr H locs cells slots hl hP hD hS h1 h2)
    · cases h
  · split at h
    · unfold ai_go at h
      cases h
      intro arr H locs cells slots hl hP hD hS h1 h2
      exact lv_i2f hx hb hd (kk arr H locs cells slots hl hP hD hS h1 h2)
    · cases h
  · split at h
    · unfold ai_go at h
      cases h
      intro arr H locs cells slots hl hP hD hS h1 h2
      exact lv_f2i hx hb hd (kk arr H locs cells slots hl hP hD hS h1 h2)
    · cases h
  · exact ai_fb_ok (fun q w => lv_fmul hx hb hd q w) h kk
  · exact ai_fb_ok (fun q w => lv_fdiv hx hb hd q w) h kk
  · exact ai_fb_ok (fun q w => lv_fsub hx hb hd q w) h kk
  · split at h
    · unfold ai_go at h
      cases h
      intro arr H locs cells slots hl hP hD hS h1 h2
      exact lv_dup hx hb hd rfl (kk arr H locs cells slots hl hP hD hS h1 h2)
    · cases h
  · split at h
    · unfold ai_go at h
      cases h
      intro arr H locs cells slots hl hP hD hS h1 h2
      exact lv_dup2_11 hx hb hd rfl rfl (kk arr H locs cells slots hl hP hD hS h1 h2)
    · cases h
  · split at h
    · unfold ai_go at h
      cases h
      intro arr H locs cells slots hl hP hD hS h1 h2
      exact lv_pop hx hb hd rfl (kk arr H locs cells slots hl hP hD hS h1 h2)
    · unfold ai_go at h
      cases h
      intro arr H locs cells slots hl hP hD hS h1 h2
      exact lv_pop hx hb hd rfl (kk arr H locs cells slots hl hP hD hS h1 h2)
    · cases h
  · split at h
    · unfold ai_go at h
      cases h
      intro arr H locs cells slots hl hP hD hS h1 h2
      exact lv_i2c hx hb hd rfl (kk arr H locs cells slots hl hP hD hS h1 h2)
    · cases h
  · unfold ai_go at h
    cases h
    intro arr H locs cells slots hl hP hD hS h1 h2
    exact lv_null hx hb hd (kk arr H locs cells slots hl hP hD hS h1 h2)
  · split at h
    · exact ai_jmp_ok (t := true) (pre := [.ref _]) (fun q w => lv_ifnonnull hx hb hd q w) h kk
    · rename_i k st
      split at h
      · cases h
      · rename_i h23
        exact ai_jmp_ok (t := true) (pre := [.retAddr k]) (fun q w => by
          simp only [List.map_cons, List.map_nil, ai_cv_x h23]
          exact lv_ifnonnull hx hb hd q w) h kk
    · cases h
  · split at h
    · rename_i w hv
      unfold ai_go at h
      cases h
      obtain ⟨r, hr1, hr2⟩ := ai_g_of hy hv
      cases hr1
      intro arr H locs cells slots hl hP hD hS h1 h2
      exact va_gets hx hb hY.2.2.2.1 hS hown (hts _ hr2) (fun _ q => q) hd (kk arr H locs cells slots hl hP hD hS h1 h2)
    · rename_i w hv
      unfold ai_go at h
      cases h
      obtain ⟨r, hr1, hr2⟩ := ai_g_of hy hv
      cases hr1
      intro arr H locs cells slots hl hP hD hS h1 h2
      have hkk := kk arr H locs cells slots hl hP hD hS h1 h2
      exact va_gets hx hb hY.2.2.2.2.1 hS hown (hts _ hr2) (fun _ q => q) hd hkk
    · rename_i w hv
      unfold ai_go at h
      cases h
      obtain ⟨r, hr1, hr2⟩ := ai_g_of hy hv
      cases hr1
      intro arr H locs cells slots hl hP hD hS h1 h2
      have hkk := kk arr H locs cells slots hl hP hD hS h1 h2
      exact va_gets hx hb hY.2.2.2.2.2.1 hS hown (hts _ hr2) (fun _ q => q) hd hkk
    · rename_i w hv
      unfold ai_go at h
      cases h
      obtain ⟨r, hr1, hr2⟩ := ai_g_of hy hv
      cases hr1
      intro arr H locs cells slots hl hP hD hS h1 h2
      have hkk := kk arr H locs cells slots hl hP hD hS h1 h2
      exact va_gets hx hb hY.2.2.2.2.2.2.1 hS hown (hts _ hr2) (fun _ q => q) hd hkk
    · cases h
  · split at h
    · rename_i a st
      split at h
      · rename_i c0 fs hc
        split at h
        · rename_i hcc
          obtain ⟨rfl, hvc, rfl⟩ := hcc
          unfold ai_go at h
          cases h
          have e1 : (ai_name y).cls = "java/util/Arrays" := by
            have := ai_vw hy
            rw [hvc] at this
            exact (Option.some.inj this).symm
          rw [e1] at hown
          intro arr H locs cells slots hl hP hD hS h1 h2
          exact va_castA hx hb hown (hts _ (ai_has_in ai_wc_ok.2.2.2.2.1)) hP a (ai_w_getb hc) (ai_nmB hK) hd (kk arr H locs cells slots hl hP hD hS h1 h2)
        · cases h
      · cases h
    · cases h
  · exact ai_bald_ok hF0 hd h0 kk
  · exact ai_bast_ok hF0 hd h0 kk
  · exact ai_jmp_ok (t := true) (pre := []) (fun q w => lv_goto hx hb hd q w) h kk
  · split at h
    · exact ai_jmp_ok (pre := [.int _, .int _]) (fun q w => ai_cmp_row hx hb hd q w) h kk
    · cases h
  · split at h
    · exact ai_jmp_ok (pre := [.int _]) (fun q w => ai_if_row hx hb hd q w) h kk
    · cases h
  · split at h
    · exact ai_jmp_ok (t := false) (pre := [.ref _]) (fun q w => lv_ifnull hx hb hd w) h kk
    · exact ai_jmp_ok (t := true) (pre := [.null]) (fun q w => lv_ifnullN hx hb hd q w) h kk
    · cases h
  · split at h
    · split at h
      · rename_i t ht
        unfold ai_go at h
        cases h
        intro arr H locs cells slots hl hP hD hS h1 h2
        have := kk arr H locs cells slots hl hP hD hS h1 h2
        unfold ai_sw at ht
        split at ht
        · rename_i hq
          exact lv_tableOut hx hb hd hq (ai_tgt_of ht) this
        · rename_i hq
          split at ht
          · rename_i o ho
            exact lv_tableIn hx hb hd (fun z => hq (Or.inl z)) (fun z => hq (Or.inr z)) ho (ai_tgt_of ht) this
          · cases ht
      · cases h
    · cases h
  · exact ai_get_ok hF0 hd h0 kk
  · exact ai_put_ok hF0 hd h0 kk
  · exact ai_iald_ok hF0 hgs hd h0 kk
  · exact ai_iast_ok hF0 hd h0 kk
  · exact ai_alen_ok hF0 hgs hd h0 kk
  · exact ai_aald_ok hF0 hd h0 kk
  · exact ai_aast_ok hF0 hd h0 kk
  · exact ai_new_ok hF0 hd h0 hcap kk
  · exact ai_newa_ok hF0 hd h0 hcap kk
  · exact ai_newb_ok hF0 hd h0 hcap kk
  · exact ai_newq_ok hF0 hd h0 hcap kk
  · unfold ai_inv ai_call at h
    split at h
    · split at h <;> cases h
    · split at h <;> cases h
    · rename_i y2 wi hv
      have hlk := ai_l_of hy hv
      split at h
      · rename_i a st
        split at h
        · rename_i c0 fs hc
          split at h
          · rename_i hcc
            obtain ⟨rfl, hal, h4, hnat⟩ := hcc
            have hnat := of_decide_eq_true hnat
            unfold ai_go at h
            cases h
            intro arr H locs cells slots hl hP hD hS h1 h2
            have hcat := ai_cats (b := b) h4
            have hsz : ai_sz (.inr (.inr (77, fs))) = fs.length := rfl
            have hc1 : cells + 1 ≤ R.cells := by
              have := hcap.1
              rw [List.length_append] at this
              simp only [List.length_cons, List.length_nil] at this
              omega
            have hc2 : slots + fs.length ≤ R.slots := by
              have := hcap.2
              rw [ai_sl_push, hsz] at this
              omega
            refine va_clone hx hb (by rw [hml, hl.1, hL]) hown (hts _ hlk) (hts _ (ai_has_in ai_wc_ok.1)) (hts _ (ai_has_in ai_wc_ok.2.1)) (hts _ (ai_has_in ai_wc_ok.2.2.1)) (hts _ (ai_has_in ai_wc_ok.2.2.2.1)) hZ.2.2 hK hP hD hS hA a 2 (ai_w_getb hc) rfl (ai_nmB hK) ?_ (by omega) (by omega) hc1 hc2 hd (fun q H1 gK g1 g2 g3 => ?_)
            · refine va_fit (fun i hi => ?_)
              exact ai_fitL hal i hi
            · intro T hT XX
              have hq := ai_fresh XX hT g1 g2 hA2 hz h1
              subst hq
              rw [← ai_e_b (b := b) (cI := cI) (cB := cB) (cY := cY) (fs := fs), ai_w_push] at g1 g2
              exact kk arr H1 locs (cells + 1) (slots + fs.length) hl g1 g2 g3 (by rw [List.length_append]; simp only [List.length_cons, List.length_nil]; omega) (by rw [ai_sl_push, hsz]; omega) T hT XX
          · cases h
        · cases h
      · cases h
    · cases h
  · exact ai_st_ok hF0 hL hd h0 kk
  · exact ai_sp_ok hF0 hL hd h0 kk
  · split at h
    · unfold ai_go at h
      cases h
      intro arr H locs cells slots hl hP hD hS h1 h2
      exact lv_fcmp hx hb hd (kk arr H locs cells slots hl hP hD hS h1 h2)
    · cases h
  · split at h
    · split at h <;> cases h
    · cases h
  · split at h
    · split at h <;> cases h
    · cases h
  · split at h
    · split at h <;> cases h
    · cases h
  · cases h
end AIS
/-! the values stay those that the machine may have -/
theorem ai_gl_set {N k : Nat} {ls : List Value} {x : Value} (h : ∀ v ∈ ls, ai_gv N v) (hx : ai_gv N x) : ∀ v ∈ ls.set k x, ai_gv N v := fun v hv => by
  rcases List.mem_or_eq_of_mem_set hv with q | rfl
  · exact h v q
  · exact hx
theorem ai_gl_cons {N : Nat} {l : List Value} {x : Value} (hx : ai_gv N x) (h : ∀ v ∈ l, ai_gv N v) : ∀ v ∈ x :: l, ai_gv N v := fun v hv => by
  rcases List.mem_cons.mp hv with rfl | q
  · exact hx
  · exact h v q
theorem ai_gl_t {N : Nat} {l : List Value} {x : Value} (h : ∀ v ∈ x :: l, ai_gv N v) : ∀ v ∈ l, ai_gv N v := fun v hv => h v (List.mem_cons_of_mem _ hv)
theorem ai_gv_fget {N a ci k : Nat} {ws : ai_W} {v : Value} (h : ai_fget ws a ci k = some v) : ai_gv N v := by
  unfold ai_fget at h
  split at h
  · split at h
    · exact fun k e => absurd e ((ai_nr_some h).2 k)
    · cases h
  · cases h
theorem ai_gv_xget {N q ci k : Nat} {v : Value} (h : ai_xget q ci k = some v) : ai_gv N v := by
  unfold ai_xget at h
  split at h
  · rename_i hq
    split at h
    · cases h
      exact ai_gv_x (by omega)
    · split at h
      · cases h
        exact ai_gv_i
      · cases h
  · cases h
theorem ai_gv_qget {N a : Nat} {i : Int32} {ws : ai_W} {v : Value} (h : ai_qget ws a i = some v) : ai_gv N v := by
  unfold ai_qget at h
  split at h
  · rw [Option.map_eq_some_iff] at h
    obtain ⟨j, -, rfl⟩ := h
    unfold ai_qv
    split
    · exact ai_gv_r
    · exact ai_gv_n
  · cases h
theorem ai_in_good {N y pc n pc2 : Nat} {i : Instr} {ls st ls2 st2 : List Value} {ws ws2 : ai_W} (h : ai_in y pc ls st ws i n = some (.inr (.inl (pc2, ls2, st2, ws2)))) (hl : ∀ v ∈ ls, ai_gv N v) (hs : ∀ v ∈ st, ai_gv N v) : (∀ v ∈ ls2, ai_gv N v) ∧ ∀ v ∈ st2, ai_gv N v := by
  unfold ai_in at h
  split at h <;> (try simp only [ai_lda, ai_ldi, ai_ldf, ai_sti, ai_stf, ai_sta, ai_bin, ai_fb, ai_jmp, ai_inv, ai_ins, ai_spc, ai_call, ai_wide, ai_go] at h) <;> (repeat' split at h) <;>
    first
    | (cases h; done)
    | (cases h; exact ⟨hl, hs⟩)
    | (cases h; exact ⟨hl, ai_gl_t hs⟩)
    | (cases h; exact ⟨hl, ai_gl_t (ai_gl_t hs)⟩)
    | (cases h; exact ⟨hl, ai_gl_t (ai_gl_t (ai_gl_t hs))⟩)
    | (cases h; exact ⟨hl, ai_gl_t (ai_gl_t (ai_gl_t (ai_gl_t (ai_gl_t hs))))⟩)
    | (cases h; exact ⟨hl, ai_gl_cons ai_gv_i hs⟩)
    | (cases h; exact ⟨hl, ai_gl_cons ai_gv_f hs⟩)
    | (cases h; exact ⟨hl, ai_gl_cons ai_gv_r hs⟩)
    | (cases h; exact ⟨hl, ai_gl_cons ai_gv_n hs⟩)
    | (cases h; exact ⟨hl, ai_gl_cons (ai_gv_x (by omega)) hs⟩)
    | (cases h; rename_i hv _; exact ⟨hl, ai_gl_cons (hl _ (List.mem_of_getElem? hv)) hs⟩)
    | (cases h; rename_i hv; exact ⟨hl, ai_gl_cons (hl _ (List.mem_of_getElem? hv)) hs⟩)
    | (cases h; exact ⟨hl, ai_gl_cons ai_gv_i (ai_gl_t hs)⟩)
    | (cases h; exact ⟨hl, ai_gl_cons ai_gv_f (ai_gl_t hs)⟩)
    | (cases h; exact ⟨hl, ai_gl_cons ai_gv_r (ai_gl_t hs)⟩)
    | (cases h; exact ⟨hl, ai_gl_cons ai_gv_i (ai_gl_t (ai_gl_t hs))⟩)
    | (cases h; exact ⟨hl, ai_gl_cons ai_gv_f (ai_gl_t (ai_gl_t hs))⟩)
    | (cases h; exact ⟨hl, ai_gl_cons ai_gv_r hs⟩)
    | (cases h; exact ⟨hl, ai_gl_cons ai_gv_i (ai_gl_cons ai_gv_r hs)⟩)
    | (cases h; exact ⟨ai_gl_set hl ai_gv_i, hs⟩)
    | (cases h; exact ⟨ai_gl_set hl ai_gv_i, ai_gl_t hs⟩)
    | (cases h; exact ⟨ai_gl_set hl ai_gv_f, ai_gl_t hs⟩)
    | (cases h; exact ⟨ai_gl_set hl ai_gv_r, ai_gl_t hs⟩)
    | (cases h; rename_i hv; exact ⟨hl, ai_gl_cons (ai_gv_fget hv) (ai_gl_t hs)⟩)
    | (cases h; rename_i hv; exact ⟨hl, ai_gl_cons (ai_gv_xget hv) (ai_gl_t hs)⟩)
    | (cases h; rename_i hv; exact ⟨hl, ai_gl_cons (ai_gv_qget hv) (ai_gl_t (ai_gl_t hs))⟩)
