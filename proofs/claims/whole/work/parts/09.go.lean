/-! Any instruction that is no call and no end. -/
section AIS
variable {p : Program} {l : Launch} {e : Env} {R : Room} {s : State} {m : MethodId} {args : Array Value} {below : List Frame} {meth : Method} {c : Code} {Q : State → Prop} {b n0 s0 : Nat} {cI cB : ClassId} {dC : Nat → ClassId} {dI : Nat → Nat → Nat} {A : Nat → Prop}
theorem ai_ldcwF {cc : ByteArray} {pc : Nat} {arr : Array Slot} {rest : List Value} {H : Heap} {locs : List Loc} {cells slots : Nat} (hexec : p.tables.exec = Jvm.exec) (hb : c.code = cc) {own : String} {index : Nat} {v : UInt32} (hown : s.vm.findClass own = some m.cls) (hconst : (Jvm.Cond.constantFloat own index v).before args s = true) (hdg : decode cc pc = .ok (.ldc_w index, 3)) (k : W p l e R s m args below meth c H locs cells slots Q (F0 m (pc + 3) arr (.float v :: rest))) : W p l e R s m args below meth c H locs cells slots Q (F0 m pc arr rest) := by
  intro T hT X
  obtain ⟨t, a, b⟩ := k T hT X
  refine ⟨t, ?_, b⟩
  obtain ⟨k, cf, hk, hcf, hcp⟩ := Cond.constantFloat_spec hown hconst
  obtain ⟨k', hk', he⟩ := X.warmed.alike.2.2 _ _ hk
  jvm_step X.here [hexec, hb, hdg, ldc_w.wp_float (s := T) (f := F0 m pc arr rest) X.here.top hk' (by rw [he]; exact hcf) hcp]
  exact a
theorem ai_go_ok {y pc n pc2 : Nat} {i : Instr} {ls st ls2 st2 : List Value} {ws ws2 : ai_W} (hF : ai_F p R s m args meth c b n0 cI cB dC dI A y) (hL : ls.length = ai_L y) (hd : decode (ai_code y) pc = .ok (i, n)) (h : ai_in y pc ls st ws i n = some (.inr (.inl (pc2, ls2, st2, ws2)))) (hcap : ws2.length ≤ n0 + R.cells ∧ ai_sl ws2 ≤ s0 + R.slots) (kk : ai_X p l e R s m args below meth c Q b n0 s0 cI cB dC dI A pc2 ls2 st2 ws2) : ai_X p l e R s m args below meth c Q b n0 s0 cI cB dC dI A pc ls st ws := by
  have hF0 := hF
  have h0 := h
  obtain ⟨hy, hx, hb, hml, hown, hts, hK, hr, hlk, hin, hZ, hA, hA2, hz, hR1, hR2⟩ := hF
  unfold ai_in at h
  split at h
  · exact ai_lda_ok (fun q w => lv_aload_n hx hb hd rfl q w) h kk
  · exact ai_lda_ok (fun q w => lv_aload hx hb hd q w) h kk
  · exact ai_ldi_ok (fun q w => lv_iload_n hx hb hd rfl q w) h kk
  · exact ai_ldi_ok (fun q w => lv_iload hx hb hd q w) h kk
  · exact ai_ldf_ok (fun q w => lv_fload_n hx hb hd rfl q w) h kk
  · exact ai_sti_ok (fun q k w => lv_istore_n hx hb hd rfl q k rfl w) h kk
  · exact ai_sti_ok (fun q k w => lv_istore hx hb hd q k rfl w) h kk
  · exact ai_stf_ok (fun q k w => lv_fstore_n hx hb hd rfl q k rfl w) h kk
  · exact ai_sta_ok (fun q k w => lv_astore_n hx hb hd rfl q k rfl w) h kk
  · exact ai_sta_ok (fun q k w => lv_astore hx hb hd q k rfl w) h kk
  · split at h
    · rename_i x hxx
      unfold ai_go at h
      cases h
      intro arr H locs cells slots hl hP hD hS h1 h2
      obtain ⟨hk, -⟩ := List.getElem?_eq_some_iff.mp hxx
      obtain ⟨j, hj⟩ := List.getElem?_of_mem (ai_ps_mem (b := b).mpr ⟨_, hxx, rfl, rfl⟩)
      exact lv_iinc hx hb hd (ai_l_has hl) hj rfl hk rfl (fun arr2 h3 => kk arr2 H locs cells slots (ai_l_store (v := .int _) hk rfl h3) hP hD hS h1 h2)
    · cases h
  · unfold ai_go at h
    cases h
    intro arr H locs cells slots hl hP hD hS h1 h2
    exact lv_iconst hx hb hd rfl (kk arr H locs cells slots hl hP hD hS h1 h2)
  · unfold ai_go at h
    cases h
    intro arr H locs cells slots hl hP hD hS h1 h2
    exact lv_bipush hx hb hd rfl (kk arr H locs cells slots hl hP hD hS h1 h2)
  · unfold ai_go at h
    cases h
    intro arr H locs cells slots hl hP hD hS h1 h2
    exact lv_sipush hx hb hd rfl (kk arr H locs cells slots hl hP hD hS h1 h2)
  · rename_i f
    unfold ai_go at h
    cases h
    intro arr H locs cells slots hl hP hD hS h1 h2
    have := kk arr H locs cells slots hl hP hD hS h1 h2
    match f, hd, this with
    | 0, hd, this => exact lv_fconst0 hx hb hd this
    | 1, hd, this => exact lv_fconst1 hx hb hd this
    | 2, hd, this => exact lv_fconst2 hx hb hd this
  · unfold ai_wide at h
    split at h
    · rename_i v w hv
      unfold ai_go at h
      cases h
      intro arr H locs cells slots hl hP hD hS h1 h2
      exact lv_ldc hx hb hown (hts _ (ai_k_of hy hv)) hd (kk arr H locs cells slots hl hP hD hS h1 h2)
    · rw [if_neg (by decide)] at h
      cases h
    · cases h
  · unfold ai_wide at h
    split at h
    · rename_i v w hv
      unfold ai_go at h
      cases h
      intro arr H locs cells slots hl hP hD hS h1 h2
      exact lv_ldcw hx hb hown (hts _ (ai_k_of hy hv)) hd (kk arr H locs cells slots hl hP hD hS h1 h2)
    · rename_i v w hv
      rw [if_pos rfl] at h
      unfold ai_go at h
      cases h
      intro arr H locs cells slots hl hP hD hS h1 h2
      exact ai_ldcwF hx hb hown (hts _ (ai_k_of hy hv)) hd (kk arr H locs cells slots hl hP hD hS h1 h2)
    · cases h
  · exact ai_bin_ok (fun q w => by cases q; exact lv_iadd hx hb hd w) h kk
  · exact ai_bin_ok (fun q w => by cases q; exact lv_isub hx hb hd w) h kk
  · exact ai_bin_ok (fun q w => by cases q; exact lv_imul hx hb hd w) h kk
  · exact ai_bin_ok (fun q w => by cases q; exact lv_iand hx hb hd w) h kk
  · exact ai_bin_ok (fun q w => by cases q; exact lv_ior hx hb hd w) h kk
  · exact ai_bin_ok (fun q w => by cases q; exact lv_ixor hx hb hd w) h kk
  · exact ai_bin_ok (fun q w => by cases q; exact lv_ishl hx hb hd w) h kk
  · exact ai_bin_ok (fun q w => by cases q; exact lv_ishr hx hb hd w) h kk
  · exact ai_bin_ok (fun q w => by cases q; exact lv_iushr hx hb hd rfl w) h kk
  · exact ai_bin_ok (fun {_ _ _ _ _ _ x y z} q w => by
      split at q
      · cases q
      · rename_i h9; cases q; exact lv_idiv hx hb hd h9 w) h kk
  · exact ai_bin_ok (fun {_ _ _ _ _ _ x y z} q w => by
      split at q
      · cases q
      · rename_i h9; cases q; exact lv_irem hx hb hd h9 w) h kk
  · split at h
    · unfold ai_go at h
      cases h
      intro arr H locs cells slots hl hP hD hS h1 h2
      exact lv_ineg hx hb hd (kk arr H locs cells slots hl hP hD hS h1 h2)
    · cases h
  · split at h
    · unfold ai_go at h
      cases h
      intro arr H locs cells slots hl hP hD hS h1 h2
      exact lv_i2f hx hb hd (kk arr H locs cells slots hl hP hD hS h1 h2)
    · cases h
  · split at h
    · unfold ai_go at h
      cases h
      intro arr H locs cells slots hl hP hD hS h1 h2
      exact lv_f2i hx hb hd (kk arr H locs cells slots hl hP hD hS h1 h2)
    · cases h
  · exact ai_fb_ok (fun q w => lv_fmul hx hb hd q w) h kk
  · exact ai_fb_ok (fun q w => lv_fdiv hx hb hd q w) h kk
  · exact ai_fb_ok (fun q w => lv_fsub hx hb hd q w) h kk
  · split at h
    · unfold ai_go at h
      cases h
      intro arr H locs cells slots hl hP hD hS h1 h2
      exact lv_dup hx hb hd rfl (kk arr H locs cells slots hl hP hD hS h1 h2)
    · cases h
  · split at h
    · unfold ai_go at h
      cases h
      intro arr H locs cells slots hl hP hD hS h1 h2
      exact lv_dup2_11 hx hb hd rfl rfl (kk arr H locs cells slots hl hP hD hS h1 h2)
    · cases h
  · split at h
    · unfold ai_go at h
      cases h
      intro arr H locs cells slots hl hP hD hS h1 h2
      exact lv_pop hx hb hd rfl (kk arr H locs cells slots hl hP hD hS h1 h2)
    · cases h
  · exact ai_jmp_ok (t := true) (pre := []) (fun q w => lv_goto hx hb hd q w) h kk
  · split at h
    · exact ai_jmp_ok (pre := [.int _, .int _]) (fun q w => ai_cmp_row hx hb hd q w) h kk
    · cases h
  · split at h
    · exact ai_jmp_ok (pre := [.int _]) (fun q w => ai_if_row hx hb hd q w) h kk
    · cases h
  · split at h
    · exact ai_jmp_ok (t := false) (pre := [.ref _]) (fun q w => lv_ifnull hx hb hd w) h kk
    · exact ai_jmp_ok (t := true) (pre := [.null]) (fun q w => lv_ifnullN hx hb hd q w) h kk
    · cases h
  · split at h
    · split at h
      · rename_i t ht
        unfold ai_go at h
        cases h
        intro arr H locs cells slots hl hP hD hS h1 h2
        have := kk arr H locs cells slots hl hP hD hS h1 h2
        unfold ai_sw at ht
        split at ht
        · rename_i hq
          exact lv_tableOut hx hb hd hq (ai_tgt_of ht) this
        · rename_i hq
          split at ht
          · rename_i o ho
            exact lv_tableIn hx hb hd (fun z => hq (Or.inl z)) (fun z => hq (Or.inr z)) ho (ai_tgt_of ht) this
          · cases ht
      · cases h
    · cases h
  · exact ai_get_ok hF0 hd h0 kk
  · exact ai_put_ok hF0 hd h0 kk
  · exact ai_iald_ok hF0 hd h0 kk
  · exact ai_iast_ok hF0 hd h0 kk
  · exact ai_alen_ok hF0 hd h0 kk
  · exact ai_aald_ok hF0 hd h0 kk
  · exact ai_aast_ok hF0 hd h0 kk
  · exact ai_new_ok hF0 hd h0 hcap kk
  · exact ai_newa_ok hF0 hd h0 hcap kk
  · exact ai_newq_ok hF0 hd h0 hcap kk
  · unfold ai_inv ai_call at h
    split at h
    · split at h <;> cases h
    · cases h
  · exact ai_st_ok hF0 hL hd h0 kk
  · exact ai_sp_ok hF0 hL hd h0 kk
  · split at h
    · unfold ai_go at h
      cases h
      intro arr H locs cells slots hl hP hD hS h1 h2
      exact lv_fcmp hx hb hd (kk arr H locs cells slots hl hP hD hS h1 h2)
    · cases h
  · split at h
    · split at h <;> cases h
    · cases h
  · split at h
    · split at h <;> cases h
    · cases h
  · cases h
end AIS
