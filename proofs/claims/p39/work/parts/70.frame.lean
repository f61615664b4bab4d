/-! Cells behind the others don't matter: a run that makes nothing does the same with more cells behind. -/
theorem fr_at {ws J : ai_W} {a : Nat} {c : ai_C} (h : ws[a]? = some c) : (ws ++ J)[a]? = some c := by
  rw [List.getElem?_append_left (List.getElem?_eq_some_iff.mp h).1]
  exact h
theorem fr_set {ws J : ai_W} {a : Nat} {c d : ai_C} (h : ws[a]? = some c) : (ws ++ J).set a d = ws.set a d ++ J := List.set_append_left _ _ (List.getElem?_eq_some_iff.mp h).1
theorem fr_fget {ws J : ai_W} {a ci k : Nat} {v : Value} (h : ai_fget ws a ci k = some v) : ai_fget (ws ++ J) a ci k = some v := by
  unfold ai_fget at h ⊢
  split at h
  · rename_i c fs hc
    rw [fr_at hc]
    exact h
  · cases h
theorem fr_fput {ws J w2 : ai_W} {a ci k : Nat} {v : Value} (h : ai_fput ws a ci k v = some w2) : ai_fput (ws ++ J) a ci k v = some (w2 ++ J) := by
  unfold ai_fput at h ⊢
  split at h
  · rename_i c fs hc
    rw [fr_at hc]
    dsimp only
    split at h
    · rename_i hq
      cases h
      rw [if_pos hq, fr_set hc]
    · cases h
  · cases h
theorem fr_aget {ws J : ai_W} {a : Nat} {i x : Int32} (h : ai_aget ws a i = some x) : ai_aget (ws ++ J) a i = some x := by
  unfold ai_aget at h ⊢
  split at h
  · rename_i l hc
    rw [fr_at hc]
    exact h
  · cases h
theorem fr_aset {ws J w2 : ai_W} {a : Nat} {i x : Int32} (h : ai_aset ws a i x = some w2) : ai_aset (ws ++ J) a i x = some (w2 ++ J) := by
  unfold ai_aset at h ⊢
  split at h
  · rename_i l hc
    rw [fr_at hc]
    rw [Option.map_eq_some_iff] at h
    obtain ⟨j, hj, rfl⟩ := h
    dsimp only
    rw [hj, Option.map_some, fr_set hc]
  · cases h
theorem fr_bget {ws J : ai_W} {a : Nat} {i x : Int32} (h : ai_bget ws a i = some x) : ai_bget (ws ++ J) a i = some x := by
  unfold ai_bget at h ⊢
  split at h
  · rename_i l hc
    rw [fr_at hc]
    exact h
  · cases h
theorem fr_bset {ws J w2 : ai_W} {a : Nat} {i x : Int32} (h : ai_bset ws a i x = some w2) : ai_bset (ws ++ J) a i x = some (w2 ++ J) := by
  unfold ai_bset at h ⊢
  split at h
  · rename_i c fs hc
    rw [fr_at hc]
    dsimp only
    split at h
    · rename_i h7
      rw [Option.map_eq_some_iff] at h
      obtain ⟨j, hj, rfl⟩ := h
      rw [if_pos h7, hj, Option.map_some, fr_set hc]
    · cases h
  · cases h
theorem fr_len {ws J : ai_W} {a : Nat} {x : Int32} (h : ai_len ws a = some x) : ai_len (ws ++ J) a = some x := by
  unfold ai_len at h ⊢
  split at h
  · rename_i l hc
    rw [fr_at hc]
    exact h
  · rename_i l hc
    rw [fr_at hc]
    exact h
  · rename_i l hc
    rw [fr_at hc]
    exact h
  · cases h
theorem fr_qget {ws J : ai_W} {a : Nat} {i : Int32} {v : Value} (h : ai_qget ws a i = some v) : ai_qget (ws ++ J) a i = some v := by
  unfold ai_qget at h ⊢
  split at h
  · rename_i l hc
    rw [fr_at hc]
    exact h
  · cases h
theorem fr_isob {ws J : ai_W} {a ci : Nat} (h : ai_isob ws a ci = true) : ai_isob (ws ++ J) a ci = true := by
  unfold ai_isob at h ⊢
  split at h
  · rename_i c fs hc
    rw [fr_at hc]
    exact h
  · cases h
theorem fr_qset {ws J w2 : ai_W} {a x : Nat} {i : Int32} (h : ai_qset ws a i x = some w2) : ai_qset (ws ++ J) a i x = some (w2 ++ J) := by
  unfold ai_qset at h ⊢
  split at h
  · rename_i l hc
    rw [fr_at hc]
    dsimp only
    split at h
    · rename_i ho
      rw [Option.map_eq_some_iff] at h
      obtain ⟨j, hj, rfl⟩ := h
      rw [if_pos (fr_isob ho), hj, Option.map_some, fr_set hc]
    · cases h
  · cases h
theorem fr_copy {ws J w2 : ai_W} {a d : Nat} {i j n : Int32} (h : ai_copy ws a i d j n = some w2) : ai_copy (ws ++ J) a i d j n = some (w2 ++ J) := by
  unfold ai_copy at h ⊢
  split at h
  · rename_i l l2 h1 h2
    rw [fr_at h1, fr_at h2]
    dsimp only
    split at h
    · rename_i hq
      cases h
      rw [if_pos hq, fr_set h2]
    · cases h
  · cases h
theorem fr_bcopy {fs : List Value} {ws J w2 : ai_W} {d : Nat} {i j n : Int32} (h : ai_bcopy fs ws i d j n = some w2) : ai_bcopy fs (ws ++ J) i d j n = some (w2 ++ J) := by
  unfold ai_bcopy at h ⊢
  split at h
  · rename_i c2 gs hc
    rw [fr_at hc]
    dsimp only
    split at h
    · rename_i hq
      cases h
      rw [if_pos hq, fr_set hc]
    · cases h
  · cases h
theorem fr_cpb {ws J w2 : ai_W} {a d : Nat} {i j n : Int32} (h : ai_cpb ws a i d j n = some w2) : ai_copy (ws ++ J) a i d j n = none ∧ ai_cpb (ws ++ J) a i d j n = some (w2 ++ J) := by
  unfold ai_cpb at h
  split at h
  · rename_i c fs hc
    constructor
    · unfold ai_copy
      rw [fr_at hc]
    · unfold ai_cpb
      rw [fr_at hc]
      dsimp only
      split at h
      · rename_i hq
        rw [if_pos hq]
        exact fr_bcopy h
      · cases h
  · cases h
theorem fr_cpx {k : Nat} {ws J w2 : ai_W} {d : Nat} {i j n : Int32} (h : ai_cpx k ws i d j n = some w2) : ai_cpx k (ws ++ J) i d j n = some (w2 ++ J) := by
  unfold ai_cpx at h ⊢
  split at h
  · rename_i hq
    rw [if_pos hq]
    split at h
    · exact fr_bcopy h
    · cases h
  · cases h
theorem fr_ok {y : Nat} {as : List Value} {ws J : ai_W} (h : ai_ok y as ws = true) : ai_ok y as (ws ++ J) = true := by
  unfold ai_ok at h ⊢
  simp only [Bool.and_eq_true] at h ⊢
  refine ⟨⟨⟨h.1.1.1, ?_⟩, h.1.2⟩, h.2⟩
  have h2 := h.1.1.2
  split at h2
  · rename_i hk
    rw [if_pos hk]
  · rename_i hk
    rw [if_neg hk]
    split at h2
    · rename_i v as2
      unfold ai_rcv at h2 ⊢
      split at h2
      · exact fr_isob h2
      · exact h2
      · cases h2
    · cases h2
theorem fr_go {y pc n pc2 : Nat} {i : Instr} {ls st ls2 st2 : List Value} {ws J ws2 : ai_W} (h : ai_in y pc ls st ws i n = some (.inr (.inl (pc2, ls2, st2, ws2)))) (hl : ws2.length = ws.length) : ai_in y pc ls st (ws ++ J) i n = some (.inr (.inl (pc2, ls2, st2, ws2 ++ J))) := by
  unfold ai_in at h
  split at h <;> (try simp only [ai_lda, ai_ldi, ai_ldf, ai_sti, ai_stf, ai_sta, ai_bin, ai_fb, ai_jmp, ai_inv, ai_ins, ai_spc, ai_call, ai_wide, ai_go] at h) <;> (repeat' split at h) <;>
    first
    | (cases h; done)
    | (cases h; simp only [List.length_append, List.length_cons, List.length_nil] at hl; omega)
    | (cases h; simp only [ai_in, ai_lda, ai_ldi, ai_ldf, ai_sti, ai_stf, ai_sta, ai_bin, ai_fb, ai_jmp, ai_inv, ai_ins, ai_spc, ai_call, ai_wide, ai_go, *, if_true, if_false, reduceIte]; done)
    | (cases h; rename_i hg; have := fr_fget (J := J) hg; simp only [ai_in, ai_go, *])
    | (cases h; rename_i hg; have := fr_aget (J := J) hg; simp only [ai_in, ai_go, *])
    | (cases h; rename_i hg; have := fr_bget (J := J) hg; simp only [ai_in, ai_go, *])
    | (cases h; rename_i hg; have := fr_qget (J := J) hg; simp only [ai_in, ai_go, *])
    | (cases h; rename_i hg; have := fr_len (J := J) hg; simp only [ai_in, ai_go, *])
    | (cases h; rename_i hg; have := fr_fput (J := J) hg; simp only [ai_in, ai_go, *, if_true, reduceIte]; done)
    | (cases h; rename_i hq _ hg; have := fr_fput (J := J) hg; simp only [ai_in, ai_go, *, if_true, reduceIte]; done)
    | (cases h; rename_i hg; have := fr_aset (J := J) hg; simp only [ai_in, ai_go, *])
    | (cases h; rename_i hg; have := fr_bset (J := J) hg; simp only [ai_in, ai_go, *])
    | (cases h; rename_i hg; have := fr_qset (J := J) hg; simp only [ai_in, ai_go, *])
    | (cases h; rename_i hg; have := fr_copy (J := J) hg; simp only [ai_in, ai_ins, ai_go, *, if_true, and_self]; done)
    | (cases h; rename_i hg; have := fr_cpb (J := J) hg; simp only [ai_in, ai_ins, ai_go, *, if_true, and_self]; done)
    | (cases h; rename_i hg; have := fr_cpx (J := J) hg; simp only [ai_in, ai_ins, ai_go, *, if_true, and_self]; done)
    | (cases h; rename_i hg; simp only [ai_in, ai_go, fr_at hg, *, if_true, and_self]; done)
    | (exact absurd trivial ‹¬ True›)
    | (cases h; simp [ai_in, ai_lda, ai_ldi, ai_ldf, ai_sti, ai_stf, ai_sta, ai_bin, ai_fb, ai_jmp, ai_inv, ai_ins, ai_spc, ai_call, ai_wide, ai_go, *]; done)
    | (cases h; rename_i hg hq; simp [ai_in, ai_lda, ai_ldi, ai_ldf, ai_sti, ai_stf, ai_sta, ai_bin, ai_fb, ai_jmp, ai_inv, ai_ins, ai_spc, ai_call, ai_wide, ai_go, fr_at hg, hq]; done)
    | (cases h; rename_i hl hq _ hg; simp only [ai_in, hl]; rw [if_pos hq, fr_fput hg]; rfl)
    | (cases h; rename_i hg; have := fr_copy (J := J) hg; simp [ai_in, ai_lda, ai_ldi, ai_ldf, ai_sti, ai_stf, ai_sta, ai_bin, ai_fb, ai_jmp, ai_inv, ai_ins, ai_spc, ai_call, ai_wide, ai_go, *]; done)
    | (cases h; rename_i hg hq; have := fr_copy (J := J) hg; simp [ai_in, ai_lda, ai_ldi, ai_ldf, ai_sti, ai_stf, ai_sta, ai_bin, ai_fb, ai_jmp, ai_inv, ai_ins, ai_spc, ai_call, ai_wide, ai_go, this, hq, *]; done)
    | (cases h; rename_i hg hq; have := fr_cpb (J := J) hg; simp [ai_in, ai_lda, ai_ldi, ai_ldf, ai_sti, ai_stf, ai_sta, ai_bin, ai_fb, ai_jmp, ai_inv, ai_ins, ai_spc, ai_call, ai_wide, ai_go, this, hq, *]; done)
    | (cases h; rename_i hg hq; have := fr_cpx (J := J) hg; simp [ai_in, ai_lda, ai_ldi, ai_ldf, ai_sti, ai_stf, ai_sta, ai_bin, ai_fb, ai_jmp, ai_inv, ai_ins, ai_spc, ai_call, ai_wide, ai_go, this, hq, *]; done)
theorem fr_call {y y2 pc pc2 n : Nat} {i : Instr} {ls st as rest : List Value} {ws J : ai_W} (h : ai_in y pc ls st ws i n = some (.inr (.inr (y2, as, rest, pc2)))) : ai_in y pc ls st (ws ++ J) i n = some (.inr (.inr (y2, as, rest, pc2))) := by
  unfold ai_in at h
  split at h <;> (try simp only [ai_lda, ai_ldi, ai_ldf, ai_sti, ai_stf, ai_sta, ai_bin, ai_fb, ai_jmp, ai_inv, ai_ins, ai_spc, ai_wide, ai_go] at h) <;> (repeat' split at h) <;>
    first
    | (cases h; done)
    | (simp only [ai_in, ai_inv, ai_ins, ai_spc, *])
theorem fr_end {y pc n : Nat} {i : Instr} {ls st : List Value} {ws J ws1 : ai_W} {r : Option Value} (h : ai_in y pc ls st ws i n = some (.inl (r, ws1))) : ai_in y pc ls st (ws ++ J) i n = some (.inl (r, ws1 ++ J)) := by
  obtain ⟨e, h2⟩ := ai_in_end h
  clear h
  subst e
  rcases h2 with ⟨x, rfl, rfl, rfl, rfl, hp⟩ | ⟨a, rfl, rfl, rfl, rfl, hp⟩ | ⟨rfl, rfl, rfl, rfl, hp⟩ <;> simp only [ai_in, hp, if_true]
theorem fr_run : ∀ (F y pc : Nat) (ls st : List Value) (ws J : ai_W) (r : Option Value) (ws1 : ai_W), ai_run F y pc ls st ws = some (r, ws1) → ws1.length = ws.length → ai_run F y pc ls st (ws ++ J) = some (r, ws1 ++ J) := by
  intro F
  induction F with
  | zero => intro y pc ls st ws J r ws1 h; cases h
  | succ F ih =>
    intro y pc ls st ws J r ws1 h hl
    have hgr := ai_run_grow _ _ _ _ _ _ _ h
    unfold ai_run at h ⊢
    split at h
    · cases h
    · rename_i r2 hs
      cases h
      unfold ai_step at hs ⊢
      split at hs
      · rename_i i n hd
        (try rw [hd])
        (try dsimp only)
        rw [fr_end hs]
      · cases hs
    · rename_i pc2 ls2 st2 ws2 hs
      have hg2 := ai_run_grow _ _ _ _ _ _ _ h
      unfold ai_step at hs ⊢
      split at hs
      · rename_i i n hd
        have hg1 := ai_in_grow hs
        dsimp only at hg2
        (try rw [hd])
        (try dsimp only)
        rw [fr_go hs (by omega)]
        exact ih _ _ _ _ _ _ _ _ h (by omega)
      · cases hs
    · rename_i y2 as rest pc2 hs
      split at h
      · rename_i hk
        split at h
        · cases h
        · rename_i v ws2 h2
          have hg2 := ai_run_grow _ _ _ _ _ _ _ h2
          have hg3 := ai_run_grow _ _ _ _ _ _ _ h
          dsimp only at hg2 hg3
          unfold ai_step at hs ⊢
          split at hs
          · rename_i i n hd
            (try rw [hd])
            (try dsimp only)
            rw [fr_call hs]
            dsimp only
            rw [if_pos ⟨fr_ok hk.1, hk.2⟩, ih _ _ _ _ _ J _ _ h2 (by omega)]
            exact ih _ _ _ _ _ _ _ _ h (by omega)
          · cases hs
      · cases h
theorem fr_Call {y : Nat} {as : List Value} {ws J ws1 : ai_W} {r : Option Value} (h : ai_Call y as ws = some (r, ws1)) (hl : ws1.length = ws.length) : ai_Call y as (ws ++ J) = some (r, ws1 ++ J) := by
  unfold ai_Call at h ⊢
  split at h
  · rename_i hok
    rw [if_pos (fr_ok hok)]
    obtain ⟨F, hF⟩ := ai_Run_iff.mp h
    exact ai_Run_iff.mpr ⟨F, fr_run _ _ _ _ _ _ _ _ _ hF hl⟩
  · cases h
set_option maxRecDepth 100000 in
theorem wl_len (w : xw_W) : (wl w).length = 185 := rfl
/-- what the class does, it does in front of any other cells -/
theorem fr_wl {y : Nat} {as : List Value} {w w1 : xw_W} {r : Option Value} (h : ai_Call y as (wl w) = some (r, wl w1)) (J : ai_W) : ai_Call y as (wl w ++ J) = some (r, wl w1 ++ J) := fr_Call h (by rw [wl_len, wl_len])
set_option maxRecDepth 100000 in
theorem wl_sl (w : xw_W) : ai_sl (wl w) = 2540 := by
  unfold ai_sl wl
  simp only [List.map_cons, List.map_nil, ai_sz, ai_t_len, List.length_cons, List.length_nil]
  rfl
