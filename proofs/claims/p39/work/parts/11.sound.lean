/-! WHAT THE PLAIN MACHINE ANSWERS, THE JVM ANSWERS: a call's answer is its contract. -/
theorem ai_run_shape : ∀ (F y pc : Nat) (ls st : List Value) (ws : ai_W) (r : ai_R), ai_run F y pc ls st ws = some r → r.1 = none ∨ (∃ x, r.1 = some (.int x)) ∨ ∃ x, r.1 = some (.ref x) := by
  intro F
  induction F with
  | zero => intro y pc ls st ws r h; cases h
  | succ F ih =>
    intro y pc ls st ws r h
    unfold ai_run at h
    split at h
    · cases h
    · rename_i r2 hs
      cases h
      unfold ai_step at hs
      split at hs
      · unfold ai_in at hs
        split at hs <;> (try simp only [ai_lda, ai_ldi, ai_ldf, ai_sti, ai_stf, ai_sta, ai_bin, ai_fb, ai_jmp, ai_inv, ai_ins, ai_spc, ai_call, ai_wide, ai_go] at hs) <;> (repeat' split at hs) <;>
          first
          | (cases hs; done)
          | (cases hs; exact Or.inl rfl)
          | (cases hs; exact Or.inr (Or.inl ⟨_, rfl⟩))
          | (cases hs; exact Or.inr (Or.inr ⟨_, rfl⟩))
      · cases hs
    · exact ih _ _ _ _ _ _ h
    · split at h
      · split at h
        · cases h
        · exact ih _ _ _ _ _ _ h
      · cases h
theorem ai_in_end {y pc n : Nat} {i : Instr} {ls st : List Value} {ws ws1 : ai_W} {r : Option Value} (h : ai_in y pc ls st ws i n = some (.inl (r, ws1))) : ws1 = ws ∧ ((∃ x, i = .ireturn ∧ n = 1 ∧ st = [.int x] ∧ r = some (.int x) ∧ ai_pok (ai_ret y) (.int x) = true) ∨ (∃ a, i = .areturn ∧ n = 1 ∧ st = [.ref a] ∧ r = some (.ref a) ∧ ai_pok (ai_ret y) (.ref a) = true) ∨ (i = .return_ ∧ n = 1 ∧ st = [] ∧ r = none ∧ ai_ret y = none)) := by
  unfold ai_in at h
  split at h <;> (try (simp only [ai_lda, ai_ldi, ai_ldf, ai_sti, ai_stf, ai_sta, ai_bin, ai_fb, ai_jmp, ai_inv, ai_ins, ai_spc, ai_call, ai_wide, ai_go] at h; (repeat' split at h) <;> (cases h; done)))
  · split at h
    · rename_i x
      split at h
      · rename_i hp
        cases h
        exact ⟨rfl, Or.inl ⟨x, rfl, rfl, rfl, rfl, hp⟩⟩
      · cases h
    · cases h
  · split at h
    · rename_i a
      split at h
      · rename_i hp
        cases h
        exact ⟨rfl, Or.inr (Or.inl ⟨a, rfl, rfl, rfl, rfl, hp⟩)⟩
      · cases h
    · cases h
  · split at h
    · split at h
      · rename_i hq
        cases h
        exact ⟨rfl, Or.inr (Or.inr ⟨rfl, rfl, rfl, rfl, hq⟩)⟩
      · cases h
    · cases h
  · cases h
section AIS
variable {p : Program} {l : Launch} {e : Env} {R : Room} {s : State} {m : MethodId} {args : Array Value} {below : List Frame} {meth : Method} {c : Code} {Q : State → Prop} {b : ai_B} {N n0 s0 : Nat} {cI cB cY : ClassId} {dC : Nat → ClassId} {dI : Nat → Nat → Nat} {A : Nat → Prop}
theorem ai_ret_ok {y pc n : Nat} {i : Instr} {ls st : List Value} {ws ws1 : ai_W} {r : Option Value} {arr : Array Slot} {H : Heap} {locs : List Loc} {cells slots : Nat} (hF : ai_F p R s m args meth c b N n0 cI cB cY dC dI A y) (hd : decode (ai_code y) pc = .ok (i, n)) (h : ai_in y pc ls st ws i n = some (.inl (r, ws1))) (hP : va_P (dC, dI) vwCl (ai_w b cI cB cY ws1) H) (hD : va_D A (ai_w b cI cB cY ws1)) (hS : va_S A s.heap H locs) : W p l e R s m args below meth c H locs cells slots (MQ below (ai_Q (dC, dI) cI cB cY b A ws1 r) args s cells slots A) (F0 m pc arr (st.map (ai_cv b))) := by
  obtain ⟨hy, hx, hb, hml, hown, hts, hK, hr, hlk, hin, hZ, hA, hA2, hz, hR1, hR2, hY⟩ := hF
  obtain ⟨rfl, hx1⟩ := ai_in_end h
  rcases hx1 with ⟨x, rfl, rfl, rfl, rfl, hp⟩ | ⟨a, rfl, rfl, rfl, rfl, hp⟩ | ⟨rfl, rfl, rfl, rfl, hq⟩
  · have hty : ∃ ty, ai_ret y = some ty := by
      cases hq : ai_ret y with
      | none => rw [hq] at hp; cases hp
      | some ty => exact ⟨ty, rfl⟩
    obtain ⟨ty, hty⟩ := hty
    rw [hty] at hp
    exact W.zret (v := x) (ty := ty) hx hb (hr.trans hty) (ai_cv_nar (b := b) (v := .int x) hp).1 (fun t ht hW => ⟨⟨x, (), rfl, rfl, by rw [ht]; exact hP, hD⟩, hS.F ht⟩) hS.2.2 hd hlk
  · have hty : ∃ ty, ai_ret y = some ty ∧ ((∃ n, ty = .object n) ∨ ∃ t, ty = .array t) := by
      cases hq : ai_ret y with
      | none => rw [hq] at hp; cases hp
      | some ty =>
        rw [hq] at hp
        cases ty <;> first
          | (cases hp; done)
          | exact ⟨_, rfl, Or.inl ⟨_, rfl⟩⟩
          | exact ⟨_, rfl, Or.inr ⟨_, rfl⟩⟩
    obtain ⟨ty, hty, hto⟩ := hty
    exact W.aret (v := .ref (b.1 + a)) (rt := ty) hx hb (hr.trans hty) hto (Or.inr ⟨_, rfl⟩) (fun t ht hW => ⟨⟨(), b.1 + a, rfl, trivial, rfl, by rw [ht]; exact hP, hD⟩, hS.F ht⟩) hS.2.2 hd hlk
  · exact W.vret hx hb (hr.trans hq) (fun t ht hW => ⟨⟨(), rfl, trivial, by rw [ht]; exact hP, hD⟩, hS.F ht⟩) hS.2.2 hd hlk
theorem ai_call_lt {y y2 q kd pc pc2 : Nat} {st as rest : List Value} (h : ai_call y q kd pc st = some (.inr (.inr (y2, as, rest, pc2)))) : y2 < y ∧ (∀ v ∈ as, v ∈ st) ∧ ∀ v ∈ rest, v ∈ st := by
  unfold ai_call at h
  split at h
  · rename_i hq
    simp only [Option.some.injEq, Sum.inr.injEq, Prod.mk.injEq] at h
    obtain ⟨e1, e2, e3, -⟩ := h
    refine ⟨by rw [← e1]; exact hq.1, fun v hv => ?_, fun v hv => ?_⟩
    · rw [← e2] at hv
      exact List.mem_of_mem_take (List.mem_reverse.mp hv)
    · rw [← e3] at hv
      exact List.mem_of_mem_drop hv
  · cases h
theorem ai_in_lt {y y2 pc pc2 n : Nat} {i : Instr} {ls st as rest : List Value} {ws : ai_W} (h : ai_in y pc ls st ws i n = some (.inr (.inr (y2, as, rest, pc2)))) : y2 < y ∧ (∀ v ∈ as, v ∈ st) ∧ ∀ v ∈ rest, v ∈ st := by
  unfold ai_in at h
  split at h <;> (try simp only [ai_lda, ai_ldi, ai_ldf, ai_sti, ai_stf, ai_sta, ai_bin, ai_fb, ai_jmp, ai_inv, ai_ins, ai_spc, ai_wide, ai_go] at h) <;> (repeat' split at h) <;>
    first
    | (cases h; done)
    | exact ai_call_lt h
/-- from any point of a run to its end -/
theorem ai_body {y : Nat} {r : Option Value} {ws1 : ai_W} (hFF : ai_F p R s m args meth c b N n0 cI cB cY dC dI A y) (hcap : ws1.length ≤ n0 + R.cells ∧ ai_sl ws1 ≤ s0 + R.slots)
    (ih : ∀ y2, y2 < y → ∀ (as : List Value) (ws : ai_W) (r : Option Value) (ws1 : ai_W), ai_Call y2 as ws = some (r, ws1) → (∀ v ∈ as, ai_gv N v) → ai_Met l (dC, dI) cI cB cY b N y2 as ws r ws1)
    (hend : ∀ (pc n : Nat) (ls st : List Value) (i : Instr), decode (ai_code y) pc = .ok (i, n) → ai_in y pc ls st ws1 i n = some (.inl (r, ws1)) → ∀ (arr : Array Slot) (H : Heap) (locs : List Loc) (cells slots : Nat), va_P (dC, dI) vwCl (ai_w b cI cB cY ws1) H → va_D A (ai_w b cI cB cY ws1) → va_S A s.heap H locs → ws1.length = n0 + cells → ai_sl ws1 = s0 + slots → W p l e R s m args below meth c H locs cells slots Q (F0 m pc arr (st.map (ai_cv b)))) :
    ∀ (G pc : Nat) (ls st : List Value) (ws2 : ai_W), ai_run G y pc ls st ws2 = some (r, ws1) → ls.length = ai_L y → (∀ v ∈ ls, ai_gv N v) → (∀ v ∈ st, ai_gv N v) → ai_X p l e R s m args below meth c Q b n0 s0 cI cB cY dC dI A pc ls st ws2 := by
  intro G
  induction G with
  | zero => intro pc ls st ws2 h; cases h
  | succ G ihG =>
    intro pc ls st ws2 h hL hgl hgs
    have hgr2 := ai_run_grow _ _ _ _ _ _ _ h
    unfold ai_run at h
    split at h
    · cases h
    · rename_i r2 hs
      cases h
      unfold ai_step at hs
      split at hs
      · rename_i i n hd
        have e1 := (ai_in_end hs).1
        subst e1
        intro arr H locs cells slots hl hP hD hS h1 h2
        exact hend pc n ls st i hd hs arr H locs cells slots hP hD hS h1 h2
      · cases hs
    · rename_i pc2 ls2 st2 ws3 hs
      unfold ai_step at hs
      split at hs
      · rename_i i n hd
        have hgr3 := ai_run_grow _ _ _ _ _ _ _ h
        have hg1 := ai_in_grow hs
        have hgd := ai_in_good hs hgl hgs
        dsimp only at hgr3
        exact ai_go_ok hFF hL hgs hd hs ⟨by omega, by omega⟩ (ihG _ _ _ _ h (hg1.2.2.trans hL) hgd.1 hgd.2)
      · cases hs
    · rename_i y2 as2 rest pc2 hs
      split at h
      · rename_i hk
        split at h
        · cases h
        · rename_i v ws3 h3
          unfold ai_step at hs
          split at hs
          · rename_i i n hd
            obtain ⟨hy2, ha1, ha2⟩ := ai_in_lt hs
            have hgr3 := ai_run_grow _ _ _ _ _ _ _ h
            have hgr4 := ai_run_grow _ _ _ _ _ _ _ h3
            have hsh := ai_run_shape _ _ _ _ _ _ _ h3
            dsimp only at hgr3 hgr4 hsh
            have hcall : ai_Call y2 as2 ws2 = some (v, ws3) := by
              unfold ai_Call
              rw [if_pos hk.1]
              exact ai_Run_iff.mpr ⟨_, h3⟩
            refine ai_call_ok hFF hL hd hs hk.1 hk.2 (ih y2 hy2 _ _ _ _ hcall (fun v hv => hgs v (ha1 v hv))) hsh hgr4 ⟨by omega, by omega⟩ (ihG _ _ _ _ h hL hgl (fun q hq => ?_))
            rcases List.mem_append.mp hq with hq | hq
            · rcases hsh with rfl | ⟨x, rfl⟩ | ⟨x, rfl⟩
              · cases hq
              · rw [Option.toList_some, List.mem_singleton] at hq
                rw [hq]
                exact ai_gv_i
              · rw [Option.toList_some, List.mem_singleton] at hq
                rw [hq]
                exact ai_gv_r
            · exact hgs q (ha2 q hq)
          · cases hs
      · cases h
end AIS
theorem ai_sound (l : Launch) (N : Nat) : ∀ (y : Nat), y < 202 → ∀ (as : List Value) (ws : ai_W) (r : Option Value) (ws1 : ai_W), ai_Call y as ws = some (r, ws1) → (∀ v ∈ as, ai_gv N v) → ∀ (dC : Nat → ClassId) (dI : Nat → Nat → Nat) (cI cB cY : ClassId) (b : ai_B), ai_Met l (dC, dI) cI cB cY b N y as ws r ws1 := by
  intro y
  induction y using Nat.strongRecOn with
  | ind y ih =>
  intro hy as ws r ws1 hc hgv dC dI cI cB cY b
  unfold ai_Call at hc
  split at hc
  · rename_i hok
    obtain ⟨F, hF⟩ := ai_Run_iff.mp hc
    have hgr := ai_run_grow _ _ _ _ _ _ _ hF
    have hyk := ai_yok hy
    unfold ai_Met
    refine va_MetF (cc := ai_code y) (maxL := ai_L y) (ret := ai_ret y) hyk.2.2.2.1 rfl ?_
    intro p e s m args below meth c s₁ B hml hv
    obtain ⟨rfl, hsz, hP, hD0, hK, hZ, hY⟩ := hv
    have hok2 := hok
    unfold ai_ok at hok2
    simp only [Bool.and_eq_true, decide_eq_true_eq, List.all_eq_true] at hok2
    have hts := atoms_spec (ws := ai_ws y) B.pre
    rw [lg_entry_eq]
    have hl := ai_l_entry (b := b) (n := ai_L y) (as := as) (fun v hv => hok2.1.2 v hv) hok2.2
    have hFF : ∀ A, A = ai_A b cI cB cY ws → ai_F p (ai_rm y (ws1.length - ws.length) (ai_sl ws1 - ai_sl ws)) s m (as.map (ai_cv b)).toArray meth c b N ws.length cI cB cY dC dI A y := by
      intro A hA
      subst hA
      refine ⟨by omega, B.exec, B.bytes, hml, findClass_of_methodNamed B.named, fun w hw => hts w (List.mem_cons_of_mem _ hw), hK, B.returns, B.notSynchronized, fun hk => ?_, hZ, fun q hq => Or.inr (by rw [← hsz]; exact hq), fun q hq => ?_, hsz, Nat.le_refl _, Nat.le_refl _, hY⟩
      · exact ((name_of_methodNamed B.named B.method).1).trans (hyk.2.2.2.2.2.2.2.2.1 hk).1
      · rcases hq with ⟨k, e, h⟩ | h
        · obtain ⟨c, -, h3⟩ := ai_w_inv h
          have : q = b.1 + k := congrArg Prod.fst h3
          omega
        · omega
    have hD : va_D (ai_A b cI cB cY ws) (ai_w b cI cB cY ws) := hD0.self
    generalize hAe : ai_A b cI cB cY ws = A at hD hFF ⊢
    have hFF := hFF A rfl
    dsimp only at hgr
    refine ai_body (l := l) (e := e) (below := below) (n0 := ws.length) (s0 := ai_sl ws) hFF ⟨by show _ ≤ _ + (ws1.length - ws.length); omega, by show _ ≤ _ + (ai_sl ws1 - ai_sl ws); omega⟩ (fun y2 hy2 as ws r ws1 h hg => ih y2 hy2 (by omega) as ws r ws1 h hg dC dI cI cB cY b) ?_ F 0 (ai_ent y as) [] ws hF (by unfold ai_ent; rw [List.length_append, List.length_replicate]; omega) (fun v hv => ?_) (fun v hv => by cases hv) _ s.heap [] 0 0 hl hP hD va_S.rf (by omega) (by omega)
    · intro pc n ls st i hd hs arr H locs cells slots hP hD hS h1 h2
      have w := ai_ret_ok (l := l) (e := e) (below := below) (arr := arr) (cells := cells) (slots := slots) hFF hd hs hP hD hS
      rw [show cells = ws1.length - ws.length by omega, show slots = ai_sl ws1 - ai_sl ws by omega] at w ⊢
      exact w
    · unfold ai_ent at hv
      rcases List.mem_append.mp hv with h | h
      · exact hgv v h
      · rw [(List.mem_replicate.mp h).2]
        exact ai_gv_n
  · cases hc
