/-! THE CLAIM OUT OF ONE WALK OF THE LAW'S BODY. Your part is whole_start (and what it stands on); all else here is the same for every law, but numbers. -/
def R_law : String := "StoryCoronerLaw"
def lw_P (b : Addr) (xs : List Int32) (args : Array Value) (s : State) : Prop := args = #[.ref b] ∧ s.IntsAt b xs ∧ xs.length ≤ 260 ∧ (Jvm.Cond.and given_1 narrow_1).before args s = true
/-- what a walk over the start with the record d0 says of its end, said of the start itself -/
theorem lw_closed {s t : State} {o : Outcome} {d0 : Drawn} {L : List Loc} {k n : Nat} (hd0 : s.drawn.sameBut d0 lw_cs) (hv : ∃ v, o = .returned v) (hW : (s.setDrawn d0).WarmedH t.vm) (hs : (s.setDrawn d0).sameButNew ({ t with vm := s.vm } : State) L k n) : State.butDraws s t lw_cs (fun t1 => Framed s o t1 L k n) := by
  have h2 : t.drawn = d0 := congrArg State.drawn hs.1
  refine ⟨⟨hv, hW, State.sameButNew.setDrawn hs s.drawn⟩, ?_, by decide⟩
  rw [h2]
  exact hd0
def lw_Q (_ : Array Value) (s : State) (o : Outcome) (t : State) : Prop := o = .returned (some (.int 1)) ∧ State.butDraws s t lw_cs (fun t1 => Framed s o t1 [] 600000 7302250)
def lw_Z (below : List Frame) (a : Array Value) (s : State) : State → Prop := fun t => ∃ o, t.status = .running ∧ Ended t below o ∧ lw_Q a s o t
/-- the law's own end, with 1 on the stack, nothing written that was there before, its room as the claim has it; d0: the record of draws at this point (at the entry s.drawn: begin with 'refine W.base ?_' and 'have hd0 := Drawn.sameBut.refl s.drawn lw_cs') -/
theorem lw_ret {p : Program} {l : Launch} {e : Env} {s : State} {m : MethodId} {below : List Frame} {meth : Method} {c : Code} {b : Nat} {d0 : Drawn} (hd0 : s.drawn.sameBut d0 lw_cs) (hx : p.tables.exec = Jvm.exec) (hb : c.code = code) (hr : meth.sig.returnType = ret) (hlocks : meth.locks = false) {pc : Nat} {H : Heap} {ls : Array Slot} (hdg : decode code pc = .ok (.ireturn, 1)) : W p l e room_1 (s.setDrawn d0) m #[Value.ref b] below meth c H [] 600000 7302250 (lw_Z below #[Value.ref b] s) (F0 m pc ls [.int 1]) := by
  intro T hT X
  obtain ⟨fs, hret, hrun, hended, hW, hframe⟩ := X.leave (v := some (.int 1)) (hlocks := hlocks) (fun h => by rw [hr] at h; cases h)
  have hmeth' : T.vm.method? m = some meth := X.method'
  refine ⟨T.setFrames fs, ?_, .returned (some (.int 1)), hrun, hended, rfl, lw_closed hd0 ⟨_, rfl⟩ hW hframe⟩
  jvm_step X.here [X.here.top, hx, hb, hdg, hmeth', hr, ret, narrow_b1]
  (try refine ⟨rfl, ?_⟩); (try refine ⟨rfl, ?_⟩)
  first | (intro acts; rw [hret _ acts rfl rfl rfl]) | rw [hret _ _ rfl rfl rfl]
  exact Steps.refl _
/-- what holds at the law's entry: the machine, the code, the tables' words (any of lw_tbl by 'hts w (by decide +kernel)'), the script of L ints xs at the cell b, what the Statement gives of the start (any of its parts by flat_of_before) -/
def lw_At (p : Program) (s : State) (m : MethodId) (meth : Method) (c : Code) (b L : Nat) (xs : Nat → Int32) : Prop :=
  p.tables.exec = Jvm.exec ∧ c.code = code ∧ meth.sig.returnType = ret ∧ c.maxLocals = 5 ∧ s.vm.findClass R_law = some m.cls ∧ (∀ w ∈ lw_tbl, w.before #[Value.ref b] s = true) ∧ va_X b L xs s s.heap ∧ b < s.heap.size ∧ meth.locks = false ∧ (Jvm.Cond.and given_1 narrow_1).before #[Value.ref b] s = true
theorem law_in {y : Nat} (hy : y = 202) : ai_code y = code ∧ ai_L y = 5 ∧ ai_ret y = ret ∧ ai_kind y = 0 ∧ (ai_name y).cls = R_law ∧ ai_fr y ≤ room_1.frames ∧ ai_lo y ≤ room_1.locals := by
  subst hy
  exact ⟨rfl, rfl, rfl, rfl, rfl, by decide +kernel, by decide +kernel⟩
set_option maxHeartbeats 4000000 in
/-- THE LAW, from its entry -/
theorem whole_start {p : Program} {e : Env} {s : State} {m : MethodId} {below : List Frame} {meth : Method} {c : Code} (l : Launch) (hflags : l.flags = flags0) {b L : Nat} {xs : Nat → Int32} (hL : L ≤ 260) (C0 : lw_At p s m meth c b L xs) : W p l e room_1 s m #[Value.ref b] below meth c s.heap [] 0 0 (lw_Z below #[Value.ref b] s) (entryFrame m ([Value.ref b] : List Value).toArray 5) := by
  obtain ⟨hx, hb, hr, hml, hown, hts, hX, hbl, hlocks, hgv⟩ := id C0
  have hT := ai_tbl_ok hts
  -- the classes
  have hcls : ∀ k : Nat, ∃ q : ClassId × (Nat → Nat), ∀ r : vw_C, vwCl[k]? = some r → u_Kn s r.1 r.2.1 r.2.2 q.1 q.2 := by
    intro k
    cases hk : vwCl[k]? with
    | none => exact ⟨(0, fun _ => 0), fun r h => by cases h⟩
    | some r =>
      have hi : Cond.instantiable r.1 r.2.2 ∈ lw_tbl := of_decide_eq_true (List.all_eq_true.mp st_ins r (List.mem_of_getElem? hk))
      obtain ⟨cC, iS, hKn⟩ := u_known (C := r.1) (T := r.2.1) (N := r.2.2) (n := r.2.2) hT (fun w hw => ai_T_in _ ((ai_c_of hk).1 w hw)) (hts _ hi)
      exact ⟨(cC, iS), fun r2 h => by cases h; exact hKn⟩
  obtain ⟨f, hf⟩ := Classical.axiomOfChoice hcls
  -- the arrays
  obtain ⟨cI, kI, pI, i1, i2, i3⟩ := Cond.arrayClass_spec (hT _ (ai_T_in _ (ai_has_in ai_wp_ok.1)))
  obtain ⟨cY, kY, pY, y1, y2, y3⟩ := Cond.arrayClass_spec (hT _ (ai_T_in _ (ai_has_in ai_wp_ok.2.2)))
  have hao : (Cond.arrayOver (.object RX0)).before #[Value.ref b] s = true := hts _ ai_wao
  obtain ⟨pB, cB, kB, o1, -, o3, o4, o5⟩ := Cond.arrayOver_spec hao
  have hK : va_K (fun k => (f k).1, fun k => (f k).2) vwCl (ai_tys cI cB cY) s := by
    refine ⟨fun k r h => hf k r h, fun k q hq => ?_⟩
    match k, hq with
    | 0, hq =>
      cases hq
      exact ⟨fun N z => ⟨(fun k h => by cases h), kI, i2, pI, i3⟩, i1⟩
    | 1, hq =>
      cases hq
      exact ⟨fun N z => ⟨(fun k h => by cases h), kB, o3, pB, o4⟩, kB, pB, o3, o4, o1, o5⟩
    | 2, hq =>
      cases hq
      exact ⟨fun N z => ⟨(fun k h => by cases h), kY, y2, pY, y3⟩, y1⟩
    | k + 3, hq => simp [ai_tys] at hq
  have hZ : ai_Z s := by
    refine ⟨va_AO.of hao, fun q hq => ?_, ?_⟩
    · have h := of_decide_eq_true (List.all_eq_true.mp ai_nest_ok q hq)
      exact va_Nw.of rfl (hts _ h)
    · exact va_Nw.of rfl (hts _ (List.mem_of_getElem? ai_wc_ok.2.2.2.2.2))
  generalize (fun k => (f k).1) = dC at hK
  generalize (fun k => (f k).2) = dI at hK
  -- the script
  obtain ⟨X, hXl, hXx⟩ : ∃ X : List Int32, X.length = L ∧ ∀ j, j < L → X.getD j 0 = xs j := by
    refine ⟨(List.range L).map xs, by rw [List.length_map, List.length_range], fun j hj => ?_⟩
    rw [List.getD_eq_getElem?_getD, List.getElem?_map, List.getElem?_range hj]
    rfl
  obtain ⟨bb, b1, b2, hY⟩ := st_Y hts hX hbl hgv hXl hXx
  have hscr : scr (24 + ai_enc X) := by
    refine ⟨by omega, ?_⟩
    rw [Nat.add_sub_cancel_left, ai_dec_enc, hXl]
    omega
  obtain ⟨ws1, hrun, n1, n2⟩ := lw_law hscr
  obtain ⟨F, hF⟩ := ai_Run_iff.mp hrun
  obtain ⟨q1, q2, q3, q4, q5, q6, q7⟩ := law_in (y := 202) rfl
  have hFF : ai_F p room_1 s m #[Value.ref b] meth c bb (ai_enc X) 0 cI cB cY dC dI (fun q => s.heap.size ≤ q) 202 := by
    refine ⟨by decide, hx, by rw [q1]; exact hb, by rw [q2]; exact hml, by rw [q5]; exact hown, fun w hw => hT w (ai_T_in w hw), hK, by rw [q3]; exact hr, hlocks, fun h => ?_, hZ, fun q h => h, fun q h => by rw [b1]; exact h, by rw [b1]; rfl, q6, q7, hY⟩
    rw [q4] at h
    cases h
  have ec : ai_cv bb (.retAddr (24 + ai_enc X)) = .ref b := by
    rw [ai_cv_x (by omega)]
    unfold ai_xa
    rw [if_pos (by omega), b2]
  have hl := ai_l_entry (b := bb) (n := 5) (as := [.retAddr (24 + ai_enc X)]) (fun v hv => by rw [List.mem_singleton] at hv; rw [hv]; rfl) (show 1 ≤ 5 by decide)
  rw [List.map_singleton, ec] at hl
  have hP : va_P (dC, dI) vwCl (ai_w bb cI cB cY []) s.heap := fun k q h => by simp [ai_w] at h
  have hD : va_D (fun q => s.heap.size ≤ q) (ai_w bb cI cB cY []) := ⟨fun i j p q h => by simp [ai_w] at h, fun k q h => by simp [ai_w] at h⟩
  rw [lg_entry_eq]
  refine ai_body (l := l) (e := e) (below := below) (n0 := 0) (s0 := 0) hFF ⟨Nat.le_trans n1 (by decide), Nat.le_trans n2 (by decide)⟩ (fun y2 hy2 as ws r ws1 h hg => ai_sound l (ai_enc X) y2 hy2 as ws r ws1 h hg dC dI cI cB cY bb) ?_ F 0 [.retAddr (24 + ai_enc X), .null, .null, .null, .null] [] [] hF (by rw [q2]; rfl) (fun v hv => ?_) (fun v hv => by cases hv) _ s.heap [] 0 0 hl hP hD va_S.rf rfl rfl
  · intro pc n ls st i hd hs arr H locs cells slots hP2 hD2 hS2 h1 h2
    obtain ⟨-, hx1⟩ := ai_in_end hs
    rcases hx1 with ⟨x, rfl, rfl, rfl, hr1, -⟩ | ⟨a, -, -, -, hr1, -⟩ | ⟨-, -, -, hr1, -⟩
    · cases hr1
      refine va_forget (fun q hq => hS2.2.2 q hq) ?_
      refine W.widen (k := 600000) (n := 7302250) (by omega) (by omega) ?_
      refine W.base ?_
      rw [q1] at hd
      exact lw_ret (Drawn.sameBut.refl s.drawn lw_cs) hx hb hr hlocks hd
    · cases hr1
    · cases hr1
  · rcases List.mem_cons.mp hv with z | z
    · rw [z]
      exact fun k h => by cases h; exact Or.inr rfl
    · have z : v = .null := by simpa using z
      rw [z]
      exact ai_gv_n
