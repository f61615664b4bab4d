/-! THE CLAIM OUT OF ONE WALK OF THE LAW'S BODY. Your part is whole_start (and what it stands on); all else here is the same for every law, but numbers. -/
def R_law : String := "StoryCoronerLaw"
def lw_P (b : Addr) (xs : List Int32) (args : Array Value) (s : State) : Prop := args = #[.ref b] ∧ s.IntsAt b xs ∧ xs.length ≤ 3072 ∧ (Jvm.Cond.and given_1 narrow_1).before args s = true
/-- what a walk over the start with the record d0 says of its end, said of the start itself -/
theorem lw_closed {s t : State} {o : Outcome} {d0 : Drawn} {L : List Loc} {k n : Nat} (hd0 : s.drawn.sameBut d0 lw_cs) (hv : ∃ v, o = .returned v) (hW : (s.setDrawn d0).WarmedH t.vm) (hs : (s.setDrawn d0).sameButNew ({ t with vm := s.vm } : State) L k n) : State.butDraws s t lw_cs (fun t1 => Framed s o t1 L k n) := by
  have h2 : t.drawn = d0 := congrArg State.drawn hs.1
  refine ⟨⟨hv, hW, State.sameButNew.setDrawn hs s.drawn⟩, ?_, by decide⟩
  rw [h2]
  exact hd0
def lw_Q (_ : Array Value) (s : State) (o : Outcome) (t : State) : Prop := o = .returned (some (.int 1)) ∧ State.butDraws s t lw_cs (fun t1 => Framed s o t1 [] 600000 7302250)
def lw_Z (below : List Frame) (a : Array Value) (s : State) : State → Prop := fun t => ∃ o, t.status = .running ∧ Ended t below o ∧ lw_Q a s o t
/-- the law's own end, with 1 on the stack, nothing written that was there before, its room as the claim has it; d0: the record of draws at this point (at the entry s.drawn: begin with 'refine W.base ?_' and 'have hd0 := Drawn.sameBut.refl s.drawn lw_cs') -/
theorem lw_ret {p : Program} {l : Launch} {e : Env} {s : State} {m : MethodId} {below : List Frame} {meth : Method} {c : Code} {b : Nat} {d0 : Drawn} (hd0 : s.drawn.sameBut d0 lw_cs) (hx : p.tables.exec = Jvm.exec) (hb : c.code = code) (hr : meth.sig.returnType = ret) (hlocks : meth.locks = false) {pc : Nat} {H : Heap} {ls : Array Slot} (hdg : decode code pc = .ok (.ireturn, 1)) : W p l e room_1 (s.setDrawn d0) m #[Value.ref b] below meth c H [] 600000 7302250 (lw_Z below #[Value.ref b] s) (F0 m pc ls [.int 1]) := by
  intro T hT X
  obtain ⟨fs, hret, hrun, hended, hW, hframe⟩ := X.leave (v := some (.int 1)) (hlocks := hlocks) (fun h => by rw [hr] at h; cases h)
  have hmeth' : T.vm.method? m = some meth := X.method'
  refine ⟨T.setFrames fs, ?_, .returned (some (.int 1)), hrun, hended, rfl, lw_closed hd0 ⟨_, rfl⟩ hW hframe⟩
  jvm_step X.here [X.here.top, hx, hb, hdg, hmeth', hr, ret, narrow_b1]
  (try refine ⟨rfl, ?_⟩); (try refine ⟨rfl, ?_⟩)
  first | (intro acts; rw [hret _ acts rfl rfl rfl]) | rw [hret _ _ rfl rfl rfl]
  exact Steps.refl _
/-- what holds at the law's entry: the machine, the code, the tables' words (any of lw_tbl by 'hts w (by decide +kernel)'), the script of L ints xs at the cell b, what the Statement gives of the start (any of its parts by flat_of_before) -/
def lw_At (p : Program) (s : State) (m : MethodId) (meth : Method) (c : Code) (b L : Nat) (xs : Nat → Int32) : Prop :=
  p.tables.exec = Jvm.exec ∧ c.code = code ∧ meth.sig.returnType = ret ∧ c.maxLocals = 4 ∧ s.vm.findClass R_law = some m.cls ∧ (∀ w ∈ lw_tbl, w.before #[Value.ref b] s = true) ∧ va_X b L xs s s.heap ∧ b < s.heap.size ∧ meth.locks = false ∧ (Jvm.Cond.and given_1 narrow_1).before #[Value.ref b] s = true
/-! The law's calls over the plain machine's cells. -/
def law_A (s : State) : Nat → Prop := fun q => s.heap.size ≤ q
/-- what stays through the law's run -/
def law_C (p : Program) (s : State) (m : MethodId) (c : Code) (b0 L : Nat) (xs : Nat → Int32) (cI cB : ClassId) (dC : Nat → ClassId) (dI : Nat → Nat → Nat) (args : Array Value) : Prop :=
  p.tables.exec = Jvm.exec ∧ c.code = code ∧ c.maxLocals = 4 ∧ s.vm.findClass R_law = some m.cls ∧ (∀ w ∈ lw_tbl, w.before args s = true) ∧ va_K (dC, dI) vwCl (ai_tys cI cB) s ∧ ai_Z s ∧ va_X b0 L xs s s.heap ∧ b0 < s.heap.size
section LAW
variable {p : Program} {l : Launch} {e : Env} {s : State} {m : MethodId} {args : Array Value} {below : List Frame} {meth : Method} {c : Code} {Q : State → Prop} {b0 L : Nat} {xs : Nat → Int32} {cI cB : ClassId} {dC : Nat → ClassId} {dI : Nat → Nat → Nat}
theorem law_obj {y a : Nat} {ws : ai_W} {H : Heap} (hK : va_K (dC, dI) vwCl (ai_tys cI cB) s) (hy : y < 270) (hk : ai_kind y ≠ 0) (ho : ai_isob ws a (ai_ci y) = true) (hP : va_P (dC, dI) vwCl (ai_w s.heap.size cI cB ws) H) : ∃ cellB : Cell, H[s.heap.size + a]? = some cellB ∧ cellB.vm.isStatics = false ∧ s.vm.findClass (ai_name y).cls = some cellB.cls := by
  unfold ai_isob at ho
  split at ho
  · rename_i ci fs hc
    rw [decide_eq_true_eq] at ho
    subst ho
    have hn := ((ai_yok hy).2.2.2.2.2.2.2.1 hk).2
    rw [Option.map_eq_some_iff] at hn
    obtain ⟨r1, hr1, hr2⟩ := hn
    rw [← hr2]
    exact va_recv hK hP hr1 (ai_w_get hc)
  · cases ho
theorem law_ok_of {y a : Nat} {as2 : List Value} {ws ws1 : ai_W} {r : Option Value} (hcall : ai_Call y (.ref a :: as2) ws = some (r, ws1)) (hk : ai_kind y ≠ 0) : as2.length = ai_n y ∧ ai_isob ws a (ai_ci y) = true ∧ ws.length ≤ ws1.length ∧ ai_sl ws ≤ ai_sl ws1 := by
  have hok : ai_ok y (.ref a :: as2) ws = true := by
    unfold ai_Call at hcall
    split at hcall
    · rename_i h
      exact h
    · cases hcall
  have hgr : ws.length ≤ ws1.length ∧ ai_sl ws ≤ ai_sl ws1 := by
    unfold ai_Call at hcall
    rw [if_pos hok] at hcall
    obtain ⟨F, hF⟩ := ai_Run_iff.mp hcall
    exact ai_run_grow _ _ _ _ _ _ _ hF
  unfold ai_ok at hok
  simp only [Bool.and_eq_true, decide_eq_true_eq] at hok
  have o1 := hok.1.1.1
  have o2 := hok.1.1.2
  rw [if_neg hk] at o1 o2
  exact ⟨by simpa using o1, o2, hgr⟩
theorem law_room {y k n : Nat} (hy : y < 270) : (ai_rm y k n).frames + 1 ≤ room_1.frames ∧ 8 + (ai_L y + 11) + (ai_rm y k n).locals ≤ room_1.locals := by
  have hL2 := (ai_yok hy).2.2.2.2.2.1
  refine ⟨?_, ?_⟩
  · show y + 1 + 1 ≤ 2048
    omega
  · show 8 + (ai_L y + 11) + (40 * y + 60) ≤ 84000
    omega
theorem law_good {y : Nat} (hy : y < 270) : GoodIn lw_tbl (ai_ws y) := fun w hw => ⟨ai_T_in _ (ai_goodIn hy w hw).1, (ai_goodIn hy w hw).2⟩
theorem law_free {ws : ai_W} (hD : va_D (law_A s) (ai_w s.heap.size cI cB ws)) : ∀ q, ai_A s.heap.size cI cB ws q → law_A s q := by
  intro q hq
  rcases hq with ⟨k, e, h⟩ | h
  · exact hD.2 k (q, e) h
  · exact Nat.le_trans (Nat.le_add_right _ _) h
theorem law_pre {ws : ai_W} {as : List Value} {H : Heap} (hK : va_K (dC, dI) vwCl (ai_tys cI cB) s) (hZ : ai_Z s) (hP : va_P (dC, dI) vwCl (ai_w s.heap.size cI cB ws) H) (hD : va_D (law_A s) (ai_w s.heap.size cI cB ws)) (hzz : H.size = s.heap.size + ws.length) : ∀ U : State, U.heap = H → s.WarmedH U.vm → ai_P (dC, dI) cI cB s.heap.size as ws (as.map (ai_cv s.heap.size)).toArray U := fun U hU hW => ⟨rfl, by rw [hU]; exact hzz, by rw [hU]; exact hP, hD.weaken (fun _ _ _ _ => trivial), va_K.moved hW.alike hK, hZ.warm hW⟩
/-- a call that answers a number -/
theorem law_call (C : law_C p s m c b0 L xs cI cB dC dI args) {y idx pc : Nat} {arr : Array Slot} {rest as2 : List Value} {a : Nat} {ws ws1 : ai_W} {r : Int32} {H : Heap} {locs : List Loc} {cells slots : Nat} (hy : y < 270) (hk1 : ai_kind y = 1) (hl : Cond.methodLink R_law idx (ai_name y) ∈ lw_tbl) (hcall : ai_Call y (.ref a :: as2) ws = some (some (.int r), ws1)) (hls : arr.size = 4) (hrest : (rest.map fun v => v.category).sum ≤ 8) (hd : decode code pc = .ok (.invokevirtual idx, 3)) (hP : va_P (dC, dI) vwCl (ai_w s.heap.size cI cB ws) H) (hD : va_D (law_A s) (ai_w s.heap.size cI cB ws)) (hS : va_S (law_A s) s.heap H locs) (h1 : ws.length = cells) (h2 : ai_sl ws = slots) (hcap : ws1.length ≤ 600000 ∧ ai_sl ws1 ≤ 7302250) (kk : ∀ (H1 : Heap) (locs1 : List Loc), va_P (dC, dI) vwCl (ai_w s.heap.size cI cB ws1) H1 → va_D (law_A s) (ai_w s.heap.size cI cB ws1) → va_S (law_A s) s.heap H1 locs1 → W p l e room_1 s m args below meth c H1 locs1 ws1.length (ai_sl ws1) Q (F0 m (pc + 3) arr (.int r :: rest))) : W p l e room_1 s m args below meth c H locs cells slots Q (F0 m pc arr ((as2.map (ai_cv s.heap.size)).reverse ++ .ref (s.heap.size + a) :: rest)) := by
  obtain ⟨hx, hb, hml, hown, hts, hK, hZ, hX, hbl⟩ := C
  have hk0 : ai_kind y ≠ 0 := by rw [hk1]; decide
  have hyk := ai_yok hy
  obtain ⟨hn, ho, hg1, hg2⟩ := law_ok_of hcall hk0
  intro T hT XX
  have hzz : H.size = s.heap.size + ws.length := ai_size (n0 := 0) XX hT hP hS rfl (by omega)
  have hM := ai_sound l y hy _ _ _ _ hcall dC dI cI cB s.heap.size
  have cb := callB_of (R := room_1) (s := s) (args := args) (own := R_law) (index := idx) (maxL := ai_L y) (ai_n y) hts (law_good hy) rfl rfl rfl (hts _ (ai_T_in _ hyk.1)) (hts _ hl) ⟨hyk.2.1, hyk.2.2.1, hyk.2.2.2.2.1⟩ (law_room (k := ws1.length - ws.length) (n := ai_sl ws1 - ai_sl ws) hy)
  have rn := va_runV (e := e) (below := below) (meth := meth) (locs := locs) (H := H) (cells := cells) (slots := slots) (rest := rest) (As := as2.map (ai_cv s.heap.size)) (b := s.heap.size + a) (C := (ai_name y).cls) (g := F0 m pc arr ((as2.map (ai_cv s.heap.size)).reverse ++ .ref (s.heap.size + a) :: rest)) (nL := 4) ⟨hx, hb, hml, hown, hts⟩ hM ⟨cb, hts _ (ai_T_in _ (hyk.2.2.2.2.2.2.2.1 hk0).1), hts _ (ai_T_in _ (hyk.2.2.2.2.2.2.2.2.1 hk1))⟩ ⟨ai_blind, law_obj hK hy hk0 ho hP, law_pre hK hZ hP hD hzz⟩ rfl (by rw [List.length_map]; exact hn) hls rfl (by show 2 * 0 + _ ≤ 8; omega) hd ⟨by show _ ≤ 600000; omega, by show _ ≤ 7302250; omega⟩
  refine va_calli (a := (Value.ref (s.heap.size + a) :: as2.map (ai_cv s.heap.size)).toArray) rn hS (fun q _ h => law_free hD q h) (law_free hD) (fun r2 u t H1 locs1 ht hvm hp hB hz1 hk1 hS1 => ?_) T hT XX
  subst hp
  have k1 := kk H1 locs1 (by rw [← ht]; exact hB.1) (hB.2.weaken (fun _ q _ h => law_free hD q.1 h)) hS1
  rw [show cells + (ws1.length - ws.length) = ws1.length by omega, show slots + (ai_sl ws1 - ai_sl ws) = ai_sl ws1 by omega]
  exact k1
/-- a constructor's call -/
theorem law_init (C : law_C p s m c b0 L xs cI cB dC dI args) {y idx pc : Nat} {arr : Array Slot} {rest : List Value} {a : Nat} {ws ws1 : ai_W} {H : Heap} {locs : List Loc} {cells slots : Nat} (hy : y < 270) (hk1 : ai_kind y = 2) (hl : Cond.methodLink R_law idx (ai_name y) ∈ lw_tbl) (hcall : ai_Call y [.ref a] ws = some (none, ws1)) (hls : arr.size = 4) (hrest : (rest.map fun v => v.category).sum ≤ 8) (hd : decode code pc = .ok (.invokespecial idx, 3)) (hP : va_P (dC, dI) vwCl (ai_w s.heap.size cI cB ws) H) (hD : va_D (law_A s) (ai_w s.heap.size cI cB ws)) (hS : va_S (law_A s) s.heap H locs) (h1 : ws.length = cells) (h2 : ai_sl ws = slots) (hcap : ws1.length ≤ 600000 ∧ ai_sl ws1 ≤ 7302250) (kk : ∀ (H1 : Heap) (locs1 : List Loc), va_P (dC, dI) vwCl (ai_w s.heap.size cI cB ws1) H1 → va_D (law_A s) (ai_w s.heap.size cI cB ws1) → va_S (law_A s) s.heap H1 locs1 → W p l e room_1 s m args below meth c H1 locs1 ws1.length (ai_sl ws1) Q (F0 m (pc + 3) arr rest)) : W p l e room_1 s m args below meth c H locs cells slots Q (F0 m pc arr (.ref (s.heap.size + a) :: rest)) := by
  obtain ⟨hx, hb, hml, hown, hts, hK, hZ, hX, hbl⟩ := C
  have hk0 : ai_kind y ≠ 0 := by rw [hk1]; decide
  have hyk := ai_yok hy
  obtain ⟨hn, ho, hg1, hg2⟩ := law_ok_of hcall hk0
  have hct := hyk.2.2.2.2.2.2.2.2.2.1 hk1
  intro T hT XX
  have hzz : H.size = s.heap.size + ws.length := ai_size (n0 := 0) XX hT hP hS rfl (by omega)
  have hM := ai_sound l y hy _ _ _ _ hcall dC dI cI cB s.heap.size
  have cb := callB_of (R := room_1) (s := s) (args := args) (own := R_law) (index := idx) (maxL := ai_L y) (ai_n y) hts (law_good hy) rfl rfl rfl (hts _ (ai_T_in _ hyk.1)) (hts _ hl) ⟨hyk.2.1, hyk.2.2.1, hyk.2.2.2.2.1⟩ (law_room (k := ws1.length - ws.length) (n := ai_sl ws1 - ai_sl ws) hy)
  rw [hct.2] at cb
  have rn := va_runI (e := e) (below := below) (meth := meth) (locs := locs) (H := H) (cells := cells) (slots := slots) (rest := rest) (As := []) (b := s.heap.size + a) (g := F0 m pc arr (.ref (s.heap.size + a) :: rest)) (nL := 4) ⟨hx, hb, hml, hown, hts⟩ hM ⟨cb, hct.1, hts _ (ai_T_in _ (hyk.2.2.2.2.2.2.2.1 hk0).1)⟩ ⟨ai_blind, law_pre (as := [.ref a]) hK hZ hP hD hzz⟩ rfl hn hls rfl (by show 2 * 0 + _ ≤ 8; omega) hd ⟨by show _ ≤ 600000; omega, by show _ ≤ 7302250; omega⟩
  refine va_callv (a := #[Value.ref (s.heap.size + a)]) rn hS (fun q _ h => law_free hD q h) (law_free hD) (fun u t H1 locs1 ht hvm hp hB hz1 hk1 hS1 => ?_) T hT XX
  have k1 := kk H1 locs1 (by rw [← ht]; exact hB.1) (hB.2.weaken (fun _ q _ h => law_free hD q.1 h)) hS1
  rw [show cells + (ws1.length - ws.length) = ws1.length by omega, show slots + (ai_sl ws1 - ai_sl ws) = ai_sl ws1 by omega]
  exact k1
/-- a new object -/
theorem law_new (C : law_C p s m c b0 L xs cI cB dC dI args) {ci idx pc : Nat} {r : vw_C} {arr : Array Slot} {rest : List Value} {ws : ai_W} {H : Heap} {locs : List Loc} {cells slots : Nat} (r1 : vwCl[ci]? = some r) (hl : Cond.classLink R_law idx r.1 ∈ lw_tbl) (hi : Cond.instantiable r.1 r.2.2 ∈ lw_tbl) (hn : Cond.initialized r.1 ∈ lw_tbl) (hd : decode code pc = .ok (.new idx, 3)) (hP : va_P (dC, dI) vwCl (ai_w s.heap.size cI cB ws) H) (hD : va_D (law_A s) (ai_w s.heap.size cI cB ws)) (hS : va_S (law_A s) s.heap H locs) (h1 : ws.length = cells) (h2 : ai_sl ws = slots) (hcap : cells + 1 ≤ 600000 ∧ slots + r.2.2 ≤ 7302250) (kk : ∀ (H1 : Heap) (locs1 : List Loc), va_P (dC, dI) vwCl (ai_w s.heap.size cI cB (ws ++ [ai_blank ci])) H1 → va_D (law_A s) (ai_w s.heap.size cI cB (ws ++ [ai_blank ci])) → va_S (law_A s) s.heap H1 locs1 → W p l e room_1 s m args below meth c H1 locs1 (ws ++ [ai_blank ci]).length (ai_sl (ws ++ [ai_blank ci])) Q (F0 m (pc + 3) arr (.ref (s.heap.size + ws.length) :: rest))) : W p l e room_1 s m args below meth c H locs cells slots Q (F0 m pc arr rest) := by
  obtain ⟨hx, hb, hml, hown, hts, hK, hZ, hX, hbl⟩ := C
  have c1 := ai_c_of r1
  have hcl := ai_cl_at r1
  have hbk : ai_blank ci = .inr (.inr (ci, (List.range r.2.2).map fun k => ai_dv (parseFieldDescriptor (r.2.1 k).2.2.1))) := by
    unfold ai_blank ai_fty
    rw [hcl]
  have hsz : ai_sz (ai_blank ci) = r.2.2 := by rw [hbk]; simp [ai_sz]
  refine va_new (C := r.1) (T := r.2.1) (N := r.2.2) (ci := ci) (fs := ((List.range r.2.2).map fun k => ai_dv (parseFieldDescriptor (r.2.1 k).2.2.1)).map (ai_cv s.heap.size)) hx hb hts (fun w hw => ai_T_in _ (c1.1 w hw)) (fun k => (parseFieldDescriptor (r.2.1 k).2.2.1).getD .int) c1.2.1 hown (hts _ hl) (hts _ hi) (hts _ hn) hK hP hD hS (fun _ h => h) r1 ?_ hcap.1 hcap.2 hd (fun q H1 g1 g2 g3 => ?_)
  · intro j hj
    have hty := c1.2.1 j hj
    generalize (parseFieldDescriptor (r.2.1 j).2.2.1).getD .int = ty at hty
    simp only [vp_V, List.getD_eq_getElem?_getD, List.getElem?_map, List.getElem?_range hj, Option.map_some, Option.getD_some, hty]
    exact ai_dv_ok r1 j hj hty
  · intro T hT XX
    have hq := ai_fresh (n0 := 0) XX hT g1 g2 (fun _ h => h) rfl (by omega)
    subst hq
    rw [show (Sum.inr (ci, ((List.range r.2.2).map fun k => ai_dv (parseFieldDescriptor (r.2.1 k).2.2.1)).map (ai_cv s.heap.size)) : va_E) = ai_e s.heap.size cI cB (ai_blank ci) by rw [hbk]; rfl, ai_w_push] at g1 g2
    have k1 := kk H1 locs g1 g2 g3
    rw [List.length_append, ai_sl_push, hsz] at k1
    rw [← h1, ← h2] at XX
    exact k1 T hT XX
/-- the law's reading of a number of the script -/
def law_args : Nat → Nat → List (Instr × Nat)
  | _, 0 => []
  | k, n + 1 => (.aload_n 0, 1) :: (.iload_n 3, 1) :: (.iconst (k : Int), 1) :: (.iadd, 1) :: (.iaload, 1) :: law_args (k + 1) n
def law_vals (xs : Nat → Int32) (i : Nat) : Nat → Nat → List Value
  | _, 0 => []
  | k, n + 1 => .int (xs (i + k)) :: law_vals xs i (k + 1) n
def law_ok : Nat → List (Instr × Nat) → Bool
  | _, [] => true
  | pc, x :: l => decide (decode code pc = .ok x) && law_ok (pc + x.2) l
theorem law_ok_cons {pc n : Nat} {i : Instr} {l : List (Instr × Nat)} (h : law_ok pc ((i, n) :: l) = true) : decode code pc = .ok (i, n) ∧ law_ok (pc + n) l = true := by
  unfold law_ok at h
  rw [Bool.and_eq_true, decide_eq_true_eq] at h
  exact h
theorem law_k {k : Nat} (hk : k ≤ 5) : Int32.ofInt (k : Int) = nI k := by
  rcases (show k = 0 ∨ k = 1 ∨ k = 2 ∨ k = 3 ∨ k = 4 ∨ k = 5 by omega) with rfl | rfl | rfl | rfl | rfl | rfl <;> decide
theorem law_push (C : law_C p s m c b0 L xs cI cB dC dI args) (hL : L ≤ 3072) {i : Nat} {arr : Array Slot} {H : Heap} {locs : List Loc} {cells slots : Nat} {tl : List (Instr × Nat)} (hS : va_S (law_A s) s.heap H locs) (a0 : arr[0]? = some (.val (.ref b0))) (a3 : arr[3]? = some (.val (.int (nI i)))) : ∀ (n k pc : Nat) (rest : List Value), k + n ≤ 6 → i + 6 ≤ L → law_ok pc (law_args k n ++ tl) = true → (law_ok (pc + 5 * n) tl = true → W p l e room_1 s m args below meth c H locs cells slots Q (F0 m (pc + 5 * n) arr ((law_vals xs i k n).reverse ++ rest))) → W p l e room_1 s m args below meth c H locs cells slots Q (F0 m pc arr rest) := by
  obtain ⟨hx, hb, hml, hown, hts, hK, hZ, hX, hbl⟩ := C
  have hbA : ¬ law_A s b0 := Nat.not_le.mpr hbl
  intro n
  induction n with
  | zero =>
    intro k pc rest hk hi ho kk
    exact kk ho
  | succ n ih =>
    intro k pc rest hk hi ho kk
    obtain ⟨d0, ho⟩ := law_ok_cons ho
    obtain ⟨d1, ho⟩ := law_ok_cons ho
    obtain ⟨d2, ho⟩ := law_ok_cons ho
    obtain ⟨d3, ho⟩ := law_ok_cons ho
    obtain ⟨d4, ho⟩ := law_ok_cons ho
    refine lv_aload_n hx hb d0 rfl a0 ?_
    refine lv_iload_n hx hb d1 rfl a3 ?_
    refine lv_iconst hx hb d2 (law_k (show k ≤ 5 by omega)) ?_
    refine lv_iadd hx hb d3 ?_
    rw [nI_add]
    refine va_sld hx hb hX hbl hbA hS (vp_in_nI (show i + k < L by omega) (by omega)) d4 ?_
    rw [nI_clamp (show i + k < 2 ^ 31 by omega)]
    have ho : law_ok (pc + 5) (law_args (k + 1) n ++ tl) = true := ho
    refine ih (k + 1) (pc + 5) _ (by omega) hi ho (fun h => ?_)
    rw [show pc + 5 + 5 * n = pc + 5 * (n + 1) by omega] at h ⊢
    have k1 := kk h
    rw [show (law_vals xs i k (n + 1)).reverse ++ rest = (law_vals xs i (k + 1) n).reverse ++ (.int (xs (i + k)) :: rest) by rw [law_vals, List.reverse_cons, List.append_assoc]; rfl] at k1
    exact k1
theorem law_vals_cv (xs : Nat → Int32) (i b : Nat) : ∀ (n k : Nat), (law_vals xs i k n).map (ai_cv b) = law_vals xs i k n := by
  intro n
  induction n with
  | zero => intro k; rfl
  | succ n ih =>
    intro k
    rw [law_vals, List.map_cons, ih]
    rfl
set_option maxRecDepth 100000 in
theorem wl_len (w : xw_W) : (wl w).length = 193 := rfl
def law_sl : Nat := 4899
set_option maxRecDepth 100000 in
theorem wl_sl (w : xw_W) : ai_sl (wl w) = law_sl := by
  unfold ai_sl wl
  simp only [List.map_cons, List.map_nil, ai_sz, ai_t_len, List.length_cons, List.length_nil]
  rfl
end LAW
