/-! One instruction of the plain machine, done by the JVM. -/
def ai_Z (U : State) : Prop := va_AO RX0 U ∧ (∀ q ∈ ai_nest, va_Nw (.methodLinkNest q.1 q.2.1 q.2.2 "StoryCoroner") U) ∧ va_Nw (.castable "[B" "java/lang/Cloneable") U
theorem ai_Z.warm {s U : State} (hW : s.WarmedH U.vm) (h : ai_Z s) : ai_Z U := ⟨h.1.moved hW.alike, fun q hq => va_Nw.warmM hW (h.2.1 q hq), va_Nw.warmC hW h.2.2⟩
theorem ai_Z.same {u U : State} (hvm : u.vm = U.vm) (h : ai_Z u) : ai_Z U := ⟨h.1.moved (by rw [hvm]; exact Vm.Alike.refl U.vm), fun q hq => va_Nw.same rfl hvm (h.2.1 q hq), va_Nw.same rfl hvm h.2.2⟩
def ai_tys (cI cB cY : ClassId) : List (ClassId × FieldType) := [(cI, .int), (cB, .object RX0), (cY, .byte)]
/-! what stood before the law began, and is never written -/
def ai_tlen : List Nat := ai_tx.map fun q => q.2.2.length
def ai_tby : List (List Int32) := ai_tx.map fun q => q.2.2
def ai_Y (b : ai_B) (N : Nat) (A : Nat → Prop) (U : State) (H : Heap) : Prop :=
  (va_X (b.2.1 0) (ai_dec N).length (fun j => (ai_dec N).getD j 0) U H ∧ b.2.1 0 < H.size ∧ ¬ A (b.2.1 0)) ∧
  (∀ i q, ai_tx[i]? = some q → vk_R "StoryCoronerLaw" q.1 q.2.1 (b.2.1 (i + 1)) U) ∧
  vk_S 10 ai_tlen ai_tby (fun i => b.2.1 (i + 1)) (fun i => b.2.1 (i + 11)) A U H ∧
  va_Z "java/lang/String" "COMPACT_STRINGS" "Z" (.int 1) A U H ∧
  va_Z "java/lang/Integer" "DigitOnes" "[B" (.ref (b.2.1 21)) A U H ∧
  va_Z "java/lang/Integer" "DigitTens" "[B" (.ref (b.2.1 22)) A U H ∧
  va_Z "jdk/internal/util/Preconditions" "SIOOBE_FORMATTER" "Ljava/util/function/BiFunction;" (va_rf b.2.2) A U H ∧
  va_T .byte (b.2.1 21) 100 (fun j => .int (ai_d1.getD j 0)) A U H ∧
  va_T .byte (b.2.1 22) 100 (fun j => .int (ai_d10.getD j 0)) A U H
theorem ai_Y.warm {b : ai_B} {N : Nat} {A : Nat → Prop} {s U : State} {H : Heap} (hW : s.WarmedH U.vm) (h : ai_Y b N A s H) : ai_Y b N A U H := by
  obtain ⟨⟨h1, h2, h3⟩, h4, h5, h6, h7, h8, h9, h10, h11⟩ := h
  exact ⟨⟨h1.moved hW.alike, h2, h3⟩, fun i q hq => (h4 i q hq).warm hW, h5.moved hW.alike, h6.moved hW.alike, h7.moved hW.alike, h8.moved hW.alike, h9.moved hW.alike, h10.moved hW.alike, h11.moved hW.alike⟩
theorem ai_Y.same {b : ai_B} {N : Nat} {A : Nat → Prop} {u U : State} {H : Heap} (hvm : u.vm = U.vm) (h : ai_Y b N A u H) : ai_Y b N A U H := by
  obtain ⟨⟨h1, h2, h3⟩, h4, h5, h6, h7, h8, h9, h10, h11⟩ := h
  have hA : u.vm.Alike U.vm := by rw [hvm]; exact Vm.Alike.refl U.vm
  exact ⟨⟨h1.moved hA, h2, h3⟩, fun i q hq => (h4 i q hq).same hvm.symm, h5.moved hA, h6.moved hA, h7.moved hA, h8.moved hA, h9.moved hA, h10.moved hA, h11.moved hA⟩
theorem ai_Y.kept {b : ai_B} {N : Nat} {A : Nat → Prop} {U : State} {H H1 : Heap} (h : ai_Y b N A U H) (hz : H.size ≤ H1.size) (hq : ∀ a : Nat, a < H.size → ¬ A a → H1[a]? = H[a]?) : ai_Y b N A U H1 := by
  obtain ⟨⟨h1, h2, h3⟩, h4, h5, h6, h7, h8, h9, h10, h11⟩ := h
  exact ⟨⟨h1.kept (hq _ h2 h3), Nat.lt_of_lt_of_le h2 hz, h3⟩, h4, h5.kept hq, h6.kept hq, h7.kept hq, h8.kept hq, h9.kept hq, h10.kept hq, h11.kept hq⟩
theorem ai_Y.narrow {b : ai_B} {N : Nat} {A B : Nat → Prop} {U : State} {H : Heap} (h : ai_Y b N A U H) (hAB : ∀ q, B q → A q) : ai_Y b N B U H := by
  obtain ⟨⟨h1, h2, h3⟩, h4, h5, h6, h7, h8, h9, h10, h11⟩ := h
  exact ⟨⟨h1, h2, fun z => h3 (hAB _ z)⟩, h4, h5.narrow hAB, h6.narrow hAB, h7.narrow hAB, h8.narrow hAB, h9.narrow hAB, h10.narrow hAB, h11.narrow hAB⟩
/-- a value that the machine may have: of scripts the law's own alone -/
def ai_gv (N : Nat) (v : Value) : Prop := ∀ k, v = .retAddr k → k ≤ 23 ∨ k = 24 + N
theorem ai_gv_i {N : Nat} {x : Int32} : ai_gv N (.int x) := fun k h => by cases h
theorem ai_gv_f {N : Nat} {x : UInt32} : ai_gv N (.float x) := fun k h => by cases h
theorem ai_gv_r {N a : Nat} : ai_gv N (.ref a) := fun k h => by cases h
theorem ai_gv_n {N : Nat} : ai_gv N .null := fun k h => by cases h
theorem ai_gv_x {N q : Nat} (h : q ≤ 23) : ai_gv N (.retAddr q) := fun k e => by cases e; exact Or.inl h
def ai_X (p : Program) (l : Launch) (e : Env) (R : Room) (s : State) (m : MethodId) (args : Array Value) (below : List Frame) (meth : Method) (c : Code) (Q : State → Prop) (b : ai_B) (n0 s0 : Nat) (cI cB cY : ClassId) (dC : Nat → ClassId) (dI : Nat → Nat → Nat) (A : Nat → Prop) (pc : Nat) (ls st : List Value) (ws : ai_W) : Prop :=
  ∀ (arr : Array Slot) (H : Heap) (locs : List Loc) (cells slots : Nat), ai_l b ls arr → va_P (dC, dI) vwCl (ai_w b cI cB cY ws) H → va_D A (ai_w b cI cB cY ws) → va_S A s.heap H locs → ws.length = n0 + cells → ai_sl ws = s0 + slots → W p l e R s m args below meth c H locs cells slots Q (F0 m pc arr (st.map (ai_cv b)))
/-- what stays through a method's run -/
def ai_F (p : Program) (R : Room) (s : State) (m : MethodId) (args : Array Value) (meth : Method) (c : Code) (b : ai_B) (N n0 : Nat) (cI cB cY : ClassId) (dC : Nat → ClassId) (dI : Nat → Nat → Nat) (A : Nat → Prop) (y : Nat) : Prop :=
  y < 203 ∧ p.tables.exec = Jvm.exec ∧ c.code = ai_code y ∧ c.maxLocals = ai_L y ∧ s.vm.findClass (ai_name y).cls = some m.cls ∧ (∀ w ∈ ai_T, w.before args s = true) ∧ va_K (dC, dI) vwCl (ai_tys cI cB cY) s ∧ meth.sig.returnType = ai_ret y ∧ meth.locks = false ∧ (ai_kind y = 2 → meth.name = "<init>") ∧ ai_Z s ∧ (∀ q, s.heap.size ≤ q → A q) ∧ (∀ q, A q → b.1 ≤ q) ∧ s.heap.size = b.1 + n0 ∧ ai_fr y ≤ R.frames ∧ ai_lo y ≤ R.locals ∧ ai_Y b N A s s.heap
section AIS
variable {p : Program} {l : Launch} {e : Env} {R : Room} {s : State} {m : MethodId} {args : Array Value} {below : List Frame} {meth : Method} {c : Code} {Q : State → Prop} {b : ai_B} {N n0 s0 : Nat} {cI cB cY : ClassId} {dC : Nat → ClassId} {dI : Nat → Nat → Nat} {A : Nat → Prop}
theorem ai_lda_ok {n k pc pc2 : Nat} {ls st ls2 st2 : List Value} {ws ws2 : ai_W} (row : ∀ {H : Heap} {locs : List Loc} {cells slots : Nat} {arr : Array Slot} {rest : List Value} {a : Nat}, arr[k]? = some (.val (.ref a)) → W p l e R s m args below meth c H locs cells slots Q (F0 m (pc + n) arr (.ref a :: rest)) → W p l e R s m args below meth c H locs cells slots Q (F0 m pc arr rest)) (h : ai_lda n k pc ls st ws = some (.inr (.inl (pc2, ls2, st2, ws2)))) (kk : ai_X p l e R s m args below meth c Q b n0 s0 cI cB cY dC dI A pc2 ls2 st2 ws2) : ai_X p l e R s m args below meth c Q b n0 s0 cI cB cY dC dI A pc ls st ws := by
  unfold ai_lda ai_go at h
  split at h
  · rename_i a ha
    cases h
    intro arr H locs cells slots hl hP hD hS h1 h2
    exact row (hl.2.2 k _ ha rfl) (kk arr H locs cells slots hl hP hD hS h1 h2)
  · rename_i q ha
    split at h
    · cases h
    · rename_i h23
      cases h
      intro arr H locs cells slots hl hP hD hS h1 h2
      have ha2 := hl.2.2 k _ ha rfl
      rw [ai_cv_x h23] at ha2
      have := kk arr H locs cells slots hl hP hD hS h1 h2
      rw [List.map_cons, ai_cv_x h23] at this
      exact row ha2 this
  · cases h
theorem ai_ldi_ok {n k pc pc2 : Nat} {ls st ls2 st2 : List Value} {ws ws2 : ai_W} (row : ∀ {H : Heap} {locs : List Loc} {cells slots : Nat} {arr : Array Slot} {rest : List Value} {a : Int32}, arr[k]? = some (.val (.int a)) → W p l e R s m args below meth c H locs cells slots Q (F0 m (pc + n) arr (.int a :: rest)) → W p l e R s m args below meth c H locs cells slots Q (F0 m pc arr rest)) (h : ai_ldi n k pc ls st ws = some (.inr (.inl (pc2, ls2, st2, ws2)))) (kk : ai_X p l e R s m args below meth c Q b n0 s0 cI cB cY dC dI A pc2 ls2 st2 ws2) : ai_X p l e R s m args below meth c Q b n0 s0 cI cB cY dC dI A pc ls st ws := by
  unfold ai_ldi ai_go at h
  split at h
  · rename_i a ha
    cases h
    intro arr H locs cells slots hl hP hD hS h1 h2
    exact row (hl.2.2 k _ ha rfl) (kk arr H locs cells slots hl hP hD hS h1 h2)
  · cases h
theorem ai_ldf_ok {n k pc pc2 : Nat} {ls st ls2 st2 : List Value} {ws ws2 : ai_W} (row : ∀ {H : Heap} {locs : List Loc} {cells slots : Nat} {arr : Array Slot} {rest : List Value} {a : UInt32}, arr[k]? = some (.val (.float a)) → W p l e R s m args below meth c H locs cells slots Q (F0 m (pc + n) arr (.float a :: rest)) → W p l e R s m args below meth c H locs cells slots Q (F0 m pc arr rest)) (h : ai_ldf n k pc ls st ws = some (.inr (.inl (pc2, ls2, st2, ws2)))) (kk : ai_X p l e R s m args below meth c Q b n0 s0 cI cB cY dC dI A pc2 ls2 st2 ws2) : ai_X p l e R s m args below meth c Q b n0 s0 cI cB cY dC dI A pc ls st ws := by
  unfold ai_ldf ai_go at h
  split at h
  · rename_i a ha
    cases h
    intro arr H locs cells slots hl hP hD hS h1 h2
    exact row (hl.2.2 k _ ha rfl) (kk arr H locs cells slots hl hP hD hS h1 h2)
  · cases h
theorem ai_sti_ok {n k pc pc2 : Nat} {ls st ls2 st2 : List Value} {ws ws2 : ai_W} (row : ∀ {H : Heap} {locs : List Loc} {cells slots nL : Nat} {arr : Array Slot} {rest : List Value} {a : Int32} {lv : List (Nat × Value)}, lv_has arr nL lv → k < nL → (∀ arr2 : Array Slot, lv_has arr2 nL ((k, Value.int a) :: lv.filter (fun q => !(q.1 == k) && !(q.1 + 1 == k && q.2.category == 2))) → W p l e R s m args below meth c H locs cells slots Q (F0 m (pc + n) arr2 rest)) → W p l e R s m args below meth c H locs cells slots Q (F0 m pc arr (.int a :: rest))) (h : ai_sti n k pc ls st ws = some (.inr (.inl (pc2, ls2, st2, ws2)))) (kk : ai_X p l e R s m args below meth c Q b n0 s0 cI cB cY dC dI A pc2 ls2 st2 ws2) : ai_X p l e R s m args below meth c Q b n0 s0 cI cB cY dC dI A pc ls st ws := by
  unfold ai_sti ai_go at h
  split at h
  · split at h
    · rename_i x st hk
      cases h
      intro arr H locs cells slots hl hP hD hS h1 h2
      exact row (ai_l_has hl) hk (fun arr2 h3 => kk arr2 H locs cells slots (ai_l_store (v := .int x) hk rfl h3) hP hD hS h1 h2)
    · cases h
  · cases h
theorem ai_stf_ok {n k pc pc2 : Nat} {ls st ls2 st2 : List Value} {ws ws2 : ai_W} (row : ∀ {H : Heap} {locs : List Loc} {cells slots nL : Nat} {arr : Array Slot} {rest : List Value} {a : UInt32} {lv : List (Nat × Value)}, lv_has arr nL lv → k < nL → (∀ arr2 : Array Slot, lv_has arr2 nL ((k, Value.float a) :: lv.filter (fun q => !(q.1 == k) && !(q.1 + 1 == k && q.2.category == 2))) → W p l e R s m args below meth c H locs cells slots Q (F0 m (pc + n) arr2 rest)) → W p l e R s m args below meth c H locs cells slots Q (F0 m pc arr (.float a :: rest))) (h : ai_stf n k pc ls st ws = some (.inr (.inl (pc2, ls2, st2, ws2)))) (kk : ai_X p l e R s m args below meth c Q b n0 s0 cI cB cY dC dI A pc2 ls2 st2 ws2) : ai_X p l e R s m args below meth c Q b n0 s0 cI cB cY dC dI A pc ls st ws := by
  unfold ai_stf ai_go at h
  split at h
  · split at h
    · rename_i x st hk
      cases h
      intro arr H locs cells slots hl hP hD hS h1 h2
      exact row (ai_l_has hl) hk (fun arr2 h3 => kk arr2 H locs cells slots (ai_l_store (v := .float x) hk rfl h3) hP hD hS h1 h2)
    · cases h
  · cases h
theorem ai_sta_ok {n k pc pc2 : Nat} {ls st ls2 st2 : List Value} {ws ws2 : ai_W} (row : ∀ {H : Heap} {locs : List Loc} {cells slots nL : Nat} {arr : Array Slot} {rest : List Value} {a : Nat} {lv : List (Nat × Value)}, lv_has arr nL lv → k < nL → (∀ arr2 : Array Slot, lv_has arr2 nL ((k, Value.ref a) :: lv.filter (fun q => !(q.1 == k) && !(q.1 + 1 == k && q.2.category == 2))) → W p l e R s m args below meth c H locs cells slots Q (F0 m (pc + n) arr2 rest)) → W p l e R s m args below meth c H locs cells slots Q (F0 m pc arr (.ref a :: rest))) (h : ai_sta n k pc ls st ws = some (.inr (.inl (pc2, ls2, st2, ws2)))) (kk : ai_X p l e R s m args below meth c Q b n0 s0 cI cB cY dC dI A pc2 ls2 st2 ws2) : ai_X p l e R s m args below meth c Q b n0 s0 cI cB cY dC dI A pc ls st ws := by
  unfold ai_sta ai_go at h
  split at h
  · split at h
    · rename_i x st hk
      cases h
      intro arr H locs cells slots hl hP hD hS h1 h2
      exact row (ai_l_has hl) hk (fun arr2 h3 => kk arr2 H locs cells slots (ai_l_store (v := .ref x) hk rfl h3) hP hD hS h1 h2)
    · cases h
  · cases h
theorem ai_bin_ok {pc pc2 : Nat} {f : Int32 → Int32 → Option Int32} {ls st ls2 st2 : List Value} {ws ws2 : ai_W} (row : ∀ {H : Heap} {locs : List Loc} {cells slots : Nat} {arr : Array Slot} {rest : List Value} {x y z : Int32}, f x y = some z → W p l e R s m args below meth c H locs cells slots Q (F0 m (pc + 1) arr (.int z :: rest)) → W p l e R s m args below meth c H locs cells slots Q (F0 m pc arr (.int y :: .int x :: rest))) (h : ai_bin f pc ls st ws = some (.inr (.inl (pc2, ls2, st2, ws2)))) (kk : ai_X p l e R s m args below meth c Q b n0 s0 cI cB cY dC dI A pc2 ls2 st2 ws2) : ai_X p l e R s m args below meth c Q b n0 s0 cI cB cY dC dI A pc ls st ws := by
  unfold ai_bin ai_go at h
  split at h
  · split at h
    · rename_i hz
      cases h
      intro arr H locs cells slots hl hP hD hS h1 h2
      exact row hz (kk arr H locs cells slots hl hP hD hS h1 h2)
    · cases h
  · cases h
theorem ai_fb_ok {pc pc2 : Nat} {f : UInt32 → UInt32 → UInt32} {ls st ls2 st2 : List Value} {ws ws2 : ai_W} (row : ∀ {H : Heap} {locs : List Loc} {cells slots : Nat} {arr : Array Slot} {rest : List Value} {x y : UInt32}, vf_n32 (f x y) → W p l e R s m args below meth c H locs cells slots Q (F0 m (pc + 1) arr (.float (f x y) :: rest)) → W p l e R s m args below meth c H locs cells slots Q (F0 m pc arr (.float y :: .float x :: rest))) (h : ai_fb f pc ls st ws = some (.inr (.inl (pc2, ls2, st2, ws2)))) (kk : ai_X p l e R s m args below meth c Q b n0 s0 cI cB cY dC dI A pc2 ls2 st2 ws2) : ai_X p l e R s m args below meth c Q b n0 s0 cI cB cY dC dI A pc ls st ws := by
  unfold ai_fb ai_go at h
  split at h
  · split at h
    · rename_i hz
      cases h
      intro arr H locs cells slots hl hP hD hS h1 h2
      exact row hz (kk arr H locs cells slots hl hP hD hS h1 h2)
    · cases h
  · cases h
theorem ai_tgt_of {pc t : Nat} {off : Int} (h : ai_tgt pc off = some t) : (pc : Int) + off = (t : Int) := by
  unfold ai_tgt at h
  split at h
  · rename_i q hq
    cases h
    exact hq
  · cases h
theorem ai_jmp_ok {pc pc2 : Nat} {off : Int} {t : Bool} {pre ls st ls2 st2 : List Value} {ws ws2 : ai_W} (row : ∀ {H : Heap} {locs : List Loc} {cells slots tgt : Nat} {arr : Array Slot} {rest : List Value}, (pc : Int) + off = (tgt : Int) → W p l e R s m args below meth c H locs cells slots Q (F0 m (if t = true then tgt else pc + 3) arr rest) → W p l e R s m args below meth c H locs cells slots Q (F0 m pc arr (pre.map (ai_cv b) ++ rest))) (h : ai_jmp pc off t ls st ws = some (.inr (.inl (pc2, ls2, st2, ws2)))) (kk : ai_X p l e R s m args below meth c Q b n0 s0 cI cB cY dC dI A pc2 ls2 st2 ws2) : ai_X p l e R s m args below meth c Q b n0 s0 cI cB cY dC dI A pc ls (pre ++ st) ws := by
  unfold ai_jmp ai_go at h
  split at h
  · rename_i q hq
    cases h
    intro arr H locs cells slots hl hP hD hS h1 h2
    rw [List.map_append]
    exact row (ai_tgt_of hq) (kk arr H locs cells slots hl hP hD hS h1 h2)
  · cases h
theorem ai_cmp_row {cc : ByteArray} {pc : Nat} {cd : Jvm.ClassFile.Cond} {off : Int} (hx : p.tables.exec = Jvm.exec) (hb : c.code = cc) (hd : decode cc pc = .ok (.if_icmp cd off, 3)) {x y : Int32} {H : Heap} {locs : List Loc} {cells slots tgt : Nat} {arr : Array Slot} {rest : List Value} (ht : (pc : Int) + off = (tgt : Int)) (k : W p l e R s m args below meth c H locs cells slots Q (F0 m (if ai_cmp cd x y = true then tgt else pc + 3) arr rest)) : W p l e R s m args below meth c H locs cells slots Q (F0 m pc arr (.int y :: .int x :: rest)) := by
  cases cd
  · refine lv_icmp_eq hx hb hd ht (fun h => ?_) (fun h => ?_)
    · rw [if_pos (show ai_cmp .eq x y = true from decide_eq_true h)] at k; exact k
    · rw [if_neg (by rw [show ai_cmp .eq x y = false from decide_eq_false h]; decide)] at k; exact k
  · refine lv_icmp_ne hx hb hd ht (fun h => ?_) (fun h => ?_)
    · rw [if_pos (show ai_cmp .ne x y = true from decide_eq_true h)] at k; exact k
    · rw [if_neg (by rw [show ai_cmp .ne x y = false from decide_eq_false (by simpa using h)]; decide)] at k; exact k
  · refine lv_icmp_lt hx hb hd ht (fun h => ?_) (fun h => ?_)
    · rw [if_pos (show ai_cmp .lt x y = true from decide_eq_true h)] at k; exact k
    · rw [if_neg (by rw [show ai_cmp .lt x y = false from decide_eq_false h]; decide)] at k; exact k
  · refine lv_icmp_ge hx hb hd ht (fun h => ?_) (fun h => ?_)
    · rw [if_pos (show ai_cmp .ge x y = true from decide_eq_true h)] at k; exact k
    · rw [if_neg (by rw [show ai_cmp .ge x y = false from decide_eq_false h]; decide)] at k; exact k
  · refine lv_icmp_gt hx hb hd ht (fun h => ?_) (fun h => ?_)
    · rw [if_pos (show ai_cmp .gt x y = true from decide_eq_true h)] at k; exact k
    · rw [if_neg (by rw [show ai_cmp .gt x y = false from decide_eq_false h]; decide)] at k; exact k
  · refine lv_icmp_le hx hb hd ht (fun h => ?_) (fun h => ?_)
    · rw [if_pos (show ai_cmp .le x y = true from decide_eq_true h)] at k; exact k
    · rw [if_neg (by rw [show ai_cmp .le x y = false from decide_eq_false h]; decide)] at k; exact k
theorem ai_if_row {cc : ByteArray} {pc : Nat} {cd : Jvm.ClassFile.Cond} {off : Int} (hx : p.tables.exec = Jvm.exec) (hb : c.code = cc) (hd : decode cc pc = .ok (.ifCond cd off, 3)) {x : Int32} {H : Heap} {locs : List Loc} {cells slots tgt : Nat} {arr : Array Slot} {rest : List Value} (ht : (pc : Int) + off = (tgt : Int)) (k : W p l e R s m args below meth c H locs cells slots Q (F0 m (if ai_cmp cd x 0 = true then tgt else pc + 3) arr rest)) : W p l e R s m args below meth c H locs cells slots Q (F0 m pc arr (.int x :: rest)) := by
  cases cd
  · refine lv_if_eq hx hb hd ht (fun h => ?_) (fun h => ?_)
    · rw [if_pos (show ai_cmp .eq x 0 = true from decide_eq_true h)] at k; exact k
    · rw [if_neg (by rw [show ai_cmp .eq x 0 = false from decide_eq_false h]; decide)] at k; exact k
  · refine lv_if_ne hx hb hd ht (fun h => ?_) (fun h => ?_)
    · rw [if_pos (show ai_cmp .ne x 0 = true from decide_eq_true h)] at k; exact k
    · rw [if_neg (by rw [show ai_cmp .ne x 0 = false from decide_eq_false (by simpa using h)]; decide)] at k; exact k
  · refine lv_if_lt hx hb hd ht (fun h => ?_) (fun h => ?_)
    · rw [if_pos (show ai_cmp .lt x 0 = true from decide_eq_true h)] at k; exact k
    · rw [if_neg (by rw [show ai_cmp .lt x 0 = false from decide_eq_false h]; decide)] at k; exact k
  · refine lv_if_ge hx hb hd ht (fun h => ?_) (fun h => ?_)
    · rw [if_pos (show ai_cmp .ge x 0 = true from decide_eq_true h)] at k; exact k
    · rw [if_neg (by rw [show ai_cmp .ge x 0 = false from decide_eq_false h]; decide)] at k; exact k
  · refine lv_if_gt hx hb hd ht (fun h => ?_) (fun h => ?_)
    · rw [if_pos (show ai_cmp .gt x 0 = true from decide_eq_true h)] at k; exact k
    · rw [if_neg (by rw [show ai_cmp .gt x 0 = false from decide_eq_false h]; decide)] at k; exact k
  · refine lv_if_le hx hb hd ht (fun h => ?_) (fun h => ?_)
    · rw [if_pos (show ai_cmp .le x 0 = true from decide_eq_true h)] at k; exact k
    · rw [if_neg (by rw [show ai_cmp .le x 0 = false from decide_eq_false h]; decide)] at k; exact k
end AIS
