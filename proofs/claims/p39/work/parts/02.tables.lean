/-! The tables: every row that the plain machine looks up has its word in the Statement. -/
def ai_find {β : Type} : List (Nat × β) → Nat → Option β
  | [], _ => none
  | (k, v) :: l, c => if k = c then some v else ai_find l c
def ai_lk {β : Type} (t : List (List (Nat × β))) (v cp : Nat) : Option β := match t[v]? with
  | some l => ai_find l cp
  | none => none
def ai_m (y : Nat) : ai_MI := (ai_mt[y]?).getD (⟨"", "", ""⟩, ⟨#[]⟩, 0, none, 0, 0, 0, 0, 0, 0)
def ai_name (y : Nat) : MethodName := (ai_m y).1
def ai_code (y : Nat) : ByteArray := (ai_m y).2.1
def ai_L (y : Nat) : Nat := (ai_m y).2.2.1
def ai_ret (y : Nat) : Option FieldType := (ai_m y).2.2.2.1
def ai_n (y : Nat) : Nat := (ai_m y).2.2.2.2.1
def ai_kind (y : Nat) : Nat := (ai_m y).2.2.2.2.2.1
def ai_ci (y : Nat) : Nat := (ai_m y).2.2.2.2.2.2.1
def ai_view (y : Nat) : Nat := (ai_m y).2.2.2.2.2.2.2.1
def ai_fr (y : Nat) : Nat := (ai_m y).2.2.2.2.2.2.2.2.1
def ai_lo (y : Nat) : Nat := (ai_m y).2.2.2.2.2.2.2.2.2
theorem ai_find_mem {β : Type} {l : List (Nat × β)} {c : Nat} {v : β} (h : ai_find l c = some v) : (c, v) ∈ l := by
  induction l with
  | nil => cases h
  | cons a l ih =>
    obtain ⟨k, w⟩ := a
    unfold ai_find at h
    by_cases hk : k = c
    · rw [if_pos hk] at h
      cases h
      subst hk
      exact List.mem_cons_self
    · rw [if_neg hk] at h
      exact List.mem_cons_of_mem _ (ih h)
theorem ai_lk_mem {β : Type} {t : List (List (Nat × β))} {v c : Nat} {r : β} (h : ai_lk t v c = some r) : ∃ l, t[v]? = some l ∧ (c, r) ∈ l := by
  unfold ai_lk at h
  split at h
  · rename_i l hl
    exact ⟨l, hl, ai_find_mem h⟩
  · cases h
-- the words: those of the tables, and that a StringBuilder selects the private methods that it inherits
def ai_xs : List Cond := ai_pv.map fun m => Cond.selects "java/lang/StringBuilder" m m
def ai_tbl : List Cond := lw_tbl ++ ai_xs
theorem ai_selp {C : String} {y y0 : MethodName} {s : State} {args : Array Value} {n : Nat} (h0 : (Cond.selects C y0 y0).before args s = true) (hy0 : y0.cls = y.cls) (hy : y.cls ≠ "java/lang/invoke/MethodHandle" ∧ y.cls ≠ "java/lang/invoke/VarHandle") (hins : (Cond.instantiable C n).before args s = true) (hpriv : (Cond.privateMethod y).before args s = true) (hinst : (Cond.instanceMethod y).before args s = true) : (Cond.selects C y y).before args s = true := by
  obtain ⟨c, k, hc, hk, -, hniab, -, -⟩ := Cond.instantiable_spec hins
  have hni : k.isInterface = false := (Bool.or_eq_false_iff.mp hniab).1
  obtain ⟨mk, methM, hnamed, hmethM, -, -⟩ := Cond.instanceMethod_spec hinst
  have hfound : s.methodFound? y.cls y.name y.desc = some mk := State.methodFound?_of_named hnamed hy
  have hsel : selectMethod {} s.vm c mk = .method mk := selectMethod_private hmethM (Cond.privateMethod_at hpriv mk methM hnamed hmethM)
  obtain ⟨c2, r2, m2, q1, q2, q3, q4, kP, hkP, hkPi⟩ := Cond.selects_spec h0
  have e1 : m2.cls = mk.cls := Option.some.inj ((findClass_of_methodNamed q3).symm.trans (by rw [hy0]; exact findClass_of_methodNamed hnamed))
  rw [e1] at hkP
  simp only [Cond.before, Cond.holds, Cond.value, hc, hfound, hnamed, hsel, hk, hkP]
  simp [hkPi]
theorem ai_pv_ok : (List.range ai_pv.length).all (fun i => match ai_pv[i]?, ai_pvw[i]? with
  | some m, some w => decide (m.cls ≠ "java/lang/invoke/MethodHandle" ∧ m.cls ≠ "java/lang/invoke/VarHandle") && decide (m.cls = "java/lang/AbstractStringBuilder") && decide (lw_tbl[w.1]? = some (.privateMethod m)) && decide (lw_tbl[w.2]? = some (.instanceMethod m))
  | _, _ => false) = true := by decide +kernel
theorem ai_sbi_ok : lw_tbl[ai_w_sbi]? = some (.instantiable "java/lang/StringBuilder" 4) := by decide +kernel
theorem ai_sb0_ok : Cond.selects "java/lang/StringBuilder" ⟨"java/lang/AbstractStringBuilder", "isLatin1", "()Z"⟩ ⟨"java/lang/AbstractStringBuilder", "isLatin1", "()Z"⟩ ∈ lw_tbl := by decide +kernel
theorem ai_tbl_ok {args : Array Value} {s : State} (h : ∀ w ∈ lw_tbl, w.before args s = true) : ∀ w ∈ ai_tbl, w.before args s = true := by
  intro w hw
  rcases List.mem_append.mp hw with hw | hw
  · exact h w hw
  · obtain ⟨m, hm, rfl⟩ := List.mem_map.mp hw
    obtain ⟨i, hi⟩ := List.getElem?_of_mem hm
    have hl : i < ai_pv.length := (List.getElem?_eq_some_iff.mp hi).1
    have h1 := List.all_eq_true.mp ai_pv_ok i (List.mem_range.mpr hl)
    rw [hi] at h1
    split at h1
    · rename_i m2 w e1 e2
      cases e1
      simp only [Bool.and_eq_true, decide_eq_true_eq] at h1
      exact ai_selp (h _ ai_sb0_ok) h1.1.1.2.symm h1.1.1.1 (h _ (List.mem_of_getElem? ai_sbi_ok)) (h _ (List.mem_of_getElem? h1.1.2)) (h _ (List.mem_of_getElem? h1.2))
    · cases h1
def ai_T : List Cond := ai_tbl.filter goodWord
def ai_has (i : Nat) (w : Cond) : Bool := (match ai_tbl[i]? with
  | some v => decide (v = w)
  | none => false) && goodWord w
theorem ai_has_in {i : Nat} {w : Cond} (h : ai_has i w = true) : w ∈ ai_T := by
  unfold ai_has at h
  rw [Bool.and_eq_true] at h
  refine List.mem_filter.mpr ⟨?_, h.2⟩
  have h1 := h.1
  split at h1
  · rename_i v hv
    rw [decide_eq_true_eq] at h1
    subst h1
    exact List.mem_of_getElem? hv
  · cases h1
theorem ai_T_in : ∀ w ∈ ai_T, w ∈ ai_tbl := fun w h => (List.mem_filter.mp h).1
theorem ai_T_good : ∀ w ∈ ai_T, goodWord w = true := fun w h => (List.mem_filter.mp h).2
def ai_okm (y : Nat) : Bool := match ai_mt[y]?, ai_mw[y]? with
  | some q, some (_, b, c, _) => ai_has b (.initialized q.1.cls) && decide (q.1.cls ≠ "java/lang/invoke/MethodHandle") && decide (q.1.cls ≠ "java/lang/invoke/VarHandle") && plainFor q.1 && decide ((parseMethodDescriptor q.1.desc).map (fun d => d.parameters.length) = some q.2.2.2.2.1) && decide (q.2.2.1 ≤ 30)
    && (if q.2.2.2.2.2.1 = 0 then ai_has c (.static q.1) else ai_has c (.instanceMethod q.1) && ((vwCl[q.2.2.2.2.2.2.1]?).isSome) && (if q.2.2.2.2.2.1 = 1 then decide (q.1.name ≠ "<init>") else decide (q.1.name = "<init>") && decide (q.2.2.2.1 = none)))
  | _, _ => false
theorem ai_okm_all : (List.range 202).all ai_okm = true := by decide +kernel
theorem ai_okv_all : (List.range 203).all (fun y => match ai_mt[y]? with | some q => decide (ai_vc[q.2.2.2.2.2.2.2.1]? = some q.1.cls) | none => false) = true := by decide +kernel
def ai_okd (y : Nat) : Bool := match ai_mt[y]?, ai_mw[y]? with
  | some q, some w => ai_has w.1 (.code q.1 q.2.1 q.2.2.1 q.2.2.2.1)
  | _, _ => false
