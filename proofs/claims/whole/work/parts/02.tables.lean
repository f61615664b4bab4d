/-! The tables: every row that the plain machine looks up has its word in the Statement. -/
def ai_find {β : Type} : List (Nat × β) → Nat → Option β
  | [], _ => none
  | (k, v) :: l, c => if k = c then some v else ai_find l c
def ai_lk {β : Type} (t : List (List (Nat × β))) (v cp : Nat) : Option β := match t[v]? with
  | some l => ai_find l cp
  | none => none
def ai_m (y : Nat) : ai_MI := (ai_mt[y]?).getD (⟨"", "", ""⟩, ⟨#[]⟩, 0, none, 0, 0, 0, 0)
def ai_name (y : Nat) : MethodName := (ai_m y).1
def ai_code (y : Nat) : ByteArray := (ai_m y).2.1
def ai_L (y : Nat) : Nat := (ai_m y).2.2.1
def ai_ret (y : Nat) : Option FieldType := (ai_m y).2.2.2.1
def ai_n (y : Nat) : Nat := (ai_m y).2.2.2.2.1
def ai_kind (y : Nat) : Nat := (ai_m y).2.2.2.2.2.1
def ai_ci (y : Nat) : Nat := (ai_m y).2.2.2.2.2.2.1
def ai_view (y : Nat) : Nat := (ai_m y).2.2.2.2.2.2.2
theorem ai_find_mem {β : Type} {l : List (Nat × β)} {c : Nat} {v : β} (h : ai_find l c = some v) : (c, v) ∈ l := by
  induction l with
  | nil => cases h
  | cons a l ih =>
    obtain ⟨k, w⟩ := a
    unfold ai_find at h
    by_cases hk : k = c
    · rw [if_pos hk] at h
      cases h
      subst hk
      exact List.mem_cons_self
    · rw [if_neg hk] at h
      exact List.mem_cons_of_mem _ (ih h)
theorem ai_lk_mem {β : Type} {t : List (List (Nat × β))} {v c : Nat} {r : β} (h : ai_lk t v c = some r) : ∃ l, t[v]? = some l ∧ (c, r) ∈ l := by
  unfold ai_lk at h
  split at h
  · rename_i l hl
    exact ⟨l, hl, ai_find_mem h⟩
  · cases h
-- the words
def ai_T : List Cond := lw_tbl.filter goodWord
def ai_has (i : Nat) (w : Cond) : Bool := (match lw_tbl[i]? with
  | some v => decide (v = w)
  | none => false) && goodWord w
theorem ai_has_in {i : Nat} {w : Cond} (h : ai_has i w = true) : w ∈ ai_T := by
  unfold ai_has at h
  rw [Bool.and_eq_true] at h
  refine List.mem_filter.mpr ⟨?_, h.2⟩
  have h1 := h.1
  split at h1
  · rename_i v hv
    rw [decide_eq_true_eq] at h1
    subst h1
    exact List.mem_of_getElem? hv
  · cases h1
theorem ai_T_in : ∀ w ∈ ai_T, w ∈ lw_tbl := fun w h => (List.mem_filter.mp h).1
theorem ai_T_good : ∀ w ∈ ai_T, goodWord w = true := fun w h => (List.mem_filter.mp h).2
def ai_jdk : List MethodName := (ai_mt.filter fun q => decide (q.2.2.2.2.2.2.1 = 99)).map fun q => q.1
theorem ai_jdk_ok : ai_jdk.all plainFor = true := by decide +kernel
def ai_okm (y : Nat) : Bool := match ai_mt[y]?, ai_mw[y]? with
  | some q, some (_, b, c, d) => ai_has b (.initialized q.1.cls) && decide (q.1.cls ≠ "java/lang/invoke/MethodHandle") && decide (q.1.cls ≠ "java/lang/invoke/VarHandle") && (Jvm.plainName q.1.cls || decide (q.2.2.2.2.2.2.1 = 99)) && decide ((parseMethodDescriptor q.1.desc).map (fun d => d.parameters.length) = some q.2.2.2.2.1) && decide (q.2.2.1 ≤ 20)
    && (if q.2.2.2.2.2.1 = 0 then ai_has c (.static q.1) else ai_has c (.instanceMethod q.1) && decide (((vwCl[q.2.2.2.2.2.2.1]?).map fun r => r.1) = some q.1.cls) && (if q.2.2.2.2.2.1 = 1 then ai_has d (.selects q.1.cls q.1 q.1) else decide (q.1.name = "<init>") && decide (q.2.2.2.1 = none)))
    && decide (ai_vc[q.2.2.2.2.2.2.2]? = some q.1.cls)
  | _, _ => false
theorem ai_okm_all : (List.range 270).all ai_okm = true := by decide +kernel
def ai_okd (y : Nat) : Bool := match ai_mt[y]?, ai_mw[y]? with
  | some q, some w => ai_has w.1 (.code q.1 q.2.1 q.2.2.1 q.2.2.2.1)
  | _, _ => false
theorem ai_okd_0 : ((List.range 15).map (0 + ·)).all ai_okd = true := by decide +kernel
theorem ai_okd_1 : ((List.range 15).map (15 + ·)).all ai_okd = true := by decide +kernel
theorem ai_okd_2 : ((List.range 15).map (30 + ·)).all ai_okd = true := by decide +kernel
theorem ai_okd_3 : ((List.range 15).map (45 + ·)).all ai_okd = true := by decide +kernel
theorem ai_okd_4 : ((List.range 15).map (60 + ·)).all ai_okd = true := by decide +kernel
theorem ai_okd_5 : ((List.range 15).map (75 + ·)).all ai_okd = true := by decide +kernel
theorem ai_okd_6 : ((List.range 15).map (90 + ·)).all ai_okd = true := by decide +kernel
theorem ai_okd_7 : ((List.range 15).map (105 + ·)).all ai_okd = true := by decide +kernel
theorem ai_okd_8 : ((List.range 15).map (120 + ·)).all ai_okd = true := by decide +kernel
theorem ai_okd_9 : ((List.range 15).map (135 + ·)).all ai_okd = true := by decide +kernel
theorem ai_okd_10 : ((List.range 15).map (150 + ·)).all ai_okd = true := by decide +kernel
theorem ai_okd_11 : ((List.range 15).map (165 + ·)).all ai_okd = true := by decide +kernel
theorem ai_okd_12 : ((List.range 15).map (180 + ·)).all ai_okd = true := by decide +kernel
theorem ai_okd_13 : ((List.range 15).map (195 + ·)).all ai_okd = true := by decide +kernel
theorem ai_okd_14 : ((List.range 15).map (210 + ·)).all ai_okd = true := by decide +kernel
theorem ai_okd_15 : ((List.range 15).map (225 + ·)).all ai_okd = true := by decide +kernel
theorem ai_okd_16 : ((List.range 15).map (240 + ·)).all ai_okd = true := by decide +kernel
theorem ai_okd_17 : ((List.range 15).map (255 + ·)).all ai_okd = true := by decide +kernel
theorem ai_okd_all (y : Nat) (h : y < 270) : ai_okd y = true := by
  have key : ∀ k, ((List.range 15).map (k + ·)).all ai_okd = true → k ≤ y → y < k + 15 → ai_okd y = true := by
    intro k hk h1 h2
    refine List.all_eq_true.mp hk y (List.mem_map.mpr ⟨y - k, List.mem_range.mpr (by omega), by omega⟩)
  by_cases h0 : y < 15
  · exact key 0 ai_okd_0 (by omega) (by omega)
  by_cases h1 : y < 30
  · exact key 15 ai_okd_1 (by omega) (by omega)
  by_cases h2 : y < 45
  · exact key 30 ai_okd_2 (by omega) (by omega)
  by_cases h3 : y < 60
  · exact key 45 ai_okd_3 (by omega) (by omega)
  by_cases h4 : y < 75
  · exact key 60 ai_okd_4 (by omega) (by omega)
  by_cases h5 : y < 90
  · exact key 75 ai_okd_5 (by omega) (by omega)
  by_cases h6 : y < 105
  · exact key 90 ai_okd_6 (by omega) (by omega)
  by_cases h7 : y < 120
  · exact key 105 ai_okd_7 (by omega) (by omega)
  by_cases h8 : y < 135
  · exact key 120 ai_okd_8 (by omega) (by omega)
  by_cases h9 : y < 150
  · exact key 135 ai_okd_9 (by omega) (by omega)
  by_cases h10 : y < 165
  · exact key 150 ai_okd_10 (by omega) (by omega)
  by_cases h11 : y < 180
  · exact key 165 ai_okd_11 (by omega) (by omega)
  by_cases h12 : y < 195
  · exact key 180 ai_okd_12 (by omega) (by omega)
  by_cases h13 : y < 210
  · exact key 195 ai_okd_13 (by omega) (by omega)
  by_cases h14 : y < 225
  · exact key 210 ai_okd_14 (by omega) (by omega)
  by_cases h15 : y < 240
  · exact key 225 ai_okd_15 (by omega) (by omega)
  by_cases h16 : y < 255
  · exact key 240 ai_okd_16 (by omega) (by omega)
  by_cases h17 : y < 270
  · exact key 255 ai_okd_17 (by omega) (by omega)
  omega
def ai_nest : List (String × Nat × MethodName) := (List.range ai_vm.length).flatMap fun v => match ai_vm[v]?, ai_vc[v]? with
  | some l, some own => (l.filter fun e => decide (e.2.1 = 3 ∨ e.2.1 = 4)).map fun e => (own, e.1, ai_name e.2.2.1)
  | _, _ => []
theorem ai_nest_ok : ai_nest.all (fun e => decide (Cond.methodLinkNest e.1 e.2.1 e.2.2 "StoryCoroner" ∈ lw_tbl)) = true := by decide +kernel
def ai_okl (v : Nat) (e : Nat × (Nat × Nat × Nat)) : Bool := match ai_vc[v]? with
  | some own => match e with
    | (cp, 0, y, i) => ai_has i (.methodLink own cp (ai_name y)) && decide (ai_kind y = 1)
    | (cp, 1, y, i) => ai_has i (.methodLink own cp (ai_name y)) && decide (ai_kind y = 0)
    | (cp, 2, y, i) => ai_has i (.methodLink own cp (ai_name y)) && decide (ai_kind y = 2)
    | (cp, 3, y, _) => decide ((own, cp, ai_name y) ∈ ai_nest) && decide (ai_kind y = 0)
    | (cp, 4, y, _) => decide ((own, cp, ai_name y) ∈ ai_nest) && decide (ai_kind y = 2)
    | (cp, 5, _, i) => ai_has i (.methodLink own cp Lib.objectInit)
    | (cp, 6, _, i) => ai_has i (.methodLink own cp arraycopyName)
    | (cp, 7, _, i) => ai_has i (.methodLink own cp ⟨"java/lang/Float", "floatToRawIntBits", "(F)I"⟩)
    | _ => false
  | none => false
theorem ai_okl_all : (List.range ai_vm.length).all (fun v => match ai_vm[v]? with | some l => l.all (ai_okl v) | none => true) = true := by decide +kernel
def ai_okf (v : Nat) (e : Nat × (Nat × Nat × Nat)) : Bool := match ai_vc[v]?, vwCl[e.2.1]? with
  | some own, some r => decide (e.2.2.1 < r.2.2) && ai_has e.2.2.2 (.fieldLink own e.1 (r.2.1 e.2.2.1).1 (r.2.1 e.2.2.1).2.1 (r.2.1 e.2.2.1).2.2.1) && decide ((r.2.1 e.2.2.1).1 = r.1)
  | _, _ => false
theorem ai_okf_all : (List.range ai_vf.length).all (fun v => match ai_vf[v]? with | some l => l.all (ai_okf v) | none => true) = true := by decide +kernel
def ai_okn (v : Nat) (e : Nat × (Nat × Nat × Nat × Nat)) : Bool := match ai_vc[v]?, vwCl[e.2.1]? with
  | some own, some r => ai_has e.2.2.1 (.classLink own e.1 r.1) && ai_has e.2.2.2.1 (.instantiable r.1 r.2.2) && ai_has e.2.2.2.2 (.initialized r.1)
  | _, _ => false
theorem ai_okn_all : (List.range ai_vn.length).all (fun v => match ai_vn[v]? with | some l => l.all (ai_okn v) | none => true) = true := by decide +kernel
def ai_okk (v : Nat) (e : Nat × ((Int32 ⊕ UInt32) × Nat)) : Bool := match ai_vc[v]? with
  | some own => match e.2.1 with
    | .inl x => ai_has e.2.2 (.constant own e.1 x)
    | .inr x => ai_has e.2.2 (.constantFloat own e.1 x)
  | none => false
theorem ai_okk_all : (List.range ai_vk.length).all (fun v => match ai_vk[v]? with | some l => l.all (ai_okk v) | none => true) = true := by decide +kernel
def ai_okc (r : vw_C) : Bool := (u_ws r.1 r.2.1 r.2.2).all (fun w => decide (w ∈ lw_tbl) && goodWord w) && (List.range r.2.2).all (fun a => (parseFieldDescriptor (r.2.1 a).2.2.1).isSome && (List.range r.2.2).all (fun b => decide (a = b) || decide ((r.2.1 a).2.1 ≠ (r.2.1 b).2.1)))
theorem ai_okc_all : vwCl.all ai_okc = true := by decide +kernel
theorem ai_wao : Cond.arrayOver (.object RX0) ∈ lw_tbl := List.mem_of_getElem? (i := 259) (by decide +kernel)
theorem ai_wp_ok : ai_has 125 (.arrayClass .int) = true ∧ ai_has 383 (.native arraycopyName) = true ∧ ai_has 1473 (.native ⟨"java/lang/Float", "floatToRawIntBits", "(F)I"⟩) = true := by decide +kernel
theorem ai_wo_ok : ai_has ai_w_obji (.instanceMethod Lib.objectInit) = true ∧ ai_has ai_w_objc (.code Lib.objectInit ⟨#[0xb1]⟩ 1 none) = true ∧ ai_has ai_w_syss (.static arraycopyName) = true ∧ ai_has ai_w_sysi (.initialized "java/lang/System") = true ∧ ai_has ai_w_fls (.static ⟨"java/lang/Float", "floatToRawIntBits", "(F)I"⟩) = true ∧ ai_has ai_w_fli (.initialized "java/lang/Float") = true := by decide +kernel
