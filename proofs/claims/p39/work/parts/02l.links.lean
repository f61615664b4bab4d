/-! The links. -/
def ai_nest : List (String × Nat × MethodName) := (List.range ai_vm.length).flatMap fun v => match ai_vm[v]?, ai_vc[v]? with
  | some l, some own => (l.filter fun e => decide (e.2.1 = 3 ∨ e.2.1 = 4)).map fun e => (own, e.1, ai_name e.2.2.1)
  | _, _ => []
theorem ai_nest_ok : ai_nest.all (fun e => decide (Cond.methodLinkNest e.1 e.2.1 e.2.2 "StoryCoroner" ∈ lw_tbl)) = true := by decide +kernel
def ai_cn (ci : Nat) : String := ((vwCl[ci]?).map fun r => r.1).getD ""
def ai_mn (y : Nat) : Nat × Nat × Nat × Nat := (ai_mw[y]?).getD (0, 0, 0, 0)
def ai_okl (v : Nat) (e : Nat × (Nat × Nat × Nat)) : Bool := match ai_vc[v]? with
  | some own => match e with
    | (cp, 0, y, i) => ai_has i (.methodLink own cp (ai_name y)) && decide (ai_kind y = 1) && ai_has (ai_mn y).2.2.2 (.selects (ai_name y).cls (ai_name y) (ai_name y)) && decide (ai_cn (ai_ci y) = (ai_name y).cls) && decide (y < 202)
    | (cp, 1, y, i) => ai_has i (.methodLink own cp (ai_name y)) && decide (ai_kind y = 0) && decide (y < 202)
    | (cp, 2, y, i) => ai_has i (.methodLink own cp (ai_name y)) && decide (ai_kind y = 2) && decide (y < 202)
    | (cp, 3, y, _) => decide ((own, cp, ai_name y) ∈ ai_nest) && decide (ai_kind y = 0) && decide (y < 202)
    | (cp, 4, y, _) => decide ((own, cp, ai_name y) ∈ ai_nest) && decide (ai_kind y = 2) && decide (y < 202)
    | (cp, 5, _, i) => ai_has i (.methodLink own cp Lib.objectInit)
    | (cp, 6, _, i) => ai_has i (.methodLink own cp arraycopyName)
    | (cp, 8, y, k) => match ai_vu[k]? with
      | some (x, wl, ws, we) => ai_has wl (.methodLink own cp (ai_name x)) && ai_has ws (.sameMethod (ai_name x).cls (ai_name x).cls (ai_name x).name (ai_name x).desc) && ai_has we (.selects (ai_cn (ai_ci y)) (ai_name x) (ai_name y)) && decide (ai_kind y = 1) && decide (ai_kind x = 1) && decide (x < 202) && decide (y < 202) && decide ((ai_n x) = ai_n y)
      | none => false
    | (cp, 9, y, k) => match ai_vs[k]? with
      | some (wl, ws, wu) => ai_has wl (.methodLink own cp (ai_name y)) && ai_has ws (.sameMethod (ai_name y).cls (ai_name y).cls (ai_name y).name (ai_name y).desc) && ai_has wu (.superclass own (ai_name y).cls) && decide (ai_kind y = 1) && decide (y < 202)
      | none => false
    | (cp, 10, _, i) => ai_has i (.methodLink own cp ⟨"[B", "clone", "()Ljava/lang/Object;"⟩)
    | _ => false
  | none => false
theorem ai_okl_all : (List.range ai_vm.length).all (fun v => match ai_vm[v]? with | some l => l.all (ai_okl v) | none => true) = true := by decide +kernel
def ai_okf (v : Nat) (e : Nat × (Nat × Nat × Nat)) : Bool := match ai_vc[v]?, vwCl[e.2.1]? with
  | some own, some r => decide (e.2.2.1 < r.2.2) && ai_has e.2.2.2 (.fieldLink own e.1 (r.2.1 e.2.2.1).1 (r.2.1 e.2.2.1).2.1 (r.2.1 e.2.2.1).2.2.1) && (!(r.2.1 e.2.2.1).2.2.2 || decide ((r.2.1 e.2.2.1).1 = r.1))
  | _, _ => false
theorem ai_okf_all : (List.range ai_vf.length).all (fun v => match ai_vf[v]? with | some l => l.all (ai_okf v) | none => true) = true := by decide +kernel
/-- the statics: class, name, descriptor -/
def ai_gs : List (String × String × String) := [("java/lang/String", "COMPACT_STRINGS", "Z"), ("java/lang/Integer", "DigitOnes", "[B"), ("java/lang/Integer", "DigitTens", "[B"), ("jdk/internal/util/Preconditions", "SIOOBE_FORMATTER", "Ljava/util/function/BiFunction;")]
def ai_okg (v : Nat) (e : Nat × (Nat × Nat)) : Bool := match ai_vc[v]?, ai_gs[e.2.1]? with
  | some own, some r => ai_has e.2.2 (.fieldLink own e.1 r.1 r.2.1 r.2.2)
  | _, _ => false
theorem ai_okg_all : (List.range ai_vg.length).all (fun v => match ai_vg[v]? with | some l => l.all (ai_okg v) | none => true) = true := by decide +kernel
def ai_okt (v : Nat) (e : Nat × Nat) : Bool := match ai_vc[v]?, ai_tx[e.2]? with
  | some own, some r => decide (own = "StoryCoronerLaw") && decide (r.1 = e.1)
  | _, _ => false
theorem ai_okt_all : (List.range ai_vt.length).all (fun v => match ai_vt[v]? with | some l => l.all (ai_okt v) | none => true) = true := by decide +kernel
def ai_okn (v : Nat) (e : Nat × (Nat × Nat × Nat × Nat)) : Bool := match ai_vc[v]?, vwCl[e.2.1]? with
  | some own, some r => ai_has e.2.2.1 (.classLink own e.1 r.1) && ai_has e.2.2.2.1 (.instantiable r.1 r.2.2) && ai_has e.2.2.2.2 (.initialized r.1)
  | _, _ => false
theorem ai_okn_all : (List.range ai_vn.length).all (fun v => match ai_vn[v]? with | some l => l.all (ai_okn v) | none => true) = true := by decide +kernel
def ai_okk (v : Nat) (e : Nat × ((Int32 ⊕ UInt32) × Nat)) : Bool := match ai_vc[v]? with
  | some own => match e.2.1 with
    | .inl x => ai_has e.2.2 (.constant own e.1 x)
    | .inr x => ai_has e.2.2 (.constantFloat own e.1 x)
  | none => false
theorem ai_okk_all : (List.range ai_vk.length).all (fun v => match ai_vk[v]? with | some l => l.all (ai_okk v) | none => true) = true := by decide +kernel
def ai_okc (r : vw_C) : Bool := (u_ws r.1 r.2.1 r.2.2).all (fun w => decide (w ∈ lw_tbl) && goodWord w) && (List.range r.2.2).all (fun a => (parseFieldDescriptor (r.2.1 a).2.2.1).isSome && (List.range r.2.2).all (fun b => decide (a = b) || decide ((r.2.1 a).2.1 ≠ (r.2.1 b).2.1)))
theorem ai_okc_all : vwCl.all ai_okc = true := by decide +kernel
theorem ai_wao : Cond.arrayOver (.object RX0) ∈ lw_tbl := List.mem_of_getElem? (i := ai_w_arro) (by decide +kernel)
theorem ai_wp_ok : ai_has ai_w_arri (.arrayClass .int) = true ∧ ai_has ai_w_ncopy (.native arraycopyName) = true ∧ ai_has ai_w_arrb (.arrayClass .byte) = true := by decide +kernel
theorem ai_wo_ok : ai_has ai_w_obji (.instanceMethod Lib.objectInit) = true ∧ ai_has ai_w_objc (.code Lib.objectInit ⟨#[0xb1]⟩ 1 none) = true ∧ ai_has ai_w_syss (.static arraycopyName) = true ∧ ai_has ai_w_sysi (.initialized "java/lang/System") = true := by decide +kernel
theorem ai_wc_ok : ai_has ai_w_clsame (.sameMethod "[B" "java/lang/Object" "clone" "()Ljava/lang/Object;") = true ∧ ai_has ai_w_nclone (.native ⟨"java/lang/Object", "clone", "()Ljava/lang/Object;"⟩) = true ∧ ai_has ai_w_clinst (.instanceMethod ⟨"java/lang/Object", "clone", "()Ljava/lang/Object;"⟩) = true ∧ ai_has ai_w_clsel (.selects "[B" ⟨"[B", "clone", "()Ljava/lang/Object;"⟩ ⟨"java/lang/Object", "clone", "()Ljava/lang/Object;"⟩) = true ∧ ai_has ai_w_clcl (.classLink "java/util/Arrays" 311 "[B") = true ∧ lw_tbl[ai_w_clcast]? = some (.castable "[B" "java/lang/Cloneable") := by decide +kernel
