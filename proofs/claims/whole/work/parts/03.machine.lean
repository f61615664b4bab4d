/-! THE PLAIN MACHINE: the class's methods run over a list of cells (an int array, an array of references, an object); a reference is a place in the list. What it answers is a function; that the JVM does the same is shown once (parts 03, 04). -/
abbrev ai_C : Type := List Int32 ⊕ (List (Option Nat) ⊕ (Nat × List Value))
abbrev ai_W : Type := List ai_C
abbrev ai_R : Type := Option Value × ai_W
abbrev ai_G : Type := Nat × List Value × List Value × ai_W
abbrev ai_K : Type := Nat × List Value × List Value × Nat
abbrev ai_O : Type := ai_R ⊕ (ai_G ⊕ ai_K)
def ai_sz : ai_C → Nat
  | .inl l => l.length
  | .inr (.inl l) => l.length
  | .inr (.inr o) => o.2.length
def ai_sl (ws : ai_W) : Nat := (ws.map ai_sz).sum
-- cells
def ai_isob (ws : ai_W) (a ci : Nat) : Bool := match ws[a]? with
  | some (.inr (.inr (c, _))) => decide (c = ci)
  | _ => false
def ai_fget (ws : ai_W) (a ci k : Nat) : Option Value := match ws[a]? with
  | some (.inr (.inr (c, fs))) => if c = ci then fs[k]? else none
  | _ => none
def ai_pok : Option FieldType → Value → Bool
  | some .int, .int _ => true
  | some .boolean, .int v => v == 0 || v == 1
  | some (.object _), .ref _ => true
  | some (.array _), .ref _ => true
  | _, _ => false
def ai_cl (ci : Nat) : vw_C := (vwCl[ci]?).getD ("", fun _ => ("", "", "", false), 0)
def ai_fty (ci k : Nat) : Option FieldType := parseFieldDescriptor ((ai_cl ci).2.1 k).2.2.1
def ai_fput (ws : ai_W) (a ci k : Nat) (v : Value) : Option ai_W := match ws[a]? with
  | some (.inr (.inr (c, fs))) => if c = ci ∧ k < fs.length ∧ ai_pok (ai_fty ci k) v = true then some (ws.set a (.inr (.inr (c, fs.set k v)))) else none
  | _ => none
def ai_ix (i : Int32) (n : Nat) : Option Nat := if i < 0 ∨ n ≤ i.toNatClampNeg then none else some i.toNatClampNeg
def ai_aget (ws : ai_W) (a : Nat) (i : Int32) : Option Int32 := match ws[a]? with
  | some (.inl l) => (ai_ix i l.length).map fun j => l.getD j 0
  | _ => none
def ai_aset (ws : ai_W) (a : Nat) (i x : Int32) : Option ai_W := match ws[a]? with
  | some (.inl l) => (ai_ix i l.length).map fun j => ws.set a (.inl (l.set j x))
  | _ => none
def ai_len (ws : ai_W) (a : Nat) : Option Int32 := match ws[a]? with
  | some (.inl l) => some (Int32.ofNat l.length)
  | some (.inr (.inl l)) => some (Int32.ofNat l.length)
  | _ => none
def ai_qv : Option Nat → Value
  | some a => .ref a
  | none => .null
def ai_qget (ws : ai_W) (a : Nat) (i : Int32) : Option Value := match ws[a]? with
  | some (.inr (.inl l)) => (ai_ix i l.length).map fun j => ai_qv (l.getD j none)
  | _ => none
def ai_qset (ws : ai_W) (a : Nat) (i : Int32) (x : Nat) : Option ai_W := match ws[a]? with
  | some (.inr (.inl l)) => if ai_isob ws x 0 = true then (ai_ix i l.length).map fun j => ws.set a (.inr (.inl (l.set j (some x)))) else none
  | _ => none
/-- System.arraycopy of a whole array of ints over another one of its length -/
def ai_copy (ws : ai_W) (a : Nat) (i : Int32) (d : Nat) (j n : Int32) : Option ai_W := match ws[a]?, ws[d]? with
  | some (.inl l), some (.inl l2) => if i = 0 ∧ j = 0 ∧ ¬ n < 0 ∧ n.toNatClampNeg = l.length ∧ l2.length = l.length then some (ws.set d (.inl l)) else none
  | _, _ => none
def ai_dv : Option FieldType → Value
  | some (.object _) => .null
  | some (.array _) => .null
  | some .float => .float 0
  | _ => .int 0
def ai_blank (ci : Nat) : ai_C := .inr (.inr (ci, (List.range (ai_cl ci).2.2).map fun k => ai_dv (ai_fty ci k)))
-- one instruction
def ai_go (pc : Nat) (ls st : List Value) (ws : ai_W) : Option ai_O := some (.inr (.inl (pc, ls, st, ws)))
def ai_tgt (pc : Nat) (off : Int) : Option Nat := match (pc : Int) + off with
  | .ofNat t => some t
  | _ => none
def ai_cmp : Jvm.ClassFile.Cond → Int32 → Int32 → Bool
  | .eq, x, y => decide (x = y)
  | .ne, x, y => decide (¬ x = y)
  | .lt, x, y => decide (x < y)
  | .ge, x, y => decide (y ≤ x)
  | .gt, x, y => decide (y < x)
  | .le, x, y => decide (x ≤ y)
def ai_lda (n k pc : Nat) (ls st : List Value) (ws : ai_W) : Option ai_O := match ls[k]? with
  | some (.ref a) => ai_go (pc + n) ls (.ref a :: st) ws
  | _ => none
def ai_ldi (n k pc : Nat) (ls st : List Value) (ws : ai_W) : Option ai_O := match ls[k]? with
  | some (.int x) => ai_go (pc + n) ls (.int x :: st) ws
  | _ => none
def ai_ldf (n k pc : Nat) (ls st : List Value) (ws : ai_W) : Option ai_O := match ls[k]? with
  | some (.float x) => ai_go (pc + n) ls (.float x :: st) ws
  | _ => none
def ai_sti (n k pc : Nat) (ls st : List Value) (ws : ai_W) : Option ai_O := match st with
  | .int x :: st => if k < ls.length then ai_go (pc + n) (ls.set k (.int x)) st ws else none
  | _ => none
def ai_stf (n k pc : Nat) (ls st : List Value) (ws : ai_W) : Option ai_O := match st with
  | .float x :: st => if k < ls.length then ai_go (pc + n) (ls.set k (.float x)) st ws else none
  | _ => none
def ai_sta (n k pc : Nat) (ls st : List Value) (ws : ai_W) : Option ai_O := match st with
  | .ref x :: st => if k < ls.length then ai_go (pc + n) (ls.set k (.ref x)) st ws else none
  | _ => none
def ai_bin (f : Int32 → Int32 → Option Int32) (pc : Nat) (ls st : List Value) (ws : ai_W) : Option ai_O := match st with
  | .int y :: .int x :: st => match f x y with
    | some z => ai_go (pc + 1) ls (.int z :: st) ws
    | none => none
  | _ => none
def ai_fb (f : UInt32 → UInt32 → UInt32) (pc : Nat) (ls st : List Value) (ws : ai_W) : Option ai_O := match st with
  | .float y :: .float x :: st => if f x y &&& 0x7fffffff ≤ 0x7f800000 then ai_go (pc + 1) ls (.float (f x y) :: st) ws else none
  | _ => none
def ai_jmp (pc : Nat) (off : Int) (b : Bool) (ls st : List Value) (ws : ai_W) : Option ai_O := match ai_tgt pc off with
  | some t => ai_go (if b = true then t else pc + 3) ls st ws
  | none => none
def ai_call (y y2 : Nat) (kd : Nat) (pc : Nat) (st : List Value) : Option ai_O :=
  if y2 < y ∧ ai_kind y2 = kd then
    some (.inr (.inr (y2, (st.take (ai_n y2 + if kd = 0 then 0 else 1)).reverse, st.drop (ai_n y2 + if kd = 0 then 0 else 1), pc + 3)))
  else none
def ai_inv (y pc idx : Nat) (ls st : List Value) (ws : ai_W) : Option ai_O := match ai_lk ai_vm (ai_view y) idx with
  | some (0, y2, _) => ai_call y y2 1 pc st
  | _ => none
def ai_ins (y pc idx : Nat) (ls st : List Value) (ws : ai_W) : Option ai_O := match ai_lk ai_vm (ai_view y) idx with
  | some (1, y2, _) => ai_call y y2 0 pc st
  | some (3, y2, _) => ai_call y y2 0 pc st
  | some (6, _, _) => match st with
    | .int n :: .int j :: .ref d :: .int i :: .ref a :: st => match ai_copy ws a i d j n with
      | some ws => if st.length ≤ 4 then ai_go (pc + 3) ls st ws else none
      | none => none
    | _ => none
  | some (7, _, _) => match st with
    | .float x :: st => if st.length ≤ 4 then ai_go (pc + 3) ls (.int x.toInt32 :: st) ws else none
    | _ => none
  | _ => none
def ai_spc (y pc idx : Nat) (ls st : List Value) (ws : ai_W) : Option ai_O := match ai_lk ai_vm (ai_view y) idx with
  | some (2, y2, _) => ai_call y y2 2 pc st
  | some (4, y2, _) => ai_call y y2 2 pc st
  | some (5, _, _) => match st with
    | .ref _ :: st => if st.length ≤ 4 then ai_go (pc + 3) ls st ws else none
    | _ => none
  | _ => none
def ai_sw (pc : Nat) (d lo hi : Int) (offs : Array Int) (x : Int32) : Option Nat :=
  if x.toInt < lo ∨ hi < x.toInt then ai_tgt pc d else match offs[(x.toInt - lo).toNat]? with
    | some o => ai_tgt pc o
    | none => none
def ai_wide (pc v idx n : Nat) (ls st : List Value) (ws : ai_W) : Option ai_O := match ai_lk ai_vk v idx with
  | some (.inl x, _) => ai_go (pc + n) ls (.int x :: st) ws
  | some (.inr x, _) => if n = 3 then ai_go (pc + 3) ls (.float x :: st) ws else none
  | none => none
def ai_in (y pc : Nat) (ls st : List Value) (ws : ai_W) : Instr → Nat → Option ai_O
  | .aload_n k, 1 => ai_lda 1 k.val pc ls st ws
  | .aload k, 2 => ai_lda 2 k pc ls st ws
  | .iload_n k, 1 => ai_ldi 1 k.val pc ls st ws
  | .iload k, 2 => ai_ldi 2 k pc ls st ws
  | .fload_n k, 1 => ai_ldf 1 k.val pc ls st ws
  | .istore_n k, 1 => ai_sti 1 k.val pc ls st ws
  | .istore k, 2 => ai_sti 2 k pc ls st ws
  | .fstore_n k, 1 => ai_stf 1 k.val pc ls st ws
  | .astore_n k, 1 => ai_sta 1 k.val pc ls st ws
  | .astore k, 2 => ai_sta 2 k pc ls st ws
  | .iinc k n, 3 => match ls[k]? with
    | some (.int x) => ai_go (pc + 3) (ls.set k (.int (x + Int32.ofInt n))) st ws
    | _ => none
  | .iconst n, 1 => ai_go (pc + 1) ls (.int (Int32.ofInt n) :: st) ws
  | .bipush n, 2 => ai_go (pc + 2) ls (.int (Int8.ofInt n).toInt32 :: st) ws
  | .sipush n, 3 => ai_go (pc + 3) ls (.int (Int16.ofInt n).toInt32 :: st) ws
  | .fconst n, 1 => ai_go (pc + 1) ls (.float (if n = 0 then FP.fconst0 else if n = 1 then FP.fconst1 else FP.fconst2) :: st) ws
  | .ldc i, 2 => ai_wide pc (ai_view y) i 2 ls st ws
  | .ldc_w i, 3 => ai_wide pc (ai_view y) i 3 ls st ws
  | .iadd, 1 => ai_bin (fun x y => some (x + y)) pc ls st ws
  | .isub, 1 => ai_bin (fun x y => some (x - y)) pc ls st ws
  | .imul, 1 => ai_bin (fun x y => some (x * y)) pc ls st ws
  | .iand, 1 => ai_bin (fun x y => some (x &&& y)) pc ls st ws
  | .ior, 1 => ai_bin (fun x y => some (x ||| y)) pc ls st ws
  | .ixor, 1 => ai_bin (fun x y => some (x ^^^ y)) pc ls st ws
  | .ishl, 1 => ai_bin (fun x y => some (x <<< (y &&& 31))) pc ls st ws
  | .ishr, 1 => ai_bin (fun x y => some (x >>> (y &&& 31))) pc ls st ws
  | .iushr, 1 => ai_bin (fun x y => some (x.toUInt32 >>> (y.toUInt32 &&& Int32.toUInt32 31)).toInt32) pc ls st ws
  | .idiv, 1 => ai_bin (fun x y => if y = 0 then none else some (x / y)) pc ls st ws
  | .irem, 1 => ai_bin (fun x y => if y = 0 then none else some (x - x / y * y)) pc ls st ws
  | .ineg, 1 => match st with
    | .int x :: st => ai_go (pc + 1) ls (.int (-x) :: st) ws
    | _ => none
  | .i2f, 1 => match st with
    | .int x :: st => ai_go (pc + 1) ls (.float (FP.i2f x) :: st) ws
    | _ => none
  | .f2i, 1 => match st with
    | .float x :: st => ai_go (pc + 1) ls (.int (FP.f2i x) :: st) ws
    | _ => none
  | .fmul, 1 => ai_fb FP.fmul pc ls st ws
  | .fdiv, 1 => ai_fb FP.fdiv pc ls st ws
  | .fsub, 1 => ai_fb FP.fsub pc ls st ws
  | .dup, 1 => match st with
    | .ref x :: st => ai_go (pc + 1) ls (.ref x :: .ref x :: st) ws
    | _ => none
  | .dup2, 1 => match st with
    | .int i :: .ref x :: st => ai_go (pc + 1) ls (.int i :: .ref x :: .int i :: .ref x :: st) ws
    | _ => none
  | .pop, 1 => match st with
    | .int _ :: st => ai_go (pc + 1) ls st ws
    | _ => none
  | .goto off, 3 => ai_jmp pc off true ls st ws
  | .if_icmp cd off, 3 => match st with
    | .int y :: .int x :: st => ai_jmp pc off (ai_cmp cd x y) ls st ws
    | _ => none
  | .ifCond cd off, 3 => match st with
    | .int x :: st => ai_jmp pc off (ai_cmp cd x 0) ls st ws
    | _ => none
  | .ifnull off, 3 => match st with
    | .ref _ :: st => ai_jmp pc off false ls st ws
    | .null :: st => ai_jmp pc off true ls st ws
    | _ => none
  | .tableswitch d lo hi offs, _ => match st with
    | .int x :: st => match ai_sw pc d lo hi offs x with
      | some t => ai_go t ls st ws
      | none => none
    | _ => none
  | .getfield i, 3 => match ai_lk ai_vf (ai_view y) i, st with
    | some (ci, k, _), .ref a :: st => match ai_fget ws a ci k with
      | some v => ai_go (pc + 3) ls (v :: st) ws
      | none => none
    | _, _ => none
  | .putfield i, 3 => match ai_lk ai_vf (ai_view y) i, st with
    | some (ci, k, _), v :: .ref a :: st => if ((ai_cl ci).2.1 k).2.2.2 = true → ai_kind y = 2 ∧ ai_ci y = ci then match ai_fput ws a ci k v with
      | some ws => ai_go (pc + 3) ls st ws
      | none => none else none
    | _, _ => none
  | .iaload, 1 => match st with
    | .int i :: .ref a :: st => match ai_aget ws a i with
      | some x => ai_go (pc + 1) ls (.int x :: st) ws
      | none => none
    | _ => none
  | .iastore, 1 => match st with
    | .int x :: .int i :: .ref a :: st => match ai_aset ws a i x with
      | some ws => ai_go (pc + 1) ls st ws
      | none => none
    | _ => none
  | .arraylength, 1 => match st with
    | .ref a :: st => match ai_len ws a with
      | some x => ai_go (pc + 1) ls (.int x :: st) ws
      | none => none
    | _ => none
  | .aaload, 1 => match st with
    | .int i :: .ref a :: st => match ai_qget ws a i with
      | some v => ai_go (pc + 1) ls (v :: st) ws
      | none => none
    | _ => none
  | .aastore, 1 => match st with
    | .ref x :: .int i :: .ref a :: st => match ai_qset ws a i x with
      | some ws => ai_go (pc + 1) ls st ws
      | none => none
    | _ => none
  | .new i, 3 => match ai_lk ai_vn (ai_view y) i with
    | some (ci, _, _, _) => ai_go (pc + 3) ls (.ref ws.length :: st) (ws ++ [ai_blank ci])
    | none => none
  | .newarray .int, 2 => match st with
    | .int n :: st => if n < 0 ∨ 100000 < n.toNatClampNeg then none else ai_go (pc + 2) ls (.ref ws.length :: st) (ws ++ [.inl (List.replicate n.toNatClampNeg 0)])
    | _ => none
  | .anewarray i, 3 => match ai_lk ai_vn (ai_view y) i, st with
    | some (0, _, _, _), .int n :: st => if n < 0 ∨ 100000 < n.toNatClampNeg then none else ai_go (pc + 3) ls (.ref ws.length :: st) (ws ++ [.inr (.inl (List.replicate n.toNatClampNeg none))])
    | _, _ => none
  | .invokevirtual i, 3 => ai_inv y pc i ls st ws
  | .invokestatic i, 3 => ai_ins y pc i ls st ws
  | .invokespecial i, 3 => ai_spc y pc i ls st ws
  | .fcmp op, 1 => match st with
    | .float y :: .float x :: st => ai_go (pc + 1) ls (.int (Op.cmpValue (FP.fcmp x y) op) :: st) ws
    | _ => none
  | .ireturn, 1 => match st with
    | [.int x] => if ai_pok (ai_ret y) (.int x) = true then some (.inl (some (.int x), ws)) else none
    | _ => none
  | .return_, 1 => match st with
    | [] => if ai_ret y = none then some (.inl (none, ws)) else none
    | _ => none
  | _, _ => none
def ai_step (y pc : Nat) (ls st : List Value) (ws : ai_W) : Option ai_O := match decode (ai_code y) pc with
  | .ok (i, n) => ai_in y pc ls st ws i n
  | .error _ => none
-- a run
def ai_ok (y : Nat) (as : List Value) (ws : ai_W) : Bool := decide (as.length = ai_n y + if ai_kind y = 0 then 0 else 1) && (if ai_kind y = 0 then true else match as with
  | .ref a :: _ => ai_isob ws a (ai_ci y)
  | _ => false) && as.all (fun v => decide (v.category = 1)) && decide (as.length ≤ ai_L y)
def ai_ent (y : Nat) (as : List Value) : List Value := as ++ List.replicate (ai_L y - as.length) .null
def ai_run : Nat → Nat → Nat → List Value → List Value → ai_W → Option ai_R
  | 0, _, _, _, _, _ => none
  | F + 1, y, pc, ls, st, ws => match ai_step y pc ls st ws with
    | none => none
    | some (.inl r) => some r
    | some (.inr (.inl (pc, ls, st, ws))) => ai_run F y pc ls st ws
    | some (.inr (.inr (y2, as, rest, pc))) => if ai_ok y2 as ws = true ∧ rest.length ≤ 4 then match ai_run F y2 0 (ai_ent y2 as) [] ws with
      | none => none
      | some (v, ws) => ai_run F y pc ls (v.toList ++ rest) ws
      else none
/-! What a run of the plain machine answers, the number of its steps left open; the tables' words that the machine's rows need. -/
theorem ai_run_more {y : Nat} : ∀ (F : Nat) (y pc : Nat) (ls st : List Value) (ws : ai_W) (r : ai_R), ai_run F y pc ls st ws = some r → ai_run (F + 1) y pc ls st ws = some r := by
  intro F
  induction F with
  | zero => intro y pc ls st ws r h; cases h
  | succ F ih =>
    intro y pc ls st ws r h
    unfold ai_run at h ⊢
    split at h
    · cases h
    · exact h
    · exact ih _ _ _ _ _ _ h
    · rename_i y2 as rest pc2 _
      by_cases hc : ai_ok y2 as ws = true ∧ rest.length ≤ 4
      · rw [if_pos hc] at h ⊢
        split at h
        · cases h
        · rename_i v ws2 h2
          rw [ih _ _ _ _ _ _ h2]
          exact ih _ _ _ _ _ _ h
      · rw [if_neg hc] at h
        cases h
theorem ai_run_le {y pc : Nat} {ls st : List Value} {ws : ai_W} {r : ai_R} {F G : Nat} (h : ai_run F y pc ls st ws = some r) (hg : F ≤ G) : ai_run G y pc ls st ws = some r := by
  obtain ⟨k, rfl⟩ := Nat.exists_eq_add_of_le hg
  clear hg
  induction k with
  | zero => exact h
  | succ k ih => exact ai_run_more (y := y) _ _ _ _ _ _ _ ih
/-- what a run answers -/
noncomputable def ai_Run (y pc : Nat) (ls st : List Value) (ws : ai_W) : Option ai_R := @dite _ (∃ r F, ai_run F y pc ls st ws = some r) (Classical.propDecidable _) (fun h => some (Classical.choose h)) (fun _ => none)
theorem ai_Run_iff {y pc : Nat} {ls st : List Value} {ws : ai_W} {r : ai_R} : ai_Run y pc ls st ws = some r ↔ ∃ F, ai_run F y pc ls st ws = some r := by
  unfold ai_Run
  constructor
  · intro h
    split at h
    · rename_i hx
      cases h
      exact Classical.choose_spec hx
    · cases h
  · intro ⟨F, h⟩
    rw [dif_pos ⟨r, F, h⟩]
    obtain ⟨G, hG⟩ := Classical.choose_spec (⟨r, F, h⟩ : ∃ r F, ai_run F y pc ls st ws = some r)
    have h1 := ai_run_le h (Nat.le_max_left F G)
    have h2 := ai_run_le hG (Nat.le_max_right F G)
    rw [h1] at h2
    exact h2.symm
/-- a call -/
noncomputable def ai_Call (y : Nat) (as : List Value) (ws : ai_W) : Option ai_R := if ai_ok y as ws = true then ai_Run y 0 (ai_ent y as) [] ws else none
theorem ai_opt {α : Type} {a b : Option α} (h : ∀ r, a = some r ↔ b = some r) : a = b := by
  cases a with
  | none => cases b with
    | none => rfl
    | some r => exact absurd ((h r).mpr rfl) (by simp)
  | some r => exact ((h r).mp rfl).symm
theorem ai_Run_ret {y pc : Nat} {ls st : List Value} {ws : ai_W} {r : ai_R} (h : ai_step y pc ls st ws = some (.inl r)) : ai_Run y pc ls st ws = some r := ai_Run_iff.mpr ⟨1, by unfold ai_run; rw [h]⟩
theorem ai_Run_none {y pc : Nat} {ls st : List Value} {ws : ai_W} (h : ai_step y pc ls st ws = none) : ai_Run y pc ls st ws = none := by
  refine ai_opt fun r => ?_
  rw [ai_Run_iff]
  constructor
  · rintro ⟨F, hF⟩
    cases F with
    | zero => cases hF
    | succ F =>
      unfold ai_run at hF
      rw [h] at hF
      cases hF
  · intro h; cases h
theorem ai_Run_go {y pc pc2 : Nat} {ls st ls2 st2 : List Value} {ws ws2 : ai_W} (h : ai_step y pc ls st ws = some (.inr (.inl (pc2, ls2, st2, ws2)))) : ai_Run y pc ls st ws = ai_Run y pc2 ls2 st2 ws2 := by
  refine ai_opt fun r => ?_
  rw [ai_Run_iff, ai_Run_iff]
  constructor
  · rintro ⟨F, hF⟩
    cases F with
    | zero => cases hF
    | succ F =>
      unfold ai_run at hF
      rw [h] at hF
      exact ⟨F, hF⟩
  · rintro ⟨F, hF⟩
    refine ⟨F + 1, ?_⟩
    unfold ai_run
    rw [h]
    exact hF
theorem ai_Run_call {y y2 pc pc2 : Nat} {ls st as rest : List Value} {ws : ai_W} (h : ai_step y pc ls st ws = some (.inr (.inr (y2, as, rest, pc2)))) (hr : rest.length ≤ 4) : ai_Run y pc ls st ws = (ai_Call y2 as ws).bind fun q => ai_Run y pc2 ls (q.1.toList ++ rest) q.2 := by
  refine ai_opt fun r => ?_
  unfold ai_Call
  by_cases hk : ai_ok y2 as ws = true
  · rw [if_pos hk, ai_Run_iff, Option.bind_eq_some_iff]
    constructor
    · rintro ⟨F, hF⟩
      cases F with
      | zero => cases hF
      | succ F =>
        unfold ai_run at hF
        rw [h] at hF
        dsimp only at hF
        rw [if_pos ⟨hk, hr⟩] at hF
        split at hF
        · cases hF
        · rename_i v w2 h2
          exact ⟨(v, w2), ai_Run_iff.mpr ⟨F, h2⟩, ai_Run_iff.mpr ⟨F, hF⟩⟩
    · rintro ⟨⟨v, w2⟩, h1, h2⟩
      obtain ⟨F, hF⟩ := ai_Run_iff.mp h1
      obtain ⟨G, hG⟩ := ai_Run_iff.mp h2
      refine ⟨max F G + 1, ?_⟩
      unfold ai_run
      rw [h]
      dsimp only
      rw [if_pos ⟨hk, hr⟩, ai_run_le hF (Nat.le_max_left F G)]
      exact ai_run_le hG (Nat.le_max_right F G)
  · rw [if_neg hk, ai_Run_iff]
    constructor
    · rintro ⟨F, hF⟩
      cases F with
      | zero => cases hF
      | succ F =>
        unfold ai_run at hF
        rw [h] at hF
        dsimp only at hF
        rw [if_neg (fun q => hk q.1)] at hF
        cases hF
    · intro h; cases h
