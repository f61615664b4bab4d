/-! THE PLAIN MACHINE: methods run over a list of cells (an int array, an array of references, an object; an object of class 77 is an array of bytes); a reference is a place in the list. What stood before the law began, and is never written, is told by '.retAddr k': 1 to 10 the law's texts, 11 to 20 their bytes, 21, 22 the JDK's tables of digits, 23 a static that is only carried, 24 + the number of a list: the script, by its numbers. What the machine answers is a function; that the JVM does the same is shown once (parts 04 to 11). -/
abbrev ai_C : Type := List Int32 ⊕ (List (Option Nat) ⊕ (Nat × List Value))
abbrev ai_W : Type := List ai_C
abbrev ai_R : Type := Option Value × ai_W
abbrev ai_G : Type := Nat × List Value × List Value × ai_W
abbrev ai_K : Type := Nat × List Value × List Value × Nat
abbrev ai_O : Type := ai_R ⊕ (ai_G ⊕ ai_K)
def ai_sz : ai_C → Nat
  | .inl l => l.length
  | .inr (.inl l) => l.length
  | .inr (.inr o) => o.2.length
/-- the number of a list, and the list of a number -/
def ai_enc : List Int32 → Nat
  | [] => 0
  | x :: l => ai_enc l * 4294967297 + (x.toBitVec.toNat + 1)
theorem ai_enc_inj : ∀ (l q : List Int32), ai_enc l = ai_enc q → l = q := by
  intro l
  induction l with
  | nil =>
    intro q h
    cases q with
    | nil => rfl
    | cons y q => simp only [ai_enc] at h; omega
  | cons x l ih =>
    intro q h
    cases q with
    | nil => simp only [ai_enc] at h; omega
    | cons y q =>
      simp only [ai_enc] at h
      have hx := x.toBitVec.isLt
      have hy := y.toBitVec.isLt
      have e1 : x.toBitVec.toNat = y.toBitVec.toNat := by omega
      have e2 : ai_enc l = ai_enc q := by omega
      have e3 : x = y := Int32.toBitVec_inj.mp (BitVec.eq_of_toNat_eq e1)
      rw [e3, ih q e2]
noncomputable def ai_dec (n : Nat) : List Int32 := @dite _ (∃ l, ai_enc l = n) (Classical.propDecidable _) (fun h => Classical.choose h) (fun _ => [])
theorem ai_dec_enc (l : List Int32) : ai_dec (ai_enc l) = l := by
  unfold ai_dec
  have h : ∃ q, ai_enc q = ai_enc l := ⟨l, rfl⟩
  rw [dif_pos h]
  exact ai_enc_inj _ _ (Classical.choose_spec h)
def ai_scr (l : List Int32) : Value := .retAddr (24 + ai_enc l)
/-- the tables of digits -/
def ai_d1 : List Int32 := (List.range 100).map fun i => Int32.ofNat (48 + i % 10)
def ai_d10 : List Int32 := (List.range 100).map fun i => Int32.ofNat (48 + i / 10)
/-- the bytes at k -/
def ai_xb (k : Nat) : Option (List Int32) := if 11 ≤ k ∧ k ≤ 20 then (ai_tx[k - 11]?).map (fun q => q.2.2) else if k = 21 then some ai_d1 else if k = 22 then some ai_d10 else none
def ai_sl (ws : ai_W) : Nat := (ws.map ai_sz).sum
-- cells
def ai_isob (ws : ai_W) (a ci : Nat) : Bool := match ws[a]? with
  | some (.inr (.inr (c, _))) => decide (c = ci)
  | _ => false
def ai_nr : Option Value → Option Value
  | some (.retAddr _) => none
  | r => r
theorem ai_nr_some {r : Option Value} {v : Value} (h : ai_nr r = some v) : r = some v ∧ ∀ k, ¬ v = .retAddr k := by
  unfold ai_nr at h
  split at h
  · cases h
  · rename_i h2
    subst h
    exact ⟨rfl, fun k e => h2 k (by rw [e])⟩
def ai_fget (ws : ai_W) (a ci k : Nat) : Option Value := match ws[a]? with
  | some (.inr (.inr (c, fs))) => if c = ci then ai_nr fs[k]? else none
  | _ => none
/-- the receiver is of that class -/
def ai_rcv (ws : ai_W) (v : Value) (ci : Nat) : Bool := match v with
  | .ref a => ai_isob ws a ci
  | .retAddr k => decide (ci = 12 ∧ 1 ≤ k ∧ k ≤ 10)
  | _ => false
def ai_pok : Option FieldType → Value → Bool
  | some .int, .int _ => true
  | some .byte, .int v => decide (v.toInt8.toInt32 = v)
  | some .char, .int v => decide ((v.toUInt32 % 65536).toInt32 = v)
  | some .boolean, .int v => v == 0 || v == 1
  | some (.object _), .ref _ => true
  | some (.array _), .ref _ => true
  | _, _ => false
def ai_cl (ci : Nat) : vw_C := (vwCl[ci]?).getD ("", fun _ => ("", "", "", false), 0)
def ai_fty (ci k : Nat) : Option FieldType := parseFieldDescriptor ((ai_cl ci).2.1 k).2.2.1
/-- a field of what stood before -/
def ai_xget (k ci f : Nat) : Option Value := if 1 ≤ k ∧ k ≤ 10 ∧ ci = 12 then (if f = 0 then some (.retAddr (k + 10)) else if f = 1 then some (.int 0) else none) else none
def ai_fput (ws : ai_W) (a ci k : Nat) (v : Value) : Option ai_W := match ws[a]? with
  | some (.inr (.inr (c, fs))) => if c = ci ∧ k < fs.length ∧ ai_pok (ai_fty ci k) v = true then some (ws.set a (.inr (.inr (c, fs.set k v)))) else none
  | _ => none
def ai_ix (i : Int32) (n : Nat) : Option Nat := if i < 0 ∨ n ≤ i.toNatClampNeg then none else some i.toNatClampNeg
def ai_aget (ws : ai_W) (a : Nat) (i : Int32) : Option Int32 := match ws[a]? with
  | some (.inl l) => (ai_ix i l.length).map fun j => l.getD j 0
  | _ => none
def ai_aset (ws : ai_W) (a : Nat) (i x : Int32) : Option ai_W := match ws[a]? with
  | some (.inl l) => (ai_ix i l.length).map fun j => ws.set a (.inl (l.set j x))
  | _ => none
def ai_iv : Value → Int32
  | .int x => x
  | _ => 0
/-- an array of bytes -/
def ai_by (l : List Int32) : ai_C := .inr (.inr (77, l.map .int))
def ai_bget (ws : ai_W) (a : Nat) (i : Int32) : Option Int32 := match ws[a]? with
  | some (.inr (.inr (c, fs))) => if c = 77 then (ai_ix i fs.length).map fun j => ai_iv (fs.getD j .null) else none
  | _ => none
def ai_bset (ws : ai_W) (a : Nat) (i x : Int32) : Option ai_W := match ws[a]? with
  | some (.inr (.inr (c, fs))) => if c = 77 then (ai_ix i fs.length).map fun j => ws.set a (.inr (.inr (77, fs.set j (.int x.toInt8.toInt32)))) else none
  | _ => none
noncomputable def ai_xlen (k : Nat) : Option Int32 := if 24 ≤ k then some (Int32.ofNat (ai_dec (k - 24)).length) else if 11 ≤ k ∧ k ≤ 20 then (ai_xb k).map (fun l => Int32.ofNat l.length) else none
noncomputable def ai_xaget (k : Nat) (i : Int32) : Option Int32 := if 24 ≤ k then (ai_ix i (ai_dec (k - 24)).length).map (fun j => (ai_dec (k - 24)).getD j 0) else none
def ai_xbget (k : Nat) (i : Int32) : Option Int32 := if k = 21 ∨ k = 22 then (match ai_xb k with
  | some l => (ai_ix i l.length).map (fun j => l.getD j 0)
  | none => none) else none
/-- bytes laid over others from dp on -/
def ai_lay (f g : List Value) (sp dp n : Nat) : List Value := (List.range g.length).map fun j => if dp ≤ j ∧ j < dp + n then f.getD (sp + (j - dp)) .null else g.getD j .null
def ai_fb8 (v : Value) : Bool := match v with
  | .int x => decide (x.toInt8.toInt32 = x)
  | _ => false
/-- System.arraycopy among bytes -/
def ai_bcopy (fs : List Value) (ws : ai_W) (i : Int32) (d : Nat) (j n : Int32) : Option ai_W := match ws[d]? with
  | some (.inr (.inr (c2, gs))) => if c2 = 77 ∧ ¬ i < 0 ∧ ¬ j < 0 ∧ ¬ n < 0 ∧ i.toNatClampNeg + n.toNatClampNeg ≤ fs.length ∧ j.toNatClampNeg + n.toNatClampNeg ≤ gs.length ∧ fs.all ai_fb8 = true then some (ws.set d (.inr (.inr (77, ai_lay fs gs i.toNatClampNeg j.toNatClampNeg n.toNatClampNeg)))) else none
  | _ => none
def ai_cpb (ws : ai_W) (a : Nat) (i : Int32) (d : Nat) (j n : Int32) : Option ai_W := match ws[a]? with
  | some (.inr (.inr (c, fs))) => if c = 77 ∧ ¬ a = d then ai_bcopy fs ws i d j n else none
  | _ => none
def ai_cpx (k : Nat) (ws : ai_W) (i : Int32) (d : Nat) (j n : Int32) : Option ai_W := if 11 ≤ k ∧ k ≤ 20 then (match ai_xb k with
  | some l => ai_bcopy (l.map .int) ws i d j n
  | none => none) else none
def ai_len (ws : ai_W) (a : Nat) : Option Int32 := match ws[a]? with
  | some (.inl l) => some (Int32.ofNat l.length)
  | some (.inr (.inr (c, fs))) => if c = 77 then some (Int32.ofNat fs.length) else none
  | some (.inr (.inl l)) => some (Int32.ofNat l.length)
  | _ => none
def ai_qv : Option Nat → Value
  | some a => .ref a
  | none => .null
def ai_qget (ws : ai_W) (a : Nat) (i : Int32) : Option Value := match ws[a]? with
  | some (.inr (.inl l)) => (ai_ix i l.length).map fun j => ai_qv (l.getD j none)
  | _ => none
def ai_qset (ws : ai_W) (a : Nat) (i : Int32) (x : Nat) : Option ai_W := match ws[a]? with
  | some (.inr (.inl l)) => if ai_isob ws x 0 = true then (ai_ix i l.length).map fun j => ws.set a (.inr (.inl (l.set j (some x)))) else none
  | _ => none
/-- System.arraycopy of a whole array of ints over another one of its length -/
def ai_copy (ws : ai_W) (a : Nat) (i : Int32) (d : Nat) (j n : Int32) : Option ai_W := match ws[a]?, ws[d]? with
  | some (.inl l), some (.inl l2) => if i = 0 ∧ j = 0 ∧ ¬ n < 0 ∧ n.toNatClampNeg = l.length ∧ l2.length = l.length then some (ws.set d (.inl l)) else none
  | _, _ => none
def ai_dv : Option FieldType → Value
  | some (.object _) => .null
  | some (.array _) => .null
  | some .float => .float 0
  | _ => .int 0
def ai_blank (ci : Nat) : ai_C := .inr (.inr (ci, (List.range (ai_cl ci).2.2).map fun k => ai_dv (ai_fty ci k)))
-- one instruction
def ai_go (pc : Nat) (ls st : List Value) (ws : ai_W) : Option ai_O := some (.inr (.inl (pc, ls, st, ws)))
def ai_tgt (pc : Nat) (off : Int) : Option Nat := match (pc : Int) + off with
  | .ofNat t => some t
  | _ => none
def ai_cmp : Jvm.ClassFile.Cond → Int32 → Int32 → Bool
  | .eq, x, y => decide (x = y)
  | .ne, x, y => decide (¬ x = y)
  | .lt, x, y => decide (x < y)
  | .ge, x, y => decide (y ≤ x)
  | .gt, x, y => decide (y < x)
  | .le, x, y => decide (x ≤ y)
def ai_lda (n k pc : Nat) (ls st : List Value) (ws : ai_W) : Option ai_O := match ls[k]? with
  | some (.ref a) => ai_go (pc + n) ls (.ref a :: st) ws
  | some (.retAddr q) => if q = 23 then none else ai_go (pc + n) ls (.retAddr q :: st) ws
  | _ => none
def ai_ldi (n k pc : Nat) (ls st : List Value) (ws : ai_W) : Option ai_O := match ls[k]? with
  | some (.int x) => ai_go (pc + n) ls (.int x :: st) ws
  | _ => none
def ai_ldf (n k pc : Nat) (ls st : List Value) (ws : ai_W) : Option ai_O := match ls[k]? with
  | some (.float x) => ai_go (pc + n) ls (.float x :: st) ws
  | _ => none
def ai_sti (n k pc : Nat) (ls st : List Value) (ws : ai_W) : Option ai_O := match st with
  | .int x :: st => if k < ls.length then ai_go (pc + n) (ls.set k (.int x)) st ws else none
  | _ => none
def ai_stf (n k pc : Nat) (ls st : List Value) (ws : ai_W) : Option ai_O := match st with
  | .float x :: st => if k < ls.length then ai_go (pc + n) (ls.set k (.float x)) st ws else none
  | _ => none
def ai_sta (n k pc : Nat) (ls st : List Value) (ws : ai_W) : Option ai_O := match st with
  | .ref x :: st => if k < ls.length then ai_go (pc + n) (ls.set k (.ref x)) st ws else none
  | _ => none
def ai_bin (f : Int32 → Int32 → Option Int32) (pc : Nat) (ls st : List Value) (ws : ai_W) : Option ai_O := match st with
  | .int y :: .int x :: st => match f x y with
    | some z => ai_go (pc + 1) ls (.int z :: st) ws
    | none => none
  | _ => none
def ai_fb (f : UInt32 → UInt32 → UInt32) (pc : Nat) (ls st : List Value) (ws : ai_W) : Option ai_O := match st with
  | .float y :: .float x :: st => if f x y &&& 0x7fffffff ≤ 0x7f800000 then ai_go (pc + 1) ls (.float (f x y) :: st) ws else none
  | _ => none
def ai_jmp (pc : Nat) (off : Int) (b : Bool) (ls st : List Value) (ws : ai_W) : Option ai_O := match ai_tgt pc off with
  | some t => ai_go (if b = true then t else pc + 3) ls st ws
  | none => none
def ai_call (y y2 : Nat) (kd : Nat) (pc : Nat) (st : List Value) : Option ai_O :=
  if y2 < y ∧ ai_kind y2 = kd ∧ ai_fr y2 + 1 ≤ ai_fr y ∧ 8 + (ai_L y2 + 11) + ai_lo y2 ≤ ai_lo y then
    some (.inr (.inr (y2, (st.take (ai_n y2 + if kd = 0 then 0 else 1)).reverse, st.drop (ai_n y2 + if kd = 0 then 0 else 1), pc + 3)))
  else none
/-- room for a native method -/
def ai_nat (y : Nat) : Bool := decide (1 ≤ ai_fr y ∧ 40 ≤ ai_lo y)
def ai_inv (y pc idx : Nat) (ls st : List Value) (ws : ai_W) : Option ai_O := match ai_lk ai_vm (ai_view y) idx with
  | some (0, y2, _) => ai_call y y2 1 pc st
  | some (8, y2, _) => ai_call y y2 1 pc st
  | some (10, _, _) => match st with
    | .ref a :: st => match ws[a]? with
      | some (.inr (.inr (c, fs))) => if c = 77 ∧ fs.all ai_fb8 = true ∧ st.length ≤ 4 ∧ ai_nat y = true then ai_go (pc + 3) ls (.ref ws.length :: st) (ws ++ [.inr (.inr (77, fs))]) else none
      | _ => none
    | _ => none
  | _ => none
def ai_ins (y pc idx : Nat) (ls st : List Value) (ws : ai_W) : Option ai_O := match ai_lk ai_vm (ai_view y) idx with
  | some (1, y2, _) => ai_call y y2 0 pc st
  | some (3, y2, _) => ai_call y y2 0 pc st
  | some (6, _, _) => match st with
    | .int n :: .int j :: .ref d :: .int i :: .ref a :: st => match ai_copy ws a i d j n with
      | some ws => if st.length ≤ 4 ∧ ai_nat y = true then ai_go (pc + 3) ls st ws else none
      | none => match ai_cpb ws a i d j n with
        | some ws => if st.length ≤ 4 ∧ ai_nat y = true then ai_go (pc + 3) ls st ws else none
        | none => none
    | .int n :: .int j :: .ref d :: .int i :: .retAddr k :: st => match ai_cpx k ws i d j n with
      | some ws => if st.length ≤ 4 ∧ ai_nat y = true then ai_go (pc + 3) ls st ws else none
      | none => none
    | _ => none
  | _ => none
def ai_spc (y pc idx : Nat) (ls st : List Value) (ws : ai_W) : Option ai_O := match ai_lk ai_vm (ai_view y) idx with
  | some (2, y2, _) => ai_call y y2 2 pc st
  | some (4, y2, _) => ai_call y y2 2 pc st
  | some (9, y2, _) => ai_call y y2 1 pc st
  | some (5, _, _) => match st with
    | .ref _ :: st => if st.length ≤ 4 ∧ ai_nat y = true then ai_go (pc + 3) ls st ws else none
    | _ => none
  | _ => none
def ai_sw (pc : Nat) (d lo hi : Int) (offs : Array Int) (x : Int32) : Option Nat :=
  if x.toInt < lo ∨ hi < x.toInt then ai_tgt pc d else match offs[(x.toInt - lo).toNat]? with
    | some o => ai_tgt pc o
    | none => none
def ai_wide (pc v idx n : Nat) (ls st : List Value) (ws : ai_W) : Option ai_O := match ai_lk ai_vk v idx with
  | some (.inl x, _) => ai_go (pc + n) ls (.int x :: st) ws
  | some (.inr x, _) => if n = 3 then ai_go (pc + 3) ls (.float x :: st) ws else none
  | none => none
noncomputable def ai_in (y pc : Nat) (ls st : List Value) (ws : ai_W) : Instr → Nat → Option ai_O
  | .aload_n k, 1 => ai_lda 1 k.val pc ls st ws
  | .aload k, 2 => ai_lda 2 k pc ls st ws
  | .iload_n k, 1 => ai_ldi 1 k.val pc ls st ws
  | .iload k, 2 => ai_ldi 2 k pc ls st ws
  | .fload_n k, 1 => ai_ldf 1 k.val pc ls st ws
  | .istore_n k, 1 => ai_sti 1 k.val pc ls st ws
  | .istore k, 2 => ai_sti 2 k pc ls st ws
  | .fstore_n k, 1 => ai_stf 1 k.val pc ls st ws
  | .astore_n k, 1 => ai_sta 1 k.val pc ls st ws
  | .astore k, 2 => ai_sta 2 k pc ls st ws
  | .iinc k n, 3 => match ls[k]? with
    | some (.int x) => ai_go (pc + 3) (ls.set k (.int (x + Int32.ofInt n))) st ws
    | _ => none
  | .iconst n, 1 => ai_go (pc + 1) ls (.int (Int32.ofInt n) :: st) ws
  | .bipush n, 2 => ai_go (pc + 2) ls (.int (Int8.ofInt n).toInt32 :: st) ws
  | .sipush n, 3 => ai_go (pc + 3) ls (.int (Int16.ofInt n).toInt32 :: st) ws
  | .fconst n, 1 => ai_go (pc + 1) ls (.float (if n = 0 then FP.fconst0 else if n = 1 then FP.fconst1 else FP.fconst2) :: st) ws
  | .ldc i, 2 => match ai_lk ai_vt (ai_view y) i with
    | some k => if k < 10 then ai_go (pc + 2) ls (.retAddr (k + 1) :: st) ws else none
    | none => ai_wide pc (ai_view y) i 2 ls st ws
  | .ldc_w i, 3 => ai_wide pc (ai_view y) i 3 ls st ws
  | .iadd, 1 => ai_bin (fun x y => some (x + y)) pc ls st ws
  | .isub, 1 => ai_bin (fun x y => some (x - y)) pc ls st ws
  | .imul, 1 => ai_bin (fun x y => some (x * y)) pc ls st ws
  | .iand, 1 => ai_bin (fun x y => some (x &&& y)) pc ls st ws
  | .ior, 1 => ai_bin (fun x y => some (x ||| y)) pc ls st ws
  | .ixor, 1 => ai_bin (fun x y => some (x ^^^ y)) pc ls st ws
  | .ishl, 1 => ai_bin (fun x y => some (x <<< (y &&& 31))) pc ls st ws
  | .ishr, 1 => ai_bin (fun x y => some (x >>> (y &&& 31))) pc ls st ws
  | .iushr, 1 => ai_bin (fun x y => some (x.toUInt32 >>> (y.toUInt32 &&& Int32.toUInt32 31)).toInt32) pc ls st ws
  | .idiv, 1 => ai_bin (fun x y => if y = 0 then none else some (x / y)) pc ls st ws
  | .irem, 1 => ai_bin (fun x y => if y = 0 then none else some (x - x / y * y)) pc ls st ws
  | .ineg, 1 => match st with
    | .int x :: st => ai_go (pc + 1) ls (.int (-x) :: st) ws
    | _ => none
  | .i2f, 1 => match st with
    | .int x :: st => ai_go (pc + 1) ls (.float (FP.i2f x) :: st) ws
    | _ => none
  | .f2i, 1 => match st with
    | .float x :: st => ai_go (pc + 1) ls (.int (FP.f2i x) :: st) ws
    | _ => none
  | .fmul, 1 => ai_fb FP.fmul pc ls st ws
  | .fdiv, 1 => ai_fb FP.fdiv pc ls st ws
  | .fsub, 1 => ai_fb FP.fsub pc ls st ws
  | .dup, 1 => match st with
    | .ref x :: st => ai_go (pc + 1) ls (.ref x :: .ref x :: st) ws
    | _ => none
  | .dup2, 1 => match st with
    | .int i :: .ref x :: st => ai_go (pc + 1) ls (.int i :: .ref x :: .int i :: .ref x :: st) ws
    | _ => none
  | .pop, 1 => match st with
    | .int _ :: st => ai_go (pc + 1) ls st ws
    | .ref _ :: st => ai_go (pc + 1) ls st ws
    | _ => none
  | .i2c, 1 => match st with
    | .int x :: st => ai_go (pc + 1) ls (.int (x.toUInt32 % 65536).toInt32 :: st) ws
    | _ => none
  | .aconst_null, 1 => ai_go (pc + 1) ls (.null :: st) ws
  | .ifnonnull off, 3 => match st with
    | .ref _ :: st => ai_jmp pc off true ls st ws
    | .retAddr k :: st => if k = 23 then none else ai_jmp pc off true ls st ws
    | _ => none
  | .getstatic i, 3 => match ai_lk ai_vg (ai_view y) i with
    | some (0, _) => ai_go (pc + 3) ls (.int 1 :: st) ws
    | some (1, _) => ai_go (pc + 3) ls (.retAddr 21 :: st) ws
    | some (2, _) => ai_go (pc + 3) ls (.retAddr 22 :: st) ws
    | some (3, _) => ai_go (pc + 3) ls (.retAddr 23 :: st) ws
    | _ => none
  | .checkcast i, 3 => match st with
    | .ref a :: st => match ws[a]? with
      | some (.inr (.inr (c, fs))) => if c = 77 ∧ ai_vc[ai_view y]? = some "java/util/Arrays" ∧ i = 311 then ai_go (pc + 3) ls (.ref a :: st) ws else none
      | _ => none
    | _ => none
  | .baload, 1 => match st with
    | .int i :: .ref a :: st => match ai_bget ws a i with
      | some x => ai_go (pc + 1) ls (.int x :: st) ws
      | none => none
    | .int i :: .retAddr k :: st => match ai_xbget k i with
      | some x => ai_go (pc + 1) ls (.int x :: st) ws
      | none => none
    | _ => none
  | .bastore, 1 => match st with
    | .int x :: .int i :: .ref a :: st => match ai_bset ws a i x with
      | some ws => ai_go (pc + 1) ls st ws
      | none => none
    | _ => none
  | .goto off, 3 => ai_jmp pc off true ls st ws
  | .if_icmp cd off, 3 => match st with
    | .int y :: .int x :: st => ai_jmp pc off (ai_cmp cd x y) ls st ws
    | _ => none
  | .ifCond cd off, 3 => match st with
    | .int x :: st => ai_jmp pc off (ai_cmp cd x 0) ls st ws
    | _ => none
  | .ifnull off, 3 => match st with
    | .ref _ :: st => ai_jmp pc off false ls st ws
    | .null :: st => ai_jmp pc off true ls st ws
    | _ => none
  | .tableswitch d lo hi offs, _ => match st with
    | .int x :: st => match ai_sw pc d lo hi offs x with
      | some t => ai_go t ls st ws
      | none => none
    | _ => none
  | .getfield i, 3 => match ai_lk ai_vf (ai_view y) i, st with
    | some (ci, k, _), .ref a :: st => match ai_fget ws a ci k with
      | some v => ai_go (pc + 3) ls (v :: st) ws
      | none => none
    | some (ci, k, _), .retAddr q :: st => match ai_xget q ci k with
      | some v => ai_go (pc + 3) ls (v :: st) ws
      | none => none
    | _, _ => none
  | .putfield i, 3 => match ai_lk ai_vf (ai_view y) i, st with
    | some (ci, k, _), v :: .ref a :: st => if ((ai_cl ci).2.1 k).2.2.2 = true → ai_kind y = 2 ∧ ai_ci y = ci then match ai_fput ws a ci k v with
      | some ws => ai_go (pc + 3) ls st ws
      | none => none else none
    | _, _ => none
  | .iaload, 1 => match st with
    | .int i :: .ref a :: st => match ai_aget ws a i with
      | some x => ai_go (pc + 1) ls (.int x :: st) ws
      | none => none
    | .int i :: .retAddr k :: st => match ai_xaget k i with
      | some x => ai_go (pc + 1) ls (.int x :: st) ws
      | none => none
    | _ => none
  | .iastore, 1 => match st with
    | .int x :: .int i :: .ref a :: st => match ai_aset ws a i x with
      | some ws => ai_go (pc + 1) ls st ws
      | none => none
    | _ => none
  | .arraylength, 1 => match st with
    | .ref a :: st => match ai_len ws a with
      | some x => ai_go (pc + 1) ls (.int x :: st) ws
      | none => none
    | .retAddr k :: st => match ai_xlen k with
      | some x => ai_go (pc + 1) ls (.int x :: st) ws
      | none => none
    | _ => none
  | .aaload, 1 => match st with
    | .int i :: .ref a :: st => match ai_qget ws a i with
      | some v => ai_go (pc + 1) ls (v :: st) ws
      | none => none
    | _ => none
  | .aastore, 1 => match st with
    | .ref x :: .int i :: .ref a :: st => match ai_qset ws a i x with
      | some ws => ai_go (pc + 1) ls st ws
      | none => none
    | _ => none
  | .new i, 3 => match ai_lk ai_vn (ai_view y) i with
    | some (ci, _, _, _) => ai_go (pc + 3) ls (.ref ws.length :: st) (ws ++ [ai_blank ci])
    | none => none
  | .newarray .int, 2 => match st with
    | .int n :: st => if n < 0 ∨ 100000 < n.toNatClampNeg then none else ai_go (pc + 2) ls (.ref ws.length :: st) (ws ++ [.inl (List.replicate n.toNatClampNeg 0)])
    | _ => none
  | .newarray .byte, 2 => match st with
    | .int n :: st => if n < 0 ∨ 100000 < n.toNatClampNeg then none else ai_go (pc + 2) ls (.ref ws.length :: st) (ws ++ [.inr (.inr (77, List.replicate n.toNatClampNeg (.int 0)))])
    | _ => none
  | .anewarray i, 3 => match ai_lk ai_vn (ai_view y) i, st with
    | some (0, _, _, _), .int n :: st => if n < 0 ∨ 100000 < n.toNatClampNeg then none else ai_go (pc + 3) ls (.ref ws.length :: st) (ws ++ [.inr (.inl (List.replicate n.toNatClampNeg none))])
    | _, _ => none
  | .invokevirtual i, 3 => ai_inv y pc i ls st ws
  | .invokestatic i, 3 => ai_ins y pc i ls st ws
  | .invokespecial i, 3 => ai_spc y pc i ls st ws
  | .fcmp op, 1 => match st with
    | .float y :: .float x :: st => ai_go (pc + 1) ls (.int (Op.cmpValue (FP.fcmp x y) op) :: st) ws
    | _ => none
  | .ireturn, 1 => match st with
    | [.int x] => if ai_pok (ai_ret y) (.int x) = true then some (.inl (some (.int x), ws)) else none
    | _ => none
  | .areturn, 1 => match st with
    | [.ref a] => if ai_pok (ai_ret y) (.ref a) = true then some (.inl (some (.ref a), ws)) else none
    | _ => none
  | .return_, 1 => match st with
    | [] => if ai_ret y = none then some (.inl (none, ws)) else none
    | _ => none
  | _, _ => none
noncomputable def ai_step (y pc : Nat) (ls st : List Value) (ws : ai_W) : Option ai_O := match decode (ai_code y) pc with
  | .ok (i, n) => ai_in y pc ls st ws i n
  | .error _ => none
-- a run
def ai_ok (y : Nat) (as : List Value) (ws : ai_W) : Bool := decide (as.length = ai_n y + if ai_kind y = 0 then 0 else 1) && (if ai_kind y = 0 then true else match as with
  | v :: _ => ai_rcv ws v (ai_ci y)
  | _ => false) && as.all (fun v => decide (v.category = 1)) && decide (as.length ≤ ai_L y)
def ai_ent (y : Nat) (as : List Value) : List Value := as ++ List.replicate (ai_L y - as.length) .null
def ai_cs (l : List Value) : Nat := (l.map fun v => v.category).sum
theorem ai_cs4 {l : List Value} (h : l.length ≤ 4) : ai_cs l ≤ 8 := by
  have key : ∀ l : List Value, ai_cs l ≤ 2 * l.length := by
    intro l
    induction l with
    | nil => exact Nat.le_refl _
    | cons v l ih =>
      have h1 : v.category ≤ 2 := by rcases lv_cat v with q | q <;> omega
      unfold ai_cs at ih ⊢
      simp only [List.map_cons, List.sum_cons, List.length_cons]
      omega
  have := key l
  omega
noncomputable def ai_run : Nat → Nat → Nat → List Value → List Value → ai_W → Option ai_R
  | 0, _, _, _, _, _ => none
  | F + 1, y, pc, ls, st, ws => match ai_step y pc ls st ws with
    | none => none
    | some (.inl r) => some r
    | some (.inr (.inl (pc, ls, st, ws))) => ai_run F y pc ls st ws
    | some (.inr (.inr (y2, as, rest, pc))) => if ai_ok y2 as ws = true ∧ ai_cs rest ≤ 8 then match ai_run F y2 0 (ai_ent y2 as) [] ws with
      | none => none
      | some (v, ws) => ai_run F y pc ls (v.toList ++ rest) ws
      else none
/-! What a run of the plain machine answers, the number of its steps left open; the tables' words that the machine's rows need. -/
theorem ai_run_more {y : Nat} : ∀ (F : Nat) (y pc : Nat) (ls st : List Value) (ws : ai_W) (r : ai_R), ai_run F y pc ls st ws = some r → ai_run (F + 1) y pc ls st ws = some r := by
  intro F
  induction F with
  | zero => intro y pc ls st ws r h; cases h
  | succ F ih =>
    intro y pc ls st ws r h
    unfold ai_run at h ⊢
    split at h
    · cases h
    · exact h
    · exact ih _ _ _ _ _ _ h
    · rename_i y2 as rest pc2 _
      by_cases hc : ai_ok y2 as ws = true ∧ ai_cs rest ≤ 8
      · rw [if_pos hc] at h ⊢
        split at h
        · cases h
        · rename_i v ws2 h2
          rw [ih _ _ _ _ _ _ h2]
          exact ih _ _ _ _ _ _ h
      · rw [if_neg hc] at h
        cases h
theorem ai_run_le {y pc : Nat} {ls st : List Value} {ws : ai_W} {r : ai_R} {F G : Nat} (h : ai_run F y pc ls st ws = some r) (hg : F ≤ G) : ai_run G y pc ls st ws = some r := by
  obtain ⟨k, rfl⟩ := Nat.exists_eq_add_of_le hg
  clear hg
  induction k with
  | zero => exact h
  | succ k ih => exact ai_run_more (y := y) _ _ _ _ _ _ _ ih
/-- what a run answers -/
noncomputable def ai_Run (y pc : Nat) (ls st : List Value) (ws : ai_W) : Option ai_R := @dite _ (∃ r F, ai_run F y pc ls st ws = some r) (Classical.propDecidable _) (fun h => some (Classical.choose h)) (fun _ => none)
theorem ai_Run_iff {y pc : Nat} {ls st : List Value} {ws : ai_W} {r : ai_R} : ai_Run y pc ls st ws = some r ↔ ∃ F, ai_run F y pc ls st ws = some r := by
  unfold ai_Run
  constructor
  · intro h
    split at h
    · rename_i hx
      cases h
      exact Classical.choose_spec hx
    · cases h
  · intro ⟨F, h⟩
    rw [dif_pos ⟨r, F, h⟩]
    obtain ⟨G, hG⟩ := Classical.choose_spec (⟨r, F, h⟩ : ∃ r F, ai_run F y pc ls st ws = some r)
    have h1 := ai_run_le h (Nat.le_max_left F G)
    have h2 := ai_run_le hG (Nat.le_max_right F G)
    rw [h1] at h2
    exact h2.symm
/-- a call -/
noncomputable def ai_Call (y : Nat) (as : List Value) (ws : ai_W) : Option ai_R := if ai_ok y as ws = true then ai_Run y 0 (ai_ent y as) [] ws else none
theorem ai_opt {α : Type} {a b : Option α} (h : ∀ r, a = some r ↔ b = some r) : a = b := by
  cases a with
  | none => cases b with
    | none => rfl
    | some r => exact absurd ((h r).mpr rfl) (by simp)
  | some r => exact ((h r).mp rfl).symm
theorem ai_Run_ret {y pc : Nat} {ls st : List Value} {ws : ai_W} {r : ai_R} (h : ai_step y pc ls st ws = some (.inl r)) : ai_Run y pc ls st ws = some r := ai_Run_iff.mpr ⟨1, by unfold ai_run; rw [h]⟩
theorem ai_Run_none {y pc : Nat} {ls st : List Value} {ws : ai_W} (h : ai_step y pc ls st ws = none) : ai_Run y pc ls st ws = none := by
  refine ai_opt fun r => ?_
  rw [ai_Run_iff]
  constructor
  · rintro ⟨F, hF⟩
    cases F with
    | zero => cases hF
    | succ F =>
      unfold ai_run at hF
      rw [h] at hF
      cases hF
  · intro h; cases h
theorem ai_Run_go {y pc pc2 : Nat} {ls st ls2 st2 : List Value} {ws ws2 : ai_W} (h : ai_step y pc ls st ws = some (.inr (.inl (pc2, ls2, st2, ws2)))) : ai_Run y pc ls st ws = ai_Run y pc2 ls2 st2 ws2 := by
  refine ai_opt fun r => ?_
  rw [ai_Run_iff, ai_Run_iff]
  constructor
  · rintro ⟨F, hF⟩
    cases F with
    | zero => cases hF
    | succ F =>
      unfold ai_run at hF
      rw [h] at hF
      exact ⟨F, hF⟩
  · rintro ⟨F, hF⟩
    refine ⟨F + 1, ?_⟩
    unfold ai_run
    rw [h]
    exact hF
theorem ai_Run_call {y y2 pc pc2 : Nat} {ls st as rest : List Value} {ws : ai_W} (h : ai_step y pc ls st ws = some (.inr (.inr (y2, as, rest, pc2)))) (hr : ai_cs rest ≤ 8) : ai_Run y pc ls st ws = (ai_Call y2 as ws).bind fun q => ai_Run y pc2 ls (q.1.toList ++ rest) q.2 := by
  refine ai_opt fun r => ?_
  unfold ai_Call
  by_cases hk : ai_ok y2 as ws = true
  · rw [if_pos hk, ai_Run_iff, Option.bind_eq_some_iff]
    constructor
    · rintro ⟨F, hF⟩
      cases F with
      | zero => cases hF
      | succ F =>
        unfold ai_run at hF
        rw [h] at hF
        dsimp only at hF
        rw [if_pos ⟨hk, hr⟩] at hF
        split at hF
        · cases hF
        · rename_i v w2 h2
          exact ⟨(v, w2), ai_Run_iff.mpr ⟨F, h2⟩, ai_Run_iff.mpr ⟨F, hF⟩⟩
    · rintro ⟨⟨v, w2⟩, h1, h2⟩
      obtain ⟨F, hF⟩ := ai_Run_iff.mp h1
      obtain ⟨G, hG⟩ := ai_Run_iff.mp h2
      refine ⟨max F G + 1, ?_⟩
      unfold ai_run
      rw [h]
      dsimp only
      rw [if_pos ⟨hk, hr⟩, ai_run_le hF (Nat.le_max_left F G)]
      exact ai_run_le hG (Nat.le_max_right F G)
  · rw [if_neg hk, ai_Run_iff]
    constructor
    · rintro ⟨F, hF⟩
      cases F with
      | zero => cases hF
      | succ F =>
        unfold ai_run at hF
        rw [h] at hF
        dsimp only at hF
        rw [if_neg (fun q => hk q.1)] at hF
        cases hF
    · intro h; cases h
