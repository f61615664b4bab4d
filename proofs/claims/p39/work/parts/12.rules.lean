/-! Rules: what one instruction does to a run, a lemma an instruction; the rules of the class's and the reference's methods (printed by gen2.py) are these at their places. -/
def ai_bi (c : Bool) : Int32 := if c = true then 1 else 0
def ai_pb (x : Int32) : Bool := x == 0 || x == 1
theorem ai_pb_bi {c : Bool} : ai_pb (ai_bi c) = true := by cases c <;> decide
theorem ai_pb_0 : ai_pb 0 = true := by decide
theorem ai_pb_1 : ai_pb 1 = true := by decide
theorem ai_bi_eq0 {c : Bool} : (ai_bi c = 0) = (c = false) := by cases c <;> simp [ai_bi]
theorem ai_bi_eq1 {c : Bool} : (ai_bi c = 1) = (c = true) := by cases c <;> simp [ai_bi]
theorem ai_bi_t : ai_bi true = 1 := rfl
theorem ai_bi_f : ai_bi false = 0 := rfl
theorem ai_bi_ite (c : Bool) : (if c = true then (1 : Int32) else 0) = ai_bi c := rfl
/-- the target of a switch -/
def ai_sel {α : Type} (x : Int32) (d : α) : List (Int32 × α) → α
  | [] => d
  | (k, t) :: l => if x = k then t else ai_sel x d l
section RULES
variable {y pc pc2 n : Nat} {cc : ByteArray} {ls ls2 st : List Value} {ws : ai_W}
theorem ai_step_of {i : Instr} (hc : ai_code y = cc) (hd : decode cc pc = .ok (i, n)) : ai_step y pc ls st ws = ai_in y pc ls st ws i n := by
  unfold ai_step
  rw [hc, hd]
theorem R_aload_n {k : Fin 4} {a : Nat} (hc : ai_code y = cc) (hd : decode cc pc = .ok (.aload_n k, 1)) (hl : ls[k.val]? = some (.ref a)) (hp : pc + 1 = pc2) : ai_Run y pc ls st ws = ai_Run y pc2 ls (.ref a :: st) ws := by
  subst hp
  exact ai_Run_go (by rw [ai_step_of hc hd]; simp only [ai_in, ai_lda, hl]; rfl)
theorem R_aload {k : Nat} {a : Nat} (hc : ai_code y = cc) (hd : decode cc pc = .ok (.aload k, 2)) (hl : ls[k]? = some (.ref a)) (hp : pc + 2 = pc2) : ai_Run y pc ls st ws = ai_Run y pc2 ls (.ref a :: st) ws := by
  subst hp
  exact ai_Run_go (by rw [ai_step_of hc hd]; simp only [ai_in, ai_lda, hl]; rfl)
theorem R_iload_n {k : Fin 4} {a : Int32} (hc : ai_code y = cc) (hd : decode cc pc = .ok (.iload_n k, 1)) (hl : ls[k.val]? = some (.int a)) (hp : pc + 1 = pc2) : ai_Run y pc ls st ws = ai_Run y pc2 ls (.int a :: st) ws := by
  subst hp
  exact ai_Run_go (by rw [ai_step_of hc hd]; simp only [ai_in, ai_ldi, hl]; rfl)
theorem R_iload {k : Nat} {a : Int32} (hc : ai_code y = cc) (hd : decode cc pc = .ok (.iload k, 2)) (hl : ls[k]? = some (.int a)) (hp : pc + 2 = pc2) : ai_Run y pc ls st ws = ai_Run y pc2 ls (.int a :: st) ws := by
  subst hp
  exact ai_Run_go (by rw [ai_step_of hc hd]; simp only [ai_in, ai_ldi, hl]; rfl)
theorem R_fload_n {k : Fin 4} {a : UInt32} (hc : ai_code y = cc) (hd : decode cc pc = .ok (.fload_n k, 1)) (hl : ls[k.val]? = some (.float a)) (hp : pc + 1 = pc2) : ai_Run y pc ls st ws = ai_Run y pc2 ls (.float a :: st) ws := by
  subst hp
  exact ai_Run_go (by rw [ai_step_of hc hd]; simp only [ai_in, ai_ldf, hl]; rfl)
theorem R_istore_n {k : Fin 4} {a : Int32} (hc : ai_code y = cc) (hd : decode cc pc = .ok (.istore_n k, 1)) (hk : k.val < ls.length) (hl : ls.set k.val (.int a) = ls2) (hp : pc + 1 = pc2) : ai_Run y pc ls (.int a :: st) ws = ai_Run y pc2 ls2 st ws := by
  subst hp; subst hl
  exact ai_Run_go (by rw [ai_step_of hc hd]; simp only [ai_in, ai_sti, if_pos hk]; rfl)
theorem R_istore {k : Nat} {a : Int32} (hc : ai_code y = cc) (hd : decode cc pc = .ok (.istore k, 2)) (hk : k < ls.length) (hl : ls.set k (.int a) = ls2) (hp : pc + 2 = pc2) : ai_Run y pc ls (.int a :: st) ws = ai_Run y pc2 ls2 st ws := by
  subst hp; subst hl
  exact ai_Run_go (by rw [ai_step_of hc hd]; simp only [ai_in, ai_sti, if_pos hk]; rfl)
theorem R_fstore_n {k : Fin 4} {a : UInt32} (hc : ai_code y = cc) (hd : decode cc pc = .ok (.fstore_n k, 1)) (hk : k.val < ls.length) (hl : ls.set k.val (.float a) = ls2) (hp : pc + 1 = pc2) : ai_Run y pc ls (.float a :: st) ws = ai_Run y pc2 ls2 st ws := by
  subst hp; subst hl
  exact ai_Run_go (by rw [ai_step_of hc hd]; simp only [ai_in, ai_stf, if_pos hk]; rfl)
theorem R_iinc {k : Nat} {q : Int} {a v : Int32} (hc : ai_code y = cc) (hd : decode cc pc = .ok (.iinc k q, 3)) (hk : ls[k]? = some (.int a)) (hv : Int32.ofInt q = v) (hl : ls.set k (.int (a + v)) = ls2) (hp : pc + 3 = pc2) : ai_Run y pc ls st ws = ai_Run y pc2 ls2 st ws := by
  subst hp; subst hl; subst hv
  exact ai_Run_go (by rw [ai_step_of hc hd]; simp only [ai_in, hk]; rfl)
theorem R_iconst {q : Int} {v : Int32} (hc : ai_code y = cc) (hd : decode cc pc = .ok (.iconst q, 1)) (hv : Int32.ofInt q = v) (hp : pc + 1 = pc2) : ai_Run y pc ls st ws = ai_Run y pc2 ls (.int v :: st) ws := by
  subst hp; subst hv
  exact ai_Run_go (by rw [ai_step_of hc hd]; rfl)
theorem R_bipush {q : Int} {v : Int32} (hc : ai_code y = cc) (hd : decode cc pc = .ok (.bipush q, 2)) (hv : (Int8.ofInt q).toInt32 = v) (hp : pc + 2 = pc2) : ai_Run y pc ls st ws = ai_Run y pc2 ls (.int v :: st) ws := by
  subst hp; subst hv
  exact ai_Run_go (by rw [ai_step_of hc hd]; rfl)
theorem R_sipush {q : Int} {v : Int32} (hc : ai_code y = cc) (hd : decode cc pc = .ok (.sipush q, 3)) (hv : (Int16.ofInt q).toInt32 = v) (hp : pc + 3 = pc2) : ai_Run y pc ls st ws = ai_Run y pc2 ls (.int v :: st) ws := by
  subst hp; subst hv
  exact ai_Run_go (by rw [ai_step_of hc hd]; rfl)
theorem R_fconst {q : Fin 3} {v : UInt32} (hc : ai_code y = cc) (hd : decode cc pc = .ok (.fconst q, 1)) (hv : (if q = 0 then FP.fconst0 else if q = 1 then FP.fconst1 else FP.fconst2) = v) (hp : pc + 1 = pc2) : ai_Run y pc ls st ws = ai_Run y pc2 ls (.float v :: st) ws := by
  subst hp; subst hv
  exact ai_Run_go (by rw [ai_step_of hc hd]; rfl)
theorem R_ldcwi {i w : Nat} {v : Int32} (hc : ai_code y = cc) (hd : decode cc pc = .ok (.ldc_w i, 3)) (hv : ai_lk ai_vk (ai_view y) i = some (.inl v, w)) (hp : pc + 3 = pc2) : ai_Run y pc ls st ws = ai_Run y pc2 ls (.int v :: st) ws := by
  subst hp
  exact ai_Run_go (by rw [ai_step_of hc hd]; simp only [ai_in, ai_wide, hv]; rfl)
theorem R_ldcwf {i w : Nat} {v : UInt32} (hc : ai_code y = cc) (hd : decode cc pc = .ok (.ldc_w i, 3)) (hv : ai_lk ai_vk (ai_view y) i = some (.inr v, w)) (hp : pc + 3 = pc2) : ai_Run y pc ls st ws = ai_Run y pc2 ls (.float v :: st) ws := by
  subst hp
  exact ai_Run_go (by rw [ai_step_of hc hd]; simp only [ai_in, ai_wide, hv]; rfl)
theorem R_ldci {i w : Nat} {v : Int32} (hc : ai_code y = cc) (hd : decode cc pc = .ok (.ldc i, 2)) (hn : ai_lk ai_vt (ai_view y) i = none) (hv : ai_lk ai_vk (ai_view y) i = some (.inl v, w)) (hp : pc + 2 = pc2) : ai_Run y pc ls st ws = ai_Run y pc2 ls (.int v :: st) ws := by
  subst hp
  exact ai_Run_go (by rw [ai_step_of hc hd]; simp only [ai_in, hn, ai_wide, hv]; rfl)
theorem R_iadd {a b : Int32} (hc : ai_code y = cc) (hd : decode cc pc = .ok (.iadd, 1)) (hp : pc + 1 = pc2) : ai_Run y pc ls (.int b :: .int a :: st) ws = ai_Run y pc2 ls (.int (a + b) :: st) ws := by
  subst hp
  exact ai_Run_go (by rw [ai_step_of hc hd]; rfl)
theorem R_isub {a b : Int32} (hc : ai_code y = cc) (hd : decode cc pc = .ok (.isub, 1)) (hp : pc + 1 = pc2) : ai_Run y pc ls (.int b :: .int a :: st) ws = ai_Run y pc2 ls (.int (a - b) :: st) ws := by
  subst hp
  exact ai_Run_go (by rw [ai_step_of hc hd]; rfl)
theorem R_imul {a b : Int32} (hc : ai_code y = cc) (hd : decode cc pc = .ok (.imul, 1)) (hp : pc + 1 = pc2) : ai_Run y pc ls (.int b :: .int a :: st) ws = ai_Run y pc2 ls (.int (a * b) :: st) ws := by
  subst hp
  exact ai_Run_go (by rw [ai_step_of hc hd]; rfl)
theorem R_iand {a b : Int32} (hc : ai_code y = cc) (hd : decode cc pc = .ok (.iand, 1)) (hp : pc + 1 = pc2) : ai_Run y pc ls (.int b :: .int a :: st) ws = ai_Run y pc2 ls (.int (a &&& b) :: st) ws := by
  subst hp
  exact ai_Run_go (by rw [ai_step_of hc hd]; rfl)
theorem R_ior {a b : Int32} (hc : ai_code y = cc) (hd : decode cc pc = .ok (.ior, 1)) (hp : pc + 1 = pc2) : ai_Run y pc ls (.int b :: .int a :: st) ws = ai_Run y pc2 ls (.int (a ||| b) :: st) ws := by
  subst hp
  exact ai_Run_go (by rw [ai_step_of hc hd]; rfl)
theorem R_ixor {a b : Int32} (hc : ai_code y = cc) (hd : decode cc pc = .ok (.ixor, 1)) (hp : pc + 1 = pc2) : ai_Run y pc ls (.int b :: .int a :: st) ws = ai_Run y pc2 ls (.int (a ^^^ b) :: st) ws := by
  subst hp
  exact ai_Run_go (by rw [ai_step_of hc hd]; rfl)
theorem R_ishl {a b : Int32} (hc : ai_code y = cc) (hd : decode cc pc = .ok (.ishl, 1)) (hp : pc + 1 = pc2) : ai_Run y pc ls (.int b :: .int a :: st) ws = ai_Run y pc2 ls (.int (a <<< (b &&& 31)) :: st) ws := by
  subst hp
  exact ai_Run_go (by rw [ai_step_of hc hd]; rfl)
theorem R_ishr {a b : Int32} (hc : ai_code y = cc) (hd : decode cc pc = .ok (.ishr, 1)) (hp : pc + 1 = pc2) : ai_Run y pc ls (.int b :: .int a :: st) ws = ai_Run y pc2 ls (.int (a >>> (b &&& 31)) :: st) ws := by
  subst hp
  exact ai_Run_go (by rw [ai_step_of hc hd]; rfl)
theorem R_iushr {a b : Int32} (hc : ai_code y = cc) (hd : decode cc pc = .ok (.iushr, 1)) (hp : pc + 1 = pc2) : ai_Run y pc ls (.int b :: .int a :: st) ws = ai_Run y pc2 ls (.int (a.toUInt32 >>> (b.toUInt32 &&& Int32.toUInt32 31)).toInt32 :: st) ws := by
  subst hp
  exact ai_Run_go (by rw [ai_step_of hc hd]; rfl)
theorem R_idiv {a b : Int32} (hc : ai_code y = cc) (hd : decode cc pc = .ok (.idiv, 1)) (hb : ¬ b = 0) (hp : pc + 1 = pc2) : ai_Run y pc ls (.int b :: .int a :: st) ws = ai_Run y pc2 ls (.int (a / b) :: st) ws := by
  subst hp
  exact ai_Run_go (by rw [ai_step_of hc hd]; simp only [ai_in, ai_bin, if_neg hb]; rfl)
theorem R_irem {a b : Int32} (hc : ai_code y = cc) (hd : decode cc pc = .ok (.irem, 1)) (hb : ¬ b = 0) (hp : pc + 1 = pc2) : ai_Run y pc ls (.int b :: .int a :: st) ws = ai_Run y pc2 ls (.int (a - a / b * b) :: st) ws := by
  subst hp
  exact ai_Run_go (by rw [ai_step_of hc hd]; simp only [ai_in, ai_bin, if_neg hb]; rfl)
theorem R_ineg {a : Int32} (hc : ai_code y = cc) (hd : decode cc pc = .ok (.ineg, 1)) (hp : pc + 1 = pc2) : ai_Run y pc ls (.int a :: st) ws = ai_Run y pc2 ls (.int (-a) :: st) ws := by
  subst hp
  exact ai_Run_go (by rw [ai_step_of hc hd]; rfl)
theorem R_i2f {a : Int32} (hc : ai_code y = cc) (hd : decode cc pc = .ok (.i2f, 1)) (hp : pc + 1 = pc2) : ai_Run y pc ls (.int a :: st) ws = ai_Run y pc2 ls (.float (FP.i2f a) :: st) ws := by
  subst hp
  exact ai_Run_go (by rw [ai_step_of hc hd]; rfl)
theorem R_f2i {a : UInt32} (hc : ai_code y = cc) (hd : decode cc pc = .ok (.f2i, 1)) (hp : pc + 1 = pc2) : ai_Run y pc ls (.float a :: st) ws = ai_Run y pc2 ls (.int (FP.f2i a) :: st) ws := by
  subst hp
  exact ai_Run_go (by rw [ai_step_of hc hd]; rfl)
def ai_fok (x : UInt32) : Bool := decide (x &&& 0x7fffffff ≤ 0x7f800000)
theorem R_fb {i : Instr} {f : UInt32 → UInt32 → UInt32} {a b : UInt32} (hc : ai_code y = cc) (hd : decode cc pc = .ok (i, 1)) (hi : ∀ pc ls st ws, ai_in y pc ls st ws i 1 = ai_fb f pc ls st ws) (hp : pc + 1 = pc2) : ai_Run y pc ls (.float b :: .float a :: st) ws = if ai_fok (f a b) = true then ai_Run y pc2 ls (.float (f a b) :: st) ws else none := by
  subst hp
  by_cases h : f a b &&& 0x7fffffff ≤ 0x7f800000
  · rw [if_pos (show ai_fok (f a b) = true from decide_eq_true h)]
    exact ai_Run_go (by rw [ai_step_of hc hd, hi]; simp only [ai_fb, if_pos h]; rfl)
  · rw [if_neg (by unfold ai_fok; rw [decide_eq_false h]; decide)]
    exact ai_Run_none (by rw [ai_step_of hc hd, hi]; simp only [ai_fb, if_neg h])
theorem R_fcmp {op : CmpOp} {a b : UInt32} (hc : ai_code y = cc) (hd : decode cc pc = .ok (.fcmp op, 1)) (hp : pc + 1 = pc2) : ai_Run y pc ls (.float b :: .float a :: st) ws = ai_Run y pc2 ls (.int (Op.cmpValue (FP.fcmp a b) op) :: st) ws := by
  subst hp
  exact ai_Run_go (by rw [ai_step_of hc hd]; rfl)
theorem R_dup {a : Nat} (hc : ai_code y = cc) (hd : decode cc pc = .ok (.dup, 1)) (hp : pc + 1 = pc2) : ai_Run y pc ls (.ref a :: st) ws = ai_Run y pc2 ls (.ref a :: .ref a :: st) ws := by
  subst hp
  exact ai_Run_go (by rw [ai_step_of hc hd]; rfl)
theorem R_dup2 {a : Nat} {i : Int32} (hc : ai_code y = cc) (hd : decode cc pc = .ok (.dup2, 1)) (hp : pc + 1 = pc2) : ai_Run y pc ls (.int i :: .ref a :: st) ws = ai_Run y pc2 ls (.int i :: .ref a :: .int i :: .ref a :: st) ws := by
  subst hp
  exact ai_Run_go (by rw [ai_step_of hc hd]; rfl)
theorem R_pop {i : Int32} (hc : ai_code y = cc) (hd : decode cc pc = .ok (.pop, 1)) (hp : pc + 1 = pc2) : ai_Run y pc ls (.int i :: st) ws = ai_Run y pc2 ls st ws := by
  subst hp
  exact ai_Run_go (by rw [ai_step_of hc hd]; rfl)
theorem R_goto {off : Int} (hc : ai_code y = cc) (hd : decode cc pc = .ok (.goto off, 3)) (ht : ai_tgt pc off = some pc2) : ai_Run y pc ls st ws = ai_Run y pc2 ls st ws := ai_Run_go (by rw [ai_step_of hc hd]; simp only [ai_in, ai_jmp, ht]; rfl)
theorem R_cmp {cd : Jvm.ClassFile.Cond} {off : Int} {t : Nat} {a b : Int32} (hc : ai_code y = cc) (hd : decode cc pc = .ok (.if_icmp cd off, 3)) (ht : ai_tgt pc off = some t) (hp : pc + 3 = pc2) : ai_Run y pc ls (.int b :: .int a :: st) ws = if ai_cmp cd a b = true then ai_Run y t ls st ws else ai_Run y pc2 ls st ws := by
  subst hp
  rw [ai_Run_go (pc2 := if ai_cmp cd a b = true then t else pc + 3) (ls2 := ls) (st2 := st) (ws2 := ws) (by rw [ai_step_of hc hd]; simp only [ai_in, ai_jmp, ht]; rfl)]
  split <;> rfl
theorem R_if {cd : Jvm.ClassFile.Cond} {off : Int} {t : Nat} {a : Int32} (hc : ai_code y = cc) (hd : decode cc pc = .ok (.ifCond cd off, 3)) (ht : ai_tgt pc off = some t) (hp : pc + 3 = pc2) : ai_Run y pc ls (.int a :: st) ws = if ai_cmp cd a 0 = true then ai_Run y t ls st ws else ai_Run y pc2 ls st ws := by
  subst hp
  rw [ai_Run_go (pc2 := if ai_cmp cd a 0 = true then t else pc + 3) (ls2 := ls) (st2 := st) (ws2 := ws) (by rw [ai_step_of hc hd]; simp only [ai_in, ai_jmp, ht]; rfl)]
  split <;> rfl
theorem ai_le_lt {α : Type} {a b : Int32} {x z : α} : (if decide (b ≤ a) = true then x else z) = if a < b then z else x := by
  by_cases h : a < b
  · rw [if_pos h, if_neg (by rw [decide_eq_true_eq]; exact Int32.not_le.mpr h)]
  · rw [if_neg h, if_pos (by rw [decide_eq_true_eq]; exact Int32.not_lt.mp h)]
theorem ai_ite_d {α : Type} {c : Prop} [Decidable c] {x z : α} : (if decide c = true then x else z) = if c then x else z := by
  by_cases h : c <;> simp [h]
theorem ai_ite_n {α : Type} {c : Prop} [Decidable c] {x z : α} : (if decide (¬ c) = true then x else z) = if c then z else x := by
  by_cases h : c <;> simp [h]
theorem R_cmp_eq {off : Int} {t : Nat} {a b : Int32} (hc : ai_code y = cc) (hd : decode cc pc = .ok (.if_icmp .eq off, 3)) (ht : ai_tgt pc off = some t) (hp : pc + 3 = pc2) : ai_Run y pc ls (.int b :: .int a :: st) ws = if a = b then ai_Run y t ls st ws else ai_Run y pc2 ls st ws := (R_cmp hc hd ht hp).trans ai_ite_d
theorem R_cmp_ne {off : Int} {t : Nat} {a b : Int32} (hc : ai_code y = cc) (hd : decode cc pc = .ok (.if_icmp .ne off, 3)) (ht : ai_tgt pc off = some t) (hp : pc + 3 = pc2) : ai_Run y pc ls (.int b :: .int a :: st) ws = if a = b then ai_Run y pc2 ls st ws else ai_Run y t ls st ws := (R_cmp hc hd ht hp).trans ai_ite_n
theorem R_cmp_lt {off : Int} {t : Nat} {a b : Int32} (hc : ai_code y = cc) (hd : decode cc pc = .ok (.if_icmp .lt off, 3)) (ht : ai_tgt pc off = some t) (hp : pc + 3 = pc2) : ai_Run y pc ls (.int b :: .int a :: st) ws = if a < b then ai_Run y t ls st ws else ai_Run y pc2 ls st ws := (R_cmp hc hd ht hp).trans ai_ite_d
theorem R_cmp_ge {off : Int} {t : Nat} {a b : Int32} (hc : ai_code y = cc) (hd : decode cc pc = .ok (.if_icmp .ge off, 3)) (ht : ai_tgt pc off = some t) (hp : pc + 3 = pc2) : ai_Run y pc ls (.int b :: .int a :: st) ws = if a < b then ai_Run y pc2 ls st ws else ai_Run y t ls st ws := (R_cmp hc hd ht hp).trans ai_le_lt
theorem R_cmp_gt {off : Int} {t : Nat} {a b : Int32} (hc : ai_code y = cc) (hd : decode cc pc = .ok (.if_icmp .gt off, 3)) (ht : ai_tgt pc off = some t) (hp : pc + 3 = pc2) : ai_Run y pc ls (.int b :: .int a :: st) ws = if b < a then ai_Run y t ls st ws else ai_Run y pc2 ls st ws := (R_cmp hc hd ht hp).trans ai_ite_d
theorem R_cmp_le {off : Int} {t : Nat} {a b : Int32} (hc : ai_code y = cc) (hd : decode cc pc = .ok (.if_icmp .le off, 3)) (ht : ai_tgt pc off = some t) (hp : pc + 3 = pc2) : ai_Run y pc ls (.int b :: .int a :: st) ws = if b < a then ai_Run y pc2 ls st ws else ai_Run y t ls st ws := (R_cmp hc hd ht hp).trans ai_le_lt
theorem R_if_eq {off : Int} {t : Nat} {a : Int32} (hc : ai_code y = cc) (hd : decode cc pc = .ok (.ifCond .eq off, 3)) (ht : ai_tgt pc off = some t) (hp : pc + 3 = pc2) : ai_Run y pc ls (.int a :: st) ws = if a = 0 then ai_Run y t ls st ws else ai_Run y pc2 ls st ws := (R_if hc hd ht hp).trans ai_ite_d
theorem R_if_ne {off : Int} {t : Nat} {a : Int32} (hc : ai_code y = cc) (hd : decode cc pc = .ok (.ifCond .ne off, 3)) (ht : ai_tgt pc off = some t) (hp : pc + 3 = pc2) : ai_Run y pc ls (.int a :: st) ws = if a = 0 then ai_Run y pc2 ls st ws else ai_Run y t ls st ws := (R_if hc hd ht hp).trans ai_ite_n
theorem R_if_lt {off : Int} {t : Nat} {a : Int32} (hc : ai_code y = cc) (hd : decode cc pc = .ok (.ifCond .lt off, 3)) (ht : ai_tgt pc off = some t) (hp : pc + 3 = pc2) : ai_Run y pc ls (.int a :: st) ws = if a < 0 then ai_Run y t ls st ws else ai_Run y pc2 ls st ws := (R_if hc hd ht hp).trans ai_ite_d
theorem R_if_ge {off : Int} {t : Nat} {a : Int32} (hc : ai_code y = cc) (hd : decode cc pc = .ok (.ifCond .ge off, 3)) (ht : ai_tgt pc off = some t) (hp : pc + 3 = pc2) : ai_Run y pc ls (.int a :: st) ws = if a < 0 then ai_Run y pc2 ls st ws else ai_Run y t ls st ws := (R_if hc hd ht hp).trans ai_le_lt
theorem R_if_gt {off : Int} {t : Nat} {a : Int32} (hc : ai_code y = cc) (hd : decode cc pc = .ok (.ifCond .gt off, 3)) (ht : ai_tgt pc off = some t) (hp : pc + 3 = pc2) : ai_Run y pc ls (.int a :: st) ws = if 0 < a then ai_Run y t ls st ws else ai_Run y pc2 ls st ws := (R_if hc hd ht hp).trans ai_ite_d
theorem R_if_le {off : Int} {t : Nat} {a : Int32} (hc : ai_code y = cc) (hd : decode cc pc = .ok (.ifCond .le off, 3)) (ht : ai_tgt pc off = some t) (hp : pc + 3 = pc2) : ai_Run y pc ls (.int a :: st) ws = if 0 < a then ai_Run y pc2 ls st ws else ai_Run y t ls st ws := (R_if hc hd ht hp).trans ai_le_lt
theorem R_ifnull_r {off : Int} {t a : Nat} (hc : ai_code y = cc) (hd : decode cc pc = .ok (.ifnull off, 3)) (ht : ai_tgt pc off = some t) (hp : pc + 3 = pc2) : ai_Run y pc ls (.ref a :: st) ws = ai_Run y pc2 ls st ws := by
  subst hp
  exact ai_Run_go (by rw [ai_step_of hc hd]; simp only [ai_in, ai_jmp, ht]; rfl)
theorem R_switch {d lo hi : Int} {offs : Array Int} {x : Int32} {t : Nat} (hc : ai_code y = cc) (hd : decode cc pc = .ok (.tableswitch d lo hi offs, n)) (ht : ai_sw pc d lo hi offs x = some t) : ai_Run y pc ls (.int x :: st) ws = ai_Run y t ls st ws := ai_Run_go (by rw [ai_step_of hc hd]; simp only [ai_in, ht]; rfl)
theorem R_getf {i ci k w v a : Nat} (hc : ai_code y = cc) (hd : decode cc pc = .ok (.getfield i, 3)) (hv : ai_view y = v) (hk : ai_lk ai_vf v i = some (ci, k, w)) (hp : pc + 3 = pc2) : ai_Run y pc ls (.ref a :: st) ws = (ai_fget ws a ci k).bind fun q => ai_Run y pc2 ls (q :: st) ws := by
  subst hp; subst hv
  cases h : ai_fget ws a ci k with
  | none => exact ai_Run_none (by rw [ai_step_of hc hd]; simp only [ai_in, hk, h])
  | some q => exact ai_Run_go (by rw [ai_step_of hc hd]; simp only [ai_in, hk, h]; rfl)
theorem R_putf {i ci k w v a : Nat} {x : Value} (hc : ai_code y = cc) (hd : decode cc pc = .ok (.putfield i, 3)) (hv : ai_view y = v) (hk : ai_lk ai_vf v i = some (ci, k, w)) (hf : ((ai_cl ci).2.1 k).2.2.2 = false) (hp : pc + 3 = pc2) : ai_Run y pc ls (x :: .ref a :: st) ws = (ai_fput ws a ci k x).bind fun ws => ai_Run y pc2 ls st ws := by
  subst hp; subst hv
  have hq : ((ai_cl ci).2.1 k).2.2.2 = true → ai_kind y = 2 ∧ ai_ci y = ci := fun h => by rw [hf] at h; cases h
  cases h : ai_fput ws a ci k x with
  | none => exact ai_Run_none (by rw [ai_step_of hc hd]; simp only [ai_in, hk, if_pos hq, h])
  | some q => exact ai_Run_go (by rw [ai_step_of hc hd]; simp only [ai_in, hk, if_pos hq, h]; rfl)
theorem R_iaload {a : Nat} {i : Int32} (hc : ai_code y = cc) (hd : decode cc pc = .ok (.iaload, 1)) (hp : pc + 1 = pc2) : ai_Run y pc ls (.int i :: .ref a :: st) ws = (ai_aget ws a i).bind fun q => ai_Run y pc2 ls (.int q :: st) ws := by
  subst hp
  cases h : ai_aget ws a i with
  | none => exact ai_Run_none (by rw [ai_step_of hc hd]; simp only [ai_in, h])
  | some q => exact ai_Run_go (by rw [ai_step_of hc hd]; simp only [ai_in, h]; rfl)
theorem R_iastore {a : Nat} {i x : Int32} (hc : ai_code y = cc) (hd : decode cc pc = .ok (.iastore, 1)) (hp : pc + 1 = pc2) : ai_Run y pc ls (.int x :: .int i :: .ref a :: st) ws = (ai_aset ws a i x).bind fun ws => ai_Run y pc2 ls st ws := by
  subst hp
  cases h : ai_aset ws a i x with
  | none => exact ai_Run_none (by rw [ai_step_of hc hd]; simp only [ai_in, h])
  | some q => exact ai_Run_go (by rw [ai_step_of hc hd]; simp only [ai_in, h]; rfl)
theorem R_arraylength {a : Nat} (hc : ai_code y = cc) (hd : decode cc pc = .ok (.arraylength, 1)) (hp : pc + 1 = pc2) : ai_Run y pc ls (.ref a :: st) ws = (ai_len ws a).bind fun q => ai_Run y pc2 ls (.int q :: st) ws := by
  subst hp
  cases h : ai_len ws a with
  | none => exact ai_Run_none (by rw [ai_step_of hc hd]; simp only [ai_in, h])
  | some q => exact ai_Run_go (by rw [ai_step_of hc hd]; simp only [ai_in, h]; rfl)
theorem R_aaload {a : Nat} {i : Int32} (hc : ai_code y = cc) (hd : decode cc pc = .ok (.aaload, 1)) (hp : pc + 1 = pc2) : ai_Run y pc ls (.int i :: .ref a :: st) ws = (ai_qget ws a i).bind fun q => ai_Run y pc2 ls (q :: st) ws := by
  subst hp
  cases h : ai_qget ws a i with
  | none => exact ai_Run_none (by rw [ai_step_of hc hd]; simp only [ai_in, h])
  | some q => exact ai_Run_go (by rw [ai_step_of hc hd]; simp only [ai_in, h]; rfl)
theorem ai_call_of {y2 kd : Nat} {st0 as rest : List Value} (hlt : y2 < y ∧ ai_fr y2 + 1 ≤ ai_fr y ∧ 8 + (ai_L y2 + 11) + ai_lo y2 ≤ ai_lo y) (hkd : ai_kind y2 = kd) (hn : as.length = ai_n y2 + if kd = 0 then 0 else 1) (hst : st0 = as.reverse ++ rest) : ai_call y y2 kd pc st0 = some (.inr (.inr (y2, as, rest, pc + 3))) := by
  subst hst
  unfold ai_call
  rw [if_pos ⟨hlt.1, hkd, hlt.2.1, hlt.2.2⟩, ← hn, ← List.length_reverse (as := as), List.take_left, List.drop_left, List.reverse_reverse]
theorem R_callV {i v y2 w : Nat} {st0 as rest : List Value} (hc : ai_code y = cc) (hd : decode cc pc = .ok (.invokevirtual i, 3)) (hv : ai_view y = v) (hk : ai_lk ai_vm v i = some (0, y2, w)) (hlt : y2 < y ∧ ai_fr y2 + 1 ≤ ai_fr y ∧ 8 + (ai_L y2 + 11) + ai_lo y2 ≤ ai_lo y) (hkd : ai_kind y2 = 1) (hn : as.length = ai_n y2 + 1) (hst : st0 = as.reverse ++ rest) (hr : rest.length ≤ 4) (hp : pc + 3 = pc2) : ai_Run y pc ls st0 ws = (ai_Call y2 as ws).bind fun q => ai_Run y pc2 ls (q.1.toList ++ rest) q.2 := by
  subst hp; subst hv
  exact ai_Run_call (by rw [ai_step_of hc hd]; simp only [ai_in, ai_inv, hk]; exact ai_call_of hlt hkd hn hst) (ai_cs4 hr)
theorem R_callS {i v y2 w : Nat} {st0 as rest : List Value} (hc : ai_code y = cc) (hd : decode cc pc = .ok (.invokestatic i, 3)) (hv : ai_view y = v) (hk : ai_lk ai_vm v i = some (1, y2, w)) (hlt : y2 < y ∧ ai_fr y2 + 1 ≤ ai_fr y ∧ 8 + (ai_L y2 + 11) + ai_lo y2 ≤ ai_lo y) (hkd : ai_kind y2 = 0) (hn : as.length = ai_n y2) (hst : st0 = as.reverse ++ rest) (hr : rest.length ≤ 4) (hp : pc + 3 = pc2) : ai_Run y pc ls st0 ws = (ai_Call y2 as ws).bind fun q => ai_Run y pc2 ls (q.1.toList ++ rest) q.2 := by
  subst hp; subst hv
  exact ai_Run_call (by rw [ai_step_of hc hd]; simp only [ai_in, ai_ins, hk]; exact ai_call_of hlt hkd hn hst) (ai_cs4 hr)
theorem R_callN {i v y2 w : Nat} {st0 as rest : List Value} (hc : ai_code y = cc) (hd : decode cc pc = .ok (.invokestatic i, 3)) (hv : ai_view y = v) (hk : ai_lk ai_vm v i = some (3, y2, w)) (hlt : y2 < y ∧ ai_fr y2 + 1 ≤ ai_fr y ∧ 8 + (ai_L y2 + 11) + ai_lo y2 ≤ ai_lo y) (hkd : ai_kind y2 = 0) (hn : as.length = ai_n y2) (hst : st0 = as.reverse ++ rest) (hr : rest.length ≤ 4) (hp : pc + 3 = pc2) : ai_Run y pc ls st0 ws = (ai_Call y2 as ws).bind fun q => ai_Run y pc2 ls (q.1.toList ++ rest) q.2 := by
  subst hp; subst hv
  exact ai_Run_call (by rw [ai_step_of hc hd]; simp only [ai_in, ai_ins, hk]; exact ai_call_of hlt hkd hn hst) (ai_cs4 hr)
def ai_cpy (ws : ai_W) (a : Nat) (i : Int32) (d : Nat) (j n : Int32) : Option ai_W := match ai_copy ws a i d j n with
  | some ws => some ws
  | none => ai_cpb ws a i d j n
theorem ai_cpy_i {ws ws2 : ai_W} {a d : Nat} {i j n : Int32} (h : ai_copy ws a i d j n = some ws2) : ai_cpy ws a i d j n = some ws2 := by
  unfold ai_cpy
  rw [h]
theorem R_copy {i v y2 w a d : Nat} {i0 j n0 : Int32} (hc : ai_code y = cc) (hd : decode cc pc = .ok (.invokestatic i, 3)) (hv : ai_view y = v) (hk : ai_lk ai_vm v i = some (6, y2, w)) (hr : st.length ≤ 4) (hN : ai_nat y = true) (hp : pc + 3 = pc2) : ai_Run y pc ls (.int n0 :: .int j :: .ref d :: .int i0 :: .ref a :: st) ws = (ai_cpy ws a i0 d j n0).bind fun ws => ai_Run y pc2 ls st ws := by
  subst hp; subst hv
  unfold ai_cpy
  cases h : ai_copy ws a i0 d j n0 with
  | none =>
    cases h2 : ai_cpb ws a i0 d j n0 with
    | none => exact ai_Run_none (by rw [ai_step_of hc hd]; simp only [ai_in, ai_ins, hk, h, h2])
    | some q => exact ai_Run_go (by rw [ai_step_of hc hd]; simp only [ai_in, ai_ins, hk, h, h2, if_pos (And.intro hr hN)]; rfl)
  | some q => exact ai_Run_go (by rw [ai_step_of hc hd]; simp only [ai_in, ai_ins, hk, h, if_pos (And.intro hr hN)]; rfl)
theorem R_copyX {i v y2 w k d : Nat} {i0 j n0 : Int32} (hc : ai_code y = cc) (hd : decode cc pc = .ok (.invokestatic i, 3)) (hv : ai_view y = v) (hk : ai_lk ai_vm v i = some (6, y2, w)) (hr : st.length ≤ 4) (hN : ai_nat y = true) (hp : pc + 3 = pc2) : ai_Run y pc ls (.int n0 :: .int j :: .ref d :: .int i0 :: .retAddr k :: st) ws = (ai_cpx k ws i0 d j n0).bind fun ws => ai_Run y pc2 ls st ws := by
  subst hp; subst hv
  cases h : ai_cpx k ws i0 d j n0 with
  | none => exact ai_Run_none (by rw [ai_step_of hc hd]; simp only [ai_in, ai_ins, hk, h])
  | some q => exact ai_Run_go (by rw [ai_step_of hc hd]; simp only [ai_in, ai_ins, hk, h, if_pos (And.intro hr hN)]; rfl)
theorem R_iret {x : Int32} (hc : ai_code y = cc) (hd : decode cc pc = .ok (.ireturn, 1)) (ht : ai_ret y = some .int) : ai_Run y pc ls [.int x] ws = some (some (.int x), ws) := ai_Run_ret (by rw [ai_step_of hc hd]; simp only [ai_in, ht]; rfl)
theorem R_zret {x : Int32} (hc : ai_code y = cc) (hd : decode cc pc = .ok (.ireturn, 1)) (ht : ai_ret y = some .boolean) : ai_Run y pc ls [.int x] ws = if ai_pb x = true then some (some (.int x), ws) else none := by
  by_cases h : ai_pb x = true
  · rw [if_pos h]
    have h2 : ai_pok (some .boolean) (.int x) = true := h
    exact ai_Run_ret (by rw [ai_step_of hc hd]; simp only [ai_in, ht, if_pos h2])
  · rw [if_neg h]
    have h2 : ¬ ai_pok (some .boolean) (.int x) = true := h
    exact ai_Run_none (by rw [ai_step_of hc hd]; simp only [ai_in, ht, if_neg h2])
theorem R_vret (hc : ai_code y = cc) (hd : decode cc pc = .ok (.return_, 1)) (ht : ai_ret y = none) : ai_Run y pc ls [] ws = some (none, ws) := ai_Run_ret (by rw [ai_step_of hc hd]; simp only [ai_in, ht]; rfl)
theorem R_entS {as : List Value} (hk : ai_kind y = 0) (h : (as.length = ai_n y ∧ as.all (fun v => decide (v.category = 1)) = true) ∧ as.length ≤ ai_L y) (he : ai_ent y as = ls) : ai_Call y as ws = ai_Run y 0 ls [] ws := by
  unfold ai_Call ai_ok
  rw [if_pos, he]
  have h1 := h.1.1
  have h2 := h.2
  simp [hk, h1, h.1.2]
  omega
theorem R_entV {as : List Value} {a : Nat} (hk : ai_kind y = 1) (h : (as.length = ai_n y ∧ as.all (fun v => decide (v.category = 1)) = true) ∧ as.length + 1 ≤ ai_L y) (he : ai_ent y (.ref a :: as) = ls) : ai_Call y (.ref a :: as) ws = if ai_isob ws a (ai_ci y) = true then ai_Run y 0 ls [] ws else none := by
  unfold ai_Call
  have e : ai_ok y (.ref a :: as) ws = ai_isob ws a (ai_ci y) := by
    unfold ai_ok
    have h1 := h.1.1
    have h2 := h.2
    have h3 : Value.category (.ref a) = 1 := rfl
    simp [hk, h1, h.1.2, h3, ai_rcv]
    intro _
    omega
  rw [e, he]
end RULES
/-! Rules for what makes objects and arrays. -/
section RULES
variable {y pc pc2 n : Nat} {cc : ByteArray} {ls ls2 st : List Value} {ws : ai_W}
theorem R_astore_n {k : Fin 4} {a : Nat} (hc : ai_code y = cc) (hd : decode cc pc = .ok (.astore_n k, 1)) (hk : k.val < ls.length) (hl : ls.set k.val (.ref a) = ls2) (hp : pc + 1 = pc2) : ai_Run y pc ls (.ref a :: st) ws = ai_Run y pc2 ls2 st ws := by
  subst hp; subst hl
  exact ai_Run_go (by rw [ai_step_of hc hd]; simp only [ai_in, ai_sta, if_pos hk]; rfl)
theorem R_astore {k : Nat} {a : Nat} (hc : ai_code y = cc) (hd : decode cc pc = .ok (.astore k, 2)) (hk : k < ls.length) (hl : ls.set k (.ref a) = ls2) (hp : pc + 2 = pc2) : ai_Run y pc ls (.ref a :: st) ws = ai_Run y pc2 ls2 st ws := by
  subst hp; subst hl
  exact ai_Run_go (by rw [ai_step_of hc hd]; simp only [ai_in, ai_sta, if_pos hk]; rfl)
theorem R_putF {i ci k w v a : Nat} {x : Value} (hc : ai_code y = cc) (hd : decode cc pc = .ok (.putfield i, 3)) (hv : ai_view y = v) (hk : ai_lk ai_vf v i = some (ci, k, w)) (h2 : ai_kind y = 2) (h3 : ai_ci y = ci) (hp : pc + 3 = pc2) : ai_Run y pc ls (x :: .ref a :: st) ws = (ai_fput ws a ci k x).bind fun ws => ai_Run y pc2 ls st ws := by
  subst hp; subst hv
  have hq : ((ai_cl ci).2.1 k).2.2.2 = true → ai_kind y = 2 ∧ ai_ci y = ci := fun _ => ⟨h2, h3⟩
  cases h : ai_fput ws a ci k x with
  | none => exact ai_Run_none (by rw [ai_step_of hc hd]; simp only [ai_in, hk, if_pos hq, h])
  | some q => exact ai_Run_go (by rw [ai_step_of hc hd]; simp only [ai_in, hk, if_pos hq, h]; rfl)
theorem R_aastore {a x : Nat} {i : Int32} (hc : ai_code y = cc) (hd : decode cc pc = .ok (.aastore, 1)) (hp : pc + 1 = pc2) : ai_Run y pc ls (.ref x :: .int i :: .ref a :: st) ws = (ai_qset ws a i x).bind fun ws => ai_Run y pc2 ls st ws := by
  subst hp
  cases h : ai_qset ws a i x with
  | none => exact ai_Run_none (by rw [ai_step_of hc hd]; simp only [ai_in, h])
  | some q => exact ai_Run_go (by rw [ai_step_of hc hd]; simp only [ai_in, h]; rfl)
theorem R_new {i ci w1 w2 w3 v : Nat} (hc : ai_code y = cc) (hd : decode cc pc = .ok (.new i, 3)) (hv : ai_view y = v) (hk : ai_lk ai_vn v i = some (ci, w1, w2, w3)) (hp : pc + 3 = pc2) : ai_Run y pc ls st ws = ai_Run y pc2 ls (.ref ws.length :: st) (ws ++ [ai_blank ci]) := by
  subst hp; subst hv
  exact ai_Run_go (by rw [ai_step_of hc hd]; simp only [ai_in, hk]; rfl)
theorem R_newa {q : Int32} (hc : ai_code y = cc) (hd : decode cc pc = .ok (.newarray .int, 2)) (hp : pc + 2 = pc2) : ai_Run y pc ls (.int q :: st) ws = if q < 0 ∨ 100000 < q.toNatClampNeg then none else ai_Run y pc2 ls (.ref ws.length :: st) (ws ++ [.inl (List.replicate q.toNatClampNeg 0)]) := by
  subst hp
  by_cases h : q < 0 ∨ 100000 < q.toNatClampNeg
  · rw [if_pos h]
    exact ai_Run_none (by rw [ai_step_of hc hd]; simp only [ai_in, if_pos h])
  · rw [if_neg h]
    exact ai_Run_go (by rw [ai_step_of hc hd]; simp only [ai_in, if_neg h]; rfl)
theorem R_newq {i w1 w2 w3 v : Nat} {q : Int32} (hc : ai_code y = cc) (hd : decode cc pc = .ok (.anewarray i, 3)) (hv : ai_view y = v) (hk : ai_lk ai_vn v i = some (0, w1, w2, w3)) (hp : pc + 3 = pc2) : ai_Run y pc ls (.int q :: st) ws = if q < 0 ∨ 100000 < q.toNatClampNeg then none else ai_Run y pc2 ls (.ref ws.length :: st) (ws ++ [.inr (.inl (List.replicate q.toNatClampNeg none))]) := by
  subst hp; subst hv
  by_cases h : q < 0 ∨ 100000 < q.toNatClampNeg
  · rw [if_pos h]
    exact ai_Run_none (by rw [ai_step_of hc hd]; simp only [ai_in, hk, if_pos h])
  · rw [if_neg h]
    exact ai_Run_go (by rw [ai_step_of hc hd]; simp only [ai_in, hk, if_neg h]; rfl)
theorem R_callI {i v y2 w : Nat} {st0 as rest : List Value} (hc : ai_code y = cc) (hd : decode cc pc = .ok (.invokespecial i, 3)) (hv : ai_view y = v) (hk : ai_lk ai_vm v i = some (2, y2, w) ∨ ai_lk ai_vm v i = some (4, y2, w)) (hlt : y2 < y ∧ ai_fr y2 + 1 ≤ ai_fr y ∧ 8 + (ai_L y2 + 11) + ai_lo y2 ≤ ai_lo y) (hkd : ai_kind y2 = 2) (hn : as.length = ai_n y2 + 1) (hst : st0 = as.reverse ++ rest) (hr : rest.length ≤ 4) (hp : pc + 3 = pc2) : ai_Run y pc ls st0 ws = (ai_Call y2 as ws).bind fun q => ai_Run y pc2 ls (q.1.toList ++ rest) q.2 := by
  subst hp; subst hv
  refine ai_Run_call ?_ (ai_cs4 hr)
  rw [ai_step_of hc hd]
  rcases hk with hk | hk <;> (simp only [ai_in, ai_spc, hk]; exact ai_call_of hlt hkd hn hst)
theorem R_obj {i v y2 w a : Nat} (hc : ai_code y = cc) (hd : decode cc pc = .ok (.invokespecial i, 3)) (hv : ai_view y = v) (hk : ai_lk ai_vm v i = some (5, y2, w)) (hr : st.length ≤ 4) (hN : ai_nat y = true) (hp : pc + 3 = pc2) : ai_Run y pc ls (.ref a :: st) ws = ai_Run y pc2 ls st ws := by
  subst hp; subst hv
  exact ai_Run_go (by rw [ai_step_of hc hd]; simp only [ai_in, ai_spc, hk, if_pos (And.intro hr hN)]; rfl)
theorem R_entI {as : List Value} {a : Nat} (hk : ai_kind y = 2) (h : (as.length = ai_n y ∧ as.all (fun v => decide (v.category = 1)) = true) ∧ as.length + 1 ≤ ai_L y) (he : ai_ent y (.ref a :: as) = ls) : ai_Call y (.ref a :: as) ws = if ai_isob ws a (ai_ci y) = true then ai_Run y 0 ls [] ws else none := by
  unfold ai_Call
  have e : ai_ok y (.ref a :: as) ws = ai_isob ws a (ai_ci y) := by
    unfold ai_ok
    have h1 := h.1.1
    have h2 := h.2
    have h3 : Value.category (.ref a) = 1 := rfl
    simp [hk, h1, h.1.2, h3, ai_rcv]
    intro _
    omega
  rw [e, he]
end RULES
/-! Rules for texts, bytes, statics, and what stood before. -/
section RULES
variable {y pc pc2 n : Nat} {cc : ByteArray} {ls ls2 st : List Value} {ws : ai_W}
theorem ai_lt3 {y y2 a b c d e : Nat} (h1 : ai_fr y2 = a) (h2 : ai_fr y = b) (h3 : ai_L y2 = c) (h4 : ai_lo y2 = d) (h5 : ai_lo y = e) (h : (Nat.blt y2 y && Nat.ble (a + 1) b && Nat.ble (8 + (c + 11) + d) e) = true) : y2 < y ∧ ai_fr y2 + 1 ≤ ai_fr y ∧ 8 + (ai_L y2 + 11) + ai_lo y2 ≤ ai_lo y := by
  rw [Bool.and_eq_true, Bool.and_eq_true] at h
  rw [h1, h2, h3, h4, h5]
  exact ⟨Nat.blt_eq.mp h.1.1, Nat.le_of_ble_eq_true h.1.2, Nat.le_of_ble_eq_true h.2⟩
theorem ai_nat_of {y b e : Nat} (h2 : ai_fr y = b) (h5 : ai_lo y = e) (h : (Nat.ble 1 b && Nat.ble 40 e) = true) : ai_nat y = true := by
  unfold ai_nat
  rw [h2, h5]
  rw [Bool.and_eq_true] at h
  exact decide_eq_true ⟨Nat.le_of_ble_eq_true h.1, Nat.le_of_ble_eq_true h.2⟩
theorem R_aload_nX {k : Fin 4} {a : Nat} (hq : ¬ a = 23) (hc : ai_code y = cc) (hd : decode cc pc = .ok (.aload_n k, 1)) (hl : ls[k.val]? = some (.retAddr a)) (hp : pc + 1 = pc2) : ai_Run y pc ls st ws = ai_Run y pc2 ls (.retAddr a :: st) ws := by
  subst hp
  exact ai_Run_go (by rw [ai_step_of hc hd]; simp only [ai_in, ai_lda, hl, if_neg hq]; rfl)
theorem R_aloadX {k : Nat} {a : Nat} (hq : ¬ a = 23) (hc : ai_code y = cc) (hd : decode cc pc = .ok (.aload k, 2)) (hl : ls[k]? = some (.retAddr a)) (hp : pc + 2 = pc2) : ai_Run y pc ls st ws = ai_Run y pc2 ls (.retAddr a :: st) ws := by
  subst hp
  exact ai_Run_go (by rw [ai_step_of hc hd]; simp only [ai_in, ai_lda, hl, if_neg hq]; rfl)
theorem R_popR {a : Nat} (hc : ai_code y = cc) (hd : decode cc pc = .ok (.pop, 1)) (hp : pc + 1 = pc2) : ai_Run y pc ls (.ref a :: st) ws = ai_Run y pc2 ls st ws := by
  subst hp
  exact ai_Run_go (by rw [ai_step_of hc hd]; rfl)
theorem R_i2c {x : Int32} (hc : ai_code y = cc) (hd : decode cc pc = .ok (.i2c, 1)) (hp : pc + 1 = pc2) : ai_Run y pc ls (.int x :: st) ws = ai_Run y pc2 ls (.int (x.toUInt32 % 65536).toInt32 :: st) ws := by
  subst hp
  exact ai_Run_go (by rw [ai_step_of hc hd]; rfl)
theorem R_null (hc : ai_code y = cc) (hd : decode cc pc = .ok (.aconst_null, 1)) (hp : pc + 1 = pc2) : ai_Run y pc ls st ws = ai_Run y pc2 ls (.null :: st) ws := by
  subst hp
  exact ai_Run_go (by rw [ai_step_of hc hd]; rfl)
theorem R_nonnull {off : Int} {t a : Nat} (hc : ai_code y = cc) (hd : decode cc pc = .ok (.ifnonnull off, 3)) (ht : ai_tgt pc off = some t) : ai_Run y pc ls (.ref a :: st) ws = ai_Run y t ls st ws := ai_Run_go (by rw [ai_step_of hc hd]; simp only [ai_in, ai_jmp, ht]; rfl)
theorem R_nonnullX {off : Int} {t a : Nat} (hq : ¬ a = 23) (hc : ai_code y = cc) (hd : decode cc pc = .ok (.ifnonnull off, 3)) (ht : ai_tgt pc off = some t) : ai_Run y pc ls (.retAddr a :: st) ws = ai_Run y t ls st ws := ai_Run_go (by rw [ai_step_of hc hd]; simp only [ai_in, ai_jmp, ht, if_neg hq]; rfl)
theorem R_gets {i w q : Nat} {x : Value} (hc : ai_code y = cc) (hd : decode cc pc = .ok (.getstatic i, 3)) (hk : ai_lk ai_vg (ai_view y) i = some (q, w)) (hx : (q = 0 ∧ x = .int 1) ∨ (q = 1 ∧ x = .retAddr 21) ∨ (q = 2 ∧ x = .retAddr 22) ∨ (q = 3 ∧ x = .retAddr 23)) (hp : pc + 3 = pc2) : ai_Run y pc ls st ws = ai_Run y pc2 ls (x :: st) ws := by
  subst hp
  rcases hx with ⟨rfl, rfl⟩ | ⟨rfl, rfl⟩ | ⟨rfl, rfl⟩ | ⟨rfl, rfl⟩ <;> exact ai_Run_go (by rw [ai_step_of hc hd]; simp only [ai_in, hk]; rfl)
theorem R_ldcs {i k : Nat} (hc : ai_code y = cc) (hd : decode cc pc = .ok (.ldc i, 2)) (hk : ai_lk ai_vt (ai_view y) i = some k) (h10 : k < 10) (hp : pc + 2 = pc2) : ai_Run y pc ls st ws = ai_Run y pc2 ls (.retAddr (k + 1) :: st) ws := by
  subst hp
  exact ai_Run_go (by rw [ai_step_of hc hd]; simp only [ai_in, hk, if_pos h10]; rfl)
theorem R_baload {a : Nat} {i : Int32} (hc : ai_code y = cc) (hd : decode cc pc = .ok (.baload, 1)) (hp : pc + 1 = pc2) : ai_Run y pc ls (.int i :: .ref a :: st) ws = (ai_bget ws a i).bind fun q => ai_Run y pc2 ls (.int q :: st) ws := by
  subst hp
  cases h : ai_bget ws a i with
  | none => exact ai_Run_none (by rw [ai_step_of hc hd]; simp only [ai_in, h])
  | some q => exact ai_Run_go (by rw [ai_step_of hc hd]; simp only [ai_in, h]; rfl)
theorem R_baloadX {k : Nat} {i : Int32} (hc : ai_code y = cc) (hd : decode cc pc = .ok (.baload, 1)) (hp : pc + 1 = pc2) : ai_Run y pc ls (.int i :: .retAddr k :: st) ws = (ai_xbget k i).bind fun q => ai_Run y pc2 ls (.int q :: st) ws := by
  subst hp
  cases h : ai_xbget k i with
  | none => exact ai_Run_none (by rw [ai_step_of hc hd]; simp only [ai_in, h])
  | some q => exact ai_Run_go (by rw [ai_step_of hc hd]; simp only [ai_in, h]; rfl)
theorem R_bastore {a : Nat} {i x : Int32} (hc : ai_code y = cc) (hd : decode cc pc = .ok (.bastore, 1)) (hp : pc + 1 = pc2) : ai_Run y pc ls (.int x :: .int i :: .ref a :: st) ws = (ai_bset ws a i x).bind fun ws => ai_Run y pc2 ls st ws := by
  subst hp
  cases h : ai_bset ws a i x with
  | none => exact ai_Run_none (by rw [ai_step_of hc hd]; simp only [ai_in, h])
  | some q => exact ai_Run_go (by rw [ai_step_of hc hd]; simp only [ai_in, h]; rfl)
theorem R_ialoadX {k : Nat} {i : Int32} (hc : ai_code y = cc) (hd : decode cc pc = .ok (.iaload, 1)) (hp : pc + 1 = pc2) : ai_Run y pc ls (.int i :: .retAddr k :: st) ws = (ai_xaget k i).bind fun q => ai_Run y pc2 ls (.int q :: st) ws := by
  subst hp
  cases h : ai_xaget k i with
  | none => exact ai_Run_none (by rw [ai_step_of hc hd]; simp only [ai_in, h])
  | some q => exact ai_Run_go (by rw [ai_step_of hc hd]; simp only [ai_in, h]; rfl)
theorem R_alenX {k : Nat} (hc : ai_code y = cc) (hd : decode cc pc = .ok (.arraylength, 1)) (hp : pc + 1 = pc2) : ai_Run y pc ls (.retAddr k :: st) ws = (ai_xlen k).bind fun q => ai_Run y pc2 ls (.int q :: st) ws := by
  subst hp
  cases h : ai_xlen k with
  | none => exact ai_Run_none (by rw [ai_step_of hc hd]; simp only [ai_in, h])
  | some q => exact ai_Run_go (by rw [ai_step_of hc hd]; simp only [ai_in, h]; rfl)
theorem R_getfX {i ci k w v a : Nat} (hc : ai_code y = cc) (hd : decode cc pc = .ok (.getfield i, 3)) (hv : ai_view y = v) (hk : ai_lk ai_vf v i = some (ci, k, w)) (hp : pc + 3 = pc2) : ai_Run y pc ls (.retAddr a :: st) ws = (ai_xget a ci k).bind fun q => ai_Run y pc2 ls (q :: st) ws := by
  subst hp; subst hv
  cases h : ai_xget a ci k with
  | none => exact ai_Run_none (by rw [ai_step_of hc hd]; simp only [ai_in, hk, h])
  | some q => exact ai_Run_go (by rw [ai_step_of hc hd]; simp only [ai_in, hk, h]; rfl)
theorem R_newb {q : Int32} (hc : ai_code y = cc) (hd : decode cc pc = .ok (.newarray .byte, 2)) (hp : pc + 2 = pc2) : ai_Run y pc ls (.int q :: st) ws = if q < 0 ∨ 100000 < q.toNatClampNeg then none else ai_Run y pc2 ls (.ref ws.length :: st) (ws ++ [.inr (.inr (77, List.replicate q.toNatClampNeg (.int 0)))]) := by
  subst hp
  by_cases h : q < 0 ∨ 100000 < q.toNatClampNeg
  · rw [if_pos h]
    exact ai_Run_none (by rw [ai_step_of hc hd]; simp only [ai_in, if_pos h])
  · rw [if_neg h]
    exact ai_Run_go (by rw [ai_step_of hc hd]; simp only [ai_in, if_neg h]; rfl)
theorem R_castb {a : Nat} {fs : List Value} (hc : ai_code y = cc) (hd : decode cc pc = .ok (.checkcast 311, 3)) (hv : ai_vc[ai_view y]? = some "java/util/Arrays") (hp : pc + 3 = pc2) (h : ws[a]? = some (.inr (.inr (77, fs)))) : ai_Run y pc ls (.ref a :: st) ws = ai_Run y pc2 ls (.ref a :: st) ws := by
  subst hp
  have hq : (77 : Nat) = 77 ∧ ai_vc[ai_view y]? = some "java/util/Arrays" ∧ (311 : Nat) = 311 := ⟨rfl, hv, rfl⟩
  exact ai_Run_go (by rw [ai_step_of hc hd]; simp only [ai_in, h, hv, and_self, if_true, true_and]; rfl)
theorem R_clone {i v y2 w a : Nat} {fs : List Value} (hc : ai_code y = cc) (hd : decode cc pc = .ok (.invokevirtual i, 3)) (hv : ai_view y = v) (hk : ai_lk ai_vm v i = some (10, y2, w)) (hr : st.length ≤ 4) (hN : ai_nat y = true) (hp : pc + 3 = pc2) (h : ws[a]? = some (.inr (.inr (77, fs)))) (hf : fs.all ai_fb8 = true) : ai_Run y pc ls (.ref a :: st) ws = ai_Run y pc2 ls (.ref ws.length :: st) (ws ++ [.inr (.inr (77, fs))]) := by
  subst hp; subst hv
  have hq : (77 : Nat) = 77 ∧ fs.all ai_fb8 = true ∧ st.length ≤ 4 ∧ ai_nat y = true := ⟨rfl, hf, hr, hN⟩
  exact ai_Run_go (by rw [ai_step_of hc hd]; simp only [ai_in, ai_inv, hk, h, hf, hr, hN, and_self, if_true, true_and]; rfl)
theorem R_callS8 {i v y2 w : Nat} {st0 as rest : List Value} (hc : ai_code y = cc) (hd : decode cc pc = .ok (.invokestatic i, 3)) (hv : ai_view y = v) (hk : ai_lk ai_vm v i = some (1, y2, w)) (hlt : y2 < y ∧ ai_fr y2 + 1 ≤ ai_fr y ∧ 8 + (ai_L y2 + 11) + ai_lo y2 ≤ ai_lo y) (hkd : ai_kind y2 = 0) (hn : as.length = ai_n y2) (hst : st0 = as.reverse ++ rest) (hr8 : ai_cs rest ≤ 8) (hp : pc + 3 = pc2) : ai_Run y pc ls st0 ws = (ai_Call y2 as ws).bind fun q => ai_Run y pc2 ls (q.1.toList ++ rest) q.2 := by
  subst hp; subst hv
  exact ai_Run_call (by rw [ai_step_of hc hd]; simp only [ai_in, ai_ins, hk]; exact ai_call_of (kd := 0) hlt hkd hn hst) hr8
theorem R_callU {i v y2 w : Nat} {st0 as rest : List Value} (hc : ai_code y = cc) (hd : decode cc pc = .ok (.invokevirtual i, 3)) (hv : ai_view y = v) (hk : ai_lk ai_vm v i = some (8, y2, w)) (hlt : y2 < y ∧ ai_fr y2 + 1 ≤ ai_fr y ∧ 8 + (ai_L y2 + 11) + ai_lo y2 ≤ ai_lo y) (hkd : ai_kind y2 = 1) (hn : as.length = ai_n y2 + 1) (hst : st0 = as.reverse ++ rest) (hr : rest.length ≤ 4) (hp : pc + 3 = pc2) : ai_Run y pc ls st0 ws = (ai_Call y2 as ws).bind fun q => ai_Run y pc2 ls (q.1.toList ++ rest) q.2 := by
  subst hp; subst hv
  exact ai_Run_call (by rw [ai_step_of hc hd]; simp only [ai_in, ai_inv, hk]; exact ai_call_of hlt hkd hn hst) (ai_cs4 hr)
theorem R_callSU {i v y2 w : Nat} {st0 as rest : List Value} (hc : ai_code y = cc) (hd : decode cc pc = .ok (.invokespecial i, 3)) (hv : ai_view y = v) (hk : ai_lk ai_vm v i = some (9, y2, w)) (hlt : y2 < y ∧ ai_fr y2 + 1 ≤ ai_fr y ∧ 8 + (ai_L y2 + 11) + ai_lo y2 ≤ ai_lo y) (hkd : ai_kind y2 = 1) (hn : as.length = ai_n y2 + 1) (hst : st0 = as.reverse ++ rest) (hr : rest.length ≤ 4) (hp : pc + 3 = pc2) : ai_Run y pc ls st0 ws = (ai_Call y2 as ws).bind fun q => ai_Run y pc2 ls (q.1.toList ++ rest) q.2 := by
  subst hp; subst hv
  exact ai_Run_call (by rw [ai_step_of hc hd]; simp only [ai_in, ai_spc, hk]; exact ai_call_of hlt hkd hn hst) (ai_cs4 hr)
def ai_pbyte (x : Int32) : Bool := decide (x.toInt8.toInt32 = x)
def ai_pchar (x : Int32) : Bool := decide ((x.toUInt32 % 65536).toInt32 = x)
theorem R_bret {x : Int32} (hc : ai_code y = cc) (hd : decode cc pc = .ok (.ireturn, 1)) (ht : ai_ret y = some .byte) : ai_Run y pc ls [.int x] ws = if ai_pbyte x = true then some (some (.int x), ws) else none := by
  by_cases h : ai_pbyte x = true
  · rw [if_pos h]
    have h2 : ai_pok (some .byte) (.int x) = true := h
    exact ai_Run_ret (by rw [ai_step_of hc hd]; simp only [ai_in, ht, if_pos h2])
  · rw [if_neg h]
    have h2 : ¬ ai_pok (some .byte) (.int x) = true := h
    exact ai_Run_none (by rw [ai_step_of hc hd]; simp only [ai_in, ht, if_neg h2])
theorem R_cret {x : Int32} (hc : ai_code y = cc) (hd : decode cc pc = .ok (.ireturn, 1)) (ht : ai_ret y = some .char) : ai_Run y pc ls [.int x] ws = if ai_pchar x = true then some (some (.int x), ws) else none := by
  by_cases h : ai_pchar x = true
  · rw [if_pos h]
    have h2 : ai_pok (some .char) (.int x) = true := h
    exact ai_Run_ret (by rw [ai_step_of hc hd]; simp only [ai_in, ht, if_pos h2])
  · rw [if_neg h]
    have h2 : ¬ ai_pok (some .char) (.int x) = true := h
    exact ai_Run_none (by rw [ai_step_of hc hd]; simp only [ai_in, ht, if_neg h2])
theorem R_aret {a : Nat} {t : Option FieldType} (hc : ai_code y = cc) (hd : decode cc pc = .ok (.areturn, 1)) (ht : ai_ret y = t) (hp : ai_pok t (.ref a) = true) : ai_Run y pc ls [.ref a] ws = some (some (.ref a), ws) := ai_Run_ret (by subst ht; rw [ai_step_of hc hd]; simp only [ai_in, if_pos hp])
theorem R_entX {as : List Value} {k : Nat} (hk : ai_kind y ≠ 0) (hci : ai_ci y = 12) (h : (as.length = ai_n y ∧ as.all (fun v => decide (v.category = 1)) = true) ∧ as.length + 1 ≤ ai_L y) (he : ai_ent y (.retAddr k :: as) = ls) (h1 : 1 ≤ k) (h2 : k ≤ 10) : ai_Call y (.retAddr k :: as) ws = ai_Run y 0 ls [] ws := by
  unfold ai_Call ai_ok
  rw [if_pos, he]
  have g1 := h.1.1
  have g2 := h.2
  have h3 : Value.category (.retAddr k) = 1 := rfl
  simp [hk, g1, h.1.2, h3, ai_rcv, hci, h1, h2]
  omega
end RULES
