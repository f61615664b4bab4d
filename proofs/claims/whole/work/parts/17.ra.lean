/-! Rules for what makes objects and arrays. -/
section RULES
variable {y pc pc2 n : Nat} {cc : ByteArray} {ls ls2 st : List Value} {ws : ai_W}
theorem R_astore_n {k : Fin 4} {a : Nat} (hc : ai_code y = cc) (hd : decode cc pc = .ok (.astore_n k, 1)) (hk : k.val < ls.length) (hl : ls.set k.val (.ref a) = ls2) (hp : pc + 1 = pc2) : ai_Run y pc ls (.ref a :: st) ws = ai_Run y pc2 ls2 st ws := by
  subst hp; subst hl
  exact ai_Run_go (by rw [ai_step_of hc hd]; simp only [ai_in, ai_sta, if_pos hk]; rfl)
theorem R_astore {k : Nat} {a : Nat} (hc : ai_code y = cc) (hd : decode cc pc = .ok (.astore k, 2)) (hk : k < ls.length) (hl : ls.set k (.ref a) = ls2) (hp : pc + 2 = pc2) : ai_Run y pc ls (.ref a :: st) ws = ai_Run y pc2 ls2 st ws := by
  subst hp; subst hl
  exact ai_Run_go (by rw [ai_step_of hc hd]; simp only [ai_in, ai_sta, if_pos hk]; rfl)
theorem R_putF {i ci k w v a : Nat} {x : Value} (hc : ai_code y = cc) (hd : decode cc pc = .ok (.putfield i, 3)) (hv : ai_view y = v) (hk : ai_lk ai_vf v i = some (ci, k, w)) (h2 : ai_kind y = 2) (h3 : ai_ci y = ci) (hp : pc + 3 = pc2) : ai_Run y pc ls (x :: .ref a :: st) ws = (ai_fput ws a ci k x).bind fun ws => ai_Run y pc2 ls st ws := by
  subst hp; subst hv
  have hq : ((ai_cl ci).2.1 k).2.2.2 = true → ai_kind y = 2 ∧ ai_ci y = ci := fun _ => ⟨h2, h3⟩
  cases h : ai_fput ws a ci k x with
  | none => exact ai_Run_none (by rw [ai_step_of hc hd]; simp only [ai_in, hk, if_pos hq, h])
  | some q => exact ai_Run_go (by rw [ai_step_of hc hd]; simp only [ai_in, hk, if_pos hq, h]; rfl)
theorem R_aastore {a x : Nat} {i : Int32} (hc : ai_code y = cc) (hd : decode cc pc = .ok (.aastore, 1)) (hp : pc + 1 = pc2) : ai_Run y pc ls (.ref x :: .int i :: .ref a :: st) ws = (ai_qset ws a i x).bind fun ws => ai_Run y pc2 ls st ws := by
  subst hp
  cases h : ai_qset ws a i x with
  | none => exact ai_Run_none (by rw [ai_step_of hc hd]; simp only [ai_in, h])
  | some q => exact ai_Run_go (by rw [ai_step_of hc hd]; simp only [ai_in, h]; rfl)
theorem R_new {i ci w1 w2 w3 v : Nat} (hc : ai_code y = cc) (hd : decode cc pc = .ok (.new i, 3)) (hv : ai_view y = v) (hk : ai_lk ai_vn v i = some (ci, w1, w2, w3)) (hp : pc + 3 = pc2) : ai_Run y pc ls st ws = ai_Run y pc2 ls (.ref ws.length :: st) (ws ++ [ai_blank ci]) := by
  subst hp; subst hv
  exact ai_Run_go (by rw [ai_step_of hc hd]; simp only [ai_in, hk]; rfl)
theorem R_newa {q : Int32} (hc : ai_code y = cc) (hd : decode cc pc = .ok (.newarray .int, 2)) (hp : pc + 2 = pc2) : ai_Run y pc ls (.int q :: st) ws = if q < 0 ∨ 100000 < q.toNatClampNeg then none else ai_Run y pc2 ls (.ref ws.length :: st) (ws ++ [.inl (List.replicate q.toNatClampNeg 0)]) := by
  subst hp
  by_cases h : q < 0 ∨ 100000 < q.toNatClampNeg
  · rw [if_pos h]
    exact ai_Run_none (by rw [ai_step_of hc hd]; simp only [ai_in, if_pos h])
  · rw [if_neg h]
    exact ai_Run_go (by rw [ai_step_of hc hd]; simp only [ai_in, if_neg h]; rfl)
theorem R_newq {i w1 w2 w3 v : Nat} {q : Int32} (hc : ai_code y = cc) (hd : decode cc pc = .ok (.anewarray i, 3)) (hv : ai_view y = v) (hk : ai_lk ai_vn v i = some (0, w1, w2, w3)) (hp : pc + 3 = pc2) : ai_Run y pc ls (.int q :: st) ws = if q < 0 ∨ 100000 < q.toNatClampNeg then none else ai_Run y pc2 ls (.ref ws.length :: st) (ws ++ [.inr (.inl (List.replicate q.toNatClampNeg none))]) := by
  subst hp; subst hv
  by_cases h : q < 0 ∨ 100000 < q.toNatClampNeg
  · rw [if_pos h]
    exact ai_Run_none (by rw [ai_step_of hc hd]; simp only [ai_in, hk, if_pos h])
  · rw [if_neg h]
    exact ai_Run_go (by rw [ai_step_of hc hd]; simp only [ai_in, hk, if_neg h]; rfl)
theorem R_callI {i v y2 w : Nat} {st0 as rest : List Value} (hc : ai_code y = cc) (hd : decode cc pc = .ok (.invokespecial i, 3)) (hv : ai_view y = v) (hk : ai_lk ai_vm v i = some (2, y2, w) ∨ ai_lk ai_vm v i = some (4, y2, w)) (hlt : y2 < y) (hkd : ai_kind y2 = 2) (hn : as.length = ai_n y2 + 1) (hst : st0 = as.reverse ++ rest) (hr : rest.length ≤ 4) (hp : pc + 3 = pc2) : ai_Run y pc ls st0 ws = (ai_Call y2 as ws).bind fun q => ai_Run y pc2 ls (q.1.toList ++ rest) q.2 := by
  subst hp; subst hv
  refine ai_Run_call ?_ hr
  rw [ai_step_of hc hd]
  rcases hk with hk | hk <;> (simp only [ai_in, ai_spc, hk]; exact ai_call_of hlt hkd hn hst)
theorem R_obj {i v y2 w a : Nat} (hc : ai_code y = cc) (hd : decode cc pc = .ok (.invokespecial i, 3)) (hv : ai_view y = v) (hk : ai_lk ai_vm v i = some (5, y2, w)) (hr : st.length ≤ 4) (hp : pc + 3 = pc2) : ai_Run y pc ls (.ref a :: st) ws = ai_Run y pc2 ls st ws := by
  subst hp; subst hv
  exact ai_Run_go (by rw [ai_step_of hc hd]; simp only [ai_in, ai_spc, hk, if_pos hr]; rfl)
theorem R_entI {as : List Value} {a : Nat} (hk : ai_kind y = 2) (h : (as.length = ai_n y ∧ as.all (fun v => decide (v.category = 1)) = true) ∧ as.length + 1 ≤ ai_L y) (he : ai_ent y (.ref a :: as) = ls) : ai_Call y (.ref a :: as) ws = if ai_isob ws a (ai_ci y) = true then ai_Run y 0 ls [] ws else none := by
  unfold ai_Call
  have e : ai_ok y (.ref a :: as) ws = ai_isob ws a (ai_ci y) := by
    unfold ai_ok
    have h1 := h.1.1
    have h2 := h.2
    have h3 : Value.category (.ref a) = 1 := rfl
    simp [hk, h1, h.1.2, h3]
    intro _
    omega
  rw [e, he]
end RULES
