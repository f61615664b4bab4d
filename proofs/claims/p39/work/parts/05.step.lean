/-! One instruction: it never loses a cell; what the tables say of it. -/
theorem ai_in_grow {y pc n pc2 : Nat} {i : Instr} {ls st ls2 st2 : List Value} {ws ws2 : ai_W} (h : ai_in y pc ls st ws i n = some (.inr (.inl (pc2, ls2, st2, ws2)))) : ws.length ≤ ws2.length ∧ ai_sl ws ≤ ai_sl ws2 ∧ ls2.length = ls.length := by
  unfold ai_in at h
  split at h <;> (try simp only [ai_lda, ai_ldi, ai_ldf, ai_sti, ai_stf, ai_sta, ai_bin, ai_fb, ai_jmp, ai_inv, ai_ins, ai_spc, ai_call, ai_wide, ai_go] at h) <;> (repeat' split at h) <;>
    first
    | (cases h; done)
    | (cases h; exact ⟨Nat.le_refl _, Nat.le_refl _, by simp⟩)
    | (cases h; rename_i h2; have h3 := ai_fput_len h2; exact ⟨by omega, by omega, rfl⟩)
    | (cases h; rename_i h2; have h3 := ai_aset_len h2; exact ⟨by omega, by omega, rfl⟩)
    | (cases h; rename_i h2; have h3 := ai_qset_len h2; exact ⟨by omega, by omega, rfl⟩)
    | (cases h; rename_i h2; have h3 := ai_bset_len h2; exact ⟨by omega, by omega, rfl⟩)
    | (cases h; rename_i h2; have h3 := ai_copy_len h2; exact ⟨by omega, by omega, rfl⟩)
    | (cases h; rename_i h2; have h3 := ai_cpb_len h2; exact ⟨by omega, by omega, rfl⟩)
    | (cases h; rename_i h2; have h3 := ai_cpx_len h2; exact ⟨by omega, by omega, rfl⟩)
    | (cases h; exact ⟨by simp, by rw [ai_sl_push]; omega, rfl⟩)
theorem ai_run_grow : ∀ (F y pc : Nat) (ls st : List Value) (ws : ai_W) (r : ai_R), ai_run F y pc ls st ws = some r → ws.length ≤ r.2.length ∧ ai_sl ws ≤ ai_sl r.2 := by
  intro F
  induction F with
  | zero => intro y pc ls st ws r h; cases h
  | succ F ih =>
    intro y pc ls st ws r h
    unfold ai_run at h
    split at h
    · cases h
    · rename_i r2 hs
      cases h
      unfold ai_step at hs
      split at hs
      · unfold ai_in at hs
        split at hs <;> (try simp only [ai_lda, ai_ldi, ai_ldf, ai_sti, ai_stf, ai_sta, ai_bin, ai_fb, ai_jmp, ai_inv, ai_ins, ai_spc, ai_call, ai_wide, ai_go] at hs) <;> (repeat' split at hs) <;>
          first
          | (cases hs; done)
          | (cases hs; exact ⟨Nat.le_refl _, Nat.le_refl _⟩)
      · cases hs
    · rename_i pc2 ls2 st2 ws2 hs
      have h1 := ih _ _ _ _ _ _ h
      unfold ai_step at hs
      split at hs
      · have h2 := ai_in_grow hs
        exact ⟨Nat.le_trans h2.1 h1.1, Nat.le_trans h2.2.1 h1.2⟩
      · cases hs
    · split at h
      · split at h
        · cases h
        · rename_i h2
          have h3 := ih _ _ _ _ _ _ h2
          have h4 := ih _ _ _ _ _ _ h
          exact ⟨Nat.le_trans h3.1 h4.1, Nat.le_trans h3.2 h4.2⟩
      · cases h
-- what the tables say of a method
theorem ai_mt_len : ai_mt.length = 203 := by decide +kernel
theorem ai_kind_all : (List.range 202).all (fun y => decide (ai_kind y ≤ 2)) = true := by decide +kernel
theorem ai_m_at {y : Nat} (h : y < 203) : ai_mt[y]? = some (ai_m y) := by
  have hl : y < ai_mt.length := by rw [ai_mt_len]; exact h
  unfold ai_m
  rw [List.getElem?_eq_getElem hl]
  rfl
theorem ai_vw {y : Nat} (h : y < 203) : ai_vc[ai_view y]? = some (ai_name y).cls := by
  have h1 := List.all_eq_true.mp ai_okv_all y (List.mem_range.mpr h)
  rw [ai_m_at h] at h1
  exact of_decide_eq_true h1
theorem ai_w_code {y : Nat} (h : y < 202) : Cond.code (ai_name y) (ai_code y) (ai_L y) (ai_ret y) ∈ ai_T := by
  by_cases hb : 198 ≤ y
  · exact ai_big y hb h
  have h1 := ai_okd_all y (by omega)
  unfold ai_okd at h1
  rw [ai_m_at (by omega)] at h1
  split at h1
  · rename_i q w hq hw
    cases hq
    exact ai_has_in h1
  · cases h1
theorem ai_yok {y : Nat} (h : y < 202) : Cond.initialized (ai_name y).cls ∈ ai_T ∧ (ai_name y).cls ≠ "java/lang/invoke/MethodHandle" ∧ (ai_name y).cls ≠ "java/lang/invoke/VarHandle" ∧ plainFor (ai_name y) = true ∧ (parseMethodDescriptor (ai_name y).desc).map (fun d => d.parameters.length) = some (ai_n y) ∧ (ai_kind y = 0 → Cond.static (ai_name y) ∈ ai_T) ∧ (ai_kind y ≠ 0 → Cond.instanceMethod (ai_name y) ∈ ai_T ∧ ∃ r, vwCl[ai_ci y]? = some r) ∧ (ai_kind y = 1 → (ai_name y).name ≠ "<init>") ∧ (ai_kind y = 2 → (ai_name y).name = "<init>" ∧ ai_ret y = none) ∧ ai_kind y ≤ 2 := by
  have h1 := List.all_eq_true.mp ai_okm_all y (List.mem_range.mpr h)
  unfold ai_okm at h1
  rw [ai_m_at (by omega)] at h1
  split at h1
  · rename_i q a b c d hq hw
    cases hq
    simp only [Bool.and_eq_true, decide_eq_true_eq] at h1
    obtain ⟨⟨⟨⟨⟨⟨h2, h3⟩, h4⟩, h5⟩, h6⟩, h7⟩, h8⟩ := h1
    refine ⟨ai_has_in h2, h3, h4, h5, h6, fun k => ?_, fun k => ?_, fun k => ?_, fun k => ?_, ?_⟩
    · have k' : (ai_m y).2.2.2.2.2.1 = 0 := k
      rw [if_pos k'] at h8
      exact ai_has_in h8
    · have k' : ¬ (ai_m y).2.2.2.2.2.1 = 0 := k
      rw [if_neg k'] at h8
      simp only [Bool.and_eq_true] at h8
      exact ⟨ai_has_in h8.1.1, Option.isSome_iff_exists.mp h8.1.2⟩
    · have k' : (ai_m y).2.2.2.2.2.1 = 1 := k
      rw [if_neg (by rw [k']; decide), if_pos k'] at h8
      simp only [Bool.and_eq_true, decide_eq_true_eq] at h8
      exact h8.2
    · have k' : (ai_m y).2.2.2.2.2.1 = 2 := k
      rw [if_neg (by rw [k']; decide), if_neg (by rw [k']; decide)] at h8
      simp only [Bool.and_eq_true, decide_eq_true_eq] at h8
      exact h8.2
    · have := List.all_eq_true.mp ai_kind_all y (List.mem_range.mpr h)
      exact of_decide_eq_true this
  · cases h1
