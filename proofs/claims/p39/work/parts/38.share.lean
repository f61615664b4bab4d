def kb_q23 (B : kb_B) (td ch x : Int32) : Int32 := if x = 0 then nI (kb_n B) else if x = 1 then nI (kb_a B) else if x = 2 then nI (kb_s (fun c => kb_d B c) (kb_n B)) else if x = 3 then nI (kb_s (fun c => kb_T B c / 2) (kb_n B)) else if x = 4 then nI (kb_s (fun c => kb_s (fun d => kb_i (decide (¬ kb_C B c d = (-4)))) (kb_d B c)) (kb_n B)) else if x = 5 then nI (kb_sit B) else if x = 6 then kb_t B else if x = 7 then nI (kb_s (fun q => kb_i (decide (¬ kb_W B (q + 1) = (-4)))) 30) else if x = 8 then nI (kb_s (kb_S B) (kb_a B)) else if x = 9 then td else if x = 10 then ch else (-2)
/-! The share, the account, the refusal. -/
def fl_lp : Nat → UInt32 → Int32 → Int32 → Option Int32
  | 0, _, _, _ => none
  | n + 1, f, e, s => if s < 31 then if Op.cmpValue (FP.fcmp f FP.fconst1) CmpOp.g < 0 then (if ai_fok (FP.fmul f FP.fconst2) = true then fl_lp n (FP.fmul f FP.fconst2) (e + (-1)) (s + 1) else none) else (if ai_fok (FP.fsub f FP.fconst1) = true then (if ai_fok (FP.fmul (FP.fsub f FP.fconst1) 1258291200) = true then some (e <<< (23 &&& 31) + FP.f2i (FP.fmul (FP.fsub f FP.fconst1) 1258291200)) else none) else none) else none
def fl_q (a b : Nat) : UInt32 := FP.fdiv (FP.i2f (nI a)) (FP.i2f (nI b))
def fl_s (q : UInt32) : Option Int32 := if 0 < Op.cmpValue (FP.fcmp q FP.fconst0) CmpOp.g then fl_lp 8 q 127 0 else some 0
def fl_ok (a b : Nat) : Bool := ai_fok (fl_q a b) && decide (fl_s (fl_q a b) = some (fl_q a b).toInt32) && decide (Op.cmpValue (FP.fcmp (fl_q a b) (fl_q a b)) CmpOp.l = 0)
theorem fl_all : (List.range 25).all (fun b => b == 0 || (List.range (b + 1)).all (fun a => fl_ok a b)) = true := by decide +kernel
theorem fl_at {a b : Nat} (h1 : 0 < b) (h2 : b ≤ 24) (h3 : a ≤ b) : ai_fok (fl_q a b) = true ∧ fl_s (fl_q a b) = some (fl_q a b).toInt32 ∧ Op.cmpValue (FP.fcmp (fl_q a b) (fl_q a b)) CmpOp.l = 0 := by
  have h := List.all_eq_true.mp fl_all b (List.mem_range.mpr (by omega))
  rw [Bool.or_eq_true] at h
  rcases h with h | h
  · have := eq_of_beq h
    omega
  · have h := List.all_eq_true.mp h a (List.mem_range.mpr (by omega))
    unfold fl_ok at h
    rw [Bool.and_eq_true, Bool.and_eq_true, decide_eq_true_eq, decide_eq_true_eq] at h
    exact ⟨h.1.1, h.1.2, h.2⟩
theorem fl_run (l0 : Value) (ws : ai_W) : ∀ n f e s r, fl_lp n f e s = some r → ai_Run 58 15 [l0, .float f, .int e, .int s] [] ws = some (some (.int r), ws) := by
  intro n
  induction n with
  | zero =>
    intro f e s r h
    exact absurd h (by unfold fl_lp; simp)
  | succ n ih =>
    intro f e s r h
    unfold fl_lp at h
    rw [r_58_15]
    by_cases c1 : s < 31
    · rw [if_pos c1] at h
      by_cases c2 : Op.cmpValue (FP.fcmp f FP.fconst1) CmpOp.g < 0
      · rw [if_pos c2] at h
        by_cases c3 : ai_fok (FP.fmul f FP.fconst2) = true
        · rw [if_pos c3] at h
          simp only [r_58_0, r_58_1, r_58_2, r_58_3, r_58_6, r_58_7, r_58_8, r_58_9, r_58_10, r_58_12, r_58_13, r_58_14, r_58_16, r_58_18, r_58_21, r_58_22, r_58_23, r_58_24, r_58_27, r_58_28, r_58_29, r_58_30, r_58_31, r_58_34, r_58_37, r_58_40, r_58_41, r_58_43, r_58_44, r_58_45, r_58_46, r_58_47, r_58_50, r_58_51, r_58_52, r_58_53, Option.bind_some, Option.bind_none, Option.toList_some, Option.toList_none, List.cons_append, List.nil_append, Option.map_some, Option.map_none, eq_self, if_true, if_false, reduceIte, ai_bi_eq0, ai_bi_eq1, ai_pb_bi, ai_pb_0, ai_pb_1, c1, c2, c3]
          exact ih _ _ _ _ h
        · rw [if_neg c3] at h
          exact absurd h (by simp)
      · rw [if_neg c2] at h
        by_cases c3 : ai_fok (FP.fsub f FP.fconst1) = true
        · rw [if_pos c3] at h
          by_cases c4 : ai_fok (FP.fmul (FP.fsub f FP.fconst1) 1258291200) = true
          · rw [if_pos c4] at h
            simp only [r_58_0, r_58_1, r_58_2, r_58_3, r_58_6, r_58_7, r_58_8, r_58_9, r_58_10, r_58_12, r_58_13, r_58_14, r_58_16, r_58_18, r_58_21, r_58_22, r_58_23, r_58_24, r_58_27, r_58_28, r_58_29, r_58_30, r_58_31, r_58_34, r_58_37, r_58_40, r_58_41, r_58_43, r_58_44, r_58_45, r_58_46, r_58_47, r_58_50, r_58_51, r_58_52, r_58_53, Option.bind_some, Option.bind_none, Option.toList_some, Option.toList_none, List.cons_append, List.nil_append, Option.map_some, Option.map_none, eq_self, if_true, if_false, reduceIte, ai_bi_eq0, ai_bi_eq1, ai_pb_bi, ai_pb_0, ai_pb_1, c1, c2, c3, c4]
            rw [Option.some.inj h]
          · rw [if_neg c4] at h
            exact absurd h (by simp)
        · rw [if_neg c3] at h
          exact absurd h (by simp)
    · rw [if_neg c1] at h
      exact absurd h (by simp)
theorem x_bitsOfShare {q : UInt32} {r : Int32} (h : fl_s q = some r) (ws : ai_W) : ai_Call 58 [.float q] ws = some (some (.int r), ws) := by
  unfold fl_s at h
  by_cases c1 : 0 < Op.cmpValue (FP.fcmp q FP.fconst0) CmpOp.g
  · rw [if_pos c1] at h
    simp only [e_58, r_58_0, r_58_1, r_58_2, r_58_3, r_58_6, r_58_7, r_58_8, r_58_9, r_58_10, r_58_12, r_58_13, r_58_14, r_58_16, r_58_18, r_58_21, r_58_22, r_58_23, r_58_24, r_58_27, r_58_28, r_58_29, r_58_30, r_58_31, r_58_34, r_58_37, r_58_40, r_58_41, r_58_43, r_58_44, r_58_45, r_58_46, r_58_47, r_58_50, r_58_51, r_58_52, r_58_53, Option.bind_some, Option.bind_none, Option.toList_some, Option.toList_none, List.cons_append, List.nil_append, Option.map_some, Option.map_none, eq_self, if_true, if_false, reduceIte, ai_bi_eq0, ai_bi_eq1, ai_pb_bi, ai_pb_0, ai_pb_1, c1]
    exact fl_run _ _ _ _ _ _ _ h
  · rw [if_neg c1] at h
    simp only [e_58, r_58_0, r_58_1, r_58_2, r_58_3, r_58_6, r_58_7, r_58_8, r_58_9, r_58_10, r_58_12, r_58_13, r_58_14, r_58_16, r_58_18, r_58_21, r_58_22, r_58_23, r_58_24, r_58_27, r_58_28, r_58_29, r_58_30, r_58_31, r_58_34, r_58_37, r_58_40, r_58_41, r_58_43, r_58_44, r_58_45, r_58_46, r_58_47, r_58_50, r_58_51, r_58_52, r_58_53, Option.bind_some, Option.bind_none, Option.toList_some, Option.toList_none, List.cons_append, List.nil_append, Option.map_some, Option.map_none, eq_self, if_true, if_false, reduceIte, ai_bi_eq0, ai_bi_eq1, ai_pb_bi, ai_pb_0, ai_pb_1, c1]
    rw [Option.some.inj h]
theorem kb_s_mono {f g : Nat → Nat} (h : ∀ i, f i ≤ g i) : ∀ n, kb_s f n ≤ kb_s g n := by
  intro n
  induction n with
  | zero => exact Nat.le_refl _
  | succ n ih =>
    rw [kb_s, kb_s]
    have := h n
    omega
def kb_al (B : kb_B) : Nat := kb_s (fun c => kb_d B c) (kb_n B)
def kb_as (B : kb_B) : Nat := kb_s (fun c => kb_s (fun d => kb_i (decide (¬ kb_C B c d = (-4)))) (kb_d B c)) (kb_n B)
theorem kb_as_le (B : kb_B) : kb_as B ≤ kb_al B := kb_s_mono (fun c => kb_s_le1 _) _
theorem kb_al_le {B : kb_B} (hk : kb_ok B) : kb_al B ≤ 24 := by
  have := kb_s_le (f := fun c => kb_d B c) (k := 3) (kb_d3 hk) (kb_n B)
  have := hk.1
  unfold kb_al
  omega
def kb_q24 (B : kb_B) : Int32 := if kb_al B = 0 then (-4) else (fl_q (kb_as B) (kb_al B)).toInt32
theorem kb_wr_eq (B : kb_B) : 30 - kb_wn B (-4) = kb_s (fun q => kb_i (decide (¬ kb_W B (q + 1) = (-4)))) 30 := by
  have h := kb_s_add (f := fun q => kb_i (decide (kb_W B (q + 1) = (-4)))) (g := fun q => kb_i (decide (¬ kb_W B (q + 1) = (-4)))) 30
  have e : kb_s (fun q => kb_i (decide (kb_W B (q + 1) = (-4))) + kb_i (decide (¬ kb_W B (q + 1) = (-4)))) 30 = kb_s (fun _ => 1) 30 := by
    refine kb_s_congr (fun q _ => ?_)
    by_cases z : kb_W B (q + 1) = (-4)
    · rw [decide_eq_true z, decide_eq_false (fun y => y z)]
      rfl
    · rw [decide_eq_false z, decide_eq_true z]
      rfl
  have e1 : kb_s (fun _ => 1) 30 = 30 := by decide
  have e2 : kb_wn B (-4) = kb_s (fun q => kb_i (decide (kb_W B (q + 1) = (-4)))) 30 := rfl
  omega
section XB
variable {w : xw_W} {B : kb_B}
theorem s_share (h : kb_x (xw_b w) B) (hk : kb_ok B) : ai_Call 144 [.ref 0] (wl w) = some (some (.int (kb_q24 B)), wl w) := by
  have h1 := kb_al_le hk
  have h2 := kb_as_le B
  have e1 : ai_Call 14 [.ref 19] (wl w) = some (some (.int (nI (kb_al B))), wl w) := x_allDeaths h hk
  have e2 : ai_Call 20 [.ref 19] (wl w) = some (some (.int (nI (kb_as B))), wl w) := x_allSolvedDeaths h hk
  unfold kb_q24
  by_cases c : kb_al B = 0
  · rw [if_pos c]
    rw [c] at e1
    have c1 : ¬ (0 : Int32) < nI 0 := by decide
    simp only [e_144, o_0, r_144_0, r_144_1, r_144_4, r_144_7, r_144_8, r_144_9, r_144_12, r_144_14, r_144_15, r_144_16, r_144_19, r_144_22, r_144_23, r_144_24, r_144_25, r_144_26, r_144_29, Option.bind_some, Option.bind_none, Option.toList_some, Option.toList_none, List.cons_append, List.nil_append, Option.map_some, Option.map_none, eq_self, if_true, if_false, reduceIte, ai_bi_eq0, ai_bi_eq1, ai_pb_bi, ai_pb_0, ai_pb_1, f_0_3, e1, c1]
  · rw [if_neg c]
    obtain ⟨k1, k2, k3⟩ := fl_at (show 0 < kb_al B by omega) h1 h2
    have c1 : (0 : Int32) < nI (kb_al B) := nI_lt (a := 0) (by omega) (by omega)
    have k1' : ai_fok (FP.fdiv (FP.i2f (nI (kb_as B))) (FP.i2f (nI (kb_al B)))) = true := k1
    have e3 : ai_Call 58 [.float (FP.fdiv (FP.i2f (nI (kb_as B))) (FP.i2f (nI (kb_al B))))] (wl w) = some (some (.int (fl_q (kb_as B) (kb_al B)).toInt32), wl w) := x_bitsOfShare k2 _
    simp only [e_144, o_0, r_144_0, r_144_1, r_144_4, r_144_7, r_144_8, r_144_9, r_144_12, r_144_14, r_144_15, r_144_16, r_144_19, r_144_22, r_144_23, r_144_24, r_144_25, r_144_26, r_144_29, Option.bind_some, Option.bind_none, Option.toList_some, Option.toList_none, List.cons_append, List.nil_append, Option.map_some, Option.map_none, eq_self, if_true, if_false, reduceIte, ai_bi_eq0, ai_bi_eq1, ai_pb_bi, ai_pb_0, ai_pb_1, f_0_3, e1, e2, c1, k1', e3]
theorem s_account (h : kb_x (xw_b w) B) (hk : kb_ok B) (x : Int32) : ai_Call 28 [.ref 0, .int x] (wl w) = some (some (.int (kb_q23 B (xw_tl w) (xw_hm w) x)), wl w) := by
  have e1 : ai_Call 26 [.ref 175] (wl w) = some (some (.int (xw_tl w)), wl w) := by
    simp only [e_26, o_175, r_26_0, r_26_1, r_26_4, Option.bind_some, Option.bind_none, Option.toList_some, Option.toList_none, List.cons_append, List.nil_append, Option.map_some, Option.map_none, eq_self, if_true, if_false, reduceIte, ai_bi_eq0, ai_bi_eq1, ai_pb_bi, ai_pb_0, ai_pb_1, f_175_3]
  have e2 : ai_Call 27 [.ref 23] (wl w) = some (some (.int (xw_hm w)), wl w) := by
    simp only [e_27, o_23, r_27_0, r_27_1, r_27_4, Option.bind_some, Option.bind_none, Option.toList_some, Option.toList_none, List.cons_append, List.nil_append, Option.map_some, Option.map_none, eq_self, if_true, if_false, reduceIte, ai_bi_eq0, ai_bi_eq1, ai_pb_bi, ai_pb_0, ai_pb_1, f_23_3]
  unfold kb_q23
  simp only [e_28, o_0, r_28_0, r_28_1, r_28_60, r_28_61, r_28_64, r_28_67, r_28_68, r_28_69, r_28_72, r_28_75, r_28_76, r_28_77, r_28_80, r_28_83, r_28_84, r_28_85, r_28_88, r_28_91, r_28_92, r_28_93, r_28_96, r_28_99, r_28_100, r_28_101, r_28_104, r_28_107, r_28_108, r_28_109, r_28_112, r_28_115, r_28_116, r_28_117, r_28_120, r_28_123, r_28_124, r_28_125, r_28_128, r_28_131, r_28_132, r_28_133, r_28_136, r_28_139, r_28_140, r_28_141, r_28_144, r_28_147, r_28_148, r_28_150, Option.bind_some, Option.bind_none, Option.toList_some, Option.toList_none, List.cons_append, List.nil_append, Option.map_some, Option.map_none, eq_self, if_true, if_false, reduceIte, ai_bi_eq0, ai_bi_eq1, ai_pb_bi, ai_pb_0, ai_pb_1, f_0_0, f_0_2, f_0_3, f_0_6, f_0_7, f_1_0, f_1_1, f_1_2, h.1, h.2.1, h.2.2.1, x_allDeaths h hk, x_allRisings h hk, x_allSolvedDeaths h hk, x_sitting h hk, x_writtenChapters h, kb_wr_eq, x_swornAuthors h hk, e1, e2]
  by_cases z0 : x = 0
  · rw [if_pos z0, if_pos z0]
  · rw [if_neg z0, if_neg z0]
    by_cases z1 : x = 1
    · rw [if_pos z1, if_pos z1]
    · rw [if_neg z1, if_neg z1]
      by_cases z2 : x = 2
      · rw [if_pos z2, if_pos z2]
      · rw [if_neg z2, if_neg z2]
        by_cases z3 : x = 3
        · rw [if_pos z3, if_pos z3]
        · rw [if_neg z3, if_neg z3]
          by_cases z4 : x = 4
          · rw [if_pos z4, if_pos z4]
          · rw [if_neg z4, if_neg z4]
            by_cases z5 : x = 5
            · rw [if_pos z5, if_pos z5]
            · rw [if_neg z5, if_neg z5]
              by_cases z6 : x = 6
              · rw [if_pos z6, if_pos z6]
              · rw [if_neg z6, if_neg z6]
                by_cases z7 : x = 7
                · rw [if_pos z7, if_pos z7]
                · rw [if_neg z7, if_neg z7]
                  by_cases z8 : x = 8
                  · rw [if_pos z8, if_pos z8]
                  · rw [if_neg z8, if_neg z8]
                    by_cases z9 : x = 9
                    · rw [if_pos z9, if_pos z9]
                    · rw [if_neg z9, if_neg z9]
                      by_cases z10 : x = 10
                      · rw [if_pos z10, if_pos z10]
                      · rw [if_neg z10, if_neg z10]
end XB

