/-! The commands as functions of the book: the book after, the answer, what is refused. -/
abbrev kc_O : Type := kb_B × Int32 × Option (Int32 × Int32)
abbrev kb_un (B : kb_B) (v : Nat) : kb_B := ((v, kb_a B, kb_t B), B.2)
abbrev kb_ua (B : kb_B) (v : Nat) : kb_B := ((kb_n B, v, kb_t B), B.2)
abbrev kb_ut (B : kb_B) (v : Int32) : kb_B := ((kb_n B, kb_a B, v), B.2)
def up {α : Type} (f : Nat → α) (i : Nat) (v : α) : Nat → α := fun j => if j = i then v else f j
theorem up_at {α : Type} (f : Nat → α) (i : Nat) (v : α) : up f i v i = v := if_pos rfl
theorem up_ne {α : Type} (f : Nat → α) {i j : Nat} (h : j ≠ i) (v : α) : up f i v j = f j := if_neg h
/-- a turn more of a character -/
def kb_add (B : kb_B) (c q : Nat) : kb_B := (B.1, up (kb_T B) c (kb_T B c + 1), up (kb_E B) c (up (kb_E B c) (kb_T B c) q), kb_C B, kb_W B, kb_S B, kb_M B, kb_J B)
def kb_setC (B : kb_B) (c d : Nat) (v : Int32) : kb_B := (B.1, kb_T B, kb_E B, up (kb_C B) c (up (kb_C B c) d v), kb_W B, kb_S B, kb_M B, kb_J B)
def kb_setT (B : kb_B) (c v : Nat) : kb_B := (B.1, up (kb_T B) c v, kb_E B, kb_C B, kb_W B, kb_S B, kb_M B, kb_J B)
def kb_setW (B : kb_B) (q : Nat) (v : Int32) : kb_B := (B.1, kb_T B, kb_E B, kb_C B, up (kb_W B) q v, kb_S B, kb_M B, kb_J B)
def kb_setS (B : kb_B) (i v : Nat) : kb_B := (B.1, kb_T B, kb_E B, kb_C B, kb_W B, up (kb_S B) i v, kb_M B, kb_J B)
def kb_setM (B : kb_B) (c o v : Nat) : kb_B := (B.1, kb_T B, kb_E B, kb_C B, kb_W B, kb_S B, up (kb_M B) c (up (kb_M B c) o v), kb_J B)
def kb_setJ (B : kb_B) (k v : Nat) : kb_B := (B.1, kb_T B, kb_E B, kb_C B, kb_W B, kb_S B, kb_M B, up (kb_J B) k v)
def kb_la (B : kb_B) (c : Nat) : Nat := if kb_T B c = 0 then 0 else kb_E B c (kb_T B c - 1)
def kb_tk (B : kb_B) (c : Nat) : kb_B := kb_setT (if kb_T B c % 2 = 1 then kb_setC B c (kb_T B c / 2) (-4) else B) c (kb_T B c - 1)
def kc_character (B : kb_B) : kc_O := if kb_n B = 8 then (B, -3, some (1, 8)) else (kb_un B (kb_n B + 1), nI (kb_n B), none)
def kc_author (B : kb_B) : kc_O := if kb_a B = 4 then (B, -3, some (1, 4)) else (kb_ua B (kb_a B + 1), nI (kb_a B), none)
def kc_turn (B : kb_B) (c q : Nat) (r : Int32) : kc_O := if q ≤ kb_la B c then (B, -3, some (2, nI (kb_la B c))) else if kb_T B c = 6 then (B, -3, some (1, 6)) else (kb_add B c q, r, none)
def kc_die (B : kb_B) (x y : Int32) : kc_O := if ai_is (kb_n B) x = true then if kb_ch y = true then (if kb_T B x.toNatClampNeg % 2 = 1 then (B, -3, some (3, nI (kb_d B x.toNatClampNeg))) else kc_turn B x.toNatClampNeg y.toNatClampNeg (nI (kb_d B x.toNatClampNeg + 1))) else (B, -2, none) else (B, -1, none)
def kc_rise (B : kb_B) (x y : Int32) : kc_O := if ai_is (kb_n B) x = true then if kb_ch y = true then (if kb_T B x.toNatClampNeg % 2 = 1 then kc_turn B x.toNatClampNeg y.toNatClampNeg (nI (y.toNatClampNeg - kb_la B x.toNatClampNeg)) else (B, -3, some (4, nI (kb_d B x.toNatClampNeg)))) else (B, -2, none) else (B, -1, none)
def kc_strike (B : kb_B) (x : Int32) : kc_O := if ai_is (kb_n B) x = true then if kb_T B x.toNatClampNeg = 0 then (B, -3, some (4, 0)) else (kb_tk B x.toNatClampNeg, nI (kb_la B x.toNatClampNeg), none) else (B, -1, none)
def kc_write (B : kb_B) (x y : Int32) : kc_O := if ai_is (kb_a B) y = true then if kb_ch x = true then (if kb_W B x.toNatClampNeg = y then (B, -3, some (5, y)) else (kb_setW B x.toNatClampNeg y, kb_W B x.toNatClampNeg, none)) else (B, -2, none) else (B, -1, none)
def kc_swear (B : kb_B) (x y : Int32) : kc_O := if ai_is (kb_a B) x = true then if y = 0 ∨ y = 1 then (if nI (kb_S B x.toNatClampNeg) = y then (B, -3, some (5, y)) else (kb_setS B x.toNatClampNeg y.toNatClampNeg, nI (kb_s (kb_S (kb_setS B x.toNatClampNeg y.toNatClampNeg)) (kb_a B)), none)) else (B, -2, none) else (B, -1, none)
def kc_motive (B : kb_B) (x y z : Int32) : kc_O := if ai_is (kb_n B) x = true then if ai_is (kb_n B) y = true then if ai_is 10 z = true then (if x = y then (B, -3, some (6, x)) else if nI (kb_M B x.toNatClampNeg y.toNatClampNeg) = z then (B, -3, some (5, z)) else (kb_setM B x.toNatClampNeg y.toNatClampNeg z.toNatClampNeg, nI (kb_M B x.toNatClampNeg y.toNatClampNeg), none)) else (B, -2, none) else (B, -1, none) else (B, -1, none)
def kc_seat (B : kb_B) (x y : Int32) : kc_O := if ai_is 7 x = true then if ai_sev y = true then (if 0 < kb_J B x.toNatClampNeg then (B, -3, some (7, x)) else (kb_setJ B x.toNatClampNeg y.toNatClampNeg, nI (kb_sit (kb_setJ B x.toNatClampNeg y.toNatClampNeg)), none)) else (B, -2, none) else (B, -1, none)
def kc_leave (B : kb_B) (x : Int32) : kc_O := if ai_is 7 x = true then (if 0 < kb_J B x.toNatClampNeg then (kb_setJ B x.toNatClampNeg 0, nI (kb_sit (kb_setJ B x.toNatClampNeg 0)), none) else (B, -3, some (7, x))) else (B, -1, none)
def kc_trial (B : kb_B) (x y z : Int32) : kc_O := if kb_case B x y z = true then (if x = y then (B, -3, some (6, x)) else if kb_C B y.toNatClampNeg z.toNatClampNeg = (-4) then (if kb_could B x.toNatClampNeg y.toNatClampNeg z.toNatClampNeg = true then (if kb_sit B = 0 then (B, -3, some (10, kb_t B)) else if kb_sit B < 2 * kb_votes B (kb_w B x.toNatClampNeg y.toNatClampNeg z.toNatClampNeg) then (kb_setC (kb_ut B (kb_t B + 1)) y.toNatClampNeg z.toNatClampNeg x, 1, none) else (kb_ut B (kb_t B + 1), 0, none)) else (B, -3, some (9, nI (kb_E B y.toNatClampNeg (2 * z.toNatClampNeg))))) else (B, -3, some (8, kb_C B y.toNatClampNeg z.toNatClampNeg))) else (B, -1, none)
/-- the class's cells after a command: its book, and the refusal -/
def kx_w (w : xw_W) (b : xb_B) (r : Option (Int32 × Int32)) : xw_W := match r with
  | none => xw_wb w b
  | some r => xw_wrc (xw_wrd (xw_wrr (xw_wb w b) r.1) r.2) (xw_rn w)
def kx_is (w : xw_W) (o : kc_O) (a : Option (Option Value × ai_W)) : Prop := ∃ b, kb_x b o.1 ∧ a = some (some (.int o.2.1), wl (kx_w w b o.2.2))
theorem x_refuse (w : xw_W) (y d : Int32) : ai_Call 47 [.ref 18, .int y, .int d] (wl w) = some (some (.int (-3)), wl (kx_w w (xw_b w) (some (y, d)))) := by
  simp only [e_47, o_18, r_47_0, r_47_1, r_47_2, r_47_5, r_47_6, r_47_7, r_47_10, r_47_11, r_47_12, r_47_15, r_47_18, r_47_20, Option.bind_some, Option.bind_none, Option.toList_some, Option.toList_none, List.cons_append, List.nil_append, Option.map_some, Option.map_none, eq_self, if_true, if_false, reduceIte, ai_bi_eq0, ai_bi_eq1, ai_pb_bi, ai_pb_0, ai_pb_1, p_18_1, p_18_2, p_18_3, f_18_0]
  rfl
section XB
variable {w : xw_W} {B : kb_B}
theorem xs_isYesOrNo (x : Int32) (ws : ai_W) : ai_Call 74 [.int x] ws = some (some (.int (ai_bi (decide (x = 0 ∨ x = 1)))), ws) := x_isYesOrNo x ws
theorem c_character (h : kb_x (xw_b w) B) (hk : kb_ok B) : kx_is w (kc_character B) (ai_Call 61 [.ref 22] (wl w)) := by
  have hn := hk.1
  unfold kc_character
  by_cases c : kb_n B = 8
  · rw [if_pos c]
    refine ⟨xw_b w, h, ?_⟩
    have e1 : xb_n (xw_b w) = 8 := by rw [h.1, c]; rfl
    simp only [e_61, o_22, r_61_0, r_61_1, r_61_4, r_61_7, r_61_8, r_61_9, r_61_11, r_61_14, r_61_15, r_61_18, r_61_19, r_61_20, r_61_23, r_61_24, r_61_25, r_61_28, r_61_29, r_61_30, r_61_31, r_61_34, r_61_35, Option.bind_some, Option.bind_none, Option.toList_some, Option.toList_none, List.cons_append, List.nil_append, Option.map_some, Option.map_none, eq_self, if_true, if_false, reduceIte, ai_bi_eq0, ai_bi_eq1, ai_pb_bi, ai_pb_0, ai_pb_1, f_22_0, f_22_3, f_1_0, e1, show ¬ (8 : Int32) < 8 by decide, x_refuse]
  · rw [if_neg c]
    have c1 : nI (kb_n B) < 8 := nI_lt (b := 8) (by omega) (by decide)
    refine ⟨xb_wn (xw_b w) (nI (kb_n B + 1)), ⟨rfl, h.2⟩, ?_⟩
    simp only [e_61, o_22, r_61_0, r_61_1, r_61_4, r_61_7, r_61_8, r_61_9, r_61_11, r_61_14, r_61_15, r_61_18, r_61_19, r_61_20, r_61_23, r_61_24, r_61_25, r_61_28, r_61_29, r_61_30, r_61_31, r_61_34, r_61_35, Option.bind_some, Option.bind_none, Option.toList_some, Option.toList_none, List.cons_append, List.nil_append, Option.map_some, Option.map_none, eq_self, if_true, if_false, reduceIte, ai_bi_eq0, ai_bi_eq1, ai_pb_bi, ai_pb_0, ai_pb_1, f_22_0, f_22_3, f_1_0, h.1, c1, p_1_0, nI_1]
    rfl
theorem c_author (h : kb_x (xw_b w) B) (hk : kb_ok B) : kx_is w (kc_author B) (ai_Call 48 [.ref 22] (wl w)) := by
  have hn := hk.2.1
  unfold kc_author
  by_cases c : kb_a B = 4
  · rw [if_pos c]
    refine ⟨xw_b w, h, ?_⟩
    have e1 : xb_a (xw_b w) = 4 := by rw [h.2.1, c]; rfl
    simp only [e_48, o_22, r_48_0, r_48_1, r_48_4, r_48_7, r_48_8, r_48_9, r_48_10, r_48_13, r_48_14, r_48_17, r_48_18, r_48_19, r_48_22, r_48_23, r_48_24, r_48_27, r_48_28, r_48_29, r_48_30, r_48_33, r_48_34, Option.bind_some, Option.bind_none, Option.toList_some, Option.toList_none, List.cons_append, List.nil_append, Option.map_some, Option.map_none, eq_self, if_true, if_false, reduceIte, ai_bi_eq0, ai_bi_eq1, ai_pb_bi, ai_pb_0, ai_pb_1, f_22_0, f_22_3, f_1_1, e1, show ¬ (4 : Int32) < 4 by decide, x_refuse]
  · rw [if_neg c]
    have c1 : nI (kb_a B) < 4 := nI_lt (b := 4) (by omega) (by decide)
    refine ⟨xb_wa (xw_b w) (nI (kb_a B + 1)), ⟨h.1, rfl, h.2.2⟩, ?_⟩
    simp only [e_48, o_22, r_48_0, r_48_1, r_48_4, r_48_7, r_48_8, r_48_9, r_48_10, r_48_13, r_48_14, r_48_17, r_48_18, r_48_19, r_48_22, r_48_23, r_48_24, r_48_27, r_48_28, r_48_29, r_48_30, r_48_33, r_48_34, Option.bind_some, Option.bind_none, Option.toList_some, Option.toList_none, List.cons_append, List.nil_append, Option.map_some, Option.map_none, eq_self, if_true, if_false, reduceIte, ai_bi_eq0, ai_bi_eq1, ai_pb_bi, ai_pb_0, ai_pb_1, f_22_0, f_22_3, f_1_1, h.2.1, c1, p_1_1, nI_1]
    rfl
end XB

