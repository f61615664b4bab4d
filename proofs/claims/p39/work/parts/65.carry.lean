/-! Reading: the commands carried out one after another. -/
theorem kt_a_b {n : Nat} {c : Nat → Nat} (h : kt_ok n c) : ∀ (f : Nat) {p : Nat}, p ≤ n → (kt_a c n f p).2 ≤ n := by
  intro f
  induction f with
  | zero => intro p hp; exact hp
  | succ f ih =>
    intro p hp
    have hb := kt_c_b h hp
    rw [kt_a]
    split
    · split
      · exact hb.2.1
      · split
        · rename_i hc
          exact ih (kt_lt h (p := (kt_c c p).2.1) (by omega))
        · exact hb.2.1
    · exact hb.2.1
theorem kt_a_O {c : Nat → Nat} {n f p : Nat} {l : List kt_C} (h : (kt_a c n f p).1 = some l) : ∃ O : Nat → kb_B → kc_O, ∀ i q, l[i]? = some q → kt_does q (O i) := by
  have hd := (kt_a_do f p l h).2
  have H : ∀ i : Nat, ∃ o : kb_B → kc_O, ∀ q, l[i]? = some q → kt_does q o := by
    intro i
    cases hi : l[i]? with
    | none => exact ⟨fun B => (B, 0, none), fun q hq => by cases hq⟩
    | some q =>
      obtain ⟨o, ho⟩ := hd q (List.mem_of_getElem? hi)
      exact ⟨o, fun q2 hq => by cases hq; exact ho⟩
  exact Classical.axiomOfChoice H
/-- the commands from the i-th on: the book after them, or the one that fails -/
def kt_x (O : Nat → kb_B → kc_O) : Nat → Nat → kb_B → kb_B × Option (Nat × Int32 × Option (Int32 × Int32))
  | 0, _, B => (B, none)
  | m + 1, i, B => if kc_er (O i B).2.1 = true then (B, some (i, (O i B).2.1, (O i B).2.2)) else kt_x O m (i + 1) (O i B).1
def ceo (w : xw_W) := ((xw_ky w, xw_hi w, xw_sn w, xw_hn w, xw_hm w, xw_hs w, xw_co w, xw_ki w, xw_ar w, xw_tl w, xw_tc w, xw_tp w, xw_tg w, xw_li w, xw_ll w), w.2)
def cer (w : xw_W) := (xw_rr w, xw_rd w, xw_rc w)
theorem ceo_kx (w : xw_W) (b : xb_B) (r : Option (Int32 × Int32)) : ceo (kx_w w b r) = ceo w := by cases r <;> rfl
theorem b_kx (w : xw_W) (b : xb_B) (r : Option (Int32 × Int32)) : xw_b (kx_w w b r) = b := by cases r <;> rfl
theorem cer_kx0 (w : xw_W) (b : xb_B) : cer (kx_w w b none) = cer w := rfl
theorem cer_kx1 (w : xw_W) (b : xb_B) (y d : Int32) : cer (kx_w w b (some (y, d))) = (y, d, xw_rn w) := rfl
theorem ceo_rn (w : xw_W) (v : Int32) : ceo (xw_wrn w v) = ceo w := rfl
theorem cer_rn (w : xw_W) (v : Int32) : cer (xw_wrn w v) = cer w := rfl
theorem ceo_b (w : xw_W) (v : xb_B) : ceo (xw_wb w v) = ceo w := rfl
theorem cer_b (w : xw_W) (v : xb_B) : cer (xw_wb w v) = cer w := rfl
/-- what a failing command answers, and what it tells -/
theorem kc_good_er {B : kb_B} {o : kc_O} (h : kc_good B o) (he : kc_er o.2.1 = true) : (o.2.1 = -3 ∧ ∃ y d, o.2.2 = some (y, d) ∧ ¬ y = 0) ∨ ((o.2.1 = -1 ∨ o.2.1 = -2) ∧ o.2.2 = none) := by
  rcases h.2 with ⟨y, d, e, hy⟩ | e | e | ⟨e, ha⟩
  · left; rw [e]; exact ⟨rfl, y, d, rfl, hy⟩
  · right; rw [e]; exact ⟨Or.inl rfl, rfl⟩
  · right; rw [e]; exact ⟨Or.inr rfl, rfl⟩
  · rcases ha with z | ⟨n, hn, z⟩
    · rw [z] at he; exact absurd he (by decide)
    · rw [z, er_nI (by omega)] at he; cases he
theorem kc_good_ok {B : kb_B} {o : kc_O} (h : kc_good B o) (he : ¬ kc_er o.2.1 = true) : o.2.2 = none ∧ (o.2.1 = -4 ∨ ∃ n, n < 64 ∧ o.2.1 = nI n) := by
  rcases h.2 with ⟨y, d, e, hy⟩ | e | e | z
  · rw [e] at he; exact absurd (show kc_er (-3) = true by decide) he
  · rw [e] at he; exact absurd (show kc_er (-1) = true by decide) he
  · rw [e] at he; exact absurd (show kc_er (-2) = true by decide) he
  · exact z
def kt_ans (a : Int32) : Int32 := if a = -3 then -3 else -2
def kt_ref (old : Int32 × Int32 × Int32) (j : Nat) : Option (Int32 × Int32) → Int32 × Int32 × Int32
  | none => old
  | some (y, d) => (y, d, nI j)
section LOOP
variable {w : xw_W} {l : List kt_C} {O : Nat → kb_B → kc_O}
theorem x_read_loop (hO : ∀ i q, l[i]? = some q → kt_does q (O i)) (hl : l.length ≤ 35) (hst : kx_st (xw_ki w) (xw_ar w) l) {p : Nat} (hp : p < 9) (hpn : xw_hn w = nI p) : ∀ (m i : Nat) (B : kb_B) (w1 : xw_W) (v : Value), i + m = l.length → ceo w1 = ceo w → cer w1 = cer w → kb_x (xw_b w1) B → kb_ok B →
    (∀ B2, kt_x O m i B = (B2, none) → ∃ w2 v2, ai_Run 137 46 [.ref 0, .int (-1), .int (nI l.length), .int (nI i), v] [] (wl w1) = ai_Run 137 46 [.ref 0, .int (-1), .int (nI l.length), .int (nI l.length), v2] [] (wl w2) ∧ ceo w2 = ceo w ∧ cer w2 = cer w ∧ kb_x (xw_b w2) B2 ∧ kb_ok B2) ∧
    (∀ B2 j a r, kt_x O m i B = (B2, some (j, a, r)) → ∃ w2, ai_Run 137 46 [.ref 0, .int (-1), .int (nI l.length), .int (nI i), v] [] (wl w1) = some (some (.int (kt_ans a)), wl w2) ∧ ceo w2 = ceo w ∧ xw_b w2 = xw_hi w p ∧ cer w2 = kt_ref (cer w) j r) := by
  intro m
  induction m with
  | zero =>
    intro i B w1 v hi h1 h2 hx hk
    have ei : i = l.length := by omega
    subst ei
    refine ⟨fun B2 e => ?_, fun B2 j a r e => (by cases e)⟩
    have eB : B = B2 := congrArg (fun x => x.1) e
    subst eB
    exact ⟨w1, v, rfl, h1, h2, hx, hk⟩
  | succ m ih =>
    intro i B w1 v hi h1 h2 hx hk
    have hil : i < l.length := by omega
    have c1 : nI i < nI l.length := nI_lt hil (by omega)
    have hq : l[i]? = some l[i] := List.getElem?_eq_getElem hil
    obtain ⟨hg, hc, -⟩ := hO i _ hq
    have hgB := hg B hk
    have eki : xw_ki (xw_wrn w1 (nI i)) = xw_ki w := congrArg (fun x => x.1.2.2.2.2.2.2.2.1) h1
    have ear : xw_ar (xw_wrn w1 (nI i)) = xw_ar w := congrArg (fun x => x.1.2.2.2.2.2.2.2.2.1) h1
    have hst2 := hst i _ hq
    have es := x_setCommand w1 (nI i)
    have hsl := ceo_rn w1 (nI i)
    have hsr := cer_rn w1 (nI i)
    have hbx : kb_x (xw_b (xw_wrn w1 (nI i))) B := hx
    have hrn : xw_rn (xw_wrn w1 (nI i)) = nI i := rfl
    generalize xw_wrn w1 (nI i) = w3 at eki ear es hsl hsr hbx hrn
    obtain ⟨b, hb, eb⟩ := hc w3 B i hbx hk (by omega) (by rw [eki]; exact hst2.1) (by rw [ear]; exact hst2.2)
    rw [kt_x]
    by_cases he : kc_er (O i B).2.1 = true
    · rw [if_pos he]
      refine ⟨fun B2 e => (by cases e), fun B2 j a r e => ?_⟩
      have e1 : j = i := (congrArg (fun x : kb_B × Option (Nat × Int32 × Option (Int32 × Int32)) => (x.2.getD (0, 0, none)).1) e).symm
      have e2 : a = (O i B).2.1 := (congrArg (fun x : kb_B × Option (Nat × Int32 × Option (Int32 × Int32)) => (x.2.getD (0, 0, none)).2.1) e).symm
      have e3 : r = (O i B).2.2 := (congrArg (fun x : kb_B × Option (Nat × Int32 × Option (Int32 × Int32)) => (x.2.getD (0, 0, none)).2.2) e).symm
      rw [e1, e2, e3]
      have ee := x_isError (O i B).2.1 (wl (kx_w w3 b (O i B).2.2))
      rw [he] at ee
      have hX := ceo_kx w3 b (O i B).2.2
      have hcr : cer (kx_w w3 b (O i B).2.2) = kt_ref (cer w) i (O i B).2.2 := by
        rcases kc_good_er hgB he with ⟨-, y, d, z, -⟩ | ⟨-, z⟩
        · rw [z]
          exact (cer_kx1 _ _ _ _).trans (by rw [hrn]; rfl)
        · rw [z]
          exact (cer_kx0 _ _).trans (hsr.trans h2)
      generalize kx_w w3 b (O i B).2.2 = w4 at eb ee hX hcr
      have hX4 : ceo w4 = ceo w := hX.trans (hsl.trans h1)
      have hn4 : xw_hn w4 = nI p := (congrArg (fun x => x.1.2.2.2.1) hX4).trans hpn
      have hi4 : xw_hi w4 = xw_hi w := congrArg (fun x => x.1.2.1) hX4
      have et := x_takeBack (w := w4) hp hn4
      refine ⟨xw_wb w4 (xw_hi w4 p), ?_, (ceo_b _ _).trans hX4, by show xw_hi w4 p = _; rw [hi4], (cer_b _ _).trans hcr⟩
      rw [r_137_46]
      unfold kt_ans
      rcases kc_good_er hgB he with ⟨z, -⟩ | ⟨z | z, -⟩
      · rw [z] at eb ee ⊢
        simp only [r_137_0, r_137_1, r_137_4, r_137_7, r_137_8, r_137_9, r_137_12, r_137_15, r_137_16, r_137_17, r_137_20, r_137_22, r_137_23, r_137_24, r_137_25, r_137_26, r_137_29, r_137_30, r_137_33, r_137_36, r_137_37, r_137_40, r_137_43, r_137_44, r_137_45, r_137_47, r_137_48, r_137_51, r_137_52, r_137_55, r_137_56, r_137_59, r_137_60, r_137_61, r_137_64, r_137_66, r_137_68, r_137_71, r_137_74, r_137_75, r_137_78, r_137_79, r_137_82, r_137_85, r_137_87, r_137_89, r_137_92, r_137_94, r_137_97, r_137_99, r_137_100, r_137_103, r_137_106, r_137_107, r_137_110, r_137_113, r_137_114, Option.bind_some, Option.bind_none, Option.toList_some, Option.toList_none, List.cons_append, List.nil_append, Option.map_some, Option.map_none, eq_self, if_true, if_false, reduceIte, ai_bi_eq0, ai_bi_eq1, ai_pb_bi, ai_pb_0, ai_pb_1, c1, f_0_0, f_0_4, f_0_6, es, eb, ee, et, Bool.true_eq_false]
      · rw [z] at eb ee ⊢
        simp only [r_137_0, r_137_1, r_137_4, r_137_7, r_137_8, r_137_9, r_137_12, r_137_15, r_137_16, r_137_17, r_137_20, r_137_22, r_137_23, r_137_24, r_137_25, r_137_26, r_137_29, r_137_30, r_137_33, r_137_36, r_137_37, r_137_40, r_137_43, r_137_44, r_137_45, r_137_47, r_137_48, r_137_51, r_137_52, r_137_55, r_137_56, r_137_59, r_137_60, r_137_61, r_137_64, r_137_66, r_137_68, r_137_71, r_137_74, r_137_75, r_137_78, r_137_79, r_137_82, r_137_85, r_137_87, r_137_89, r_137_92, r_137_94, r_137_97, r_137_99, r_137_100, r_137_103, r_137_106, r_137_107, r_137_110, r_137_113, r_137_114, Option.bind_some, Option.bind_none, Option.toList_some, Option.toList_none, List.cons_append, List.nil_append, Option.map_some, Option.map_none, eq_self, if_true, if_false, reduceIte, ai_bi_eq0, ai_bi_eq1, ai_pb_bi, ai_pb_0, ai_pb_1, c1, f_0_0, f_0_4, f_0_6, es, eb, ee, et, Bool.true_eq_false, show ¬ (-1 : Int32) = -3 by decide]
      · rw [z] at eb ee ⊢
        simp only [r_137_0, r_137_1, r_137_4, r_137_7, r_137_8, r_137_9, r_137_12, r_137_15, r_137_16, r_137_17, r_137_20, r_137_22, r_137_23, r_137_24, r_137_25, r_137_26, r_137_29, r_137_30, r_137_33, r_137_36, r_137_37, r_137_40, r_137_43, r_137_44, r_137_45, r_137_47, r_137_48, r_137_51, r_137_52, r_137_55, r_137_56, r_137_59, r_137_60, r_137_61, r_137_64, r_137_66, r_137_68, r_137_71, r_137_74, r_137_75, r_137_78, r_137_79, r_137_82, r_137_85, r_137_87, r_137_89, r_137_92, r_137_94, r_137_97, r_137_99, r_137_100, r_137_103, r_137_106, r_137_107, r_137_110, r_137_113, r_137_114, Option.bind_some, Option.bind_none, Option.toList_some, Option.toList_none, List.cons_append, List.nil_append, Option.map_some, Option.map_none, eq_self, if_true, if_false, reduceIte, ai_bi_eq0, ai_bi_eq1, ai_pb_bi, ai_pb_0, ai_pb_1, c1, f_0_0, f_0_4, f_0_6, es, eb, ee, et, Bool.true_eq_false, show ¬ (-2 : Int32) = -3 by decide]
    · rw [if_neg he]
      have he' : kc_er (O i B).2.1 = false := by simpa using he
      obtain ⟨z, -⟩ := kc_good_ok hgB he
      have ee := x_isError (O i B).2.1 (wl (kx_w w3 b (O i B).2.2))
      rw [he'] at ee
      have hX := ceo_kx w3 b (O i B).2.2
      have hB := b_kx w3 b (O i B).2.2
      have hcr : cer (kx_w w3 b (O i B).2.2) = cer w := by
        rw [z]
        exact (cer_kx0 _ _).trans (hsr.trans h2)
      generalize kx_w w3 b (O i B).2.2 = w4 at eb ee hX hcr hB
      have hX4 : ceo w4 = ceo w := hX.trans (hsl.trans h1)
      have eR : ai_Run 137 46 [.ref 0, .int (-1), .int (nI l.length), .int (nI i), v] [] (wl w1) = ai_Run 137 46 [.ref 0, .int (-1), .int (nI l.length), .int (nI (i + 1)), .int (O i B).2.1] [] (wl w4) := by
        rw [r_137_46]
        simp only [r_137_0, r_137_1, r_137_4, r_137_7, r_137_8, r_137_9, r_137_12, r_137_15, r_137_16, r_137_17, r_137_20, r_137_22, r_137_23, r_137_24, r_137_25, r_137_26, r_137_29, r_137_30, r_137_33, r_137_36, r_137_37, r_137_40, r_137_43, r_137_44, r_137_45, r_137_47, r_137_48, r_137_51, r_137_52, r_137_55, r_137_56, r_137_59, r_137_60, r_137_61, r_137_64, r_137_66, r_137_68, r_137_71, r_137_74, r_137_75, r_137_78, r_137_79, r_137_82, r_137_85, r_137_87, r_137_89, r_137_92, r_137_94, r_137_97, r_137_99, r_137_100, r_137_103, r_137_106, r_137_107, r_137_110, r_137_113, r_137_114, Option.bind_some, Option.bind_none, Option.toList_some, Option.toList_none, List.cons_append, List.nil_append, Option.map_some, Option.map_none, eq_self, if_true, if_false, reduceIte, ai_bi_eq0, ai_bi_eq1, ai_pb_bi, ai_pb_0, ai_pb_1, c1, f_0_0, f_0_4, f_0_6, es, eb, ee, nI_1]
      rw [eR]
      exact ih (i + 1) (O i B).1 w4 _ (by omega) hX4 hcr (by rw [hB]; exact hb) hgB.1
end LOOP

