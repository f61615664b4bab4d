/-! Reading: the commands carried out one after another. -/
theorem kt_a_b {n : Nat} {c : Nat → Nat} (h : kt_ok n c) : ∀ (f : Nat) {p : Nat}, p ≤ n → (kt_a c n f p).2 ≤ n := by
  intro f
  induction f with
  | zero => intro p hp; exact hp
  | succ f ih =>
    intro p hp
    have hb := kt_c_b h hp
    rw [kt_a]
    split
    · split
      · exact hb.2.1
      · split
        · rename_i hc
          exact ih (kt_lt h (p := (kt_c c p).2.1) (by omega))
        · exact hb.2.1
    · exact hb.2.1
/-- the commands from the i-th on: the book after them, or the one that fails -/
def kt_x (O : Nat → kb_B → kc_O) : Nat → Nat → kb_B → kb_B × Option (Nat × Int32 × Option (Int32 × Int32))
  | 0, _, B => (B, none)
  | m + 1, i, B => if kc_er (O i B).2.1 = true then (B, some (i, (O i B).2.1, (O i B).2.2)) else kt_x O m (i + 1) (O i B).1
def ceo (w : xw_W) := ((xw_ky w, xw_hi w, xw_sn w, xw_hn w, xw_hm w, xw_hs w, xw_co w, xw_ki w, xw_ar w, xw_tl w, xw_tc w, xw_tp w, xw_tg w, xw_li w, xw_ll w), w.2)
def cer (w : xw_W) := (xw_rr w, xw_rd w, xw_rc w)
theorem ceo_kx (w : xw_W) (b : xb_B) (r : Option (Int32 × Int32)) : ceo (kx_w w b r) = ceo w := by cases r <;> rfl
theorem b_kx (w : xw_W) (b : xb_B) (r : Option (Int32 × Int32)) : xw_b (kx_w w b r) = b := by cases r <;> rfl
theorem cer_kx0 (w : xw_W) (b : xb_B) : cer (kx_w w b none) = cer w := rfl
theorem cer_kx1 (w : xw_W) (b : xb_B) (y d : Int32) : cer (kx_w w b (some (y, d))) = (y, d, xw_rn w) := rfl
theorem ceo_rn (w : xw_W) (v : Int32) : ceo (xw_wrn w v) = ceo w := rfl
theorem cer_rn (w : xw_W) (v : Int32) : cer (xw_wrn w v) = cer w := rfl
theorem ceo_b (w : xw_W) (v : xb_B) : ceo (xw_wb w v) = ceo w := rfl
theorem cer_b (w : xw_W) (v : xb_B) : cer (xw_wb w v) = cer w := rfl
/-- what a failing command answers, and what it tells -/
theorem kc_good_er {B : kb_B} {o : kc_O} (h : kc_good B o) (he : kc_er o.2.1 = true) : (o.2.1 = -3 ∧ ∃ y d, o.2.2 = some (y, d) ∧ ¬ y = 0) ∨ ((o.2.1 = -1 ∨ o.2.1 = -2) ∧ o.2.2 = none) := by
  rcases h.2 with ⟨y, d, e, hy⟩ | e | e | ⟨e, ha⟩
  · left; rw [e]; exact ⟨rfl, y, d, rfl, hy⟩
  · right; rw [e]; exact ⟨Or.inl rfl, rfl⟩
  · right; rw [e]; exact ⟨Or.inr rfl, rfl⟩
  · rcases ha with z | ⟨n, hn, z⟩
    · rw [z] at he; exact absurd he (by decide)
    · rw [z, er_nI hn] at he; cases he
theorem kc_good_ok {B : kb_B} {o : kc_O} (h : kc_good B o) (he : ¬ kc_er o.2.1 = true) : o.2.2 = none ∧ (o.2.1 = -4 ∨ ∃ n, n < 2 ^ 31 ∧ o.2.1 = nI n) := by
  rcases h.2 with ⟨y, d, e, hy⟩ | e | e | z
  · rw [e] at he; exact absurd (show kc_er (-3) = true by decide) he
  · rw [e] at he; exact absurd (show kc_er (-1) = true by decide) he
  · rw [e] at he; exact absurd (show kc_er (-2) = true by decide) he
  · exact z
def kt_ans (a : Int32) : Int32 := if a = -3 then -3 else -2
def kt_ref (old : Int32 × Int32 × Int32) (j : Nat) : Option (Int32 × Int32) → Int32 × Int32 × Int32
  | none => old
  | some (y, d) => (y, d, nI j)
section LOOP
variable {w : xw_W} {l : List kt_C} {O : Nat → kb_B → kc_O}
end LOOP

