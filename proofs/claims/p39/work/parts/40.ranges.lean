theorem kb_ok_j {B : kb_B} (hk : kb_ok B) {k v : Nat} (hv : v ≤ 9) : kb_ok (kb_wj B k v) := by
  refine ⟨hk.1, hk.2.1, hk.2.2.1, hk.2.2.2.1, hk.2.2.2.2.1, hk.2.2.2.2.2.1, hk.2.2.2.2.2.2.1, hk.2.2.2.2.2.2.2.1, hk.2.2.2.2.2.2.2.2.1, ?_, hk.2.2.2.2.2.2.2.2.2.2.1, hk.2.2.2.2.2.2.2.2.2.2.2⟩
  intro i
  show (if i = k then v else kb_J B i) ≤ 9
  split
  · exact hv
  · exact hk.2.2.2.2.2.2.2.2.2.1 i
/-! Changes of the book keep its ranges; the class's rows and the reference's row follow them. -/
section OK
variable {B : kb_B}
theorem ok_un (hk : kb_ok B) (h : kb_n B < 8) : kb_ok (kb_un B (kb_n B + 1)) :=
  ⟨h, hk.2.1, hk.2.2.1, fun c hc => hk.2.2.2.1 c (by have : kb_n B + 1 ≤ c := hc; omega), hk.2.2.2.2.1, hk.2.2.2.2.2.1, hk.2.2.2.2.2.2.1, hk.2.2.2.2.2.2.2.1, hk.2.2.2.2.2.2.2.2.1, hk.2.2.2.2.2.2.2.2.2.1, fun c d => by
    rcases hk.2.2.2.2.2.2.2.2.2.2.1 c d with z | ⟨i, hi, z⟩
    · exact Or.inl z
    · exact Or.inr ⟨i, (by show i < kb_n B + 1; omega), z⟩, hk.2.2.2.2.2.2.2.2.2.2.2⟩
theorem ok_ua (hk : kb_ok B) (h : kb_a B < 4) : kb_ok (kb_ua B (kb_a B + 1)) :=
  ⟨hk.1, h, hk.2.2.1, hk.2.2.2.1, hk.2.2.2.2.1, hk.2.2.2.2.2.1, fun q => by
    rcases hk.2.2.2.2.2.2.1 q with z | ⟨i, hi, z⟩
    · exact Or.inl z
    · exact Or.inr ⟨i, (by show i < kb_a B + 1; omega), z⟩, hk.2.2.2.2.2.2.2⟩
theorem ok_ut (hk : kb_ok B) (v : Int32) : kb_ok (kb_ut B v) := hk
theorem ok_W (hk : kb_ok B) {q i : Nat} (hi : i < kb_a B) : kb_ok (kb_setW B q (nI i)) :=
  ⟨hk.1, hk.2.1, hk.2.2.1, hk.2.2.2.1, hk.2.2.2.2.1, hk.2.2.2.2.2.1, fun j => by
    show up (kb_W B) q (nI i) j = _ ∨ ∃ k, k < kb_a B ∧ up (kb_W B) q (nI i) j = nI k
    by_cases z : j = q
    · rw [z, up_at]
      exact Or.inr ⟨i, hi, rfl⟩
    · rw [up_ne _ z]
      exact hk.2.2.2.2.2.2.1 j, hk.2.2.2.2.2.2.2⟩
theorem ok_S (hk : kb_ok B) {i v : Nat} (hv : v ≤ 1) : kb_ok (kb_setS B i v) :=
  ⟨hk.1, hk.2.1, hk.2.2.1, hk.2.2.2.1, hk.2.2.2.2.1, hk.2.2.2.2.2.1, hk.2.2.2.2.2.2.1, fun j => by
    show up (kb_S B) i v j ≤ 1
    by_cases z : j = i
    · rw [z, up_at]; exact hv
    · rw [up_ne _ z]; exact hk.2.2.2.2.2.2.2.1 j, hk.2.2.2.2.2.2.2.2⟩
theorem ok_M (hk : kb_ok B) {c o v : Nat} (hv : v ≤ 9) : kb_ok (kb_setM B c o v) :=
  ⟨hk.1, hk.2.1, hk.2.2.1, hk.2.2.2.1, hk.2.2.2.2.1, hk.2.2.2.2.2.1, hk.2.2.2.2.2.2.1, hk.2.2.2.2.2.2.2.1, fun i j => by
    show up (kb_M B) c (up (kb_M B c) o v) i j ≤ 9
    by_cases z : i = c
    · rw [z, up_at]
      by_cases y : j = o
      · rw [y, up_at]; exact hv
      · rw [up_ne _ y]; exact hk.2.2.2.2.2.2.2.2.1 c j
    · rw [up_ne _ z]; exact hk.2.2.2.2.2.2.2.2.1 i j, hk.2.2.2.2.2.2.2.2.2⟩
theorem ok_J (hk : kb_ok B) {k v : Nat} (hv : v ≤ 9) : kb_ok (kb_setJ B k v) := kb_ok_j hk hv
theorem ok_C (hk : kb_ok B) {c d i : Nat} (hi : i < kb_n B) (hd : 2 * d < kb_T B c) : kb_ok (kb_setC B c d (nI i)) :=
  ⟨hk.1, hk.2.1, hk.2.2.1, hk.2.2.2.1, hk.2.2.2.2.1, hk.2.2.2.2.2.1, hk.2.2.2.2.2.2.1, hk.2.2.2.2.2.2.2.1, hk.2.2.2.2.2.2.2.2.1, hk.2.2.2.2.2.2.2.2.2.1, fun a b => by
    show up (kb_C B) c (up (kb_C B c) d (nI i)) a b = _ ∨ ∃ k, k < kb_n B ∧ up (kb_C B) c (up (kb_C B c) d (nI i)) a b = nI k
    by_cases z : a = c
    · rw [z, up_at]
      by_cases y : b = d
      · rw [y, up_at]; exact Or.inr ⟨i, hi, rfl⟩
      · rw [up_ne _ y]; exact hk.2.2.2.2.2.2.2.2.2.2.1 c b
    · rw [up_ne _ z]; exact hk.2.2.2.2.2.2.2.2.2.2.1 a b, fun a b hab => by
    show up (kb_C B) c (up (kb_C B c) d (nI i)) a b = _
    by_cases z : a = c
    · have hab : kb_T B a ≤ 2 * b := hab
      rw [z] at hab ⊢
      rw [up_at, up_ne _ (by omega)]
      exact hk.2.2.2.2.2.2.2.2.2.2.2 c b hab
    · rw [up_ne _ z]; exact hk.2.2.2.2.2.2.2.2.2.2.2 a b hab⟩
theorem ok_add (hk : kb_ok B) {c q : Nat} (hc : c < kb_n B) (h6 : kb_T B c < 6) (h1 : 1 ≤ q) (h30 : q ≤ 30) (hl : kb_la B c < q) : kb_ok (kb_add B c q) := by
  refine ⟨hk.1, hk.2.1, ?_, ?_, ?_, ?_, hk.2.2.2.2.2.2.1, hk.2.2.2.2.2.2.2.1, hk.2.2.2.2.2.2.2.2.1, hk.2.2.2.2.2.2.2.2.2.1, hk.2.2.2.2.2.2.2.2.2.2.1, ?_⟩
  · intro i
    show up (kb_T B) c (kb_T B c + 1) i ≤ 6
    by_cases z : i = c
    · rw [z, up_at]; exact h6
    · rw [up_ne _ z]; exact hk.2.2.1 i
  · intro i hi
    have hi : kb_n B ≤ i := hi
    show up (kb_T B) c (kb_T B c + 1) i = 0
    rw [up_ne _ (by omega)]
    exact hk.2.2.2.1 i hi
  · intro i k hik
    have hik : k < up (kb_T B) c (kb_T B c + 1) i := hik
    show 1 ≤ up (kb_E B) c (up (kb_E B c) (kb_T B c) q) i k ∧ up (kb_E B) c (up (kb_E B c) (kb_T B c) q) i k ≤ 30
    by_cases z : i = c
    · subst z
      rw [up_at] at hik
      rw [up_at]
      by_cases y : k = kb_T B i
      · rw [y, up_at]; exact ⟨h1, h30⟩
      · rw [up_ne _ y]; exact hk.2.2.2.2.1 i k (by omega)
    · rw [up_ne _ z] at hik
      rw [up_ne _ z]
      exact hk.2.2.2.2.1 i k hik
  · intro i k hik
    have hik : k + 1 < up (kb_T B) c (kb_T B c + 1) i := hik
    show up (kb_E B) c (up (kb_E B c) (kb_T B c) q) i k < up (kb_E B) c (up (kb_E B c) (kb_T B c) q) i (k + 1)
    by_cases z : i = c
    · subst z
      rw [up_at] at hik
      rw [up_at, up_ne _ (show k ≠ kb_T B i by omega)]
      by_cases y : k + 1 = kb_T B i
      · rw [y, up_at]
        unfold kb_la at hl
        rw [if_neg (by omega), show kb_T B i - 1 = k by omega] at hl
        exact hl
      · rw [up_ne _ y]; exact hk.2.2.2.2.2.1 i k (by omega)
    · rw [up_ne _ z] at hik
      rw [up_ne _ z]
      exact hk.2.2.2.2.2.1 i k hik
  · intro i d hid
    have hid : up (kb_T B) c (kb_T B c + 1) i ≤ 2 * d := hid
    refine hk.2.2.2.2.2.2.2.2.2.2.2 i d ?_
    by_cases z : i = c
    · subst z
      rw [up_at] at hid
      omega
    · rw [up_ne _ z] at hid
      exact hid
theorem tk_C (hk : kb_ok B) (c : Nat) : ∀ i d, kb_C (kb_tk B c) i d = if i = c ∧ d = kb_T B c / 2 ∧ kb_T B c % 2 = 1 then (-4) else kb_C B i d := by
  intro i d
  unfold kb_tk
  by_cases z : kb_T B c % 2 = 1
  · rw [if_pos z]
    show up (kb_C B) c (up (kb_C B c) (kb_T B c / 2) (-4)) i d = _
    by_cases y : i = c
    · subst y
      rw [up_at]
      by_cases x : d = kb_T B i / 2
      · rw [x, up_at, if_pos ⟨rfl, rfl, z⟩]
      · rw [up_ne _ x, if_neg (fun q => x q.2.1)]
    · rw [up_ne _ y, if_neg (fun q => y q.1)]
  · rw [if_neg z, if_neg (fun q => z q.2.2)]
    rfl
theorem tk_T (c : Nat) : kb_T (kb_tk B c) = up (kb_T B) c (kb_T B c - 1) := by
  unfold kb_tk
  by_cases z : kb_T B c % 2 = 1
  · rw [if_pos z]; rfl
  · rw [if_neg z]; rfl
theorem tk_x (c : Nat) : (kb_tk B c).1 = B.1 ∧ kb_E (kb_tk B c) = kb_E B ∧ kb_W (kb_tk B c) = kb_W B ∧ kb_S (kb_tk B c) = kb_S B ∧ kb_M (kb_tk B c) = kb_M B ∧ kb_J (kb_tk B c) = kb_J B := by
  unfold kb_tk
  by_cases z : kb_T B c % 2 = 1
  · rw [if_pos z]; exact ⟨rfl, rfl, rfl, rfl, rfl, rfl⟩
  · rw [if_neg z]; exact ⟨rfl, rfl, rfl, rfl, rfl, rfl⟩
theorem ok_tk (hk : kb_ok B) {c : Nat} (hT : kb_T B c ≠ 0) : kb_ok (kb_tk B c) := by
  obtain ⟨e1, e2, e3, e4, e5, e6⟩ := tk_x (B := B) c
  have et := tk_T (B := B) c
  have ec := tk_C hk c
  unfold kb_ok
  have en : kb_n (kb_tk B c) = kb_n B := congrArg (·.1) e1
  have ea : kb_a (kb_tk B c) = kb_a B := congrArg (·.2.1) e1
  rw [en, ea, e2, e3, e4, e5, e6, et]
  have hT' : ∀ i, up (kb_T B) c (kb_T B c - 1) i ≤ kb_T B i := by
    intro i
    by_cases z : i = c
    · subst z; rw [up_at]; omega
    · rw [up_ne _ z]; exact Nat.le_refl _
  refine ⟨hk.1, hk.2.1, fun i => Nat.le_trans (hT' i) (hk.2.2.1 i), fun i hi => ?_, fun i k hik => hk.2.2.2.2.1 i k (Nat.lt_of_lt_of_le hik (hT' i)), fun i k hik => hk.2.2.2.2.2.1 i k (Nat.lt_of_lt_of_le hik (hT' i)), hk.2.2.2.2.2.2.1, hk.2.2.2.2.2.2.2.1, hk.2.2.2.2.2.2.2.2.1, hk.2.2.2.2.2.2.2.2.2.1, fun i d => ?_, fun i d hid => ?_⟩
  · have := hT' i
    have := hk.2.2.2.1 i hi
    omega
  · rw [ec]
    split
    · exact Or.inl rfl
    · exact hk.2.2.2.2.2.2.2.2.2.2.1 i d
  · rw [ec]
    split
    · rfl
    · rename_i z
      refine hk.2.2.2.2.2.2.2.2.2.2.2 i d ?_
      by_cases y : i = c
      · subst y
        rw [up_at] at hid
        rcases Nat.lt_or_ge (2 * d) (kb_T B i) with x | x
        · exact absurd ⟨rfl, by omega, by omega⟩ z
        · exact x
      · rw [up_ne _ y] at hid
        exact hid
end OK

