/-! The plain machine's cells on the heap, its locals in a frame; a run never loses a cell. -/
/-- where the cells lie: the first one's address; the addresses of what stood before (0: the script); the static that is only carried -/
abbrev ai_B : Type := Nat × (Nat → Nat) × Option Nat
def ai_xa (b : ai_B) (k : Nat) : Nat := b.2.1 (if 24 ≤ k then 0 else k)
def ai_cv (b : ai_B) : Value → Value
  | .ref a => .ref (b.1 + a)
  | .retAddr k => if k = 23 then va_rf b.2.2 else .ref (ai_xa b k)
  | v => v
theorem ai_cv_x {b : ai_B} {k : Nat} (h : ¬ k = 23) : ai_cv b (.retAddr k) = .ref (ai_xa b k) := if_neg h
theorem ai_rf_cat (r : Option Nat) : (va_rf r).category = 1 := by cases r <;> rfl
def ai_e (b : ai_B) (cI cB cY : ClassId) : ai_C → va_E
  | .inl l => .inl (cI, l.length, .inl (fun j => l.getD j 0))
  | .inr (.inl l) => .inl (cB, l.length, .inr (.inr (.inr (.inr (fun j => (l.getD j none).map (b.1 + ·))))))
  | .inr (.inr o) => if o.1 = 77 then .inl (cY, o.2.length, .inl (fun j => ai_iv (o.2.getD j .null))) else .inr (o.1, o.2.map (ai_cv b))
theorem ai_e_o {b : ai_B} {cI cB cY : ClassId} {c : Nat} {fs : List Value} (h : ¬ c = 77) : ai_e b cI cB cY (.inr (.inr (c, fs))) = .inr (c, fs.map (ai_cv b)) := if_neg h
theorem ai_e_b {b : ai_B} {cI cB cY : ClassId} {fs : List Value} : ai_e b cI cB cY (.inr (.inr (77, fs))) = .inl (cY, fs.length, .inl (fun j => ai_iv (fs.getD j .null))) := by
  simp only [ai_e, reduceIte]
def ai_w (b : ai_B) (cI cB cY : ClassId) (ws : ai_W) : va_W := ws.mapIdx (fun k c => (b.1 + k, ai_e b cI cB cY c))
theorem ai_w_get {b : ai_B} {cI cB cY : ClassId} {ws : ai_W} {k : Nat} {c : ai_C} (h : ws[k]? = some c) : (ai_w b cI cB cY ws)[k]? = some (b.1 + k, ai_e b cI cB cY c) := by
  simp [ai_w, List.getElem?_mapIdx, h]
theorem ai_w_inv {b : ai_B} {cI cB cY : ClassId} {ws : ai_W} {k : Nat} {q : Nat × va_E} (h : (ai_w b cI cB cY ws)[k]? = some q) : ∃ c, ws[k]? = some c ∧ q = (b.1 + k, ai_e b cI cB cY c) := by
  simp only [ai_w, List.getElem?_mapIdx, Option.map_eq_some_iff] at h
  obtain ⟨c, h1, h2⟩ := h
  exact ⟨c, h1, h2.symm⟩
theorem ai_w_len {b : ai_B} {cI cB cY : ClassId} {ws : ai_W} : (ai_w b cI cB cY ws).length = ws.length := by simp [ai_w]
theorem ai_w_set {b : ai_B} {cI cB cY : ClassId} {ws : ai_W} {k : Nat} {c : ai_C} : (ai_w b cI cB cY ws).set k (b.1 + k, ai_e b cI cB cY c) = ai_w b cI cB cY (ws.set k c) := by
  refine List.ext_getElem? fun i => ?_
  simp only [ai_w, List.getElem?_set, List.getElem?_mapIdx, List.length_mapIdx]
  by_cases hk : k = i
  · subst hk
    by_cases hl : k < ws.length <;> simp [hl]
  · simp [hk]
theorem ai_w_push {b : ai_B} {cI cB cY : ClassId} {ws : ai_W} {c : ai_C} : ai_w b cI cB cY ws ++ [(b.1 + ws.length, ai_e b cI cB cY c)] = ai_w b cI cB cY (ws ++ [c]) := by
  simp [ai_w, List.mapIdx_append]
theorem ai_sl_set {ws : ai_W} {k : Nat} {c d : ai_C} (h : ws[k]? = some c) (hz : ai_sz d = ai_sz c) : ai_sl (ws.set k d) = ai_sl ws := by
  induction ws generalizing k with
  | nil => rfl
  | cons a ws ih =>
    cases k with
    | zero =>
      simp only [List.getElem?_cons_zero, Option.some.injEq] at h
      subst h
      simp [ai_sl, hz]
    | succ k =>
      rw [List.getElem?_cons_succ] at h
      have := ih h
      simp only [ai_sl, List.set_cons_succ, List.map_cons, List.sum_cons] at this ⊢
      omega
theorem ai_sl_push {ws : ai_W} {c : ai_C} : ai_sl (ws ++ [c]) = ai_sl ws + ai_sz c := by simp [ai_sl]
-- locals
def ai_kn : Value → Bool
  | .int _ => true
  | .float _ => true
  | .ref _ => true
  | .retAddr _ => true
  | _ => false
def ai_l (b : ai_B) (ls : List Value) (arr : Array Slot) : Prop := arr.size = ls.length ∧ lv_wf arr ∧ ∀ (i : Nat) (v : Value), ls[i]? = some v → ai_kn v = true → arr[i]? = some (.val (ai_cv b v))
def ai_ps (b : ai_B) (ls : List Value) : List (Nat × Value) := ((ls.mapIdx fun i v => (i, v)).filter fun q => ai_kn q.2).map fun q => (q.1, ai_cv b q.2)
theorem ai_ps_mem {b : ai_B} {ls : List Value} {i : Nat} {w : Value} : (i, w) ∈ ai_ps b ls ↔ ∃ v, ls[i]? = some v ∧ ai_kn v = true ∧ w = ai_cv b v := by
  unfold ai_ps
  simp only [List.mem_map, List.mem_filter, Prod.mk.injEq]
  constructor
  · rintro ⟨⟨j, v⟩, ⟨h1, h2⟩, h3, h4⟩
    dsimp only at h2 h3 h4
    subst h3
    obtain ⟨k, hk⟩ := List.getElem?_of_mem h1
    rw [List.getElem?_mapIdx, Option.map_eq_some_iff] at hk
    obtain ⟨v2, g1, g2⟩ := hk
    cases g2
    exact ⟨v, g1, h2, h4.symm⟩
  · rintro ⟨v, h1, h2, h3⟩
    refine ⟨(i, v), ⟨?_, h2⟩, rfl, h3.symm⟩
    refine List.mem_of_getElem? (i := i) ?_
    rw [List.getElem?_mapIdx, h1]
    rfl
theorem ai_l_has {b : ai_B} {ls : List Value} {arr : Array Slot} (h : ai_l b ls arr) : lv_has arr ls.length (ai_ps b ls) := by
  refine ⟨h.1, h.2.1, fun q hq => ?_⟩
  obtain ⟨i, w⟩ := q
  obtain ⟨v, h1, h2, rfl⟩ := ai_ps_mem.mp hq
  exact h.2.2 i v h1 h2
theorem ai_cv_cat2 {b : ai_B} {v : Value} : (ai_cv b v).category = v.category := by
  cases v with
  | retAddr k =>
    by_cases h : k = 23
    · show (if k = 23 then va_rf b.2.2 else _).category = 1
      rw [if_pos h]
      exact ai_rf_cat _
    · rw [ai_cv_x h]
      rfl
  | _ => rfl
theorem ai_cv_cat {b : ai_B} {v : Value} (h : ai_kn v = true) : (ai_cv b v).category = 1 := by
  rw [ai_cv_cat2]
  cases v <;> first | rfl | cases h
theorem ai_l_store {b : ai_B} {ls : List Value} {arr : Array Slot} {i : Nat} {v : Value} (hi : i < ls.length) (hv : ai_kn v = true) (h : lv_has arr ls.length ((i, ai_cv b v) :: (ai_ps b ls).filter (fun q => !(q.1 == i) && !(q.1 + 1 == i && q.2.category == 2)))) : ai_l b (ls.set i v) arr := by
  refine ⟨by rw [List.length_set]; exact h.1, h.2.1, fun j w hj hw => ?_⟩
  rw [List.getElem?_set] at hj
  by_cases hij : i = j
  · subst hij
    rw [if_pos rfl, if_pos hi] at hj
    cases hj
    exact h.2.2 (i, ai_cv b v) List.mem_cons_self
  · rw [if_neg hij] at hj
    refine h.2.2 (j, ai_cv b w) (List.mem_cons_of_mem _ (List.mem_filter.mpr ⟨ai_ps_mem.mpr ⟨w, hj, hw, rfl⟩, ?_⟩))
    have hc := ai_cv_cat (b := b) hw
    simp [hc, Ne.symm hij]
theorem ai_l_entry {b : ai_B} {n : Nat} {as : List Value} (hc : ∀ v ∈ as, v.category = 1) (hn : as.length ≤ n) : ai_l b (as ++ List.replicate (n - as.length) .null) (lg_sl (as.map (ai_cv b)) ++ List.replicate (n - (lg_sl (as.map (ai_cv b))).length) Slot.unset).toArray := by
  have e : lg_sl (as.map (ai_cv b)) = as.map (fun v => Slot.val (ai_cv b v)) := by
    clear hn
    induction as with
    | nil => rfl
    | cons a as ih =>
      have h1 : (ai_cv b a).category = 1 := by rw [ai_cv_cat2]; exact hc a List.mem_cons_self
      have h2 := ih (fun v hv => hc v (List.mem_cons_of_mem _ hv))
      simp only [lg_sl] at h2
      simp only [lg_sl, List.map_cons, List.flatMap_cons, h1, h2]
      simp
  have hl := lv_entry (as.map (ai_cv b)) (n := n) (by rw [e, List.length_map]; exact hn)
  rw [e] at hl ⊢
  refine ⟨?_, hl.2.1, fun i v hi hv => ?_⟩
  · simp
  · rw [List.getElem?_append] at hi
    by_cases hia : i < as.length
    · rw [if_pos hia] at hi
      simp [List.getElem?_append, hia, hi]
      have : as[i] = v := by rw [List.getElem?_eq_getElem hia] at hi; exact Option.some.inj hi
      rw [this]
    · rw [if_neg hia, List.getElem?_replicate] at hi
      by_cases h2 : i - as.length < n - as.length
      · rw [if_pos h2] at hi
        cases hi
        cases hv
      · rw [if_neg h2] at hi
        cases hi
-- a run never loses a cell
theorem ai_fput_len {ws ws2 : ai_W} {a ci k : Nat} {v : Value} (h : ai_fput ws a ci k v = some ws2) : ws2.length = ws.length ∧ ai_sl ws2 = ai_sl ws := by
  unfold ai_fput at h
  split at h
  · rename_i c fs hc
    split at h
    · cases h
      exact ⟨List.length_set .., ai_sl_set hc (by simp [ai_sz])⟩
    · cases h
  · cases h
theorem ai_aset_len {ws ws2 : ai_W} {a : Nat} {i x : Int32} (h : ai_aset ws a i x = some ws2) : ws2.length = ws.length ∧ ai_sl ws2 = ai_sl ws := by
  unfold ai_aset at h
  split at h
  · rename_i l hc
    rw [Option.map_eq_some_iff] at h
    obtain ⟨j, -, rfl⟩ := h
    exact ⟨List.length_set .., ai_sl_set hc (by simp [ai_sz])⟩
  · cases h
theorem ai_qset_len {ws ws2 : ai_W} {a x : Nat} {i : Int32} (h : ai_qset ws a i x = some ws2) : ws2.length = ws.length ∧ ai_sl ws2 = ai_sl ws := by
  unfold ai_qset at h
  split at h
  · rename_i l hc
    split at h
    · rw [Option.map_eq_some_iff] at h
      obtain ⟨j, -, rfl⟩ := h
      exact ⟨List.length_set .., ai_sl_set hc (by simp [ai_sz])⟩
    · cases h
  · cases h
theorem ai_bset_len {ws ws2 : ai_W} {a : Nat} {i x : Int32} (h : ai_bset ws a i x = some ws2) : ws2.length = ws.length ∧ ai_sl ws2 = ai_sl ws := by
  unfold ai_bset at h
  split at h
  · rename_i c fs hc
    split at h
    · rw [Option.map_eq_some_iff] at h
      obtain ⟨j, -, rfl⟩ := h
      exact ⟨List.length_set .., ai_sl_set hc (by simp [ai_sz])⟩
    · cases h
  · cases h
theorem ai_lay_len {f g : List Value} {sp dp n : Nat} : (ai_lay f g sp dp n).length = g.length := by simp [ai_lay]
theorem ai_bcopy_len {fs : List Value} {ws ws2 : ai_W} {d : Nat} {i j n : Int32} (h : ai_bcopy fs ws i d j n = some ws2) : ws2.length = ws.length ∧ ai_sl ws2 = ai_sl ws := by
  unfold ai_bcopy at h
  split at h
  · rename_i c2 gs hc
    split at h
    · cases h
      exact ⟨List.length_set .., ai_sl_set hc (by simp [ai_sz, ai_lay_len])⟩
    · cases h
  · cases h
theorem ai_cpb_len {ws ws2 : ai_W} {a d : Nat} {i j n : Int32} (h : ai_cpb ws a i d j n = some ws2) : ws2.length = ws.length ∧ ai_sl ws2 = ai_sl ws := by
  unfold ai_cpb at h
  split at h
  · split at h
    · exact ai_bcopy_len h
    · cases h
  · cases h
theorem ai_cpx_len {k : Nat} {ws ws2 : ai_W} {d : Nat} {i j n : Int32} (h : ai_cpx k ws i d j n = some ws2) : ws2.length = ws.length ∧ ai_sl ws2 = ai_sl ws := by
  unfold ai_cpx at h
  split at h
  · split at h
    · exact ai_bcopy_len h
    · cases h
  · cases h
theorem ai_copy_len {ws ws2 : ai_W} {a d : Nat} {i j n : Int32} (h : ai_copy ws a i d j n = some ws2) : ws2.length = ws.length ∧ ai_sl ws2 = ai_sl ws := by
  unfold ai_copy at h
  split at h
  · rename_i l l2 h1 h2
    split at h
    · rename_i hc
      cases h
      exact ⟨List.length_set .., ai_sl_set h2 (by simp [ai_sz, hc.2.2.2.2])⟩
    · cases h
  · cases h
