/-! The reference's changes of its row. -/
def km_w (w : xw_W) (s : Nat → Int32) (r : Option (Int32 × Int32)) : xw_W := match r with
  | none => xm_ws w s
  | some r => xm_wat (xm_wde (xm_wre (xm_ws w s) r.1) r.2) (-4)
def km_is (w : xw_W) (o : kc_O) (a : Option (Option Value × ai_W)) : Prop := ∃ s, kb_m s o.1 ∧ a = some (some (.int o.2.1), wl (km_w w s o.2.2))
theorem m_ref_t (w : xw_W) (y d : Int32) : ai_Call 183 [.ref 185, .int 1, .int y, .int d] (wl w) = some (some (.int 1), wl (km_w w (xm_s w) (some (y, d)))) := by
  simp only [e_183, o_185, r_183_0, r_183_1, r_183_4, r_183_5, r_183_6, r_183_9, r_183_10, r_183_11, r_183_14, r_183_15, r_183_17, r_183_20, r_183_21, Option.bind_some, Option.bind_none, Option.toList_some, Option.toList_none, List.cons_append, List.nil_append, Option.map_some, Option.map_none, eq_self, if_true, if_false, reduceIte, ai_bi_eq0, ai_bi_eq1, ai_pb_bi, ai_pb_0, ai_pb_1, show ¬ (1 : Int32) = 0 by decide, p_185_5, p_185_6, p_185_7]
  rfl
theorem m_ref_f (w : xw_W) (y d : Int32) : ai_Call 183 [.ref 185, .int 0, .int y, .int d] (wl w) = some (some (.int 0), wl w) := by
  simp only [e_183, o_185, r_183_0, r_183_1, r_183_4, r_183_5, r_183_6, r_183_9, r_183_10, r_183_11, r_183_14, r_183_15, r_183_17, r_183_20, r_183_21, Option.bind_some, Option.bind_none, Option.toList_some, Option.toList_none, List.cons_append, List.nil_append, Option.map_some, Option.map_none, eq_self, if_true, if_false, reduceIte, ai_bi_eq0, ai_bi_eq1, ai_pb_bi, ai_pb_0, ai_pb_1]
theorem m_ref_bt (w : xw_W) (y d : Int32) : ai_Call 183 [.ref 185, .int (ai_bi true), .int y, .int d] (wl w) = some (some (.int 1), wl (km_w w (xm_s w) (some (y, d)))) := m_ref_t w y d
theorem m_ref_bf (w : xw_W) (y d : Int32) : ai_Call 183 [.ref 185, .int (ai_bi false), .int y, .int d] (wl w) = some (some (.int 0), wl w) := m_ref_f w y d
theorem m_sets (w : xw_W) {c k : Nat} (hc : c < 8) (hk : k < 10) (v : Int32) : ai_Call 177 [.ref 185, .int (nI c), .int (nI k), .int v] (wl w) = some (none, wl (xm_ws w (upd (xm_s w) (109 + c * 10 + k) v))) := by
  simp only [e_177, o_185, r_177_0, r_177_1, r_177_4, r_177_6, r_177_8, r_177_9, r_177_10, r_177_11, r_177_12, r_177_13, r_177_14, r_177_15, Option.bind_some, Option.bind_none, Option.toList_some, Option.toList_none, List.cons_append, List.nil_append, Option.map_some, Option.map_none, eq_self, if_true, if_false, reduceIte, ai_bi_eq0, ai_bi_eq1, ai_pb_bi, ai_pb_0, ai_pb_1, f_185_0, t_10, a_109, nI_add, ms w (show 109 + 10 * c + k < 189 by omega)]
  rw [Nat.mul_comm]
section MB
variable {w : xw_W} {B : kb_B}
theorem km_add {s : Nat → Int32} (h : kb_m s B) (hk : kb_ok B) {c q : Nat} (hc : c < 8) (h6 : kb_T B c < 6) : kb_m (upd (upd s (109 + c * 10 + (1 + kb_T B c)) (nI q)) (109 + c * 10 + 0) (nI (kb_T B c + 1))) (kb_add B c q) := by
  have u : ∀ j, j ≠ 109 + c * 10 + (1 + kb_T B c) → j ≠ 109 + c * 10 + 0 → upd (upd s (109 + c * 10 + (1 + kb_T B c)) (nI q)) (109 + c * 10 + 0) (nI (kb_T B c + 1)) j = s j := fun j h1 h2 => by rw [upd_ne _ h2, upd_ne _ h1]
  refine ⟨?_, ?_, ?_, ?_, ?_, ?_, ?_, ?_, ?_, ?_⟩
  · rw [u _ (by omega) (by omega)]; exact h.1
  · rw [u _ (by omega) (by omega)]; exact h.2.1
  · rw [u _ (by omega) (by omega)]; exact h.2.2.1
  · intro i hi
    show _ = nI (up (kb_T B) c (kb_T B c + 1) i)
    by_cases z : i = c
    · subst z
      rw [up_at]
      exact upd_at _ _ _
    · rw [up_ne _ z, u _ (by omega) (by omega)]; exact h.2.2.2.1 i hi
  · intro i k hi hik
    have hik : k < up (kb_T B) c (kb_T B c + 1) i := hik
    show _ = nI (up (kb_E B) c (up (kb_E B c) (kb_T B c) q) i k)
    by_cases z : i = c
    · subst z
      rw [up_at] at hik
      rw [up_at]
      by_cases y : k = kb_T B i
      · rw [y, up_at, upd_ne _ (by omega), upd_at]
      · rw [up_ne _ y, u _ (by omega) (by omega)]; exact h.2.2.2.2.1 i k hi (by omega)
    · rw [up_ne _ z] at hik
      have := hk.2.2.1 i
      rw [up_ne _ z, u _ (by omega) (by omega)]
      exact h.2.2.2.2.1 i k hi hik
  · intro i d hi hd
    have hn := hk.1
    have hi : i < kb_n B := hi
    rw [u _ (by omega) (by omega)]; exact h.2.2.2.2.2.1 i d hi hd
  · intro i hi; rw [u _ (by omega) (by omega)]; exact h.2.2.2.2.2.2.1 i hi
  · intro i hi; rw [u _ (by omega) (by omega)]; exact h.2.2.2.2.2.2.2.1 i hi
  · intro i o hi ho; rw [u _ (by omega) (by omega)]; exact h.2.2.2.2.2.2.2.2.1 i o hi ho
  · intro i hi; rw [u _ (by omega) (by omega)]; exact h.2.2.2.2.2.2.2.2.2 i hi
theorem km_C {s : Nat → Int32} (h : kb_m s B) (hk : kb_ok B) {c d : Nat} (hc : c < 8) (hd : d < 3) (v : Int32) : kb_m (upd s (109 + c * 10 + (7 + d)) v) (kb_setC B c d v) := by
  have u : ∀ j, j ≠ 109 + c * 10 + (7 + d) → upd s (109 + c * 10 + (7 + d)) v j = s j := fun j h1 => upd_ne _ h1 _
  refine ⟨?_, ?_, ?_, ?_, ?_, ?_, ?_, ?_, ?_, ?_⟩
  · rw [u _ (by omega)]; exact h.1
  · rw [u _ (by omega)]; exact h.2.1
  · rw [u _ (by omega)]; exact h.2.2.1
  · intro i hi; rw [u _ (by omega)]; exact h.2.2.2.1 i hi
  · intro i k hi hik
    have hik : k < kb_T B i := hik
    have := hk.2.2.1 i
    rw [u _ (by omega)]; exact h.2.2.2.2.1 i k hi hik
  · intro i k hi hik
    have hi : i < kb_n B := hi
    show _ = up (kb_C B) c (up (kb_C B c) d v) i k
    by_cases z : i = c
    · subst z
      rw [up_at]
      by_cases y : k = d
      · rw [y, up_at, upd_at]
      · rw [up_ne _ y, u _ (by omega)]; exact h.2.2.2.2.2.1 i k hi hik
    · rw [up_ne _ z, u _ (by omega)]
      exact h.2.2.2.2.2.1 i k hi hik
  · intro i hi; rw [u _ (by omega)]; exact h.2.2.2.2.2.2.1 i hi
  · intro i hi; rw [u _ (by omega)]; exact h.2.2.2.2.2.2.2.1 i hi
  · intro i o hi ho; rw [u _ (by omega)]; exact h.2.2.2.2.2.2.2.2.1 i o hi ho
  · intro i hi; rw [u _ (by omega)]; exact h.2.2.2.2.2.2.2.2.2 i hi
theorem km_T {s : Nat → Int32} (h : kb_m s B) (hk : kb_ok B) {c v : Nat} (hc : c < 8) (hv : kb_T B c = v + 1) (x : Int32) : kb_m (upd (upd s (109 + c * 10 + (1 + v)) x) (109 + c * 10 + 0) (nI v)) (kb_setT B c v) := by
  have h6 := hk.2.2.1 c
  have u : ∀ j, j ≠ 109 + c * 10 + (1 + v) → j ≠ 109 + c * 10 + 0 → upd (upd s (109 + c * 10 + (1 + v)) x) (109 + c * 10 + 0) (nI v) j = s j := fun j h1 h2 => by rw [upd_ne _ h2, upd_ne _ h1]
  refine ⟨?_, ?_, ?_, ?_, ?_, ?_, ?_, ?_, ?_, ?_⟩
  · rw [u _ (by omega) (by omega)]; exact h.1
  · rw [u _ (by omega) (by omega)]; exact h.2.1
  · rw [u _ (by omega) (by omega)]; exact h.2.2.1
  · intro i hi
    show _ = nI (up (kb_T B) c v i)
    by_cases z : i = c
    · subst z
      rw [up_at]
      exact upd_at _ _ _
    · rw [up_ne _ z, u _ (by omega) (by omega)]; exact h.2.2.2.1 i hi
  · intro i k hi hik
    have hik : k < up (kb_T B) c v i := hik
    have := hk.2.2.1 i
    by_cases z : i = c
    · subst z
      rw [up_at] at hik
      rw [u _ (by omega) (by omega)]; exact h.2.2.2.2.1 i k hi (by omega)
    · rw [up_ne _ z] at hik
      rw [u _ (by omega) (by omega)]
      exact h.2.2.2.2.1 i k hi hik
  · intro i d hi hd
    have hi : i < kb_n B := hi
    have hn := hk.1
    rw [u _ (by omega) (by omega)]; exact h.2.2.2.2.2.1 i d hi hd
  · intro i hi; rw [u _ (by omega) (by omega)]; exact h.2.2.2.2.2.2.1 i hi
  · intro i hi; rw [u _ (by omega) (by omega)]; exact h.2.2.2.2.2.2.2.1 i hi
  · intro i o hi ho; rw [u _ (by omega) (by omega)]; exact h.2.2.2.2.2.2.2.2.1 i o hi ho
  · intro i hi; rw [u _ (by omega) (by omega)]; exact h.2.2.2.2.2.2.2.2.2 i hi
theorem km_T' {s : Nat → Int32} (h : kb_m s B) (h66 : ∀ i, kb_T B i ≤ 6) (hn8 : kb_n B ≤ 8) {c v : Nat} (hc : c < 8) (hv : kb_T B c = v + 1) (x : Int32) : kb_m (upd (upd s (109 + c * 10 + (1 + v)) x) (109 + c * 10 + 0) (nI v)) (kb_setT B c v) := by
  have h6 := h66 c
  have u : ∀ j, j ≠ 109 + c * 10 + (1 + v) → j ≠ 109 + c * 10 + 0 → upd (upd s (109 + c * 10 + (1 + v)) x) (109 + c * 10 + 0) (nI v) j = s j := fun j h1 h2 => by rw [upd_ne _ h2, upd_ne _ h1]
  refine ⟨?_, ?_, ?_, ?_, ?_, ?_, ?_, ?_, ?_, ?_⟩
  · rw [u _ (by omega) (by omega)]; exact h.1
  · rw [u _ (by omega) (by omega)]; exact h.2.1
  · rw [u _ (by omega) (by omega)]; exact h.2.2.1
  · intro i hi
    show _ = nI (up (kb_T B) c v i)
    by_cases z : i = c
    · subst z
      rw [up_at]
      exact upd_at _ _ _
    · rw [up_ne _ z, u _ (by omega) (by omega)]; exact h.2.2.2.1 i hi
  · intro i k hi hik
    have hik : k < up (kb_T B) c v i := hik
    have := h66 i
    by_cases z : i = c
    · subst z
      rw [up_at] at hik
      rw [u _ (by omega) (by omega)]; exact h.2.2.2.2.1 i k hi (by omega)
    · rw [up_ne _ z] at hik
      rw [u _ (by omega) (by omega)]
      exact h.2.2.2.2.1 i k hi hik
  · intro i d hi hd
    have hi : i < kb_n B := hi
    have hn := hn8
    rw [u _ (by omega) (by omega)]; exact h.2.2.2.2.2.1 i d hi hd
  · intro i hi; rw [u _ (by omega) (by omega)]; exact h.2.2.2.2.2.2.1 i hi
  · intro i hi; rw [u _ (by omega) (by omega)]; exact h.2.2.2.2.2.2.2.1 i hi
  · intro i o hi ho; rw [u _ (by omega) (by omega)]; exact h.2.2.2.2.2.2.2.2.1 i o hi ho
  · intro i hi; rw [u _ (by omega) (by omega)]; exact h.2.2.2.2.2.2.2.2.2 i hi
theorem km_t {s : Nat → Int32} (h : kb_m s B) (v : Int32) : kb_m (upd s 2 v) (kb_ut B v) := by
  have u : ∀ j, j ≠ 2 → upd s 2 v j = s j := fun j h1 => upd_ne _ h1 _
  refine ⟨?_, ?_, upd_at _ _ _, ?_, ?_, ?_, ?_, ?_, ?_, ?_⟩
  · rw [u _ (by omega)]; exact h.1
  · rw [u _ (by omega)]; exact h.2.1
  · intro i hi; rw [u _ (by omega)]; exact h.2.2.2.1 i hi
  · intro i k hi hik; rw [u _ (by omega)]; exact h.2.2.2.2.1 i k hi hik
  · intro i k hi hik; rw [u _ (by omega)]; exact h.2.2.2.2.2.1 i k hi hik
  · intro i hi; rw [u _ (by omega)]; exact h.2.2.2.2.2.2.1 i hi
  · intro i hi; rw [u _ (by omega)]; exact h.2.2.2.2.2.2.2.1 i hi
  · intro i o hi ho; rw [u _ (by omega)]; exact h.2.2.2.2.2.2.2.2.1 i o hi ho
  · intro i hi; rw [u _ (by omega)]; exact h.2.2.2.2.2.2.2.2.2 i hi
theorem km_a {s : Nat → Int32} (h : kb_m s B) (v : Nat) : kb_m (upd s 1 (nI v)) (kb_ua B v) := by
  have u : ∀ j, j ≠ 1 → upd s 1 (nI v) j = s j := fun j h1 => upd_ne _ h1 _
  refine ⟨?_, upd_at _ _ _, ?_, ?_, ?_, ?_, ?_, ?_, ?_, ?_⟩
  · rw [u _ (by omega)]; exact h.1
  · rw [u _ (by omega)]; exact h.2.2.1
  · intro i hi; rw [u _ (by omega)]; exact h.2.2.2.1 i hi
  · intro i k hi hik; rw [u _ (by omega)]; exact h.2.2.2.2.1 i k hi hik
  · intro i k hi hik; rw [u _ (by omega)]; exact h.2.2.2.2.2.1 i k hi hik
  · intro i hi; rw [u _ (by omega)]; exact h.2.2.2.2.2.2.1 i hi
  · intro i hi; rw [u _ (by omega)]; exact h.2.2.2.2.2.2.2.1 i hi
  · intro i o hi ho; rw [u _ (by omega)]; exact h.2.2.2.2.2.2.2.2.1 i o hi ho
  · intro i hi; rw [u _ (by omega)]; exact h.2.2.2.2.2.2.2.2.2 i hi
theorem km_W {s : Nat → Int32} (h : kb_m s B) (hk : kb_ok B) {q : Nat} (hq : q ≤ 30) (v : Int32) : kb_m (upd s (3 + q) v) (kb_setW B q v) := by
  have u : ∀ j, j ≠ 3 + q → upd s (3 + q) v j = s j := fun j h1 => upd_ne _ h1 _
  refine ⟨?_, ?_, ?_, ?_, ?_, ?_, ?_, ?_, ?_, ?_⟩
  · rw [u _ (by omega)]; exact h.1
  · rw [u _ (by omega)]; exact h.2.1
  · rw [u _ (by omega)]; exact h.2.2.1
  · intro i hi; rw [u _ (by omega)]; exact h.2.2.2.1 i hi
  · intro i k hi hik; rw [u _ (by omega)]; exact h.2.2.2.2.1 i k hi hik
  · intro i k hi hik; rw [u _ (by omega)]; exact h.2.2.2.2.2.1 i k hi hik
  · intro i hi
    show _ = up (kb_W B) q v i
    by_cases z : i = q
    · rw [z, up_at]; exact upd_at _ _ _
    · rw [up_ne _ z, u _ (by omega)]; exact h.2.2.2.2.2.2.1 i hi
  · intro i hi; rw [u _ (by omega)]; exact h.2.2.2.2.2.2.2.1 i hi
  · intro i o hi ho; rw [u _ (by omega)]; exact h.2.2.2.2.2.2.2.2.1 i o hi ho
  · intro i hi; rw [u _ (by omega)]; exact h.2.2.2.2.2.2.2.2.2 i hi
theorem km_S {s : Nat → Int32} (h : kb_m s B) {q : Nat} (hq : q < 4) (v : Nat) : kb_m (upd s (34 + q) (nI v)) (kb_setS B q v) := by
  have u : ∀ j, j ≠ 34 + q → upd s (34 + q) (nI v) j = s j := fun j h1 => upd_ne _ h1 _
  refine ⟨?_, ?_, ?_, ?_, ?_, ?_, ?_, ?_, ?_, ?_⟩
  · rw [u _ (by omega)]; exact h.1
  · rw [u _ (by omega)]; exact h.2.1
  · rw [u _ (by omega)]; exact h.2.2.1
  · intro i hi; rw [u _ (by omega)]; exact h.2.2.2.1 i hi
  · intro i k hi hik; rw [u _ (by omega)]; exact h.2.2.2.2.1 i k hi hik
  · intro i k hi hik; rw [u _ (by omega)]; exact h.2.2.2.2.2.1 i k hi hik
  · intro i hi; rw [u _ (by omega)]; exact h.2.2.2.2.2.2.1 i hi
  · intro i hi
    show _ = nI (up (kb_S B) q v i)
    by_cases z : i = q
    · rw [z, up_at]; exact upd_at _ _ _
    · rw [up_ne _ z, u _ (by omega)]; exact h.2.2.2.2.2.2.2.1 i hi
  · intro i o hi ho; rw [u _ (by omega)]; exact h.2.2.2.2.2.2.2.2.1 i o hi ho
  · intro i hi; rw [u _ (by omega)]; exact h.2.2.2.2.2.2.2.2.2 i hi
theorem km_M {s : Nat → Int32} (h : kb_m s B) {c o : Nat} (hc : c < 8) (ho : o < 8) (v : Nat) : kb_m (upd s (45 + (c * 8 + o)) (nI v)) (kb_setM B c o v) := by
  have u : ∀ j, j ≠ 45 + (c * 8 + o) → upd s (45 + (c * 8 + o)) (nI v) j = s j := fun j h1 => upd_ne _ h1 _
  refine ⟨?_, ?_, ?_, ?_, ?_, ?_, ?_, ?_, ?_, ?_⟩
  · rw [u _ (by omega)]; exact h.1
  · rw [u _ (by omega)]; exact h.2.1
  · rw [u _ (by omega)]; exact h.2.2.1
  · intro i hi; rw [u _ (by omega)]; exact h.2.2.2.1 i hi
  · intro i k hi hik; rw [u _ (by omega)]; exact h.2.2.2.2.1 i k hi hik
  · intro i k hi hik; rw [u _ (by omega)]; exact h.2.2.2.2.2.1 i k hi hik
  · intro i hi; rw [u _ (by omega)]; exact h.2.2.2.2.2.2.1 i hi
  · intro i hi; rw [u _ (by omega)]; exact h.2.2.2.2.2.2.2.1 i hi
  · intro i k hi hik
    show _ = nI (up (kb_M B) c (up (kb_M B c) o v) i k)
    by_cases z : i = c
    · subst z
      rw [up_at]
      by_cases y : k = o
      · rw [y, up_at, upd_at]
      · rw [up_ne _ y, u _ (by omega)]; exact h.2.2.2.2.2.2.2.2.1 i k hi hik
    · rw [up_ne _ z, u _ (by omega)]
      exact h.2.2.2.2.2.2.2.2.1 i k hi hik
  · intro i hi; rw [u _ (by omega)]; exact h.2.2.2.2.2.2.2.2.2 i hi
theorem km_n {s : Nat → Int32} (h : kb_m s B) (hk : kb_ok B) (h8 : kb_n B < 8) : kb_m (upd (upd (upd (upd s (109 + kb_n B * 10 + (7 + 0)) (-4)) (109 + kb_n B * 10 + (7 + 1)) (-4)) (109 + kb_n B * 10 + (7 + 2)) (-4)) 0 (nI (kb_n B + 1))) (kb_un B (kb_n B + 1)) := by
  have u : ∀ j, j ≠ 0 → (j < 116 + kb_n B * 10 ∨ 118 + kb_n B * 10 < j) → upd (upd (upd (upd s (109 + kb_n B * 10 + (7 + 0)) (-4)) (109 + kb_n B * 10 + (7 + 1)) (-4)) (109 + kb_n B * 10 + (7 + 2)) (-4)) 0 (nI (kb_n B + 1)) j = s j := fun j h1 h2 => by rw [upd_ne _ h1, upd_ne _ (by omega), upd_ne _ (by omega), upd_ne _ (by omega)]
  refine ⟨upd_at _ _ _, ?_, ?_, ?_, ?_, ?_, ?_, ?_, ?_, ?_⟩
  · rw [u _ (by omega) (by omega)]; exact h.2.1
  · rw [u _ (by omega) (by omega)]; exact h.2.2.1
  · intro i hi; rw [u _ (by omega) (by omega)]; exact h.2.2.2.1 i hi
  · intro i k hi hik
    have hik : k < kb_T B i := hik
    have := hk.2.2.1 i
    rw [u _ (by omega) (by omega)]; exact h.2.2.2.2.1 i k hi hik
  · intro i k hi hik
    have hi : i < kb_n B + 1 := hi
    show _ = kb_C B i k
    by_cases z : i = kb_n B
    · have hT := hk.2.2.2.1 i (by omega)
      rw [hk.2.2.2.2.2.2.2.2.2.2.2 i k (by omega)]
      subst z
      rw [upd_ne _ (by omega)]
      rcases (show k = 0 ∨ k = 1 ∨ k = 2 by omega) with rfl | rfl | rfl
      · rw [upd_ne _ (by omega), upd_ne _ (by omega), upd_at]
      · rw [upd_ne _ (by omega), upd_at]
      · rw [upd_at]
    · rw [u _ (by omega) (by omega)]
      exact h.2.2.2.2.2.1 i k (by omega) hik
  · intro i hi; rw [u _ (by omega) (by omega)]; exact h.2.2.2.2.2.2.1 i hi
  · intro i hi; rw [u _ (by omega) (by omega)]; exact h.2.2.2.2.2.2.2.1 i hi
  · intro i o hi ho; rw [u _ (by omega) (by omega)]; exact h.2.2.2.2.2.2.2.2.1 i o hi ho
  · intro i hi; rw [u _ (by omega) (by omega)]; exact h.2.2.2.2.2.2.2.2.2 i hi
end MB
