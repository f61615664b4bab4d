/-! The class and the reference hold the same: the relation, and the questions. -/
def kr_h (w : xw_W) (L : List kb_B) : Prop := L.length ≤ 8 ∧ xw_hm w = nI L.length ∧ xm_ch w = nI L.length ∧ (∃ p, p < 9 ∧ xw_hn w = nI p ∧ ∀ i B, L[i]? = some B → kb_x (xw_hi w ((p + 8 - i) % 9)) B) ∧ (∀ i B, L[i]? = some B → kb_ok B ∧ kb_m (fun j => xm_past w (189 * (L.length - 1 - i) + j)) B)
def kr_s (w : xw_W) (S : Option kb_B) : Prop := match S with
  | none => xw_hs w = 0 ∧ xm_is w = 0
  | some B => xw_hs w = 1 ∧ xm_is w = 1 ∧ kb_ok B ∧ kb_x (xw_sn w) B ∧ kb_m (xm_saved w) B
def kr_r (w : xw_W) : Prop := (xm_re w = 0 ∧ xw_rr w = (-4) ∧ xw_rd w = (-4) ∧ xw_rc w = (-4)) ∨ (¬ xm_re w = 0 ∧ xw_rr w = xm_re w ∧ xw_rd w = xm_de w ∧ xw_rc w = xm_at w)
def kr_t (w : xw_W) : Prop := ∃ n, n ≤ 70 ∧ xw_tl w = nI n ∧ xm_td w = nI n ∧ ∀ j, j < n → xw_co w j = xm_tape w j ∧ ∃ c, 32 ≤ c ∧ c ≤ 126 ∧ xm_tape w j = nI c
def kr_l (w : xw_W) : Prop := ∃ n, n ≤ 40 ∧ xw_ll w = nI n ∧ xm_ll w = nI n ∧ ∀ j, j < n → xw_li w j = xm_line w j
def kr_o (w : xw_W) : Prop := kr_r w ∧ kr_t w ∧ kr_l w
def kr (w : xw_W) : Prop := ∃ B L S, kb_ok B ∧ kb_x (xw_b w) B ∧ kb_m (xm_s w) B ∧ kr_h w L ∧ kr_s w S ∧ kr_o w
/-- both answer the same, and hold the same after it -/
def ks (yc ym : Nat) (args : List Value) : Prop := ∀ w, kr w → ∃ a w1 w2, ai_Call yc (.ref 0 :: args) (wl w) = some (some (.int a), wl w1) ∧ ai_Call ym (.ref 185 :: args) (wl w1) = some (some (.int a), wl w2) ∧ kr w2
theorem ks_q {yc ym : Nat} {args : List Value} (q : kb_B → Int32) (h1 : ∀ w B, kb_x (xw_b w) B → kb_ok B → ai_Call yc (.ref 0 :: args) (wl w) = some (some (.int (q B)), wl w)) (h2 : ∀ w B, kb_m (xm_s w) B → kb_ok B → ai_Call ym (.ref 185 :: args) (wl w) = some (some (.int (q B)), wl w)) : ks yc ym args := by
  intro w hw
  have hw2 := hw
  obtain ⟨B, L, S, hk, hx, hm, _⟩ := hw2
  exact ⟨q B, w, w, h1 w B hx hk, h2 w B hm hk, hw⟩
theorem ks_characterOf (x k : Int32) : ks 98 204 [.int x, .int k] := ks_q (kb_q11 · x k) (fun _ _ h hk => s_characterOf h hk x k) (fun _ _ h hk => m_characterOf h hk x k)
theorem ks_deathOf (x d k : Int32) : ks 108 212 [.int x, .int d, .int k] := ks_q (kb_q12 · x d k) (fun _ _ h hk => s_deathOf h hk x d k) (fun _ _ h hk => m_deathOf h hk x d k)
theorem ks_authorOf (x k : Int32) : ks 57 193 [.int x, .int k] := ks_q (kb_q13 · x k) (fun _ _ h hk => s_authorOf h hk x k) (fun _ _ h hk => m_authorOf h hk x k)
theorem ks_pages (x k : Int32) : ks 119 247 [.int x, .int k] := ks_q (kb_q14 · x k) (fun _ _ h hk => s_pages h hk x k) (fun _ _ h hk => m_pages h hk x k)
theorem ks_dead (x : Int32) : ks 103 209 [.int x] := ks_q (kb_q15 · x) (fun _ _ h hk => s_dead h hk x) (fun _ _ h hk => m_dead h hk x)
theorem ks_deadAgain (x : Int32) : ks 106 210 [.int x] := ks_q (kb_q15 · x) (fun _ _ h hk => s_deadAgain h hk x) (fun _ _ h hk => m_deadAgain h hk x)
theorem ks_darkest (x : Int32) : ks 102 206 [.int x] := ks_q (kb_q17 · x) (fun _ _ h hk => s_darkest h hk x) (fun _ _ h hk => m_darkest h hk x)
theorem ks_suspect (x y : Int32) : ks 150 260 [.int x, .int y] := ks_q (kb_q18 · x y) (fun _ _ h hk => s_suspect h hk x y) (fun _ _ h hk => m_suspect h hk x y)
theorem ks_suspectAgain (x y : Int32) : ks 151 261 [.int x, .int y] := ks_q (kb_q18 · x y) (fun _ _ h hk => s_suspectAgain h hk x y) (fun _ _ h hk => m_suspectAgain h hk x y)
theorem ks_guilty (x y z : Int32) : ks 110 231 [.int x, .int y, .int z] := ks_q (kb_q20 · x y z) (fun _ _ h hk => s_guilty h hk x y z) (fun _ _ h hk => m_guilty h hk x y z)
theorem ks_would (u v x y z : Int32) : ks 162 268 [.int u, .int v, .int x, .int y, .int z] := ks_q (kb_q21 · u v x y z) (fun _ _ h hk => s_would h hk u v x y z) (fun _ _ h hk => m_would h hk u v x y z)
theorem ks_isWell : ks 116 241 [] := ks_q (fun _ => 1) (fun _ _ h hk => s_isWell h hk) (fun _ _ h hk => m_isWell h hk)
theorem ks_share : ks 146 257 [] := ks_q kb_q24 (fun _ _ h hk => s_share h hk) (fun _ _ h hk => m_share h hk)
theorem ks_ranked (x y : Int32) : ks 123 248 [.int x, .int y] := by
  intro w hw
  obtain ⟨B, L, S, hk, hx, hm, hr⟩ := hw
  obtain ⟨f, hf⟩ := s_ranked hx hk x y
  exact ⟨_, xw_wky w f, xw_wky w f, hf, m_ranked (w := xw_wky w f) hm hk x y, B, L, S, hk, hx, hm, hr⟩
theorem ks_account (x : Int32) : ks 28 176 [.int x] := by
  intro w hw
  have hw2 := hw
  obtain ⟨B, L, S, hk, hx, hm, hh, hs, hr, ⟨n, hn, h1, h2, h3⟩, hl⟩ := hw2
  have e1 := s_account hx hk x
  have e2 := m_account hm hk x
  rw [h1, hh.2.1] at e1
  rw [h2, hh.2.2.1] at e2
  exact ⟨_, w, w, e1, e2, hw⟩
theorem in3_02 (x : Int32) : ai_in3 x 0 2 = decide (x = 0 ∨ x = 1 ∨ x = 2) := by
  rw [show (2 : Int32) = nI 3 - 1 by decide, ai_in3_is (by decide)]
  unfold ai_is
  rw [decide_eq_decide]
  constructor
  · intro z
    obtain ⟨j, hj, rfl⟩ := nI_of z.1
    have := (nI_ltI hj (by decide)).mp z.2
    rcases (show j = 0 ∨ j = 1 ∨ j = 2 by omega) with rfl | rfl | rfl
    · exact Or.inl rfl
    · exact Or.inr (Or.inl rfl)
    · exact Or.inr (Or.inr (by decide))
  · rintro (rfl | rfl | rfl) <;> decide
theorem ks_refusal (x : Int32) : ks 139 250 [.int x] := by
  intro w hw
  have hw2 := hw
  obtain ⟨B, L, S, hk, hx, hm, hh, hs, hr, ht, hl⟩ := hw2
  have e1 := s_refusal (w := w) x
  have e2 := m_refusal (w := w) x
  refine ⟨_, w, w, e1, ?_, hw⟩
  rw [e2, in3_02]
  have e : (if decide (x = 0 ∨ x = 1 ∨ x = 2) = true then (if xm_re w = 0 then (-4) else if x = 0 then xm_re w else if x = 1 then xm_de w else xm_at w) else (-2)) = (if x = 0 then xw_rr w else if x = 1 then xw_rd w else if x = 2 then xw_rc w else (-2)) := by
    rcases hr with ⟨h1, h2, h3, h4⟩ | ⟨h1, h2, h3, h4⟩
    · rw [if_pos h1, h2, h3, h4]
      by_cases z0 : x = 0
      · rw [if_pos z0, if_pos (decide_eq_true (Or.inl z0))]
      · by_cases z1 : x = 1
        · rw [if_neg z0, if_pos z1, if_pos (decide_eq_true (Or.inr (Or.inl z1)))]
        · by_cases z2 : x = 2
          · rw [if_neg z0, if_neg z1, if_pos z2, if_pos (decide_eq_true (Or.inr (Or.inr z2)))]
          · rw [if_neg z0, if_neg z1, if_neg z2, if_neg (by simp [z0, z1, z2])]
    · rw [if_neg h1, h2, h3, h4]
      by_cases z0 : x = 0
      · rw [if_pos (decide_eq_true (Or.inl z0)), if_pos z0, if_pos z0]
      · by_cases z1 : x = 1
        · rw [if_pos (decide_eq_true (Or.inr (Or.inl z1))), if_neg z0, if_neg z0, if_pos z1, if_pos z1]
        · by_cases z2 : x = 2
          · rw [if_pos (decide_eq_true (Or.inr (Or.inr z2))), if_neg z0, if_neg z0, if_neg z1, if_neg z1, if_pos z2]
          · rw [if_neg (by simp [z0, z1, z2]), if_neg z0, if_neg z1, if_neg z2]
  rw [e]
