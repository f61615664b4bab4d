/-! Every command that changes the book answers the same on both sides. -/
section GD
variable {B : kb_B}
theorem gd_r (hk : kb_ok B) {y d : Int32} (hy : ¬ y = 0) : kc_good B (B, -3, some (y, d)) := ⟨hk, Or.inl ⟨y, d, rfl, hy⟩⟩
theorem gd_1 (hk : kb_ok B) : kc_good B (B, -1, none) := ⟨hk, Or.inr (Or.inl rfl)⟩
theorem gd_2 (hk : kb_ok B) : kc_good B (B, -2, none) := ⟨hk, Or.inr (Or.inr (Or.inl rfl))⟩
theorem gd_o {B2 : kb_B} (hk : kb_ok B2) {n : Nat} (hn : n < 64) : kc_good B (B2, nI n, none) := ⟨hk, Or.inr (Or.inr (Or.inr ⟨rfl, Or.inr ⟨n, hn, rfl⟩⟩))⟩
theorem good_character (hk : kb_ok B) : kc_good B (kc_character B) := by
  have hn := hk.1
  unfold kc_character
  by_cases c : kb_n B = 8
  · rw [if_pos c]; exact gd_r hk (by decide)
  · rw [if_neg c]; exact gd_o (ok_un hk (by omega)) (by omega)
theorem good_author (hk : kb_ok B) : kc_good B (kc_author B) := by
  have hn := hk.2.1
  unfold kc_author
  by_cases c : kb_a B = 4
  · rw [if_pos c]; exact gd_r hk (by decide)
  · rw [if_neg c]; exact gd_o (ok_ua hk (by omega)) (by omega)
theorem good_turn (hk : kb_ok B) {c q n : Nat} (hc : c < kb_n B) (h1 : 1 ≤ q) (h30 : q ≤ 30) (hn : n < 64) : kc_good B (kc_turn B c q (nI n)) := by
  have h6 := hk.2.2.1 c
  unfold kc_turn
  by_cases c1 : q ≤ kb_la B c
  · rw [if_pos c1]; exact gd_r hk (by decide)
  · rw [if_neg c1]
    by_cases c2 : kb_T B c = 6
    · rw [if_pos c2]; exact gd_r hk (by decide)
    · rw [if_neg c2]; exact gd_o (ok_add hk hc (by omega) h1 h30 (by omega)) hn
theorem good_die (hk : kb_ok B) (x y : Int32) : kc_good B (kc_die B x y) := by
  have hn := hk.1
  unfold kc_die
  by_cases c1 : ai_is (kb_n B) x = true
  · obtain ⟨c, hc, rfl⟩ := ai_is_of (by omega) c1
    have h3 := kb_d3 hk c
    rw [if_pos c1, nI_clamp (show c < 2 ^ 31 by omega)]
    by_cases c2 : kb_ch y = true
    · obtain ⟨q, hq1, hq2, rfl⟩ := kb_ch_of c2
      rw [if_pos c2, nI_clamp (show q < 2 ^ 31 by omega)]
      by_cases c3 : kb_T B c % 2 = 1
      · rw [if_pos c3]; exact gd_r hk (by decide)
      · rw [if_neg c3]; exact good_turn hk hc hq1 hq2 (by omega)
    · rw [if_neg c2]; exact gd_2 hk
  · rw [if_neg c1]; exact gd_1 hk
theorem good_rise (hk : kb_ok B) (x y : Int32) : kc_good B (kc_rise B x y) := by
  have hn := hk.1
  unfold kc_rise
  by_cases c1 : ai_is (kb_n B) x = true
  · obtain ⟨c, hc, rfl⟩ := ai_is_of (by omega) c1
    rw [if_pos c1, nI_clamp (show c < 2 ^ 31 by omega)]
    by_cases c2 : kb_ch y = true
    · obtain ⟨q, hq1, hq2, rfl⟩ := kb_ch_of c2
      rw [if_pos c2, nI_clamp (show q < 2 ^ 31 by omega)]
      by_cases c3 : kb_T B c % 2 = 1
      · rw [if_pos c3]; exact good_turn hk hc hq1 hq2 (by omega)
      · rw [if_neg c3]; exact gd_r hk (by decide)
    · rw [if_neg c2]; exact gd_2 hk
  · rw [if_neg c1]; exact gd_1 hk
theorem good_strike (hk : kb_ok B) (x : Int32) : kc_good B (kc_strike B x) := by
  unfold kc_strike
  by_cases c1 : ai_is (kb_n B) x = true
  · rw [if_pos c1]
    have hl := la_le hk x.toNatClampNeg
    by_cases c2 : kb_T B x.toNatClampNeg = 0
    · rw [if_pos c2]; exact gd_r hk (by decide)
    · rw [if_neg c2]; exact gd_o (ok_tk hk c2) (by omega)
  · rw [if_neg c1]; exact gd_1 hk
theorem good_write (hk : kb_ok B) (x y : Int32) : kc_good B (kc_write B x y) := by
  have ha := hk.2.1
  unfold kc_write
  by_cases c1 : ai_is (kb_a B) y = true
  · rw [if_pos c1]
    by_cases c2 : kb_ch x = true
    · rw [if_pos c2]
      by_cases c3 : kb_W B x.toNatClampNeg = y
      · rw [if_pos c3]; exact gd_r hk (by decide)
      · rw [if_neg c3]
        obtain ⟨i, hi, rfl⟩ := ai_is_of (by omega) c1
        refine ⟨ok_W hk hi, Or.inr (Or.inr (Or.inr ⟨rfl, ?_⟩))⟩
        rcases hk.2.2.2.2.2.2.1 x.toNatClampNeg with z | ⟨j, hj, z⟩
        · exact Or.inl z
        · exact Or.inr ⟨j, by omega, z⟩
    · rw [if_neg c2]; exact gd_2 hk
  · rw [if_neg c1]; exact gd_1 hk
theorem good_swear (hk : kb_ok B) (x y : Int32) : kc_good B (kc_swear B x y) := by
  have ha := hk.2.1
  unfold kc_swear
  by_cases c1 : ai_is (kb_a B) x = true
  · rw [if_pos c1]
    by_cases c2 : y = 0 ∨ y = 1
    · rw [if_pos c2]
      by_cases c3 : nI (kb_S B x.toNatClampNeg) = y
      · rw [if_pos c3]; exact gd_r hk (by decide)
      · rw [if_neg c3]
        have hv : y.toNatClampNeg ≤ 1 := by rcases c2 with rfl | rfl <;> decide
        have ho := ok_S hk (i := x.toNatClampNeg) hv
        have hs := kb_s_le (f := kb_S (kb_setS B x.toNatClampNeg y.toNatClampNeg)) (k := 1) ho.2.2.2.2.2.2.2.1 (kb_a B)
        exact gd_o ho (by omega)
    · rw [if_neg c2]; exact gd_2 hk
  · rw [if_neg c1]; exact gd_1 hk
theorem good_motive (hk : kb_ok B) (x y z : Int32) : kc_good B (kc_motive B x y z) := by
  have hm := hk.2.2.2.2.2.2.2.2.1 x.toNatClampNeg y.toNatClampNeg
  unfold kc_motive
  by_cases c1 : ai_is (kb_n B) x = true
  · rw [if_pos c1]
    by_cases c2 : ai_is (kb_n B) y = true
    · rw [if_pos c2]
      by_cases c3 : ai_is 10 z = true
      · rw [if_pos c3]
        obtain ⟨v, hv, rfl⟩ := ai_is_of (by omega) c3
        by_cases c4 : x = y
        · rw [if_pos c4]; exact gd_r hk (by decide)
        · rw [if_neg c4]
          by_cases c5 : nI (kb_M B x.toNatClampNeg y.toNatClampNeg) = nI v
          · rw [if_pos c5]; exact gd_r hk (by decide)
          · rw [if_neg c5, nI_clamp (show v < 2 ^ 31 by omega)]; exact gd_o (ok_M hk (by omega)) (by omega)
      · rw [if_neg c3]; exact gd_2 hk
    · rw [if_neg c2]; exact gd_1 hk
  · rw [if_neg c1]; exact gd_1 hk
theorem good_seat (hk : kb_ok B) (x y : Int32) : kc_good B (kc_seat B x y) := by
  unfold kc_seat
  by_cases c1 : ai_is 7 x = true
  · rw [if_pos c1]
    by_cases c2 : ai_sev y = true
    · rw [if_pos c2]
      obtain ⟨s, hs1, hs2, rfl⟩ := ai_sev_of c2
      by_cases c3 : 0 < kb_J B x.toNatClampNeg
      · rw [if_pos c3]; exact gd_r hk (by decide)
      · rw [if_neg c3, nI_clamp (show s < 2 ^ 31 by omega)]
        have := kb_sit7 (kb_setJ B x.toNatClampNeg s)
        exact gd_o (ok_J hk hs2) (by omega)
    · rw [if_neg c2]; exact gd_2 hk
  · rw [if_neg c1]; exact gd_1 hk
theorem good_leave (hk : kb_ok B) (x : Int32) : kc_good B (kc_leave B x) := by
  unfold kc_leave
  by_cases c1 : ai_is 7 x = true
  · rw [if_pos c1]
    by_cases c3 : 0 < kb_J B x.toNatClampNeg
    · rw [if_pos c3]
      have := kb_sit7 (kb_setJ B x.toNatClampNeg 0)
      exact gd_o (ok_J hk (by omega)) (by omega)
    · rw [if_neg c3]; exact gd_r hk (by decide)
  · rw [if_neg c1]; exact gd_1 hk
theorem good_trial (hk : kb_ok B) (x y z : Int32) : kc_good B (kc_trial B x y z) := by
  have hn := hk.1
  unfold kc_trial
  by_cases c1 : kb_case B x y z = true
  · obtain ⟨c, o, d, hc, ho, hd, rfl, rfl, rfl⟩ := kb_case_of hk c1
    have h3 := kb_d3 hk o
    rw [if_pos c1, nI_clamp (show c < 2 ^ 31 by omega), nI_clamp (show o < 2 ^ 31 by omega), nI_clamp (show d < 2 ^ 31 by omega)]
    by_cases c2 : nI c = nI o
    · rw [if_pos c2]; exact gd_r hk (by decide)
    · rw [if_neg c2]
      by_cases c3 : kb_C B o d = (-4)
      · rw [if_pos c3]
        by_cases c4 : kb_could B c o d = true
        · rw [if_pos c4]
          by_cases c5 : kb_sit B = 0
          · rw [if_pos c5]; exact gd_r hk (by decide)
          · rw [if_neg c5]
            by_cases c6 : kb_sit B < 2 * kb_votes B (kb_w B c o d)
            · rw [if_pos c6]
              exact gd_o (n := 1) (ok_C (B := kb_ut B (kb_t B + 1)) (ok_ut hk _) hc (by show 2 * d < kb_T B o; unfold kb_d at hd; omega)) (by decide)
            · rw [if_neg c6]
              exact gd_o (n := 0) (ok_ut hk _) (by decide)
        · rw [if_neg c4]; exact gd_r hk (by decide)
      · rw [if_neg c3]; exact gd_r hk (by decide)
  · rw [if_neg c1]; exact gd_1 hk
end GD
