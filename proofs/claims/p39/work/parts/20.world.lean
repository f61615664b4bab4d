/-! THE WORLD: the cells of the object of the class (places 0 to 184), by what they hold. Printed by gen3.py. -/
def ai_t (n : Nat) (f : Nat → Int32) : List Int32 := (List.range n).map f
theorem ai_t_len {n : Nat} {f : Nat → Int32} : (ai_t n f).length = n := by simp [ai_t]
theorem ai_t_get {n j : Nat} {f : Nat → Int32} (h : j < n) : (ai_t n f).getD j 0 = f j := by simp [ai_t, List.getD_eq_getElem?_getD, List.getElem?_range h]
theorem ai_t_get0 {n j : Nat} {f : Nat → Int32} (h : n ≤ j) : (ai_t n f).getD j 0 = 0 := by
  rw [List.getD_eq_getElem?_getD, List.getElem?_eq_none (by rw [ai_t_len]; exact h)]
  rfl
theorem ai_t_set {n j : Nat} {f : Nat → Int32} {v : Int32} : (ai_t n f).set j v = ai_t n (upd f j v) := by
  refine List.ext_getElem? fun i => ?_
  simp only [ai_t, List.getElem?_set, List.getElem?_map, List.length_map, List.length_range]
  by_cases hi : i < n
  · rw [List.getElem?_range hi]
    by_cases hj : j = i
    · subst hj
      simp [hi, upd]
    · simp [hj, upd, Ne.symm hj]
  · rw [List.getElem?_eq_none (by simp; omega)]
    by_cases hj : j = i
    · subst hj
      simp [hi]
    · simp [hj]
theorem ai_t_congr {n : Nat} {f g : Nat → Int32} (h : ∀ j, j < n → f j = g j) : ai_t n f = ai_t n g := by
  unfold ai_t
  exact List.map_congr_left (fun j hj => h j (List.mem_range.mp hj))
abbrev xb_B : Type := (Int32 × Int32 × Int32) × (Nat → Int32) × (Nat → Int32) × (Nat → Int32) × (Nat → Int32) × (Nat → Int32) × (Nat → Int32) × (Nat → Int32)
abbrev xb_n (b : xb_B) : Int32 := b.1.1
abbrev xb_a (b : xb_B) : Int32 := b.1.2.1
abbrev xb_t (b : xb_B) : Int32 := b.1.2.2
abbrev xb_tu (b : xb_B) : Nat → Int32 := b.2.1
abbrev xb_ch (b : xb_B) : Nat → Int32 := b.2.2.1
abbrev xb_cu (b : xb_B) : Nat → Int32 := b.2.2.2.1
abbrev xb_wr (b : xb_B) : Nat → Int32 := b.2.2.2.2.1
abbrev xb_sw (b : xb_B) : Nat → Int32 := b.2.2.2.2.2.1
abbrev xb_mo (b : xb_B) : Nat → Int32 := b.2.2.2.2.2.2.1
abbrev xb_se (b : xb_B) : Nat → Int32 := b.2.2.2.2.2.2.2
abbrev xb_wn (b : xb_B) (v : Int32) : xb_B := ((v, xb_a b, xb_t b), xb_tu b, xb_ch b, xb_cu b, xb_wr b, xb_sw b, xb_mo b, xb_se b)
abbrev xb_wa (b : xb_B) (v : Int32) : xb_B := ((xb_n b, v, xb_t b), xb_tu b, xb_ch b, xb_cu b, xb_wr b, xb_sw b, xb_mo b, xb_se b)
abbrev xb_wt (b : xb_B) (v : Int32) : xb_B := ((xb_n b, xb_a b, v), xb_tu b, xb_ch b, xb_cu b, xb_wr b, xb_sw b, xb_mo b, xb_se b)
abbrev xb_wtu (b : xb_B) (v : Nat → Int32) : xb_B := ((xb_n b, xb_a b, xb_t b), v, xb_ch b, xb_cu b, xb_wr b, xb_sw b, xb_mo b, xb_se b)
abbrev xb_wch (b : xb_B) (v : Nat → Int32) : xb_B := ((xb_n b, xb_a b, xb_t b), xb_tu b, v, xb_cu b, xb_wr b, xb_sw b, xb_mo b, xb_se b)
abbrev xb_wcu (b : xb_B) (v : Nat → Int32) : xb_B := ((xb_n b, xb_a b, xb_t b), xb_tu b, xb_ch b, v, xb_wr b, xb_sw b, xb_mo b, xb_se b)
abbrev xb_wwr (b : xb_B) (v : Nat → Int32) : xb_B := ((xb_n b, xb_a b, xb_t b), xb_tu b, xb_ch b, xb_cu b, v, xb_sw b, xb_mo b, xb_se b)
abbrev xb_wsw (b : xb_B) (v : Nat → Int32) : xb_B := ((xb_n b, xb_a b, xb_t b), xb_tu b, xb_ch b, xb_cu b, xb_wr b, v, xb_mo b, xb_se b)
abbrev xb_wmo (b : xb_B) (v : Nat → Int32) : xb_B := ((xb_n b, xb_a b, xb_t b), xb_tu b, xb_ch b, xb_cu b, xb_wr b, xb_sw b, v, xb_se b)
abbrev xb_wse (b : xb_B) (v : Nat → Int32) : xb_B := ((xb_n b, xb_a b, xb_t b), xb_tu b, xb_ch b, xb_cu b, xb_wr b, xb_sw b, xb_mo b, v)
abbrev xw_X : Type := xb_B × (Nat → Int32) × Int32 × Int32 × Int32 × Int32 × (Nat → xb_B) × xb_B × Int32 × Int32 × Int32 × (Nat → Int32) × (Nat → Int32) × (Nat → Int32) × Int32 × Int32 × Int32 × Int32 × (Nat → Int32) × Int32
abbrev xw_M : Type := Int32
abbrev xw_W : Type := xw_X × xw_M
abbrev xw_b (w : xw_W) : xb_B := w.1.1
abbrev xw_ky (w : xw_W) : (Nat → Int32) := w.1.2.1
abbrev xw_rn (w : xw_W) : Int32 := w.1.2.2.1
abbrev xw_rr (w : xw_W) : Int32 := w.1.2.2.2.1
abbrev xw_rd (w : xw_W) : Int32 := w.1.2.2.2.2.1
abbrev xw_rc (w : xw_W) : Int32 := w.1.2.2.2.2.2.1
abbrev xw_hi (w : xw_W) : (Nat → xb_B) := w.1.2.2.2.2.2.2.1
abbrev xw_sn (w : xw_W) : xb_B := w.1.2.2.2.2.2.2.2.1
abbrev xw_hn (w : xw_W) : Int32 := w.1.2.2.2.2.2.2.2.2.1
abbrev xw_hm (w : xw_W) : Int32 := w.1.2.2.2.2.2.2.2.2.2.1
abbrev xw_hs (w : xw_W) : Int32 := w.1.2.2.2.2.2.2.2.2.2.2.1
abbrev xw_co (w : xw_W) : (Nat → Int32) := w.1.2.2.2.2.2.2.2.2.2.2.2.1
abbrev xw_ki (w : xw_W) : (Nat → Int32) := w.1.2.2.2.2.2.2.2.2.2.2.2.2.1
abbrev xw_ar (w : xw_W) : (Nat → Int32) := w.1.2.2.2.2.2.2.2.2.2.2.2.2.2.1
abbrev xw_tl (w : xw_W) : Int32 := w.1.2.2.2.2.2.2.2.2.2.2.2.2.2.2.1
abbrev xw_tc (w : xw_W) : Int32 := w.1.2.2.2.2.2.2.2.2.2.2.2.2.2.2.2.1
abbrev xw_tp (w : xw_W) : Int32 := w.1.2.2.2.2.2.2.2.2.2.2.2.2.2.2.2.2.1
abbrev xw_tg (w : xw_W) : Int32 := w.1.2.2.2.2.2.2.2.2.2.2.2.2.2.2.2.2.2.1
abbrev xw_li (w : xw_W) : (Nat → Int32) := w.1.2.2.2.2.2.2.2.2.2.2.2.2.2.2.2.2.2.2.1
abbrev xw_ll (w : xw_W) : Int32 := w.1.2.2.2.2.2.2.2.2.2.2.2.2.2.2.2.2.2.2.2
abbrev xm_z (w : xw_W) : Int32 := w.2
abbrev xw_wb (w : xw_W) (v : xb_B) : xw_W := ((v, xw_ky w, xw_rn w, xw_rr w, xw_rd w, xw_rc w, xw_hi w, xw_sn w, xw_hn w, xw_hm w, xw_hs w, xw_co w, xw_ki w, xw_ar w, xw_tl w, xw_tc w, xw_tp w, xw_tg w, xw_li w, xw_ll w), w.2)
abbrev xw_wky (w : xw_W) (v : (Nat → Int32)) : xw_W := ((xw_b w, v, xw_rn w, xw_rr w, xw_rd w, xw_rc w, xw_hi w, xw_sn w, xw_hn w, xw_hm w, xw_hs w, xw_co w, xw_ki w, xw_ar w, xw_tl w, xw_tc w, xw_tp w, xw_tg w, xw_li w, xw_ll w), w.2)
abbrev xw_wrn (w : xw_W) (v : Int32) : xw_W := ((xw_b w, xw_ky w, v, xw_rr w, xw_rd w, xw_rc w, xw_hi w, xw_sn w, xw_hn w, xw_hm w, xw_hs w, xw_co w, xw_ki w, xw_ar w, xw_tl w, xw_tc w, xw_tp w, xw_tg w, xw_li w, xw_ll w), w.2)
abbrev xw_wrr (w : xw_W) (v : Int32) : xw_W := ((xw_b w, xw_ky w, xw_rn w, v, xw_rd w, xw_rc w, xw_hi w, xw_sn w, xw_hn w, xw_hm w, xw_hs w, xw_co w, xw_ki w, xw_ar w, xw_tl w, xw_tc w, xw_tp w, xw_tg w, xw_li w, xw_ll w), w.2)
abbrev xw_wrd (w : xw_W) (v : Int32) : xw_W := ((xw_b w, xw_ky w, xw_rn w, xw_rr w, v, xw_rc w, xw_hi w, xw_sn w, xw_hn w, xw_hm w, xw_hs w, xw_co w, xw_ki w, xw_ar w, xw_tl w, xw_tc w, xw_tp w, xw_tg w, xw_li w, xw_ll w), w.2)
abbrev xw_wrc (w : xw_W) (v : Int32) : xw_W := ((xw_b w, xw_ky w, xw_rn w, xw_rr w, xw_rd w, v, xw_hi w, xw_sn w, xw_hn w, xw_hm w, xw_hs w, xw_co w, xw_ki w, xw_ar w, xw_tl w, xw_tc w, xw_tp w, xw_tg w, xw_li w, xw_ll w), w.2)
abbrev xw_whi (w : xw_W) (v : (Nat → xb_B)) : xw_W := ((xw_b w, xw_ky w, xw_rn w, xw_rr w, xw_rd w, xw_rc w, v, xw_sn w, xw_hn w, xw_hm w, xw_hs w, xw_co w, xw_ki w, xw_ar w, xw_tl w, xw_tc w, xw_tp w, xw_tg w, xw_li w, xw_ll w), w.2)
abbrev xw_wsn (w : xw_W) (v : xb_B) : xw_W := ((xw_b w, xw_ky w, xw_rn w, xw_rr w, xw_rd w, xw_rc w, xw_hi w, v, xw_hn w, xw_hm w, xw_hs w, xw_co w, xw_ki w, xw_ar w, xw_tl w, xw_tc w, xw_tp w, xw_tg w, xw_li w, xw_ll w), w.2)
abbrev xw_whn (w : xw_W) (v : Int32) : xw_W := ((xw_b w, xw_ky w, xw_rn w, xw_rr w, xw_rd w, xw_rc w, xw_hi w, xw_sn w, v, xw_hm w, xw_hs w, xw_co w, xw_ki w, xw_ar w, xw_tl w, xw_tc w, xw_tp w, xw_tg w, xw_li w, xw_ll w), w.2)
abbrev xw_whm (w : xw_W) (v : Int32) : xw_W := ((xw_b w, xw_ky w, xw_rn w, xw_rr w, xw_rd w, xw_rc w, xw_hi w, xw_sn w, xw_hn w, v, xw_hs w, xw_co w, xw_ki w, xw_ar w, xw_tl w, xw_tc w, xw_tp w, xw_tg w, xw_li w, xw_ll w), w.2)
abbrev xw_whs (w : xw_W) (v : Int32) : xw_W := ((xw_b w, xw_ky w, xw_rn w, xw_rr w, xw_rd w, xw_rc w, xw_hi w, xw_sn w, xw_hn w, xw_hm w, v, xw_co w, xw_ki w, xw_ar w, xw_tl w, xw_tc w, xw_tp w, xw_tg w, xw_li w, xw_ll w), w.2)
abbrev xw_wco (w : xw_W) (v : (Nat → Int32)) : xw_W := ((xw_b w, xw_ky w, xw_rn w, xw_rr w, xw_rd w, xw_rc w, xw_hi w, xw_sn w, xw_hn w, xw_hm w, xw_hs w, v, xw_ki w, xw_ar w, xw_tl w, xw_tc w, xw_tp w, xw_tg w, xw_li w, xw_ll w), w.2)
abbrev xw_wki (w : xw_W) (v : (Nat → Int32)) : xw_W := ((xw_b w, xw_ky w, xw_rn w, xw_rr w, xw_rd w, xw_rc w, xw_hi w, xw_sn w, xw_hn w, xw_hm w, xw_hs w, xw_co w, v, xw_ar w, xw_tl w, xw_tc w, xw_tp w, xw_tg w, xw_li w, xw_ll w), w.2)
abbrev xw_war (w : xw_W) (v : (Nat → Int32)) : xw_W := ((xw_b w, xw_ky w, xw_rn w, xw_rr w, xw_rd w, xw_rc w, xw_hi w, xw_sn w, xw_hn w, xw_hm w, xw_hs w, xw_co w, xw_ki w, v, xw_tl w, xw_tc w, xw_tp w, xw_tg w, xw_li w, xw_ll w), w.2)
abbrev xw_wtl (w : xw_W) (v : Int32) : xw_W := ((xw_b w, xw_ky w, xw_rn w, xw_rr w, xw_rd w, xw_rc w, xw_hi w, xw_sn w, xw_hn w, xw_hm w, xw_hs w, xw_co w, xw_ki w, xw_ar w, v, xw_tc w, xw_tp w, xw_tg w, xw_li w, xw_ll w), w.2)
abbrev xw_wtc (w : xw_W) (v : Int32) : xw_W := ((xw_b w, xw_ky w, xw_rn w, xw_rr w, xw_rd w, xw_rc w, xw_hi w, xw_sn w, xw_hn w, xw_hm w, xw_hs w, xw_co w, xw_ki w, xw_ar w, xw_tl w, v, xw_tp w, xw_tg w, xw_li w, xw_ll w), w.2)
abbrev xw_wtp (w : xw_W) (v : Int32) : xw_W := ((xw_b w, xw_ky w, xw_rn w, xw_rr w, xw_rd w, xw_rc w, xw_hi w, xw_sn w, xw_hn w, xw_hm w, xw_hs w, xw_co w, xw_ki w, xw_ar w, xw_tl w, xw_tc w, v, xw_tg w, xw_li w, xw_ll w), w.2)
abbrev xw_wtg (w : xw_W) (v : Int32) : xw_W := ((xw_b w, xw_ky w, xw_rn w, xw_rr w, xw_rd w, xw_rc w, xw_hi w, xw_sn w, xw_hn w, xw_hm w, xw_hs w, xw_co w, xw_ki w, xw_ar w, xw_tl w, xw_tc w, xw_tp w, v, xw_li w, xw_ll w), w.2)
abbrev xw_wli (w : xw_W) (v : (Nat → Int32)) : xw_W := ((xw_b w, xw_ky w, xw_rn w, xw_rr w, xw_rd w, xw_rc w, xw_hi w, xw_sn w, xw_hn w, xw_hm w, xw_hs w, xw_co w, xw_ki w, xw_ar w, xw_tl w, xw_tc w, xw_tp w, xw_tg w, v, xw_ll w), w.2)
abbrev xw_wll (w : xw_W) (v : Int32) : xw_W := ((xw_b w, xw_ky w, xw_rn w, xw_rr w, xw_rd w, xw_rc w, xw_hi w, xw_sn w, xw_hn w, xw_hm w, xw_hs w, xw_co w, xw_ki w, xw_ar w, xw_tl w, xw_tc w, xw_tp w, xw_tg w, xw_li w, v), w.2)
abbrev xm_wz (w : xw_W) (v : Int32) : xw_W := (w.1, (v))
def wl (w : xw_W) : ai_W := [
  .inr (.inr (10, [.ref 1, .ref 16, .ref 17, .ref 19, .ref 18, .ref 22, .ref 23, .ref 175, .ref 182])),
  .inr (.inr (0, [.int (xb_n (xw_b w)), .int (xb_a (xw_b w)), .int (xb_t (xw_b w)), .ref 2, .ref 4, .ref 6, .ref 8, .ref 10, .ref 12, .ref 14])),
  .inr (.inr (8, [.ref 3])),
  .inl (ai_t 8 (xb_tu (xw_b w))),
  .inr (.inr (8, [.ref 5])),
  .inl (ai_t 48 (xb_ch (xw_b w))),
  .inr (.inr (8, [.ref 7])),
  .inl (ai_t 24 (xb_cu (xw_b w))),
  .inr (.inr (8, [.ref 9])),
  .inl (ai_t 31 (xb_wr (xw_b w))),
  .inr (.inr (8, [.ref 11])),
  .inl (ai_t 4 (xb_sw (xw_b w))),
  .inr (.inr (8, [.ref 13])),
  .inl (ai_t 64 (xb_mo (xw_b w))),
  .inr (.inr (8, [.ref 15])),
  .inl (ai_t 7 (xb_se (xw_b w))),
  .inr (.inr (4, [.ref 1])),
  .inr (.inr (5, [.ref 1])),
  .inr (.inr (7, [.int (xw_rn w), .int (xw_rr w), .int (xw_rd w), .int (xw_rc w)])),
  .inr (.inr (2, [.ref 1, .ref 20])),
  .inr (.inr (8, [.ref 21])),
  .inl (ai_t 8 (xw_ky w)),
  .inr (.inr (1, [.ref 1, .ref 16, .ref 17, .ref 18])),
  .inr (.inr (3, [.ref 24, .ref 25, .int (xw_hn w), .int (xw_hm w), .int (xw_hs w)])),
  .inr (.inl [some 40, some 55, some 70, some 85, some 100, some 115, some 130, some 145, some 160]),
  .inr (.inr (0, [.int (xb_n (xw_sn w)), .int (xb_a (xw_sn w)), .int (xb_t (xw_sn w)), .ref 26, .ref 28, .ref 30, .ref 32, .ref 34, .ref 36, .ref 38])),
  .inr (.inr (8, [.ref 27])),
  .inl (ai_t 8 (xb_tu (xw_sn w))),
  .inr (.inr (8, [.ref 29])),
  .inl (ai_t 48 (xb_ch (xw_sn w))),
  .inr (.inr (8, [.ref 31])),
  .inl (ai_t 24 (xb_cu (xw_sn w))),
  .inr (.inr (8, [.ref 33])),
  .inl (ai_t 31 (xb_wr (xw_sn w))),
  .inr (.inr (8, [.ref 35])),
  .inl (ai_t 4 (xb_sw (xw_sn w))),
  .inr (.inr (8, [.ref 37])),
  .inl (ai_t 64 (xb_mo (xw_sn w))),
  .inr (.inr (8, [.ref 39])),
  .inl (ai_t 7 (xb_se (xw_sn w))),
  .inr (.inr (0, [.int (xb_n (xw_hi w 0)), .int (xb_a (xw_hi w 0)), .int (xb_t (xw_hi w 0)), .ref 41, .ref 43, .ref 45, .ref 47, .ref 49, .ref 51, .ref 53])),
  .inr (.inr (8, [.ref 42])),
  .inl (ai_t 8 (xb_tu (xw_hi w 0))),
  .inr (.inr (8, [.ref 44])),
  .inl (ai_t 48 (xb_ch (xw_hi w 0))),
  .inr (.inr (8, [.ref 46])),
  .inl (ai_t 24 (xb_cu (xw_hi w 0))),
  .inr (.inr (8, [.ref 48])),
  .inl (ai_t 31 (xb_wr (xw_hi w 0))),
  .inr (.inr (8, [.ref 50])),
  .inl (ai_t 4 (xb_sw (xw_hi w 0))),
  .inr (.inr (8, [.ref 52])),
  .inl (ai_t 64 (xb_mo (xw_hi w 0))),
  .inr (.inr (8, [.ref 54])),
  .inl (ai_t 7 (xb_se (xw_hi w 0))),
  .inr (.inr (0, [.int (xb_n (xw_hi w 1)), .int (xb_a (xw_hi w 1)), .int (xb_t (xw_hi w 1)), .ref 56, .ref 58, .ref 60, .ref 62, .ref 64, .ref 66, .ref 68])),
  .inr (.inr (8, [.ref 57])),
  .inl (ai_t 8 (xb_tu (xw_hi w 1))),
  .inr (.inr (8, [.ref 59])),
  .inl (ai_t 48 (xb_ch (xw_hi w 1))),
  .inr (.inr (8, [.ref 61])),
  .inl (ai_t 24 (xb_cu (xw_hi w 1))),
  .inr (.inr (8, [.ref 63])),
  .inl (ai_t 31 (xb_wr (xw_hi w 1))),
  .inr (.inr (8, [.ref 65])),
  .inl (ai_t 4 (xb_sw (xw_hi w 1))),
  .inr (.inr (8, [.ref 67])),
  .inl (ai_t 64 (xb_mo (xw_hi w 1))),
  .inr (.inr (8, [.ref 69])),
  .inl (ai_t 7 (xb_se (xw_hi w 1))),
  .inr (.inr (0, [.int (xb_n (xw_hi w 2)), .int (xb_a (xw_hi w 2)), .int (xb_t (xw_hi w 2)), .ref 71, .ref 73, .ref 75, .ref 77, .ref 79, .ref 81, .ref 83])),
  .inr (.inr (8, [.ref 72])),
  .inl (ai_t 8 (xb_tu (xw_hi w 2))),
  .inr (.inr (8, [.ref 74])),
  .inl (ai_t 48 (xb_ch (xw_hi w 2))),
  .inr (.inr (8, [.ref 76])),
  .inl (ai_t 24 (xb_cu (xw_hi w 2))),
  .inr (.inr (8, [.ref 78])),
  .inl (ai_t 31 (xb_wr (xw_hi w 2))),
  .inr (.inr (8, [.ref 80])),
  .inl (ai_t 4 (xb_sw (xw_hi w 2))),
  .inr (.inr (8, [.ref 82])),
  .inl (ai_t 64 (xb_mo (xw_hi w 2))),
  .inr (.inr (8, [.ref 84])),
  .inl (ai_t 7 (xb_se (xw_hi w 2))),
  .inr (.inr (0, [.int (xb_n (xw_hi w 3)), .int (xb_a (xw_hi w 3)), .int (xb_t (xw_hi w 3)), .ref 86, .ref 88, .ref 90, .ref 92, .ref 94, .ref 96, .ref 98])),
  .inr (.inr (8, [.ref 87])),
  .inl (ai_t 8 (xb_tu (xw_hi w 3))),
  .inr (.inr (8, [.ref 89])),
  .inl (ai_t 48 (xb_ch (xw_hi w 3))),
  .inr (.inr (8, [.ref 91])),
  .inl (ai_t 24 (xb_cu (xw_hi w 3))),
  .inr (.inr (8, [.ref 93])),
  .inl (ai_t 31 (xb_wr (xw_hi w 3))),
  .inr (.inr (8, [.ref 95])),
  .inl (ai_t 4 (xb_sw (xw_hi w 3))),
  .inr (.inr (8, [.ref 97])),
  .inl (ai_t 64 (xb_mo (xw_hi w 3))),
  .inr (.inr (8, [.ref 99])),
  .inl (ai_t 7 (xb_se (xw_hi w 3))),
  .inr (.inr (0, [.int (xb_n (xw_hi w 4)), .int (xb_a (xw_hi w 4)), .int (xb_t (xw_hi w 4)), .ref 101, .ref 103, .ref 105, .ref 107, .ref 109, .ref 111, .ref 113])),
  .inr (.inr (8, [.ref 102])),
  .inl (ai_t 8 (xb_tu (xw_hi w 4))),
  .inr (.inr (8, [.ref 104])),
  .inl (ai_t 48 (xb_ch (xw_hi w 4))),
  .inr (.inr (8, [.ref 106])),
  .inl (ai_t 24 (xb_cu (xw_hi w 4))),
  .inr (.inr (8, [.ref 108])),
  .inl (ai_t 31 (xb_wr (xw_hi w 4))),
  .inr (.inr (8, [.ref 110])),
  .inl (ai_t 4 (xb_sw (xw_hi w 4))),
  .inr (.inr (8, [.ref 112])),
  .inl (ai_t 64 (xb_mo (xw_hi w 4))),
  .inr (.inr (8, [.ref 114])),
  .inl (ai_t 7 (xb_se (xw_hi w 4))),
  .inr (.inr (0, [.int (xb_n (xw_hi w 5)), .int (xb_a (xw_hi w 5)), .int (xb_t (xw_hi w 5)), .ref 116, .ref 118, .ref 120, .ref 122, .ref 124, .ref 126, .ref 128])),
  .inr (.inr (8, [.ref 117])),
  .inl (ai_t 8 (xb_tu (xw_hi w 5))),
  .inr (.inr (8, [.ref 119])),
  .inl (ai_t 48 (xb_ch (xw_hi w 5))),
  .inr (.inr (8, [.ref 121])),
  .inl (ai_t 24 (xb_cu (xw_hi w 5))),
  .inr (.inr (8, [.ref 123])),
  .inl (ai_t 31 (xb_wr (xw_hi w 5))),
  .inr (.inr (8, [.ref 125])),
  .inl (ai_t 4 (xb_sw (xw_hi w 5))),
  .inr (.inr (8, [.ref 127])),
  .inl (ai_t 64 (xb_mo (xw_hi w 5))),
  .inr (.inr (8, [.ref 129])),
  .inl (ai_t 7 (xb_se (xw_hi w 5))),
  .inr (.inr (0, [.int (xb_n (xw_hi w 6)), .int (xb_a (xw_hi w 6)), .int (xb_t (xw_hi w 6)), .ref 131, .ref 133, .ref 135, .ref 137, .ref 139, .ref 141, .ref 143])),
  .inr (.inr (8, [.ref 132])),
  .inl (ai_t 8 (xb_tu (xw_hi w 6))),
  .inr (.inr (8, [.ref 134])),
  .inl (ai_t 48 (xb_ch (xw_hi w 6))),
  .inr (.inr (8, [.ref 136])),
  .inl (ai_t 24 (xb_cu (xw_hi w 6))),
  .inr (.inr (8, [.ref 138])),
  .inl (ai_t 31 (xb_wr (xw_hi w 6))),
  .inr (.inr (8, [.ref 140])),
  .inl (ai_t 4 (xb_sw (xw_hi w 6))),
  .inr (.inr (8, [.ref 142])),
  .inl (ai_t 64 (xb_mo (xw_hi w 6))),
  .inr (.inr (8, [.ref 144])),
  .inl (ai_t 7 (xb_se (xw_hi w 6))),
  .inr (.inr (0, [.int (xb_n (xw_hi w 7)), .int (xb_a (xw_hi w 7)), .int (xb_t (xw_hi w 7)), .ref 146, .ref 148, .ref 150, .ref 152, .ref 154, .ref 156, .ref 158])),
  .inr (.inr (8, [.ref 147])),
  .inl (ai_t 8 (xb_tu (xw_hi w 7))),
  .inr (.inr (8, [.ref 149])),
  .inl (ai_t 48 (xb_ch (xw_hi w 7))),
  .inr (.inr (8, [.ref 151])),
  .inl (ai_t 24 (xb_cu (xw_hi w 7))),
  .inr (.inr (8, [.ref 153])),
  .inl (ai_t 31 (xb_wr (xw_hi w 7))),
  .inr (.inr (8, [.ref 155])),
  .inl (ai_t 4 (xb_sw (xw_hi w 7))),
  .inr (.inr (8, [.ref 157])),
  .inl (ai_t 64 (xb_mo (xw_hi w 7))),
  .inr (.inr (8, [.ref 159])),
  .inl (ai_t 7 (xb_se (xw_hi w 7))),
  .inr (.inr (0, [.int (xb_n (xw_hi w 8)), .int (xb_a (xw_hi w 8)), .int (xb_t (xw_hi w 8)), .ref 161, .ref 163, .ref 165, .ref 167, .ref 169, .ref 171, .ref 173])),
  .inr (.inr (8, [.ref 162])),
  .inl (ai_t 8 (xb_tu (xw_hi w 8))),
  .inr (.inr (8, [.ref 164])),
  .inl (ai_t 48 (xb_ch (xw_hi w 8))),
  .inr (.inr (8, [.ref 166])),
  .inl (ai_t 24 (xb_cu (xw_hi w 8))),
  .inr (.inr (8, [.ref 168])),
  .inl (ai_t 31 (xb_wr (xw_hi w 8))),
  .inr (.inr (8, [.ref 170])),
  .inl (ai_t 4 (xb_sw (xw_hi w 8))),
  .inr (.inr (8, [.ref 172])),
  .inl (ai_t 64 (xb_mo (xw_hi w 8))),
  .inr (.inr (8, [.ref 174])),
  .inl (ai_t 7 (xb_se (xw_hi w 8))),
  .inr (.inr (9, [.ref 176, .ref 178, .ref 180, .int (xw_tl w), .int (xw_tc w), .int (xw_tp w), .int (xw_tg w)])),
  .inr (.inr (8, [.ref 177])),
  .inl (ai_t 70 (xw_co w)),
  .inr (.inr (8, [.ref 179])),
  .inl (ai_t 35 (xw_ki w)),
  .inr (.inr (8, [.ref 181])),
  .inl (ai_t 105 (xw_ar w)),
  .inr (.inr (6, [.ref 183, .int (xw_ll w)])),
  .inr (.inr (8, [.ref 184])),
  .inl (ai_t 40 (xw_li w))]
theorem g_0 (w : xw_W) : (wl w)[0]? = some (.inr (.inr (10, [.ref 1, .ref 16, .ref 17, .ref 19, .ref 18, .ref 22, .ref 23, .ref 175, .ref 182]))) := rfl
theorem g_1 (w : xw_W) : (wl w)[1]? = some (.inr (.inr (0, [.int (xb_n (xw_b w)), .int (xb_a (xw_b w)), .int (xb_t (xw_b w)), .ref 2, .ref 4, .ref 6, .ref 8, .ref 10, .ref 12, .ref 14]))) := rfl
theorem g_2 (w : xw_W) : (wl w)[2]? = some (.inr (.inr (8, [.ref 3]))) := rfl
theorem g_3 (w : xw_W) : (wl w)[3]? = some (.inl (ai_t 8 (xb_tu (xw_b w)))) := rfl
theorem g_4 (w : xw_W) : (wl w)[4]? = some (.inr (.inr (8, [.ref 5]))) := rfl
theorem g_5 (w : xw_W) : (wl w)[5]? = some (.inl (ai_t 48 (xb_ch (xw_b w)))) := rfl
theorem g_6 (w : xw_W) : (wl w)[6]? = some (.inr (.inr (8, [.ref 7]))) := rfl
theorem g_7 (w : xw_W) : (wl w)[7]? = some (.inl (ai_t 24 (xb_cu (xw_b w)))) := rfl
theorem g_8 (w : xw_W) : (wl w)[8]? = some (.inr (.inr (8, [.ref 9]))) := rfl
theorem g_9 (w : xw_W) : (wl w)[9]? = some (.inl (ai_t 31 (xb_wr (xw_b w)))) := rfl
theorem g_10 (w : xw_W) : (wl w)[10]? = some (.inr (.inr (8, [.ref 11]))) := rfl
theorem g_11 (w : xw_W) : (wl w)[11]? = some (.inl (ai_t 4 (xb_sw (xw_b w)))) := rfl
theorem g_12 (w : xw_W) : (wl w)[12]? = some (.inr (.inr (8, [.ref 13]))) := rfl
theorem g_13 (w : xw_W) : (wl w)[13]? = some (.inl (ai_t 64 (xb_mo (xw_b w)))) := rfl
theorem g_14 (w : xw_W) : (wl w)[14]? = some (.inr (.inr (8, [.ref 15]))) := rfl
theorem g_15 (w : xw_W) : (wl w)[15]? = some (.inl (ai_t 7 (xb_se (xw_b w)))) := rfl
theorem g_16 (w : xw_W) : (wl w)[16]? = some (.inr (.inr (4, [.ref 1]))) := rfl
theorem g_17 (w : xw_W) : (wl w)[17]? = some (.inr (.inr (5, [.ref 1]))) := rfl
theorem g_18 (w : xw_W) : (wl w)[18]? = some (.inr (.inr (7, [.int (xw_rn w), .int (xw_rr w), .int (xw_rd w), .int (xw_rc w)]))) := rfl
theorem g_19 (w : xw_W) : (wl w)[19]? = some (.inr (.inr (2, [.ref 1, .ref 20]))) := rfl
theorem g_20 (w : xw_W) : (wl w)[20]? = some (.inr (.inr (8, [.ref 21]))) := rfl
theorem g_21 (w : xw_W) : (wl w)[21]? = some (.inl (ai_t 8 (xw_ky w))) := rfl
theorem g_22 (w : xw_W) : (wl w)[22]? = some (.inr (.inr (1, [.ref 1, .ref 16, .ref 17, .ref 18]))) := rfl
theorem g_23 (w : xw_W) : (wl w)[23]? = some (.inr (.inr (3, [.ref 24, .ref 25, .int (xw_hn w), .int (xw_hm w), .int (xw_hs w)]))) := rfl
theorem g_24 (w : xw_W) : (wl w)[24]? = some (.inr (.inl [some 40, some 55, some 70, some 85, some 100, some 115, some 130, some 145, some 160])) := rfl
theorem g_25 (w : xw_W) : (wl w)[25]? = some (.inr (.inr (0, [.int (xb_n (xw_sn w)), .int (xb_a (xw_sn w)), .int (xb_t (xw_sn w)), .ref 26, .ref 28, .ref 30, .ref 32, .ref 34, .ref 36, .ref 38]))) := rfl
theorem g_26 (w : xw_W) : (wl w)[26]? = some (.inr (.inr (8, [.ref 27]))) := rfl
theorem g_27 (w : xw_W) : (wl w)[27]? = some (.inl (ai_t 8 (xb_tu (xw_sn w)))) := rfl
theorem g_28 (w : xw_W) : (wl w)[28]? = some (.inr (.inr (8, [.ref 29]))) := rfl
theorem g_29 (w : xw_W) : (wl w)[29]? = some (.inl (ai_t 48 (xb_ch (xw_sn w)))) := rfl
theorem g_30 (w : xw_W) : (wl w)[30]? = some (.inr (.inr (8, [.ref 31]))) := rfl
theorem g_31 (w : xw_W) : (wl w)[31]? = some (.inl (ai_t 24 (xb_cu (xw_sn w)))) := rfl
theorem g_32 (w : xw_W) : (wl w)[32]? = some (.inr (.inr (8, [.ref 33]))) := rfl
theorem g_33 (w : xw_W) : (wl w)[33]? = some (.inl (ai_t 31 (xb_wr (xw_sn w)))) := rfl
theorem g_34 (w : xw_W) : (wl w)[34]? = some (.inr (.inr (8, [.ref 35]))) := rfl
theorem g_35 (w : xw_W) : (wl w)[35]? = some (.inl (ai_t 4 (xb_sw (xw_sn w)))) := rfl
theorem g_36 (w : xw_W) : (wl w)[36]? = some (.inr (.inr (8, [.ref 37]))) := rfl
theorem g_37 (w : xw_W) : (wl w)[37]? = some (.inl (ai_t 64 (xb_mo (xw_sn w)))) := rfl
theorem g_38 (w : xw_W) : (wl w)[38]? = some (.inr (.inr (8, [.ref 39]))) := rfl
theorem g_39 (w : xw_W) : (wl w)[39]? = some (.inl (ai_t 7 (xb_se (xw_sn w)))) := rfl
theorem g_40 (w : xw_W) : (wl w)[40]? = some (.inr (.inr (0, [.int (xb_n (xw_hi w 0)), .int (xb_a (xw_hi w 0)), .int (xb_t (xw_hi w 0)), .ref 41, .ref 43, .ref 45, .ref 47, .ref 49, .ref 51, .ref 53]))) := rfl
theorem g_41 (w : xw_W) : (wl w)[41]? = some (.inr (.inr (8, [.ref 42]))) := rfl
theorem g_42 (w : xw_W) : (wl w)[42]? = some (.inl (ai_t 8 (xb_tu (xw_hi w 0)))) := rfl
theorem g_43 (w : xw_W) : (wl w)[43]? = some (.inr (.inr (8, [.ref 44]))) := rfl
theorem g_44 (w : xw_W) : (wl w)[44]? = some (.inl (ai_t 48 (xb_ch (xw_hi w 0)))) := rfl
theorem g_45 (w : xw_W) : (wl w)[45]? = some (.inr (.inr (8, [.ref 46]))) := rfl
theorem g_46 (w : xw_W) : (wl w)[46]? = some (.inl (ai_t 24 (xb_cu (xw_hi w 0)))) := rfl
theorem g_47 (w : xw_W) : (wl w)[47]? = some (.inr (.inr (8, [.ref 48]))) := rfl
theorem g_48 (w : xw_W) : (wl w)[48]? = some (.inl (ai_t 31 (xb_wr (xw_hi w 0)))) := rfl
theorem g_49 (w : xw_W) : (wl w)[49]? = some (.inr (.inr (8, [.ref 50]))) := rfl
theorem g_50 (w : xw_W) : (wl w)[50]? = some (.inl (ai_t 4 (xb_sw (xw_hi w 0)))) := rfl
theorem g_51 (w : xw_W) : (wl w)[51]? = some (.inr (.inr (8, [.ref 52]))) := rfl
theorem g_52 (w : xw_W) : (wl w)[52]? = some (.inl (ai_t 64 (xb_mo (xw_hi w 0)))) := rfl
theorem g_53 (w : xw_W) : (wl w)[53]? = some (.inr (.inr (8, [.ref 54]))) := rfl
theorem g_54 (w : xw_W) : (wl w)[54]? = some (.inl (ai_t 7 (xb_se (xw_hi w 0)))) := rfl
theorem g_55 (w : xw_W) : (wl w)[55]? = some (.inr (.inr (0, [.int (xb_n (xw_hi w 1)), .int (xb_a (xw_hi w 1)), .int (xb_t (xw_hi w 1)), .ref 56, .ref 58, .ref 60, .ref 62, .ref 64, .ref 66, .ref 68]))) := rfl
theorem g_56 (w : xw_W) : (wl w)[56]? = some (.inr (.inr (8, [.ref 57]))) := rfl
theorem g_57 (w : xw_W) : (wl w)[57]? = some (.inl (ai_t 8 (xb_tu (xw_hi w 1)))) := rfl
theorem g_58 (w : xw_W) : (wl w)[58]? = some (.inr (.inr (8, [.ref 59]))) := rfl
theorem g_59 (w : xw_W) : (wl w)[59]? = some (.inl (ai_t 48 (xb_ch (xw_hi w 1)))) := rfl
theorem g_60 (w : xw_W) : (wl w)[60]? = some (.inr (.inr (8, [.ref 61]))) := rfl
theorem g_61 (w : xw_W) : (wl w)[61]? = some (.inl (ai_t 24 (xb_cu (xw_hi w 1)))) := rfl
theorem g_62 (w : xw_W) : (wl w)[62]? = some (.inr (.inr (8, [.ref 63]))) := rfl
theorem g_63 (w : xw_W) : (wl w)[63]? = some (.inl (ai_t 31 (xb_wr (xw_hi w 1)))) := rfl
theorem g_64 (w : xw_W) : (wl w)[64]? = some (.inr (.inr (8, [.ref 65]))) := rfl
theorem g_65 (w : xw_W) : (wl w)[65]? = some (.inl (ai_t 4 (xb_sw (xw_hi w 1)))) := rfl
theorem g_66 (w : xw_W) : (wl w)[66]? = some (.inr (.inr (8, [.ref 67]))) := rfl
theorem g_67 (w : xw_W) : (wl w)[67]? = some (.inl (ai_t 64 (xb_mo (xw_hi w 1)))) := rfl
theorem g_68 (w : xw_W) : (wl w)[68]? = some (.inr (.inr (8, [.ref 69]))) := rfl
theorem g_69 (w : xw_W) : (wl w)[69]? = some (.inl (ai_t 7 (xb_se (xw_hi w 1)))) := rfl
theorem g_70 (w : xw_W) : (wl w)[70]? = some (.inr (.inr (0, [.int (xb_n (xw_hi w 2)), .int (xb_a (xw_hi w 2)), .int (xb_t (xw_hi w 2)), .ref 71, .ref 73, .ref 75, .ref 77, .ref 79, .ref 81, .ref 83]))) := rfl
theorem g_71 (w : xw_W) : (wl w)[71]? = some (.inr (.inr (8, [.ref 72]))) := rfl
theorem g_72 (w : xw_W) : (wl w)[72]? = some (.inl (ai_t 8 (xb_tu (xw_hi w 2)))) := rfl
theorem g_73 (w : xw_W) : (wl w)[73]? = some (.inr (.inr (8, [.ref 74]))) := rfl
theorem g_74 (w : xw_W) : (wl w)[74]? = some (.inl (ai_t 48 (xb_ch (xw_hi w 2)))) := rfl
theorem g_75 (w : xw_W) : (wl w)[75]? = some (.inr (.inr (8, [.ref 76]))) := rfl
theorem g_76 (w : xw_W) : (wl w)[76]? = some (.inl (ai_t 24 (xb_cu (xw_hi w 2)))) := rfl
theorem g_77 (w : xw_W) : (wl w)[77]? = some (.inr (.inr (8, [.ref 78]))) := rfl
theorem g_78 (w : xw_W) : (wl w)[78]? = some (.inl (ai_t 31 (xb_wr (xw_hi w 2)))) := rfl
theorem g_79 (w : xw_W) : (wl w)[79]? = some (.inr (.inr (8, [.ref 80]))) := rfl
theorem g_80 (w : xw_W) : (wl w)[80]? = some (.inl (ai_t 4 (xb_sw (xw_hi w 2)))) := rfl
theorem g_81 (w : xw_W) : (wl w)[81]? = some (.inr (.inr (8, [.ref 82]))) := rfl
theorem g_82 (w : xw_W) : (wl w)[82]? = some (.inl (ai_t 64 (xb_mo (xw_hi w 2)))) := rfl
theorem g_83 (w : xw_W) : (wl w)[83]? = some (.inr (.inr (8, [.ref 84]))) := rfl
theorem g_84 (w : xw_W) : (wl w)[84]? = some (.inl (ai_t 7 (xb_se (xw_hi w 2)))) := rfl
theorem g_85 (w : xw_W) : (wl w)[85]? = some (.inr (.inr (0, [.int (xb_n (xw_hi w 3)), .int (xb_a (xw_hi w 3)), .int (xb_t (xw_hi w 3)), .ref 86, .ref 88, .ref 90, .ref 92, .ref 94, .ref 96, .ref 98]))) := rfl
theorem g_86 (w : xw_W) : (wl w)[86]? = some (.inr (.inr (8, [.ref 87]))) := rfl
theorem g_87 (w : xw_W) : (wl w)[87]? = some (.inl (ai_t 8 (xb_tu (xw_hi w 3)))) := rfl
theorem g_88 (w : xw_W) : (wl w)[88]? = some (.inr (.inr (8, [.ref 89]))) := rfl
theorem g_89 (w : xw_W) : (wl w)[89]? = some (.inl (ai_t 48 (xb_ch (xw_hi w 3)))) := rfl
theorem g_90 (w : xw_W) : (wl w)[90]? = some (.inr (.inr (8, [.ref 91]))) := rfl
theorem g_91 (w : xw_W) : (wl w)[91]? = some (.inl (ai_t 24 (xb_cu (xw_hi w 3)))) := rfl
theorem g_92 (w : xw_W) : (wl w)[92]? = some (.inr (.inr (8, [.ref 93]))) := rfl
theorem g_93 (w : xw_W) : (wl w)[93]? = some (.inl (ai_t 31 (xb_wr (xw_hi w 3)))) := rfl
theorem g_94 (w : xw_W) : (wl w)[94]? = some (.inr (.inr (8, [.ref 95]))) := rfl
theorem g_95 (w : xw_W) : (wl w)[95]? = some (.inl (ai_t 4 (xb_sw (xw_hi w 3)))) := rfl
theorem g_96 (w : xw_W) : (wl w)[96]? = some (.inr (.inr (8, [.ref 97]))) := rfl
theorem g_97 (w : xw_W) : (wl w)[97]? = some (.inl (ai_t 64 (xb_mo (xw_hi w 3)))) := rfl
theorem g_98 (w : xw_W) : (wl w)[98]? = some (.inr (.inr (8, [.ref 99]))) := rfl
theorem g_99 (w : xw_W) : (wl w)[99]? = some (.inl (ai_t 7 (xb_se (xw_hi w 3)))) := rfl
theorem g_100 (w : xw_W) : (wl w)[100]? = some (.inr (.inr (0, [.int (xb_n (xw_hi w 4)), .int (xb_a (xw_hi w 4)), .int (xb_t (xw_hi w 4)), .ref 101, .ref 103, .ref 105, .ref 107, .ref 109, .ref 111, .ref 113]))) := rfl
theorem g_101 (w : xw_W) : (wl w)[101]? = some (.inr (.inr (8, [.ref 102]))) := rfl
theorem g_102 (w : xw_W) : (wl w)[102]? = some (.inl (ai_t 8 (xb_tu (xw_hi w 4)))) := rfl
theorem g_103 (w : xw_W) : (wl w)[103]? = some (.inr (.inr (8, [.ref 104]))) := rfl
theorem g_104 (w : xw_W) : (wl w)[104]? = some (.inl (ai_t 48 (xb_ch (xw_hi w 4)))) := rfl
theorem g_105 (w : xw_W) : (wl w)[105]? = some (.inr (.inr (8, [.ref 106]))) := rfl
theorem g_106 (w : xw_W) : (wl w)[106]? = some (.inl (ai_t 24 (xb_cu (xw_hi w 4)))) := rfl
theorem g_107 (w : xw_W) : (wl w)[107]? = some (.inr (.inr (8, [.ref 108]))) := rfl
theorem g_108 (w : xw_W) : (wl w)[108]? = some (.inl (ai_t 31 (xb_wr (xw_hi w 4)))) := rfl
theorem g_109 (w : xw_W) : (wl w)[109]? = some (.inr (.inr (8, [.ref 110]))) := rfl
theorem g_110 (w : xw_W) : (wl w)[110]? = some (.inl (ai_t 4 (xb_sw (xw_hi w 4)))) := rfl
theorem g_111 (w : xw_W) : (wl w)[111]? = some (.inr (.inr (8, [.ref 112]))) := rfl
theorem g_112 (w : xw_W) : (wl w)[112]? = some (.inl (ai_t 64 (xb_mo (xw_hi w 4)))) := rfl
theorem g_113 (w : xw_W) : (wl w)[113]? = some (.inr (.inr (8, [.ref 114]))) := rfl
theorem g_114 (w : xw_W) : (wl w)[114]? = some (.inl (ai_t 7 (xb_se (xw_hi w 4)))) := rfl
theorem g_115 (w : xw_W) : (wl w)[115]? = some (.inr (.inr (0, [.int (xb_n (xw_hi w 5)), .int (xb_a (xw_hi w 5)), .int (xb_t (xw_hi w 5)), .ref 116, .ref 118, .ref 120, .ref 122, .ref 124, .ref 126, .ref 128]))) := rfl
theorem g_116 (w : xw_W) : (wl w)[116]? = some (.inr (.inr (8, [.ref 117]))) := rfl
theorem g_117 (w : xw_W) : (wl w)[117]? = some (.inl (ai_t 8 (xb_tu (xw_hi w 5)))) := rfl
theorem g_118 (w : xw_W) : (wl w)[118]? = some (.inr (.inr (8, [.ref 119]))) := rfl
theorem g_119 (w : xw_W) : (wl w)[119]? = some (.inl (ai_t 48 (xb_ch (xw_hi w 5)))) := rfl
theorem g_120 (w : xw_W) : (wl w)[120]? = some (.inr (.inr (8, [.ref 121]))) := rfl
theorem g_121 (w : xw_W) : (wl w)[121]? = some (.inl (ai_t 24 (xb_cu (xw_hi w 5)))) := rfl
theorem g_122 (w : xw_W) : (wl w)[122]? = some (.inr (.inr (8, [.ref 123]))) := rfl
theorem g_123 (w : xw_W) : (wl w)[123]? = some (.inl (ai_t 31 (xb_wr (xw_hi w 5)))) := rfl
theorem g_124 (w : xw_W) : (wl w)[124]? = some (.inr (.inr (8, [.ref 125]))) := rfl
theorem g_125 (w : xw_W) : (wl w)[125]? = some (.inl (ai_t 4 (xb_sw (xw_hi w 5)))) := rfl
theorem g_126 (w : xw_W) : (wl w)[126]? = some (.inr (.inr (8, [.ref 127]))) := rfl
theorem g_127 (w : xw_W) : (wl w)[127]? = some (.inl (ai_t 64 (xb_mo (xw_hi w 5)))) := rfl
theorem g_128 (w : xw_W) : (wl w)[128]? = some (.inr (.inr (8, [.ref 129]))) := rfl
theorem g_129 (w : xw_W) : (wl w)[129]? = some (.inl (ai_t 7 (xb_se (xw_hi w 5)))) := rfl
theorem g_130 (w : xw_W) : (wl w)[130]? = some (.inr (.inr (0, [.int (xb_n (xw_hi w 6)), .int (xb_a (xw_hi w 6)), .int (xb_t (xw_hi w 6)), .ref 131, .ref 133, .ref 135, .ref 137, .ref 139, .ref 141, .ref 143]))) := rfl
theorem g_131 (w : xw_W) : (wl w)[131]? = some (.inr (.inr (8, [.ref 132]))) := rfl
theorem g_132 (w : xw_W) : (wl w)[132]? = some (.inl (ai_t 8 (xb_tu (xw_hi w 6)))) := rfl
theorem g_133 (w : xw_W) : (wl w)[133]? = some (.inr (.inr (8, [.ref 134]))) := rfl
theorem g_134 (w : xw_W) : (wl w)[134]? = some (.inl (ai_t 48 (xb_ch (xw_hi w 6)))) := rfl
theorem g_135 (w : xw_W) : (wl w)[135]? = some (.inr (.inr (8, [.ref 136]))) := rfl
theorem g_136 (w : xw_W) : (wl w)[136]? = some (.inl (ai_t 24 (xb_cu (xw_hi w 6)))) := rfl
theorem g_137 (w : xw_W) : (wl w)[137]? = some (.inr (.inr (8, [.ref 138]))) := rfl
theorem g_138 (w : xw_W) : (wl w)[138]? = some (.inl (ai_t 31 (xb_wr (xw_hi w 6)))) := rfl
theorem g_139 (w : xw_W) : (wl w)[139]? = some (.inr (.inr (8, [.ref 140]))) := rfl
theorem g_140 (w : xw_W) : (wl w)[140]? = some (.inl (ai_t 4 (xb_sw (xw_hi w 6)))) := rfl
theorem g_141 (w : xw_W) : (wl w)[141]? = some (.inr (.inr (8, [.ref 142]))) := rfl
theorem g_142 (w : xw_W) : (wl w)[142]? = some (.inl (ai_t 64 (xb_mo (xw_hi w 6)))) := rfl
theorem g_143 (w : xw_W) : (wl w)[143]? = some (.inr (.inr (8, [.ref 144]))) := rfl
theorem g_144 (w : xw_W) : (wl w)[144]? = some (.inl (ai_t 7 (xb_se (xw_hi w 6)))) := rfl
theorem g_145 (w : xw_W) : (wl w)[145]? = some (.inr (.inr (0, [.int (xb_n (xw_hi w 7)), .int (xb_a (xw_hi w 7)), .int (xb_t (xw_hi w 7)), .ref 146, .ref 148, .ref 150, .ref 152, .ref 154, .ref 156, .ref 158]))) := rfl
theorem g_146 (w : xw_W) : (wl w)[146]? = some (.inr (.inr (8, [.ref 147]))) := rfl
theorem g_147 (w : xw_W) : (wl w)[147]? = some (.inl (ai_t 8 (xb_tu (xw_hi w 7)))) := rfl
theorem g_148 (w : xw_W) : (wl w)[148]? = some (.inr (.inr (8, [.ref 149]))) := rfl
theorem g_149 (w : xw_W) : (wl w)[149]? = some (.inl (ai_t 48 (xb_ch (xw_hi w 7)))) := rfl
theorem g_150 (w : xw_W) : (wl w)[150]? = some (.inr (.inr (8, [.ref 151]))) := rfl
theorem g_151 (w : xw_W) : (wl w)[151]? = some (.inl (ai_t 24 (xb_cu (xw_hi w 7)))) := rfl
theorem g_152 (w : xw_W) : (wl w)[152]? = some (.inr (.inr (8, [.ref 153]))) := rfl
theorem g_153 (w : xw_W) : (wl w)[153]? = some (.inl (ai_t 31 (xb_wr (xw_hi w 7)))) := rfl
theorem g_154 (w : xw_W) : (wl w)[154]? = some (.inr (.inr (8, [.ref 155]))) := rfl
theorem g_155 (w : xw_W) : (wl w)[155]? = some (.inl (ai_t 4 (xb_sw (xw_hi w 7)))) := rfl
theorem g_156 (w : xw_W) : (wl w)[156]? = some (.inr (.inr (8, [.ref 157]))) := rfl
theorem g_157 (w : xw_W) : (wl w)[157]? = some (.inl (ai_t 64 (xb_mo (xw_hi w 7)))) := rfl
theorem g_158 (w : xw_W) : (wl w)[158]? = some (.inr (.inr (8, [.ref 159]))) := rfl
theorem g_159 (w : xw_W) : (wl w)[159]? = some (.inl (ai_t 7 (xb_se (xw_hi w 7)))) := rfl
theorem g_160 (w : xw_W) : (wl w)[160]? = some (.inr (.inr (0, [.int (xb_n (xw_hi w 8)), .int (xb_a (xw_hi w 8)), .int (xb_t (xw_hi w 8)), .ref 161, .ref 163, .ref 165, .ref 167, .ref 169, .ref 171, .ref 173]))) := rfl
theorem g_161 (w : xw_W) : (wl w)[161]? = some (.inr (.inr (8, [.ref 162]))) := rfl
theorem g_162 (w : xw_W) : (wl w)[162]? = some (.inl (ai_t 8 (xb_tu (xw_hi w 8)))) := rfl
theorem g_163 (w : xw_W) : (wl w)[163]? = some (.inr (.inr (8, [.ref 164]))) := rfl
theorem g_164 (w : xw_W) : (wl w)[164]? = some (.inl (ai_t 48 (xb_ch (xw_hi w 8)))) := rfl
theorem g_165 (w : xw_W) : (wl w)[165]? = some (.inr (.inr (8, [.ref 166]))) := rfl
theorem g_166 (w : xw_W) : (wl w)[166]? = some (.inl (ai_t 24 (xb_cu (xw_hi w 8)))) := rfl
theorem g_167 (w : xw_W) : (wl w)[167]? = some (.inr (.inr (8, [.ref 168]))) := rfl
theorem g_168 (w : xw_W) : (wl w)[168]? = some (.inl (ai_t 31 (xb_wr (xw_hi w 8)))) := rfl
theorem g_169 (w : xw_W) : (wl w)[169]? = some (.inr (.inr (8, [.ref 170]))) := rfl
theorem g_170 (w : xw_W) : (wl w)[170]? = some (.inl (ai_t 4 (xb_sw (xw_hi w 8)))) := rfl
theorem g_171 (w : xw_W) : (wl w)[171]? = some (.inr (.inr (8, [.ref 172]))) := rfl
theorem g_172 (w : xw_W) : (wl w)[172]? = some (.inl (ai_t 64 (xb_mo (xw_hi w 8)))) := rfl
theorem g_173 (w : xw_W) : (wl w)[173]? = some (.inr (.inr (8, [.ref 174]))) := rfl
theorem g_174 (w : xw_W) : (wl w)[174]? = some (.inl (ai_t 7 (xb_se (xw_hi w 8)))) := rfl
theorem g_175 (w : xw_W) : (wl w)[175]? = some (.inr (.inr (9, [.ref 176, .ref 178, .ref 180, .int (xw_tl w), .int (xw_tc w), .int (xw_tp w), .int (xw_tg w)]))) := rfl
theorem g_176 (w : xw_W) : (wl w)[176]? = some (.inr (.inr (8, [.ref 177]))) := rfl
theorem g_177 (w : xw_W) : (wl w)[177]? = some (.inl (ai_t 70 (xw_co w))) := rfl
theorem g_178 (w : xw_W) : (wl w)[178]? = some (.inr (.inr (8, [.ref 179]))) := rfl
theorem g_179 (w : xw_W) : (wl w)[179]? = some (.inl (ai_t 35 (xw_ki w))) := rfl
theorem g_180 (w : xw_W) : (wl w)[180]? = some (.inr (.inr (8, [.ref 181]))) := rfl
theorem g_181 (w : xw_W) : (wl w)[181]? = some (.inl (ai_t 105 (xw_ar w))) := rfl
theorem g_182 (w : xw_W) : (wl w)[182]? = some (.inr (.inr (6, [.ref 183, .int (xw_ll w)]))) := rfl
theorem g_183 (w : xw_W) : (wl w)[183]? = some (.inr (.inr (8, [.ref 184]))) := rfl
theorem g_184 (w : xw_W) : (wl w)[184]? = some (.inl (ai_t 40 (xw_li w))) := rfl
