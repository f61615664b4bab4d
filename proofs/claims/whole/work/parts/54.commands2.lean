/-! The commands that change the book: both sides. -/
theorem kr_s_of {w w2 : xw_W} {S : Option kb_B} (h : kr_s w S) (e1 : xw_hs w2 = xw_hs w) (e2 : xm_is w2 = xm_is w) (e3 : xw_sn w2 = xw_sn w) (e4 : xm_saved w2 = xm_saved w) : kr_s w2 S := by
  cases S with
  | none => exact ⟨e1.trans h.1, e2.trans h.2⟩
  | some B => exact ⟨e1.trans h.1, e2.trans h.2.1, h.2.2.1, by rw [e3]; exact h.2.2.2.1, by rw [e4]; exact h.2.2.2.2⟩
theorem past8 (X w : xw_W) (h1 : xm_was X = xm_s w) (h2 : xm_past X = xm_past w) : xm_past (xm_wch (xm_wpast X (cpn (xm_was X) 0 (189 * 7) 0 189 (shn 0 7 (xm_past X)))) 8) = cpn (xm_s w) 0 (189 * 7) 0 189 (shn 0 7 (xm_past w)) := by
  rw [← h1, ← h2]
theorem pastn (X w : xw_W) (m : Nat) (h1 : xm_was X = xm_s w) (h2 : xm_past X = xm_past w) : xm_past (xm_wch (xm_wpast X (cpn (xm_was X) 0 (189 * m) 0 189 (xm_past X))) (nI (m + 1))) = cpn (xm_s w) 0 (189 * m) 0 189 (xm_past w) := by
  rw [← h1, ← h2]
theorem ks_cmd {yc ym yG yI : Nat} {args : List Value} (o : kb_B → kc_O) (hgood : ∀ B, kb_ok B → kc_good B (o B))
    (HC : ∀ w w1 r w2 a, ai_Call 46 [.ref 0] (wl w) = some (none, wl w1) → ai_Call yG (.ref 22 :: args) (wl w1) = some (some (.int a), wl r) → ai_Call 51 [.ref 0, .int a] (wl r) = some (some (.int a), wl w2) → ai_Call yc (.ref 0 :: args) (wl w) = some (some (.int a), wl w2))
    (HM : ∀ w w1 r w2 a, ai_Call 182 [.ref 185] (wl w) = some (none, wl w1) → ai_Call yI (.ref 185 :: args) (wl w1) = some (some (.int a), wl r) → ai_Call 187 [.ref 185, .int a] (wl r) = some (some (.int a), wl w2) → ai_Call ym (.ref 185 :: args) (wl w) = some (some (.int a), wl w2))
    (h1 : ∀ w B, kb_x (xw_b w) B → kb_ok B → kx_is w (o B) (ai_Call yG (.ref 22 :: args) (wl w)))
    (h2 : ∀ w B, kb_m (xm_s w) B → kb_ok B → km_is w (o B) (ai_Call yI (.ref 185 :: args) (wl w))) : ks yc ym args := by
  intro w hw
  obtain ⟨B, L, S, hk, hx, hm, hh, hs, hr⟩ := hw
  have hh2 := hh
  obtain ⟨hL, hm1, hm2, ⟨p, hp, hpn, _⟩, _⟩ := hh2
  have hb := x_begin hp hpn
  obtain ⟨b, hbx, eb⟩ := h1 (kw_b w p) B hx hk
  obtain ⟨hok, hg⟩ := hgood B hk
  rcases hg with ⟨y, d, ho, hy⟩ | ho | ho | ⟨hn, ha⟩
  · rw [ho] at eb hbx
    have ef := x_finish_er (x := -3) (by decide) (kx_w (kw_b w p) b (some (y, d)))
    obtain ⟨s, hsx, es⟩ := h2 (xm_wwas (kx_w (kw_b w p) b (some (y, d))) (xm_s (kx_w (kw_b w p) b (some (y, d))))) B hm hk
    rw [ho] at es hsx
    have eg := m_ends_er (x := -3) (by decide) (km_w (xm_wwas (kx_w (kw_b w p) b (some (y, d))) (xm_s (kx_w (kw_b w p) b (some (y, d))))) s (some (y, d)))
    exact ⟨_, _, _, HC _ _ _ _ _ hb eb ef, HM _ _ _ _ _ (m_keeps _) es eg, B, L, S, hk, hbx, hsx, hist_err (b := xw_b w) hp hpn hh rfl rfl rfl rfl rfl, kr_s_of hs rfl rfl rfl rfl, Or.inr ⟨hy, rfl, rfl, rfl⟩, hr.2⟩
  · rw [ho] at eb hbx
    have ef := x_finish_er (x := -1) (by decide) (kx_w (kw_b w p) b none)
    obtain ⟨s, hsx, es⟩ := h2 (xm_wwas (kx_w (kw_b w p) b none) (xm_s (kx_w (kw_b w p) b none))) B hm hk
    rw [ho] at es hsx
    have eg := m_ends_er (x := -1) (by decide) (km_w (xm_wwas (kx_w (kw_b w p) b none) (xm_s (kx_w (kw_b w p) b none))) s none)
    exact ⟨_, _, _, HC _ _ _ _ _ hb eb ef, HM _ _ _ _ _ (m_keeps _) es eg, B, L, S, hk, hbx, hsx, hist_err (b := xw_b w) hp hpn hh rfl rfl rfl rfl rfl, kr_s_of hs rfl rfl rfl rfl, hr⟩
  · rw [ho] at eb hbx
    have ef := x_finish_er (x := -2) (by decide) (kx_w (kw_b w p) b none)
    obtain ⟨s, hsx, es⟩ := h2 (xm_wwas (kx_w (kw_b w p) b none) (xm_s (kx_w (kw_b w p) b none))) B hm hk
    rw [ho] at es hsx
    have eg := m_ends_er (x := -2) (by decide) (km_w (xm_wwas (kx_w (kw_b w p) b none) (xm_s (kx_w (kw_b w p) b none))) s none)
    exact ⟨_, _, _, HC _ _ _ _ _ hb eb ef, HM _ _ _ _ _ (m_keeps _) es eg, B, L, S, hk, hbx, hsx, hist_err (b := xw_b w) hp hpn hh rfl rfl rfl rfl rfl, kr_s_of hs rfl rfl rfl rfl, hr⟩
  · rw [hn] at eb
    have her : kc_er (o B).2.1 = false := by
      rcases ha with z | ⟨n, hn, z⟩
      · rw [z]; decide
      · rw [z]; exact er_nI hn
    have ef := x_finish_ok her (w := kx_w (kw_b w p) b none) hp hL hpn hm1
    have hc1 := HC _ _ _ _ _ hb eb ef
    generalize hw1 : xw_whm (xw_whn (kx_w (kw_b w p) b none) (nI (if p < 8 then p + 1 else 0))) (nI (min (L.length + 1) 8)) = w1 at hc1
    have hm' : kb_m (xm_s w1) B := by rw [← hw1]; exact hm
    obtain ⟨s, hsx, es⟩ := h2 (xm_wwas w1 (xm_s w1)) B hm' hk
    rw [hn] at es
    by_cases h8 : L.length = 8
    · have hch : xm_ch (km_w (xm_wwas w1 (xm_s w1)) s none) = 8 := by
        rw [← hw1]
        exact hm2.trans (by rw [h8]; rfl)
      have eg := m_ends_ok ha (m_changed8 hch)
      refine ⟨_, _, _, hc1, HM _ _ _ _ _ (m_keeps _) es eg, (o B).1, (B :: L).take 8, S, hok, ?_, hsx, hist_ok hk hx hm hp hpn hh ?_ ?_ ?_ ?_ ?_, kr_s_of hs ?_ ?_ ?_ ?_, ?_⟩
      · rw [← hw1]; exact hbx
      · rw [← hw1]; rfl
      · rw [h8]; rfl
      · rw [← hw1]; rfl
      · rw [← hw1]; rfl
      · rw [← hw1, show min L.length 7 = 7 by omega, if_pos h8]; exact past8 _ _ rfl rfl
      · rw [← hw1]; rfl
      · rw [← hw1]; rfl
      · rw [← hw1]; rfl
      · rw [← hw1]; rfl
      · rw [← hw1]; exact hr
    · have hch : xm_ch (km_w (xm_wwas w1 (xm_s w1)) s none) = nI L.length := by
        rw [← hw1]
        exact hm2
      have eg := m_ends_ok ha (m_changed (show L.length < 8 by omega) hch)
      refine ⟨_, _, _, hc1, HM _ _ _ _ _ (m_keeps _) es eg, (o B).1, (B :: L).take 8, S, hok, ?_, hsx, hist_ok hk hx hm hp hpn hh ?_ ?_ ?_ ?_ ?_, kr_s_of hs ?_ ?_ ?_ ?_, ?_⟩
      · rw [← hw1]; exact hbx
      · rw [← hw1]; rfl
      · rw [show min (L.length + 1) 8 = L.length + 1 by omega]
      · rw [← hw1]; rfl
      · rw [← hw1]; rfl
      · rw [← hw1, show min L.length 7 = L.length by omega, if_neg h8]; exact pastn _ _ _ rfl rfl
      · rw [← hw1]; rfl
      · rw [← hw1]; rfl
      · rw [← hw1]; rfl
      · rw [← hw1]; rfl
      · rw [← hw1]; exact hr
