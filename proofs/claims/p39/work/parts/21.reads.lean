/-! Reads and writes of the world, and its start. Printed by gen3.py. -/
theorem ai_fget_of {ws : ai_W} {a ci k : Nat} {fs : List Value} (h : ws[a]? = some (.inr (.inr (ci, fs)))) : ai_fget ws a ci k = ai_nr fs[k]? := by
  unfold ai_fget
  rw [h]
  exact if_pos rfl
theorem ai_isob_of {ws : ai_W} {a ci : Nat} {fs : List Value} (h : ws[a]? = some (.inr (.inr (ci, fs)))) : ai_isob ws a ci = true := by
  unfold ai_isob
  rw [h]
  exact decide_eq_true rfl
theorem ai_fput_of {ws : ai_W} {a ci k : Nat} {fs : List Value} {v : Value} (h : ws[a]? = some (.inr (.inr (ci, fs)))) (hk : k < fs.length) (hp : ai_pok (ai_fty ci k) v = true) : ai_fput ws a ci k v = some (ws.set a (.inr (.inr (ci, fs.set k v)))) := by
  unfold ai_fput
  rw [h]
  exact if_pos ⟨rfl, hk, hp⟩
theorem ai_pok_int {t : Option FieldType} {v : Int32} (h : t = some .int) : ai_pok t (.int v) = true := by rw [h]; rfl
theorem ai_pok_z {t : Option FieldType} {v : Int32} (h : t = some .boolean) (hv : ai_pb v = true) : ai_pok t (.int v) = true := by rw [h]; exact hv
def ai_rg (n : Nat) (f : Nat → Int32) (i : Int32) : Int32 := if i < 0 then 0 else if i.toNatClampNeg < n then f i.toNatClampNeg else 0
theorem ai_aget_of {ws : ai_W} {a n : Nat} {f : Nat → Int32} {i : Int32} (h : ws[a]? = some (.inl (ai_t n f))) : ai_aget ws a i = (ai_ix i n).map f := by
  unfold ai_aget
  rw [h]
  simp only [ai_t_len]
  unfold ai_ix
  split
  · rfl
  · rename_i q
    simp only [Option.map_some, Option.some.injEq]
    exact ai_t_get (by omega)
theorem ai_aset_of {ws : ai_W} {a n : Nat} {f : Nat → Int32} {i x : Int32} (h : ws[a]? = some (.inl (ai_t n f))) : ai_aset ws a i x = (ai_ix i n).map fun j => ws.set a (.inl (ai_t n (upd f j x))) := by
  unfold ai_aset
  rw [h]
  simp only [ai_t_len, ai_t_set]
theorem ai_ix_nI {j n : Nat} (h : j < n) (hn : n < 2 ^ 31) : ai_ix (nI j) n = some j := by
  unfold ai_ix
  rw [if_neg (nI_in h hn), nI_clamp (by omega)]
theorem o_0 (w : xw_W) : ai_isob (wl w) 0 10 = true := ai_isob_of (g_0 w)
theorem f_0_0 (w : xw_W) : ai_fget (wl w) 0 10 0 = some (.ref 1) := ai_fget_of (g_0 w)
theorem f_0_1 (w : xw_W) : ai_fget (wl w) 0 10 1 = some (.ref 16) := ai_fget_of (g_0 w)
theorem f_0_2 (w : xw_W) : ai_fget (wl w) 0 10 2 = some (.ref 17) := ai_fget_of (g_0 w)
theorem f_0_3 (w : xw_W) : ai_fget (wl w) 0 10 3 = some (.ref 19) := ai_fget_of (g_0 w)
theorem f_0_4 (w : xw_W) : ai_fget (wl w) 0 10 4 = some (.ref 18) := ai_fget_of (g_0 w)
theorem f_0_5 (w : xw_W) : ai_fget (wl w) 0 10 5 = some (.ref 22) := ai_fget_of (g_0 w)
theorem f_0_6 (w : xw_W) : ai_fget (wl w) 0 10 6 = some (.ref 23) := ai_fget_of (g_0 w)
theorem f_0_7 (w : xw_W) : ai_fget (wl w) 0 10 7 = some (.ref 175) := ai_fget_of (g_0 w)
theorem f_0_8 (w : xw_W) : ai_fget (wl w) 0 10 8 = some (.ref 182) := ai_fget_of (g_0 w)
theorem o_1 (w : xw_W) : ai_isob (wl w) 1 0 = true := ai_isob_of (g_1 w)
theorem f_1_0 (w : xw_W) : ai_fget (wl w) 1 0 0 = some (.int (xb_n (xw_b w))) := ai_fget_of (g_1 w)
theorem f_1_1 (w : xw_W) : ai_fget (wl w) 1 0 1 = some (.int (xb_a (xw_b w))) := ai_fget_of (g_1 w)
theorem f_1_2 (w : xw_W) : ai_fget (wl w) 1 0 2 = some (.int (xb_t (xw_b w))) := ai_fget_of (g_1 w)
theorem f_1_3 (w : xw_W) : ai_fget (wl w) 1 0 3 = some (.ref 2) := ai_fget_of (g_1 w)
theorem f_1_4 (w : xw_W) : ai_fget (wl w) 1 0 4 = some (.ref 4) := ai_fget_of (g_1 w)
theorem f_1_5 (w : xw_W) : ai_fget (wl w) 1 0 5 = some (.ref 6) := ai_fget_of (g_1 w)
theorem f_1_6 (w : xw_W) : ai_fget (wl w) 1 0 6 = some (.ref 8) := ai_fget_of (g_1 w)
theorem f_1_7 (w : xw_W) : ai_fget (wl w) 1 0 7 = some (.ref 10) := ai_fget_of (g_1 w)
theorem f_1_8 (w : xw_W) : ai_fget (wl w) 1 0 8 = some (.ref 12) := ai_fget_of (g_1 w)
theorem f_1_9 (w : xw_W) : ai_fget (wl w) 1 0 9 = some (.ref 14) := ai_fget_of (g_1 w)
theorem o_16 (w : xw_W) : ai_isob (wl w) 16 4 = true := ai_isob_of (g_16 w)
theorem f_16_0 (w : xw_W) : ai_fget (wl w) 16 4 0 = some (.ref 1) := ai_fget_of (g_16 w)
theorem o_17 (w : xw_W) : ai_isob (wl w) 17 5 = true := ai_isob_of (g_17 w)
theorem f_17_0 (w : xw_W) : ai_fget (wl w) 17 5 0 = some (.ref 1) := ai_fget_of (g_17 w)
theorem o_18 (w : xw_W) : ai_isob (wl w) 18 7 = true := ai_isob_of (g_18 w)
theorem f_18_0 (w : xw_W) : ai_fget (wl w) 18 7 0 = some (.int (xw_rn w)) := ai_fget_of (g_18 w)
theorem f_18_1 (w : xw_W) : ai_fget (wl w) 18 7 1 = some (.int (xw_rr w)) := ai_fget_of (g_18 w)
theorem f_18_2 (w : xw_W) : ai_fget (wl w) 18 7 2 = some (.int (xw_rd w)) := ai_fget_of (g_18 w)
theorem f_18_3 (w : xw_W) : ai_fget (wl w) 18 7 3 = some (.int (xw_rc w)) := ai_fget_of (g_18 w)
theorem o_19 (w : xw_W) : ai_isob (wl w) 19 2 = true := ai_isob_of (g_19 w)
theorem f_19_0 (w : xw_W) : ai_fget (wl w) 19 2 0 = some (.ref 1) := ai_fget_of (g_19 w)
theorem f_19_1 (w : xw_W) : ai_fget (wl w) 19 2 1 = some (.ref 20) := ai_fget_of (g_19 w)
theorem o_22 (w : xw_W) : ai_isob (wl w) 22 1 = true := ai_isob_of (g_22 w)
theorem f_22_0 (w : xw_W) : ai_fget (wl w) 22 1 0 = some (.ref 1) := ai_fget_of (g_22 w)
theorem f_22_1 (w : xw_W) : ai_fget (wl w) 22 1 1 = some (.ref 16) := ai_fget_of (g_22 w)
theorem f_22_2 (w : xw_W) : ai_fget (wl w) 22 1 2 = some (.ref 17) := ai_fget_of (g_22 w)
theorem f_22_3 (w : xw_W) : ai_fget (wl w) 22 1 3 = some (.ref 18) := ai_fget_of (g_22 w)
theorem o_23 (w : xw_W) : ai_isob (wl w) 23 3 = true := ai_isob_of (g_23 w)
theorem f_23_0 (w : xw_W) : ai_fget (wl w) 23 3 0 = some (.ref 24) := ai_fget_of (g_23 w)
theorem f_23_1 (w : xw_W) : ai_fget (wl w) 23 3 1 = some (.ref 25) := ai_fget_of (g_23 w)
theorem f_23_2 (w : xw_W) : ai_fget (wl w) 23 3 2 = some (.int (xw_hn w)) := ai_fget_of (g_23 w)
theorem f_23_3 (w : xw_W) : ai_fget (wl w) 23 3 3 = some (.int (xw_hm w)) := ai_fget_of (g_23 w)
theorem f_23_4 (w : xw_W) : ai_fget (wl w) 23 3 4 = some (.int (xw_hs w)) := ai_fget_of (g_23 w)
theorem o_175 (w : xw_W) : ai_isob (wl w) 175 9 = true := ai_isob_of (g_175 w)
theorem f_175_0 (w : xw_W) : ai_fget (wl w) 175 9 0 = some (.ref 176) := ai_fget_of (g_175 w)
theorem f_175_1 (w : xw_W) : ai_fget (wl w) 175 9 1 = some (.ref 178) := ai_fget_of (g_175 w)
theorem f_175_2 (w : xw_W) : ai_fget (wl w) 175 9 2 = some (.ref 180) := ai_fget_of (g_175 w)
theorem f_175_3 (w : xw_W) : ai_fget (wl w) 175 9 3 = some (.int (xw_tl w)) := ai_fget_of (g_175 w)
theorem f_175_4 (w : xw_W) : ai_fget (wl w) 175 9 4 = some (.int (xw_tc w)) := ai_fget_of (g_175 w)
theorem f_175_5 (w : xw_W) : ai_fget (wl w) 175 9 5 = some (.int (xw_tp w)) := ai_fget_of (g_175 w)
theorem f_175_6 (w : xw_W) : ai_fget (wl w) 175 9 6 = some (.int (xw_tg w)) := ai_fget_of (g_175 w)
theorem o_182 (w : xw_W) : ai_isob (wl w) 182 6 = true := ai_isob_of (g_182 w)
theorem f_182_0 (w : xw_W) : ai_fget (wl w) 182 6 0 = some (.ref 183) := ai_fget_of (g_182 w)
theorem f_182_1 (w : xw_W) : ai_fget (wl w) 182 6 1 = some (.int (xw_ll w)) := ai_fget_of (g_182 w)
theorem ft_0_0 : ai_fty 0 0 = some .int := by decide +kernel
theorem p_1_0 (w : xw_W) (v : Int32) : ai_fput (wl w) 1 0 0 (.int v) = some (wl (xw_wb w (xb_wn (xw_b w) v))) := (ai_fput_of (g_1 w) (Nat.le_of_ble_eq_true rfl) (ai_pok_int ft_0_0)).trans rfl
theorem ft_0_1 : ai_fty 0 1 = some .int := by decide +kernel
theorem p_1_1 (w : xw_W) (v : Int32) : ai_fput (wl w) 1 0 1 (.int v) = some (wl (xw_wb w (xb_wa (xw_b w) v))) := (ai_fput_of (g_1 w) (Nat.le_of_ble_eq_true rfl) (ai_pok_int ft_0_1)).trans rfl
theorem ft_0_2 : ai_fty 0 2 = some .int := by decide +kernel
theorem p_1_2 (w : xw_W) (v : Int32) : ai_fput (wl w) 1 0 2 (.int v) = some (wl (xw_wb w (xb_wt (xw_b w) v))) := (ai_fput_of (g_1 w) (Nat.le_of_ble_eq_true rfl) (ai_pok_int ft_0_2)).trans rfl
theorem ft_7_0 : ai_fty 7 0 = some .int := by decide +kernel
theorem p_18_0 (w : xw_W) (v : Int32) : ai_fput (wl w) 18 7 0 (.int v) = some (wl (xw_wrn w v)) := (ai_fput_of (g_18 w) (Nat.le_of_ble_eq_true rfl) (ai_pok_int ft_7_0)).trans rfl
theorem ft_7_1 : ai_fty 7 1 = some .int := by decide +kernel
theorem p_18_1 (w : xw_W) (v : Int32) : ai_fput (wl w) 18 7 1 (.int v) = some (wl (xw_wrr w v)) := (ai_fput_of (g_18 w) (Nat.le_of_ble_eq_true rfl) (ai_pok_int ft_7_1)).trans rfl
theorem ft_7_2 : ai_fty 7 2 = some .int := by decide +kernel
theorem p_18_2 (w : xw_W) (v : Int32) : ai_fput (wl w) 18 7 2 (.int v) = some (wl (xw_wrd w v)) := (ai_fput_of (g_18 w) (Nat.le_of_ble_eq_true rfl) (ai_pok_int ft_7_2)).trans rfl
theorem ft_7_3 : ai_fty 7 3 = some .int := by decide +kernel
theorem p_18_3 (w : xw_W) (v : Int32) : ai_fput (wl w) 18 7 3 (.int v) = some (wl (xw_wrc w v)) := (ai_fput_of (g_18 w) (Nat.le_of_ble_eq_true rfl) (ai_pok_int ft_7_3)).trans rfl
theorem ft_3_2 : ai_fty 3 2 = some .int := by decide +kernel
theorem p_23_2 (w : xw_W) (v : Int32) : ai_fput (wl w) 23 3 2 (.int v) = some (wl (xw_whn w v)) := (ai_fput_of (g_23 w) (Nat.le_of_ble_eq_true rfl) (ai_pok_int ft_3_2)).trans rfl
theorem ft_3_3 : ai_fty 3 3 = some .int := by decide +kernel
theorem p_23_3 (w : xw_W) (v : Int32) : ai_fput (wl w) 23 3 3 (.int v) = some (wl (xw_whm w v)) := (ai_fput_of (g_23 w) (Nat.le_of_ble_eq_true rfl) (ai_pok_int ft_3_3)).trans rfl
theorem ft_3_4 : ai_fty 3 4 = some .boolean := by decide +kernel
theorem p_23_4 (w : xw_W) (v : Int32) (hv : ai_pb v = true) : ai_fput (wl w) 23 3 4 (.int v) = some (wl (xw_whs w v)) := (ai_fput_of (g_23 w) (Nat.le_of_ble_eq_true rfl) (ai_pok_z ft_3_4 hv)).trans rfl
theorem ft_9_3 : ai_fty 9 3 = some .int := by decide +kernel
theorem p_175_3 (w : xw_W) (v : Int32) : ai_fput (wl w) 175 9 3 (.int v) = some (wl (xw_wtl w v)) := (ai_fput_of (g_175 w) (Nat.le_of_ble_eq_true rfl) (ai_pok_int ft_9_3)).trans rfl
theorem ft_9_4 : ai_fty 9 4 = some .int := by decide +kernel
theorem p_175_4 (w : xw_W) (v : Int32) : ai_fput (wl w) 175 9 4 (.int v) = some (wl (xw_wtc w v)) := (ai_fput_of (g_175 w) (Nat.le_of_ble_eq_true rfl) (ai_pok_int ft_9_4)).trans rfl
theorem ft_9_5 : ai_fty 9 5 = some .int := by decide +kernel
theorem p_175_5 (w : xw_W) (v : Int32) : ai_fput (wl w) 175 9 5 (.int v) = some (wl (xw_wtp w v)) := (ai_fput_of (g_175 w) (Nat.le_of_ble_eq_true rfl) (ai_pok_int ft_9_5)).trans rfl
theorem ft_9_6 : ai_fty 9 6 = some .int := by decide +kernel
theorem p_175_6 (w : xw_W) (v : Int32) : ai_fput (wl w) 175 9 6 (.int v) = some (wl (xw_wtg w v)) := (ai_fput_of (g_175 w) (Nat.le_of_ble_eq_true rfl) (ai_pok_int ft_9_6)).trans rfl
theorem ft_6_1 : ai_fty 6 1 = some .int := by decide +kernel
theorem p_182_1 (w : xw_W) (v : Int32) : ai_fput (wl w) 182 6 1 (.int v) = some (wl (xw_wll w v)) := (ai_fput_of (g_182 w) (Nat.le_of_ble_eq_true rfl) (ai_pok_int ft_6_1)).trans rfl
set_option maxRecDepth 100000 in
theorem s_3 (w : xw_W) (f : Nat → Int32) : (wl w).set 3 (.inl (ai_t 8 f)) = wl (xw_wb w (xb_wtu (xw_b w) f)) := rfl
set_option maxRecDepth 100000 in
theorem s_5 (w : xw_W) (f : Nat → Int32) : (wl w).set 5 (.inl (ai_t 48 f)) = wl (xw_wb w (xb_wch (xw_b w) f)) := rfl
set_option maxRecDepth 100000 in
theorem s_7 (w : xw_W) (f : Nat → Int32) : (wl w).set 7 (.inl (ai_t 24 f)) = wl (xw_wb w (xb_wcu (xw_b w) f)) := rfl
set_option maxRecDepth 100000 in
theorem s_9 (w : xw_W) (f : Nat → Int32) : (wl w).set 9 (.inl (ai_t 31 f)) = wl (xw_wb w (xb_wwr (xw_b w) f)) := rfl
set_option maxRecDepth 100000 in
theorem s_11 (w : xw_W) (f : Nat → Int32) : (wl w).set 11 (.inl (ai_t 4 f)) = wl (xw_wb w (xb_wsw (xw_b w) f)) := rfl
set_option maxRecDepth 100000 in
theorem s_13 (w : xw_W) (f : Nat → Int32) : (wl w).set 13 (.inl (ai_t 64 f)) = wl (xw_wb w (xb_wmo (xw_b w) f)) := rfl
set_option maxRecDepth 100000 in
theorem s_15 (w : xw_W) (f : Nat → Int32) : (wl w).set 15 (.inl (ai_t 7 f)) = wl (xw_wb w (xb_wse (xw_b w) f)) := rfl
set_option maxRecDepth 100000 in
theorem s_21 (w : xw_W) (f : Nat → Int32) : (wl w).set 21 (.inl (ai_t 8 f)) = wl (xw_wky w f) := rfl
set_option maxRecDepth 100000 in
theorem s_177 (w : xw_W) (f : Nat → Int32) : (wl w).set 177 (.inl (ai_t 70 f)) = wl (xw_wco w f) := rfl
set_option maxRecDepth 100000 in
theorem s_179 (w : xw_W) (f : Nat → Int32) : (wl w).set 179 (.inl (ai_t 35 f)) = wl (xw_wki w f) := rfl
set_option maxRecDepth 100000 in
theorem s_181 (w : xw_W) (f : Nat → Int32) : (wl w).set 181 (.inl (ai_t 105 f)) = wl (xw_war w f) := rfl
set_option maxRecDepth 100000 in
theorem s_184 (w : xw_W) (f : Nat → Int32) : (wl w).set 184 (.inl (ai_t 40 f)) = wl (xw_wli w f) := rfl
def xb_0 : xb_B := ((0, 0, 0), fun _ => 0, fun _ => 0, fun _ => (-4), fun _ => (-4), fun _ => 0, fun _ => 0, fun _ => 0)
def xw_0 : xw_W := ((xb_0, fun _ => 0, (-4), (-4), (-4), (-4), fun _ => xb_0, xb_0, 0, 0, 0, fun _ => 0, fun _ => 0, fun _ => 0, 0, 0, 0, 0, fun _ => 0, 0), (0 : Int32))
