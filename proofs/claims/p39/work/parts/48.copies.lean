theorem up_up {α : Type} (f : Nat → α) (i : Nat) (a b : α) : up (up f i a) i b = up f i b := by
  funext j
  by_cases z : j = i
  · rw [z, up_at, up_at]
  · rw [up_ne _ z, up_ne _ z, up_ne _ z]
/-! Copies between the books of the class: the main one, the snapshot, the ring. -/
theorem hob_25 (w : xw_W) : ai_isob (wl w) 25 0 = true := ai_isob_of (g_25 w)
theorem hf_25_0 (w : xw_W) : ai_fget (wl w) 25 0 0 = some (.int (xb_n (xw_sn w))) := ai_fget_of (g_25 w)
set_option maxRecDepth 100000 in
theorem hp_25_0 (w : xw_W) (v : Int32) : ai_fput (wl w) 25 0 0 (.int v) = some (wl (xw_wsn w (xb_wn (xw_sn w) v))) := (ai_fput_of (g_25 w) (Nat.le_of_ble_eq_true rfl) (ai_pok_int ft_0_0)).trans rfl
theorem hf_25_1 (w : xw_W) : ai_fget (wl w) 25 0 1 = some (.int (xb_a (xw_sn w))) := ai_fget_of (g_25 w)
set_option maxRecDepth 100000 in
theorem hp_25_1 (w : xw_W) (v : Int32) : ai_fput (wl w) 25 0 1 (.int v) = some (wl (xw_wsn w (xb_wa (xw_sn w) v))) := (ai_fput_of (g_25 w) (Nat.le_of_ble_eq_true rfl) (ai_pok_int ft_0_1)).trans rfl
theorem hf_25_2 (w : xw_W) : ai_fget (wl w) 25 0 2 = some (.int (xb_t (xw_sn w))) := ai_fget_of (g_25 w)
set_option maxRecDepth 100000 in
theorem hp_25_2 (w : xw_W) (v : Int32) : ai_fput (wl w) 25 0 2 (.int v) = some (wl (xw_wsn w (xb_wt (xw_sn w) v))) := (ai_fput_of (g_25 w) (Nat.le_of_ble_eq_true rfl) (ai_pok_int ft_0_2)).trans rfl
theorem hf_25_3 (w : xw_W) : ai_fget (wl w) 25 0 3 = some (.ref 26) := ai_fget_of (g_25 w)
set_option maxRecDepth 100000 in
theorem hs_25_0 (w : xw_W) (f : Nat → Int32) : (wl w).set 27 (.inl (ai_t 8 f)) = wl (xw_wsn w (xb_wtu (xw_sn w) f)) := rfl
theorem hf_25_4 (w : xw_W) : ai_fget (wl w) 25 0 4 = some (.ref 28) := ai_fget_of (g_25 w)
set_option maxRecDepth 100000 in
theorem hs_25_1 (w : xw_W) (f : Nat → Int32) : (wl w).set 29 (.inl (ai_t 48 f)) = wl (xw_wsn w (xb_wch (xw_sn w) f)) := rfl
theorem hf_25_5 (w : xw_W) : ai_fget (wl w) 25 0 5 = some (.ref 30) := ai_fget_of (g_25 w)
set_option maxRecDepth 100000 in
theorem hs_25_2 (w : xw_W) (f : Nat → Int32) : (wl w).set 31 (.inl (ai_t 24 f)) = wl (xw_wsn w (xb_wcu (xw_sn w) f)) := rfl
theorem hf_25_6 (w : xw_W) : ai_fget (wl w) 25 0 6 = some (.ref 32) := ai_fget_of (g_25 w)
set_option maxRecDepth 100000 in
theorem hs_25_3 (w : xw_W) (f : Nat → Int32) : (wl w).set 33 (.inl (ai_t 31 f)) = wl (xw_wsn w (xb_wwr (xw_sn w) f)) := rfl
theorem hf_25_7 (w : xw_W) : ai_fget (wl w) 25 0 7 = some (.ref 34) := ai_fget_of (g_25 w)
set_option maxRecDepth 100000 in
theorem hs_25_4 (w : xw_W) (f : Nat → Int32) : (wl w).set 35 (.inl (ai_t 4 f)) = wl (xw_wsn w (xb_wsw (xw_sn w) f)) := rfl
theorem hf_25_8 (w : xw_W) : ai_fget (wl w) 25 0 8 = some (.ref 36) := ai_fget_of (g_25 w)
set_option maxRecDepth 100000 in
theorem hs_25_5 (w : xw_W) (f : Nat → Int32) : (wl w).set 37 (.inl (ai_t 64 f)) = wl (xw_wsn w (xb_wmo (xw_sn w) f)) := rfl
theorem hf_25_9 (w : xw_W) : ai_fget (wl w) 25 0 9 = some (.ref 38) := ai_fget_of (g_25 w)
set_option maxRecDepth 100000 in
theorem hs_25_6 (w : xw_W) (f : Nat → Int32) : (wl w).set 39 (.inl (ai_t 7 f)) = wl (xw_wsn w (xb_wse (xw_sn w) f)) := rfl
theorem hob_40 (w : xw_W) : ai_isob (wl w) 40 0 = true := ai_isob_of (g_40 w)
theorem hf_40_0 (w : xw_W) : ai_fget (wl w) 40 0 0 = some (.int (xb_n (xw_hi w 0))) := ai_fget_of (g_40 w)
set_option maxRecDepth 100000 in
theorem hp_40_0 (w : xw_W) (v : Int32) : ai_fput (wl w) 40 0 0 (.int v) = some (wl (xw_whi w (up (xw_hi w) 0 (xb_wn (xw_hi w 0) v)))) := (ai_fput_of (g_40 w) (Nat.le_of_ble_eq_true rfl) (ai_pok_int ft_0_0)).trans rfl
theorem hf_40_1 (w : xw_W) : ai_fget (wl w) 40 0 1 = some (.int (xb_a (xw_hi w 0))) := ai_fget_of (g_40 w)
set_option maxRecDepth 100000 in
theorem hp_40_1 (w : xw_W) (v : Int32) : ai_fput (wl w) 40 0 1 (.int v) = some (wl (xw_whi w (up (xw_hi w) 0 (xb_wa (xw_hi w 0) v)))) := (ai_fput_of (g_40 w) (Nat.le_of_ble_eq_true rfl) (ai_pok_int ft_0_1)).trans rfl
theorem hf_40_2 (w : xw_W) : ai_fget (wl w) 40 0 2 = some (.int (xb_t (xw_hi w 0))) := ai_fget_of (g_40 w)
set_option maxRecDepth 100000 in
theorem hp_40_2 (w : xw_W) (v : Int32) : ai_fput (wl w) 40 0 2 (.int v) = some (wl (xw_whi w (up (xw_hi w) 0 (xb_wt (xw_hi w 0) v)))) := (ai_fput_of (g_40 w) (Nat.le_of_ble_eq_true rfl) (ai_pok_int ft_0_2)).trans rfl
theorem hf_40_3 (w : xw_W) : ai_fget (wl w) 40 0 3 = some (.ref 41) := ai_fget_of (g_40 w)
set_option maxRecDepth 100000 in
theorem hs_40_0 (w : xw_W) (f : Nat → Int32) : (wl w).set 42 (.inl (ai_t 8 f)) = wl (xw_whi w (up (xw_hi w) 0 (xb_wtu (xw_hi w 0) f))) := rfl
theorem hf_40_4 (w : xw_W) : ai_fget (wl w) 40 0 4 = some (.ref 43) := ai_fget_of (g_40 w)
set_option maxRecDepth 100000 in
theorem hs_40_1 (w : xw_W) (f : Nat → Int32) : (wl w).set 44 (.inl (ai_t 48 f)) = wl (xw_whi w (up (xw_hi w) 0 (xb_wch (xw_hi w 0) f))) := rfl
theorem hf_40_5 (w : xw_W) : ai_fget (wl w) 40 0 5 = some (.ref 45) := ai_fget_of (g_40 w)
set_option maxRecDepth 100000 in
theorem hs_40_2 (w : xw_W) (f : Nat → Int32) : (wl w).set 46 (.inl (ai_t 24 f)) = wl (xw_whi w (up (xw_hi w) 0 (xb_wcu (xw_hi w 0) f))) := rfl
theorem hf_40_6 (w : xw_W) : ai_fget (wl w) 40 0 6 = some (.ref 47) := ai_fget_of (g_40 w)
set_option maxRecDepth 100000 in
theorem hs_40_3 (w : xw_W) (f : Nat → Int32) : (wl w).set 48 (.inl (ai_t 31 f)) = wl (xw_whi w (up (xw_hi w) 0 (xb_wwr (xw_hi w 0) f))) := rfl
theorem hf_40_7 (w : xw_W) : ai_fget (wl w) 40 0 7 = some (.ref 49) := ai_fget_of (g_40 w)
set_option maxRecDepth 100000 in
theorem hs_40_4 (w : xw_W) (f : Nat → Int32) : (wl w).set 50 (.inl (ai_t 4 f)) = wl (xw_whi w (up (xw_hi w) 0 (xb_wsw (xw_hi w 0) f))) := rfl
theorem hf_40_8 (w : xw_W) : ai_fget (wl w) 40 0 8 = some (.ref 51) := ai_fget_of (g_40 w)
set_option maxRecDepth 100000 in
theorem hs_40_5 (w : xw_W) (f : Nat → Int32) : (wl w).set 52 (.inl (ai_t 64 f)) = wl (xw_whi w (up (xw_hi w) 0 (xb_wmo (xw_hi w 0) f))) := rfl
theorem hf_40_9 (w : xw_W) : ai_fget (wl w) 40 0 9 = some (.ref 53) := ai_fget_of (g_40 w)
set_option maxRecDepth 100000 in
theorem hs_40_6 (w : xw_W) (f : Nat → Int32) : (wl w).set 54 (.inl (ai_t 7 f)) = wl (xw_whi w (up (xw_hi w) 0 (xb_wse (xw_hi w 0) f))) := rfl
theorem hob_55 (w : xw_W) : ai_isob (wl w) 55 0 = true := ai_isob_of (g_55 w)
theorem hf_55_0 (w : xw_W) : ai_fget (wl w) 55 0 0 = some (.int (xb_n (xw_hi w 1))) := ai_fget_of (g_55 w)
set_option maxRecDepth 100000 in
theorem hp_55_0 (w : xw_W) (v : Int32) : ai_fput (wl w) 55 0 0 (.int v) = some (wl (xw_whi w (up (xw_hi w) 1 (xb_wn (xw_hi w 1) v)))) := (ai_fput_of (g_55 w) (Nat.le_of_ble_eq_true rfl) (ai_pok_int ft_0_0)).trans rfl
theorem hf_55_1 (w : xw_W) : ai_fget (wl w) 55 0 1 = some (.int (xb_a (xw_hi w 1))) := ai_fget_of (g_55 w)
set_option maxRecDepth 100000 in
theorem hp_55_1 (w : xw_W) (v : Int32) : ai_fput (wl w) 55 0 1 (.int v) = some (wl (xw_whi w (up (xw_hi w) 1 (xb_wa (xw_hi w 1) v)))) := (ai_fput_of (g_55 w) (Nat.le_of_ble_eq_true rfl) (ai_pok_int ft_0_1)).trans rfl
theorem hf_55_2 (w : xw_W) : ai_fget (wl w) 55 0 2 = some (.int (xb_t (xw_hi w 1))) := ai_fget_of (g_55 w)
set_option maxRecDepth 100000 in
theorem hp_55_2 (w : xw_W) (v : Int32) : ai_fput (wl w) 55 0 2 (.int v) = some (wl (xw_whi w (up (xw_hi w) 1 (xb_wt (xw_hi w 1) v)))) := (ai_fput_of (g_55 w) (Nat.le_of_ble_eq_true rfl) (ai_pok_int ft_0_2)).trans rfl
theorem hf_55_3 (w : xw_W) : ai_fget (wl w) 55 0 3 = some (.ref 56) := ai_fget_of (g_55 w)
set_option maxRecDepth 100000 in
theorem hs_55_0 (w : xw_W) (f : Nat → Int32) : (wl w).set 57 (.inl (ai_t 8 f)) = wl (xw_whi w (up (xw_hi w) 1 (xb_wtu (xw_hi w 1) f))) := rfl
theorem hf_55_4 (w : xw_W) : ai_fget (wl w) 55 0 4 = some (.ref 58) := ai_fget_of (g_55 w)
set_option maxRecDepth 100000 in
theorem hs_55_1 (w : xw_W) (f : Nat → Int32) : (wl w).set 59 (.inl (ai_t 48 f)) = wl (xw_whi w (up (xw_hi w) 1 (xb_wch (xw_hi w 1) f))) := rfl
theorem hf_55_5 (w : xw_W) : ai_fget (wl w) 55 0 5 = some (.ref 60) := ai_fget_of (g_55 w)
set_option maxRecDepth 100000 in
theorem hs_55_2 (w : xw_W) (f : Nat → Int32) : (wl w).set 61 (.inl (ai_t 24 f)) = wl (xw_whi w (up (xw_hi w) 1 (xb_wcu (xw_hi w 1) f))) := rfl
theorem hf_55_6 (w : xw_W) : ai_fget (wl w) 55 0 6 = some (.ref 62) := ai_fget_of (g_55 w)
set_option maxRecDepth 100000 in
theorem hs_55_3 (w : xw_W) (f : Nat → Int32) : (wl w).set 63 (.inl (ai_t 31 f)) = wl (xw_whi w (up (xw_hi w) 1 (xb_wwr (xw_hi w 1) f))) := rfl
theorem hf_55_7 (w : xw_W) : ai_fget (wl w) 55 0 7 = some (.ref 64) := ai_fget_of (g_55 w)
set_option maxRecDepth 100000 in
theorem hs_55_4 (w : xw_W) (f : Nat → Int32) : (wl w).set 65 (.inl (ai_t 4 f)) = wl (xw_whi w (up (xw_hi w) 1 (xb_wsw (xw_hi w 1) f))) := rfl
theorem hf_55_8 (w : xw_W) : ai_fget (wl w) 55 0 8 = some (.ref 66) := ai_fget_of (g_55 w)
set_option maxRecDepth 100000 in
theorem hs_55_5 (w : xw_W) (f : Nat → Int32) : (wl w).set 67 (.inl (ai_t 64 f)) = wl (xw_whi w (up (xw_hi w) 1 (xb_wmo (xw_hi w 1) f))) := rfl
theorem hf_55_9 (w : xw_W) : ai_fget (wl w) 55 0 9 = some (.ref 68) := ai_fget_of (g_55 w)
set_option maxRecDepth 100000 in
theorem hs_55_6 (w : xw_W) (f : Nat → Int32) : (wl w).set 69 (.inl (ai_t 7 f)) = wl (xw_whi w (up (xw_hi w) 1 (xb_wse (xw_hi w 1) f))) := rfl
theorem hob_70 (w : xw_W) : ai_isob (wl w) 70 0 = true := ai_isob_of (g_70 w)
theorem hf_70_0 (w : xw_W) : ai_fget (wl w) 70 0 0 = some (.int (xb_n (xw_hi w 2))) := ai_fget_of (g_70 w)
set_option maxRecDepth 100000 in
theorem hp_70_0 (w : xw_W) (v : Int32) : ai_fput (wl w) 70 0 0 (.int v) = some (wl (xw_whi w (up (xw_hi w) 2 (xb_wn (xw_hi w 2) v)))) := (ai_fput_of (g_70 w) (Nat.le_of_ble_eq_true rfl) (ai_pok_int ft_0_0)).trans rfl
theorem hf_70_1 (w : xw_W) : ai_fget (wl w) 70 0 1 = some (.int (xb_a (xw_hi w 2))) := ai_fget_of (g_70 w)
set_option maxRecDepth 100000 in
theorem hp_70_1 (w : xw_W) (v : Int32) : ai_fput (wl w) 70 0 1 (.int v) = some (wl (xw_whi w (up (xw_hi w) 2 (xb_wa (xw_hi w 2) v)))) := (ai_fput_of (g_70 w) (Nat.le_of_ble_eq_true rfl) (ai_pok_int ft_0_1)).trans rfl
theorem hf_70_2 (w : xw_W) : ai_fget (wl w) 70 0 2 = some (.int (xb_t (xw_hi w 2))) := ai_fget_of (g_70 w)
set_option maxRecDepth 100000 in
theorem hp_70_2 (w : xw_W) (v : Int32) : ai_fput (wl w) 70 0 2 (.int v) = some (wl (xw_whi w (up (xw_hi w) 2 (xb_wt (xw_hi w 2) v)))) := (ai_fput_of (g_70 w) (Nat.le_of_ble_eq_true rfl) (ai_pok_int ft_0_2)).trans rfl
theorem hf_70_3 (w : xw_W) : ai_fget (wl w) 70 0 3 = some (.ref 71) := ai_fget_of (g_70 w)
set_option maxRecDepth 100000 in
theorem hs_70_0 (w : xw_W) (f : Nat → Int32) : (wl w).set 72 (.inl (ai_t 8 f)) = wl (xw_whi w (up (xw_hi w) 2 (xb_wtu (xw_hi w 2) f))) := rfl
theorem hf_70_4 (w : xw_W) : ai_fget (wl w) 70 0 4 = some (.ref 73) := ai_fget_of (g_70 w)
set_option maxRecDepth 100000 in
theorem hs_70_1 (w : xw_W) (f : Nat → Int32) : (wl w).set 74 (.inl (ai_t 48 f)) = wl (xw_whi w (up (xw_hi w) 2 (xb_wch (xw_hi w 2) f))) := rfl
theorem hf_70_5 (w : xw_W) : ai_fget (wl w) 70 0 5 = some (.ref 75) := ai_fget_of (g_70 w)
set_option maxRecDepth 100000 in
theorem hs_70_2 (w : xw_W) (f : Nat → Int32) : (wl w).set 76 (.inl (ai_t 24 f)) = wl (xw_whi w (up (xw_hi w) 2 (xb_wcu (xw_hi w 2) f))) := rfl
theorem hf_70_6 (w : xw_W) : ai_fget (wl w) 70 0 6 = some (.ref 77) := ai_fget_of (g_70 w)
set_option maxRecDepth 100000 in
theorem hs_70_3 (w : xw_W) (f : Nat → Int32) : (wl w).set 78 (.inl (ai_t 31 f)) = wl (xw_whi w (up (xw_hi w) 2 (xb_wwr (xw_hi w 2) f))) := rfl
theorem hf_70_7 (w : xw_W) : ai_fget (wl w) 70 0 7 = some (.ref 79) := ai_fget_of (g_70 w)
set_option maxRecDepth 100000 in
theorem hs_70_4 (w : xw_W) (f : Nat → Int32) : (wl w).set 80 (.inl (ai_t 4 f)) = wl (xw_whi w (up (xw_hi w) 2 (xb_wsw (xw_hi w 2) f))) := rfl
theorem hf_70_8 (w : xw_W) : ai_fget (wl w) 70 0 8 = some (.ref 81) := ai_fget_of (g_70 w)
set_option maxRecDepth 100000 in
theorem hs_70_5 (w : xw_W) (f : Nat → Int32) : (wl w).set 82 (.inl (ai_t 64 f)) = wl (xw_whi w (up (xw_hi w) 2 (xb_wmo (xw_hi w 2) f))) := rfl
theorem hf_70_9 (w : xw_W) : ai_fget (wl w) 70 0 9 = some (.ref 83) := ai_fget_of (g_70 w)
set_option maxRecDepth 100000 in
theorem hs_70_6 (w : xw_W) (f : Nat → Int32) : (wl w).set 84 (.inl (ai_t 7 f)) = wl (xw_whi w (up (xw_hi w) 2 (xb_wse (xw_hi w 2) f))) := rfl
theorem hob_85 (w : xw_W) : ai_isob (wl w) 85 0 = true := ai_isob_of (g_85 w)
theorem hf_85_0 (w : xw_W) : ai_fget (wl w) 85 0 0 = some (.int (xb_n (xw_hi w 3))) := ai_fget_of (g_85 w)
set_option maxRecDepth 100000 in
theorem hp_85_0 (w : xw_W) (v : Int32) : ai_fput (wl w) 85 0 0 (.int v) = some (wl (xw_whi w (up (xw_hi w) 3 (xb_wn (xw_hi w 3) v)))) := (ai_fput_of (g_85 w) (Nat.le_of_ble_eq_true rfl) (ai_pok_int ft_0_0)).trans rfl
theorem hf_85_1 (w : xw_W) : ai_fget (wl w) 85 0 1 = some (.int (xb_a (xw_hi w 3))) := ai_fget_of (g_85 w)
set_option maxRecDepth 100000 in
theorem hp_85_1 (w : xw_W) (v : Int32) : ai_fput (wl w) 85 0 1 (.int v) = some (wl (xw_whi w (up (xw_hi w) 3 (xb_wa (xw_hi w 3) v)))) := (ai_fput_of (g_85 w) (Nat.le_of_ble_eq_true rfl) (ai_pok_int ft_0_1)).trans rfl
theorem hf_85_2 (w : xw_W) : ai_fget (wl w) 85 0 2 = some (.int (xb_t (xw_hi w 3))) := ai_fget_of (g_85 w)
set_option maxRecDepth 100000 in
theorem hp_85_2 (w : xw_W) (v : Int32) : ai_fput (wl w) 85 0 2 (.int v) = some (wl (xw_whi w (up (xw_hi w) 3 (xb_wt (xw_hi w 3) v)))) := (ai_fput_of (g_85 w) (Nat.le_of_ble_eq_true rfl) (ai_pok_int ft_0_2)).trans rfl
theorem hf_85_3 (w : xw_W) : ai_fget (wl w) 85 0 3 = some (.ref 86) := ai_fget_of (g_85 w)
set_option maxRecDepth 100000 in
theorem hs_85_0 (w : xw_W) (f : Nat → Int32) : (wl w).set 87 (.inl (ai_t 8 f)) = wl (xw_whi w (up (xw_hi w) 3 (xb_wtu (xw_hi w 3) f))) := rfl
theorem hf_85_4 (w : xw_W) : ai_fget (wl w) 85 0 4 = some (.ref 88) := ai_fget_of (g_85 w)
set_option maxRecDepth 100000 in
theorem hs_85_1 (w : xw_W) (f : Nat → Int32) : (wl w).set 89 (.inl (ai_t 48 f)) = wl (xw_whi w (up (xw_hi w) 3 (xb_wch (xw_hi w 3) f))) := rfl
theorem hf_85_5 (w : xw_W) : ai_fget (wl w) 85 0 5 = some (.ref 90) := ai_fget_of (g_85 w)
set_option maxRecDepth 100000 in
theorem hs_85_2 (w : xw_W) (f : Nat → Int32) : (wl w).set 91 (.inl (ai_t 24 f)) = wl (xw_whi w (up (xw_hi w) 3 (xb_wcu (xw_hi w 3) f))) := rfl
theorem hf_85_6 (w : xw_W) : ai_fget (wl w) 85 0 6 = some (.ref 92) := ai_fget_of (g_85 w)
set_option maxRecDepth 100000 in
theorem hs_85_3 (w : xw_W) (f : Nat → Int32) : (wl w).set 93 (.inl (ai_t 31 f)) = wl (xw_whi w (up (xw_hi w) 3 (xb_wwr (xw_hi w 3) f))) := rfl
theorem hf_85_7 (w : xw_W) : ai_fget (wl w) 85 0 7 = some (.ref 94) := ai_fget_of (g_85 w)
set_option maxRecDepth 100000 in
theorem hs_85_4 (w : xw_W) (f : Nat → Int32) : (wl w).set 95 (.inl (ai_t 4 f)) = wl (xw_whi w (up (xw_hi w) 3 (xb_wsw (xw_hi w 3) f))) := rfl
theorem hf_85_8 (w : xw_W) : ai_fget (wl w) 85 0 8 = some (.ref 96) := ai_fget_of (g_85 w)
set_option maxRecDepth 100000 in
theorem hs_85_5 (w : xw_W) (f : Nat → Int32) : (wl w).set 97 (.inl (ai_t 64 f)) = wl (xw_whi w (up (xw_hi w) 3 (xb_wmo (xw_hi w 3) f))) := rfl
theorem hf_85_9 (w : xw_W) : ai_fget (wl w) 85 0 9 = some (.ref 98) := ai_fget_of (g_85 w)
set_option maxRecDepth 100000 in
theorem hs_85_6 (w : xw_W) (f : Nat → Int32) : (wl w).set 99 (.inl (ai_t 7 f)) = wl (xw_whi w (up (xw_hi w) 3 (xb_wse (xw_hi w 3) f))) := rfl
theorem hob_100 (w : xw_W) : ai_isob (wl w) 100 0 = true := ai_isob_of (g_100 w)
theorem hf_100_0 (w : xw_W) : ai_fget (wl w) 100 0 0 = some (.int (xb_n (xw_hi w 4))) := ai_fget_of (g_100 w)
set_option maxRecDepth 100000 in
theorem hp_100_0 (w : xw_W) (v : Int32) : ai_fput (wl w) 100 0 0 (.int v) = some (wl (xw_whi w (up (xw_hi w) 4 (xb_wn (xw_hi w 4) v)))) := (ai_fput_of (g_100 w) (Nat.le_of_ble_eq_true rfl) (ai_pok_int ft_0_0)).trans rfl
theorem hf_100_1 (w : xw_W) : ai_fget (wl w) 100 0 1 = some (.int (xb_a (xw_hi w 4))) := ai_fget_of (g_100 w)
set_option maxRecDepth 100000 in
theorem hp_100_1 (w : xw_W) (v : Int32) : ai_fput (wl w) 100 0 1 (.int v) = some (wl (xw_whi w (up (xw_hi w) 4 (xb_wa (xw_hi w 4) v)))) := (ai_fput_of (g_100 w) (Nat.le_of_ble_eq_true rfl) (ai_pok_int ft_0_1)).trans rfl
theorem hf_100_2 (w : xw_W) : ai_fget (wl w) 100 0 2 = some (.int (xb_t (xw_hi w 4))) := ai_fget_of (g_100 w)
set_option maxRecDepth 100000 in
theorem hp_100_2 (w : xw_W) (v : Int32) : ai_fput (wl w) 100 0 2 (.int v) = some (wl (xw_whi w (up (xw_hi w) 4 (xb_wt (xw_hi w 4) v)))) := (ai_fput_of (g_100 w) (Nat.le_of_ble_eq_true rfl) (ai_pok_int ft_0_2)).trans rfl
theorem hf_100_3 (w : xw_W) : ai_fget (wl w) 100 0 3 = some (.ref 101) := ai_fget_of (g_100 w)
set_option maxRecDepth 100000 in
theorem hs_100_0 (w : xw_W) (f : Nat → Int32) : (wl w).set 102 (.inl (ai_t 8 f)) = wl (xw_whi w (up (xw_hi w) 4 (xb_wtu (xw_hi w 4) f))) := rfl
theorem hf_100_4 (w : xw_W) : ai_fget (wl w) 100 0 4 = some (.ref 103) := ai_fget_of (g_100 w)
set_option maxRecDepth 100000 in
theorem hs_100_1 (w : xw_W) (f : Nat → Int32) : (wl w).set 104 (.inl (ai_t 48 f)) = wl (xw_whi w (up (xw_hi w) 4 (xb_wch (xw_hi w 4) f))) := rfl
theorem hf_100_5 (w : xw_W) : ai_fget (wl w) 100 0 5 = some (.ref 105) := ai_fget_of (g_100 w)
set_option maxRecDepth 100000 in
theorem hs_100_2 (w : xw_W) (f : Nat → Int32) : (wl w).set 106 (.inl (ai_t 24 f)) = wl (xw_whi w (up (xw_hi w) 4 (xb_wcu (xw_hi w 4) f))) := rfl
theorem hf_100_6 (w : xw_W) : ai_fget (wl w) 100 0 6 = some (.ref 107) := ai_fget_of (g_100 w)
set_option maxRecDepth 100000 in
theorem hs_100_3 (w : xw_W) (f : Nat → Int32) : (wl w).set 108 (.inl (ai_t 31 f)) = wl (xw_whi w (up (xw_hi w) 4 (xb_wwr (xw_hi w 4) f))) := rfl
theorem hf_100_7 (w : xw_W) : ai_fget (wl w) 100 0 7 = some (.ref 109) := ai_fget_of (g_100 w)
set_option maxRecDepth 100000 in
theorem hs_100_4 (w : xw_W) (f : Nat → Int32) : (wl w).set 110 (.inl (ai_t 4 f)) = wl (xw_whi w (up (xw_hi w) 4 (xb_wsw (xw_hi w 4) f))) := rfl
theorem hf_100_8 (w : xw_W) : ai_fget (wl w) 100 0 8 = some (.ref 111) := ai_fget_of (g_100 w)
set_option maxRecDepth 100000 in
theorem hs_100_5 (w : xw_W) (f : Nat → Int32) : (wl w).set 112 (.inl (ai_t 64 f)) = wl (xw_whi w (up (xw_hi w) 4 (xb_wmo (xw_hi w 4) f))) := rfl
theorem hf_100_9 (w : xw_W) : ai_fget (wl w) 100 0 9 = some (.ref 113) := ai_fget_of (g_100 w)
set_option maxRecDepth 100000 in
theorem hs_100_6 (w : xw_W) (f : Nat → Int32) : (wl w).set 114 (.inl (ai_t 7 f)) = wl (xw_whi w (up (xw_hi w) 4 (xb_wse (xw_hi w 4) f))) := rfl
theorem hob_115 (w : xw_W) : ai_isob (wl w) 115 0 = true := ai_isob_of (g_115 w)
theorem hf_115_0 (w : xw_W) : ai_fget (wl w) 115 0 0 = some (.int (xb_n (xw_hi w 5))) := ai_fget_of (g_115 w)
set_option maxRecDepth 100000 in
theorem hp_115_0 (w : xw_W) (v : Int32) : ai_fput (wl w) 115 0 0 (.int v) = some (wl (xw_whi w (up (xw_hi w) 5 (xb_wn (xw_hi w 5) v)))) := (ai_fput_of (g_115 w) (Nat.le_of_ble_eq_true rfl) (ai_pok_int ft_0_0)).trans rfl
theorem hf_115_1 (w : xw_W) : ai_fget (wl w) 115 0 1 = some (.int (xb_a (xw_hi w 5))) := ai_fget_of (g_115 w)
set_option maxRecDepth 100000 in
theorem hp_115_1 (w : xw_W) (v : Int32) : ai_fput (wl w) 115 0 1 (.int v) = some (wl (xw_whi w (up (xw_hi w) 5 (xb_wa (xw_hi w 5) v)))) := (ai_fput_of (g_115 w) (Nat.le_of_ble_eq_true rfl) (ai_pok_int ft_0_1)).trans rfl
theorem hf_115_2 (w : xw_W) : ai_fget (wl w) 115 0 2 = some (.int (xb_t (xw_hi w 5))) := ai_fget_of (g_115 w)
set_option maxRecDepth 100000 in
theorem hp_115_2 (w : xw_W) (v : Int32) : ai_fput (wl w) 115 0 2 (.int v) = some (wl (xw_whi w (up (xw_hi w) 5 (xb_wt (xw_hi w 5) v)))) := (ai_fput_of (g_115 w) (Nat.le_of_ble_eq_true rfl) (ai_pok_int ft_0_2)).trans rfl
theorem hf_115_3 (w : xw_W) : ai_fget (wl w) 115 0 3 = some (.ref 116) := ai_fget_of (g_115 w)
set_option maxRecDepth 100000 in
theorem hs_115_0 (w : xw_W) (f : Nat → Int32) : (wl w).set 117 (.inl (ai_t 8 f)) = wl (xw_whi w (up (xw_hi w) 5 (xb_wtu (xw_hi w 5) f))) := rfl
theorem hf_115_4 (w : xw_W) : ai_fget (wl w) 115 0 4 = some (.ref 118) := ai_fget_of (g_115 w)
set_option maxRecDepth 100000 in
theorem hs_115_1 (w : xw_W) (f : Nat → Int32) : (wl w).set 119 (.inl (ai_t 48 f)) = wl (xw_whi w (up (xw_hi w) 5 (xb_wch (xw_hi w 5) f))) := rfl
theorem hf_115_5 (w : xw_W) : ai_fget (wl w) 115 0 5 = some (.ref 120) := ai_fget_of (g_115 w)
set_option maxRecDepth 100000 in
theorem hs_115_2 (w : xw_W) (f : Nat → Int32) : (wl w).set 121 (.inl (ai_t 24 f)) = wl (xw_whi w (up (xw_hi w) 5 (xb_wcu (xw_hi w 5) f))) := rfl
theorem hf_115_6 (w : xw_W) : ai_fget (wl w) 115 0 6 = some (.ref 122) := ai_fget_of (g_115 w)
set_option maxRecDepth 100000 in
theorem hs_115_3 (w : xw_W) (f : Nat → Int32) : (wl w).set 123 (.inl (ai_t 31 f)) = wl (xw_whi w (up (xw_hi w) 5 (xb_wwr (xw_hi w 5) f))) := rfl
theorem hf_115_7 (w : xw_W) : ai_fget (wl w) 115 0 7 = some (.ref 124) := ai_fget_of (g_115 w)
set_option maxRecDepth 100000 in
theorem hs_115_4 (w : xw_W) (f : Nat → Int32) : (wl w).set 125 (.inl (ai_t 4 f)) = wl (xw_whi w (up (xw_hi w) 5 (xb_wsw (xw_hi w 5) f))) := rfl
theorem hf_115_8 (w : xw_W) : ai_fget (wl w) 115 0 8 = some (.ref 126) := ai_fget_of (g_115 w)
set_option maxRecDepth 100000 in
theorem hs_115_5 (w : xw_W) (f : Nat → Int32) : (wl w).set 127 (.inl (ai_t 64 f)) = wl (xw_whi w (up (xw_hi w) 5 (xb_wmo (xw_hi w 5) f))) := rfl
theorem hf_115_9 (w : xw_W) : ai_fget (wl w) 115 0 9 = some (.ref 128) := ai_fget_of (g_115 w)
set_option maxRecDepth 100000 in
theorem hs_115_6 (w : xw_W) (f : Nat → Int32) : (wl w).set 129 (.inl (ai_t 7 f)) = wl (xw_whi w (up (xw_hi w) 5 (xb_wse (xw_hi w 5) f))) := rfl
theorem hob_130 (w : xw_W) : ai_isob (wl w) 130 0 = true := ai_isob_of (g_130 w)
theorem hf_130_0 (w : xw_W) : ai_fget (wl w) 130 0 0 = some (.int (xb_n (xw_hi w 6))) := ai_fget_of (g_130 w)
set_option maxRecDepth 100000 in
theorem hp_130_0 (w : xw_W) (v : Int32) : ai_fput (wl w) 130 0 0 (.int v) = some (wl (xw_whi w (up (xw_hi w) 6 (xb_wn (xw_hi w 6) v)))) := (ai_fput_of (g_130 w) (Nat.le_of_ble_eq_true rfl) (ai_pok_int ft_0_0)).trans rfl
theorem hf_130_1 (w : xw_W) : ai_fget (wl w) 130 0 1 = some (.int (xb_a (xw_hi w 6))) := ai_fget_of (g_130 w)
set_option maxRecDepth 100000 in
theorem hp_130_1 (w : xw_W) (v : Int32) : ai_fput (wl w) 130 0 1 (.int v) = some (wl (xw_whi w (up (xw_hi w) 6 (xb_wa (xw_hi w 6) v)))) := (ai_fput_of (g_130 w) (Nat.le_of_ble_eq_true rfl) (ai_pok_int ft_0_1)).trans rfl
theorem hf_130_2 (w : xw_W) : ai_fget (wl w) 130 0 2 = some (.int (xb_t (xw_hi w 6))) := ai_fget_of (g_130 w)
set_option maxRecDepth 100000 in
theorem hp_130_2 (w : xw_W) (v : Int32) : ai_fput (wl w) 130 0 2 (.int v) = some (wl (xw_whi w (up (xw_hi w) 6 (xb_wt (xw_hi w 6) v)))) := (ai_fput_of (g_130 w) (Nat.le_of_ble_eq_true rfl) (ai_pok_int ft_0_2)).trans rfl
theorem hf_130_3 (w : xw_W) : ai_fget (wl w) 130 0 3 = some (.ref 131) := ai_fget_of (g_130 w)
set_option maxRecDepth 100000 in
theorem hs_130_0 (w : xw_W) (f : Nat → Int32) : (wl w).set 132 (.inl (ai_t 8 f)) = wl (xw_whi w (up (xw_hi w) 6 (xb_wtu (xw_hi w 6) f))) := rfl
theorem hf_130_4 (w : xw_W) : ai_fget (wl w) 130 0 4 = some (.ref 133) := ai_fget_of (g_130 w)
set_option maxRecDepth 100000 in
theorem hs_130_1 (w : xw_W) (f : Nat → Int32) : (wl w).set 134 (.inl (ai_t 48 f)) = wl (xw_whi w (up (xw_hi w) 6 (xb_wch (xw_hi w 6) f))) := rfl
theorem hf_130_5 (w : xw_W) : ai_fget (wl w) 130 0 5 = some (.ref 135) := ai_fget_of (g_130 w)
set_option maxRecDepth 100000 in
theorem hs_130_2 (w : xw_W) (f : Nat → Int32) : (wl w).set 136 (.inl (ai_t 24 f)) = wl (xw_whi w (up (xw_hi w) 6 (xb_wcu (xw_hi w 6) f))) := rfl
theorem hf_130_6 (w : xw_W) : ai_fget (wl w) 130 0 6 = some (.ref 137) := ai_fget_of (g_130 w)
set_option maxRecDepth 100000 in
theorem hs_130_3 (w : xw_W) (f : Nat → Int32) : (wl w).set 138 (.inl (ai_t 31 f)) = wl (xw_whi w (up (xw_hi w) 6 (xb_wwr (xw_hi w 6) f))) := rfl
theorem hf_130_7 (w : xw_W) : ai_fget (wl w) 130 0 7 = some (.ref 139) := ai_fget_of (g_130 w)
set_option maxRecDepth 100000 in
theorem hs_130_4 (w : xw_W) (f : Nat → Int32) : (wl w).set 140 (.inl (ai_t 4 f)) = wl (xw_whi w (up (xw_hi w) 6 (xb_wsw (xw_hi w 6) f))) := rfl
theorem hf_130_8 (w : xw_W) : ai_fget (wl w) 130 0 8 = some (.ref 141) := ai_fget_of (g_130 w)
set_option maxRecDepth 100000 in
theorem hs_130_5 (w : xw_W) (f : Nat → Int32) : (wl w).set 142 (.inl (ai_t 64 f)) = wl (xw_whi w (up (xw_hi w) 6 (xb_wmo (xw_hi w 6) f))) := rfl
theorem hf_130_9 (w : xw_W) : ai_fget (wl w) 130 0 9 = some (.ref 143) := ai_fget_of (g_130 w)
set_option maxRecDepth 100000 in
theorem hs_130_6 (w : xw_W) (f : Nat → Int32) : (wl w).set 144 (.inl (ai_t 7 f)) = wl (xw_whi w (up (xw_hi w) 6 (xb_wse (xw_hi w 6) f))) := rfl
theorem hob_145 (w : xw_W) : ai_isob (wl w) 145 0 = true := ai_isob_of (g_145 w)
theorem hf_145_0 (w : xw_W) : ai_fget (wl w) 145 0 0 = some (.int (xb_n (xw_hi w 7))) := ai_fget_of (g_145 w)
set_option maxRecDepth 100000 in
theorem hp_145_0 (w : xw_W) (v : Int32) : ai_fput (wl w) 145 0 0 (.int v) = some (wl (xw_whi w (up (xw_hi w) 7 (xb_wn (xw_hi w 7) v)))) := (ai_fput_of (g_145 w) (Nat.le_of_ble_eq_true rfl) (ai_pok_int ft_0_0)).trans rfl
theorem hf_145_1 (w : xw_W) : ai_fget (wl w) 145 0 1 = some (.int (xb_a (xw_hi w 7))) := ai_fget_of (g_145 w)
set_option maxRecDepth 100000 in
theorem hp_145_1 (w : xw_W) (v : Int32) : ai_fput (wl w) 145 0 1 (.int v) = some (wl (xw_whi w (up (xw_hi w) 7 (xb_wa (xw_hi w 7) v)))) := (ai_fput_of (g_145 w) (Nat.le_of_ble_eq_true rfl) (ai_pok_int ft_0_1)).trans rfl
theorem hf_145_2 (w : xw_W) : ai_fget (wl w) 145 0 2 = some (.int (xb_t (xw_hi w 7))) := ai_fget_of (g_145 w)
set_option maxRecDepth 100000 in
theorem hp_145_2 (w : xw_W) (v : Int32) : ai_fput (wl w) 145 0 2 (.int v) = some (wl (xw_whi w (up (xw_hi w) 7 (xb_wt (xw_hi w 7) v)))) := (ai_fput_of (g_145 w) (Nat.le_of_ble_eq_true rfl) (ai_pok_int ft_0_2)).trans rfl
theorem hf_145_3 (w : xw_W) : ai_fget (wl w) 145 0 3 = some (.ref 146) := ai_fget_of (g_145 w)
set_option maxRecDepth 100000 in
theorem hs_145_0 (w : xw_W) (f : Nat → Int32) : (wl w).set 147 (.inl (ai_t 8 f)) = wl (xw_whi w (up (xw_hi w) 7 (xb_wtu (xw_hi w 7) f))) := rfl
theorem hf_145_4 (w : xw_W) : ai_fget (wl w) 145 0 4 = some (.ref 148) := ai_fget_of (g_145 w)
set_option maxRecDepth 100000 in
theorem hs_145_1 (w : xw_W) (f : Nat → Int32) : (wl w).set 149 (.inl (ai_t 48 f)) = wl (xw_whi w (up (xw_hi w) 7 (xb_wch (xw_hi w 7) f))) := rfl
theorem hf_145_5 (w : xw_W) : ai_fget (wl w) 145 0 5 = some (.ref 150) := ai_fget_of (g_145 w)
set_option maxRecDepth 100000 in
theorem hs_145_2 (w : xw_W) (f : Nat → Int32) : (wl w).set 151 (.inl (ai_t 24 f)) = wl (xw_whi w (up (xw_hi w) 7 (xb_wcu (xw_hi w 7) f))) := rfl
theorem hf_145_6 (w : xw_W) : ai_fget (wl w) 145 0 6 = some (.ref 152) := ai_fget_of (g_145 w)
set_option maxRecDepth 100000 in
theorem hs_145_3 (w : xw_W) (f : Nat → Int32) : (wl w).set 153 (.inl (ai_t 31 f)) = wl (xw_whi w (up (xw_hi w) 7 (xb_wwr (xw_hi w 7) f))) := rfl
theorem hf_145_7 (w : xw_W) : ai_fget (wl w) 145 0 7 = some (.ref 154) := ai_fget_of (g_145 w)
set_option maxRecDepth 100000 in
theorem hs_145_4 (w : xw_W) (f : Nat → Int32) : (wl w).set 155 (.inl (ai_t 4 f)) = wl (xw_whi w (up (xw_hi w) 7 (xb_wsw (xw_hi w 7) f))) := rfl
theorem hf_145_8 (w : xw_W) : ai_fget (wl w) 145 0 8 = some (.ref 156) := ai_fget_of (g_145 w)
set_option maxRecDepth 100000 in
theorem hs_145_5 (w : xw_W) (f : Nat → Int32) : (wl w).set 157 (.inl (ai_t 64 f)) = wl (xw_whi w (up (xw_hi w) 7 (xb_wmo (xw_hi w 7) f))) := rfl
theorem hf_145_9 (w : xw_W) : ai_fget (wl w) 145 0 9 = some (.ref 158) := ai_fget_of (g_145 w)
set_option maxRecDepth 100000 in
theorem hs_145_6 (w : xw_W) (f : Nat → Int32) : (wl w).set 159 (.inl (ai_t 7 f)) = wl (xw_whi w (up (xw_hi w) 7 (xb_wse (xw_hi w 7) f))) := rfl
theorem hob_160 (w : xw_W) : ai_isob (wl w) 160 0 = true := ai_isob_of (g_160 w)
theorem hf_160_0 (w : xw_W) : ai_fget (wl w) 160 0 0 = some (.int (xb_n (xw_hi w 8))) := ai_fget_of (g_160 w)
set_option maxRecDepth 100000 in
theorem hp_160_0 (w : xw_W) (v : Int32) : ai_fput (wl w) 160 0 0 (.int v) = some (wl (xw_whi w (up (xw_hi w) 8 (xb_wn (xw_hi w 8) v)))) := (ai_fput_of (g_160 w) (Nat.le_of_ble_eq_true rfl) (ai_pok_int ft_0_0)).trans rfl
theorem hf_160_1 (w : xw_W) : ai_fget (wl w) 160 0 1 = some (.int (xb_a (xw_hi w 8))) := ai_fget_of (g_160 w)
set_option maxRecDepth 100000 in
theorem hp_160_1 (w : xw_W) (v : Int32) : ai_fput (wl w) 160 0 1 (.int v) = some (wl (xw_whi w (up (xw_hi w) 8 (xb_wa (xw_hi w 8) v)))) := (ai_fput_of (g_160 w) (Nat.le_of_ble_eq_true rfl) (ai_pok_int ft_0_1)).trans rfl
theorem hf_160_2 (w : xw_W) : ai_fget (wl w) 160 0 2 = some (.int (xb_t (xw_hi w 8))) := ai_fget_of (g_160 w)
set_option maxRecDepth 100000 in
theorem hp_160_2 (w : xw_W) (v : Int32) : ai_fput (wl w) 160 0 2 (.int v) = some (wl (xw_whi w (up (xw_hi w) 8 (xb_wt (xw_hi w 8) v)))) := (ai_fput_of (g_160 w) (Nat.le_of_ble_eq_true rfl) (ai_pok_int ft_0_2)).trans rfl
theorem hf_160_3 (w : xw_W) : ai_fget (wl w) 160 0 3 = some (.ref 161) := ai_fget_of (g_160 w)
set_option maxRecDepth 100000 in
theorem hs_160_0 (w : xw_W) (f : Nat → Int32) : (wl w).set 162 (.inl (ai_t 8 f)) = wl (xw_whi w (up (xw_hi w) 8 (xb_wtu (xw_hi w 8) f))) := rfl
theorem hf_160_4 (w : xw_W) : ai_fget (wl w) 160 0 4 = some (.ref 163) := ai_fget_of (g_160 w)
set_option maxRecDepth 100000 in
theorem hs_160_1 (w : xw_W) (f : Nat → Int32) : (wl w).set 164 (.inl (ai_t 48 f)) = wl (xw_whi w (up (xw_hi w) 8 (xb_wch (xw_hi w 8) f))) := rfl
theorem hf_160_5 (w : xw_W) : ai_fget (wl w) 160 0 5 = some (.ref 165) := ai_fget_of (g_160 w)
set_option maxRecDepth 100000 in
theorem hs_160_2 (w : xw_W) (f : Nat → Int32) : (wl w).set 166 (.inl (ai_t 24 f)) = wl (xw_whi w (up (xw_hi w) 8 (xb_wcu (xw_hi w 8) f))) := rfl
theorem hf_160_6 (w : xw_W) : ai_fget (wl w) 160 0 6 = some (.ref 167) := ai_fget_of (g_160 w)
set_option maxRecDepth 100000 in
theorem hs_160_3 (w : xw_W) (f : Nat → Int32) : (wl w).set 168 (.inl (ai_t 31 f)) = wl (xw_whi w (up (xw_hi w) 8 (xb_wwr (xw_hi w 8) f))) := rfl
theorem hf_160_7 (w : xw_W) : ai_fget (wl w) 160 0 7 = some (.ref 169) := ai_fget_of (g_160 w)
set_option maxRecDepth 100000 in
theorem hs_160_4 (w : xw_W) (f : Nat → Int32) : (wl w).set 170 (.inl (ai_t 4 f)) = wl (xw_whi w (up (xw_hi w) 8 (xb_wsw (xw_hi w 8) f))) := rfl
theorem hf_160_8 (w : xw_W) : ai_fget (wl w) 160 0 8 = some (.ref 171) := ai_fget_of (g_160 w)
set_option maxRecDepth 100000 in
theorem hs_160_5 (w : xw_W) (f : Nat → Int32) : (wl w).set 172 (.inl (ai_t 64 f)) = wl (xw_whi w (up (xw_hi w) 8 (xb_wmo (xw_hi w 8) f))) := rfl
theorem hf_160_9 (w : xw_W) : ai_fget (wl w) 160 0 9 = some (.ref 173) := ai_fget_of (g_160 w)
set_option maxRecDepth 100000 in
theorem hs_160_6 (w : xw_W) (f : Nat → Int32) : (wl w).set 174 (.inl (ai_t 7 f)) = wl (xw_whi w (up (xw_hi w) 8 (xb_wse (xw_hi w 8) f))) := rfl
theorem hc_25_1_0 (w : xw_W) : ai_Call 43 [.ref 26, .ref 2] (wl w) = some (none, wl (xw_wsn w (xb_wtu (xw_sn w) (xb_tu (xw_b w))))) := by rw [x_copy (g_26 w) (g_27 w) (g_2 w) (g_3 w) (by decide), hs_25_0]
theorem hc_25_1_1 (w : xw_W) : ai_Call 43 [.ref 28, .ref 4] (wl w) = some (none, wl (xw_wsn w (xb_wch (xw_sn w) (xb_ch (xw_b w))))) := by rw [x_copy (g_28 w) (g_29 w) (g_4 w) (g_5 w) (by decide), hs_25_1]
theorem hc_25_1_2 (w : xw_W) : ai_Call 43 [.ref 30, .ref 6] (wl w) = some (none, wl (xw_wsn w (xb_wcu (xw_sn w) (xb_cu (xw_b w))))) := by rw [x_copy (g_30 w) (g_31 w) (g_6 w) (g_7 w) (by decide), hs_25_2]
theorem hc_25_1_3 (w : xw_W) : ai_Call 43 [.ref 32, .ref 8] (wl w) = some (none, wl (xw_wsn w (xb_wwr (xw_sn w) (xb_wr (xw_b w))))) := by rw [x_copy (g_32 w) (g_33 w) (g_8 w) (g_9 w) (by decide), hs_25_3]
theorem hc_25_1_4 (w : xw_W) : ai_Call 43 [.ref 34, .ref 10] (wl w) = some (none, wl (xw_wsn w (xb_wsw (xw_sn w) (xb_sw (xw_b w))))) := by rw [x_copy (g_34 w) (g_35 w) (g_10 w) (g_11 w) (by decide), hs_25_4]
theorem hc_25_1_5 (w : xw_W) : ai_Call 43 [.ref 36, .ref 12] (wl w) = some (none, wl (xw_wsn w (xb_wmo (xw_sn w) (xb_mo (xw_b w))))) := by rw [x_copy (g_36 w) (g_37 w) (g_12 w) (g_13 w) (by decide), hs_25_5]
theorem hc_25_1_6 (w : xw_W) : ai_Call 43 [.ref 38, .ref 14] (wl w) = some (none, wl (xw_wsn w (xb_wse (xw_sn w) (xb_se (xw_b w))))) := by rw [x_copy (g_38 w) (g_39 w) (g_14 w) (g_15 w) (by decide), hs_25_6]
theorem bc_25_1 (w : xw_W) : ai_Call 44 [.ref 25, .ref 1] (wl w) = some (none, wl (xw_wsn w (xw_b w))) := by
  simp only [e_44, hob_25, r_44_0, r_44_1, r_44_2, r_44_5, r_44_8, r_44_9, r_44_10, r_44_13, r_44_16, r_44_17, r_44_18, r_44_21, r_44_24, r_44_25, r_44_28, r_44_29, r_44_32, r_44_35, r_44_36, r_44_39, r_44_40, r_44_43, r_44_46, r_44_47, r_44_50, r_44_51, r_44_54, r_44_57, r_44_58, r_44_61, r_44_62, r_44_65, r_44_68, r_44_69, r_44_72, r_44_73, r_44_76, r_44_79, r_44_80, r_44_83, r_44_84, r_44_87, r_44_90, r_44_91, r_44_94, r_44_95, r_44_98, r_44_101, Option.bind_some, Option.bind_none, Option.toList_some, Option.toList_none, List.cons_append, List.nil_append, Option.map_some, Option.map_none, eq_self, if_true, if_false, reduceIte, ai_bi_eq0, ai_bi_eq1, ai_pb_bi, ai_pb_0, ai_pb_1, f_1_0, f_1_1, f_1_2, f_1_3, f_1_4, f_1_5, f_1_6, f_1_7, f_1_8, f_1_9, hf_25_3, hf_25_4, hf_25_5, hf_25_6, hf_25_7, hf_25_8, hf_25_9, hp_25_0, hp_25_1, hp_25_2, hc_25_1_0, hc_25_1_1, hc_25_1_2, hc_25_1_3, hc_25_1_4, hc_25_1_5, hc_25_1_6]
  try rfl
theorem hc_1_25_0 (w : xw_W) : ai_Call 43 [.ref 2, .ref 26] (wl w) = some (none, wl (xw_wb w (xb_wtu (xw_b w) (xb_tu (xw_sn w))))) := by rw [x_copy (g_2 w) (g_3 w) (g_26 w) (g_27 w) (by decide), s_3]
theorem hc_1_25_1 (w : xw_W) : ai_Call 43 [.ref 4, .ref 28] (wl w) = some (none, wl (xw_wb w (xb_wch (xw_b w) (xb_ch (xw_sn w))))) := by rw [x_copy (g_4 w) (g_5 w) (g_28 w) (g_29 w) (by decide), s_5]
theorem hc_1_25_2 (w : xw_W) : ai_Call 43 [.ref 6, .ref 30] (wl w) = some (none, wl (xw_wb w (xb_wcu (xw_b w) (xb_cu (xw_sn w))))) := by rw [x_copy (g_6 w) (g_7 w) (g_30 w) (g_31 w) (by decide), s_7]
theorem hc_1_25_3 (w : xw_W) : ai_Call 43 [.ref 8, .ref 32] (wl w) = some (none, wl (xw_wb w (xb_wwr (xw_b w) (xb_wr (xw_sn w))))) := by rw [x_copy (g_8 w) (g_9 w) (g_32 w) (g_33 w) (by decide), s_9]
theorem hc_1_25_4 (w : xw_W) : ai_Call 43 [.ref 10, .ref 34] (wl w) = some (none, wl (xw_wb w (xb_wsw (xw_b w) (xb_sw (xw_sn w))))) := by rw [x_copy (g_10 w) (g_11 w) (g_34 w) (g_35 w) (by decide), s_11]
theorem hc_1_25_5 (w : xw_W) : ai_Call 43 [.ref 12, .ref 36] (wl w) = some (none, wl (xw_wb w (xb_wmo (xw_b w) (xb_mo (xw_sn w))))) := by rw [x_copy (g_12 w) (g_13 w) (g_36 w) (g_37 w) (by decide), s_13]
theorem hc_1_25_6 (w : xw_W) : ai_Call 43 [.ref 14, .ref 38] (wl w) = some (none, wl (xw_wb w (xb_wse (xw_b w) (xb_se (xw_sn w))))) := by rw [x_copy (g_14 w) (g_15 w) (g_38 w) (g_39 w) (by decide), s_15]
theorem bc_1_25 (w : xw_W) : ai_Call 44 [.ref 1, .ref 25] (wl w) = some (none, wl (xw_wb w (xw_sn w))) := by
  simp only [e_44, o_1, r_44_0, r_44_1, r_44_2, r_44_5, r_44_8, r_44_9, r_44_10, r_44_13, r_44_16, r_44_17, r_44_18, r_44_21, r_44_24, r_44_25, r_44_28, r_44_29, r_44_32, r_44_35, r_44_36, r_44_39, r_44_40, r_44_43, r_44_46, r_44_47, r_44_50, r_44_51, r_44_54, r_44_57, r_44_58, r_44_61, r_44_62, r_44_65, r_44_68, r_44_69, r_44_72, r_44_73, r_44_76, r_44_79, r_44_80, r_44_83, r_44_84, r_44_87, r_44_90, r_44_91, r_44_94, r_44_95, r_44_98, r_44_101, Option.bind_some, Option.bind_none, Option.toList_some, Option.toList_none, List.cons_append, List.nil_append, Option.map_some, Option.map_none, eq_self, if_true, if_false, reduceIte, ai_bi_eq0, ai_bi_eq1, ai_pb_bi, ai_pb_0, ai_pb_1, hf_25_0, hf_25_1, hf_25_2, hf_25_3, hf_25_4, hf_25_5, hf_25_6, hf_25_7, hf_25_8, hf_25_9, f_1_3, f_1_4, f_1_5, f_1_6, f_1_7, f_1_8, f_1_9, p_1_0, p_1_1, p_1_2, hc_1_25_0, hc_1_25_1, hc_1_25_2, hc_1_25_3, hc_1_25_4, hc_1_25_5, hc_1_25_6]
  try rfl
theorem hc_40_1_0 (w : xw_W) : ai_Call 43 [.ref 41, .ref 2] (wl w) = some (none, wl (xw_whi w (up (xw_hi w) 0 (xb_wtu (xw_hi w 0) (xb_tu (xw_b w)))))) := by rw [x_copy (g_41 w) (g_42 w) (g_2 w) (g_3 w) (by decide), hs_40_0]
theorem hc_40_1_1 (w : xw_W) : ai_Call 43 [.ref 43, .ref 4] (wl w) = some (none, wl (xw_whi w (up (xw_hi w) 0 (xb_wch (xw_hi w 0) (xb_ch (xw_b w)))))) := by rw [x_copy (g_43 w) (g_44 w) (g_4 w) (g_5 w) (by decide), hs_40_1]
theorem hc_40_1_2 (w : xw_W) : ai_Call 43 [.ref 45, .ref 6] (wl w) = some (none, wl (xw_whi w (up (xw_hi w) 0 (xb_wcu (xw_hi w 0) (xb_cu (xw_b w)))))) := by rw [x_copy (g_45 w) (g_46 w) (g_6 w) (g_7 w) (by decide), hs_40_2]
theorem hc_40_1_3 (w : xw_W) : ai_Call 43 [.ref 47, .ref 8] (wl w) = some (none, wl (xw_whi w (up (xw_hi w) 0 (xb_wwr (xw_hi w 0) (xb_wr (xw_b w)))))) := by rw [x_copy (g_47 w) (g_48 w) (g_8 w) (g_9 w) (by decide), hs_40_3]
theorem hc_40_1_4 (w : xw_W) : ai_Call 43 [.ref 49, .ref 10] (wl w) = some (none, wl (xw_whi w (up (xw_hi w) 0 (xb_wsw (xw_hi w 0) (xb_sw (xw_b w)))))) := by rw [x_copy (g_49 w) (g_50 w) (g_10 w) (g_11 w) (by decide), hs_40_4]
theorem hc_40_1_5 (w : xw_W) : ai_Call 43 [.ref 51, .ref 12] (wl w) = some (none, wl (xw_whi w (up (xw_hi w) 0 (xb_wmo (xw_hi w 0) (xb_mo (xw_b w)))))) := by rw [x_copy (g_51 w) (g_52 w) (g_12 w) (g_13 w) (by decide), hs_40_5]
theorem hc_40_1_6 (w : xw_W) : ai_Call 43 [.ref 53, .ref 14] (wl w) = some (none, wl (xw_whi w (up (xw_hi w) 0 (xb_wse (xw_hi w 0) (xb_se (xw_b w)))))) := by rw [x_copy (g_53 w) (g_54 w) (g_14 w) (g_15 w) (by decide), hs_40_6]
theorem bc_40_1 (w : xw_W) : ai_Call 44 [.ref 40, .ref 1] (wl w) = some (none, wl (xw_whi w (up (xw_hi w) 0 (xw_b w)))) := by
  simp only [e_44, hob_40, r_44_0, r_44_1, r_44_2, r_44_5, r_44_8, r_44_9, r_44_10, r_44_13, r_44_16, r_44_17, r_44_18, r_44_21, r_44_24, r_44_25, r_44_28, r_44_29, r_44_32, r_44_35, r_44_36, r_44_39, r_44_40, r_44_43, r_44_46, r_44_47, r_44_50, r_44_51, r_44_54, r_44_57, r_44_58, r_44_61, r_44_62, r_44_65, r_44_68, r_44_69, r_44_72, r_44_73, r_44_76, r_44_79, r_44_80, r_44_83, r_44_84, r_44_87, r_44_90, r_44_91, r_44_94, r_44_95, r_44_98, r_44_101, Option.bind_some, Option.bind_none, Option.toList_some, Option.toList_none, List.cons_append, List.nil_append, Option.map_some, Option.map_none, eq_self, if_true, if_false, reduceIte, ai_bi_eq0, ai_bi_eq1, ai_pb_bi, ai_pb_0, ai_pb_1, f_1_0, f_1_1, f_1_2, f_1_3, f_1_4, f_1_5, f_1_6, f_1_7, f_1_8, f_1_9, hf_40_3, hf_40_4, hf_40_5, hf_40_6, hf_40_7, hf_40_8, hf_40_9, hp_40_0, hp_40_1, hp_40_2, hc_40_1_0, hc_40_1_1, hc_40_1_2, hc_40_1_3, hc_40_1_4, hc_40_1_5, hc_40_1_6]
  refine congrArg (fun f => some (none, wl (xw_whi w f))) (funext fun j => ?_)
  by_cases z : j = 0
  · subst z
    rfl
  · refine (up_ne _ z _).trans (Eq.trans ?_ (up_ne _ z _).symm)
    iterate 9 refine (up_ne _ z _).trans ?_
    rfl
theorem hc_55_1_0 (w : xw_W) : ai_Call 43 [.ref 56, .ref 2] (wl w) = some (none, wl (xw_whi w (up (xw_hi w) 1 (xb_wtu (xw_hi w 1) (xb_tu (xw_b w)))))) := by rw [x_copy (g_56 w) (g_57 w) (g_2 w) (g_3 w) (by decide), hs_55_0]
theorem hc_55_1_1 (w : xw_W) : ai_Call 43 [.ref 58, .ref 4] (wl w) = some (none, wl (xw_whi w (up (xw_hi w) 1 (xb_wch (xw_hi w 1) (xb_ch (xw_b w)))))) := by rw [x_copy (g_58 w) (g_59 w) (g_4 w) (g_5 w) (by decide), hs_55_1]
theorem hc_55_1_2 (w : xw_W) : ai_Call 43 [.ref 60, .ref 6] (wl w) = some (none, wl (xw_whi w (up (xw_hi w) 1 (xb_wcu (xw_hi w 1) (xb_cu (xw_b w)))))) := by rw [x_copy (g_60 w) (g_61 w) (g_6 w) (g_7 w) (by decide), hs_55_2]
theorem hc_55_1_3 (w : xw_W) : ai_Call 43 [.ref 62, .ref 8] (wl w) = some (none, wl (xw_whi w (up (xw_hi w) 1 (xb_wwr (xw_hi w 1) (xb_wr (xw_b w)))))) := by rw [x_copy (g_62 w) (g_63 w) (g_8 w) (g_9 w) (by decide), hs_55_3]
theorem hc_55_1_4 (w : xw_W) : ai_Call 43 [.ref 64, .ref 10] (wl w) = some (none, wl (xw_whi w (up (xw_hi w) 1 (xb_wsw (xw_hi w 1) (xb_sw (xw_b w)))))) := by rw [x_copy (g_64 w) (g_65 w) (g_10 w) (g_11 w) (by decide), hs_55_4]
theorem hc_55_1_5 (w : xw_W) : ai_Call 43 [.ref 66, .ref 12] (wl w) = some (none, wl (xw_whi w (up (xw_hi w) 1 (xb_wmo (xw_hi w 1) (xb_mo (xw_b w)))))) := by rw [x_copy (g_66 w) (g_67 w) (g_12 w) (g_13 w) (by decide), hs_55_5]
theorem hc_55_1_6 (w : xw_W) : ai_Call 43 [.ref 68, .ref 14] (wl w) = some (none, wl (xw_whi w (up (xw_hi w) 1 (xb_wse (xw_hi w 1) (xb_se (xw_b w)))))) := by rw [x_copy (g_68 w) (g_69 w) (g_14 w) (g_15 w) (by decide), hs_55_6]
theorem bc_55_1 (w : xw_W) : ai_Call 44 [.ref 55, .ref 1] (wl w) = some (none, wl (xw_whi w (up (xw_hi w) 1 (xw_b w)))) := by
  simp only [e_44, hob_55, r_44_0, r_44_1, r_44_2, r_44_5, r_44_8, r_44_9, r_44_10, r_44_13, r_44_16, r_44_17, r_44_18, r_44_21, r_44_24, r_44_25, r_44_28, r_44_29, r_44_32, r_44_35, r_44_36, r_44_39, r_44_40, r_44_43, r_44_46, r_44_47, r_44_50, r_44_51, r_44_54, r_44_57, r_44_58, r_44_61, r_44_62, r_44_65, r_44_68, r_44_69, r_44_72, r_44_73, r_44_76, r_44_79, r_44_80, r_44_83, r_44_84, r_44_87, r_44_90, r_44_91, r_44_94, r_44_95, r_44_98, r_44_101, Option.bind_some, Option.bind_none, Option.toList_some, Option.toList_none, List.cons_append, List.nil_append, Option.map_some, Option.map_none, eq_self, if_true, if_false, reduceIte, ai_bi_eq0, ai_bi_eq1, ai_pb_bi, ai_pb_0, ai_pb_1, f_1_0, f_1_1, f_1_2, f_1_3, f_1_4, f_1_5, f_1_6, f_1_7, f_1_8, f_1_9, hf_55_3, hf_55_4, hf_55_5, hf_55_6, hf_55_7, hf_55_8, hf_55_9, hp_55_0, hp_55_1, hp_55_2, hc_55_1_0, hc_55_1_1, hc_55_1_2, hc_55_1_3, hc_55_1_4, hc_55_1_5, hc_55_1_6]
  refine congrArg (fun f => some (none, wl (xw_whi w f))) (funext fun j => ?_)
  by_cases z : j = 1
  · subst z
    rfl
  · refine (up_ne _ z _).trans (Eq.trans ?_ (up_ne _ z _).symm)
    iterate 9 refine (up_ne _ z _).trans ?_
    rfl
theorem hc_70_1_0 (w : xw_W) : ai_Call 43 [.ref 71, .ref 2] (wl w) = some (none, wl (xw_whi w (up (xw_hi w) 2 (xb_wtu (xw_hi w 2) (xb_tu (xw_b w)))))) := by rw [x_copy (g_71 w) (g_72 w) (g_2 w) (g_3 w) (by decide), hs_70_0]
theorem hc_70_1_1 (w : xw_W) : ai_Call 43 [.ref 73, .ref 4] (wl w) = some (none, wl (xw_whi w (up (xw_hi w) 2 (xb_wch (xw_hi w 2) (xb_ch (xw_b w)))))) := by rw [x_copy (g_73 w) (g_74 w) (g_4 w) (g_5 w) (by decide), hs_70_1]
theorem hc_70_1_2 (w : xw_W) : ai_Call 43 [.ref 75, .ref 6] (wl w) = some (none, wl (xw_whi w (up (xw_hi w) 2 (xb_wcu (xw_hi w 2) (xb_cu (xw_b w)))))) := by rw [x_copy (g_75 w) (g_76 w) (g_6 w) (g_7 w) (by decide), hs_70_2]
theorem hc_70_1_3 (w : xw_W) : ai_Call 43 [.ref 77, .ref 8] (wl w) = some (none, wl (xw_whi w (up (xw_hi w) 2 (xb_wwr (xw_hi w 2) (xb_wr (xw_b w)))))) := by rw [x_copy (g_77 w) (g_78 w) (g_8 w) (g_9 w) (by decide), hs_70_3]
theorem hc_70_1_4 (w : xw_W) : ai_Call 43 [.ref 79, .ref 10] (wl w) = some (none, wl (xw_whi w (up (xw_hi w) 2 (xb_wsw (xw_hi w 2) (xb_sw (xw_b w)))))) := by rw [x_copy (g_79 w) (g_80 w) (g_10 w) (g_11 w) (by decide), hs_70_4]
theorem hc_70_1_5 (w : xw_W) : ai_Call 43 [.ref 81, .ref 12] (wl w) = some (none, wl (xw_whi w (up (xw_hi w) 2 (xb_wmo (xw_hi w 2) (xb_mo (xw_b w)))))) := by rw [x_copy (g_81 w) (g_82 w) (g_12 w) (g_13 w) (by decide), hs_70_5]
theorem hc_70_1_6 (w : xw_W) : ai_Call 43 [.ref 83, .ref 14] (wl w) = some (none, wl (xw_whi w (up (xw_hi w) 2 (xb_wse (xw_hi w 2) (xb_se (xw_b w)))))) := by rw [x_copy (g_83 w) (g_84 w) (g_14 w) (g_15 w) (by decide), hs_70_6]
theorem bc_70_1 (w : xw_W) : ai_Call 44 [.ref 70, .ref 1] (wl w) = some (none, wl (xw_whi w (up (xw_hi w) 2 (xw_b w)))) := by
  simp only [e_44, hob_70, r_44_0, r_44_1, r_44_2, r_44_5, r_44_8, r_44_9, r_44_10, r_44_13, r_44_16, r_44_17, r_44_18, r_44_21, r_44_24, r_44_25, r_44_28, r_44_29, r_44_32, r_44_35, r_44_36, r_44_39, r_44_40, r_44_43, r_44_46, r_44_47, r_44_50, r_44_51, r_44_54, r_44_57, r_44_58, r_44_61, r_44_62, r_44_65, r_44_68, r_44_69, r_44_72, r_44_73, r_44_76, r_44_79, r_44_80, r_44_83, r_44_84, r_44_87, r_44_90, r_44_91, r_44_94, r_44_95, r_44_98, r_44_101, Option.bind_some, Option.bind_none, Option.toList_some, Option.toList_none, List.cons_append, List.nil_append, Option.map_some, Option.map_none, eq_self, if_true, if_false, reduceIte, ai_bi_eq0, ai_bi_eq1, ai_pb_bi, ai_pb_0, ai_pb_1, f_1_0, f_1_1, f_1_2, f_1_3, f_1_4, f_1_5, f_1_6, f_1_7, f_1_8, f_1_9, hf_70_3, hf_70_4, hf_70_5, hf_70_6, hf_70_7, hf_70_8, hf_70_9, hp_70_0, hp_70_1, hp_70_2, hc_70_1_0, hc_70_1_1, hc_70_1_2, hc_70_1_3, hc_70_1_4, hc_70_1_5, hc_70_1_6]
  refine congrArg (fun f => some (none, wl (xw_whi w f))) (funext fun j => ?_)
  by_cases z : j = 2
  · subst z
    rfl
  · refine (up_ne _ z _).trans (Eq.trans ?_ (up_ne _ z _).symm)
    iterate 9 refine (up_ne _ z _).trans ?_
    rfl
theorem hc_85_1_0 (w : xw_W) : ai_Call 43 [.ref 86, .ref 2] (wl w) = some (none, wl (xw_whi w (up (xw_hi w) 3 (xb_wtu (xw_hi w 3) (xb_tu (xw_b w)))))) := by rw [x_copy (g_86 w) (g_87 w) (g_2 w) (g_3 w) (by decide), hs_85_0]
theorem hc_85_1_1 (w : xw_W) : ai_Call 43 [.ref 88, .ref 4] (wl w) = some (none, wl (xw_whi w (up (xw_hi w) 3 (xb_wch (xw_hi w 3) (xb_ch (xw_b w)))))) := by rw [x_copy (g_88 w) (g_89 w) (g_4 w) (g_5 w) (by decide), hs_85_1]
theorem hc_85_1_2 (w : xw_W) : ai_Call 43 [.ref 90, .ref 6] (wl w) = some (none, wl (xw_whi w (up (xw_hi w) 3 (xb_wcu (xw_hi w 3) (xb_cu (xw_b w)))))) := by rw [x_copy (g_90 w) (g_91 w) (g_6 w) (g_7 w) (by decide), hs_85_2]
theorem hc_85_1_3 (w : xw_W) : ai_Call 43 [.ref 92, .ref 8] (wl w) = some (none, wl (xw_whi w (up (xw_hi w) 3 (xb_wwr (xw_hi w 3) (xb_wr (xw_b w)))))) := by rw [x_copy (g_92 w) (g_93 w) (g_8 w) (g_9 w) (by decide), hs_85_3]
theorem hc_85_1_4 (w : xw_W) : ai_Call 43 [.ref 94, .ref 10] (wl w) = some (none, wl (xw_whi w (up (xw_hi w) 3 (xb_wsw (xw_hi w 3) (xb_sw (xw_b w)))))) := by rw [x_copy (g_94 w) (g_95 w) (g_10 w) (g_11 w) (by decide), hs_85_4]
theorem hc_85_1_5 (w : xw_W) : ai_Call 43 [.ref 96, .ref 12] (wl w) = some (none, wl (xw_whi w (up (xw_hi w) 3 (xb_wmo (xw_hi w 3) (xb_mo (xw_b w)))))) := by rw [x_copy (g_96 w) (g_97 w) (g_12 w) (g_13 w) (by decide), hs_85_5]
theorem hc_85_1_6 (w : xw_W) : ai_Call 43 [.ref 98, .ref 14] (wl w) = some (none, wl (xw_whi w (up (xw_hi w) 3 (xb_wse (xw_hi w 3) (xb_se (xw_b w)))))) := by rw [x_copy (g_98 w) (g_99 w) (g_14 w) (g_15 w) (by decide), hs_85_6]
theorem bc_85_1 (w : xw_W) : ai_Call 44 [.ref 85, .ref 1] (wl w) = some (none, wl (xw_whi w (up (xw_hi w) 3 (xw_b w)))) := by
  simp only [e_44, hob_85, r_44_0, r_44_1, r_44_2, r_44_5, r_44_8, r_44_9, r_44_10, r_44_13, r_44_16, r_44_17, r_44_18, r_44_21, r_44_24, r_44_25, r_44_28, r_44_29, r_44_32, r_44_35, r_44_36, r_44_39, r_44_40, r_44_43, r_44_46, r_44_47, r_44_50, r_44_51, r_44_54, r_44_57, r_44_58, r_44_61, r_44_62, r_44_65, r_44_68, r_44_69, r_44_72, r_44_73, r_44_76, r_44_79, r_44_80, r_44_83, r_44_84, r_44_87, r_44_90, r_44_91, r_44_94, r_44_95, r_44_98, r_44_101, Option.bind_some, Option.bind_none, Option.toList_some, Option.toList_none, List.cons_append, List.nil_append, Option.map_some, Option.map_none, eq_self, if_true, if_false, reduceIte, ai_bi_eq0, ai_bi_eq1, ai_pb_bi, ai_pb_0, ai_pb_1, f_1_0, f_1_1, f_1_2, f_1_3, f_1_4, f_1_5, f_1_6, f_1_7, f_1_8, f_1_9, hf_85_3, hf_85_4, hf_85_5, hf_85_6, hf_85_7, hf_85_8, hf_85_9, hp_85_0, hp_85_1, hp_85_2, hc_85_1_0, hc_85_1_1, hc_85_1_2, hc_85_1_3, hc_85_1_4, hc_85_1_5, hc_85_1_6]
  refine congrArg (fun f => some (none, wl (xw_whi w f))) (funext fun j => ?_)
  by_cases z : j = 3
  · subst z
    rfl
  · refine (up_ne _ z _).trans (Eq.trans ?_ (up_ne _ z _).symm)
    iterate 9 refine (up_ne _ z _).trans ?_
    rfl
theorem hc_100_1_0 (w : xw_W) : ai_Call 43 [.ref 101, .ref 2] (wl w) = some (none, wl (xw_whi w (up (xw_hi w) 4 (xb_wtu (xw_hi w 4) (xb_tu (xw_b w)))))) := by rw [x_copy (g_101 w) (g_102 w) (g_2 w) (g_3 w) (by decide), hs_100_0]
theorem hc_100_1_1 (w : xw_W) : ai_Call 43 [.ref 103, .ref 4] (wl w) = some (none, wl (xw_whi w (up (xw_hi w) 4 (xb_wch (xw_hi w 4) (xb_ch (xw_b w)))))) := by rw [x_copy (g_103 w) (g_104 w) (g_4 w) (g_5 w) (by decide), hs_100_1]
theorem hc_100_1_2 (w : xw_W) : ai_Call 43 [.ref 105, .ref 6] (wl w) = some (none, wl (xw_whi w (up (xw_hi w) 4 (xb_wcu (xw_hi w 4) (xb_cu (xw_b w)))))) := by rw [x_copy (g_105 w) (g_106 w) (g_6 w) (g_7 w) (by decide), hs_100_2]
theorem hc_100_1_3 (w : xw_W) : ai_Call 43 [.ref 107, .ref 8] (wl w) = some (none, wl (xw_whi w (up (xw_hi w) 4 (xb_wwr (xw_hi w 4) (xb_wr (xw_b w)))))) := by rw [x_copy (g_107 w) (g_108 w) (g_8 w) (g_9 w) (by decide), hs_100_3]
theorem hc_100_1_4 (w : xw_W) : ai_Call 43 [.ref 109, .ref 10] (wl w) = some (none, wl (xw_whi w (up (xw_hi w) 4 (xb_wsw (xw_hi w 4) (xb_sw (xw_b w)))))) := by rw [x_copy (g_109 w) (g_110 w) (g_10 w) (g_11 w) (by decide), hs_100_4]
theorem hc_100_1_5 (w : xw_W) : ai_Call 43 [.ref 111, .ref 12] (wl w) = some (none, wl (xw_whi w (up (xw_hi w) 4 (xb_wmo (xw_hi w 4) (xb_mo (xw_b w)))))) := by rw [x_copy (g_111 w) (g_112 w) (g_12 w) (g_13 w) (by decide), hs_100_5]
theorem hc_100_1_6 (w : xw_W) : ai_Call 43 [.ref 113, .ref 14] (wl w) = some (none, wl (xw_whi w (up (xw_hi w) 4 (xb_wse (xw_hi w 4) (xb_se (xw_b w)))))) := by rw [x_copy (g_113 w) (g_114 w) (g_14 w) (g_15 w) (by decide), hs_100_6]
theorem bc_100_1 (w : xw_W) : ai_Call 44 [.ref 100, .ref 1] (wl w) = some (none, wl (xw_whi w (up (xw_hi w) 4 (xw_b w)))) := by
  simp only [e_44, hob_100, r_44_0, r_44_1, r_44_2, r_44_5, r_44_8, r_44_9, r_44_10, r_44_13, r_44_16, r_44_17, r_44_18, r_44_21, r_44_24, r_44_25, r_44_28, r_44_29, r_44_32, r_44_35, r_44_36, r_44_39, r_44_40, r_44_43, r_44_46, r_44_47, r_44_50, r_44_51, r_44_54, r_44_57, r_44_58, r_44_61, r_44_62, r_44_65, r_44_68, r_44_69, r_44_72, r_44_73, r_44_76, r_44_79, r_44_80, r_44_83, r_44_84, r_44_87, r_44_90, r_44_91, r_44_94, r_44_95, r_44_98, r_44_101, Option.bind_some, Option.bind_none, Option.toList_some, Option.toList_none, List.cons_append, List.nil_append, Option.map_some, Option.map_none, eq_self, if_true, if_false, reduceIte, ai_bi_eq0, ai_bi_eq1, ai_pb_bi, ai_pb_0, ai_pb_1, f_1_0, f_1_1, f_1_2, f_1_3, f_1_4, f_1_5, f_1_6, f_1_7, f_1_8, f_1_9, hf_100_3, hf_100_4, hf_100_5, hf_100_6, hf_100_7, hf_100_8, hf_100_9, hp_100_0, hp_100_1, hp_100_2, hc_100_1_0, hc_100_1_1, hc_100_1_2, hc_100_1_3, hc_100_1_4, hc_100_1_5, hc_100_1_6]
  refine congrArg (fun f => some (none, wl (xw_whi w f))) (funext fun j => ?_)
  by_cases z : j = 4
  · subst z
    rfl
  · refine (up_ne _ z _).trans (Eq.trans ?_ (up_ne _ z _).symm)
    iterate 9 refine (up_ne _ z _).trans ?_
    rfl
theorem hc_115_1_0 (w : xw_W) : ai_Call 43 [.ref 116, .ref 2] (wl w) = some (none, wl (xw_whi w (up (xw_hi w) 5 (xb_wtu (xw_hi w 5) (xb_tu (xw_b w)))))) := by rw [x_copy (g_116 w) (g_117 w) (g_2 w) (g_3 w) (by decide), hs_115_0]
theorem hc_115_1_1 (w : xw_W) : ai_Call 43 [.ref 118, .ref 4] (wl w) = some (none, wl (xw_whi w (up (xw_hi w) 5 (xb_wch (xw_hi w 5) (xb_ch (xw_b w)))))) := by rw [x_copy (g_118 w) (g_119 w) (g_4 w) (g_5 w) (by decide), hs_115_1]
theorem hc_115_1_2 (w : xw_W) : ai_Call 43 [.ref 120, .ref 6] (wl w) = some (none, wl (xw_whi w (up (xw_hi w) 5 (xb_wcu (xw_hi w 5) (xb_cu (xw_b w)))))) := by rw [x_copy (g_120 w) (g_121 w) (g_6 w) (g_7 w) (by decide), hs_115_2]
theorem hc_115_1_3 (w : xw_W) : ai_Call 43 [.ref 122, .ref 8] (wl w) = some (none, wl (xw_whi w (up (xw_hi w) 5 (xb_wwr (xw_hi w 5) (xb_wr (xw_b w)))))) := by rw [x_copy (g_122 w) (g_123 w) (g_8 w) (g_9 w) (by decide), hs_115_3]
theorem hc_115_1_4 (w : xw_W) : ai_Call 43 [.ref 124, .ref 10] (wl w) = some (none, wl (xw_whi w (up (xw_hi w) 5 (xb_wsw (xw_hi w 5) (xb_sw (xw_b w)))))) := by rw [x_copy (g_124 w) (g_125 w) (g_10 w) (g_11 w) (by decide), hs_115_4]
theorem hc_115_1_5 (w : xw_W) : ai_Call 43 [.ref 126, .ref 12] (wl w) = some (none, wl (xw_whi w (up (xw_hi w) 5 (xb_wmo (xw_hi w 5) (xb_mo (xw_b w)))))) := by rw [x_copy (g_126 w) (g_127 w) (g_12 w) (g_13 w) (by decide), hs_115_5]
theorem hc_115_1_6 (w : xw_W) : ai_Call 43 [.ref 128, .ref 14] (wl w) = some (none, wl (xw_whi w (up (xw_hi w) 5 (xb_wse (xw_hi w 5) (xb_se (xw_b w)))))) := by rw [x_copy (g_128 w) (g_129 w) (g_14 w) (g_15 w) (by decide), hs_115_6]
theorem bc_115_1 (w : xw_W) : ai_Call 44 [.ref 115, .ref 1] (wl w) = some (none, wl (xw_whi w (up (xw_hi w) 5 (xw_b w)))) := by
  simp only [e_44, hob_115, r_44_0, r_44_1, r_44_2, r_44_5, r_44_8, r_44_9, r_44_10, r_44_13, r_44_16, r_44_17, r_44_18, r_44_21, r_44_24, r_44_25, r_44_28, r_44_29, r_44_32, r_44_35, r_44_36, r_44_39, r_44_40, r_44_43, r_44_46, r_44_47, r_44_50, r_44_51, r_44_54, r_44_57, r_44_58, r_44_61, r_44_62, r_44_65, r_44_68, r_44_69, r_44_72, r_44_73, r_44_76, r_44_79, r_44_80, r_44_83, r_44_84, r_44_87, r_44_90, r_44_91, r_44_94, r_44_95, r_44_98, r_44_101, Option.bind_some, Option.bind_none, Option.toList_some, Option.toList_none, List.cons_append, List.nil_append, Option.map_some, Option.map_none, eq_self, if_true, if_false, reduceIte, ai_bi_eq0, ai_bi_eq1, ai_pb_bi, ai_pb_0, ai_pb_1, f_1_0, f_1_1, f_1_2, f_1_3, f_1_4, f_1_5, f_1_6, f_1_7, f_1_8, f_1_9, hf_115_3, hf_115_4, hf_115_5, hf_115_6, hf_115_7, hf_115_8, hf_115_9, hp_115_0, hp_115_1, hp_115_2, hc_115_1_0, hc_115_1_1, hc_115_1_2, hc_115_1_3, hc_115_1_4, hc_115_1_5, hc_115_1_6]
  refine congrArg (fun f => some (none, wl (xw_whi w f))) (funext fun j => ?_)
  by_cases z : j = 5
  · subst z
    rfl
  · refine (up_ne _ z _).trans (Eq.trans ?_ (up_ne _ z _).symm)
    iterate 9 refine (up_ne _ z _).trans ?_
    rfl
theorem hc_130_1_0 (w : xw_W) : ai_Call 43 [.ref 131, .ref 2] (wl w) = some (none, wl (xw_whi w (up (xw_hi w) 6 (xb_wtu (xw_hi w 6) (xb_tu (xw_b w)))))) := by rw [x_copy (g_131 w) (g_132 w) (g_2 w) (g_3 w) (by decide), hs_130_0]
theorem hc_130_1_1 (w : xw_W) : ai_Call 43 [.ref 133, .ref 4] (wl w) = some (none, wl (xw_whi w (up (xw_hi w) 6 (xb_wch (xw_hi w 6) (xb_ch (xw_b w)))))) := by rw [x_copy (g_133 w) (g_134 w) (g_4 w) (g_5 w) (by decide), hs_130_1]
theorem hc_130_1_2 (w : xw_W) : ai_Call 43 [.ref 135, .ref 6] (wl w) = some (none, wl (xw_whi w (up (xw_hi w) 6 (xb_wcu (xw_hi w 6) (xb_cu (xw_b w)))))) := by rw [x_copy (g_135 w) (g_136 w) (g_6 w) (g_7 w) (by decide), hs_130_2]
theorem hc_130_1_3 (w : xw_W) : ai_Call 43 [.ref 137, .ref 8] (wl w) = some (none, wl (xw_whi w (up (xw_hi w) 6 (xb_wwr (xw_hi w 6) (xb_wr (xw_b w)))))) := by rw [x_copy (g_137 w) (g_138 w) (g_8 w) (g_9 w) (by decide), hs_130_3]
theorem hc_130_1_4 (w : xw_W) : ai_Call 43 [.ref 139, .ref 10] (wl w) = some (none, wl (xw_whi w (up (xw_hi w) 6 (xb_wsw (xw_hi w 6) (xb_sw (xw_b w)))))) := by rw [x_copy (g_139 w) (g_140 w) (g_10 w) (g_11 w) (by decide), hs_130_4]
theorem hc_130_1_5 (w : xw_W) : ai_Call 43 [.ref 141, .ref 12] (wl w) = some (none, wl (xw_whi w (up (xw_hi w) 6 (xb_wmo (xw_hi w 6) (xb_mo (xw_b w)))))) := by rw [x_copy (g_141 w) (g_142 w) (g_12 w) (g_13 w) (by decide), hs_130_5]
theorem hc_130_1_6 (w : xw_W) : ai_Call 43 [.ref 143, .ref 14] (wl w) = some (none, wl (xw_whi w (up (xw_hi w) 6 (xb_wse (xw_hi w 6) (xb_se (xw_b w)))))) := by rw [x_copy (g_143 w) (g_144 w) (g_14 w) (g_15 w) (by decide), hs_130_6]
theorem bc_130_1 (w : xw_W) : ai_Call 44 [.ref 130, .ref 1] (wl w) = some (none, wl (xw_whi w (up (xw_hi w) 6 (xw_b w)))) := by
  simp only [e_44, hob_130, r_44_0, r_44_1, r_44_2, r_44_5, r_44_8, r_44_9, r_44_10, r_44_13, r_44_16, r_44_17, r_44_18, r_44_21, r_44_24, r_44_25, r_44_28, r_44_29, r_44_32, r_44_35, r_44_36, r_44_39, r_44_40, r_44_43, r_44_46, r_44_47, r_44_50, r_44_51, r_44_54, r_44_57, r_44_58, r_44_61, r_44_62, r_44_65, r_44_68, r_44_69, r_44_72, r_44_73, r_44_76, r_44_79, r_44_80, r_44_83, r_44_84, r_44_87, r_44_90, r_44_91, r_44_94, r_44_95, r_44_98, r_44_101, Option.bind_some, Option.bind_none, Option.toList_some, Option.toList_none, List.cons_append, List.nil_append, Option.map_some, Option.map_none, eq_self, if_true, if_false, reduceIte, ai_bi_eq0, ai_bi_eq1, ai_pb_bi, ai_pb_0, ai_pb_1, f_1_0, f_1_1, f_1_2, f_1_3, f_1_4, f_1_5, f_1_6, f_1_7, f_1_8, f_1_9, hf_130_3, hf_130_4, hf_130_5, hf_130_6, hf_130_7, hf_130_8, hf_130_9, hp_130_0, hp_130_1, hp_130_2, hc_130_1_0, hc_130_1_1, hc_130_1_2, hc_130_1_3, hc_130_1_4, hc_130_1_5, hc_130_1_6]
  refine congrArg (fun f => some (none, wl (xw_whi w f))) (funext fun j => ?_)
  by_cases z : j = 6
  · subst z
    rfl
  · refine (up_ne _ z _).trans (Eq.trans ?_ (up_ne _ z _).symm)
    iterate 9 refine (up_ne _ z _).trans ?_
    rfl
theorem hc_145_1_0 (w : xw_W) : ai_Call 43 [.ref 146, .ref 2] (wl w) = some (none, wl (xw_whi w (up (xw_hi w) 7 (xb_wtu (xw_hi w 7) (xb_tu (xw_b w)))))) := by rw [x_copy (g_146 w) (g_147 w) (g_2 w) (g_3 w) (by decide), hs_145_0]
theorem hc_145_1_1 (w : xw_W) : ai_Call 43 [.ref 148, .ref 4] (wl w) = some (none, wl (xw_whi w (up (xw_hi w) 7 (xb_wch (xw_hi w 7) (xb_ch (xw_b w)))))) := by rw [x_copy (g_148 w) (g_149 w) (g_4 w) (g_5 w) (by decide), hs_145_1]
theorem hc_145_1_2 (w : xw_W) : ai_Call 43 [.ref 150, .ref 6] (wl w) = some (none, wl (xw_whi w (up (xw_hi w) 7 (xb_wcu (xw_hi w 7) (xb_cu (xw_b w)))))) := by rw [x_copy (g_150 w) (g_151 w) (g_6 w) (g_7 w) (by decide), hs_145_2]
theorem hc_145_1_3 (w : xw_W) : ai_Call 43 [.ref 152, .ref 8] (wl w) = some (none, wl (xw_whi w (up (xw_hi w) 7 (xb_wwr (xw_hi w 7) (xb_wr (xw_b w)))))) := by rw [x_copy (g_152 w) (g_153 w) (g_8 w) (g_9 w) (by decide), hs_145_3]
theorem hc_145_1_4 (w : xw_W) : ai_Call 43 [.ref 154, .ref 10] (wl w) = some (none, wl (xw_whi w (up (xw_hi w) 7 (xb_wsw (xw_hi w 7) (xb_sw (xw_b w)))))) := by rw [x_copy (g_154 w) (g_155 w) (g_10 w) (g_11 w) (by decide), hs_145_4]
theorem hc_145_1_5 (w : xw_W) : ai_Call 43 [.ref 156, .ref 12] (wl w) = some (none, wl (xw_whi w (up (xw_hi w) 7 (xb_wmo (xw_hi w 7) (xb_mo (xw_b w)))))) := by rw [x_copy (g_156 w) (g_157 w) (g_12 w) (g_13 w) (by decide), hs_145_5]
theorem hc_145_1_6 (w : xw_W) : ai_Call 43 [.ref 158, .ref 14] (wl w) = some (none, wl (xw_whi w (up (xw_hi w) 7 (xb_wse (xw_hi w 7) (xb_se (xw_b w)))))) := by rw [x_copy (g_158 w) (g_159 w) (g_14 w) (g_15 w) (by decide), hs_145_6]
theorem bc_145_1 (w : xw_W) : ai_Call 44 [.ref 145, .ref 1] (wl w) = some (none, wl (xw_whi w (up (xw_hi w) 7 (xw_b w)))) := by
  simp only [e_44, hob_145, r_44_0, r_44_1, r_44_2, r_44_5, r_44_8, r_44_9, r_44_10, r_44_13, r_44_16, r_44_17, r_44_18, r_44_21, r_44_24, r_44_25, r_44_28, r_44_29, r_44_32, r_44_35, r_44_36, r_44_39, r_44_40, r_44_43, r_44_46, r_44_47, r_44_50, r_44_51, r_44_54, r_44_57, r_44_58, r_44_61, r_44_62, r_44_65, r_44_68, r_44_69, r_44_72, r_44_73, r_44_76, r_44_79, r_44_80, r_44_83, r_44_84, r_44_87, r_44_90, r_44_91, r_44_94, r_44_95, r_44_98, r_44_101, Option.bind_some, Option.bind_none, Option.toList_some, Option.toList_none, List.cons_append, List.nil_append, Option.map_some, Option.map_none, eq_self, if_true, if_false, reduceIte, ai_bi_eq0, ai_bi_eq1, ai_pb_bi, ai_pb_0, ai_pb_1, f_1_0, f_1_1, f_1_2, f_1_3, f_1_4, f_1_5, f_1_6, f_1_7, f_1_8, f_1_9, hf_145_3, hf_145_4, hf_145_5, hf_145_6, hf_145_7, hf_145_8, hf_145_9, hp_145_0, hp_145_1, hp_145_2, hc_145_1_0, hc_145_1_1, hc_145_1_2, hc_145_1_3, hc_145_1_4, hc_145_1_5, hc_145_1_6]
  refine congrArg (fun f => some (none, wl (xw_whi w f))) (funext fun j => ?_)
  by_cases z : j = 7
  · subst z
    rfl
  · refine (up_ne _ z _).trans (Eq.trans ?_ (up_ne _ z _).symm)
    iterate 9 refine (up_ne _ z _).trans ?_
    rfl
theorem hc_160_1_0 (w : xw_W) : ai_Call 43 [.ref 161, .ref 2] (wl w) = some (none, wl (xw_whi w (up (xw_hi w) 8 (xb_wtu (xw_hi w 8) (xb_tu (xw_b w)))))) := by rw [x_copy (g_161 w) (g_162 w) (g_2 w) (g_3 w) (by decide), hs_160_0]
theorem hc_160_1_1 (w : xw_W) : ai_Call 43 [.ref 163, .ref 4] (wl w) = some (none, wl (xw_whi w (up (xw_hi w) 8 (xb_wch (xw_hi w 8) (xb_ch (xw_b w)))))) := by rw [x_copy (g_163 w) (g_164 w) (g_4 w) (g_5 w) (by decide), hs_160_1]
theorem hc_160_1_2 (w : xw_W) : ai_Call 43 [.ref 165, .ref 6] (wl w) = some (none, wl (xw_whi w (up (xw_hi w) 8 (xb_wcu (xw_hi w 8) (xb_cu (xw_b w)))))) := by rw [x_copy (g_165 w) (g_166 w) (g_6 w) (g_7 w) (by decide), hs_160_2]
theorem hc_160_1_3 (w : xw_W) : ai_Call 43 [.ref 167, .ref 8] (wl w) = some (none, wl (xw_whi w (up (xw_hi w) 8 (xb_wwr (xw_hi w 8) (xb_wr (xw_b w)))))) := by rw [x_copy (g_167 w) (g_168 w) (g_8 w) (g_9 w) (by decide), hs_160_3]
theorem hc_160_1_4 (w : xw_W) : ai_Call 43 [.ref 169, .ref 10] (wl w) = some (none, wl (xw_whi w (up (xw_hi w) 8 (xb_wsw (xw_hi w 8) (xb_sw (xw_b w)))))) := by rw [x_copy (g_169 w) (g_170 w) (g_10 w) (g_11 w) (by decide), hs_160_4]
theorem hc_160_1_5 (w : xw_W) : ai_Call 43 [.ref 171, .ref 12] (wl w) = some (none, wl (xw_whi w (up (xw_hi w) 8 (xb_wmo (xw_hi w 8) (xb_mo (xw_b w)))))) := by rw [x_copy (g_171 w) (g_172 w) (g_12 w) (g_13 w) (by decide), hs_160_5]
theorem hc_160_1_6 (w : xw_W) : ai_Call 43 [.ref 173, .ref 14] (wl w) = some (none, wl (xw_whi w (up (xw_hi w) 8 (xb_wse (xw_hi w 8) (xb_se (xw_b w)))))) := by rw [x_copy (g_173 w) (g_174 w) (g_14 w) (g_15 w) (by decide), hs_160_6]
theorem bc_160_1 (w : xw_W) : ai_Call 44 [.ref 160, .ref 1] (wl w) = some (none, wl (xw_whi w (up (xw_hi w) 8 (xw_b w)))) := by
  simp only [e_44, hob_160, r_44_0, r_44_1, r_44_2, r_44_5, r_44_8, r_44_9, r_44_10, r_44_13, r_44_16, r_44_17, r_44_18, r_44_21, r_44_24, r_44_25, r_44_28, r_44_29, r_44_32, r_44_35, r_44_36, r_44_39, r_44_40, r_44_43, r_44_46, r_44_47, r_44_50, r_44_51, r_44_54, r_44_57, r_44_58, r_44_61, r_44_62, r_44_65, r_44_68, r_44_69, r_44_72, r_44_73, r_44_76, r_44_79, r_44_80, r_44_83, r_44_84, r_44_87, r_44_90, r_44_91, r_44_94, r_44_95, r_44_98, r_44_101, Option.bind_some, Option.bind_none, Option.toList_some, Option.toList_none, List.cons_append, List.nil_append, Option.map_some, Option.map_none, eq_self, if_true, if_false, reduceIte, ai_bi_eq0, ai_bi_eq1, ai_pb_bi, ai_pb_0, ai_pb_1, f_1_0, f_1_1, f_1_2, f_1_3, f_1_4, f_1_5, f_1_6, f_1_7, f_1_8, f_1_9, hf_160_3, hf_160_4, hf_160_5, hf_160_6, hf_160_7, hf_160_8, hf_160_9, hp_160_0, hp_160_1, hp_160_2, hc_160_1_0, hc_160_1_1, hc_160_1_2, hc_160_1_3, hc_160_1_4, hc_160_1_5, hc_160_1_6]
  refine congrArg (fun f => some (none, wl (xw_whi w f))) (funext fun j => ?_)
  by_cases z : j = 8
  · subst z
    rfl
  · refine (up_ne _ z _).trans (Eq.trans ?_ (up_ne _ z _).symm)
    iterate 9 refine (up_ne _ z _).trans ?_
    rfl
theorem hc_1_40_0 (w : xw_W) : ai_Call 43 [.ref 2, .ref 41] (wl w) = some (none, wl (xw_wb w (xb_wtu (xw_b w) (xb_tu (xw_hi w 0))))) := by rw [x_copy (g_2 w) (g_3 w) (g_41 w) (g_42 w) (by decide), s_3]
theorem hc_1_40_1 (w : xw_W) : ai_Call 43 [.ref 4, .ref 43] (wl w) = some (none, wl (xw_wb w (xb_wch (xw_b w) (xb_ch (xw_hi w 0))))) := by rw [x_copy (g_4 w) (g_5 w) (g_43 w) (g_44 w) (by decide), s_5]
theorem hc_1_40_2 (w : xw_W) : ai_Call 43 [.ref 6, .ref 45] (wl w) = some (none, wl (xw_wb w (xb_wcu (xw_b w) (xb_cu (xw_hi w 0))))) := by rw [x_copy (g_6 w) (g_7 w) (g_45 w) (g_46 w) (by decide), s_7]
theorem hc_1_40_3 (w : xw_W) : ai_Call 43 [.ref 8, .ref 47] (wl w) = some (none, wl (xw_wb w (xb_wwr (xw_b w) (xb_wr (xw_hi w 0))))) := by rw [x_copy (g_8 w) (g_9 w) (g_47 w) (g_48 w) (by decide), s_9]
theorem hc_1_40_4 (w : xw_W) : ai_Call 43 [.ref 10, .ref 49] (wl w) = some (none, wl (xw_wb w (xb_wsw (xw_b w) (xb_sw (xw_hi w 0))))) := by rw [x_copy (g_10 w) (g_11 w) (g_49 w) (g_50 w) (by decide), s_11]
theorem hc_1_40_5 (w : xw_W) : ai_Call 43 [.ref 12, .ref 51] (wl w) = some (none, wl (xw_wb w (xb_wmo (xw_b w) (xb_mo (xw_hi w 0))))) := by rw [x_copy (g_12 w) (g_13 w) (g_51 w) (g_52 w) (by decide), s_13]
theorem hc_1_40_6 (w : xw_W) : ai_Call 43 [.ref 14, .ref 53] (wl w) = some (none, wl (xw_wb w (xb_wse (xw_b w) (xb_se (xw_hi w 0))))) := by rw [x_copy (g_14 w) (g_15 w) (g_53 w) (g_54 w) (by decide), s_15]
theorem bc_1_40 (w : xw_W) : ai_Call 44 [.ref 1, .ref 40] (wl w) = some (none, wl (xw_wb w (xw_hi w 0))) := by
  simp only [e_44, o_1, r_44_0, r_44_1, r_44_2, r_44_5, r_44_8, r_44_9, r_44_10, r_44_13, r_44_16, r_44_17, r_44_18, r_44_21, r_44_24, r_44_25, r_44_28, r_44_29, r_44_32, r_44_35, r_44_36, r_44_39, r_44_40, r_44_43, r_44_46, r_44_47, r_44_50, r_44_51, r_44_54, r_44_57, r_44_58, r_44_61, r_44_62, r_44_65, r_44_68, r_44_69, r_44_72, r_44_73, r_44_76, r_44_79, r_44_80, r_44_83, r_44_84, r_44_87, r_44_90, r_44_91, r_44_94, r_44_95, r_44_98, r_44_101, Option.bind_some, Option.bind_none, Option.toList_some, Option.toList_none, List.cons_append, List.nil_append, Option.map_some, Option.map_none, eq_self, if_true, if_false, reduceIte, ai_bi_eq0, ai_bi_eq1, ai_pb_bi, ai_pb_0, ai_pb_1, hf_40_0, hf_40_1, hf_40_2, hf_40_3, hf_40_4, hf_40_5, hf_40_6, hf_40_7, hf_40_8, hf_40_9, f_1_3, f_1_4, f_1_5, f_1_6, f_1_7, f_1_8, f_1_9, p_1_0, p_1_1, p_1_2, hc_1_40_0, hc_1_40_1, hc_1_40_2, hc_1_40_3, hc_1_40_4, hc_1_40_5, hc_1_40_6]
  try rfl
theorem hc_1_55_0 (w : xw_W) : ai_Call 43 [.ref 2, .ref 56] (wl w) = some (none, wl (xw_wb w (xb_wtu (xw_b w) (xb_tu (xw_hi w 1))))) := by rw [x_copy (g_2 w) (g_3 w) (g_56 w) (g_57 w) (by decide), s_3]
theorem hc_1_55_1 (w : xw_W) : ai_Call 43 [.ref 4, .ref 58] (wl w) = some (none, wl (xw_wb w (xb_wch (xw_b w) (xb_ch (xw_hi w 1))))) := by rw [x_copy (g_4 w) (g_5 w) (g_58 w) (g_59 w) (by decide), s_5]
theorem hc_1_55_2 (w : xw_W) : ai_Call 43 [.ref 6, .ref 60] (wl w) = some (none, wl (xw_wb w (xb_wcu (xw_b w) (xb_cu (xw_hi w 1))))) := by rw [x_copy (g_6 w) (g_7 w) (g_60 w) (g_61 w) (by decide), s_7]
theorem hc_1_55_3 (w : xw_W) : ai_Call 43 [.ref 8, .ref 62] (wl w) = some (none, wl (xw_wb w (xb_wwr (xw_b w) (xb_wr (xw_hi w 1))))) := by rw [x_copy (g_8 w) (g_9 w) (g_62 w) (g_63 w) (by decide), s_9]
theorem hc_1_55_4 (w : xw_W) : ai_Call 43 [.ref 10, .ref 64] (wl w) = some (none, wl (xw_wb w (xb_wsw (xw_b w) (xb_sw (xw_hi w 1))))) := by rw [x_copy (g_10 w) (g_11 w) (g_64 w) (g_65 w) (by decide), s_11]
theorem hc_1_55_5 (w : xw_W) : ai_Call 43 [.ref 12, .ref 66] (wl w) = some (none, wl (xw_wb w (xb_wmo (xw_b w) (xb_mo (xw_hi w 1))))) := by rw [x_copy (g_12 w) (g_13 w) (g_66 w) (g_67 w) (by decide), s_13]
theorem hc_1_55_6 (w : xw_W) : ai_Call 43 [.ref 14, .ref 68] (wl w) = some (none, wl (xw_wb w (xb_wse (xw_b w) (xb_se (xw_hi w 1))))) := by rw [x_copy (g_14 w) (g_15 w) (g_68 w) (g_69 w) (by decide), s_15]
theorem bc_1_55 (w : xw_W) : ai_Call 44 [.ref 1, .ref 55] (wl w) = some (none, wl (xw_wb w (xw_hi w 1))) := by
  simp only [e_44, o_1, r_44_0, r_44_1, r_44_2, r_44_5, r_44_8, r_44_9, r_44_10, r_44_13, r_44_16, r_44_17, r_44_18, r_44_21, r_44_24, r_44_25, r_44_28, r_44_29, r_44_32, r_44_35, r_44_36, r_44_39, r_44_40, r_44_43, r_44_46, r_44_47, r_44_50, r_44_51, r_44_54, r_44_57, r_44_58, r_44_61, r_44_62, r_44_65, r_44_68, r_44_69, r_44_72, r_44_73, r_44_76, r_44_79, r_44_80, r_44_83, r_44_84, r_44_87, r_44_90, r_44_91, r_44_94, r_44_95, r_44_98, r_44_101, Option.bind_some, Option.bind_none, Option.toList_some, Option.toList_none, List.cons_append, List.nil_append, Option.map_some, Option.map_none, eq_self, if_true, if_false, reduceIte, ai_bi_eq0, ai_bi_eq1, ai_pb_bi, ai_pb_0, ai_pb_1, hf_55_0, hf_55_1, hf_55_2, hf_55_3, hf_55_4, hf_55_5, hf_55_6, hf_55_7, hf_55_8, hf_55_9, f_1_3, f_1_4, f_1_5, f_1_6, f_1_7, f_1_8, f_1_9, p_1_0, p_1_1, p_1_2, hc_1_55_0, hc_1_55_1, hc_1_55_2, hc_1_55_3, hc_1_55_4, hc_1_55_5, hc_1_55_6]
  try rfl
theorem hc_1_70_0 (w : xw_W) : ai_Call 43 [.ref 2, .ref 71] (wl w) = some (none, wl (xw_wb w (xb_wtu (xw_b w) (xb_tu (xw_hi w 2))))) := by rw [x_copy (g_2 w) (g_3 w) (g_71 w) (g_72 w) (by decide), s_3]
theorem hc_1_70_1 (w : xw_W) : ai_Call 43 [.ref 4, .ref 73] (wl w) = some (none, wl (xw_wb w (xb_wch (xw_b w) (xb_ch (xw_hi w 2))))) := by rw [x_copy (g_4 w) (g_5 w) (g_73 w) (g_74 w) (by decide), s_5]
theorem hc_1_70_2 (w : xw_W) : ai_Call 43 [.ref 6, .ref 75] (wl w) = some (none, wl (xw_wb w (xb_wcu (xw_b w) (xb_cu (xw_hi w 2))))) := by rw [x_copy (g_6 w) (g_7 w) (g_75 w) (g_76 w) (by decide), s_7]
theorem hc_1_70_3 (w : xw_W) : ai_Call 43 [.ref 8, .ref 77] (wl w) = some (none, wl (xw_wb w (xb_wwr (xw_b w) (xb_wr (xw_hi w 2))))) := by rw [x_copy (g_8 w) (g_9 w) (g_77 w) (g_78 w) (by decide), s_9]
theorem hc_1_70_4 (w : xw_W) : ai_Call 43 [.ref 10, .ref 79] (wl w) = some (none, wl (xw_wb w (xb_wsw (xw_b w) (xb_sw (xw_hi w 2))))) := by rw [x_copy (g_10 w) (g_11 w) (g_79 w) (g_80 w) (by decide), s_11]
theorem hc_1_70_5 (w : xw_W) : ai_Call 43 [.ref 12, .ref 81] (wl w) = some (none, wl (xw_wb w (xb_wmo (xw_b w) (xb_mo (xw_hi w 2))))) := by rw [x_copy (g_12 w) (g_13 w) (g_81 w) (g_82 w) (by decide), s_13]
theorem hc_1_70_6 (w : xw_W) : ai_Call 43 [.ref 14, .ref 83] (wl w) = some (none, wl (xw_wb w (xb_wse (xw_b w) (xb_se (xw_hi w 2))))) := by rw [x_copy (g_14 w) (g_15 w) (g_83 w) (g_84 w) (by decide), s_15]
theorem bc_1_70 (w : xw_W) : ai_Call 44 [.ref 1, .ref 70] (wl w) = some (none, wl (xw_wb w (xw_hi w 2))) := by
  simp only [e_44, o_1, r_44_0, r_44_1, r_44_2, r_44_5, r_44_8, r_44_9, r_44_10, r_44_13, r_44_16, r_44_17, r_44_18, r_44_21, r_44_24, r_44_25, r_44_28, r_44_29, r_44_32, r_44_35, r_44_36, r_44_39, r_44_40, r_44_43, r_44_46, r_44_47, r_44_50, r_44_51, r_44_54, r_44_57, r_44_58, r_44_61, r_44_62, r_44_65, r_44_68, r_44_69, r_44_72, r_44_73, r_44_76, r_44_79, r_44_80, r_44_83, r_44_84, r_44_87, r_44_90, r_44_91, r_44_94, r_44_95, r_44_98, r_44_101, Option.bind_some, Option.bind_none, Option.toList_some, Option.toList_none, List.cons_append, List.nil_append, Option.map_some, Option.map_none, eq_self, if_true, if_false, reduceIte, ai_bi_eq0, ai_bi_eq1, ai_pb_bi, ai_pb_0, ai_pb_1, hf_70_0, hf_70_1, hf_70_2, hf_70_3, hf_70_4, hf_70_5, hf_70_6, hf_70_7, hf_70_8, hf_70_9, f_1_3, f_1_4, f_1_5, f_1_6, f_1_7, f_1_8, f_1_9, p_1_0, p_1_1, p_1_2, hc_1_70_0, hc_1_70_1, hc_1_70_2, hc_1_70_3, hc_1_70_4, hc_1_70_5, hc_1_70_6]
  try rfl
theorem hc_1_85_0 (w : xw_W) : ai_Call 43 [.ref 2, .ref 86] (wl w) = some (none, wl (xw_wb w (xb_wtu (xw_b w) (xb_tu (xw_hi w 3))))) := by rw [x_copy (g_2 w) (g_3 w) (g_86 w) (g_87 w) (by decide), s_3]
theorem hc_1_85_1 (w : xw_W) : ai_Call 43 [.ref 4, .ref 88] (wl w) = some (none, wl (xw_wb w (xb_wch (xw_b w) (xb_ch (xw_hi w 3))))) := by rw [x_copy (g_4 w) (g_5 w) (g_88 w) (g_89 w) (by decide), s_5]
theorem hc_1_85_2 (w : xw_W) : ai_Call 43 [.ref 6, .ref 90] (wl w) = some (none, wl (xw_wb w (xb_wcu (xw_b w) (xb_cu (xw_hi w 3))))) := by rw [x_copy (g_6 w) (g_7 w) (g_90 w) (g_91 w) (by decide), s_7]
theorem hc_1_85_3 (w : xw_W) : ai_Call 43 [.ref 8, .ref 92] (wl w) = some (none, wl (xw_wb w (xb_wwr (xw_b w) (xb_wr (xw_hi w 3))))) := by rw [x_copy (g_8 w) (g_9 w) (g_92 w) (g_93 w) (by decide), s_9]
theorem hc_1_85_4 (w : xw_W) : ai_Call 43 [.ref 10, .ref 94] (wl w) = some (none, wl (xw_wb w (xb_wsw (xw_b w) (xb_sw (xw_hi w 3))))) := by rw [x_copy (g_10 w) (g_11 w) (g_94 w) (g_95 w) (by decide), s_11]
theorem hc_1_85_5 (w : xw_W) : ai_Call 43 [.ref 12, .ref 96] (wl w) = some (none, wl (xw_wb w (xb_wmo (xw_b w) (xb_mo (xw_hi w 3))))) := by rw [x_copy (g_12 w) (g_13 w) (g_96 w) (g_97 w) (by decide), s_13]
theorem hc_1_85_6 (w : xw_W) : ai_Call 43 [.ref 14, .ref 98] (wl w) = some (none, wl (xw_wb w (xb_wse (xw_b w) (xb_se (xw_hi w 3))))) := by rw [x_copy (g_14 w) (g_15 w) (g_98 w) (g_99 w) (by decide), s_15]
theorem bc_1_85 (w : xw_W) : ai_Call 44 [.ref 1, .ref 85] (wl w) = some (none, wl (xw_wb w (xw_hi w 3))) := by
  simp only [e_44, o_1, r_44_0, r_44_1, r_44_2, r_44_5, r_44_8, r_44_9, r_44_10, r_44_13, r_44_16, r_44_17, r_44_18, r_44_21, r_44_24, r_44_25, r_44_28, r_44_29, r_44_32, r_44_35, r_44_36, r_44_39, r_44_40, r_44_43, r_44_46, r_44_47, r_44_50, r_44_51, r_44_54, r_44_57, r_44_58, r_44_61, r_44_62, r_44_65, r_44_68, r_44_69, r_44_72, r_44_73, r_44_76, r_44_79, r_44_80, r_44_83, r_44_84, r_44_87, r_44_90, r_44_91, r_44_94, r_44_95, r_44_98, r_44_101, Option.bind_some, Option.bind_none, Option.toList_some, Option.toList_none, List.cons_append, List.nil_append, Option.map_some, Option.map_none, eq_self, if_true, if_false, reduceIte, ai_bi_eq0, ai_bi_eq1, ai_pb_bi, ai_pb_0, ai_pb_1, hf_85_0, hf_85_1, hf_85_2, hf_85_3, hf_85_4, hf_85_5, hf_85_6, hf_85_7, hf_85_8, hf_85_9, f_1_3, f_1_4, f_1_5, f_1_6, f_1_7, f_1_8, f_1_9, p_1_0, p_1_1, p_1_2, hc_1_85_0, hc_1_85_1, hc_1_85_2, hc_1_85_3, hc_1_85_4, hc_1_85_5, hc_1_85_6]
  try rfl
theorem hc_1_100_0 (w : xw_W) : ai_Call 43 [.ref 2, .ref 101] (wl w) = some (none, wl (xw_wb w (xb_wtu (xw_b w) (xb_tu (xw_hi w 4))))) := by rw [x_copy (g_2 w) (g_3 w) (g_101 w) (g_102 w) (by decide), s_3]
theorem hc_1_100_1 (w : xw_W) : ai_Call 43 [.ref 4, .ref 103] (wl w) = some (none, wl (xw_wb w (xb_wch (xw_b w) (xb_ch (xw_hi w 4))))) := by rw [x_copy (g_4 w) (g_5 w) (g_103 w) (g_104 w) (by decide), s_5]
theorem hc_1_100_2 (w : xw_W) : ai_Call 43 [.ref 6, .ref 105] (wl w) = some (none, wl (xw_wb w (xb_wcu (xw_b w) (xb_cu (xw_hi w 4))))) := by rw [x_copy (g_6 w) (g_7 w) (g_105 w) (g_106 w) (by decide), s_7]
theorem hc_1_100_3 (w : xw_W) : ai_Call 43 [.ref 8, .ref 107] (wl w) = some (none, wl (xw_wb w (xb_wwr (xw_b w) (xb_wr (xw_hi w 4))))) := by rw [x_copy (g_8 w) (g_9 w) (g_107 w) (g_108 w) (by decide), s_9]
theorem hc_1_100_4 (w : xw_W) : ai_Call 43 [.ref 10, .ref 109] (wl w) = some (none, wl (xw_wb w (xb_wsw (xw_b w) (xb_sw (xw_hi w 4))))) := by rw [x_copy (g_10 w) (g_11 w) (g_109 w) (g_110 w) (by decide), s_11]
theorem hc_1_100_5 (w : xw_W) : ai_Call 43 [.ref 12, .ref 111] (wl w) = some (none, wl (xw_wb w (xb_wmo (xw_b w) (xb_mo (xw_hi w 4))))) := by rw [x_copy (g_12 w) (g_13 w) (g_111 w) (g_112 w) (by decide), s_13]
theorem hc_1_100_6 (w : xw_W) : ai_Call 43 [.ref 14, .ref 113] (wl w) = some (none, wl (xw_wb w (xb_wse (xw_b w) (xb_se (xw_hi w 4))))) := by rw [x_copy (g_14 w) (g_15 w) (g_113 w) (g_114 w) (by decide), s_15]
theorem bc_1_100 (w : xw_W) : ai_Call 44 [.ref 1, .ref 100] (wl w) = some (none, wl (xw_wb w (xw_hi w 4))) := by
  simp only [e_44, o_1, r_44_0, r_44_1, r_44_2, r_44_5, r_44_8, r_44_9, r_44_10, r_44_13, r_44_16, r_44_17, r_44_18, r_44_21, r_44_24, r_44_25, r_44_28, r_44_29, r_44_32, r_44_35, r_44_36, r_44_39, r_44_40, r_44_43, r_44_46, r_44_47, r_44_50, r_44_51, r_44_54, r_44_57, r_44_58, r_44_61, r_44_62, r_44_65, r_44_68, r_44_69, r_44_72, r_44_73, r_44_76, r_44_79, r_44_80, r_44_83, r_44_84, r_44_87, r_44_90, r_44_91, r_44_94, r_44_95, r_44_98, r_44_101, Option.bind_some, Option.bind_none, Option.toList_some, Option.toList_none, List.cons_append, List.nil_append, Option.map_some, Option.map_none, eq_self, if_true, if_false, reduceIte, ai_bi_eq0, ai_bi_eq1, ai_pb_bi, ai_pb_0, ai_pb_1, hf_100_0, hf_100_1, hf_100_2, hf_100_3, hf_100_4, hf_100_5, hf_100_6, hf_100_7, hf_100_8, hf_100_9, f_1_3, f_1_4, f_1_5, f_1_6, f_1_7, f_1_8, f_1_9, p_1_0, p_1_1, p_1_2, hc_1_100_0, hc_1_100_1, hc_1_100_2, hc_1_100_3, hc_1_100_4, hc_1_100_5, hc_1_100_6]
  try rfl
theorem hc_1_115_0 (w : xw_W) : ai_Call 43 [.ref 2, .ref 116] (wl w) = some (none, wl (xw_wb w (xb_wtu (xw_b w) (xb_tu (xw_hi w 5))))) := by rw [x_copy (g_2 w) (g_3 w) (g_116 w) (g_117 w) (by decide), s_3]
theorem hc_1_115_1 (w : xw_W) : ai_Call 43 [.ref 4, .ref 118] (wl w) = some (none, wl (xw_wb w (xb_wch (xw_b w) (xb_ch (xw_hi w 5))))) := by rw [x_copy (g_4 w) (g_5 w) (g_118 w) (g_119 w) (by decide), s_5]
theorem hc_1_115_2 (w : xw_W) : ai_Call 43 [.ref 6, .ref 120] (wl w) = some (none, wl (xw_wb w (xb_wcu (xw_b w) (xb_cu (xw_hi w 5))))) := by rw [x_copy (g_6 w) (g_7 w) (g_120 w) (g_121 w) (by decide), s_7]
theorem hc_1_115_3 (w : xw_W) : ai_Call 43 [.ref 8, .ref 122] (wl w) = some (none, wl (xw_wb w (xb_wwr (xw_b w) (xb_wr (xw_hi w 5))))) := by rw [x_copy (g_8 w) (g_9 w) (g_122 w) (g_123 w) (by decide), s_9]
theorem hc_1_115_4 (w : xw_W) : ai_Call 43 [.ref 10, .ref 124] (wl w) = some (none, wl (xw_wb w (xb_wsw (xw_b w) (xb_sw (xw_hi w 5))))) := by rw [x_copy (g_10 w) (g_11 w) (g_124 w) (g_125 w) (by decide), s_11]
theorem hc_1_115_5 (w : xw_W) : ai_Call 43 [.ref 12, .ref 126] (wl w) = some (none, wl (xw_wb w (xb_wmo (xw_b w) (xb_mo (xw_hi w 5))))) := by rw [x_copy (g_12 w) (g_13 w) (g_126 w) (g_127 w) (by decide), s_13]
theorem hc_1_115_6 (w : xw_W) : ai_Call 43 [.ref 14, .ref 128] (wl w) = some (none, wl (xw_wb w (xb_wse (xw_b w) (xb_se (xw_hi w 5))))) := by rw [x_copy (g_14 w) (g_15 w) (g_128 w) (g_129 w) (by decide), s_15]
theorem bc_1_115 (w : xw_W) : ai_Call 44 [.ref 1, .ref 115] (wl w) = some (none, wl (xw_wb w (xw_hi w 5))) := by
  simp only [e_44, o_1, r_44_0, r_44_1, r_44_2, r_44_5, r_44_8, r_44_9, r_44_10, r_44_13, r_44_16, r_44_17, r_44_18, r_44_21, r_44_24, r_44_25, r_44_28, r_44_29, r_44_32, r_44_35, r_44_36, r_44_39, r_44_40, r_44_43, r_44_46, r_44_47, r_44_50, r_44_51, r_44_54, r_44_57, r_44_58, r_44_61, r_44_62, r_44_65, r_44_68, r_44_69, r_44_72, r_44_73, r_44_76, r_44_79, r_44_80, r_44_83, r_44_84, r_44_87, r_44_90, r_44_91, r_44_94, r_44_95, r_44_98, r_44_101, Option.bind_some, Option.bind_none, Option.toList_some, Option.toList_none, List.cons_append, List.nil_append, Option.map_some, Option.map_none, eq_self, if_true, if_false, reduceIte, ai_bi_eq0, ai_bi_eq1, ai_pb_bi, ai_pb_0, ai_pb_1, hf_115_0, hf_115_1, hf_115_2, hf_115_3, hf_115_4, hf_115_5, hf_115_6, hf_115_7, hf_115_8, hf_115_9, f_1_3, f_1_4, f_1_5, f_1_6, f_1_7, f_1_8, f_1_9, p_1_0, p_1_1, p_1_2, hc_1_115_0, hc_1_115_1, hc_1_115_2, hc_1_115_3, hc_1_115_4, hc_1_115_5, hc_1_115_6]
  try rfl
theorem hc_1_130_0 (w : xw_W) : ai_Call 43 [.ref 2, .ref 131] (wl w) = some (none, wl (xw_wb w (xb_wtu (xw_b w) (xb_tu (xw_hi w 6))))) := by rw [x_copy (g_2 w) (g_3 w) (g_131 w) (g_132 w) (by decide), s_3]
theorem hc_1_130_1 (w : xw_W) : ai_Call 43 [.ref 4, .ref 133] (wl w) = some (none, wl (xw_wb w (xb_wch (xw_b w) (xb_ch (xw_hi w 6))))) := by rw [x_copy (g_4 w) (g_5 w) (g_133 w) (g_134 w) (by decide), s_5]
theorem hc_1_130_2 (w : xw_W) : ai_Call 43 [.ref 6, .ref 135] (wl w) = some (none, wl (xw_wb w (xb_wcu (xw_b w) (xb_cu (xw_hi w 6))))) := by rw [x_copy (g_6 w) (g_7 w) (g_135 w) (g_136 w) (by decide), s_7]
theorem hc_1_130_3 (w : xw_W) : ai_Call 43 [.ref 8, .ref 137] (wl w) = some (none, wl (xw_wb w (xb_wwr (xw_b w) (xb_wr (xw_hi w 6))))) := by rw [x_copy (g_8 w) (g_9 w) (g_137 w) (g_138 w) (by decide), s_9]
theorem hc_1_130_4 (w : xw_W) : ai_Call 43 [.ref 10, .ref 139] (wl w) = some (none, wl (xw_wb w (xb_wsw (xw_b w) (xb_sw (xw_hi w 6))))) := by rw [x_copy (g_10 w) (g_11 w) (g_139 w) (g_140 w) (by decide), s_11]
theorem hc_1_130_5 (w : xw_W) : ai_Call 43 [.ref 12, .ref 141] (wl w) = some (none, wl (xw_wb w (xb_wmo (xw_b w) (xb_mo (xw_hi w 6))))) := by rw [x_copy (g_12 w) (g_13 w) (g_141 w) (g_142 w) (by decide), s_13]
theorem hc_1_130_6 (w : xw_W) : ai_Call 43 [.ref 14, .ref 143] (wl w) = some (none, wl (xw_wb w (xb_wse (xw_b w) (xb_se (xw_hi w 6))))) := by rw [x_copy (g_14 w) (g_15 w) (g_143 w) (g_144 w) (by decide), s_15]
theorem bc_1_130 (w : xw_W) : ai_Call 44 [.ref 1, .ref 130] (wl w) = some (none, wl (xw_wb w (xw_hi w 6))) := by
  simp only [e_44, o_1, r_44_0, r_44_1, r_44_2, r_44_5, r_44_8, r_44_9, r_44_10, r_44_13, r_44_16, r_44_17, r_44_18, r_44_21, r_44_24, r_44_25, r_44_28, r_44_29, r_44_32, r_44_35, r_44_36, r_44_39, r_44_40, r_44_43, r_44_46, r_44_47, r_44_50, r_44_51, r_44_54, r_44_57, r_44_58, r_44_61, r_44_62, r_44_65, r_44_68, r_44_69, r_44_72, r_44_73, r_44_76, r_44_79, r_44_80, r_44_83, r_44_84, r_44_87, r_44_90, r_44_91, r_44_94, r_44_95, r_44_98, r_44_101, Option.bind_some, Option.bind_none, Option.toList_some, Option.toList_none, List.cons_append, List.nil_append, Option.map_some, Option.map_none, eq_self, if_true, if_false, reduceIte, ai_bi_eq0, ai_bi_eq1, ai_pb_bi, ai_pb_0, ai_pb_1, hf_130_0, hf_130_1, hf_130_2, hf_130_3, hf_130_4, hf_130_5, hf_130_6, hf_130_7, hf_130_8, hf_130_9, f_1_3, f_1_4, f_1_5, f_1_6, f_1_7, f_1_8, f_1_9, p_1_0, p_1_1, p_1_2, hc_1_130_0, hc_1_130_1, hc_1_130_2, hc_1_130_3, hc_1_130_4, hc_1_130_5, hc_1_130_6]
  try rfl
theorem hc_1_145_0 (w : xw_W) : ai_Call 43 [.ref 2, .ref 146] (wl w) = some (none, wl (xw_wb w (xb_wtu (xw_b w) (xb_tu (xw_hi w 7))))) := by rw [x_copy (g_2 w) (g_3 w) (g_146 w) (g_147 w) (by decide), s_3]
theorem hc_1_145_1 (w : xw_W) : ai_Call 43 [.ref 4, .ref 148] (wl w) = some (none, wl (xw_wb w (xb_wch (xw_b w) (xb_ch (xw_hi w 7))))) := by rw [x_copy (g_4 w) (g_5 w) (g_148 w) (g_149 w) (by decide), s_5]
theorem hc_1_145_2 (w : xw_W) : ai_Call 43 [.ref 6, .ref 150] (wl w) = some (none, wl (xw_wb w (xb_wcu (xw_b w) (xb_cu (xw_hi w 7))))) := by rw [x_copy (g_6 w) (g_7 w) (g_150 w) (g_151 w) (by decide), s_7]
theorem hc_1_145_3 (w : xw_W) : ai_Call 43 [.ref 8, .ref 152] (wl w) = some (none, wl (xw_wb w (xb_wwr (xw_b w) (xb_wr (xw_hi w 7))))) := by rw [x_copy (g_8 w) (g_9 w) (g_152 w) (g_153 w) (by decide), s_9]
theorem hc_1_145_4 (w : xw_W) : ai_Call 43 [.ref 10, .ref 154] (wl w) = some (none, wl (xw_wb w (xb_wsw (xw_b w) (xb_sw (xw_hi w 7))))) := by rw [x_copy (g_10 w) (g_11 w) (g_154 w) (g_155 w) (by decide), s_11]
theorem hc_1_145_5 (w : xw_W) : ai_Call 43 [.ref 12, .ref 156] (wl w) = some (none, wl (xw_wb w (xb_wmo (xw_b w) (xb_mo (xw_hi w 7))))) := by rw [x_copy (g_12 w) (g_13 w) (g_156 w) (g_157 w) (by decide), s_13]
theorem hc_1_145_6 (w : xw_W) : ai_Call 43 [.ref 14, .ref 158] (wl w) = some (none, wl (xw_wb w (xb_wse (xw_b w) (xb_se (xw_hi w 7))))) := by rw [x_copy (g_14 w) (g_15 w) (g_158 w) (g_159 w) (by decide), s_15]
theorem bc_1_145 (w : xw_W) : ai_Call 44 [.ref 1, .ref 145] (wl w) = some (none, wl (xw_wb w (xw_hi w 7))) := by
  simp only [e_44, o_1, r_44_0, r_44_1, r_44_2, r_44_5, r_44_8, r_44_9, r_44_10, r_44_13, r_44_16, r_44_17, r_44_18, r_44_21, r_44_24, r_44_25, r_44_28, r_44_29, r_44_32, r_44_35, r_44_36, r_44_39, r_44_40, r_44_43, r_44_46, r_44_47, r_44_50, r_44_51, r_44_54, r_44_57, r_44_58, r_44_61, r_44_62, r_44_65, r_44_68, r_44_69, r_44_72, r_44_73, r_44_76, r_44_79, r_44_80, r_44_83, r_44_84, r_44_87, r_44_90, r_44_91, r_44_94, r_44_95, r_44_98, r_44_101, Option.bind_some, Option.bind_none, Option.toList_some, Option.toList_none, List.cons_append, List.nil_append, Option.map_some, Option.map_none, eq_self, if_true, if_false, reduceIte, ai_bi_eq0, ai_bi_eq1, ai_pb_bi, ai_pb_0, ai_pb_1, hf_145_0, hf_145_1, hf_145_2, hf_145_3, hf_145_4, hf_145_5, hf_145_6, hf_145_7, hf_145_8, hf_145_9, f_1_3, f_1_4, f_1_5, f_1_6, f_1_7, f_1_8, f_1_9, p_1_0, p_1_1, p_1_2, hc_1_145_0, hc_1_145_1, hc_1_145_2, hc_1_145_3, hc_1_145_4, hc_1_145_5, hc_1_145_6]
  try rfl
theorem hc_1_160_0 (w : xw_W) : ai_Call 43 [.ref 2, .ref 161] (wl w) = some (none, wl (xw_wb w (xb_wtu (xw_b w) (xb_tu (xw_hi w 8))))) := by rw [x_copy (g_2 w) (g_3 w) (g_161 w) (g_162 w) (by decide), s_3]
theorem hc_1_160_1 (w : xw_W) : ai_Call 43 [.ref 4, .ref 163] (wl w) = some (none, wl (xw_wb w (xb_wch (xw_b w) (xb_ch (xw_hi w 8))))) := by rw [x_copy (g_4 w) (g_5 w) (g_163 w) (g_164 w) (by decide), s_5]
theorem hc_1_160_2 (w : xw_W) : ai_Call 43 [.ref 6, .ref 165] (wl w) = some (none, wl (xw_wb w (xb_wcu (xw_b w) (xb_cu (xw_hi w 8))))) := by rw [x_copy (g_6 w) (g_7 w) (g_165 w) (g_166 w) (by decide), s_7]
theorem hc_1_160_3 (w : xw_W) : ai_Call 43 [.ref 8, .ref 167] (wl w) = some (none, wl (xw_wb w (xb_wwr (xw_b w) (xb_wr (xw_hi w 8))))) := by rw [x_copy (g_8 w) (g_9 w) (g_167 w) (g_168 w) (by decide), s_9]
theorem hc_1_160_4 (w : xw_W) : ai_Call 43 [.ref 10, .ref 169] (wl w) = some (none, wl (xw_wb w (xb_wsw (xw_b w) (xb_sw (xw_hi w 8))))) := by rw [x_copy (g_10 w) (g_11 w) (g_169 w) (g_170 w) (by decide), s_11]
theorem hc_1_160_5 (w : xw_W) : ai_Call 43 [.ref 12, .ref 171] (wl w) = some (none, wl (xw_wb w (xb_wmo (xw_b w) (xb_mo (xw_hi w 8))))) := by rw [x_copy (g_12 w) (g_13 w) (g_171 w) (g_172 w) (by decide), s_13]
theorem hc_1_160_6 (w : xw_W) : ai_Call 43 [.ref 14, .ref 173] (wl w) = some (none, wl (xw_wb w (xb_wse (xw_b w) (xb_se (xw_hi w 8))))) := by rw [x_copy (g_14 w) (g_15 w) (g_173 w) (g_174 w) (by decide), s_15]
theorem bc_1_160 (w : xw_W) : ai_Call 44 [.ref 1, .ref 160] (wl w) = some (none, wl (xw_wb w (xw_hi w 8))) := by
  simp only [e_44, o_1, r_44_0, r_44_1, r_44_2, r_44_5, r_44_8, r_44_9, r_44_10, r_44_13, r_44_16, r_44_17, r_44_18, r_44_21, r_44_24, r_44_25, r_44_28, r_44_29, r_44_32, r_44_35, r_44_36, r_44_39, r_44_40, r_44_43, r_44_46, r_44_47, r_44_50, r_44_51, r_44_54, r_44_57, r_44_58, r_44_61, r_44_62, r_44_65, r_44_68, r_44_69, r_44_72, r_44_73, r_44_76, r_44_79, r_44_80, r_44_83, r_44_84, r_44_87, r_44_90, r_44_91, r_44_94, r_44_95, r_44_98, r_44_101, Option.bind_some, Option.bind_none, Option.toList_some, Option.toList_none, List.cons_append, List.nil_append, Option.map_some, Option.map_none, eq_self, if_true, if_false, reduceIte, ai_bi_eq0, ai_bi_eq1, ai_pb_bi, ai_pb_0, ai_pb_1, hf_160_0, hf_160_1, hf_160_2, hf_160_3, hf_160_4, hf_160_5, hf_160_6, hf_160_7, hf_160_8, hf_160_9, f_1_3, f_1_4, f_1_5, f_1_6, f_1_7, f_1_8, f_1_9, p_1_0, p_1_1, p_1_2, hc_1_160_0, hc_1_160_1, hc_1_160_2, hc_1_160_3, hc_1_160_4, hc_1_160_5, hc_1_160_6]
  try rfl
