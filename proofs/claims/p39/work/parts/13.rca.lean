/-! rules: printed by gen2.py -/
theorem dX8_get_0 : decode cX8_get 0 = .ok (.iload_n 1, 1) := by decide +kernel
theorem dX8_get_1 : decode cX8_get 1 = .ok (.ifCond .lt 21, 3) := by decide +kernel
theorem dX8_get_4 : decode cX8_get 4 = .ok (.iload_n 1, 1) := by decide +kernel
theorem dX8_get_5 : decode cX8_get 5 = .ok (.aload_n 0, 1) := by decide +kernel
theorem dX8_get_6 : decode cX8_get 6 = .ok (.getfield 13, 3) := by decide +kernel
theorem dX8_get_9 : decode cX8_get 9 = .ok (.arraylength, 1) := by decide +kernel
theorem dX8_get_10 : decode cX8_get 10 = .ok (.if_icmp .ge 12, 3) := by decide +kernel
theorem dX8_get_13 : decode cX8_get 13 = .ok (.aload_n 0, 1) := by decide +kernel
theorem dX8_get_14 : decode cX8_get 14 = .ok (.getfield 13, 3) := by decide +kernel
theorem dX8_get_17 : decode cX8_get 17 = .ok (.iload_n 1, 1) := by decide +kernel
theorem dX8_get_18 : decode cX8_get 18 = .ok (.iaload, 1) := by decide +kernel
theorem dX8_get_19 : decode cX8_get 19 = .ok (.goto 4, 3) := by decide +kernel
theorem dX8_get_22 : decode cX8_get 22 = .ok (.iconst 0, 1) := by decide +kernel
theorem dX8_get_23 : decode cX8_get 23 = .ok (.ireturn, 1) := by decide +kernel
theorem e_12 (r : Nat) (a0 : Int32) (ws : ai_W) : ai_Call 12 [.ref r, .int a0] ws = if ai_isob ws r 8 = true then ai_Run 12 0 [.ref r, .int a0] [] ws else none := R_entV hk_12 ⟨⟨rfl, rfl⟩, Nat.le_of_ble_eq_true rfl⟩ rfl
theorem r_12_0 (l0 : Value) (a : Int32) (st : List Value) (ws : ai_W) : ai_Run 12 0 [l0, .int a] st ws = ai_Run 12 1 [l0, .int a] (.int a :: st) ws := R_iload_n hc_12 dX8_get_0 rfl rfl
theorem r_12_1 (ls st : List Value) (a : Int32) (ws : ai_W) : ai_Run 12 1 ls (.int a :: st) ws = if a < 0 then ai_Run 12 22 ls st ws else ai_Run 12 4 ls st ws := R_if_lt hc_12 dX8_get_1 rfl rfl
theorem r_12_4 (l0 : Value) (a : Int32) (st : List Value) (ws : ai_W) : ai_Run 12 4 [l0, .int a] st ws = ai_Run 12 5 [l0, .int a] (.int a :: st) ws := R_iload_n hc_12 dX8_get_4 rfl rfl
theorem r_12_5 (l1 : Value) (a : Nat) (st : List Value) (ws : ai_W) : ai_Run 12 5 [.ref a, l1] st ws = ai_Run 12 6 [.ref a, l1] (.ref a :: st) ws := R_aload_n hc_12 dX8_get_5 rfl rfl
theorem r_12_6 (ls st : List Value) (a : Nat) (ws : ai_W) : ai_Run 12 6 ls (.ref a :: st) ws = (ai_fget ws a 8 0).bind fun q => ai_Run 12 9 ls (q :: st) ws := R_getf hc_12 dX8_get_6 hv_12 (w := 458) rfl rfl
theorem r_12_9 (ls st : List Value) (a : Nat) (ws : ai_W) : ai_Run 12 9 ls (.ref a :: st) ws = (ai_len ws a).bind fun q => ai_Run 12 10 ls (.int q :: st) ws := R_arraylength hc_12 dX8_get_9 rfl
theorem r_12_10 (ls st : List Value) (a b : Int32) (ws : ai_W) : ai_Run 12 10 ls (.int b :: .int a :: st) ws = if a < b then ai_Run 12 13 ls st ws else ai_Run 12 22 ls st ws := R_cmp_ge hc_12 dX8_get_10 rfl rfl
theorem r_12_13 (l1 : Value) (a : Nat) (st : List Value) (ws : ai_W) : ai_Run 12 13 [.ref a, l1] st ws = ai_Run 12 14 [.ref a, l1] (.ref a :: st) ws := R_aload_n hc_12 dX8_get_13 rfl rfl
theorem r_12_14 (ls st : List Value) (a : Nat) (ws : ai_W) : ai_Run 12 14 ls (.ref a :: st) ws = (ai_fget ws a 8 0).bind fun q => ai_Run 12 17 ls (q :: st) ws := R_getf hc_12 dX8_get_14 hv_12 (w := 458) rfl rfl
theorem r_12_17 (l0 : Value) (a : Int32) (st : List Value) (ws : ai_W) : ai_Run 12 17 [l0, .int a] st ws = ai_Run 12 18 [l0, .int a] (.int a :: st) ws := R_iload_n hc_12 dX8_get_17 rfl rfl
theorem r_12_18 (ls st : List Value) (a : Nat) (i : Int32) (ws : ai_W) : ai_Run 12 18 ls (.int i :: .ref a :: st) ws = (ai_aget ws a i).bind fun q => ai_Run 12 19 ls (.int q :: st) ws := R_iaload hc_12 dX8_get_18 rfl
theorem r_12_19 (ls st : List Value) (ws : ai_W) : ai_Run 12 19 ls st ws = ai_Run 12 23 ls st ws := R_goto hc_12 dX8_get_19 rfl
theorem r_12_22 (ls st : List Value) (ws : ai_W) : ai_Run 12 22 ls st ws = ai_Run 12 23 ls (.int 0 :: st) ws := R_iconst hc_12 dX8_get_22 (by decide) rfl
theorem r_12_23 (ls : List Value) (x : Int32) (ws : ai_W) : ai_Run 12 23 ls [.int x] ws = some (some (.int x), ws) := R_iret hc_12 dX8_get_23 ht_12
theorem dX0_deaths_0 : decode cX0_deaths 0 = .ok (.aload_n 0, 1) := by decide +kernel
theorem dX0_deaths_1 : decode cX0_deaths 1 = .ok (.getfield 14, 3) := by decide +kernel
theorem dX0_deaths_4 : decode cX0_deaths 4 = .ok (.iload_n 1, 1) := by decide +kernel
theorem dX0_deaths_5 : decode cX0_deaths 5 = .ok (.invokevirtual 57, 3) := by decide +kernel
theorem dX0_deaths_8 : decode cX0_deaths 8 = .ok (.iconst 1, 1) := by decide +kernel
theorem dX0_deaths_9 : decode cX0_deaths 9 = .ok (.iadd, 1) := by decide +kernel
theorem dX0_deaths_10 : decode cX0_deaths 10 = .ok (.iconst 2, 1) := by decide +kernel
theorem dX0_deaths_11 : decode cX0_deaths 11 = .ok (.idiv, 1) := by decide +kernel
theorem dX0_deaths_12 : decode cX0_deaths 12 = .ok (.ireturn, 1) := by decide +kernel
theorem e_13 (r : Nat) (a0 : Int32) (ws : ai_W) : ai_Call 13 [.ref r, .int a0] ws = if ai_isob ws r 0 = true then ai_Run 13 0 [.ref r, .int a0] [] ws else none := R_entV hk_13 ⟨⟨rfl, rfl⟩, Nat.le_of_ble_eq_true rfl⟩ rfl
theorem r_13_0 (l1 : Value) (a : Nat) (st : List Value) (ws : ai_W) : ai_Run 13 0 [.ref a, l1] st ws = ai_Run 13 1 [.ref a, l1] (.ref a :: st) ws := R_aload_n hc_13 dX0_deaths_0 rfl rfl
theorem r_13_1 (ls st : List Value) (a : Nat) (ws : ai_W) : ai_Run 13 1 ls (.ref a :: st) ws = (ai_fget ws a 0 3).bind fun q => ai_Run 13 4 ls (q :: st) ws := R_getf hc_13 dX0_deaths_1 hv_13 (w := 475) rfl rfl
theorem r_13_4 (l0 : Value) (a : Int32) (st : List Value) (ws : ai_W) : ai_Run 13 4 [l0, .int a] st ws = ai_Run 13 5 [l0, .int a] (.int a :: st) ws := R_iload_n hc_13 dX0_deaths_4 rfl rfl
theorem r_13_5 (ls : List Value) (r : Nat) (b0 : Int32) (ws : ai_W) : ai_Run 13 5 ls [.int b0, .ref r] ws = (ai_Call 12 [.ref r, .int b0] ws).bind fun q => ai_Run 13 8 ls (q.1.toList ++ []) q.2 := R_callV hc_13 dX0_deaths_5 hv_13 (w := 119) rfl (ai_lt3 hf_12 hf_13 hL_12 ho_12 ho_13 rfl) hk_12 (by rw [hn_12]; rfl) rfl (Nat.le_of_ble_eq_true rfl) rfl
theorem r_13_8 (ls st : List Value) (ws : ai_W) : ai_Run 13 8 ls st ws = ai_Run 13 9 ls (.int 1 :: st) ws := R_iconst hc_13 dX0_deaths_8 (by decide) rfl
theorem r_13_9 (ls st : List Value) (a b : Int32) (ws : ai_W) : ai_Run 13 9 ls (.int b :: .int a :: st) ws = ai_Run 13 10 ls (.int (a + b) :: st) ws := R_iadd hc_13 dX0_deaths_9 rfl
theorem r_13_10 (ls st : List Value) (ws : ai_W) : ai_Run 13 10 ls st ws = ai_Run 13 11 ls (.int 2 :: st) ws := R_iconst hc_13 dX0_deaths_10 (by decide) rfl
theorem r_13_11 (ls st : List Value) (a : Int32) (ws : ai_W) : ai_Run 13 11 ls (.int 2 :: .int a :: st) ws = ai_Run 13 12 ls (.int (a / 2) :: st) ws := R_idiv hc_13 dX0_deaths_11 (by decide) rfl
theorem r_13_12 (ls : List Value) (x : Int32) (ws : ai_W) : ai_Run 13 12 ls [.int x] ws = some (some (.int x), ws) := R_iret hc_13 dX0_deaths_12 ht_13
theorem dX2_allDeaths_0 : decode cX2_allDeaths 0 = .ok (.iconst 0, 1) := by decide +kernel
theorem dX2_allDeaths_1 : decode cX2_allDeaths 1 = .ok (.istore_n 1, 1) := by decide +kernel
theorem dX2_allDeaths_2 : decode cX2_allDeaths 2 = .ok (.iconst 0, 1) := by decide +kernel
theorem dX2_allDeaths_3 : decode cX2_allDeaths 3 = .ok (.istore_n 2, 1) := by decide +kernel
theorem dX2_allDeaths_4 : decode cX2_allDeaths 4 = .ok (.iload_n 2, 1) := by decide +kernel
theorem dX2_allDeaths_5 : decode cX2_allDeaths 5 = .ok (.aload_n 0, 1) := by decide +kernel
theorem dX2_allDeaths_6 : decode cX2_allDeaths 6 = .ok (.getfield 20, 3) := by decide +kernel
theorem dX2_allDeaths_9 : decode cX2_allDeaths 9 = .ok (.getfield 41, 3) := by decide +kernel
theorem dX2_allDeaths_12 : decode cX2_allDeaths 12 = .ok (.if_icmp .ge 20, 3) := by decide +kernel
theorem dX2_allDeaths_15 : decode cX2_allDeaths 15 = .ok (.iload_n 1, 1) := by decide +kernel
theorem dX2_allDeaths_16 : decode cX2_allDeaths 16 = .ok (.aload_n 0, 1) := by decide +kernel
theorem dX2_allDeaths_17 : decode cX2_allDeaths 17 = .ok (.getfield 20, 3) := by decide +kernel
theorem dX2_allDeaths_20 : decode cX2_allDeaths 20 = .ok (.iload_n 2, 1) := by decide +kernel
theorem dX2_allDeaths_21 : decode cX2_allDeaths 21 = .ok (.invokevirtual 24, 3) := by decide +kernel
theorem dX2_allDeaths_24 : decode cX2_allDeaths 24 = .ok (.iadd, 1) := by decide +kernel
theorem dX2_allDeaths_25 : decode cX2_allDeaths 25 = .ok (.istore_n 1, 1) := by decide +kernel
theorem dX2_allDeaths_26 : decode cX2_allDeaths 26 = .ok (.iinc 2 1, 3) := by decide +kernel
theorem dX2_allDeaths_29 : decode cX2_allDeaths 29 = .ok (.goto (-25), 3) := by decide +kernel
theorem dX2_allDeaths_32 : decode cX2_allDeaths 32 = .ok (.iload_n 1, 1) := by decide +kernel
theorem dX2_allDeaths_33 : decode cX2_allDeaths 33 = .ok (.ireturn, 1) := by decide +kernel
theorem e_14 (r : Nat)  (ws : ai_W) : ai_Call 14 [.ref r] ws = if ai_isob ws r 2 = true then ai_Run 14 0 [.ref r, .null, .null] [] ws else none := R_entV hk_14 ⟨⟨rfl, rfl⟩, Nat.le_of_ble_eq_true rfl⟩ rfl
theorem r_14_0 (ls st : List Value) (ws : ai_W) : ai_Run 14 0 ls st ws = ai_Run 14 1 ls (.int 0 :: st) ws := R_iconst hc_14 dX2_allDeaths_0 (by decide) rfl
theorem r_14_1 (l0 l1 l2 : Value) (a : Int32) (st : List Value) (ws : ai_W) : ai_Run 14 1 [l0, l1, l2] (.int a :: st) ws = ai_Run 14 2 [l0, .int a, l2] st ws := R_istore_n hc_14 dX2_allDeaths_1 (Nat.le_of_ble_eq_true rfl) rfl rfl
theorem r_14_2 (ls st : List Value) (ws : ai_W) : ai_Run 14 2 ls st ws = ai_Run 14 3 ls (.int 0 :: st) ws := R_iconst hc_14 dX2_allDeaths_2 (by decide) rfl
theorem r_14_3 (l0 l1 l2 : Value) (a : Int32) (st : List Value) (ws : ai_W) : ai_Run 14 3 [l0, l1, l2] (.int a :: st) ws = ai_Run 14 4 [l0, l1, .int a] st ws := R_istore_n hc_14 dX2_allDeaths_3 (Nat.le_of_ble_eq_true rfl) rfl rfl
theorem r_14_4 (l0 l1 : Value) (a : Int32) (st : List Value) (ws : ai_W) : ai_Run 14 4 [l0, l1, .int a] st ws = ai_Run 14 5 [l0, l1, .int a] (.int a :: st) ws := R_iload_n hc_14 dX2_allDeaths_4 rfl rfl
theorem r_14_5 (l1 l2 : Value) (a : Nat) (st : List Value) (ws : ai_W) : ai_Run 14 5 [.ref a, l1, l2] st ws = ai_Run 14 6 [.ref a, l1, l2] (.ref a :: st) ws := R_aload_n hc_14 dX2_allDeaths_5 rfl rfl
theorem r_14_6 (ls st : List Value) (a : Nat) (ws : ai_W) : ai_Run 14 6 ls (.ref a :: st) ws = (ai_fget ws a 2 0).bind fun q => ai_Run 14 9 ls (q :: st) ws := R_getf hc_14 dX2_allDeaths_6 hv_14 (w := 561) rfl rfl
theorem r_14_9 (ls st : List Value) (a : Nat) (ws : ai_W) : ai_Run 14 9 ls (.ref a :: st) ws = (ai_fget ws a 0 0).bind fun q => ai_Run 14 12 ls (q :: st) ws := R_getf hc_14 dX2_allDeaths_9 hv_14 (w := 466) rfl rfl
theorem r_14_12 (ls st : List Value) (a b : Int32) (ws : ai_W) : ai_Run 14 12 ls (.int b :: .int a :: st) ws = if a < b then ai_Run 14 15 ls st ws else ai_Run 14 32 ls st ws := R_cmp_ge hc_14 dX2_allDeaths_12 rfl rfl
theorem r_14_15 (l0 l2 : Value) (a : Int32) (st : List Value) (ws : ai_W) : ai_Run 14 15 [l0, .int a, l2] st ws = ai_Run 14 16 [l0, .int a, l2] (.int a :: st) ws := R_iload_n hc_14 dX2_allDeaths_15 rfl rfl
theorem r_14_16 (l1 l2 : Value) (a : Nat) (st : List Value) (ws : ai_W) : ai_Run 14 16 [.ref a, l1, l2] st ws = ai_Run 14 17 [.ref a, l1, l2] (.ref a :: st) ws := R_aload_n hc_14 dX2_allDeaths_16 rfl rfl
theorem r_14_17 (ls st : List Value) (a : Nat) (ws : ai_W) : ai_Run 14 17 ls (.ref a :: st) ws = (ai_fget ws a 2 0).bind fun q => ai_Run 14 20 ls (q :: st) ws := R_getf hc_14 dX2_allDeaths_17 hv_14 (w := 561) rfl rfl
theorem r_14_20 (l0 l1 : Value) (a : Int32) (st : List Value) (ws : ai_W) : ai_Run 14 20 [l0, l1, .int a] st ws = ai_Run 14 21 [l0, l1, .int a] (.int a :: st) ws := R_iload_n hc_14 dX2_allDeaths_20 rfl rfl
theorem r_14_21 (ls : List Value) (r : Nat) (b0 : Int32) (s0 : Value) (ws : ai_W) : ai_Run 14 21 ls [.int b0, .ref r, s0] ws = (ai_Call 13 [.ref r, .int b0] ws).bind fun q => ai_Run 14 24 ls (q.1.toList ++ [s0]) q.2 := R_callV hc_14 dX2_allDeaths_21 hv_14 (w := 275) rfl (ai_lt3 hf_13 hf_14 hL_13 ho_13 ho_14 rfl) hk_13 (by rw [hn_13]; rfl) rfl (Nat.le_of_ble_eq_true rfl) rfl
theorem r_14_24 (ls st : List Value) (a b : Int32) (ws : ai_W) : ai_Run 14 24 ls (.int b :: .int a :: st) ws = ai_Run 14 25 ls (.int (a + b) :: st) ws := R_iadd hc_14 dX2_allDeaths_24 rfl
theorem r_14_25 (l0 l1 l2 : Value) (a : Int32) (st : List Value) (ws : ai_W) : ai_Run 14 25 [l0, l1, l2] (.int a :: st) ws = ai_Run 14 26 [l0, .int a, l2] st ws := R_istore_n hc_14 dX2_allDeaths_25 (Nat.le_of_ble_eq_true rfl) rfl rfl
theorem r_14_26 (l0 l1 : Value) (a : Int32) (st : List Value) (ws : ai_W) : ai_Run 14 26 [l0, l1, .int a] st ws = ai_Run 14 29 [l0, l1, .int (a + 1)] st ws := R_iinc hc_14 dX2_allDeaths_26 rfl (by decide) rfl rfl
theorem r_14_29 (ls st : List Value) (ws : ai_W) : ai_Run 14 29 ls st ws = ai_Run 14 4 ls st ws := R_goto hc_14 dX2_allDeaths_29 rfl
theorem r_14_32 (l0 l2 : Value) (a : Int32) (st : List Value) (ws : ai_W) : ai_Run 14 32 [l0, .int a, l2] st ws = ai_Run 14 33 [l0, .int a, l2] (.int a :: st) ws := R_iload_n hc_14 dX2_allDeaths_32 rfl rfl
theorem r_14_33 (ls : List Value) (x : Int32) (ws : ai_W) : ai_Run 14 33 ls [.int x] ws = some (some (.int x), ws) := R_iret hc_14 dX2_allDeaths_33 ht_14
theorem dX0_risings_0 : decode cX0_risings 0 = .ok (.aload_n 0, 1) := by decide +kernel
theorem dX0_risings_1 : decode cX0_risings 1 = .ok (.getfield 14, 3) := by decide +kernel
theorem dX0_risings_4 : decode cX0_risings 4 = .ok (.iload_n 1, 1) := by decide +kernel
theorem dX0_risings_5 : decode cX0_risings 5 = .ok (.invokevirtual 57, 3) := by decide +kernel
theorem dX0_risings_8 : decode cX0_risings 8 = .ok (.iconst 2, 1) := by decide +kernel
theorem dX0_risings_9 : decode cX0_risings 9 = .ok (.idiv, 1) := by decide +kernel
theorem dX0_risings_10 : decode cX0_risings 10 = .ok (.ireturn, 1) := by decide +kernel
theorem e_15 (r : Nat) (a0 : Int32) (ws : ai_W) : ai_Call 15 [.ref r, .int a0] ws = if ai_isob ws r 0 = true then ai_Run 15 0 [.ref r, .int a0] [] ws else none := R_entV hk_15 ⟨⟨rfl, rfl⟩, Nat.le_of_ble_eq_true rfl⟩ rfl
theorem r_15_0 (l1 : Value) (a : Nat) (st : List Value) (ws : ai_W) : ai_Run 15 0 [.ref a, l1] st ws = ai_Run 15 1 [.ref a, l1] (.ref a :: st) ws := R_aload_n hc_15 dX0_risings_0 rfl rfl
theorem r_15_1 (ls st : List Value) (a : Nat) (ws : ai_W) : ai_Run 15 1 ls (.ref a :: st) ws = (ai_fget ws a 0 3).bind fun q => ai_Run 15 4 ls (q :: st) ws := R_getf hc_15 dX0_risings_1 hv_15 (w := 475) rfl rfl
theorem r_15_4 (l0 : Value) (a : Int32) (st : List Value) (ws : ai_W) : ai_Run 15 4 [l0, .int a] st ws = ai_Run 15 5 [l0, .int a] (.int a :: st) ws := R_iload_n hc_15 dX0_risings_4 rfl rfl
theorem r_15_5 (ls : List Value) (r : Nat) (b0 : Int32) (ws : ai_W) : ai_Run 15 5 ls [.int b0, .ref r] ws = (ai_Call 12 [.ref r, .int b0] ws).bind fun q => ai_Run 15 8 ls (q.1.toList ++ []) q.2 := R_callV hc_15 dX0_risings_5 hv_15 (w := 119) rfl (ai_lt3 hf_12 hf_15 hL_12 ho_12 ho_15 rfl) hk_12 (by rw [hn_12]; rfl) rfl (Nat.le_of_ble_eq_true rfl) rfl
theorem r_15_8 (ls st : List Value) (ws : ai_W) : ai_Run 15 8 ls st ws = ai_Run 15 9 ls (.int 2 :: st) ws := R_iconst hc_15 dX0_risings_8 (by decide) rfl
theorem r_15_9 (ls st : List Value) (a : Int32) (ws : ai_W) : ai_Run 15 9 ls (.int 2 :: .int a :: st) ws = ai_Run 15 10 ls (.int (a / 2) :: st) ws := R_idiv hc_15 dX0_risings_9 (by decide) rfl
theorem r_15_10 (ls : List Value) (x : Int32) (ws : ai_W) : ai_Run 15 10 ls [.int x] ws = some (some (.int x), ws) := R_iret hc_15 dX0_risings_10 ht_15
theorem dX2_allRisings_0 : decode cX2_allRisings 0 = .ok (.iconst 0, 1) := by decide +kernel
theorem dX2_allRisings_1 : decode cX2_allRisings 1 = .ok (.istore_n 1, 1) := by decide +kernel
theorem dX2_allRisings_2 : decode cX2_allRisings 2 = .ok (.iconst 0, 1) := by decide +kernel
theorem dX2_allRisings_3 : decode cX2_allRisings 3 = .ok (.istore_n 2, 1) := by decide +kernel
theorem dX2_allRisings_4 : decode cX2_allRisings 4 = .ok (.iload_n 2, 1) := by decide +kernel
theorem dX2_allRisings_5 : decode cX2_allRisings 5 = .ok (.aload_n 0, 1) := by decide +kernel
theorem dX2_allRisings_6 : decode cX2_allRisings 6 = .ok (.getfield 20, 3) := by decide +kernel
theorem dX2_allRisings_9 : decode cX2_allRisings 9 = .ok (.getfield 41, 3) := by decide +kernel
theorem dX2_allRisings_12 : decode cX2_allRisings 12 = .ok (.if_icmp .ge 20, 3) := by decide +kernel
theorem dX2_allRisings_15 : decode cX2_allRisings 15 = .ok (.iload_n 1, 1) := by decide +kernel
theorem dX2_allRisings_16 : decode cX2_allRisings 16 = .ok (.aload_n 0, 1) := by decide +kernel
theorem dX2_allRisings_17 : decode cX2_allRisings 17 = .ok (.getfield 20, 3) := by decide +kernel
theorem dX2_allRisings_20 : decode cX2_allRisings 20 = .ok (.iload_n 2, 1) := by decide +kernel
theorem dX2_allRisings_21 : decode cX2_allRisings 21 = .ok (.invokevirtual 64, 3) := by decide +kernel
theorem dX2_allRisings_24 : decode cX2_allRisings 24 = .ok (.iadd, 1) := by decide +kernel
theorem dX2_allRisings_25 : decode cX2_allRisings 25 = .ok (.istore_n 1, 1) := by decide +kernel
theorem dX2_allRisings_26 : decode cX2_allRisings 26 = .ok (.iinc 2 1, 3) := by decide +kernel
theorem dX2_allRisings_29 : decode cX2_allRisings 29 = .ok (.goto (-25), 3) := by decide +kernel
theorem dX2_allRisings_32 : decode cX2_allRisings 32 = .ok (.iload_n 1, 1) := by decide +kernel
theorem dX2_allRisings_33 : decode cX2_allRisings 33 = .ok (.ireturn, 1) := by decide +kernel
theorem e_16 (r : Nat)  (ws : ai_W) : ai_Call 16 [.ref r] ws = if ai_isob ws r 2 = true then ai_Run 16 0 [.ref r, .null, .null] [] ws else none := R_entV hk_16 ⟨⟨rfl, rfl⟩, Nat.le_of_ble_eq_true rfl⟩ rfl
theorem r_16_0 (ls st : List Value) (ws : ai_W) : ai_Run 16 0 ls st ws = ai_Run 16 1 ls (.int 0 :: st) ws := R_iconst hc_16 dX2_allRisings_0 (by decide) rfl
theorem r_16_1 (l0 l1 l2 : Value) (a : Int32) (st : List Value) (ws : ai_W) : ai_Run 16 1 [l0, l1, l2] (.int a :: st) ws = ai_Run 16 2 [l0, .int a, l2] st ws := R_istore_n hc_16 dX2_allRisings_1 (Nat.le_of_ble_eq_true rfl) rfl rfl
theorem r_16_2 (ls st : List Value) (ws : ai_W) : ai_Run 16 2 ls st ws = ai_Run 16 3 ls (.int 0 :: st) ws := R_iconst hc_16 dX2_allRisings_2 (by decide) rfl
theorem r_16_3 (l0 l1 l2 : Value) (a : Int32) (st : List Value) (ws : ai_W) : ai_Run 16 3 [l0, l1, l2] (.int a :: st) ws = ai_Run 16 4 [l0, l1, .int a] st ws := R_istore_n hc_16 dX2_allRisings_3 (Nat.le_of_ble_eq_true rfl) rfl rfl
theorem r_16_4 (l0 l1 : Value) (a : Int32) (st : List Value) (ws : ai_W) : ai_Run 16 4 [l0, l1, .int a] st ws = ai_Run 16 5 [l0, l1, .int a] (.int a :: st) ws := R_iload_n hc_16 dX2_allRisings_4 rfl rfl
theorem r_16_5 (l1 l2 : Value) (a : Nat) (st : List Value) (ws : ai_W) : ai_Run 16 5 [.ref a, l1, l2] st ws = ai_Run 16 6 [.ref a, l1, l2] (.ref a :: st) ws := R_aload_n hc_16 dX2_allRisings_5 rfl rfl
theorem r_16_6 (ls st : List Value) (a : Nat) (ws : ai_W) : ai_Run 16 6 ls (.ref a :: st) ws = (ai_fget ws a 2 0).bind fun q => ai_Run 16 9 ls (q :: st) ws := R_getf hc_16 dX2_allRisings_6 hv_16 (w := 561) rfl rfl
theorem r_16_9 (ls st : List Value) (a : Nat) (ws : ai_W) : ai_Run 16 9 ls (.ref a :: st) ws = (ai_fget ws a 0 0).bind fun q => ai_Run 16 12 ls (q :: st) ws := R_getf hc_16 dX2_allRisings_9 hv_16 (w := 466) rfl rfl
theorem r_16_12 (ls st : List Value) (a b : Int32) (ws : ai_W) : ai_Run 16 12 ls (.int b :: .int a :: st) ws = if a < b then ai_Run 16 15 ls st ws else ai_Run 16 32 ls st ws := R_cmp_ge hc_16 dX2_allRisings_12 rfl rfl
theorem r_16_15 (l0 l2 : Value) (a : Int32) (st : List Value) (ws : ai_W) : ai_Run 16 15 [l0, .int a, l2] st ws = ai_Run 16 16 [l0, .int a, l2] (.int a :: st) ws := R_iload_n hc_16 dX2_allRisings_15 rfl rfl
theorem r_16_16 (l1 l2 : Value) (a : Nat) (st : List Value) (ws : ai_W) : ai_Run 16 16 [.ref a, l1, l2] st ws = ai_Run 16 17 [.ref a, l1, l2] (.ref a :: st) ws := R_aload_n hc_16 dX2_allRisings_16 rfl rfl
theorem r_16_17 (ls st : List Value) (a : Nat) (ws : ai_W) : ai_Run 16 17 ls (.ref a :: st) ws = (ai_fget ws a 2 0).bind fun q => ai_Run 16 20 ls (q :: st) ws := R_getf hc_16 dX2_allRisings_17 hv_16 (w := 561) rfl rfl
theorem r_16_20 (l0 l1 : Value) (a : Int32) (st : List Value) (ws : ai_W) : ai_Run 16 20 [l0, l1, .int a] st ws = ai_Run 16 21 [l0, l1, .int a] (.int a :: st) ws := R_iload_n hc_16 dX2_allRisings_20 rfl rfl
theorem r_16_21 (ls : List Value) (r : Nat) (b0 : Int32) (s0 : Value) (ws : ai_W) : ai_Run 16 21 ls [.int b0, .ref r, s0] ws = (ai_Call 15 [.ref r, .int b0] ws).bind fun q => ai_Run 16 24 ls (q.1.toList ++ [s0]) q.2 := R_callV hc_16 dX2_allRisings_21 hv_16 (w := 354) rfl (ai_lt3 hf_15 hf_16 hL_15 ho_15 ho_16 rfl) hk_15 (by rw [hn_15]; rfl) rfl (Nat.le_of_ble_eq_true rfl) rfl
theorem r_16_24 (ls st : List Value) (a b : Int32) (ws : ai_W) : ai_Run 16 24 ls (.int b :: .int a :: st) ws = ai_Run 16 25 ls (.int (a + b) :: st) ws := R_iadd hc_16 dX2_allRisings_24 rfl
theorem r_16_25 (l0 l1 l2 : Value) (a : Int32) (st : List Value) (ws : ai_W) : ai_Run 16 25 [l0, l1, l2] (.int a :: st) ws = ai_Run 16 26 [l0, .int a, l2] st ws := R_istore_n hc_16 dX2_allRisings_25 (Nat.le_of_ble_eq_true rfl) rfl rfl
theorem r_16_26 (l0 l1 : Value) (a : Int32) (st : List Value) (ws : ai_W) : ai_Run 16 26 [l0, l1, .int a] st ws = ai_Run 16 29 [l0, l1, .int (a + 1)] st ws := R_iinc hc_16 dX2_allRisings_26 rfl (by decide) rfl rfl
theorem r_16_29 (ls st : List Value) (ws : ai_W) : ai_Run 16 29 ls st ws = ai_Run 16 4 ls st ws := R_goto hc_16 dX2_allRisings_29 rfl
theorem r_16_32 (l0 l2 : Value) (a : Int32) (st : List Value) (ws : ai_W) : ai_Run 16 32 [l0, .int a, l2] st ws = ai_Run 16 33 [l0, .int a, l2] (.int a :: st) ws := R_iload_n hc_16 dX2_allRisings_32 rfl rfl
theorem r_16_33 (ls : List Value) (x : Int32) (ws : ai_W) : ai_Run 16 33 ls [.int x] ws = some (some (.int x), ws) := R_iret hc_16 dX2_allRisings_33 ht_16
theorem dX0_culprit_0 : decode cX0_culprit 0 = .ok (.aload_n 0, 1) := by decide +kernel
theorem dX0_culprit_1 : decode cX0_culprit 1 = .ok (.getfield 23, 3) := by decide +kernel
theorem dX0_culprit_4 : decode cX0_culprit 4 = .ok (.iload_n 1, 1) := by decide +kernel
theorem dX0_culprit_5 : decode cX0_culprit 5 = .ok (.iconst 3, 1) := by decide +kernel
theorem dX0_culprit_6 : decode cX0_culprit 6 = .ok (.imul, 1) := by decide +kernel
theorem dX0_culprit_7 : decode cX0_culprit 7 = .ok (.iload_n 2, 1) := by decide +kernel
theorem dX0_culprit_8 : decode cX0_culprit 8 = .ok (.iadd, 1) := by decide +kernel
theorem dX0_culprit_9 : decode cX0_culprit 9 = .ok (.invokevirtual 57, 3) := by decide +kernel
theorem dX0_culprit_12 : decode cX0_culprit 12 = .ok (.ireturn, 1) := by decide +kernel
theorem e_17 (r : Nat) (a0 : Int32) (a1 : Int32) (ws : ai_W) : ai_Call 17 [.ref r, .int a0, .int a1] ws = if ai_isob ws r 0 = true then ai_Run 17 0 [.ref r, .int a0, .int a1] [] ws else none := R_entV hk_17 ⟨⟨rfl, rfl⟩, Nat.le_of_ble_eq_true rfl⟩ rfl
theorem r_17_0 (l1 l2 : Value) (a : Nat) (st : List Value) (ws : ai_W) : ai_Run 17 0 [.ref a, l1, l2] st ws = ai_Run 17 1 [.ref a, l1, l2] (.ref a :: st) ws := R_aload_n hc_17 dX0_culprit_0 rfl rfl
theorem r_17_1 (ls st : List Value) (a : Nat) (ws : ai_W) : ai_Run 17 1 ls (.ref a :: st) ws = (ai_fget ws a 0 5).bind fun q => ai_Run 17 4 ls (q :: st) ws := R_getf hc_17 dX0_culprit_1 hv_17 (w := 481) rfl rfl
theorem r_17_4 (l0 l2 : Value) (a : Int32) (st : List Value) (ws : ai_W) : ai_Run 17 4 [l0, .int a, l2] st ws = ai_Run 17 5 [l0, .int a, l2] (.int a :: st) ws := R_iload_n hc_17 dX0_culprit_4 rfl rfl
theorem r_17_5 (ls st : List Value) (ws : ai_W) : ai_Run 17 5 ls st ws = ai_Run 17 6 ls (.int 3 :: st) ws := R_iconst hc_17 dX0_culprit_5 (by decide) rfl
theorem r_17_6 (ls st : List Value) (a b : Int32) (ws : ai_W) : ai_Run 17 6 ls (.int b :: .int a :: st) ws = ai_Run 17 7 ls (.int (a * b) :: st) ws := R_imul hc_17 dX0_culprit_6 rfl
theorem r_17_7 (l0 l1 : Value) (a : Int32) (st : List Value) (ws : ai_W) : ai_Run 17 7 [l0, l1, .int a] st ws = ai_Run 17 8 [l0, l1, .int a] (.int a :: st) ws := R_iload_n hc_17 dX0_culprit_7 rfl rfl
theorem r_17_8 (ls st : List Value) (a b : Int32) (ws : ai_W) : ai_Run 17 8 ls (.int b :: .int a :: st) ws = ai_Run 17 9 ls (.int (a + b) :: st) ws := R_iadd hc_17 dX0_culprit_8 rfl
theorem r_17_9 (ls : List Value) (r : Nat) (b0 : Int32) (ws : ai_W) : ai_Run 17 9 ls [.int b0, .ref r] ws = (ai_Call 12 [.ref r, .int b0] ws).bind fun q => ai_Run 17 12 ls (q.1.toList ++ []) q.2 := R_callV hc_17 dX0_culprit_9 hv_17 (w := 119) rfl (ai_lt3 hf_12 hf_17 hL_12 ho_12 ho_17 rfl) hk_12 (by rw [hn_12]; rfl) rfl (Nat.le_of_ble_eq_true rfl) rfl
theorem r_17_12 (ls : List Value) (x : Int32) (ws : ai_W) : ai_Run 17 12 ls [.int x] ws = some (some (.int x), ws) := R_iret hc_17 dX0_culprit_12 ht_17
theorem dX0_isSolved_0 : decode cX0_isSolved 0 = .ok (.aload_n 0, 1) := by decide +kernel
theorem dX0_isSolved_1 : decode cX0_isSolved 1 = .ok (.iload_n 1, 1) := by decide +kernel
theorem dX0_isSolved_2 : decode cX0_isSolved 2 = .ok (.iload_n 2, 1) := by decide +kernel
theorem dX0_isSolved_3 : decode cX0_isSolved 3 = .ok (.invokevirtual 64, 3) := by decide +kernel
theorem dX0_isSolved_6 : decode cX0_isSolved 6 = .ok (.bipush (-4), 2) := by decide +kernel
theorem dX0_isSolved_8 : decode cX0_isSolved 8 = .ok (.if_icmp .eq 7, 3) := by decide +kernel
theorem dX0_isSolved_11 : decode cX0_isSolved 11 = .ok (.iconst 1, 1) := by decide +kernel
theorem dX0_isSolved_12 : decode cX0_isSolved 12 = .ok (.goto 4, 3) := by decide +kernel
theorem dX0_isSolved_15 : decode cX0_isSolved 15 = .ok (.iconst 0, 1) := by decide +kernel
theorem dX0_isSolved_16 : decode cX0_isSolved 16 = .ok (.ireturn, 1) := by decide +kernel
theorem e_18 (r : Nat) (a0 : Int32) (a1 : Int32) (ws : ai_W) : ai_Call 18 [.ref r, .int a0, .int a1] ws = if ai_isob ws r 0 = true then ai_Run 18 0 [.ref r, .int a0, .int a1] [] ws else none := R_entV hk_18 ⟨⟨rfl, rfl⟩, Nat.le_of_ble_eq_true rfl⟩ rfl
theorem r_18_0 (l1 l2 : Value) (a : Nat) (st : List Value) (ws : ai_W) : ai_Run 18 0 [.ref a, l1, l2] st ws = ai_Run 18 1 [.ref a, l1, l2] (.ref a :: st) ws := R_aload_n hc_18 dX0_isSolved_0 rfl rfl
theorem r_18_1 (l0 l2 : Value) (a : Int32) (st : List Value) (ws : ai_W) : ai_Run 18 1 [l0, .int a, l2] st ws = ai_Run 18 2 [l0, .int a, l2] (.int a :: st) ws := R_iload_n hc_18 dX0_isSolved_1 rfl rfl
theorem r_18_2 (l0 l1 : Value) (a : Int32) (st : List Value) (ws : ai_W) : ai_Run 18 2 [l0, l1, .int a] st ws = ai_Run 18 3 [l0, l1, .int a] (.int a :: st) ws := R_iload_n hc_18 dX0_isSolved_2 rfl rfl
theorem r_18_3 (ls : List Value) (r : Nat) (b0 : Int32) (b1 : Int32) (ws : ai_W) : ai_Run 18 3 ls [.int b1, .int b0, .ref r] ws = (ai_Call 17 [.ref r, .int b0, .int b1] ws).bind fun q => ai_Run 18 6 ls (q.1.toList ++ []) q.2 := R_callV hc_18 dX0_isSolved_3 hv_18 (w := 336) rfl (ai_lt3 hf_17 hf_18 hL_17 ho_17 ho_18 rfl) hk_17 (by rw [hn_17]; rfl) rfl (Nat.le_of_ble_eq_true rfl) rfl
theorem r_18_6 (ls st : List Value) (ws : ai_W) : ai_Run 18 6 ls st ws = ai_Run 18 8 ls (.int (-4) :: st) ws := R_bipush hc_18 dX0_isSolved_6 (by decide) rfl
theorem r_18_8 (ls st : List Value) (a b : Int32) (ws : ai_W) : ai_Run 18 8 ls (.int b :: .int a :: st) ws = if a = b then ai_Run 18 15 ls st ws else ai_Run 18 11 ls st ws := R_cmp_eq hc_18 dX0_isSolved_8 rfl rfl
theorem r_18_11 (ls st : List Value) (ws : ai_W) : ai_Run 18 11 ls st ws = ai_Run 18 12 ls (.int 1 :: st) ws := R_iconst hc_18 dX0_isSolved_11 (by decide) rfl
theorem r_18_12 (ls st : List Value) (ws : ai_W) : ai_Run 18 12 ls st ws = ai_Run 18 16 ls st ws := R_goto hc_18 dX0_isSolved_12 rfl
theorem r_18_15 (ls st : List Value) (ws : ai_W) : ai_Run 18 15 ls st ws = ai_Run 18 16 ls (.int 0 :: st) ws := R_iconst hc_18 dX0_isSolved_15 (by decide) rfl
theorem r_18_16 (ls : List Value) (x : Int32) (ws : ai_W) : ai_Run 18 16 ls [.int x] ws = if ai_pb x = true then some (some (.int x), ws) else none := R_zret hc_18 dX0_isSolved_16 ht_18
theorem dX2_solvedDeaths_0 : decode cX2_solvedDeaths 0 = .ok (.iconst 0, 1) := by decide +kernel
theorem dX2_solvedDeaths_1 : decode cX2_solvedDeaths 1 = .ok (.istore_n 2, 1) := by decide +kernel
theorem dX2_solvedDeaths_2 : decode cX2_solvedDeaths 2 = .ok (.iconst 0, 1) := by decide +kernel
theorem dX2_solvedDeaths_3 : decode cX2_solvedDeaths 3 = .ok (.istore_n 3, 1) := by decide +kernel
theorem dX2_solvedDeaths_4 : decode cX2_solvedDeaths 4 = .ok (.iload_n 3, 1) := by decide +kernel
theorem dX2_solvedDeaths_5 : decode cX2_solvedDeaths 5 = .ok (.aload_n 0, 1) := by decide +kernel
theorem dX2_solvedDeaths_6 : decode cX2_solvedDeaths 6 = .ok (.getfield 20, 3) := by decide +kernel
theorem dX2_solvedDeaths_9 : decode cX2_solvedDeaths 9 = .ok (.iload_n 1, 1) := by decide +kernel
theorem dX2_solvedDeaths_10 : decode cX2_solvedDeaths 10 = .ok (.invokevirtual 24, 3) := by decide +kernel
theorem dX2_solvedDeaths_13 : decode cX2_solvedDeaths 13 = .ok (.if_icmp .ge 24, 3) := by decide +kernel
theorem dX2_solvedDeaths_16 : decode cX2_solvedDeaths 16 = .ok (.aload_n 0, 1) := by decide +kernel
theorem dX2_solvedDeaths_17 : decode cX2_solvedDeaths 17 = .ok (.getfield 20, 3) := by decide +kernel
theorem dX2_solvedDeaths_20 : decode cX2_solvedDeaths 20 = .ok (.iload_n 1, 1) := by decide +kernel
theorem dX2_solvedDeaths_21 : decode cX2_solvedDeaths 21 = .ok (.iload_n 3, 1) := by decide +kernel
theorem dX2_solvedDeaths_22 : decode cX2_solvedDeaths 22 = .ok (.invokevirtual 37, 3) := by decide +kernel
theorem dX2_solvedDeaths_25 : decode cX2_solvedDeaths 25 = .ok (.ifCond .eq 6, 3) := by decide +kernel
theorem dX2_solvedDeaths_28 : decode cX2_solvedDeaths 28 = .ok (.iinc 2 1, 3) := by decide +kernel
theorem dX2_solvedDeaths_31 : decode cX2_solvedDeaths 31 = .ok (.iinc 3 1, 3) := by decide +kernel
theorem dX2_solvedDeaths_34 : decode cX2_solvedDeaths 34 = .ok (.goto (-30), 3) := by decide +kernel
theorem dX2_solvedDeaths_37 : decode cX2_solvedDeaths 37 = .ok (.iload_n 2, 1) := by decide +kernel
theorem dX2_solvedDeaths_38 : decode cX2_solvedDeaths 38 = .ok (.ireturn, 1) := by decide +kernel
theorem e_19 (r : Nat) (a0 : Int32) (ws : ai_W) : ai_Call 19 [.ref r, .int a0] ws = if ai_isob ws r 2 = true then ai_Run 19 0 [.ref r, .int a0, .null, .null] [] ws else none := R_entV hk_19 ⟨⟨rfl, rfl⟩, Nat.le_of_ble_eq_true rfl⟩ rfl
theorem r_19_0 (ls st : List Value) (ws : ai_W) : ai_Run 19 0 ls st ws = ai_Run 19 1 ls (.int 0 :: st) ws := R_iconst hc_19 dX2_solvedDeaths_0 (by decide) rfl
theorem r_19_1 (l0 l1 l2 l3 : Value) (a : Int32) (st : List Value) (ws : ai_W) : ai_Run 19 1 [l0, l1, l2, l3] (.int a :: st) ws = ai_Run 19 2 [l0, l1, .int a, l3] st ws := R_istore_n hc_19 dX2_solvedDeaths_1 (Nat.le_of_ble_eq_true rfl) rfl rfl
theorem r_19_2 (ls st : List Value) (ws : ai_W) : ai_Run 19 2 ls st ws = ai_Run 19 3 ls (.int 0 :: st) ws := R_iconst hc_19 dX2_solvedDeaths_2 (by decide) rfl
theorem r_19_3 (l0 l1 l2 l3 : Value) (a : Int32) (st : List Value) (ws : ai_W) : ai_Run 19 3 [l0, l1, l2, l3] (.int a :: st) ws = ai_Run 19 4 [l0, l1, l2, .int a] st ws := R_istore_n hc_19 dX2_solvedDeaths_3 (Nat.le_of_ble_eq_true rfl) rfl rfl
theorem r_19_4 (l0 l1 l2 : Value) (a : Int32) (st : List Value) (ws : ai_W) : ai_Run 19 4 [l0, l1, l2, .int a] st ws = ai_Run 19 5 [l0, l1, l2, .int a] (.int a :: st) ws := R_iload_n hc_19 dX2_solvedDeaths_4 rfl rfl
theorem r_19_5 (l1 l2 l3 : Value) (a : Nat) (st : List Value) (ws : ai_W) : ai_Run 19 5 [.ref a, l1, l2, l3] st ws = ai_Run 19 6 [.ref a, l1, l2, l3] (.ref a :: st) ws := R_aload_n hc_19 dX2_solvedDeaths_5 rfl rfl
theorem r_19_6 (ls st : List Value) (a : Nat) (ws : ai_W) : ai_Run 19 6 ls (.ref a :: st) ws = (ai_fget ws a 2 0).bind fun q => ai_Run 19 9 ls (q :: st) ws := R_getf hc_19 dX2_solvedDeaths_6 hv_19 (w := 561) rfl rfl
theorem r_19_9 (l0 l2 l3 : Value) (a : Int32) (st : List Value) (ws : ai_W) : ai_Run 19 9 [l0, .int a, l2, l3] st ws = ai_Run 19 10 [l0, .int a, l2, l3] (.int a :: st) ws := R_iload_n hc_19 dX2_solvedDeaths_9 rfl rfl
theorem r_19_10 (ls : List Value) (r : Nat) (b0 : Int32) (s0 : Value) (ws : ai_W) : ai_Run 19 10 ls [.int b0, .ref r, s0] ws = (ai_Call 13 [.ref r, .int b0] ws).bind fun q => ai_Run 19 13 ls (q.1.toList ++ [s0]) q.2 := R_callV hc_19 dX2_solvedDeaths_10 hv_19 (w := 275) rfl (ai_lt3 hf_13 hf_19 hL_13 ho_13 ho_19 rfl) hk_13 (by rw [hn_13]; rfl) rfl (Nat.le_of_ble_eq_true rfl) rfl
theorem r_19_13 (ls st : List Value) (a b : Int32) (ws : ai_W) : ai_Run 19 13 ls (.int b :: .int a :: st) ws = if a < b then ai_Run 19 16 ls st ws else ai_Run 19 37 ls st ws := R_cmp_ge hc_19 dX2_solvedDeaths_13 rfl rfl
theorem r_19_16 (l1 l2 l3 : Value) (a : Nat) (st : List Value) (ws : ai_W) : ai_Run 19 16 [.ref a, l1, l2, l3] st ws = ai_Run 19 17 [.ref a, l1, l2, l3] (.ref a :: st) ws := R_aload_n hc_19 dX2_solvedDeaths_16 rfl rfl
theorem r_19_17 (ls st : List Value) (a : Nat) (ws : ai_W) : ai_Run 19 17 ls (.ref a :: st) ws = (ai_fget ws a 2 0).bind fun q => ai_Run 19 20 ls (q :: st) ws := R_getf hc_19 dX2_solvedDeaths_17 hv_19 (w := 561) rfl rfl
theorem r_19_20 (l0 l2 l3 : Value) (a : Int32) (st : List Value) (ws : ai_W) : ai_Run 19 20 [l0, .int a, l2, l3] st ws = ai_Run 19 21 [l0, .int a, l2, l3] (.int a :: st) ws := R_iload_n hc_19 dX2_solvedDeaths_20 rfl rfl
theorem r_19_21 (l0 l1 l2 : Value) (a : Int32) (st : List Value) (ws : ai_W) : ai_Run 19 21 [l0, l1, l2, .int a] st ws = ai_Run 19 22 [l0, l1, l2, .int a] (.int a :: st) ws := R_iload_n hc_19 dX2_solvedDeaths_21 rfl rfl
theorem r_19_22 (ls : List Value) (r : Nat) (b0 : Int32) (b1 : Int32) (ws : ai_W) : ai_Run 19 22 ls [.int b1, .int b0, .ref r] ws = (ai_Call 18 [.ref r, .int b0, .int b1] ws).bind fun q => ai_Run 19 25 ls (q.1.toList ++ []) q.2 := R_callV hc_19 dX2_solvedDeaths_22 hv_19 (w := 366) rfl (ai_lt3 hf_18 hf_19 hL_18 ho_18 ho_19 rfl) hk_18 (by rw [hn_18]; rfl) rfl (Nat.le_of_ble_eq_true rfl) rfl
theorem r_19_25 (ls st : List Value) (a : Int32) (ws : ai_W) : ai_Run 19 25 ls (.int a :: st) ws = if a = 0 then ai_Run 19 31 ls st ws else ai_Run 19 28 ls st ws := R_if_eq hc_19 dX2_solvedDeaths_25 rfl rfl
theorem r_19_28 (l0 l1 l3 : Value) (a : Int32) (st : List Value) (ws : ai_W) : ai_Run 19 28 [l0, l1, .int a, l3] st ws = ai_Run 19 31 [l0, l1, .int (a + 1), l3] st ws := R_iinc hc_19 dX2_solvedDeaths_28 rfl (by decide) rfl rfl
theorem r_19_31 (l0 l1 l2 : Value) (a : Int32) (st : List Value) (ws : ai_W) : ai_Run 19 31 [l0, l1, l2, .int a] st ws = ai_Run 19 34 [l0, l1, l2, .int (a + 1)] st ws := R_iinc hc_19 dX2_solvedDeaths_31 rfl (by decide) rfl rfl
theorem r_19_34 (ls st : List Value) (ws : ai_W) : ai_Run 19 34 ls st ws = ai_Run 19 4 ls st ws := R_goto hc_19 dX2_solvedDeaths_34 rfl
theorem r_19_37 (l0 l1 l3 : Value) (a : Int32) (st : List Value) (ws : ai_W) : ai_Run 19 37 [l0, l1, .int a, l3] st ws = ai_Run 19 38 [l0, l1, .int a, l3] (.int a :: st) ws := R_iload_n hc_19 dX2_solvedDeaths_37 rfl rfl
theorem r_19_38 (ls : List Value) (x : Int32) (ws : ai_W) : ai_Run 19 38 ls [.int x] ws = some (some (.int x), ws) := R_iret hc_19 dX2_solvedDeaths_38 ht_19
theorem dX2_allSolvedDeaths_0 : decode cX2_allSolvedDeaths 0 = .ok (.iconst 0, 1) := by decide +kernel
theorem dX2_allSolvedDeaths_1 : decode cX2_allSolvedDeaths 1 = .ok (.istore_n 1, 1) := by decide +kernel
theorem dX2_allSolvedDeaths_2 : decode cX2_allSolvedDeaths 2 = .ok (.iconst 0, 1) := by decide +kernel
theorem dX2_allSolvedDeaths_3 : decode cX2_allSolvedDeaths 3 = .ok (.istore_n 2, 1) := by decide +kernel
theorem dX2_allSolvedDeaths_4 : decode cX2_allSolvedDeaths 4 = .ok (.iload_n 2, 1) := by decide +kernel
theorem dX2_allSolvedDeaths_5 : decode cX2_allSolvedDeaths 5 = .ok (.aload_n 0, 1) := by decide +kernel
theorem dX2_allSolvedDeaths_6 : decode cX2_allSolvedDeaths 6 = .ok (.getfield 20, 3) := by decide +kernel
theorem dX2_allSolvedDeaths_9 : decode cX2_allSolvedDeaths 9 = .ok (.getfield 41, 3) := by decide +kernel
theorem dX2_allSolvedDeaths_12 : decode cX2_allSolvedDeaths 12 = .ok (.if_icmp .ge 17, 3) := by decide +kernel
theorem dX2_allSolvedDeaths_15 : decode cX2_allSolvedDeaths 15 = .ok (.iload_n 1, 1) := by decide +kernel
theorem dX2_allSolvedDeaths_16 : decode cX2_allSolvedDeaths 16 = .ok (.aload_n 0, 1) := by decide +kernel
theorem dX2_allSolvedDeaths_17 : decode cX2_allSolvedDeaths 17 = .ok (.iload_n 2, 1) := by decide +kernel
theorem dX2_allSolvedDeaths_18 : decode cX2_allSolvedDeaths 18 = .ok (.invokevirtual 67, 3) := by decide +kernel
theorem dX2_allSolvedDeaths_21 : decode cX2_allSolvedDeaths 21 = .ok (.iadd, 1) := by decide +kernel
theorem dX2_allSolvedDeaths_22 : decode cX2_allSolvedDeaths 22 = .ok (.istore_n 1, 1) := by decide +kernel
theorem dX2_allSolvedDeaths_23 : decode cX2_allSolvedDeaths 23 = .ok (.iinc 2 1, 3) := by decide +kernel
theorem dX2_allSolvedDeaths_26 : decode cX2_allSolvedDeaths 26 = .ok (.goto (-22), 3) := by decide +kernel
theorem dX2_allSolvedDeaths_29 : decode cX2_allSolvedDeaths 29 = .ok (.iload_n 1, 1) := by decide +kernel
theorem dX2_allSolvedDeaths_30 : decode cX2_allSolvedDeaths 30 = .ok (.ireturn, 1) := by decide +kernel
theorem e_20 (r : Nat)  (ws : ai_W) : ai_Call 20 [.ref r] ws = if ai_isob ws r 2 = true then ai_Run 20 0 [.ref r, .null, .null] [] ws else none := R_entV hk_20 ⟨⟨rfl, rfl⟩, Nat.le_of_ble_eq_true rfl⟩ rfl
theorem r_20_0 (ls st : List Value) (ws : ai_W) : ai_Run 20 0 ls st ws = ai_Run 20 1 ls (.int 0 :: st) ws := R_iconst hc_20 dX2_allSolvedDeaths_0 (by decide) rfl
theorem r_20_1 (l0 l1 l2 : Value) (a : Int32) (st : List Value) (ws : ai_W) : ai_Run 20 1 [l0, l1, l2] (.int a :: st) ws = ai_Run 20 2 [l0, .int a, l2] st ws := R_istore_n hc_20 dX2_allSolvedDeaths_1 (Nat.le_of_ble_eq_true rfl) rfl rfl
theorem r_20_2 (ls st : List Value) (ws : ai_W) : ai_Run 20 2 ls st ws = ai_Run 20 3 ls (.int 0 :: st) ws := R_iconst hc_20 dX2_allSolvedDeaths_2 (by decide) rfl
theorem r_20_3 (l0 l1 l2 : Value) (a : Int32) (st : List Value) (ws : ai_W) : ai_Run 20 3 [l0, l1, l2] (.int a :: st) ws = ai_Run 20 4 [l0, l1, .int a] st ws := R_istore_n hc_20 dX2_allSolvedDeaths_3 (Nat.le_of_ble_eq_true rfl) rfl rfl
theorem r_20_4 (l0 l1 : Value) (a : Int32) (st : List Value) (ws : ai_W) : ai_Run 20 4 [l0, l1, .int a] st ws = ai_Run 20 5 [l0, l1, .int a] (.int a :: st) ws := R_iload_n hc_20 dX2_allSolvedDeaths_4 rfl rfl
theorem r_20_5 (l1 l2 : Value) (a : Nat) (st : List Value) (ws : ai_W) : ai_Run 20 5 [.ref a, l1, l2] st ws = ai_Run 20 6 [.ref a, l1, l2] (.ref a :: st) ws := R_aload_n hc_20 dX2_allSolvedDeaths_5 rfl rfl
theorem r_20_6 (ls st : List Value) (a : Nat) (ws : ai_W) : ai_Run 20 6 ls (.ref a :: st) ws = (ai_fget ws a 2 0).bind fun q => ai_Run 20 9 ls (q :: st) ws := R_getf hc_20 dX2_allSolvedDeaths_6 hv_20 (w := 561) rfl rfl
theorem r_20_9 (ls st : List Value) (a : Nat) (ws : ai_W) : ai_Run 20 9 ls (.ref a :: st) ws = (ai_fget ws a 0 0).bind fun q => ai_Run 20 12 ls (q :: st) ws := R_getf hc_20 dX2_allSolvedDeaths_9 hv_20 (w := 466) rfl rfl
theorem r_20_12 (ls st : List Value) (a b : Int32) (ws : ai_W) : ai_Run 20 12 ls (.int b :: .int a :: st) ws = if a < b then ai_Run 20 15 ls st ws else ai_Run 20 29 ls st ws := R_cmp_ge hc_20 dX2_allSolvedDeaths_12 rfl rfl
theorem r_20_15 (l0 l2 : Value) (a : Int32) (st : List Value) (ws : ai_W) : ai_Run 20 15 [l0, .int a, l2] st ws = ai_Run 20 16 [l0, .int a, l2] (.int a :: st) ws := R_iload_n hc_20 dX2_allSolvedDeaths_15 rfl rfl
theorem r_20_16 (l1 l2 : Value) (a : Nat) (st : List Value) (ws : ai_W) : ai_Run 20 16 [.ref a, l1, l2] st ws = ai_Run 20 17 [.ref a, l1, l2] (.ref a :: st) ws := R_aload_n hc_20 dX2_allSolvedDeaths_16 rfl rfl
theorem r_20_17 (l0 l1 : Value) (a : Int32) (st : List Value) (ws : ai_W) : ai_Run 20 17 [l0, l1, .int a] st ws = ai_Run 20 18 [l0, l1, .int a] (.int a :: st) ws := R_iload_n hc_20 dX2_allSolvedDeaths_17 rfl rfl
theorem r_20_18 (ls : List Value) (r : Nat) (b0 : Int32) (s0 : Value) (ws : ai_W) : ai_Run 20 18 ls [.int b0, .ref r, s0] ws = (ai_Call 19 [.ref r, .int b0] ws).bind fun q => ai_Run 20 21 ls (q.1.toList ++ [s0]) q.2 := R_callV hc_20 dX2_allSolvedDeaths_18 hv_20 (w := 362) rfl (ai_lt3 hf_19 hf_20 hL_19 ho_19 ho_20 rfl) hk_19 (by rw [hn_19]; rfl) rfl (Nat.le_of_ble_eq_true rfl) rfl
theorem r_20_21 (ls st : List Value) (a b : Int32) (ws : ai_W) : ai_Run 20 21 ls (.int b :: .int a :: st) ws = ai_Run 20 22 ls (.int (a + b) :: st) ws := R_iadd hc_20 dX2_allSolvedDeaths_21 rfl
theorem r_20_22 (l0 l1 l2 : Value) (a : Int32) (st : List Value) (ws : ai_W) : ai_Run 20 22 [l0, l1, l2] (.int a :: st) ws = ai_Run 20 23 [l0, .int a, l2] st ws := R_istore_n hc_20 dX2_allSolvedDeaths_22 (Nat.le_of_ble_eq_true rfl) rfl rfl
theorem r_20_23 (l0 l1 : Value) (a : Int32) (st : List Value) (ws : ai_W) : ai_Run 20 23 [l0, l1, .int a] st ws = ai_Run 20 26 [l0, l1, .int (a + 1)] st ws := R_iinc hc_20 dX2_allSolvedDeaths_23 rfl (by decide) rfl rfl
theorem r_20_26 (ls st : List Value) (ws : ai_W) : ai_Run 20 26 ls st ws = ai_Run 20 4 ls st ws := R_goto hc_20 dX2_allSolvedDeaths_26 rfl
theorem r_20_29 (l0 l2 : Value) (a : Int32) (st : List Value) (ws : ai_W) : ai_Run 20 29 [l0, .int a, l2] st ws = ai_Run 20 30 [l0, .int a, l2] (.int a :: st) ws := R_iload_n hc_20 dX2_allSolvedDeaths_29 rfl rfl
theorem r_20_30 (ls : List Value) (x : Int32) (ws : ai_W) : ai_Run 20 30 ls [.int x] ws = some (some (.int x), ws) := R_iret hc_20 dX2_allSolvedDeaths_30 ht_20
theorem dX5_isTaken_0 : decode cX5_isTaken 0 = .ok (.aload_n 0, 1) := by decide +kernel
theorem dX5_isTaken_1 : decode cX5_isTaken 1 = .ok (.getfield 9, 3) := by decide +kernel
theorem dX5_isTaken_4 : decode cX5_isTaken 4 = .ok (.getfield 15, 3) := by decide +kernel
theorem dX5_isTaken_7 : decode cX5_isTaken 7 = .ok (.iload_n 1, 1) := by decide +kernel
theorem dX5_isTaken_8 : decode cX5_isTaken 8 = .ok (.invokevirtual 21, 3) := by decide +kernel
theorem dX5_isTaken_11 : decode cX5_isTaken 11 = .ok (.ifCond .le 7, 3) := by decide +kernel
theorem dX5_isTaken_14 : decode cX5_isTaken 14 = .ok (.iconst 1, 1) := by decide +kernel
theorem dX5_isTaken_15 : decode cX5_isTaken 15 = .ok (.goto 4, 3) := by decide +kernel
theorem dX5_isTaken_18 : decode cX5_isTaken 18 = .ok (.iconst 0, 1) := by decide +kernel
theorem dX5_isTaken_19 : decode cX5_isTaken 19 = .ok (.ireturn, 1) := by decide +kernel
theorem e_21 (r : Nat) (a0 : Int32) (ws : ai_W) : ai_Call 21 [.ref r, .int a0] ws = if ai_isob ws r 5 = true then ai_Run 21 0 [.ref r, .int a0] [] ws else none := R_entV hk_21 ⟨⟨rfl, rfl⟩, Nat.le_of_ble_eq_true rfl⟩ rfl
theorem r_21_0 (l1 : Value) (a : Nat) (st : List Value) (ws : ai_W) : ai_Run 21 0 [.ref a, l1] st ws = ai_Run 21 1 [.ref a, l1] (.ref a :: st) ws := R_aload_n hc_21 dX5_isTaken_0 rfl rfl
theorem r_21_1 (ls st : List Value) (a : Nat) (ws : ai_W) : ai_Run 21 1 ls (.ref a :: st) ws = (ai_fget ws a 5 0).bind fun q => ai_Run 21 4 ls (q :: st) ws := R_getf hc_21 dX5_isTaken_1 hv_21 (w := 531) rfl rfl
theorem r_21_4 (ls st : List Value) (a : Nat) (ws : ai_W) : ai_Run 21 4 ls (.ref a :: st) ws = (ai_fget ws a 0 9).bind fun q => ai_Run 21 7 ls (q :: st) ws := R_getf hc_21 dX5_isTaken_4 hv_21 (w := 492) rfl rfl
theorem r_21_7 (l0 : Value) (a : Int32) (st : List Value) (ws : ai_W) : ai_Run 21 7 [l0, .int a] st ws = ai_Run 21 8 [l0, .int a] (.int a :: st) ws := R_iload_n hc_21 dX5_isTaken_7 rfl rfl
theorem r_21_8 (ls : List Value) (r : Nat) (b0 : Int32) (ws : ai_W) : ai_Run 21 8 ls [.int b0, .ref r] ws = (ai_Call 12 [.ref r, .int b0] ws).bind fun q => ai_Run 21 11 ls (q.1.toList ++ []) q.2 := R_callV hc_21 dX5_isTaken_8 hv_21 (w := 196) rfl (ai_lt3 hf_12 hf_21 hL_12 ho_12 ho_21 rfl) hk_12 (by rw [hn_12]; rfl) rfl (Nat.le_of_ble_eq_true rfl) rfl
theorem r_21_11 (ls st : List Value) (a : Int32) (ws : ai_W) : ai_Run 21 11 ls (.int a :: st) ws = if 0 < a then ai_Run 21 14 ls st ws else ai_Run 21 18 ls st ws := R_if_le hc_21 dX5_isTaken_11 rfl rfl
theorem r_21_14 (ls st : List Value) (ws : ai_W) : ai_Run 21 14 ls st ws = ai_Run 21 15 ls (.int 1 :: st) ws := R_iconst hc_21 dX5_isTaken_14 (by decide) rfl
theorem r_21_15 (ls st : List Value) (ws : ai_W) : ai_Run 21 15 ls st ws = ai_Run 21 19 ls st ws := R_goto hc_21 dX5_isTaken_15 rfl
theorem r_21_18 (ls st : List Value) (ws : ai_W) : ai_Run 21 18 ls st ws = ai_Run 21 19 ls (.int 0 :: st) ws := R_iconst hc_21 dX5_isTaken_18 (by decide) rfl
theorem r_21_19 (ls : List Value) (x : Int32) (ws : ai_W) : ai_Run 21 19 ls [.int x] ws = if ai_pb x = true then some (some (.int x), ws) else none := R_zret hc_21 dX5_isTaken_19 ht_21
theorem dX5_sitting_0 : decode cX5_sitting 0 = .ok (.iconst 0, 1) := by decide +kernel
theorem dX5_sitting_1 : decode cX5_sitting 1 = .ok (.istore_n 1, 1) := by decide +kernel
theorem dX5_sitting_2 : decode cX5_sitting 2 = .ok (.iconst 0, 1) := by decide +kernel
theorem dX5_sitting_3 : decode cX5_sitting 3 = .ok (.istore_n 2, 1) := by decide +kernel
theorem dX5_sitting_4 : decode cX5_sitting 4 = .ok (.iload_n 2, 1) := by decide +kernel
theorem dX5_sitting_5 : decode cX5_sitting 5 = .ok (.bipush 7, 2) := by decide +kernel
theorem dX5_sitting_7 : decode cX5_sitting 7 = .ok (.if_icmp .ge 20, 3) := by decide +kernel
theorem dX5_sitting_10 : decode cX5_sitting 10 = .ok (.aload_n 0, 1) := by decide +kernel
theorem dX5_sitting_11 : decode cX5_sitting 11 = .ok (.iload_n 2, 1) := by decide +kernel
theorem dX5_sitting_12 : decode cX5_sitting 12 = .ok (.invokevirtual 27, 3) := by decide +kernel
theorem dX5_sitting_15 : decode cX5_sitting 15 = .ok (.ifCond .eq 6, 3) := by decide +kernel
theorem dX5_sitting_18 : decode cX5_sitting 18 = .ok (.iinc 1 1, 3) := by decide +kernel
theorem dX5_sitting_21 : decode cX5_sitting 21 = .ok (.iinc 2 1, 3) := by decide +kernel
theorem dX5_sitting_24 : decode cX5_sitting 24 = .ok (.goto (-20), 3) := by decide +kernel
theorem dX5_sitting_27 : decode cX5_sitting 27 = .ok (.iload_n 1, 1) := by decide +kernel
theorem dX5_sitting_28 : decode cX5_sitting 28 = .ok (.ireturn, 1) := by decide +kernel
theorem e_22 (r : Nat)  (ws : ai_W) : ai_Call 22 [.ref r] ws = if ai_isob ws r 5 = true then ai_Run 22 0 [.ref r, .null, .null] [] ws else none := R_entV hk_22 ⟨⟨rfl, rfl⟩, Nat.le_of_ble_eq_true rfl⟩ rfl
theorem r_22_0 (ls st : List Value) (ws : ai_W) : ai_Run 22 0 ls st ws = ai_Run 22 1 ls (.int 0 :: st) ws := R_iconst hc_22 dX5_sitting_0 (by decide) rfl
theorem r_22_1 (l0 l1 l2 : Value) (a : Int32) (st : List Value) (ws : ai_W) : ai_Run 22 1 [l0, l1, l2] (.int a :: st) ws = ai_Run 22 2 [l0, .int a, l2] st ws := R_istore_n hc_22 dX5_sitting_1 (Nat.le_of_ble_eq_true rfl) rfl rfl
theorem r_22_2 (ls st : List Value) (ws : ai_W) : ai_Run 22 2 ls st ws = ai_Run 22 3 ls (.int 0 :: st) ws := R_iconst hc_22 dX5_sitting_2 (by decide) rfl
theorem r_22_3 (l0 l1 l2 : Value) (a : Int32) (st : List Value) (ws : ai_W) : ai_Run 22 3 [l0, l1, l2] (.int a :: st) ws = ai_Run 22 4 [l0, l1, .int a] st ws := R_istore_n hc_22 dX5_sitting_3 (Nat.le_of_ble_eq_true rfl) rfl rfl
theorem r_22_4 (l0 l1 : Value) (a : Int32) (st : List Value) (ws : ai_W) : ai_Run 22 4 [l0, l1, .int a] st ws = ai_Run 22 5 [l0, l1, .int a] (.int a :: st) ws := R_iload_n hc_22 dX5_sitting_4 rfl rfl
theorem r_22_5 (ls st : List Value) (ws : ai_W) : ai_Run 22 5 ls st ws = ai_Run 22 7 ls (.int 7 :: st) ws := R_bipush hc_22 dX5_sitting_5 (by decide) rfl
theorem r_22_7 (ls st : List Value) (a b : Int32) (ws : ai_W) : ai_Run 22 7 ls (.int b :: .int a :: st) ws = if a < b then ai_Run 22 10 ls st ws else ai_Run 22 27 ls st ws := R_cmp_ge hc_22 dX5_sitting_7 rfl rfl
theorem r_22_10 (l1 l2 : Value) (a : Nat) (st : List Value) (ws : ai_W) : ai_Run 22 10 [.ref a, l1, l2] st ws = ai_Run 22 11 [.ref a, l1, l2] (.ref a :: st) ws := R_aload_n hc_22 dX5_sitting_10 rfl rfl
theorem r_22_11 (l0 l1 : Value) (a : Int32) (st : List Value) (ws : ai_W) : ai_Run 22 11 [l0, l1, .int a] st ws = ai_Run 22 12 [l0, l1, .int a] (.int a :: st) ws := R_iload_n hc_22 dX5_sitting_11 rfl rfl
theorem r_22_12 (ls : List Value) (r : Nat) (b0 : Int32) (ws : ai_W) : ai_Run 22 12 ls [.int b0, .ref r] ws = (ai_Call 21 [.ref r, .int b0] ws).bind fun q => ai_Run 22 15 ls (q.1.toList ++ []) q.2 := R_callV hc_22 dX5_sitting_12 hv_22 (w := 201) rfl (ai_lt3 hf_21 hf_22 hL_21 ho_21 ho_22 rfl) hk_21 (by rw [hn_21]; rfl) rfl (Nat.le_of_ble_eq_true rfl) rfl
theorem r_22_15 (ls st : List Value) (a : Int32) (ws : ai_W) : ai_Run 22 15 ls (.int a :: st) ws = if a = 0 then ai_Run 22 21 ls st ws else ai_Run 22 18 ls st ws := R_if_eq hc_22 dX5_sitting_15 rfl rfl
theorem r_22_18 (l0 l2 : Value) (a : Int32) (st : List Value) (ws : ai_W) : ai_Run 22 18 [l0, .int a, l2] st ws = ai_Run 22 21 [l0, .int (a + 1), l2] st ws := R_iinc hc_22 dX5_sitting_18 rfl (by decide) rfl rfl
theorem r_22_21 (l0 l1 : Value) (a : Int32) (st : List Value) (ws : ai_W) : ai_Run 22 21 [l0, l1, .int a] st ws = ai_Run 22 24 [l0, l1, .int (a + 1)] st ws := R_iinc hc_22 dX5_sitting_21 rfl (by decide) rfl rfl
theorem r_22_24 (ls st : List Value) (ws : ai_W) : ai_Run 22 24 ls st ws = ai_Run 22 4 ls st ws := R_goto hc_22 dX5_sitting_24 rfl
theorem r_22_27 (l0 l2 : Value) (a : Int32) (st : List Value) (ws : ai_W) : ai_Run 22 27 [l0, .int a, l2] st ws = ai_Run 22 28 [l0, .int a, l2] (.int a :: st) ws := R_iload_n hc_22 dX5_sitting_27 rfl rfl
theorem r_22_28 (ls : List Value) (x : Int32) (ws : ai_W) : ai_Run 22 28 ls [.int x] ws = some (some (.int x), ws) := R_iret hc_22 dX5_sitting_28 ht_22
theorem dX2_chaptersBy_0 : decode cX2_chaptersBy 0 = .ok (.iconst 0, 1) := by decide +kernel
theorem dX2_chaptersBy_1 : decode cX2_chaptersBy 1 = .ok (.istore_n 2, 1) := by decide +kernel
theorem dX2_chaptersBy_2 : decode cX2_chaptersBy 2 = .ok (.iconst 1, 1) := by decide +kernel
theorem dX2_chaptersBy_3 : decode cX2_chaptersBy 3 = .ok (.istore_n 3, 1) := by decide +kernel
theorem dX2_chaptersBy_4 : decode cX2_chaptersBy 4 = .ok (.iload_n 3, 1) := by decide +kernel
theorem dX2_chaptersBy_5 : decode cX2_chaptersBy 5 = .ok (.bipush 30, 2) := by decide +kernel
theorem dX2_chaptersBy_7 : decode cX2_chaptersBy 7 = .ok (.if_icmp .gt 27, 3) := by decide +kernel
theorem dX2_chaptersBy_10 : decode cX2_chaptersBy 10 = .ok (.aload_n 0, 1) := by decide +kernel
theorem dX2_chaptersBy_11 : decode cX2_chaptersBy 11 = .ok (.getfield 20, 3) := by decide +kernel
theorem dX2_chaptersBy_14 : decode cX2_chaptersBy 14 = .ok (.getfield 51, 3) := by decide +kernel
theorem dX2_chaptersBy_17 : decode cX2_chaptersBy 17 = .ok (.iload_n 3, 1) := by decide +kernel
theorem dX2_chaptersBy_18 : decode cX2_chaptersBy 18 = .ok (.invokevirtual 54, 3) := by decide +kernel
theorem dX2_chaptersBy_21 : decode cX2_chaptersBy 21 = .ok (.iload_n 1, 1) := by decide +kernel
theorem dX2_chaptersBy_22 : decode cX2_chaptersBy 22 = .ok (.if_icmp .ne 6, 3) := by decide +kernel
theorem dX2_chaptersBy_25 : decode cX2_chaptersBy 25 = .ok (.iinc 2 1, 3) := by decide +kernel
theorem dX2_chaptersBy_28 : decode cX2_chaptersBy 28 = .ok (.iinc 3 1, 3) := by decide +kernel
theorem dX2_chaptersBy_31 : decode cX2_chaptersBy 31 = .ok (.goto (-27), 3) := by decide +kernel
theorem dX2_chaptersBy_34 : decode cX2_chaptersBy 34 = .ok (.iload_n 2, 1) := by decide +kernel
theorem dX2_chaptersBy_35 : decode cX2_chaptersBy 35 = .ok (.ireturn, 1) := by decide +kernel
theorem e_23 (r : Nat) (a0 : Int32) (ws : ai_W) : ai_Call 23 [.ref r, .int a0] ws = if ai_isob ws r 2 = true then ai_Run 23 0 [.ref r, .int a0, .null, .null] [] ws else none := R_entV hk_23 ⟨⟨rfl, rfl⟩, Nat.le_of_ble_eq_true rfl⟩ rfl
theorem r_23_0 (ls st : List Value) (ws : ai_W) : ai_Run 23 0 ls st ws = ai_Run 23 1 ls (.int 0 :: st) ws := R_iconst hc_23 dX2_chaptersBy_0 (by decide) rfl
theorem r_23_1 (l0 l1 l2 l3 : Value) (a : Int32) (st : List Value) (ws : ai_W) : ai_Run 23 1 [l0, l1, l2, l3] (.int a :: st) ws = ai_Run 23 2 [l0, l1, .int a, l3] st ws := R_istore_n hc_23 dX2_chaptersBy_1 (Nat.le_of_ble_eq_true rfl) rfl rfl
theorem r_23_2 (ls st : List Value) (ws : ai_W) : ai_Run 23 2 ls st ws = ai_Run 23 3 ls (.int 1 :: st) ws := R_iconst hc_23 dX2_chaptersBy_2 (by decide) rfl
theorem r_23_3 (l0 l1 l2 l3 : Value) (a : Int32) (st : List Value) (ws : ai_W) : ai_Run 23 3 [l0, l1, l2, l3] (.int a :: st) ws = ai_Run 23 4 [l0, l1, l2, .int a] st ws := R_istore_n hc_23 dX2_chaptersBy_3 (Nat.le_of_ble_eq_true rfl) rfl rfl
theorem r_23_4 (l0 l1 l2 : Value) (a : Int32) (st : List Value) (ws : ai_W) : ai_Run 23 4 [l0, l1, l2, .int a] st ws = ai_Run 23 5 [l0, l1, l2, .int a] (.int a :: st) ws := R_iload_n hc_23 dX2_chaptersBy_4 rfl rfl
theorem r_23_5 (ls st : List Value) (ws : ai_W) : ai_Run 23 5 ls st ws = ai_Run 23 7 ls (.int 30 :: st) ws := R_bipush hc_23 dX2_chaptersBy_5 (by decide) rfl
theorem r_23_7 (ls st : List Value) (a b : Int32) (ws : ai_W) : ai_Run 23 7 ls (.int b :: .int a :: st) ws = if b < a then ai_Run 23 34 ls st ws else ai_Run 23 10 ls st ws := R_cmp_gt hc_23 dX2_chaptersBy_7 rfl rfl
theorem r_23_10 (l1 l2 l3 : Value) (a : Nat) (st : List Value) (ws : ai_W) : ai_Run 23 10 [.ref a, l1, l2, l3] st ws = ai_Run 23 11 [.ref a, l1, l2, l3] (.ref a :: st) ws := R_aload_n hc_23 dX2_chaptersBy_10 rfl rfl
theorem r_23_11 (ls st : List Value) (a : Nat) (ws : ai_W) : ai_Run 23 11 ls (.ref a :: st) ws = (ai_fget ws a 2 0).bind fun q => ai_Run 23 14 ls (q :: st) ws := R_getf hc_23 dX2_chaptersBy_11 hv_23 (w := 561) rfl rfl
theorem r_23_14 (ls st : List Value) (a : Nat) (ws : ai_W) : ai_Run 23 14 ls (.ref a :: st) ws = (ai_fget ws a 0 6).bind fun q => ai_Run 23 17 ls (q :: st) ws := R_getf hc_23 dX2_chaptersBy_14 hv_23 (w := 483) rfl rfl
theorem r_23_17 (l0 l1 l2 : Value) (a : Int32) (st : List Value) (ws : ai_W) : ai_Run 23 17 [l0, l1, l2, .int a] st ws = ai_Run 23 18 [l0, l1, l2, .int a] (.int a :: st) ws := R_iload_n hc_23 dX2_chaptersBy_17 rfl rfl
theorem r_23_18 (ls : List Value) (r : Nat) (b0 : Int32) (ws : ai_W) : ai_Run 23 18 ls [.int b0, .ref r] ws = (ai_Call 12 [.ref r, .int b0] ws).bind fun q => ai_Run 23 21 ls (q.1.toList ++ []) q.2 := R_callV hc_23 dX2_chaptersBy_18 hv_23 (w := 301) rfl (ai_lt3 hf_12 hf_23 hL_12 ho_12 ho_23 rfl) hk_12 (by rw [hn_12]; rfl) rfl (Nat.le_of_ble_eq_true rfl) rfl
theorem r_23_21 (l0 l2 l3 : Value) (a : Int32) (st : List Value) (ws : ai_W) : ai_Run 23 21 [l0, .int a, l2, l3] st ws = ai_Run 23 22 [l0, .int a, l2, l3] (.int a :: st) ws := R_iload_n hc_23 dX2_chaptersBy_21 rfl rfl
theorem r_23_22 (ls st : List Value) (a b : Int32) (ws : ai_W) : ai_Run 23 22 ls (.int b :: .int a :: st) ws = if a = b then ai_Run 23 25 ls st ws else ai_Run 23 28 ls st ws := R_cmp_ne hc_23 dX2_chaptersBy_22 rfl rfl
theorem r_23_25 (l0 l1 l3 : Value) (a : Int32) (st : List Value) (ws : ai_W) : ai_Run 23 25 [l0, l1, .int a, l3] st ws = ai_Run 23 28 [l0, l1, .int (a + 1), l3] st ws := R_iinc hc_23 dX2_chaptersBy_25 rfl (by decide) rfl rfl
theorem r_23_28 (l0 l1 l2 : Value) (a : Int32) (st : List Value) (ws : ai_W) : ai_Run 23 28 [l0, l1, l2, .int a] st ws = ai_Run 23 31 [l0, l1, l2, .int (a + 1)] st ws := R_iinc hc_23 dX2_chaptersBy_28 rfl (by decide) rfl rfl
theorem r_23_31 (ls st : List Value) (ws : ai_W) : ai_Run 23 31 ls st ws = ai_Run 23 4 ls st ws := R_goto hc_23 dX2_chaptersBy_31 rfl
theorem r_23_34 (l0 l1 l3 : Value) (a : Int32) (st : List Value) (ws : ai_W) : ai_Run 23 34 [l0, l1, .int a, l3] st ws = ai_Run 23 35 [l0, l1, .int a, l3] (.int a :: st) ws := R_iload_n hc_23 dX2_chaptersBy_34 rfl rfl
theorem r_23_35 (ls : List Value) (x : Int32) (ws : ai_W) : ai_Run 23 35 ls [.int x] ws = some (some (.int x), ws) := R_iret hc_23 dX2_chaptersBy_35 ht_23
theorem dX2_writtenChapters_0 : decode cX2_writtenChapters 0 = .ok (.bipush 30, 2) := by decide +kernel
theorem dX2_writtenChapters_2 : decode cX2_writtenChapters 2 = .ok (.aload_n 0, 1) := by decide +kernel
theorem dX2_writtenChapters_3 : decode cX2_writtenChapters 3 = .ok (.bipush (-4), 2) := by decide +kernel
theorem dX2_writtenChapters_5 : decode cX2_writtenChapters 5 = .ok (.invokevirtual 57, 3) := by decide +kernel
theorem dX2_writtenChapters_8 : decode cX2_writtenChapters 8 = .ok (.isub, 1) := by decide +kernel
theorem dX2_writtenChapters_9 : decode cX2_writtenChapters 9 = .ok (.ireturn, 1) := by decide +kernel
theorem e_24 (r : Nat)  (ws : ai_W) : ai_Call 24 [.ref r] ws = if ai_isob ws r 2 = true then ai_Run 24 0 [.ref r] [] ws else none := R_entV hk_24 ⟨⟨rfl, rfl⟩, Nat.le_of_ble_eq_true rfl⟩ rfl
theorem r_24_0 (ls st : List Value) (ws : ai_W) : ai_Run 24 0 ls st ws = ai_Run 24 2 ls (.int 30 :: st) ws := R_bipush hc_24 dX2_writtenChapters_0 (by decide) rfl
theorem r_24_2 (a : Nat) (st : List Value) (ws : ai_W) : ai_Run 24 2 [.ref a] st ws = ai_Run 24 3 [.ref a] (.ref a :: st) ws := R_aload_n hc_24 dX2_writtenChapters_2 rfl rfl
theorem r_24_3 (ls st : List Value) (ws : ai_W) : ai_Run 24 3 ls st ws = ai_Run 24 5 ls (.int (-4) :: st) ws := R_bipush hc_24 dX2_writtenChapters_3 (by decide) rfl
theorem r_24_5 (ls : List Value) (r : Nat) (b0 : Int32) (s0 : Value) (ws : ai_W) : ai_Run 24 5 ls [.int b0, .ref r, s0] ws = (ai_Call 23 [.ref r, .int b0] ws).bind fun q => ai_Run 24 8 ls (q.1.toList ++ [s0]) q.2 := R_callV hc_24 dX2_writtenChapters_5 hv_24 (w := 372) rfl (ai_lt3 hf_23 hf_24 hL_23 ho_23 ho_24 rfl) hk_23 (by rw [hn_23]; rfl) rfl (Nat.le_of_ble_eq_true rfl) rfl
theorem r_24_8 (ls st : List Value) (a b : Int32) (ws : ai_W) : ai_Run 24 8 ls (.int b :: .int a :: st) ws = ai_Run 24 9 ls (.int (a - b) :: st) ws := R_isub hc_24 dX2_writtenChapters_8 rfl
theorem r_24_9 (ls : List Value) (x : Int32) (ws : ai_W) : ai_Run 24 9 ls [.int x] ws = some (some (.int x), ws) := R_iret hc_24 dX2_writtenChapters_9 ht_24
theorem dX0_swornAuthors_0 : decode cX0_swornAuthors 0 = .ok (.iconst 0, 1) := by decide +kernel
theorem dX0_swornAuthors_1 : decode cX0_swornAuthors 1 = .ok (.istore_n 1, 1) := by decide +kernel
theorem dX0_swornAuthors_2 : decode cX0_swornAuthors 2 = .ok (.iconst 0, 1) := by decide +kernel
theorem dX0_swornAuthors_3 : decode cX0_swornAuthors 3 = .ok (.istore_n 2, 1) := by decide +kernel
theorem dX0_swornAuthors_4 : decode cX0_swornAuthors 4 = .ok (.iload_n 2, 1) := by decide +kernel
theorem dX0_swornAuthors_5 : decode cX0_swornAuthors 5 = .ok (.aload_n 0, 1) := by decide +kernel
theorem dX0_swornAuthors_6 : decode cX0_swornAuthors 6 = .ok (.getfield 42, 3) := by decide +kernel
theorem dX0_swornAuthors_9 : decode cX0_swornAuthors 9 = .ok (.if_icmp .ge 20, 3) := by decide +kernel
theorem dX0_swornAuthors_12 : decode cX0_swornAuthors 12 = .ok (.iload_n 1, 1) := by decide +kernel
theorem dX0_swornAuthors_13 : decode cX0_swornAuthors 13 = .ok (.aload_n 0, 1) := by decide +kernel
theorem dX0_swornAuthors_14 : decode cX0_swornAuthors 14 = .ok (.getfield 29, 3) := by decide +kernel
theorem dX0_swornAuthors_17 : decode cX0_swornAuthors 17 = .ok (.iload_n 2, 1) := by decide +kernel
theorem dX0_swornAuthors_18 : decode cX0_swornAuthors 18 = .ok (.invokevirtual 57, 3) := by decide +kernel
theorem dX0_swornAuthors_21 : decode cX0_swornAuthors 21 = .ok (.iadd, 1) := by decide +kernel
theorem dX0_swornAuthors_22 : decode cX0_swornAuthors 22 = .ok (.istore_n 1, 1) := by decide +kernel
theorem dX0_swornAuthors_23 : decode cX0_swornAuthors 23 = .ok (.iinc 2 1, 3) := by decide +kernel
theorem dX0_swornAuthors_26 : decode cX0_swornAuthors 26 = .ok (.goto (-22), 3) := by decide +kernel
theorem dX0_swornAuthors_29 : decode cX0_swornAuthors 29 = .ok (.iload_n 1, 1) := by decide +kernel
theorem dX0_swornAuthors_30 : decode cX0_swornAuthors 30 = .ok (.ireturn, 1) := by decide +kernel
theorem e_25 (r : Nat)  (ws : ai_W) : ai_Call 25 [.ref r] ws = if ai_isob ws r 0 = true then ai_Run 25 0 [.ref r, .null, .null] [] ws else none := R_entV hk_25 ⟨⟨rfl, rfl⟩, Nat.le_of_ble_eq_true rfl⟩ rfl
theorem r_25_0 (ls st : List Value) (ws : ai_W) : ai_Run 25 0 ls st ws = ai_Run 25 1 ls (.int 0 :: st) ws := R_iconst hc_25 dX0_swornAuthors_0 (by decide) rfl
theorem r_25_1 (l0 l1 l2 : Value) (a : Int32) (st : List Value) (ws : ai_W) : ai_Run 25 1 [l0, l1, l2] (.int a :: st) ws = ai_Run 25 2 [l0, .int a, l2] st ws := R_istore_n hc_25 dX0_swornAuthors_1 (Nat.le_of_ble_eq_true rfl) rfl rfl
theorem r_25_2 (ls st : List Value) (ws : ai_W) : ai_Run 25 2 ls st ws = ai_Run 25 3 ls (.int 0 :: st) ws := R_iconst hc_25 dX0_swornAuthors_2 (by decide) rfl
theorem r_25_3 (l0 l1 l2 : Value) (a : Int32) (st : List Value) (ws : ai_W) : ai_Run 25 3 [l0, l1, l2] (.int a :: st) ws = ai_Run 25 4 [l0, l1, .int a] st ws := R_istore_n hc_25 dX0_swornAuthors_3 (Nat.le_of_ble_eq_true rfl) rfl rfl
theorem r_25_4 (l0 l1 : Value) (a : Int32) (st : List Value) (ws : ai_W) : ai_Run 25 4 [l0, l1, .int a] st ws = ai_Run 25 5 [l0, l1, .int a] (.int a :: st) ws := R_iload_n hc_25 dX0_swornAuthors_4 rfl rfl
theorem r_25_5 (l1 l2 : Value) (a : Nat) (st : List Value) (ws : ai_W) : ai_Run 25 5 [.ref a, l1, l2] st ws = ai_Run 25 6 [.ref a, l1, l2] (.ref a :: st) ws := R_aload_n hc_25 dX0_swornAuthors_5 rfl rfl
theorem r_25_6 (ls st : List Value) (a : Nat) (ws : ai_W) : ai_Run 25 6 ls (.ref a :: st) ws = (ai_fget ws a 0 1).bind fun q => ai_Run 25 9 ls (q :: st) ws := R_getf hc_25 dX0_swornAuthors_6 hv_25 (w := 469) rfl rfl
theorem r_25_9 (ls st : List Value) (a b : Int32) (ws : ai_W) : ai_Run 25 9 ls (.int b :: .int a :: st) ws = if a < b then ai_Run 25 12 ls st ws else ai_Run 25 29 ls st ws := R_cmp_ge hc_25 dX0_swornAuthors_9 rfl rfl
theorem r_25_12 (l0 l2 : Value) (a : Int32) (st : List Value) (ws : ai_W) : ai_Run 25 12 [l0, .int a, l2] st ws = ai_Run 25 13 [l0, .int a, l2] (.int a :: st) ws := R_iload_n hc_25 dX0_swornAuthors_12 rfl rfl
theorem r_25_13 (l1 l2 : Value) (a : Nat) (st : List Value) (ws : ai_W) : ai_Run 25 13 [.ref a, l1, l2] st ws = ai_Run 25 14 [.ref a, l1, l2] (.ref a :: st) ws := R_aload_n hc_25 dX0_swornAuthors_13 rfl rfl
theorem r_25_14 (ls st : List Value) (a : Nat) (ws : ai_W) : ai_Run 25 14 ls (.ref a :: st) ws = (ai_fget ws a 0 7).bind fun q => ai_Run 25 17 ls (q :: st) ws := R_getf hc_25 dX0_swornAuthors_14 hv_25 (w := 486) rfl rfl
theorem r_25_17 (l0 l1 : Value) (a : Int32) (st : List Value) (ws : ai_W) : ai_Run 25 17 [l0, l1, .int a] st ws = ai_Run 25 18 [l0, l1, .int a] (.int a :: st) ws := R_iload_n hc_25 dX0_swornAuthors_17 rfl rfl
theorem r_25_18 (ls : List Value) (r : Nat) (b0 : Int32) (s0 : Value) (ws : ai_W) : ai_Run 25 18 ls [.int b0, .ref r, s0] ws = (ai_Call 12 [.ref r, .int b0] ws).bind fun q => ai_Run 25 21 ls (q.1.toList ++ [s0]) q.2 := R_callV hc_25 dX0_swornAuthors_18 hv_25 (w := 119) rfl (ai_lt3 hf_12 hf_25 hL_12 ho_12 ho_25 rfl) hk_12 (by rw [hn_12]; rfl) rfl (Nat.le_of_ble_eq_true rfl) rfl
theorem r_25_21 (ls st : List Value) (a b : Int32) (ws : ai_W) : ai_Run 25 21 ls (.int b :: .int a :: st) ws = ai_Run 25 22 ls (.int (a + b) :: st) ws := R_iadd hc_25 dX0_swornAuthors_21 rfl
theorem r_25_22 (l0 l1 l2 : Value) (a : Int32) (st : List Value) (ws : ai_W) : ai_Run 25 22 [l0, l1, l2] (.int a :: st) ws = ai_Run 25 23 [l0, .int a, l2] st ws := R_istore_n hc_25 dX0_swornAuthors_22 (Nat.le_of_ble_eq_true rfl) rfl rfl
theorem r_25_23 (l0 l1 : Value) (a : Int32) (st : List Value) (ws : ai_W) : ai_Run 25 23 [l0, l1, .int a] st ws = ai_Run 25 26 [l0, l1, .int (a + 1)] st ws := R_iinc hc_25 dX0_swornAuthors_23 rfl (by decide) rfl rfl
theorem r_25_26 (ls st : List Value) (ws : ai_W) : ai_Run 25 26 ls st ws = ai_Run 25 4 ls st ws := R_goto hc_25 dX0_swornAuthors_26 rfl
theorem r_25_29 (l0 l2 : Value) (a : Int32) (st : List Value) (ws : ai_W) : ai_Run 25 29 [l0, .int a, l2] st ws = ai_Run 25 30 [l0, .int a, l2] (.int a :: st) ws := R_iload_n hc_25 dX0_swornAuthors_29 rfl rfl
theorem r_25_30 (ls : List Value) (x : Int32) (ws : ai_W) : ai_Run 25 30 ls [.int x] ws = some (some (.int x), ws) := R_iret hc_25 dX0_swornAuthors_30 ht_25
theorem dX9_size_0 : decode cX9_size 0 = .ok (.aload_n 0, 1) := by decide +kernel
theorem dX9_size_1 : decode cX9_size 1 = .ok (.getfield 26, 3) := by decide +kernel
theorem dX9_size_4 : decode cX9_size 4 = .ok (.ireturn, 1) := by decide +kernel
theorem e_26 (r : Nat)  (ws : ai_W) : ai_Call 26 [.ref r] ws = if ai_isob ws r 9 = true then ai_Run 26 0 [.ref r] [] ws else none := R_entV hk_26 ⟨⟨rfl, rfl⟩, Nat.le_of_ble_eq_true rfl⟩ rfl
theorem r_26_0 (a : Nat) (st : List Value) (ws : ai_W) : ai_Run 26 0 [.ref a] st ws = ai_Run 26 1 [.ref a] (.ref a :: st) ws := R_aload_n hc_26 dX9_size_0 rfl rfl
theorem r_26_1 (ls st : List Value) (a : Nat) (ws : ai_W) : ai_Run 26 1 ls (.ref a :: st) ws = (ai_fget ws a 9 3).bind fun q => ai_Run 26 4 ls (q :: st) ws := R_getf hc_26 dX9_size_1 hv_26 (w := 621) rfl rfl
theorem r_26_4 (ls : List Value) (x : Int32) (ws : ai_W) : ai_Run 26 4 ls [.int x] ws = some (some (.int x), ws) := R_iret hc_26 dX9_size_4 ht_26
theorem dX3_size_0 : decode cX3_size 0 = .ok (.aload_n 0, 1) := by decide +kernel
theorem dX3_size_1 : decode cX3_size 1 = .ok (.getfield 22, 3) := by decide +kernel
theorem dX3_size_4 : decode cX3_size 4 = .ok (.ireturn, 1) := by decide +kernel
theorem e_27 (r : Nat)  (ws : ai_W) : ai_Call 27 [.ref r] ws = if ai_isob ws r 3 = true then ai_Run 27 0 [.ref r] [] ws else none := R_entV hk_27 ⟨⟨rfl, rfl⟩, Nat.le_of_ble_eq_true rfl⟩ rfl
theorem r_27_0 (a : Nat) (st : List Value) (ws : ai_W) : ai_Run 27 0 [.ref a] st ws = ai_Run 27 1 [.ref a] (.ref a :: st) ws := R_aload_n hc_27 dX3_size_0 rfl rfl
theorem r_27_1 (ls st : List Value) (a : Nat) (ws : ai_W) : ai_Run 27 1 ls (.ref a :: st) ws = (ai_fget ws a 3 3).bind fun q => ai_Run 27 4 ls (q :: st) ws := R_getf hc_27 dX3_size_1 hv_27 (w := 597) rfl rfl
theorem r_27_4 (ls : List Value) (x : Int32) (ws : ai_W) : ai_Run 27 4 ls [.int x] ws = some (some (.int x), ws) := R_iret hc_27 dX3_size_4 ht_27
theorem dX8_set_0 : decode cX8_set 0 = .ok (.iload_n 1, 1) := by decide +kernel
theorem dX8_set_1 : decode cX8_set 1 = .ok (.ifCond .lt 19, 3) := by decide +kernel
theorem dX8_set_4 : decode cX8_set 4 = .ok (.iload_n 1, 1) := by decide +kernel
theorem dX8_set_5 : decode cX8_set 5 = .ok (.aload_n 0, 1) := by decide +kernel
theorem dX8_set_6 : decode cX8_set 6 = .ok (.getfield 13, 3) := by decide +kernel
theorem dX8_set_9 : decode cX8_set 9 = .ok (.arraylength, 1) := by decide +kernel
theorem dX8_set_10 : decode cX8_set 10 = .ok (.if_icmp .ge 10, 3) := by decide +kernel
theorem dX8_set_13 : decode cX8_set 13 = .ok (.aload_n 0, 1) := by decide +kernel
theorem dX8_set_14 : decode cX8_set 14 = .ok (.getfield 13, 3) := by decide +kernel
theorem dX8_set_17 : decode cX8_set 17 = .ok (.iload_n 1, 1) := by decide +kernel
theorem dX8_set_18 : decode cX8_set 18 = .ok (.iload_n 2, 1) := by decide +kernel
theorem dX8_set_19 : decode cX8_set 19 = .ok (.iastore, 1) := by decide +kernel
theorem dX8_set_20 : decode cX8_set 20 = .ok (.return_, 1) := by decide +kernel
theorem e_29 (r : Nat) (a0 : Int32) (a1 : Int32) (ws : ai_W) : ai_Call 29 [.ref r, .int a0, .int a1] ws = if ai_isob ws r 8 = true then ai_Run 29 0 [.ref r, .int a0, .int a1] [] ws else none := R_entV hk_29 ⟨⟨rfl, rfl⟩, Nat.le_of_ble_eq_true rfl⟩ rfl
theorem r_29_0 (l0 l2 : Value) (a : Int32) (st : List Value) (ws : ai_W) : ai_Run 29 0 [l0, .int a, l2] st ws = ai_Run 29 1 [l0, .int a, l2] (.int a :: st) ws := R_iload_n hc_29 dX8_set_0 rfl rfl
theorem r_29_1 (ls st : List Value) (a : Int32) (ws : ai_W) : ai_Run 29 1 ls (.int a :: st) ws = if a < 0 then ai_Run 29 20 ls st ws else ai_Run 29 4 ls st ws := R_if_lt hc_29 dX8_set_1 rfl rfl
theorem r_29_4 (l0 l2 : Value) (a : Int32) (st : List Value) (ws : ai_W) : ai_Run 29 4 [l0, .int a, l2] st ws = ai_Run 29 5 [l0, .int a, l2] (.int a :: st) ws := R_iload_n hc_29 dX8_set_4 rfl rfl
theorem r_29_5 (l1 l2 : Value) (a : Nat) (st : List Value) (ws : ai_W) : ai_Run 29 5 [.ref a, l1, l2] st ws = ai_Run 29 6 [.ref a, l1, l2] (.ref a :: st) ws := R_aload_n hc_29 dX8_set_5 rfl rfl
theorem r_29_6 (ls st : List Value) (a : Nat) (ws : ai_W) : ai_Run 29 6 ls (.ref a :: st) ws = (ai_fget ws a 8 0).bind fun q => ai_Run 29 9 ls (q :: st) ws := R_getf hc_29 dX8_set_6 hv_29 (w := 458) rfl rfl
theorem r_29_9 (ls st : List Value) (a : Nat) (ws : ai_W) : ai_Run 29 9 ls (.ref a :: st) ws = (ai_len ws a).bind fun q => ai_Run 29 10 ls (.int q :: st) ws := R_arraylength hc_29 dX8_set_9 rfl
theorem r_29_10 (ls st : List Value) (a b : Int32) (ws : ai_W) : ai_Run 29 10 ls (.int b :: .int a :: st) ws = if a < b then ai_Run 29 13 ls st ws else ai_Run 29 20 ls st ws := R_cmp_ge hc_29 dX8_set_10 rfl rfl
theorem r_29_13 (l1 l2 : Value) (a : Nat) (st : List Value) (ws : ai_W) : ai_Run 29 13 [.ref a, l1, l2] st ws = ai_Run 29 14 [.ref a, l1, l2] (.ref a :: st) ws := R_aload_n hc_29 dX8_set_13 rfl rfl
theorem r_29_14 (ls st : List Value) (a : Nat) (ws : ai_W) : ai_Run 29 14 ls (.ref a :: st) ws = (ai_fget ws a 8 0).bind fun q => ai_Run 29 17 ls (q :: st) ws := R_getf hc_29 dX8_set_14 hv_29 (w := 458) rfl rfl
theorem r_29_17 (l0 l2 : Value) (a : Int32) (st : List Value) (ws : ai_W) : ai_Run 29 17 [l0, .int a, l2] st ws = ai_Run 29 18 [l0, .int a, l2] (.int a :: st) ws := R_iload_n hc_29 dX8_set_17 rfl rfl
theorem r_29_18 (l0 l1 : Value) (a : Int32) (st : List Value) (ws : ai_W) : ai_Run 29 18 [l0, l1, .int a] st ws = ai_Run 29 19 [l0, l1, .int a] (.int a :: st) ws := R_iload_n hc_29 dX8_set_18 rfl rfl
theorem r_29_19 (ls st : List Value) (a : Nat) (i x : Int32) (ws : ai_W) : ai_Run 29 19 ls (.int x :: .int i :: .ref a :: st) ws = (ai_aset ws a i x).bind fun ws => ai_Run 29 20 ls st ws := R_iastore hc_29 dX8_set_19 rfl
theorem r_29_20 (ls : List Value) (ws : ai_W) : ai_Run 29 20 ls [] ws = some (none, ws) := R_vret hc_29 dX8_set_20 ht_29
theorem dX6_addCode_0 : decode cX6_addCode 0 = .ok (.aload_n 0, 1) := by decide +kernel
theorem dX6_addCode_1 : decode cX6_addCode 1 = .ok (.getfield 20, 3) := by decide +kernel
theorem dX6_addCode_4 : decode cX6_addCode 4 = .ok (.bipush 40, 2) := by decide +kernel
theorem dX6_addCode_6 : decode cX6_addCode 6 = .ok (.if_icmp .ge 25, 3) := by decide +kernel
theorem dX6_addCode_9 : decode cX6_addCode 9 = .ok (.aload_n 0, 1) := by decide +kernel
theorem dX6_addCode_10 : decode cX6_addCode 10 = .ok (.getfield 14, 3) := by decide +kernel
theorem dX6_addCode_13 : decode cX6_addCode 13 = .ok (.aload_n 0, 1) := by decide +kernel
theorem dX6_addCode_14 : decode cX6_addCode 14 = .ok (.getfield 20, 3) := by decide +kernel
theorem dX6_addCode_17 : decode cX6_addCode 17 = .ok (.iload_n 1, 1) := by decide +kernel
theorem dX6_addCode_18 : decode cX6_addCode 18 = .ok (.invokevirtual 28, 3) := by decide +kernel
theorem dX6_addCode_21 : decode cX6_addCode 21 = .ok (.aload_n 0, 1) := by decide +kernel
theorem dX6_addCode_22 : decode cX6_addCode 22 = .ok (.dup, 1) := by decide +kernel
theorem dX6_addCode_23 : decode cX6_addCode 23 = .ok (.getfield 20, 3) := by decide +kernel
theorem dX6_addCode_26 : decode cX6_addCode 26 = .ok (.iconst 1, 1) := by decide +kernel
theorem dX6_addCode_27 : decode cX6_addCode 27 = .ok (.iadd, 1) := by decide +kernel
theorem dX6_addCode_28 : decode cX6_addCode 28 = .ok (.putfield 20, 3) := by decide +kernel
theorem dX6_addCode_31 : decode cX6_addCode 31 = .ok (.return_, 1) := by decide +kernel
theorem e_30 (r : Nat) (a0 : Int32) (ws : ai_W) : ai_Call 30 [.ref r, .int a0] ws = if ai_isob ws r 6 = true then ai_Run 30 0 [.ref r, .int a0] [] ws else none := R_entV hk_30 ⟨⟨rfl, rfl⟩, Nat.le_of_ble_eq_true rfl⟩ rfl
theorem r_30_0 (l1 : Value) (a : Nat) (st : List Value) (ws : ai_W) : ai_Run 30 0 [.ref a, l1] st ws = ai_Run 30 1 [.ref a, l1] (.ref a :: st) ws := R_aload_n hc_30 dX6_addCode_0 rfl rfl
theorem r_30_1 (ls st : List Value) (a : Nat) (ws : ai_W) : ai_Run 30 1 ls (.ref a :: st) ws = (ai_fget ws a 6 1).bind fun q => ai_Run 30 4 ls (q :: st) ws := R_getf hc_30 dX6_addCode_1 hv_30 (w := 649) rfl rfl
theorem r_30_4 (ls st : List Value) (ws : ai_W) : ai_Run 30 4 ls st ws = ai_Run 30 6 ls (.int 40 :: st) ws := R_bipush hc_30 dX6_addCode_4 (by decide) rfl
theorem r_30_6 (ls st : List Value) (a b : Int32) (ws : ai_W) : ai_Run 30 6 ls (.int b :: .int a :: st) ws = if a < b then ai_Run 30 9 ls st ws else ai_Run 30 31 ls st ws := R_cmp_ge hc_30 dX6_addCode_6 rfl rfl
theorem r_30_9 (l1 : Value) (a : Nat) (st : List Value) (ws : ai_W) : ai_Run 30 9 [.ref a, l1] st ws = ai_Run 30 10 [.ref a, l1] (.ref a :: st) ws := R_aload_n hc_30 dX6_addCode_9 rfl rfl
theorem r_30_10 (ls st : List Value) (a : Nat) (ws : ai_W) : ai_Run 30 10 ls (.ref a :: st) ws = (ai_fget ws a 6 0).bind fun q => ai_Run 30 13 ls (q :: st) ws := R_getf hc_30 dX6_addCode_10 hv_30 (w := 648) rfl rfl
theorem r_30_13 (l1 : Value) (a : Nat) (st : List Value) (ws : ai_W) : ai_Run 30 13 [.ref a, l1] st ws = ai_Run 30 14 [.ref a, l1] (.ref a :: st) ws := R_aload_n hc_30 dX6_addCode_13 rfl rfl
theorem r_30_14 (ls st : List Value) (a : Nat) (ws : ai_W) : ai_Run 30 14 ls (.ref a :: st) ws = (ai_fget ws a 6 1).bind fun q => ai_Run 30 17 ls (q :: st) ws := R_getf hc_30 dX6_addCode_14 hv_30 (w := 649) rfl rfl
theorem r_30_17 (l0 : Value) (a : Int32) (st : List Value) (ws : ai_W) : ai_Run 30 17 [l0, .int a] st ws = ai_Run 30 18 [l0, .int a] (.int a :: st) ws := R_iload_n hc_30 dX6_addCode_17 rfl rfl
theorem r_30_18 (ls : List Value) (r : Nat) (b0 : Int32) (b1 : Int32) (ws : ai_W) : ai_Run 30 18 ls [.int b1, .int b0, .ref r] ws = (ai_Call 29 [.ref r, .int b0, .int b1] ws).bind fun q => ai_Run 30 21 ls (q.1.toList ++ []) q.2 := R_callV hc_30 dX6_addCode_18 hv_30 (w := 324) rfl (ai_lt3 hf_29 hf_30 hL_29 ho_29 ho_30 rfl) hk_29 (by rw [hn_29]; rfl) rfl (Nat.le_of_ble_eq_true rfl) rfl
theorem r_30_21 (l1 : Value) (a : Nat) (st : List Value) (ws : ai_W) : ai_Run 30 21 [.ref a, l1] st ws = ai_Run 30 22 [.ref a, l1] (.ref a :: st) ws := R_aload_n hc_30 dX6_addCode_21 rfl rfl
theorem r_30_22 (ls st : List Value) (a : Nat) (ws : ai_W) : ai_Run 30 22 ls (.ref a :: st) ws = ai_Run 30 23 ls (.ref a :: .ref a :: st) ws := R_dup hc_30 dX6_addCode_22 rfl
theorem r_30_23 (ls st : List Value) (a : Nat) (ws : ai_W) : ai_Run 30 23 ls (.ref a :: st) ws = (ai_fget ws a 6 1).bind fun q => ai_Run 30 26 ls (q :: st) ws := R_getf hc_30 dX6_addCode_23 hv_30 (w := 649) rfl rfl
theorem r_30_26 (ls st : List Value) (ws : ai_W) : ai_Run 30 26 ls st ws = ai_Run 30 27 ls (.int 1 :: st) ws := R_iconst hc_30 dX6_addCode_26 (by decide) rfl
theorem r_30_27 (ls st : List Value) (a b : Int32) (ws : ai_W) : ai_Run 30 27 ls (.int b :: .int a :: st) ws = ai_Run 30 28 ls (.int (a + b) :: st) ws := R_iadd hc_30 dX6_addCode_27 rfl
theorem r_30_28 (ls st : List Value) (a : Nat) (x : Value) (ws : ai_W) : ai_Run 30 28 ls (x :: .ref a :: st) ws = (ai_fput ws a 6 1 x).bind fun ws => ai_Run 30 31 ls st ws := R_putf hc_30 dX6_addCode_28 hv_30 (w := 649) rfl rfl rfl
theorem r_30_31 (ls : List Value) (ws : ai_W) : ai_Run 30 31 ls [] ws = some (none, ws) := R_vret hc_30 dX6_addCode_31 ht_30
theorem dX6_addNumber_0 : decode cX6_addNumber 0 = .ok (.iload_n 1, 1) := by decide +kernel
theorem dX6_addNumber_1 : decode cX6_addNumber 1 = .ok (.bipush 9, 2) := by decide +kernel
theorem dX6_addNumber_3 : decode cX6_addNumber 3 = .ok (.if_icmp .le 17, 3) := by decide +kernel
theorem dX6_addNumber_6 : decode cX6_addNumber 6 = .ok (.aload_n 0, 1) := by decide +kernel
theorem dX6_addNumber_7 : decode cX6_addNumber 7 = .ok (.bipush 48, 2) := by decide +kernel
theorem dX6_addNumber_9 : decode cX6_addNumber 9 = .ok (.iload_n 1, 1) := by decide +kernel
theorem dX6_addNumber_10 : decode cX6_addNumber 10 = .ok (.bipush 10, 2) := by decide +kernel
theorem dX6_addNumber_12 : decode cX6_addNumber 12 = .ok (.idiv, 1) := by decide +kernel
theorem dX6_addNumber_13 : decode cX6_addNumber 13 = .ok (.bipush 10, 2) := by decide +kernel
theorem dX6_addNumber_15 : decode cX6_addNumber 15 = .ok (.irem, 1) := by decide +kernel
theorem dX6_addNumber_16 : decode cX6_addNumber 16 = .ok (.iadd, 1) := by decide +kernel
theorem dX6_addNumber_17 : decode cX6_addNumber 17 = .ok (.invokevirtual 31, 3) := by decide +kernel
theorem dX6_addNumber_20 : decode cX6_addNumber 20 = .ok (.aload_n 0, 1) := by decide +kernel
theorem dX6_addNumber_21 : decode cX6_addNumber 21 = .ok (.bipush 48, 2) := by decide +kernel
theorem dX6_addNumber_23 : decode cX6_addNumber 23 = .ok (.iload_n 1, 1) := by decide +kernel
theorem dX6_addNumber_24 : decode cX6_addNumber 24 = .ok (.bipush 10, 2) := by decide +kernel
theorem dX6_addNumber_26 : decode cX6_addNumber 26 = .ok (.irem, 1) := by decide +kernel
theorem dX6_addNumber_27 : decode cX6_addNumber 27 = .ok (.iadd, 1) := by decide +kernel
theorem dX6_addNumber_28 : decode cX6_addNumber 28 = .ok (.invokevirtual 31, 3) := by decide +kernel
theorem dX6_addNumber_31 : decode cX6_addNumber 31 = .ok (.return_, 1) := by decide +kernel
theorem e_31 (r : Nat) (a0 : Int32) (ws : ai_W) : ai_Call 31 [.ref r, .int a0] ws = if ai_isob ws r 6 = true then ai_Run 31 0 [.ref r, .int a0] [] ws else none := R_entV hk_31 ⟨⟨rfl, rfl⟩, Nat.le_of_ble_eq_true rfl⟩ rfl
theorem r_31_0 (l0 : Value) (a : Int32) (st : List Value) (ws : ai_W) : ai_Run 31 0 [l0, .int a] st ws = ai_Run 31 1 [l0, .int a] (.int a :: st) ws := R_iload_n hc_31 dX6_addNumber_0 rfl rfl
theorem r_31_1 (ls st : List Value) (ws : ai_W) : ai_Run 31 1 ls st ws = ai_Run 31 3 ls (.int 9 :: st) ws := R_bipush hc_31 dX6_addNumber_1 (by decide) rfl
theorem r_31_3 (ls st : List Value) (a b : Int32) (ws : ai_W) : ai_Run 31 3 ls (.int b :: .int a :: st) ws = if b < a then ai_Run 31 6 ls st ws else ai_Run 31 20 ls st ws := R_cmp_le hc_31 dX6_addNumber_3 rfl rfl
theorem r_31_6 (l1 : Value) (a : Nat) (st : List Value) (ws : ai_W) : ai_Run 31 6 [.ref a, l1] st ws = ai_Run 31 7 [.ref a, l1] (.ref a :: st) ws := R_aload_n hc_31 dX6_addNumber_6 rfl rfl
theorem r_31_7 (ls st : List Value) (ws : ai_W) : ai_Run 31 7 ls st ws = ai_Run 31 9 ls (.int 48 :: st) ws := R_bipush hc_31 dX6_addNumber_7 (by decide) rfl
theorem r_31_9 (l0 : Value) (a : Int32) (st : List Value) (ws : ai_W) : ai_Run 31 9 [l0, .int a] st ws = ai_Run 31 10 [l0, .int a] (.int a :: st) ws := R_iload_n hc_31 dX6_addNumber_9 rfl rfl
theorem r_31_10 (ls st : List Value) (ws : ai_W) : ai_Run 31 10 ls st ws = ai_Run 31 12 ls (.int 10 :: st) ws := R_bipush hc_31 dX6_addNumber_10 (by decide) rfl
theorem r_31_12 (ls st : List Value) (a : Int32) (ws : ai_W) : ai_Run 31 12 ls (.int 10 :: .int a :: st) ws = ai_Run 31 13 ls (.int (a / 10) :: st) ws := R_idiv hc_31 dX6_addNumber_12 (by decide) rfl
theorem r_31_13 (ls st : List Value) (ws : ai_W) : ai_Run 31 13 ls st ws = ai_Run 31 15 ls (.int 10 :: st) ws := R_bipush hc_31 dX6_addNumber_13 (by decide) rfl
theorem r_31_15 (ls st : List Value) (a : Int32) (ws : ai_W) : ai_Run 31 15 ls (.int 10 :: .int a :: st) ws = ai_Run 31 16 ls (.int (a - a / 10 * 10) :: st) ws := R_irem hc_31 dX6_addNumber_15 (by decide) rfl
theorem r_31_16 (ls st : List Value) (a b : Int32) (ws : ai_W) : ai_Run 31 16 ls (.int b :: .int a :: st) ws = ai_Run 31 17 ls (.int (a + b) :: st) ws := R_iadd hc_31 dX6_addNumber_16 rfl
theorem r_31_17 (ls : List Value) (r : Nat) (b0 : Int32) (ws : ai_W) : ai_Run 31 17 ls [.int b0, .ref r] ws = (ai_Call 30 [.ref r, .int b0] ws).bind fun q => ai_Run 31 20 ls (q.1.toList ++ []) q.2 := R_callV hc_31 dX6_addNumber_17 hv_31 (w := 320) rfl (ai_lt3 hf_30 hf_31 hL_30 ho_30 ho_31 rfl) hk_30 (by rw [hn_30]; rfl) rfl (Nat.le_of_ble_eq_true rfl) rfl
theorem r_31_20 (l1 : Value) (a : Nat) (st : List Value) (ws : ai_W) : ai_Run 31 20 [.ref a, l1] st ws = ai_Run 31 21 [.ref a, l1] (.ref a :: st) ws := R_aload_n hc_31 dX6_addNumber_20 rfl rfl
theorem r_31_21 (ls st : List Value) (ws : ai_W) : ai_Run 31 21 ls st ws = ai_Run 31 23 ls (.int 48 :: st) ws := R_bipush hc_31 dX6_addNumber_21 (by decide) rfl
theorem r_31_23 (l0 : Value) (a : Int32) (st : List Value) (ws : ai_W) : ai_Run 31 23 [l0, .int a] st ws = ai_Run 31 24 [l0, .int a] (.int a :: st) ws := R_iload_n hc_31 dX6_addNumber_23 rfl rfl
theorem r_31_24 (ls st : List Value) (ws : ai_W) : ai_Run 31 24 ls st ws = ai_Run 31 26 ls (.int 10 :: st) ws := R_bipush hc_31 dX6_addNumber_24 (by decide) rfl
theorem r_31_26 (ls st : List Value) (a : Int32) (ws : ai_W) : ai_Run 31 26 ls (.int 10 :: .int a :: st) ws = ai_Run 31 27 ls (.int (a - a / 10 * 10) :: st) ws := R_irem hc_31 dX6_addNumber_26 (by decide) rfl
theorem r_31_27 (ls st : List Value) (a b : Int32) (ws : ai_W) : ai_Run 31 27 ls (.int b :: .int a :: st) ws = ai_Run 31 28 ls (.int (a + b) :: st) ws := R_iadd hc_31 dX6_addNumber_27 rfl
theorem r_31_28 (ls : List Value) (r : Nat) (b0 : Int32) (ws : ai_W) : ai_Run 31 28 ls [.int b0, .ref r] ws = (ai_Call 30 [.ref r, .int b0] ws).bind fun q => ai_Run 31 31 ls (q.1.toList ++ []) q.2 := R_callV hc_31 dX6_addNumber_28 hv_31 (w := 320) rfl (ai_lt3 hf_30 hf_31 hL_30 ho_30 ho_31 rfl) hk_30 (by rw [hn_30]; rfl) rfl (Nat.le_of_ble_eq_true rfl) rfl
theorem r_31_31 (ls : List Value) (ws : ai_W) : ai_Run 31 31 ls [] ws = some (none, ws) := R_vret hc_31 dX6_addNumber_31 ht_31
theorem dX0_turnChapter_0 : decode cX0_turnChapter 0 = .ok (.aload_n 0, 1) := by decide +kernel
theorem dX0_turnChapter_1 : decode cX0_turnChapter 1 = .ok (.getfield 20, 3) := by decide +kernel
theorem dX0_turnChapter_4 : decode cX0_turnChapter 4 = .ok (.iload_n 1, 1) := by decide +kernel
theorem dX0_turnChapter_5 : decode cX0_turnChapter 5 = .ok (.bipush 6, 2) := by decide +kernel
theorem dX0_turnChapter_7 : decode cX0_turnChapter 7 = .ok (.imul, 1) := by decide +kernel
theorem dX0_turnChapter_8 : decode cX0_turnChapter 8 = .ok (.iload_n 2, 1) := by decide +kernel
theorem dX0_turnChapter_9 : decode cX0_turnChapter 9 = .ok (.iadd, 1) := by decide +kernel
theorem dX0_turnChapter_10 : decode cX0_turnChapter 10 = .ok (.invokevirtual 57, 3) := by decide +kernel
theorem dX0_turnChapter_13 : decode cX0_turnChapter 13 = .ok (.ireturn, 1) := by decide +kernel
theorem e_33 (r : Nat) (a0 : Int32) (a1 : Int32) (ws : ai_W) : ai_Call 33 [.ref r, .int a0, .int a1] ws = if ai_isob ws r 0 = true then ai_Run 33 0 [.ref r, .int a0, .int a1] [] ws else none := R_entV hk_33 ⟨⟨rfl, rfl⟩, Nat.le_of_ble_eq_true rfl⟩ rfl
theorem r_33_0 (l1 l2 : Value) (a : Nat) (st : List Value) (ws : ai_W) : ai_Run 33 0 [.ref a, l1, l2] st ws = ai_Run 33 1 [.ref a, l1, l2] (.ref a :: st) ws := R_aload_n hc_33 dX0_turnChapter_0 rfl rfl
theorem r_33_1 (ls st : List Value) (a : Nat) (ws : ai_W) : ai_Run 33 1 ls (.ref a :: st) ws = (ai_fget ws a 0 4).bind fun q => ai_Run 33 4 ls (q :: st) ws := R_getf hc_33 dX0_turnChapter_1 hv_33 (w := 479) rfl rfl
theorem r_33_4 (l0 l2 : Value) (a : Int32) (st : List Value) (ws : ai_W) : ai_Run 33 4 [l0, .int a, l2] st ws = ai_Run 33 5 [l0, .int a, l2] (.int a :: st) ws := R_iload_n hc_33 dX0_turnChapter_4 rfl rfl
theorem r_33_5 (ls st : List Value) (ws : ai_W) : ai_Run 33 5 ls st ws = ai_Run 33 7 ls (.int 6 :: st) ws := R_bipush hc_33 dX0_turnChapter_5 (by decide) rfl
theorem r_33_7 (ls st : List Value) (a b : Int32) (ws : ai_W) : ai_Run 33 7 ls (.int b :: .int a :: st) ws = ai_Run 33 8 ls (.int (a * b) :: st) ws := R_imul hc_33 dX0_turnChapter_7 rfl
theorem r_33_8 (l0 l1 : Value) (a : Int32) (st : List Value) (ws : ai_W) : ai_Run 33 8 [l0, l1, .int a] st ws = ai_Run 33 9 [l0, l1, .int a] (.int a :: st) ws := R_iload_n hc_33 dX0_turnChapter_8 rfl rfl
theorem r_33_9 (ls st : List Value) (a b : Int32) (ws : ai_W) : ai_Run 33 9 ls (.int b :: .int a :: st) ws = ai_Run 33 10 ls (.int (a + b) :: st) ws := R_iadd hc_33 dX0_turnChapter_9 rfl
theorem r_33_10 (ls : List Value) (r : Nat) (b0 : Int32) (ws : ai_W) : ai_Run 33 10 ls [.int b0, .ref r] ws = (ai_Call 12 [.ref r, .int b0] ws).bind fun q => ai_Run 33 13 ls (q.1.toList ++ []) q.2 := R_callV hc_33 dX0_turnChapter_10 hv_33 (w := 119) rfl (ai_lt3 hf_12 hf_33 hL_12 ho_12 ho_33 rfl) hk_12 (by rw [hn_12]; rfl) rfl (Nat.le_of_ble_eq_true rfl) rfl
theorem r_33_13 (ls : List Value) (x : Int32) (ws : ai_W) : ai_Run 33 13 ls [.int x] ws = some (some (.int x), ws) := R_iret hc_33 dX0_turnChapter_13 ht_33
theorem dX0_isAuthor_0 : decode cX0_isAuthor 0 = .ok (.iload_n 1, 1) := by decide +kernel
theorem dX0_isAuthor_1 : decode cX0_isAuthor 1 = .ok (.ifCond .lt 15, 3) := by decide +kernel
theorem dX0_isAuthor_4 : decode cX0_isAuthor 4 = .ok (.iload_n 1, 1) := by decide +kernel
theorem dX0_isAuthor_5 : decode cX0_isAuthor 5 = .ok (.aload_n 0, 1) := by decide +kernel
theorem dX0_isAuthor_6 : decode cX0_isAuthor 6 = .ok (.getfield 42, 3) := by decide +kernel
theorem dX0_isAuthor_9 : decode cX0_isAuthor 9 = .ok (.if_icmp .ge 7, 3) := by decide +kernel
theorem dX0_isAuthor_12 : decode cX0_isAuthor 12 = .ok (.iconst 1, 1) := by decide +kernel
theorem dX0_isAuthor_13 : decode cX0_isAuthor 13 = .ok (.goto 4, 3) := by decide +kernel
theorem dX0_isAuthor_16 : decode cX0_isAuthor 16 = .ok (.iconst 0, 1) := by decide +kernel
theorem dX0_isAuthor_17 : decode cX0_isAuthor 17 = .ok (.ireturn, 1) := by decide +kernel
theorem e_35 (r : Nat) (a0 : Int32) (ws : ai_W) : ai_Call 35 [.ref r, .int a0] ws = if ai_isob ws r 0 = true then ai_Run 35 0 [.ref r, .int a0] [] ws else none := R_entV hk_35 ⟨⟨rfl, rfl⟩, Nat.le_of_ble_eq_true rfl⟩ rfl
theorem r_35_0 (l0 : Value) (a : Int32) (st : List Value) (ws : ai_W) : ai_Run 35 0 [l0, .int a] st ws = ai_Run 35 1 [l0, .int a] (.int a :: st) ws := R_iload_n hc_35 dX0_isAuthor_0 rfl rfl
theorem r_35_1 (ls st : List Value) (a : Int32) (ws : ai_W) : ai_Run 35 1 ls (.int a :: st) ws = if a < 0 then ai_Run 35 16 ls st ws else ai_Run 35 4 ls st ws := R_if_lt hc_35 dX0_isAuthor_1 rfl rfl
theorem r_35_4 (l0 : Value) (a : Int32) (st : List Value) (ws : ai_W) : ai_Run 35 4 [l0, .int a] st ws = ai_Run 35 5 [l0, .int a] (.int a :: st) ws := R_iload_n hc_35 dX0_isAuthor_4 rfl rfl
theorem r_35_5 (l1 : Value) (a : Nat) (st : List Value) (ws : ai_W) : ai_Run 35 5 [.ref a, l1] st ws = ai_Run 35 6 [.ref a, l1] (.ref a :: st) ws := R_aload_n hc_35 dX0_isAuthor_5 rfl rfl
theorem r_35_6 (ls st : List Value) (a : Nat) (ws : ai_W) : ai_Run 35 6 ls (.ref a :: st) ws = (ai_fget ws a 0 1).bind fun q => ai_Run 35 9 ls (q :: st) ws := R_getf hc_35 dX0_isAuthor_6 hv_35 (w := 469) rfl rfl
theorem r_35_9 (ls st : List Value) (a b : Int32) (ws : ai_W) : ai_Run 35 9 ls (.int b :: .int a :: st) ws = if a < b then ai_Run 35 12 ls st ws else ai_Run 35 16 ls st ws := R_cmp_ge hc_35 dX0_isAuthor_9 rfl rfl
theorem r_35_12 (ls st : List Value) (ws : ai_W) : ai_Run 35 12 ls st ws = ai_Run 35 13 ls (.int 1 :: st) ws := R_iconst hc_35 dX0_isAuthor_12 (by decide) rfl
theorem r_35_13 (ls st : List Value) (ws : ai_W) : ai_Run 35 13 ls st ws = ai_Run 35 17 ls st ws := R_goto hc_35 dX0_isAuthor_13 rfl
theorem r_35_16 (ls st : List Value) (ws : ai_W) : ai_Run 35 16 ls st ws = ai_Run 35 17 ls (.int 0 :: st) ws := R_iconst hc_35 dX0_isAuthor_16 (by decide) rfl
theorem r_35_17 (ls : List Value) (x : Int32) (ws : ai_W) : ai_Run 35 17 ls [.int x] ws = if ai_pb x = true then some (some (.int x), ws) else none := R_zret hc_35 dX0_isAuthor_17 ht_35
theorem dX0_isBySworn_0 : decode cX0_isBySworn 0 = .ok (.aload_n 0, 1) := by decide +kernel
theorem dX0_isBySworn_1 : decode cX0_isBySworn 1 = .ok (.getfield 26, 3) := by decide +kernel
theorem dX0_isBySworn_4 : decode cX0_isBySworn 4 = .ok (.iload_n 1, 1) := by decide +kernel
theorem dX0_isBySworn_5 : decode cX0_isBySworn 5 = .ok (.invokevirtual 57, 3) := by decide +kernel
theorem dX0_isBySworn_8 : decode cX0_isBySworn 8 = .ok (.istore_n 2, 1) := by decide +kernel
theorem dX0_isBySworn_9 : decode cX0_isBySworn 9 = .ok (.aload_n 0, 1) := by decide +kernel
theorem dX0_isBySworn_10 : decode cX0_isBySworn 10 = .ok (.iload_n 2, 1) := by decide +kernel
theorem dX0_isBySworn_11 : decode cX0_isBySworn 11 = .ok (.invokevirtual 74, 3) := by decide +kernel
theorem dX0_isBySworn_14 : decode cX0_isBySworn 14 = .ok (.ifCond .eq 19, 3) := by decide +kernel
theorem dX0_isBySworn_17 : decode cX0_isBySworn 17 = .ok (.aload_n 0, 1) := by decide +kernel
theorem dX0_isBySworn_18 : decode cX0_isBySworn 18 = .ok (.getfield 29, 3) := by decide +kernel
theorem dX0_isBySworn_21 : decode cX0_isBySworn 21 = .ok (.iload_n 2, 1) := by decide +kernel
theorem dX0_isBySworn_22 : decode cX0_isBySworn 22 = .ok (.invokevirtual 57, 3) := by decide +kernel
theorem dX0_isBySworn_25 : decode cX0_isBySworn 25 = .ok (.iconst 1, 1) := by decide +kernel
theorem dX0_isBySworn_26 : decode cX0_isBySworn 26 = .ok (.if_icmp .ne 7, 3) := by decide +kernel
theorem dX0_isBySworn_29 : decode cX0_isBySworn 29 = .ok (.iconst 1, 1) := by decide +kernel
theorem dX0_isBySworn_30 : decode cX0_isBySworn 30 = .ok (.goto 4, 3) := by decide +kernel
theorem dX0_isBySworn_33 : decode cX0_isBySworn 33 = .ok (.iconst 0, 1) := by decide +kernel
theorem dX0_isBySworn_34 : decode cX0_isBySworn 34 = .ok (.ireturn, 1) := by decide +kernel
theorem e_36 (r : Nat) (a0 : Int32) (ws : ai_W) : ai_Call 36 [.ref r, .int a0] ws = if ai_isob ws r 0 = true then ai_Run 36 0 [.ref r, .int a0, .null] [] ws else none := R_entV hk_36 ⟨⟨rfl, rfl⟩, Nat.le_of_ble_eq_true rfl⟩ rfl
theorem r_36_0 (l1 l2 : Value) (a : Nat) (st : List Value) (ws : ai_W) : ai_Run 36 0 [.ref a, l1, l2] st ws = ai_Run 36 1 [.ref a, l1, l2] (.ref a :: st) ws := R_aload_n hc_36 dX0_isBySworn_0 rfl rfl
theorem r_36_1 (ls st : List Value) (a : Nat) (ws : ai_W) : ai_Run 36 1 ls (.ref a :: st) ws = (ai_fget ws a 0 6).bind fun q => ai_Run 36 4 ls (q :: st) ws := R_getf hc_36 dX0_isBySworn_1 hv_36 (w := 482) rfl rfl
theorem r_36_4 (l0 l2 : Value) (a : Int32) (st : List Value) (ws : ai_W) : ai_Run 36 4 [l0, .int a, l2] st ws = ai_Run 36 5 [l0, .int a, l2] (.int a :: st) ws := R_iload_n hc_36 dX0_isBySworn_4 rfl rfl
theorem r_36_5 (ls : List Value) (r : Nat) (b0 : Int32) (ws : ai_W) : ai_Run 36 5 ls [.int b0, .ref r] ws = (ai_Call 12 [.ref r, .int b0] ws).bind fun q => ai_Run 36 8 ls (q.1.toList ++ []) q.2 := R_callV hc_36 dX0_isBySworn_5 hv_36 (w := 119) rfl (ai_lt3 hf_12 hf_36 hL_12 ho_12 ho_36 rfl) hk_12 (by rw [hn_12]; rfl) rfl (Nat.le_of_ble_eq_true rfl) rfl
theorem r_36_8 (l0 l1 l2 : Value) (a : Int32) (st : List Value) (ws : ai_W) : ai_Run 36 8 [l0, l1, l2] (.int a :: st) ws = ai_Run 36 9 [l0, l1, .int a] st ws := R_istore_n hc_36 dX0_isBySworn_8 (Nat.le_of_ble_eq_true rfl) rfl rfl
theorem r_36_9 (l1 l2 : Value) (a : Nat) (st : List Value) (ws : ai_W) : ai_Run 36 9 [.ref a, l1, l2] st ws = ai_Run 36 10 [.ref a, l1, l2] (.ref a :: st) ws := R_aload_n hc_36 dX0_isBySworn_9 rfl rfl
theorem r_36_10 (l0 l1 : Value) (a : Int32) (st : List Value) (ws : ai_W) : ai_Run 36 10 [l0, l1, .int a] st ws = ai_Run 36 11 [l0, l1, .int a] (.int a :: st) ws := R_iload_n hc_36 dX0_isBySworn_10 rfl rfl
theorem r_36_11 (ls : List Value) (r : Nat) (b0 : Int32) (ws : ai_W) : ai_Run 36 11 ls [.int b0, .ref r] ws = (ai_Call 35 [.ref r, .int b0] ws).bind fun q => ai_Run 36 14 ls (q.1.toList ++ []) q.2 := R_callV hc_36 dX0_isBySworn_11 hv_36 (w := 238) rfl (ai_lt3 hf_35 hf_36 hL_35 ho_35 ho_36 rfl) hk_35 (by rw [hn_35]; rfl) rfl (Nat.le_of_ble_eq_true rfl) rfl
theorem r_36_14 (ls st : List Value) (a : Int32) (ws : ai_W) : ai_Run 36 14 ls (.int a :: st) ws = if a = 0 then ai_Run 36 33 ls st ws else ai_Run 36 17 ls st ws := R_if_eq hc_36 dX0_isBySworn_14 rfl rfl
theorem r_36_17 (l1 l2 : Value) (a : Nat) (st : List Value) (ws : ai_W) : ai_Run 36 17 [.ref a, l1, l2] st ws = ai_Run 36 18 [.ref a, l1, l2] (.ref a :: st) ws := R_aload_n hc_36 dX0_isBySworn_17 rfl rfl
theorem r_36_18 (ls st : List Value) (a : Nat) (ws : ai_W) : ai_Run 36 18 ls (.ref a :: st) ws = (ai_fget ws a 0 7).bind fun q => ai_Run 36 21 ls (q :: st) ws := R_getf hc_36 dX0_isBySworn_18 hv_36 (w := 486) rfl rfl
theorem r_36_21 (l0 l1 : Value) (a : Int32) (st : List Value) (ws : ai_W) : ai_Run 36 21 [l0, l1, .int a] st ws = ai_Run 36 22 [l0, l1, .int a] (.int a :: st) ws := R_iload_n hc_36 dX0_isBySworn_21 rfl rfl
theorem r_36_22 (ls : List Value) (r : Nat) (b0 : Int32) (ws : ai_W) : ai_Run 36 22 ls [.int b0, .ref r] ws = (ai_Call 12 [.ref r, .int b0] ws).bind fun q => ai_Run 36 25 ls (q.1.toList ++ []) q.2 := R_callV hc_36 dX0_isBySworn_22 hv_36 (w := 119) rfl (ai_lt3 hf_12 hf_36 hL_12 ho_12 ho_36 rfl) hk_12 (by rw [hn_12]; rfl) rfl (Nat.le_of_ble_eq_true rfl) rfl
theorem r_36_25 (ls st : List Value) (ws : ai_W) : ai_Run 36 25 ls st ws = ai_Run 36 26 ls (.int 1 :: st) ws := R_iconst hc_36 dX0_isBySworn_25 (by decide) rfl
theorem r_36_26 (ls st : List Value) (a b : Int32) (ws : ai_W) : ai_Run 36 26 ls (.int b :: .int a :: st) ws = if a = b then ai_Run 36 29 ls st ws else ai_Run 36 33 ls st ws := R_cmp_ne hc_36 dX0_isBySworn_26 rfl rfl
theorem r_36_29 (ls st : List Value) (ws : ai_W) : ai_Run 36 29 ls st ws = ai_Run 36 30 ls (.int 1 :: st) ws := R_iconst hc_36 dX0_isBySworn_29 (by decide) rfl
theorem r_36_30 (ls st : List Value) (ws : ai_W) : ai_Run 36 30 ls st ws = ai_Run 36 34 ls st ws := R_goto hc_36 dX0_isBySworn_30 rfl
theorem r_36_33 (ls st : List Value) (ws : ai_W) : ai_Run 36 33 ls st ws = ai_Run 36 34 ls (.int 0 :: st) ws := R_iconst hc_36 dX0_isBySworn_33 (by decide) rfl
theorem r_36_34 (ls : List Value) (x : Int32) (ws : ai_W) : ai_Run 36 34 ls [.int x] ws = if ai_pb x = true then some (some (.int x), ws) else none := R_zret hc_36 dX0_isBySworn_34 ht_36
theorem dX9_addCode_0 : decode cX9_addCode 0 = .ok (.iload_n 1, 1) := by decide +kernel
theorem dX9_addCode_1 : decode cX9_addCode 1 = .ok (.bipush 32, 2) := by decide +kernel
theorem dX9_addCode_3 : decode cX9_addCode 3 = .ok (.if_icmp .lt 18, 3) := by decide +kernel
theorem dX9_addCode_6 : decode cX9_addCode 6 = .ok (.iload_n 1, 1) := by decide +kernel
theorem dX9_addCode_7 : decode cX9_addCode 7 = .ok (.bipush 126, 2) := by decide +kernel
theorem dX9_addCode_9 : decode cX9_addCode 9 = .ok (.if_icmp .gt 12, 3) := by decide +kernel
theorem dX9_addCode_12 : decode cX9_addCode 12 = .ok (.aload_n 0, 1) := by decide +kernel
theorem dX9_addCode_13 : decode cX9_addCode 13 = .ok (.getfield 26, 3) := by decide +kernel
theorem dX9_addCode_16 : decode cX9_addCode 16 = .ok (.bipush 70, 2) := by decide +kernel
theorem dX9_addCode_18 : decode cX9_addCode 18 = .ok (.if_icmp .lt 5, 3) := by decide +kernel
theorem dX9_addCode_21 : decode cX9_addCode 21 = .ok (.iconst 0, 1) := by decide +kernel
theorem dX9_addCode_22 : decode cX9_addCode 22 = .ok (.ireturn, 1) := by decide +kernel
theorem dX9_addCode_23 : decode cX9_addCode 23 = .ok (.aload_n 0, 1) := by decide +kernel
theorem dX9_addCode_24 : decode cX9_addCode 24 = .ok (.getfield 14, 3) := by decide +kernel
theorem dX9_addCode_27 : decode cX9_addCode 27 = .ok (.aload_n 0, 1) := by decide +kernel
theorem dX9_addCode_28 : decode cX9_addCode 28 = .ok (.getfield 26, 3) := by decide +kernel
theorem dX9_addCode_31 : decode cX9_addCode 31 = .ok (.iload_n 1, 1) := by decide +kernel
theorem dX9_addCode_32 : decode cX9_addCode 32 = .ok (.invokevirtual 30, 3) := by decide +kernel
theorem dX9_addCode_35 : decode cX9_addCode 35 = .ok (.aload_n 0, 1) := by decide +kernel
theorem dX9_addCode_36 : decode cX9_addCode 36 = .ok (.dup, 1) := by decide +kernel
theorem dX9_addCode_37 : decode cX9_addCode 37 = .ok (.getfield 26, 3) := by decide +kernel
theorem dX9_addCode_40 : decode cX9_addCode 40 = .ok (.iconst 1, 1) := by decide +kernel
theorem dX9_addCode_41 : decode cX9_addCode 41 = .ok (.iadd, 1) := by decide +kernel
theorem dX9_addCode_42 : decode cX9_addCode 42 = .ok (.putfield 26, 3) := by decide +kernel
theorem dX9_addCode_45 : decode cX9_addCode 45 = .ok (.iconst 1, 1) := by decide +kernel
theorem dX9_addCode_46 : decode cX9_addCode 46 = .ok (.ireturn, 1) := by decide +kernel
theorem e_38 (r : Nat) (a0 : Int32) (ws : ai_W) : ai_Call 38 [.ref r, .int a0] ws = if ai_isob ws r 9 = true then ai_Run 38 0 [.ref r, .int a0] [] ws else none := R_entV hk_38 ⟨⟨rfl, rfl⟩, Nat.le_of_ble_eq_true rfl⟩ rfl
theorem r_38_0 (l0 : Value) (a : Int32) (st : List Value) (ws : ai_W) : ai_Run 38 0 [l0, .int a] st ws = ai_Run 38 1 [l0, .int a] (.int a :: st) ws := R_iload_n hc_38 dX9_addCode_0 rfl rfl
theorem r_38_1 (ls st : List Value) (ws : ai_W) : ai_Run 38 1 ls st ws = ai_Run 38 3 ls (.int 32 :: st) ws := R_bipush hc_38 dX9_addCode_1 (by decide) rfl
theorem r_38_3 (ls st : List Value) (a b : Int32) (ws : ai_W) : ai_Run 38 3 ls (.int b :: .int a :: st) ws = if a < b then ai_Run 38 21 ls st ws else ai_Run 38 6 ls st ws := R_cmp_lt hc_38 dX9_addCode_3 rfl rfl
theorem r_38_6 (l0 : Value) (a : Int32) (st : List Value) (ws : ai_W) : ai_Run 38 6 [l0, .int a] st ws = ai_Run 38 7 [l0, .int a] (.int a :: st) ws := R_iload_n hc_38 dX9_addCode_6 rfl rfl
theorem r_38_7 (ls st : List Value) (ws : ai_W) : ai_Run 38 7 ls st ws = ai_Run 38 9 ls (.int 126 :: st) ws := R_bipush hc_38 dX9_addCode_7 (by decide) rfl
theorem r_38_9 (ls st : List Value) (a b : Int32) (ws : ai_W) : ai_Run 38 9 ls (.int b :: .int a :: st) ws = if b < a then ai_Run 38 21 ls st ws else ai_Run 38 12 ls st ws := R_cmp_gt hc_38 dX9_addCode_9 rfl rfl
theorem r_38_12 (l1 : Value) (a : Nat) (st : List Value) (ws : ai_W) : ai_Run 38 12 [.ref a, l1] st ws = ai_Run 38 13 [.ref a, l1] (.ref a :: st) ws := R_aload_n hc_38 dX9_addCode_12 rfl rfl
theorem r_38_13 (ls st : List Value) (a : Nat) (ws : ai_W) : ai_Run 38 13 ls (.ref a :: st) ws = (ai_fget ws a 9 3).bind fun q => ai_Run 38 16 ls (q :: st) ws := R_getf hc_38 dX9_addCode_13 hv_38 (w := 621) rfl rfl
theorem r_38_16 (ls st : List Value) (ws : ai_W) : ai_Run 38 16 ls st ws = ai_Run 38 18 ls (.int 70 :: st) ws := R_bipush hc_38 dX9_addCode_16 (by decide) rfl
theorem r_38_18 (ls st : List Value) (a b : Int32) (ws : ai_W) : ai_Run 38 18 ls (.int b :: .int a :: st) ws = if a < b then ai_Run 38 23 ls st ws else ai_Run 38 21 ls st ws := R_cmp_lt hc_38 dX9_addCode_18 rfl rfl
theorem r_38_21 (ls st : List Value) (ws : ai_W) : ai_Run 38 21 ls st ws = ai_Run 38 22 ls (.int 0 :: st) ws := R_iconst hc_38 dX9_addCode_21 (by decide) rfl
theorem r_38_22 (ls : List Value) (x : Int32) (ws : ai_W) : ai_Run 38 22 ls [.int x] ws = if ai_pb x = true then some (some (.int x), ws) else none := R_zret hc_38 dX9_addCode_22 ht_38
theorem r_38_23 (l1 : Value) (a : Nat) (st : List Value) (ws : ai_W) : ai_Run 38 23 [.ref a, l1] st ws = ai_Run 38 24 [.ref a, l1] (.ref a :: st) ws := R_aload_n hc_38 dX9_addCode_23 rfl rfl
theorem r_38_24 (ls st : List Value) (a : Nat) (ws : ai_W) : ai_Run 38 24 ls (.ref a :: st) ws = (ai_fget ws a 9 0).bind fun q => ai_Run 38 27 ls (q :: st) ws := R_getf hc_38 dX9_addCode_24 hv_38 (w := 618) rfl rfl
theorem r_38_27 (l1 : Value) (a : Nat) (st : List Value) (ws : ai_W) : ai_Run 38 27 [.ref a, l1] st ws = ai_Run 38 28 [.ref a, l1] (.ref a :: st) ws := R_aload_n hc_38 dX9_addCode_27 rfl rfl
theorem r_38_28 (ls st : List Value) (a : Nat) (ws : ai_W) : ai_Run 38 28 ls (.ref a :: st) ws = (ai_fget ws a 9 3).bind fun q => ai_Run 38 31 ls (q :: st) ws := R_getf hc_38 dX9_addCode_28 hv_38 (w := 621) rfl rfl
theorem r_38_31 (l0 : Value) (a : Int32) (st : List Value) (ws : ai_W) : ai_Run 38 31 [l0, .int a] st ws = ai_Run 38 32 [l0, .int a] (.int a :: st) ws := R_iload_n hc_38 dX9_addCode_31 rfl rfl
theorem r_38_32 (ls : List Value) (r : Nat) (b0 : Int32) (b1 : Int32) (ws : ai_W) : ai_Run 38 32 ls [.int b1, .int b0, .ref r] ws = (ai_Call 29 [.ref r, .int b0, .int b1] ws).bind fun q => ai_Run 38 35 ls (q.1.toList ++ []) q.2 := R_callV hc_38 dX9_addCode_32 hv_38 (w := 1032) rfl (ai_lt3 hf_29 hf_38 hL_29 ho_29 ho_38 rfl) hk_29 (by rw [hn_29]; rfl) rfl (Nat.le_of_ble_eq_true rfl) rfl
theorem r_38_35 (l1 : Value) (a : Nat) (st : List Value) (ws : ai_W) : ai_Run 38 35 [.ref a, l1] st ws = ai_Run 38 36 [.ref a, l1] (.ref a :: st) ws := R_aload_n hc_38 dX9_addCode_35 rfl rfl
theorem r_38_36 (ls st : List Value) (a : Nat) (ws : ai_W) : ai_Run 38 36 ls (.ref a :: st) ws = ai_Run 38 37 ls (.ref a :: .ref a :: st) ws := R_dup hc_38 dX9_addCode_36 rfl
theorem r_38_37 (ls st : List Value) (a : Nat) (ws : ai_W) : ai_Run 38 37 ls (.ref a :: st) ws = (ai_fget ws a 9 3).bind fun q => ai_Run 38 40 ls (q :: st) ws := R_getf hc_38 dX9_addCode_37 hv_38 (w := 621) rfl rfl
theorem r_38_40 (ls st : List Value) (ws : ai_W) : ai_Run 38 40 ls st ws = ai_Run 38 41 ls (.int 1 :: st) ws := R_iconst hc_38 dX9_addCode_40 (by decide) rfl
theorem r_38_41 (ls st : List Value) (a b : Int32) (ws : ai_W) : ai_Run 38 41 ls (.int b :: .int a :: st) ws = ai_Run 38 42 ls (.int (a + b) :: st) ws := R_iadd hc_38 dX9_addCode_41 rfl
theorem r_38_42 (ls st : List Value) (a : Nat) (x : Value) (ws : ai_W) : ai_Run 38 42 ls (x :: .ref a :: st) ws = (ai_fput ws a 9 3 x).bind fun ws => ai_Run 38 45 ls st ws := R_putf hc_38 dX9_addCode_42 hv_38 (w := 621) rfl rfl rfl
theorem r_38_45 (ls st : List Value) (ws : ai_W) : ai_Run 38 45 ls st ws = ai_Run 38 46 ls (.int 1 :: st) ws := R_iconst hc_38 dX9_addCode_45 (by decide) rfl
theorem r_38_46 (ls : List Value) (x : Int32) (ws : ai_W) : ai_Run 38 46 ls [.int x] ws = if ai_pb x = true then some (some (.int x), ws) else none := R_zret hc_38 dX9_addCode_46 ht_38
theorem dX7_setCommand_0 : decode cX7_setCommand 0 = .ok (.aload_n 0, 1) := by decide +kernel
theorem dX7_setCommand_1 : decode cX7_setCommand 1 = .ok (.iload_n 1, 1) := by decide +kernel
theorem dX7_setCommand_2 : decode cX7_setCommand 2 = .ok (.putfield 9, 3) := by decide +kernel
theorem dX7_setCommand_5 : decode cX7_setCommand 5 = .ok (.return_, 1) := by decide +kernel
theorem e_40 (r : Nat) (a0 : Int32) (ws : ai_W) : ai_Call 40 [.ref r, .int a0] ws = if ai_isob ws r 7 = true then ai_Run 40 0 [.ref r, .int a0] [] ws else none := R_entV hk_40 ⟨⟨rfl, rfl⟩, Nat.le_of_ble_eq_true rfl⟩ rfl
theorem r_40_0 (l1 : Value) (a : Nat) (st : List Value) (ws : ai_W) : ai_Run 40 0 [.ref a, l1] st ws = ai_Run 40 1 [.ref a, l1] (.ref a :: st) ws := R_aload_n hc_40 dX7_setCommand_0 rfl rfl
theorem r_40_1 (l0 : Value) (a : Int32) (st : List Value) (ws : ai_W) : ai_Run 40 1 [l0, .int a] st ws = ai_Run 40 2 [l0, .int a] (.int a :: st) ws := R_iload_n hc_40 dX7_setCommand_1 rfl rfl
theorem r_40_2 (ls st : List Value) (a : Nat) (x : Value) (ws : ai_W) : ai_Run 40 2 ls (x :: .ref a :: st) ws = (ai_fput ws a 7 0 x).bind fun ws => ai_Run 40 5 ls st ws := R_putf hc_40 dX7_setCommand_2 hv_40 (w := 541) rfl rfl rfl
theorem r_40_5 (ls : List Value) (ws : ai_W) : ai_Run 40 5 ls [] ws = some (none, ws) := R_vret hc_40 dX7_setCommand_5 ht_40
theorem dX3_isInRing_0 : decode cX3_isInRing 0 = .ok (.iload_n 1, 1) := by decide +kernel
theorem dX3_isInRing_1 : decode cX3_isInRing 1 = .ok (.ifCond .lt 25, 3) := by decide +kernel
theorem dX3_isInRing_4 : decode cX3_isInRing 4 = .ok (.iload_n 1, 1) := by decide +kernel
theorem dX3_isInRing_5 : decode cX3_isInRing 5 = .ok (.aload_n 0, 1) := by decide +kernel
theorem dX3_isInRing_6 : decode cX3_isInRing 6 = .ok (.getfield 11, 3) := by decide +kernel
theorem dX3_isInRing_9 : decode cX3_isInRing 9 = .ok (.arraylength, 1) := by decide +kernel
theorem dX3_isInRing_10 : decode cX3_isInRing 10 = .ok (.if_icmp .ge 16, 3) := by decide +kernel
theorem dX3_isInRing_13 : decode cX3_isInRing 13 = .ok (.aload_n 0, 1) := by decide +kernel
theorem dX3_isInRing_14 : decode cX3_isInRing 14 = .ok (.getfield 11, 3) := by decide +kernel
theorem dX3_isInRing_17 : decode cX3_isInRing 17 = .ok (.iload_n 1, 1) := by decide +kernel
theorem dX3_isInRing_18 : decode cX3_isInRing 18 = .ok (.aaload, 1) := by decide +kernel
theorem dX3_isInRing_19 : decode cX3_isInRing 19 = .ok (.ifnull 7, 3) := by decide +kernel
theorem dX3_isInRing_22 : decode cX3_isInRing 22 = .ok (.iconst 1, 1) := by decide +kernel
theorem dX3_isInRing_23 : decode cX3_isInRing 23 = .ok (.goto 4, 3) := by decide +kernel
theorem dX3_isInRing_26 : decode cX3_isInRing 26 = .ok (.iconst 0, 1) := by decide +kernel
theorem dX3_isInRing_27 : decode cX3_isInRing 27 = .ok (.ireturn, 1) := by decide +kernel
theorem e_41 (r : Nat) (a0 : Int32) (ws : ai_W) : ai_Call 41 [.ref r, .int a0] ws = if ai_isob ws r 3 = true then ai_Run 41 0 [.ref r, .int a0] [] ws else none := R_entV hk_41 ⟨⟨rfl, rfl⟩, Nat.le_of_ble_eq_true rfl⟩ rfl
theorem r_41_0 (l0 : Value) (a : Int32) (st : List Value) (ws : ai_W) : ai_Run 41 0 [l0, .int a] st ws = ai_Run 41 1 [l0, .int a] (.int a :: st) ws := R_iload_n hc_41 dX3_isInRing_0 rfl rfl
theorem r_41_1 (ls st : List Value) (a : Int32) (ws : ai_W) : ai_Run 41 1 ls (.int a :: st) ws = if a < 0 then ai_Run 41 26 ls st ws else ai_Run 41 4 ls st ws := R_if_lt hc_41 dX3_isInRing_1 rfl rfl
theorem r_41_4 (l0 : Value) (a : Int32) (st : List Value) (ws : ai_W) : ai_Run 41 4 [l0, .int a] st ws = ai_Run 41 5 [l0, .int a] (.int a :: st) ws := R_iload_n hc_41 dX3_isInRing_4 rfl rfl
theorem r_41_5 (l1 : Value) (a : Nat) (st : List Value) (ws : ai_W) : ai_Run 41 5 [.ref a, l1] st ws = ai_Run 41 6 [.ref a, l1] (.ref a :: st) ws := R_aload_n hc_41 dX3_isInRing_5 rfl rfl
theorem r_41_6 (ls st : List Value) (a : Nat) (ws : ai_W) : ai_Run 41 6 ls (.ref a :: st) ws = (ai_fget ws a 3 0).bind fun q => ai_Run 41 9 ls (q :: st) ws := R_getf hc_41 dX3_isInRing_6 hv_41 (w := 594) rfl rfl
theorem r_41_9 (ls st : List Value) (a : Nat) (ws : ai_W) : ai_Run 41 9 ls (.ref a :: st) ws = (ai_len ws a).bind fun q => ai_Run 41 10 ls (.int q :: st) ws := R_arraylength hc_41 dX3_isInRing_9 rfl
theorem r_41_10 (ls st : List Value) (a b : Int32) (ws : ai_W) : ai_Run 41 10 ls (.int b :: .int a :: st) ws = if a < b then ai_Run 41 13 ls st ws else ai_Run 41 26 ls st ws := R_cmp_ge hc_41 dX3_isInRing_10 rfl rfl
theorem r_41_13 (l1 : Value) (a : Nat) (st : List Value) (ws : ai_W) : ai_Run 41 13 [.ref a, l1] st ws = ai_Run 41 14 [.ref a, l1] (.ref a :: st) ws := R_aload_n hc_41 dX3_isInRing_13 rfl rfl
theorem r_41_14 (ls st : List Value) (a : Nat) (ws : ai_W) : ai_Run 41 14 ls (.ref a :: st) ws = (ai_fget ws a 3 0).bind fun q => ai_Run 41 17 ls (q :: st) ws := R_getf hc_41 dX3_isInRing_14 hv_41 (w := 594) rfl rfl
theorem r_41_17 (l0 : Value) (a : Int32) (st : List Value) (ws : ai_W) : ai_Run 41 17 [l0, .int a] st ws = ai_Run 41 18 [l0, .int a] (.int a :: st) ws := R_iload_n hc_41 dX3_isInRing_17 rfl rfl
theorem r_41_18 (ls st : List Value) (a : Nat) (i : Int32) (ws : ai_W) : ai_Run 41 18 ls (.int i :: .ref a :: st) ws = (ai_qget ws a i).bind fun q => ai_Run 41 19 ls (q :: st) ws := R_aaload hc_41 dX3_isInRing_18 rfl
theorem r_41_19 (ls st : List Value) (a : Nat) (ws : ai_W) : ai_Run 41 19 ls (.ref a :: st) ws = ai_Run 41 22 ls st ws := R_ifnull_r hc_41 dX3_isInRing_19 rfl rfl
theorem r_41_22 (ls st : List Value) (ws : ai_W) : ai_Run 41 22 ls st ws = ai_Run 41 23 ls (.int 1 :: st) ws := R_iconst hc_41 dX3_isInRing_22 (by decide) rfl
theorem r_41_23 (ls st : List Value) (ws : ai_W) : ai_Run 41 23 ls st ws = ai_Run 41 27 ls st ws := R_goto hc_41 dX3_isInRing_23 rfl
theorem r_41_26 (ls st : List Value) (ws : ai_W) : ai_Run 41 26 ls st ws = ai_Run 41 27 ls (.int 0 :: st) ws := R_iconst hc_41 dX3_isInRing_26 (by decide) rfl
theorem r_41_27 (ls : List Value) (x : Int32) (ws : ai_W) : ai_Run 41 27 ls [.int x] ws = if ai_pb x = true then some (some (.int x), ws) else none := R_zret hc_41 dX3_isInRing_27 ht_41
theorem dX8_copyFrom_0 : decode cX8_copyFrom 0 = .ok (.aload_n 1, 1) := by decide +kernel
theorem dX8_copyFrom_1 : decode cX8_copyFrom 1 = .ok (.getfield 13, 3) := by decide +kernel
theorem dX8_copyFrom_4 : decode cX8_copyFrom 4 = .ok (.arraylength, 1) := by decide +kernel
theorem dX8_copyFrom_5 : decode cX8_copyFrom 5 = .ok (.aload_n 0, 1) := by decide +kernel
theorem dX8_copyFrom_6 : decode cX8_copyFrom 6 = .ok (.getfield 13, 3) := by decide +kernel
theorem dX8_copyFrom_9 : decode cX8_copyFrom 9 = .ok (.arraylength, 1) := by decide +kernel
theorem dX8_copyFrom_10 : decode cX8_copyFrom 10 = .ok (.invokestatic 19, 3) := by decide +kernel
theorem dX8_copyFrom_13 : decode cX8_copyFrom 13 = .ok (.istore_n 2, 1) := by decide +kernel
theorem dX8_copyFrom_14 : decode cX8_copyFrom 14 = .ok (.aload_n 1, 1) := by decide +kernel
theorem dX8_copyFrom_15 : decode cX8_copyFrom 15 = .ok (.getfield 13, 3) := by decide +kernel
theorem dX8_copyFrom_18 : decode cX8_copyFrom 18 = .ok (.iconst 0, 1) := by decide +kernel
theorem dX8_copyFrom_19 : decode cX8_copyFrom 19 = .ok (.aload_n 0, 1) := by decide +kernel
theorem dX8_copyFrom_20 : decode cX8_copyFrom 20 = .ok (.getfield 13, 3) := by decide +kernel
theorem dX8_copyFrom_23 : decode cX8_copyFrom 23 = .ok (.iconst 0, 1) := by decide +kernel
theorem dX8_copyFrom_24 : decode cX8_copyFrom 24 = .ok (.iload_n 2, 1) := by decide +kernel
theorem dX8_copyFrom_25 : decode cX8_copyFrom 25 = .ok (.invokestatic 22, 3) := by decide +kernel
theorem dX8_copyFrom_28 : decode cX8_copyFrom 28 = .ok (.return_, 1) := by decide +kernel
theorem e_43 (r : Nat) (a0 : Nat) (ws : ai_W) : ai_Call 43 [.ref r, .ref a0] ws = if ai_isob ws r 8 = true then ai_Run 43 0 [.ref r, .ref a0, .null] [] ws else none := R_entV hk_43 ⟨⟨rfl, rfl⟩, Nat.le_of_ble_eq_true rfl⟩ rfl
theorem r_43_0 (l0 l2 : Value) (a : Nat) (st : List Value) (ws : ai_W) : ai_Run 43 0 [l0, .ref a, l2] st ws = ai_Run 43 1 [l0, .ref a, l2] (.ref a :: st) ws := R_aload_n hc_43 dX8_copyFrom_0 rfl rfl
theorem r_43_1 (ls st : List Value) (a : Nat) (ws : ai_W) : ai_Run 43 1 ls (.ref a :: st) ws = (ai_fget ws a 8 0).bind fun q => ai_Run 43 4 ls (q :: st) ws := R_getf hc_43 dX8_copyFrom_1 hv_43 (w := 458) rfl rfl
theorem r_43_4 (ls st : List Value) (a : Nat) (ws : ai_W) : ai_Run 43 4 ls (.ref a :: st) ws = (ai_len ws a).bind fun q => ai_Run 43 5 ls (.int q :: st) ws := R_arraylength hc_43 dX8_copyFrom_4 rfl
theorem r_43_5 (l1 l2 : Value) (a : Nat) (st : List Value) (ws : ai_W) : ai_Run 43 5 [.ref a, l1, l2] st ws = ai_Run 43 6 [.ref a, l1, l2] (.ref a :: st) ws := R_aload_n hc_43 dX8_copyFrom_5 rfl rfl
theorem r_43_6 (ls st : List Value) (a : Nat) (ws : ai_W) : ai_Run 43 6 ls (.ref a :: st) ws = (ai_fget ws a 8 0).bind fun q => ai_Run 43 9 ls (q :: st) ws := R_getf hc_43 dX8_copyFrom_6 hv_43 (w := 458) rfl rfl
theorem r_43_9 (ls st : List Value) (a : Nat) (ws : ai_W) : ai_Run 43 9 ls (.ref a :: st) ws = (ai_len ws a).bind fun q => ai_Run 43 10 ls (.int q :: st) ws := R_arraylength hc_43 dX8_copyFrom_9 rfl
theorem r_43_10 (ls : List Value) (b0 : Int32) (b1 : Int32) (ws : ai_W) : ai_Run 43 10 ls [.int b1, .int b0] ws = (ai_Call 42 [.int b0, .int b1] ws).bind fun q => ai_Run 43 13 ls (q.1.toList ++ []) q.2 := R_callS hc_43 dX8_copyFrom_10 hv_43 (w := 74) rfl (ai_lt3 hf_42 hf_43 hL_42 ho_42 ho_43 rfl) hk_42 (by rw [hn_42]; rfl) rfl (Nat.le_of_ble_eq_true rfl) rfl
theorem r_43_13 (l0 l1 l2 : Value) (a : Int32) (st : List Value) (ws : ai_W) : ai_Run 43 13 [l0, l1, l2] (.int a :: st) ws = ai_Run 43 14 [l0, l1, .int a] st ws := R_istore_n hc_43 dX8_copyFrom_13 (Nat.le_of_ble_eq_true rfl) rfl rfl
theorem r_43_14 (l0 l2 : Value) (a : Nat) (st : List Value) (ws : ai_W) : ai_Run 43 14 [l0, .ref a, l2] st ws = ai_Run 43 15 [l0, .ref a, l2] (.ref a :: st) ws := R_aload_n hc_43 dX8_copyFrom_14 rfl rfl
theorem r_43_15 (ls st : List Value) (a : Nat) (ws : ai_W) : ai_Run 43 15 ls (.ref a :: st) ws = (ai_fget ws a 8 0).bind fun q => ai_Run 43 18 ls (q :: st) ws := R_getf hc_43 dX8_copyFrom_15 hv_43 (w := 458) rfl rfl
theorem r_43_18 (ls st : List Value) (ws : ai_W) : ai_Run 43 18 ls st ws = ai_Run 43 19 ls (.int 0 :: st) ws := R_iconst hc_43 dX8_copyFrom_18 (by decide) rfl
theorem r_43_19 (l1 l2 : Value) (a : Nat) (st : List Value) (ws : ai_W) : ai_Run 43 19 [.ref a, l1, l2] st ws = ai_Run 43 20 [.ref a, l1, l2] (.ref a :: st) ws := R_aload_n hc_43 dX8_copyFrom_19 rfl rfl
theorem r_43_20 (ls st : List Value) (a : Nat) (ws : ai_W) : ai_Run 43 20 ls (.ref a :: st) ws = (ai_fget ws a 8 0).bind fun q => ai_Run 43 23 ls (q :: st) ws := R_getf hc_43 dX8_copyFrom_20 hv_43 (w := 458) rfl rfl
theorem r_43_23 (ls st : List Value) (ws : ai_W) : ai_Run 43 23 ls st ws = ai_Run 43 24 ls (.int 0 :: st) ws := R_iconst hc_43 dX8_copyFrom_23 (by decide) rfl
theorem r_43_24 (l0 l1 : Value) (a : Int32) (st : List Value) (ws : ai_W) : ai_Run 43 24 [l0, l1, .int a] st ws = ai_Run 43 25 [l0, l1, .int a] (.int a :: st) ws := R_iload_n hc_43 dX8_copyFrom_24 rfl rfl
theorem rx_43_25 (ls : List Value) (a d : Nat) (i0 j n0 : Int32) (ws : ai_W) : ai_Run 43 25 ls [.int n0, .int j, .ref d, .int i0, .retAddr a] ws = (ai_cpx a ws i0 d j n0).bind fun ws => ai_Run 43 28 ls [] ws := R_copyX hc_43 dX8_copyFrom_25 hv_43 (y2 := 0) (w := 77) rfl (Nat.le_of_ble_eq_true rfl) (ai_nat_of hf_43 ho_43 rfl) rfl
theorem r_43_25 (ls : List Value) (a d : Nat) (i0 j n0 : Int32) (ws : ai_W) : ai_Run 43 25 ls [.int n0, .int j, .ref d, .int i0, .ref a] ws = (ai_cpy ws a i0 d j n0).bind fun ws => ai_Run 43 28 ls [] ws := R_copy hc_43 dX8_copyFrom_25 hv_43 (y2 := 0) (w := 77) rfl (Nat.le_of_ble_eq_true rfl) (ai_nat_of hf_43 ho_43 rfl) rfl
theorem r_43_28 (ls : List Value) (ws : ai_W) : ai_Run 43 28 ls [] ws = some (none, ws) := R_vret hc_43 dX8_copyFrom_28 ht_43
theorem dX0_copyFrom_0 : decode cX0_copyFrom 0 = .ok (.aload_n 0, 1) := by decide +kernel
theorem dX0_copyFrom_1 : decode cX0_copyFrom 1 = .ok (.aload_n 1, 1) := by decide +kernel
theorem dX0_copyFrom_2 : decode cX0_copyFrom 2 = .ok (.getfield 38, 3) := by decide +kernel
theorem dX0_copyFrom_5 : decode cX0_copyFrom 5 = .ok (.putfield 38, 3) := by decide +kernel
theorem dX0_copyFrom_8 : decode cX0_copyFrom 8 = .ok (.aload_n 0, 1) := by decide +kernel
theorem dX0_copyFrom_9 : decode cX0_copyFrom 9 = .ok (.aload_n 1, 1) := by decide +kernel
theorem dX0_copyFrom_10 : decode cX0_copyFrom 10 = .ok (.getfield 42, 3) := by decide +kernel
theorem dX0_copyFrom_13 : decode cX0_copyFrom 13 = .ok (.putfield 42, 3) := by decide +kernel
theorem dX0_copyFrom_16 : decode cX0_copyFrom 16 = .ok (.aload_n 0, 1) := by decide +kernel
theorem dX0_copyFrom_17 : decode cX0_copyFrom 17 = .ok (.aload_n 1, 1) := by decide +kernel
theorem dX0_copyFrom_18 : decode cX0_copyFrom 18 = .ok (.getfield 77, 3) := by decide +kernel
theorem dX0_copyFrom_21 : decode cX0_copyFrom 21 = .ok (.putfield 77, 3) := by decide +kernel
theorem dX0_copyFrom_24 : decode cX0_copyFrom 24 = .ok (.aload_n 0, 1) := by decide +kernel
theorem dX0_copyFrom_25 : decode cX0_copyFrom 25 = .ok (.getfield 14, 3) := by decide +kernel
theorem dX0_copyFrom_28 : decode cX0_copyFrom 28 = .ok (.aload_n 1, 1) := by decide +kernel
theorem dX0_copyFrom_29 : decode cX0_copyFrom 29 = .ok (.getfield 14, 3) := by decide +kernel
theorem dX0_copyFrom_32 : decode cX0_copyFrom 32 = .ok (.invokevirtual 80, 3) := by decide +kernel
theorem dX0_copyFrom_35 : decode cX0_copyFrom 35 = .ok (.aload_n 0, 1) := by decide +kernel
theorem dX0_copyFrom_36 : decode cX0_copyFrom 36 = .ok (.getfield 20, 3) := by decide +kernel
theorem dX0_copyFrom_39 : decode cX0_copyFrom 39 = .ok (.aload_n 1, 1) := by decide +kernel
theorem dX0_copyFrom_40 : decode cX0_copyFrom 40 = .ok (.getfield 20, 3) := by decide +kernel
theorem dX0_copyFrom_43 : decode cX0_copyFrom 43 = .ok (.invokevirtual 80, 3) := by decide +kernel
theorem dX0_copyFrom_46 : decode cX0_copyFrom 46 = .ok (.aload_n 0, 1) := by decide +kernel
theorem dX0_copyFrom_47 : decode cX0_copyFrom 47 = .ok (.getfield 23, 3) := by decide +kernel
theorem dX0_copyFrom_50 : decode cX0_copyFrom 50 = .ok (.aload_n 1, 1) := by decide +kernel
theorem dX0_copyFrom_51 : decode cX0_copyFrom 51 = .ok (.getfield 23, 3) := by decide +kernel
theorem dX0_copyFrom_54 : decode cX0_copyFrom 54 = .ok (.invokevirtual 80, 3) := by decide +kernel
theorem dX0_copyFrom_57 : decode cX0_copyFrom 57 = .ok (.aload_n 0, 1) := by decide +kernel
theorem dX0_copyFrom_58 : decode cX0_copyFrom 58 = .ok (.getfield 26, 3) := by decide +kernel
theorem dX0_copyFrom_61 : decode cX0_copyFrom 61 = .ok (.aload_n 1, 1) := by decide +kernel
theorem dX0_copyFrom_62 : decode cX0_copyFrom 62 = .ok (.getfield 26, 3) := by decide +kernel
theorem dX0_copyFrom_65 : decode cX0_copyFrom 65 = .ok (.invokevirtual 80, 3) := by decide +kernel
theorem dX0_copyFrom_68 : decode cX0_copyFrom 68 = .ok (.aload_n 0, 1) := by decide +kernel
theorem dX0_copyFrom_69 : decode cX0_copyFrom 69 = .ok (.getfield 29, 3) := by decide +kernel
theorem dX0_copyFrom_72 : decode cX0_copyFrom 72 = .ok (.aload_n 1, 1) := by decide +kernel
theorem dX0_copyFrom_73 : decode cX0_copyFrom 73 = .ok (.getfield 29, 3) := by decide +kernel
theorem dX0_copyFrom_76 : decode cX0_copyFrom 76 = .ok (.invokevirtual 80, 3) := by decide +kernel
theorem dX0_copyFrom_79 : decode cX0_copyFrom 79 = .ok (.aload_n 0, 1) := by decide +kernel
theorem dX0_copyFrom_80 : decode cX0_copyFrom 80 = .ok (.getfield 32, 3) := by decide +kernel
theorem dX0_copyFrom_83 : decode cX0_copyFrom 83 = .ok (.aload_n 1, 1) := by decide +kernel
theorem dX0_copyFrom_84 : decode cX0_copyFrom 84 = .ok (.getfield 32, 3) := by decide +kernel
theorem dX0_copyFrom_87 : decode cX0_copyFrom 87 = .ok (.invokevirtual 80, 3) := by decide +kernel
theorem dX0_copyFrom_90 : decode cX0_copyFrom 90 = .ok (.aload_n 0, 1) := by decide +kernel
theorem dX0_copyFrom_91 : decode cX0_copyFrom 91 = .ok (.getfield 35, 3) := by decide +kernel
theorem dX0_copyFrom_94 : decode cX0_copyFrom 94 = .ok (.aload_n 1, 1) := by decide +kernel
theorem dX0_copyFrom_95 : decode cX0_copyFrom 95 = .ok (.getfield 35, 3) := by decide +kernel
theorem dX0_copyFrom_98 : decode cX0_copyFrom 98 = .ok (.invokevirtual 80, 3) := by decide +kernel
theorem dX0_copyFrom_101 : decode cX0_copyFrom 101 = .ok (.return_, 1) := by decide +kernel
theorem e_44 (r : Nat) (a0 : Nat) (ws : ai_W) : ai_Call 44 [.ref r, .ref a0] ws = if ai_isob ws r 0 = true then ai_Run 44 0 [.ref r, .ref a0] [] ws else none := R_entV hk_44 ⟨⟨rfl, rfl⟩, Nat.le_of_ble_eq_true rfl⟩ rfl
theorem r_44_0 (l1 : Value) (a : Nat) (st : List Value) (ws : ai_W) : ai_Run 44 0 [.ref a, l1] st ws = ai_Run 44 1 [.ref a, l1] (.ref a :: st) ws := R_aload_n hc_44 dX0_copyFrom_0 rfl rfl
theorem r_44_1 (l0 : Value) (a : Nat) (st : List Value) (ws : ai_W) : ai_Run 44 1 [l0, .ref a] st ws = ai_Run 44 2 [l0, .ref a] (.ref a :: st) ws := R_aload_n hc_44 dX0_copyFrom_1 rfl rfl
theorem r_44_2 (ls st : List Value) (a : Nat) (ws : ai_W) : ai_Run 44 2 ls (.ref a :: st) ws = (ai_fget ws a 0 0).bind fun q => ai_Run 44 5 ls (q :: st) ws := R_getf hc_44 dX0_copyFrom_2 hv_44 (w := 464) rfl rfl
theorem r_44_5 (ls st : List Value) (a : Nat) (x : Value) (ws : ai_W) : ai_Run 44 5 ls (x :: .ref a :: st) ws = (ai_fput ws a 0 0 x).bind fun ws => ai_Run 44 8 ls st ws := R_putf hc_44 dX0_copyFrom_5 hv_44 (w := 464) rfl rfl rfl
theorem r_44_8 (l1 : Value) (a : Nat) (st : List Value) (ws : ai_W) : ai_Run 44 8 [.ref a, l1] st ws = ai_Run 44 9 [.ref a, l1] (.ref a :: st) ws := R_aload_n hc_44 dX0_copyFrom_8 rfl rfl
theorem r_44_9 (l0 : Value) (a : Nat) (st : List Value) (ws : ai_W) : ai_Run 44 9 [l0, .ref a] st ws = ai_Run 44 10 [l0, .ref a] (.ref a :: st) ws := R_aload_n hc_44 dX0_copyFrom_9 rfl rfl
theorem r_44_10 (ls st : List Value) (a : Nat) (ws : ai_W) : ai_Run 44 10 ls (.ref a :: st) ws = (ai_fget ws a 0 1).bind fun q => ai_Run 44 13 ls (q :: st) ws := R_getf hc_44 dX0_copyFrom_10 hv_44 (w := 469) rfl rfl
theorem r_44_13 (ls st : List Value) (a : Nat) (x : Value) (ws : ai_W) : ai_Run 44 13 ls (x :: .ref a :: st) ws = (ai_fput ws a 0 1 x).bind fun ws => ai_Run 44 16 ls st ws := R_putf hc_44 dX0_copyFrom_13 hv_44 (w := 469) rfl rfl rfl
theorem r_44_16 (l1 : Value) (a : Nat) (st : List Value) (ws : ai_W) : ai_Run 44 16 [.ref a, l1] st ws = ai_Run 44 17 [.ref a, l1] (.ref a :: st) ws := R_aload_n hc_44 dX0_copyFrom_16 rfl rfl
theorem r_44_17 (l0 : Value) (a : Nat) (st : List Value) (ws : ai_W) : ai_Run 44 17 [l0, .ref a] st ws = ai_Run 44 18 [l0, .ref a] (.ref a :: st) ws := R_aload_n hc_44 dX0_copyFrom_17 rfl rfl
theorem r_44_18 (ls st : List Value) (a : Nat) (ws : ai_W) : ai_Run 44 18 ls (.ref a :: st) ws = (ai_fget ws a 0 2).bind fun q => ai_Run 44 21 ls (q :: st) ws := R_getf hc_44 dX0_copyFrom_18 hv_44 (w := 473) rfl rfl
theorem r_44_21 (ls st : List Value) (a : Nat) (x : Value) (ws : ai_W) : ai_Run 44 21 ls (x :: .ref a :: st) ws = (ai_fput ws a 0 2 x).bind fun ws => ai_Run 44 24 ls st ws := R_putf hc_44 dX0_copyFrom_21 hv_44 (w := 473) rfl rfl rfl
theorem r_44_24 (l1 : Value) (a : Nat) (st : List Value) (ws : ai_W) : ai_Run 44 24 [.ref a, l1] st ws = ai_Run 44 25 [.ref a, l1] (.ref a :: st) ws := R_aload_n hc_44 dX0_copyFrom_24 rfl rfl
theorem r_44_25 (ls st : List Value) (a : Nat) (ws : ai_W) : ai_Run 44 25 ls (.ref a :: st) ws = (ai_fget ws a 0 3).bind fun q => ai_Run 44 28 ls (q :: st) ws := R_getf hc_44 dX0_copyFrom_25 hv_44 (w := 475) rfl rfl
theorem r_44_28 (l0 : Value) (a : Nat) (st : List Value) (ws : ai_W) : ai_Run 44 28 [l0, .ref a] st ws = ai_Run 44 29 [l0, .ref a] (.ref a :: st) ws := R_aload_n hc_44 dX0_copyFrom_28 rfl rfl
theorem r_44_29 (ls st : List Value) (a : Nat) (ws : ai_W) : ai_Run 44 29 ls (.ref a :: st) ws = (ai_fget ws a 0 3).bind fun q => ai_Run 44 32 ls (q :: st) ws := R_getf hc_44 dX0_copyFrom_29 hv_44 (w := 475) rfl rfl
theorem r_44_32 (ls : List Value) (r : Nat) (b0 : Nat) (ws : ai_W) : ai_Run 44 32 ls [.ref b0, .ref r] ws = (ai_Call 43 [.ref r, .ref b0] ws).bind fun q => ai_Run 44 35 ls (q.1.toList ++ []) q.2 := R_callV hc_44 dX0_copyFrom_32 hv_44 (w := 70) rfl (ai_lt3 hf_43 hf_44 hL_43 ho_43 ho_44 rfl) hk_43 (by rw [hn_43]; rfl) rfl (Nat.le_of_ble_eq_true rfl) rfl
theorem r_44_35 (l1 : Value) (a : Nat) (st : List Value) (ws : ai_W) : ai_Run 44 35 [.ref a, l1] st ws = ai_Run 44 36 [.ref a, l1] (.ref a :: st) ws := R_aload_n hc_44 dX0_copyFrom_35 rfl rfl
theorem r_44_36 (ls st : List Value) (a : Nat) (ws : ai_W) : ai_Run 44 36 ls (.ref a :: st) ws = (ai_fget ws a 0 4).bind fun q => ai_Run 44 39 ls (q :: st) ws := R_getf hc_44 dX0_copyFrom_36 hv_44 (w := 479) rfl rfl
theorem r_44_39 (l0 : Value) (a : Nat) (st : List Value) (ws : ai_W) : ai_Run 44 39 [l0, .ref a] st ws = ai_Run 44 40 [l0, .ref a] (.ref a :: st) ws := R_aload_n hc_44 dX0_copyFrom_39 rfl rfl
theorem r_44_40 (ls st : List Value) (a : Nat) (ws : ai_W) : ai_Run 44 40 ls (.ref a :: st) ws = (ai_fget ws a 0 4).bind fun q => ai_Run 44 43 ls (q :: st) ws := R_getf hc_44 dX0_copyFrom_40 hv_44 (w := 479) rfl rfl
theorem r_44_43 (ls : List Value) (r : Nat) (b0 : Nat) (ws : ai_W) : ai_Run 44 43 ls [.ref b0, .ref r] ws = (ai_Call 43 [.ref r, .ref b0] ws).bind fun q => ai_Run 44 46 ls (q.1.toList ++ []) q.2 := R_callV hc_44 dX0_copyFrom_43 hv_44 (w := 70) rfl (ai_lt3 hf_43 hf_44 hL_43 ho_43 ho_44 rfl) hk_43 (by rw [hn_43]; rfl) rfl (Nat.le_of_ble_eq_true rfl) rfl
theorem r_44_46 (l1 : Value) (a : Nat) (st : List Value) (ws : ai_W) : ai_Run 44 46 [.ref a, l1] st ws = ai_Run 44 47 [.ref a, l1] (.ref a :: st) ws := R_aload_n hc_44 dX0_copyFrom_46 rfl rfl
theorem r_44_47 (ls st : List Value) (a : Nat) (ws : ai_W) : ai_Run 44 47 ls (.ref a :: st) ws = (ai_fget ws a 0 5).bind fun q => ai_Run 44 50 ls (q :: st) ws := R_getf hc_44 dX0_copyFrom_47 hv_44 (w := 481) rfl rfl
theorem r_44_50 (l0 : Value) (a : Nat) (st : List Value) (ws : ai_W) : ai_Run 44 50 [l0, .ref a] st ws = ai_Run 44 51 [l0, .ref a] (.ref a :: st) ws := R_aload_n hc_44 dX0_copyFrom_50 rfl rfl
theorem r_44_51 (ls st : List Value) (a : Nat) (ws : ai_W) : ai_Run 44 51 ls (.ref a :: st) ws = (ai_fget ws a 0 5).bind fun q => ai_Run 44 54 ls (q :: st) ws := R_getf hc_44 dX0_copyFrom_51 hv_44 (w := 481) rfl rfl
theorem r_44_54 (ls : List Value) (r : Nat) (b0 : Nat) (ws : ai_W) : ai_Run 44 54 ls [.ref b0, .ref r] ws = (ai_Call 43 [.ref r, .ref b0] ws).bind fun q => ai_Run 44 57 ls (q.1.toList ++ []) q.2 := R_callV hc_44 dX0_copyFrom_54 hv_44 (w := 70) rfl (ai_lt3 hf_43 hf_44 hL_43 ho_43 ho_44 rfl) hk_43 (by rw [hn_43]; rfl) rfl (Nat.le_of_ble_eq_true rfl) rfl
theorem r_44_57 (l1 : Value) (a : Nat) (st : List Value) (ws : ai_W) : ai_Run 44 57 [.ref a, l1] st ws = ai_Run 44 58 [.ref a, l1] (.ref a :: st) ws := R_aload_n hc_44 dX0_copyFrom_57 rfl rfl
theorem r_44_58 (ls st : List Value) (a : Nat) (ws : ai_W) : ai_Run 44 58 ls (.ref a :: st) ws = (ai_fget ws a 0 6).bind fun q => ai_Run 44 61 ls (q :: st) ws := R_getf hc_44 dX0_copyFrom_58 hv_44 (w := 482) rfl rfl
theorem r_44_61 (l0 : Value) (a : Nat) (st : List Value) (ws : ai_W) : ai_Run 44 61 [l0, .ref a] st ws = ai_Run 44 62 [l0, .ref a] (.ref a :: st) ws := R_aload_n hc_44 dX0_copyFrom_61 rfl rfl
theorem r_44_62 (ls st : List Value) (a : Nat) (ws : ai_W) : ai_Run 44 62 ls (.ref a :: st) ws = (ai_fget ws a 0 6).bind fun q => ai_Run 44 65 ls (q :: st) ws := R_getf hc_44 dX0_copyFrom_62 hv_44 (w := 482) rfl rfl
theorem r_44_65 (ls : List Value) (r : Nat) (b0 : Nat) (ws : ai_W) : ai_Run 44 65 ls [.ref b0, .ref r] ws = (ai_Call 43 [.ref r, .ref b0] ws).bind fun q => ai_Run 44 68 ls (q.1.toList ++ []) q.2 := R_callV hc_44 dX0_copyFrom_65 hv_44 (w := 70) rfl (ai_lt3 hf_43 hf_44 hL_43 ho_43 ho_44 rfl) hk_43 (by rw [hn_43]; rfl) rfl (Nat.le_of_ble_eq_true rfl) rfl
theorem r_44_68 (l1 : Value) (a : Nat) (st : List Value) (ws : ai_W) : ai_Run 44 68 [.ref a, l1] st ws = ai_Run 44 69 [.ref a, l1] (.ref a :: st) ws := R_aload_n hc_44 dX0_copyFrom_68 rfl rfl
theorem r_44_69 (ls st : List Value) (a : Nat) (ws : ai_W) : ai_Run 44 69 ls (.ref a :: st) ws = (ai_fget ws a 0 7).bind fun q => ai_Run 44 72 ls (q :: st) ws := R_getf hc_44 dX0_copyFrom_69 hv_44 (w := 486) rfl rfl
theorem r_44_72 (l0 : Value) (a : Nat) (st : List Value) (ws : ai_W) : ai_Run 44 72 [l0, .ref a] st ws = ai_Run 44 73 [l0, .ref a] (.ref a :: st) ws := R_aload_n hc_44 dX0_copyFrom_72 rfl rfl
theorem r_44_73 (ls st : List Value) (a : Nat) (ws : ai_W) : ai_Run 44 73 ls (.ref a :: st) ws = (ai_fget ws a 0 7).bind fun q => ai_Run 44 76 ls (q :: st) ws := R_getf hc_44 dX0_copyFrom_73 hv_44 (w := 486) rfl rfl
theorem r_44_76 (ls : List Value) (r : Nat) (b0 : Nat) (ws : ai_W) : ai_Run 44 76 ls [.ref b0, .ref r] ws = (ai_Call 43 [.ref r, .ref b0] ws).bind fun q => ai_Run 44 79 ls (q.1.toList ++ []) q.2 := R_callV hc_44 dX0_copyFrom_76 hv_44 (w := 70) rfl (ai_lt3 hf_43 hf_44 hL_43 ho_43 ho_44 rfl) hk_43 (by rw [hn_43]; rfl) rfl (Nat.le_of_ble_eq_true rfl) rfl
theorem r_44_79 (l1 : Value) (a : Nat) (st : List Value) (ws : ai_W) : ai_Run 44 79 [.ref a, l1] st ws = ai_Run 44 80 [.ref a, l1] (.ref a :: st) ws := R_aload_n hc_44 dX0_copyFrom_79 rfl rfl
theorem r_44_80 (ls st : List Value) (a : Nat) (ws : ai_W) : ai_Run 44 80 ls (.ref a :: st) ws = (ai_fget ws a 0 8).bind fun q => ai_Run 44 83 ls (q :: st) ws := R_getf hc_44 dX0_copyFrom_80 hv_44 (w := 489) rfl rfl
theorem r_44_83 (l0 : Value) (a : Nat) (st : List Value) (ws : ai_W) : ai_Run 44 83 [l0, .ref a] st ws = ai_Run 44 84 [l0, .ref a] (.ref a :: st) ws := R_aload_n hc_44 dX0_copyFrom_83 rfl rfl
theorem r_44_84 (ls st : List Value) (a : Nat) (ws : ai_W) : ai_Run 44 84 ls (.ref a :: st) ws = (ai_fget ws a 0 8).bind fun q => ai_Run 44 87 ls (q :: st) ws := R_getf hc_44 dX0_copyFrom_84 hv_44 (w := 489) rfl rfl
theorem r_44_87 (ls : List Value) (r : Nat) (b0 : Nat) (ws : ai_W) : ai_Run 44 87 ls [.ref b0, .ref r] ws = (ai_Call 43 [.ref r, .ref b0] ws).bind fun q => ai_Run 44 90 ls (q.1.toList ++ []) q.2 := R_callV hc_44 dX0_copyFrom_87 hv_44 (w := 70) rfl (ai_lt3 hf_43 hf_44 hL_43 ho_43 ho_44 rfl) hk_43 (by rw [hn_43]; rfl) rfl (Nat.le_of_ble_eq_true rfl) rfl
theorem r_44_90 (l1 : Value) (a : Nat) (st : List Value) (ws : ai_W) : ai_Run 44 90 [.ref a, l1] st ws = ai_Run 44 91 [.ref a, l1] (.ref a :: st) ws := R_aload_n hc_44 dX0_copyFrom_90 rfl rfl
theorem r_44_91 (ls st : List Value) (a : Nat) (ws : ai_W) : ai_Run 44 91 ls (.ref a :: st) ws = (ai_fget ws a 0 9).bind fun q => ai_Run 44 94 ls (q :: st) ws := R_getf hc_44 dX0_copyFrom_91 hv_44 (w := 491) rfl rfl
theorem r_44_94 (l0 : Value) (a : Nat) (st : List Value) (ws : ai_W) : ai_Run 44 94 [l0, .ref a] st ws = ai_Run 44 95 [l0, .ref a] (.ref a :: st) ws := R_aload_n hc_44 dX0_copyFrom_94 rfl rfl
theorem r_44_95 (ls st : List Value) (a : Nat) (ws : ai_W) : ai_Run 44 95 ls (.ref a :: st) ws = (ai_fget ws a 0 9).bind fun q => ai_Run 44 98 ls (q :: st) ws := R_getf hc_44 dX0_copyFrom_95 hv_44 (w := 491) rfl rfl
theorem r_44_98 (ls : List Value) (r : Nat) (b0 : Nat) (ws : ai_W) : ai_Run 44 98 ls [.ref b0, .ref r] ws = (ai_Call 43 [.ref r, .ref b0] ws).bind fun q => ai_Run 44 101 ls (q.1.toList ++ []) q.2 := R_callV hc_44 dX0_copyFrom_98 hv_44 (w := 70) rfl (ai_lt3 hf_43 hf_44 hL_43 ho_43 ho_44 rfl) hk_43 (by rw [hn_43]; rfl) rfl (Nat.le_of_ble_eq_true rfl) rfl
theorem r_44_101 (ls : List Value) (ws : ai_W) : ai_Run 44 101 ls [] ws = some (none, ws) := R_vret hc_44 dX0_copyFrom_101 ht_44
theorem dX3_keep_0 : decode cX3_keep 0 = .ok (.aload_n 0, 1) := by decide +kernel
theorem dX3_keep_1 : decode cX3_keep 1 = .ok (.aload_n 0, 1) := by decide +kernel
theorem dX3_keep_2 : decode cX3_keep 2 = .ok (.getfield 26, 3) := by decide +kernel
theorem dX3_keep_5 : decode cX3_keep 5 = .ok (.invokevirtual 29, 3) := by decide +kernel
theorem dX3_keep_8 : decode cX3_keep 8 = .ok (.ifCond .eq 16, 3) := by decide +kernel
theorem dX3_keep_11 : decode cX3_keep 11 = .ok (.aload_n 0, 1) := by decide +kernel
theorem dX3_keep_12 : decode cX3_keep 12 = .ok (.getfield 11, 3) := by decide +kernel
theorem dX3_keep_15 : decode cX3_keep 15 = .ok (.aload_n 0, 1) := by decide +kernel
theorem dX3_keep_16 : decode cX3_keep 16 = .ok (.getfield 26, 3) := by decide +kernel
theorem dX3_keep_19 : decode cX3_keep 19 = .ok (.aaload, 1) := by decide +kernel
theorem dX3_keep_20 : decode cX3_keep 20 = .ok (.aload_n 1, 1) := by decide +kernel
theorem dX3_keep_21 : decode cX3_keep 21 = .ok (.invokevirtual 33, 3) := by decide +kernel
theorem dX3_keep_24 : decode cX3_keep 24 = .ok (.return_, 1) := by decide +kernel
theorem e_45 (r : Nat) (a0 : Nat) (ws : ai_W) : ai_Call 45 [.ref r, .ref a0] ws = if ai_isob ws r 3 = true then ai_Run 45 0 [.ref r, .ref a0] [] ws else none := R_entV hk_45 ⟨⟨rfl, rfl⟩, Nat.le_of_ble_eq_true rfl⟩ rfl
theorem r_45_0 (l1 : Value) (a : Nat) (st : List Value) (ws : ai_W) : ai_Run 45 0 [.ref a, l1] st ws = ai_Run 45 1 [.ref a, l1] (.ref a :: st) ws := R_aload_n hc_45 dX3_keep_0 rfl rfl
theorem r_45_1 (l1 : Value) (a : Nat) (st : List Value) (ws : ai_W) : ai_Run 45 1 [.ref a, l1] st ws = ai_Run 45 2 [.ref a, l1] (.ref a :: st) ws := R_aload_n hc_45 dX3_keep_1 rfl rfl
theorem r_45_2 (ls st : List Value) (a : Nat) (ws : ai_W) : ai_Run 45 2 ls (.ref a :: st) ws = (ai_fget ws a 3 2).bind fun q => ai_Run 45 5 ls (q :: st) ws := R_getf hc_45 dX3_keep_2 hv_45 (w := 596) rfl rfl
theorem r_45_5 (ls : List Value) (r : Nat) (b0 : Int32) (ws : ai_W) : ai_Run 45 5 ls [.int b0, .ref r] ws = (ai_Call 41 [.ref r, .int b0] ws).bind fun q => ai_Run 45 8 ls (q.1.toList ++ []) q.2 := R_callV hc_45 dX3_keep_5 hv_45 (w := 61) rfl (ai_lt3 hf_41 hf_45 hL_41 ho_41 ho_45 rfl) hk_41 (by rw [hn_41]; rfl) rfl (Nat.le_of_ble_eq_true rfl) rfl
theorem r_45_8 (ls st : List Value) (a : Int32) (ws : ai_W) : ai_Run 45 8 ls (.int a :: st) ws = if a = 0 then ai_Run 45 24 ls st ws else ai_Run 45 11 ls st ws := R_if_eq hc_45 dX3_keep_8 rfl rfl
theorem r_45_11 (l1 : Value) (a : Nat) (st : List Value) (ws : ai_W) : ai_Run 45 11 [.ref a, l1] st ws = ai_Run 45 12 [.ref a, l1] (.ref a :: st) ws := R_aload_n hc_45 dX3_keep_11 rfl rfl
theorem r_45_12 (ls st : List Value) (a : Nat) (ws : ai_W) : ai_Run 45 12 ls (.ref a :: st) ws = (ai_fget ws a 3 0).bind fun q => ai_Run 45 15 ls (q :: st) ws := R_getf hc_45 dX3_keep_12 hv_45 (w := 594) rfl rfl
theorem r_45_15 (l1 : Value) (a : Nat) (st : List Value) (ws : ai_W) : ai_Run 45 15 [.ref a, l1] st ws = ai_Run 45 16 [.ref a, l1] (.ref a :: st) ws := R_aload_n hc_45 dX3_keep_15 rfl rfl
theorem r_45_16 (ls st : List Value) (a : Nat) (ws : ai_W) : ai_Run 45 16 ls (.ref a :: st) ws = (ai_fget ws a 3 2).bind fun q => ai_Run 45 19 ls (q :: st) ws := R_getf hc_45 dX3_keep_16 hv_45 (w := 596) rfl rfl
theorem r_45_19 (ls st : List Value) (a : Nat) (i : Int32) (ws : ai_W) : ai_Run 45 19 ls (.int i :: .ref a :: st) ws = (ai_qget ws a i).bind fun q => ai_Run 45 20 ls (q :: st) ws := R_aaload hc_45 dX3_keep_19 rfl
theorem r_45_20 (l0 : Value) (a : Nat) (st : List Value) (ws : ai_W) : ai_Run 45 20 [l0, .ref a] st ws = ai_Run 45 21 [l0, .ref a] (.ref a :: st) ws := R_aload_n hc_45 dX3_keep_20 rfl rfl
theorem r_45_21 (ls : List Value) (r : Nat) (b0 : Nat) (ws : ai_W) : ai_Run 45 21 ls [.ref b0, .ref r] ws = (ai_Call 44 [.ref r, .ref b0] ws).bind fun q => ai_Run 45 24 ls (q.1.toList ++ []) q.2 := R_callV hc_45 dX3_keep_21 hv_45 (w := 66) rfl (ai_lt3 hf_44 hf_45 hL_44 ho_44 ho_45 rfl) hk_44 (by rw [hn_44]; rfl) rfl (Nat.le_of_ble_eq_true rfl) rfl
theorem r_45_24 (ls : List Value) (ws : ai_W) : ai_Run 45 24 ls [] ws = some (none, ws) := R_vret hc_45 dX3_keep_24 ht_45
theorem dX7_refuse_0 : decode cX7_refuse 0 = .ok (.aload_n 0, 1) := by decide +kernel
theorem dX7_refuse_1 : decode cX7_refuse 1 = .ok (.iload_n 1, 1) := by decide +kernel
theorem dX7_refuse_2 : decode cX7_refuse 2 = .ok (.putfield 15, 3) := by decide +kernel
theorem dX7_refuse_5 : decode cX7_refuse 5 = .ok (.aload_n 0, 1) := by decide +kernel
theorem dX7_refuse_6 : decode cX7_refuse 6 = .ok (.iload_n 2, 1) := by decide +kernel
theorem dX7_refuse_7 : decode cX7_refuse 7 = .ok (.putfield 18, 3) := by decide +kernel
theorem dX7_refuse_10 : decode cX7_refuse 10 = .ok (.aload_n 0, 1) := by decide +kernel
theorem dX7_refuse_11 : decode cX7_refuse 11 = .ok (.aload_n 0, 1) := by decide +kernel
theorem dX7_refuse_12 : decode cX7_refuse 12 = .ok (.getfield 9, 3) := by decide +kernel
theorem dX7_refuse_15 : decode cX7_refuse 15 = .ok (.putfield 21, 3) := by decide +kernel
theorem dX7_refuse_18 : decode cX7_refuse 18 = .ok (.bipush (-3), 2) := by decide +kernel
theorem dX7_refuse_20 : decode cX7_refuse 20 = .ok (.ireturn, 1) := by decide +kernel
theorem e_47 (r : Nat) (a0 : Int32) (a1 : Int32) (ws : ai_W) : ai_Call 47 [.ref r, .int a0, .int a1] ws = if ai_isob ws r 7 = true then ai_Run 47 0 [.ref r, .int a0, .int a1] [] ws else none := R_entV hk_47 ⟨⟨rfl, rfl⟩, Nat.le_of_ble_eq_true rfl⟩ rfl
theorem r_47_0 (l1 l2 : Value) (a : Nat) (st : List Value) (ws : ai_W) : ai_Run 47 0 [.ref a, l1, l2] st ws = ai_Run 47 1 [.ref a, l1, l2] (.ref a :: st) ws := R_aload_n hc_47 dX7_refuse_0 rfl rfl
theorem r_47_1 (l0 l2 : Value) (a : Int32) (st : List Value) (ws : ai_W) : ai_Run 47 1 [l0, .int a, l2] st ws = ai_Run 47 2 [l0, .int a, l2] (.int a :: st) ws := R_iload_n hc_47 dX7_refuse_1 rfl rfl
theorem r_47_2 (ls st : List Value) (a : Nat) (x : Value) (ws : ai_W) : ai_Run 47 2 ls (x :: .ref a :: st) ws = (ai_fput ws a 7 1 x).bind fun ws => ai_Run 47 5 ls st ws := R_putf hc_47 dX7_refuse_2 hv_47 (w := 542) rfl rfl rfl
theorem r_47_5 (l1 l2 : Value) (a : Nat) (st : List Value) (ws : ai_W) : ai_Run 47 5 [.ref a, l1, l2] st ws = ai_Run 47 6 [.ref a, l1, l2] (.ref a :: st) ws := R_aload_n hc_47 dX7_refuse_5 rfl rfl
theorem r_47_6 (l0 l1 : Value) (a : Int32) (st : List Value) (ws : ai_W) : ai_Run 47 6 [l0, l1, .int a] st ws = ai_Run 47 7 [l0, l1, .int a] (.int a :: st) ws := R_iload_n hc_47 dX7_refuse_6 rfl rfl
theorem r_47_7 (ls st : List Value) (a : Nat) (x : Value) (ws : ai_W) : ai_Run 47 7 ls (x :: .ref a :: st) ws = (ai_fput ws a 7 2 x).bind fun ws => ai_Run 47 10 ls st ws := R_putf hc_47 dX7_refuse_7 hv_47 (w := 543) rfl rfl rfl
theorem r_47_10 (l1 l2 : Value) (a : Nat) (st : List Value) (ws : ai_W) : ai_Run 47 10 [.ref a, l1, l2] st ws = ai_Run 47 11 [.ref a, l1, l2] (.ref a :: st) ws := R_aload_n hc_47 dX7_refuse_10 rfl rfl
theorem r_47_11 (l1 l2 : Value) (a : Nat) (st : List Value) (ws : ai_W) : ai_Run 47 11 [.ref a, l1, l2] st ws = ai_Run 47 12 [.ref a, l1, l2] (.ref a :: st) ws := R_aload_n hc_47 dX7_refuse_11 rfl rfl
theorem r_47_12 (ls st : List Value) (a : Nat) (ws : ai_W) : ai_Run 47 12 ls (.ref a :: st) ws = (ai_fget ws a 7 0).bind fun q => ai_Run 47 15 ls (q :: st) ws := R_getf hc_47 dX7_refuse_12 hv_47 (w := 541) rfl rfl
theorem r_47_15 (ls st : List Value) (a : Nat) (x : Value) (ws : ai_W) : ai_Run 47 15 ls (x :: .ref a :: st) ws = (ai_fput ws a 7 3 x).bind fun ws => ai_Run 47 18 ls st ws := R_putf hc_47 dX7_refuse_15 hv_47 (w := 544) rfl rfl rfl
theorem r_47_18 (ls st : List Value) (ws : ai_W) : ai_Run 47 18 ls st ws = ai_Run 47 20 ls (.int (-3) :: st) ws := R_bipush hc_47 dX7_refuse_18 (by decide) rfl
theorem r_47_20 (ls : List Value) (x : Int32) (ws : ai_W) : ai_Run 47 20 ls [.int x] ws = some (some (.int x), ws) := R_iret hc_47 dX7_refuse_20 ht_47
theorem dX1_addAuthor_0 : decode cX1_addAuthor 0 = .ok (.aload_n 0, 1) := by decide +kernel
theorem dX1_addAuthor_1 : decode cX1_addAuthor 1 = .ok (.getfield 9, 3) := by decide +kernel
theorem dX1_addAuthor_4 : decode cX1_addAuthor 4 = .ok (.getfield 39, 3) := by decide +kernel
theorem dX1_addAuthor_7 : decode cX1_addAuthor 7 = .ok (.istore_n 1, 1) := by decide +kernel
theorem dX1_addAuthor_8 : decode cX1_addAuthor 8 = .ok (.iload_n 1, 1) := by decide +kernel
theorem dX1_addAuthor_9 : decode cX1_addAuthor 9 = .ok (.iconst 4, 1) := by decide +kernel
theorem dX1_addAuthor_10 : decode cX1_addAuthor 10 = .ok (.if_icmp .lt 13, 3) := by decide +kernel
theorem dX1_addAuthor_13 : decode cX1_addAuthor 13 = .ok (.aload_n 0, 1) := by decide +kernel
theorem dX1_addAuthor_14 : decode cX1_addAuthor 14 = .ok (.getfield 23, 3) := by decide +kernel
theorem dX1_addAuthor_17 : decode cX1_addAuthor 17 = .ok (.iconst 1, 1) := by decide +kernel
theorem dX1_addAuthor_18 : decode cX1_addAuthor 18 = .ok (.iload_n 1, 1) := by decide +kernel
theorem dX1_addAuthor_19 : decode cX1_addAuthor 19 = .ok (.invokevirtual 33, 3) := by decide +kernel
theorem dX1_addAuthor_22 : decode cX1_addAuthor 22 = .ok (.ireturn, 1) := by decide +kernel
theorem dX1_addAuthor_23 : decode cX1_addAuthor 23 = .ok (.aload_n 0, 1) := by decide +kernel
theorem dX1_addAuthor_24 : decode cX1_addAuthor 24 = .ok (.getfield 9, 3) := by decide +kernel
theorem dX1_addAuthor_27 : decode cX1_addAuthor 27 = .ok (.iload_n 1, 1) := by decide +kernel
theorem dX1_addAuthor_28 : decode cX1_addAuthor 28 = .ok (.iconst 1, 1) := by decide +kernel
theorem dX1_addAuthor_29 : decode cX1_addAuthor 29 = .ok (.iadd, 1) := by decide +kernel
theorem dX1_addAuthor_30 : decode cX1_addAuthor 30 = .ok (.putfield 39, 3) := by decide +kernel
theorem dX1_addAuthor_33 : decode cX1_addAuthor 33 = .ok (.iload_n 1, 1) := by decide +kernel
theorem dX1_addAuthor_34 : decode cX1_addAuthor 34 = .ok (.ireturn, 1) := by decide +kernel
theorem e_48 (r : Nat)  (ws : ai_W) : ai_Call 48 [.ref r] ws = if ai_isob ws r 1 = true then ai_Run 48 0 [.ref r, .null] [] ws else none := R_entV hk_48 ⟨⟨rfl, rfl⟩, Nat.le_of_ble_eq_true rfl⟩ rfl
theorem r_48_0 (l1 : Value) (a : Nat) (st : List Value) (ws : ai_W) : ai_Run 48 0 [.ref a, l1] st ws = ai_Run 48 1 [.ref a, l1] (.ref a :: st) ws := R_aload_n hc_48 dX1_addAuthor_0 rfl rfl
theorem r_48_1 (ls st : List Value) (a : Nat) (ws : ai_W) : ai_Run 48 1 ls (.ref a :: st) ws = (ai_fget ws a 1 0).bind fun q => ai_Run 48 4 ls (q :: st) ws := R_getf hc_48 dX1_addAuthor_1 hv_48 (w := 573) rfl rfl
theorem r_48_4 (ls st : List Value) (a : Nat) (ws : ai_W) : ai_Run 48 4 ls (.ref a :: st) ws = (ai_fget ws a 0 1).bind fun q => ai_Run 48 7 ls (q :: st) ws := R_getf hc_48 dX1_addAuthor_4 hv_48 (w := 468) rfl rfl
theorem r_48_7 (l0 l1 : Value) (a : Int32) (st : List Value) (ws : ai_W) : ai_Run 48 7 [l0, l1] (.int a :: st) ws = ai_Run 48 8 [l0, .int a] st ws := R_istore_n hc_48 dX1_addAuthor_7 (Nat.le_of_ble_eq_true rfl) rfl rfl
theorem r_48_8 (l0 : Value) (a : Int32) (st : List Value) (ws : ai_W) : ai_Run 48 8 [l0, .int a] st ws = ai_Run 48 9 [l0, .int a] (.int a :: st) ws := R_iload_n hc_48 dX1_addAuthor_8 rfl rfl
theorem r_48_9 (ls st : List Value) (ws : ai_W) : ai_Run 48 9 ls st ws = ai_Run 48 10 ls (.int 4 :: st) ws := R_iconst hc_48 dX1_addAuthor_9 (by decide) rfl
theorem r_48_10 (ls st : List Value) (a b : Int32) (ws : ai_W) : ai_Run 48 10 ls (.int b :: .int a :: st) ws = if a < b then ai_Run 48 23 ls st ws else ai_Run 48 13 ls st ws := R_cmp_lt hc_48 dX1_addAuthor_10 rfl rfl
theorem r_48_13 (l1 : Value) (a : Nat) (st : List Value) (ws : ai_W) : ai_Run 48 13 [.ref a, l1] st ws = ai_Run 48 14 [.ref a, l1] (.ref a :: st) ws := R_aload_n hc_48 dX1_addAuthor_13 rfl rfl
theorem r_48_14 (ls st : List Value) (a : Nat) (ws : ai_W) : ai_Run 48 14 ls (.ref a :: st) ws = (ai_fget ws a 1 3).bind fun q => ai_Run 48 17 ls (q :: st) ws := R_getf hc_48 dX1_addAuthor_14 hv_48 (w := 576) rfl rfl
theorem r_48_17 (ls st : List Value) (ws : ai_W) : ai_Run 48 17 ls st ws = ai_Run 48 18 ls (.int 1 :: st) ws := R_iconst hc_48 dX1_addAuthor_17 (by decide) rfl
theorem r_48_18 (l0 : Value) (a : Int32) (st : List Value) (ws : ai_W) : ai_Run 48 18 [l0, .int a] st ws = ai_Run 48 19 [l0, .int a] (.int a :: st) ws := R_iload_n hc_48 dX1_addAuthor_18 rfl rfl
theorem r_48_19 (ls : List Value) (r : Nat) (b0 : Int32) (b1 : Int32) (ws : ai_W) : ai_Run 48 19 ls [.int b1, .int b0, .ref r] ws = (ai_Call 47 [.ref r, .int b0, .int b1] ws).bind fun q => ai_Run 48 22 ls (q.1.toList ++ []) q.2 := R_callV hc_48 dX1_addAuthor_19 hv_48 (w := 84) rfl (ai_lt3 hf_47 hf_48 hL_47 ho_47 ho_48 rfl) hk_47 (by rw [hn_47]; rfl) rfl (Nat.le_of_ble_eq_true rfl) rfl
theorem r_48_22 (ls : List Value) (x : Int32) (ws : ai_W) : ai_Run 48 22 ls [.int x] ws = some (some (.int x), ws) := R_iret hc_48 dX1_addAuthor_22 ht_48
theorem r_48_23 (l1 : Value) (a : Nat) (st : List Value) (ws : ai_W) : ai_Run 48 23 [.ref a, l1] st ws = ai_Run 48 24 [.ref a, l1] (.ref a :: st) ws := R_aload_n hc_48 dX1_addAuthor_23 rfl rfl
theorem r_48_24 (ls st : List Value) (a : Nat) (ws : ai_W) : ai_Run 48 24 ls (.ref a :: st) ws = (ai_fget ws a 1 0).bind fun q => ai_Run 48 27 ls (q :: st) ws := R_getf hc_48 dX1_addAuthor_24 hv_48 (w := 573) rfl rfl
theorem r_48_27 (l0 : Value) (a : Int32) (st : List Value) (ws : ai_W) : ai_Run 48 27 [l0, .int a] st ws = ai_Run 48 28 [l0, .int a] (.int a :: st) ws := R_iload_n hc_48 dX1_addAuthor_27 rfl rfl
theorem r_48_28 (ls st : List Value) (ws : ai_W) : ai_Run 48 28 ls st ws = ai_Run 48 29 ls (.int 1 :: st) ws := R_iconst hc_48 dX1_addAuthor_28 (by decide) rfl
theorem r_48_29 (ls st : List Value) (a b : Int32) (ws : ai_W) : ai_Run 48 29 ls (.int b :: .int a :: st) ws = ai_Run 48 30 ls (.int (a + b) :: st) ws := R_iadd hc_48 dX1_addAuthor_29 rfl
theorem r_48_30 (ls st : List Value) (a : Nat) (x : Value) (ws : ai_W) : ai_Run 48 30 ls (x :: .ref a :: st) ws = (ai_fput ws a 0 1 x).bind fun ws => ai_Run 48 33 ls st ws := R_putf hc_48 dX1_addAuthor_30 hv_48 (w := 468) rfl rfl rfl
theorem r_48_33 (l0 : Value) (a : Int32) (st : List Value) (ws : ai_W) : ai_Run 48 33 [l0, .int a] st ws = ai_Run 48 34 [l0, .int a] (.int a :: st) ws := R_iload_n hc_48 dX1_addAuthor_33 rfl rfl
theorem r_48_34 (ls : List Value) (x : Int32) (ws : ai_W) : ai_Run 48 34 ls [.int x] ws = some (some (.int x), ws) := R_iret hc_48 dX1_addAuthor_34 ht_48
theorem dX3_confirm_0 : decode cX3_confirm 0 = .ok (.aload_n 0, 1) := by decide +kernel
theorem dX3_confirm_1 : decode cX3_confirm 1 = .ok (.aload_n 0, 1) := by decide +kernel
theorem dX3_confirm_2 : decode cX3_confirm 2 = .ok (.getfield 26, 3) := by decide +kernel
theorem dX3_confirm_5 : decode cX3_confirm 5 = .ok (.bipush 8, 2) := by decide +kernel
theorem dX3_confirm_7 : decode cX3_confirm 7 = .ok (.if_icmp .ge 12, 3) := by decide +kernel
theorem dX3_confirm_10 : decode cX3_confirm 10 = .ok (.aload_n 0, 1) := by decide +kernel
theorem dX3_confirm_11 : decode cX3_confirm 11 = .ok (.getfield 26, 3) := by decide +kernel
theorem dX3_confirm_14 : decode cX3_confirm 14 = .ok (.iconst 1, 1) := by decide +kernel
theorem dX3_confirm_15 : decode cX3_confirm 15 = .ok (.iadd, 1) := by decide +kernel
theorem dX3_confirm_16 : decode cX3_confirm 16 = .ok (.goto 4, 3) := by decide +kernel
theorem dX3_confirm_19 : decode cX3_confirm 19 = .ok (.iconst 0, 1) := by decide +kernel
theorem dX3_confirm_20 : decode cX3_confirm 20 = .ok (.putfield 26, 3) := by decide +kernel
theorem dX3_confirm_23 : decode cX3_confirm 23 = .ok (.aload_n 0, 1) := by decide +kernel
theorem dX3_confirm_24 : decode cX3_confirm 24 = .ok (.aload_n 0, 1) := by decide +kernel
theorem dX3_confirm_25 : decode cX3_confirm 25 = .ok (.getfield 22, 3) := by decide +kernel
theorem dX3_confirm_28 : decode cX3_confirm 28 = .ok (.iconst 1, 1) := by decide +kernel
theorem dX3_confirm_29 : decode cX3_confirm 29 = .ok (.iadd, 1) := by decide +kernel
theorem dX3_confirm_30 : decode cX3_confirm 30 = .ok (.bipush 8, 2) := by decide +kernel
theorem dX3_confirm_32 : decode cX3_confirm 32 = .ok (.invokestatic 37, 3) := by decide +kernel
theorem dX3_confirm_35 : decode cX3_confirm 35 = .ok (.putfield 22, 3) := by decide +kernel
theorem dX3_confirm_38 : decode cX3_confirm 38 = .ok (.return_, 1) := by decide +kernel
theorem e_50 (r : Nat)  (ws : ai_W) : ai_Call 50 [.ref r] ws = if ai_isob ws r 3 = true then ai_Run 50 0 [.ref r] [] ws else none := R_entV hk_50 ⟨⟨rfl, rfl⟩, Nat.le_of_ble_eq_true rfl⟩ rfl
theorem r_50_0 (a : Nat) (st : List Value) (ws : ai_W) : ai_Run 50 0 [.ref a] st ws = ai_Run 50 1 [.ref a] (.ref a :: st) ws := R_aload_n hc_50 dX3_confirm_0 rfl rfl
theorem r_50_1 (a : Nat) (st : List Value) (ws : ai_W) : ai_Run 50 1 [.ref a] st ws = ai_Run 50 2 [.ref a] (.ref a :: st) ws := R_aload_n hc_50 dX3_confirm_1 rfl rfl
theorem r_50_2 (ls st : List Value) (a : Nat) (ws : ai_W) : ai_Run 50 2 ls (.ref a :: st) ws = (ai_fget ws a 3 2).bind fun q => ai_Run 50 5 ls (q :: st) ws := R_getf hc_50 dX3_confirm_2 hv_50 (w := 596) rfl rfl
theorem r_50_5 (ls st : List Value) (ws : ai_W) : ai_Run 50 5 ls st ws = ai_Run 50 7 ls (.int 8 :: st) ws := R_bipush hc_50 dX3_confirm_5 (by decide) rfl
theorem r_50_7 (ls st : List Value) (a b : Int32) (ws : ai_W) : ai_Run 50 7 ls (.int b :: .int a :: st) ws = if a < b then ai_Run 50 10 ls st ws else ai_Run 50 19 ls st ws := R_cmp_ge hc_50 dX3_confirm_7 rfl rfl
theorem r_50_10 (a : Nat) (st : List Value) (ws : ai_W) : ai_Run 50 10 [.ref a] st ws = ai_Run 50 11 [.ref a] (.ref a :: st) ws := R_aload_n hc_50 dX3_confirm_10 rfl rfl
theorem r_50_11 (ls st : List Value) (a : Nat) (ws : ai_W) : ai_Run 50 11 ls (.ref a :: st) ws = (ai_fget ws a 3 2).bind fun q => ai_Run 50 14 ls (q :: st) ws := R_getf hc_50 dX3_confirm_11 hv_50 (w := 596) rfl rfl
theorem r_50_14 (ls st : List Value) (ws : ai_W) : ai_Run 50 14 ls st ws = ai_Run 50 15 ls (.int 1 :: st) ws := R_iconst hc_50 dX3_confirm_14 (by decide) rfl
theorem r_50_15 (ls st : List Value) (a b : Int32) (ws : ai_W) : ai_Run 50 15 ls (.int b :: .int a :: st) ws = ai_Run 50 16 ls (.int (a + b) :: st) ws := R_iadd hc_50 dX3_confirm_15 rfl
theorem r_50_16 (ls st : List Value) (ws : ai_W) : ai_Run 50 16 ls st ws = ai_Run 50 20 ls st ws := R_goto hc_50 dX3_confirm_16 rfl
theorem r_50_19 (ls st : List Value) (ws : ai_W) : ai_Run 50 19 ls st ws = ai_Run 50 20 ls (.int 0 :: st) ws := R_iconst hc_50 dX3_confirm_19 (by decide) rfl
theorem r_50_20 (ls st : List Value) (a : Nat) (x : Value) (ws : ai_W) : ai_Run 50 20 ls (x :: .ref a :: st) ws = (ai_fput ws a 3 2 x).bind fun ws => ai_Run 50 23 ls st ws := R_putf hc_50 dX3_confirm_20 hv_50 (w := 596) rfl rfl rfl
theorem r_50_23 (a : Nat) (st : List Value) (ws : ai_W) : ai_Run 50 23 [.ref a] st ws = ai_Run 50 24 [.ref a] (.ref a :: st) ws := R_aload_n hc_50 dX3_confirm_23 rfl rfl
theorem r_50_24 (a : Nat) (st : List Value) (ws : ai_W) : ai_Run 50 24 [.ref a] st ws = ai_Run 50 25 [.ref a] (.ref a :: st) ws := R_aload_n hc_50 dX3_confirm_24 rfl rfl
theorem r_50_25 (ls st : List Value) (a : Nat) (ws : ai_W) : ai_Run 50 25 ls (.ref a :: st) ws = (ai_fget ws a 3 3).bind fun q => ai_Run 50 28 ls (q :: st) ws := R_getf hc_50 dX3_confirm_25 hv_50 (w := 597) rfl rfl
theorem r_50_28 (ls st : List Value) (ws : ai_W) : ai_Run 50 28 ls st ws = ai_Run 50 29 ls (.int 1 :: st) ws := R_iconst hc_50 dX3_confirm_28 (by decide) rfl
theorem r_50_29 (ls st : List Value) (a b : Int32) (ws : ai_W) : ai_Run 50 29 ls (.int b :: .int a :: st) ws = ai_Run 50 30 ls (.int (a + b) :: st) ws := R_iadd hc_50 dX3_confirm_29 rfl
theorem r_50_30 (ls st : List Value) (ws : ai_W) : ai_Run 50 30 ls st ws = ai_Run 50 32 ls (.int 8 :: st) ws := R_bipush hc_50 dX3_confirm_30 (by decide) rfl
theorem r_50_32 (ls : List Value) (b0 : Int32) (b1 : Int32) (s0 : Value) (ws : ai_W) : ai_Run 50 32 ls [.int b1, .int b0, s0] ws = (ai_Call 42 [.int b0, .int b1] ws).bind fun q => ai_Run 50 35 ls (q.1.toList ++ [s0]) q.2 := R_callS hc_50 dX3_confirm_32 hv_50 (w := 99) rfl (ai_lt3 hf_42 hf_50 hL_42 ho_42 ho_50 rfl) hk_42 (by rw [hn_42]; rfl) rfl (Nat.le_of_ble_eq_true rfl) rfl
theorem r_50_35 (ls st : List Value) (a : Nat) (x : Value) (ws : ai_W) : ai_Run 50 35 ls (x :: .ref a :: st) ws = (ai_fput ws a 3 3 x).bind fun ws => ai_Run 50 38 ls st ws := R_putf hc_50 dX3_confirm_35 hv_50 (w := 597) rfl rfl rfl
theorem r_50_38 (ls : List Value) (ws : ai_W) : ai_Run 50 38 ls [] ws = some (none, ws) := R_vret hc_50 dX3_confirm_38 ht_50
theorem dX0_deathChapter_0 : decode cX0_deathChapter 0 = .ok (.aload_n 0, 1) := by decide +kernel
theorem dX0_deathChapter_1 : decode cX0_deathChapter 1 = .ok (.getfield 20, 3) := by decide +kernel
theorem dX0_deathChapter_4 : decode cX0_deathChapter 4 = .ok (.iload_n 1, 1) := by decide +kernel
theorem dX0_deathChapter_5 : decode cX0_deathChapter 5 = .ok (.bipush 6, 2) := by decide +kernel
theorem dX0_deathChapter_7 : decode cX0_deathChapter 7 = .ok (.imul, 1) := by decide +kernel
theorem dX0_deathChapter_8 : decode cX0_deathChapter 8 = .ok (.iconst 2, 1) := by decide +kernel
theorem dX0_deathChapter_9 : decode cX0_deathChapter 9 = .ok (.iload_n 2, 1) := by decide +kernel
theorem dX0_deathChapter_10 : decode cX0_deathChapter 10 = .ok (.imul, 1) := by decide +kernel
theorem dX0_deathChapter_11 : decode cX0_deathChapter 11 = .ok (.iadd, 1) := by decide +kernel
theorem dX0_deathChapter_12 : decode cX0_deathChapter 12 = .ok (.invokevirtual 57, 3) := by decide +kernel
theorem dX0_deathChapter_15 : decode cX0_deathChapter 15 = .ok (.ireturn, 1) := by decide +kernel
theorem e_53 (r : Nat) (a0 : Int32) (a1 : Int32) (ws : ai_W) : ai_Call 53 [.ref r, .int a0, .int a1] ws = if ai_isob ws r 0 = true then ai_Run 53 0 [.ref r, .int a0, .int a1] [] ws else none := R_entV hk_53 ⟨⟨rfl, rfl⟩, Nat.le_of_ble_eq_true rfl⟩ rfl
theorem r_53_0 (l1 l2 : Value) (a : Nat) (st : List Value) (ws : ai_W) : ai_Run 53 0 [.ref a, l1, l2] st ws = ai_Run 53 1 [.ref a, l1, l2] (.ref a :: st) ws := R_aload_n hc_53 dX0_deathChapter_0 rfl rfl
theorem r_53_1 (ls st : List Value) (a : Nat) (ws : ai_W) : ai_Run 53 1 ls (.ref a :: st) ws = (ai_fget ws a 0 4).bind fun q => ai_Run 53 4 ls (q :: st) ws := R_getf hc_53 dX0_deathChapter_1 hv_53 (w := 479) rfl rfl
theorem r_53_4 (l0 l2 : Value) (a : Int32) (st : List Value) (ws : ai_W) : ai_Run 53 4 [l0, .int a, l2] st ws = ai_Run 53 5 [l0, .int a, l2] (.int a :: st) ws := R_iload_n hc_53 dX0_deathChapter_4 rfl rfl
theorem r_53_5 (ls st : List Value) (ws : ai_W) : ai_Run 53 5 ls st ws = ai_Run 53 7 ls (.int 6 :: st) ws := R_bipush hc_53 dX0_deathChapter_5 (by decide) rfl
theorem r_53_7 (ls st : List Value) (a b : Int32) (ws : ai_W) : ai_Run 53 7 ls (.int b :: .int a :: st) ws = ai_Run 53 8 ls (.int (a * b) :: st) ws := R_imul hc_53 dX0_deathChapter_7 rfl
theorem r_53_8 (ls st : List Value) (ws : ai_W) : ai_Run 53 8 ls st ws = ai_Run 53 9 ls (.int 2 :: st) ws := R_iconst hc_53 dX0_deathChapter_8 (by decide) rfl
theorem r_53_9 (l0 l1 : Value) (a : Int32) (st : List Value) (ws : ai_W) : ai_Run 53 9 [l0, l1, .int a] st ws = ai_Run 53 10 [l0, l1, .int a] (.int a :: st) ws := R_iload_n hc_53 dX0_deathChapter_9 rfl rfl
theorem r_53_10 (ls st : List Value) (a b : Int32) (ws : ai_W) : ai_Run 53 10 ls (.int b :: .int a :: st) ws = ai_Run 53 11 ls (.int (a * b) :: st) ws := R_imul hc_53 dX0_deathChapter_10 rfl
theorem r_53_11 (ls st : List Value) (a b : Int32) (ws : ai_W) : ai_Run 53 11 ls (.int b :: .int a :: st) ws = ai_Run 53 12 ls (.int (a + b) :: st) ws := R_iadd hc_53 dX0_deathChapter_11 rfl
theorem r_53_12 (ls : List Value) (r : Nat) (b0 : Int32) (ws : ai_W) : ai_Run 53 12 ls [.int b0, .ref r] ws = (ai_Call 12 [.ref r, .int b0] ws).bind fun q => ai_Run 53 15 ls (q.1.toList ++ []) q.2 := R_callV hc_53 dX0_deathChapter_12 hv_53 (w := 119) rfl (ai_lt3 hf_12 hf_53 hL_12 ho_12 ho_53 rfl) hk_12 (by rw [hn_12]; rfl) rfl (Nat.le_of_ble_eq_true rfl) rfl
theorem r_53_15 (ls : List Value) (x : Int32) (ws : ai_W) : ai_Run 53 15 ls [.int x] ws = some (some (.int x), ws) := R_iret hc_53 dX0_deathChapter_15 ht_53
theorem dX2_isDeathBy_0 : decode cX2_isDeathBy 0 = .ok (.aload_n 0, 1) := by decide +kernel
theorem dX2_isDeathBy_1 : decode cX2_isDeathBy 1 = .ok (.getfield 20, 3) := by decide +kernel
theorem dX2_isDeathBy_4 : decode cX2_isDeathBy 4 = .ok (.getfield 51, 3) := by decide +kernel
theorem dX2_isDeathBy_7 : decode cX2_isDeathBy 7 = .ok (.aload_n 0, 1) := by decide +kernel
theorem dX2_isDeathBy_8 : decode cX2_isDeathBy 8 = .ok (.getfield 20, 3) := by decide +kernel
theorem dX2_isDeathBy_11 : decode cX2_isDeathBy 11 = .ok (.iload_n 2, 1) := by decide +kernel
theorem dX2_isDeathBy_12 : decode cX2_isDeathBy 12 = .ok (.iload_n 3, 1) := by decide +kernel
theorem dX2_isDeathBy_13 : decode cX2_isDeathBy 13 = .ok (.invokevirtual 34, 3) := by decide +kernel
theorem dX2_isDeathBy_16 : decode cX2_isDeathBy 16 = .ok (.invokevirtual 54, 3) := by decide +kernel
theorem dX2_isDeathBy_19 : decode cX2_isDeathBy 19 = .ok (.iload_n 1, 1) := by decide +kernel
theorem dX2_isDeathBy_20 : decode cX2_isDeathBy 20 = .ok (.if_icmp .ne 7, 3) := by decide +kernel
theorem dX2_isDeathBy_23 : decode cX2_isDeathBy 23 = .ok (.iconst 1, 1) := by decide +kernel
theorem dX2_isDeathBy_24 : decode cX2_isDeathBy 24 = .ok (.goto 4, 3) := by decide +kernel
theorem dX2_isDeathBy_27 : decode cX2_isDeathBy 27 = .ok (.iconst 0, 1) := by decide +kernel
theorem dX2_isDeathBy_28 : decode cX2_isDeathBy 28 = .ok (.ireturn, 1) := by decide +kernel
theorem e_54 (r : Nat) (a0 : Int32) (a1 : Int32) (a2 : Int32) (ws : ai_W) : ai_Call 54 [.ref r, .int a0, .int a1, .int a2] ws = if ai_isob ws r 2 = true then ai_Run 54 0 [.ref r, .int a0, .int a1, .int a2] [] ws else none := R_entV hk_54 ⟨⟨rfl, rfl⟩, Nat.le_of_ble_eq_true rfl⟩ rfl
theorem r_54_0 (l1 l2 l3 : Value) (a : Nat) (st : List Value) (ws : ai_W) : ai_Run 54 0 [.ref a, l1, l2, l3] st ws = ai_Run 54 1 [.ref a, l1, l2, l3] (.ref a :: st) ws := R_aload_n hc_54 dX2_isDeathBy_0 rfl rfl
theorem r_54_1 (ls st : List Value) (a : Nat) (ws : ai_W) : ai_Run 54 1 ls (.ref a :: st) ws = (ai_fget ws a 2 0).bind fun q => ai_Run 54 4 ls (q :: st) ws := R_getf hc_54 dX2_isDeathBy_1 hv_54 (w := 561) rfl rfl
theorem r_54_4 (ls st : List Value) (a : Nat) (ws : ai_W) : ai_Run 54 4 ls (.ref a :: st) ws = (ai_fget ws a 0 6).bind fun q => ai_Run 54 7 ls (q :: st) ws := R_getf hc_54 dX2_isDeathBy_4 hv_54 (w := 483) rfl rfl
theorem r_54_7 (l1 l2 l3 : Value) (a : Nat) (st : List Value) (ws : ai_W) : ai_Run 54 7 [.ref a, l1, l2, l3] st ws = ai_Run 54 8 [.ref a, l1, l2, l3] (.ref a :: st) ws := R_aload_n hc_54 dX2_isDeathBy_7 rfl rfl
theorem r_54_8 (ls st : List Value) (a : Nat) (ws : ai_W) : ai_Run 54 8 ls (.ref a :: st) ws = (ai_fget ws a 2 0).bind fun q => ai_Run 54 11 ls (q :: st) ws := R_getf hc_54 dX2_isDeathBy_8 hv_54 (w := 561) rfl rfl
theorem r_54_11 (l0 l1 l3 : Value) (a : Int32) (st : List Value) (ws : ai_W) : ai_Run 54 11 [l0, l1, .int a, l3] st ws = ai_Run 54 12 [l0, l1, .int a, l3] (.int a :: st) ws := R_iload_n hc_54 dX2_isDeathBy_11 rfl rfl
theorem r_54_12 (l0 l1 l2 : Value) (a : Int32) (st : List Value) (ws : ai_W) : ai_Run 54 12 [l0, l1, l2, .int a] st ws = ai_Run 54 13 [l0, l1, l2, .int a] (.int a :: st) ws := R_iload_n hc_54 dX2_isDeathBy_12 rfl rfl
theorem r_54_13 (ls : List Value) (r : Nat) (b0 : Int32) (b1 : Int32) (s0 : Value) (ws : ai_W) : ai_Run 54 13 ls [.int b1, .int b0, .ref r, s0] ws = (ai_Call 53 [.ref r, .int b0, .int b1] ws).bind fun q => ai_Run 54 16 ls (q.1.toList ++ [s0]) q.2 := R_callV hc_54 dX2_isDeathBy_13 hv_54 (w := 284) rfl (ai_lt3 hf_53 hf_54 hL_53 ho_53 ho_54 rfl) hk_53 (by rw [hn_53]; rfl) rfl (Nat.le_of_ble_eq_true rfl) rfl
theorem r_54_16 (ls : List Value) (r : Nat) (b0 : Int32) (ws : ai_W) : ai_Run 54 16 ls [.int b0, .ref r] ws = (ai_Call 12 [.ref r, .int b0] ws).bind fun q => ai_Run 54 19 ls (q.1.toList ++ []) q.2 := R_callV hc_54 dX2_isDeathBy_16 hv_54 (w := 301) rfl (ai_lt3 hf_12 hf_54 hL_12 ho_12 ho_54 rfl) hk_12 (by rw [hn_12]; rfl) rfl (Nat.le_of_ble_eq_true rfl) rfl
theorem r_54_19 (l0 l2 l3 : Value) (a : Int32) (st : List Value) (ws : ai_W) : ai_Run 54 19 [l0, .int a, l2, l3] st ws = ai_Run 54 20 [l0, .int a, l2, l3] (.int a :: st) ws := R_iload_n hc_54 dX2_isDeathBy_19 rfl rfl
theorem r_54_20 (ls st : List Value) (a b : Int32) (ws : ai_W) : ai_Run 54 20 ls (.int b :: .int a :: st) ws = if a = b then ai_Run 54 23 ls st ws else ai_Run 54 27 ls st ws := R_cmp_ne hc_54 dX2_isDeathBy_20 rfl rfl
theorem r_54_23 (ls st : List Value) (ws : ai_W) : ai_Run 54 23 ls st ws = ai_Run 54 24 ls (.int 1 :: st) ws := R_iconst hc_54 dX2_isDeathBy_23 (by decide) rfl
theorem r_54_24 (ls st : List Value) (ws : ai_W) : ai_Run 54 24 ls st ws = ai_Run 54 28 ls st ws := R_goto hc_54 dX2_isDeathBy_24 rfl
theorem r_54_27 (ls st : List Value) (ws : ai_W) : ai_Run 54 27 ls st ws = ai_Run 54 28 ls (.int 0 :: st) ws := R_iconst hc_54 dX2_isDeathBy_27 (by decide) rfl
theorem r_54_28 (ls : List Value) (x : Int32) (ws : ai_W) : ai_Run 54 28 ls [.int x] ws = if ai_pb x = true then some (some (.int x), ws) else none := R_zret hc_54 dX2_isDeathBy_28 ht_54
theorem dX2_deathsBy_0 : decode cX2_deathsBy 0 = .ok (.iconst 0, 1) := by decide +kernel
theorem dX2_deathsBy_1 : decode cX2_deathsBy 1 = .ok (.istore_n 2, 1) := by decide +kernel
theorem dX2_deathsBy_2 : decode cX2_deathsBy 2 = .ok (.iconst 0, 1) := by decide +kernel
theorem dX2_deathsBy_3 : decode cX2_deathsBy 3 = .ok (.istore_n 3, 1) := by decide +kernel
theorem dX2_deathsBy_4 : decode cX2_deathsBy 4 = .ok (.iload_n 3, 1) := by decide +kernel
theorem dX2_deathsBy_5 : decode cX2_deathsBy 5 = .ok (.aload_n 0, 1) := by decide +kernel
theorem dX2_deathsBy_6 : decode cX2_deathsBy 6 = .ok (.getfield 20, 3) := by decide +kernel
theorem dX2_deathsBy_9 : decode cX2_deathsBy 9 = .ok (.getfield 41, 3) := by decide +kernel
theorem dX2_deathsBy_12 : decode cX2_deathsBy 12 = .ok (.if_icmp .ge 45, 3) := by decide +kernel
theorem dX2_deathsBy_15 : decode cX2_deathsBy 15 = .ok (.iconst 0, 1) := by decide +kernel
theorem dX2_deathsBy_16 : decode cX2_deathsBy 16 = .ok (.istore 4, 2) := by decide +kernel
theorem dX2_deathsBy_18 : decode cX2_deathsBy 18 = .ok (.iload 4, 2) := by decide +kernel
theorem dX2_deathsBy_20 : decode cX2_deathsBy 20 = .ok (.aload_n 0, 1) := by decide +kernel
theorem dX2_deathsBy_21 : decode cX2_deathsBy 21 = .ok (.getfield 20, 3) := by decide +kernel
theorem dX2_deathsBy_24 : decode cX2_deathsBy 24 = .ok (.iload_n 3, 1) := by decide +kernel
theorem dX2_deathsBy_25 : decode cX2_deathsBy 25 = .ok (.invokevirtual 24, 3) := by decide +kernel
theorem dX2_deathsBy_28 : decode cX2_deathsBy 28 = .ok (.if_icmp .ge 23, 3) := by decide +kernel
theorem dX2_deathsBy_31 : decode cX2_deathsBy 31 = .ok (.aload_n 0, 1) := by decide +kernel
theorem dX2_deathsBy_32 : decode cX2_deathsBy 32 = .ok (.iload_n 1, 1) := by decide +kernel
theorem dX2_deathsBy_33 : decode cX2_deathsBy 33 = .ok (.iload_n 3, 1) := by decide +kernel
theorem dX2_deathsBy_34 : decode cX2_deathsBy 34 = .ok (.iload 4, 2) := by decide +kernel
theorem dX2_deathsBy_36 : decode cX2_deathsBy 36 = .ok (.invokevirtual 60, 3) := by decide +kernel
theorem dX2_deathsBy_39 : decode cX2_deathsBy 39 = .ok (.ifCond .eq 6, 3) := by decide +kernel
theorem dX2_deathsBy_42 : decode cX2_deathsBy 42 = .ok (.iinc 2 1, 3) := by decide +kernel
theorem dX2_deathsBy_45 : decode cX2_deathsBy 45 = .ok (.iinc 4 1, 3) := by decide +kernel
theorem dX2_deathsBy_48 : decode cX2_deathsBy 48 = .ok (.goto (-30), 3) := by decide +kernel
theorem dX2_deathsBy_51 : decode cX2_deathsBy 51 = .ok (.iinc 3 1, 3) := by decide +kernel
theorem dX2_deathsBy_54 : decode cX2_deathsBy 54 = .ok (.goto (-50), 3) := by decide +kernel
theorem dX2_deathsBy_57 : decode cX2_deathsBy 57 = .ok (.iload_n 2, 1) := by decide +kernel
theorem dX2_deathsBy_58 : decode cX2_deathsBy 58 = .ok (.ireturn, 1) := by decide +kernel
theorem e_55 (r : Nat) (a0 : Int32) (ws : ai_W) : ai_Call 55 [.ref r, .int a0] ws = if ai_isob ws r 2 = true then ai_Run 55 0 [.ref r, .int a0, .null, .null, .null] [] ws else none := R_entV hk_55 ⟨⟨rfl, rfl⟩, Nat.le_of_ble_eq_true rfl⟩ rfl
theorem r_55_0 (ls st : List Value) (ws : ai_W) : ai_Run 55 0 ls st ws = ai_Run 55 1 ls (.int 0 :: st) ws := R_iconst hc_55 dX2_deathsBy_0 (by decide) rfl
theorem r_55_1 (l0 l1 l2 l3 l4 : Value) (a : Int32) (st : List Value) (ws : ai_W) : ai_Run 55 1 [l0, l1, l2, l3, l4] (.int a :: st) ws = ai_Run 55 2 [l0, l1, .int a, l3, l4] st ws := R_istore_n hc_55 dX2_deathsBy_1 (Nat.le_of_ble_eq_true rfl) rfl rfl
theorem r_55_2 (ls st : List Value) (ws : ai_W) : ai_Run 55 2 ls st ws = ai_Run 55 3 ls (.int 0 :: st) ws := R_iconst hc_55 dX2_deathsBy_2 (by decide) rfl
theorem r_55_3 (l0 l1 l2 l3 l4 : Value) (a : Int32) (st : List Value) (ws : ai_W) : ai_Run 55 3 [l0, l1, l2, l3, l4] (.int a :: st) ws = ai_Run 55 4 [l0, l1, l2, .int a, l4] st ws := R_istore_n hc_55 dX2_deathsBy_3 (Nat.le_of_ble_eq_true rfl) rfl rfl
theorem r_55_4 (l0 l1 l2 l4 : Value) (a : Int32) (st : List Value) (ws : ai_W) : ai_Run 55 4 [l0, l1, l2, .int a, l4] st ws = ai_Run 55 5 [l0, l1, l2, .int a, l4] (.int a :: st) ws := R_iload_n hc_55 dX2_deathsBy_4 rfl rfl
theorem r_55_5 (l1 l2 l3 l4 : Value) (a : Nat) (st : List Value) (ws : ai_W) : ai_Run 55 5 [.ref a, l1, l2, l3, l4] st ws = ai_Run 55 6 [.ref a, l1, l2, l3, l4] (.ref a :: st) ws := R_aload_n hc_55 dX2_deathsBy_5 rfl rfl
theorem r_55_6 (ls st : List Value) (a : Nat) (ws : ai_W) : ai_Run 55 6 ls (.ref a :: st) ws = (ai_fget ws a 2 0).bind fun q => ai_Run 55 9 ls (q :: st) ws := R_getf hc_55 dX2_deathsBy_6 hv_55 (w := 561) rfl rfl
theorem r_55_9 (ls st : List Value) (a : Nat) (ws : ai_W) : ai_Run 55 9 ls (.ref a :: st) ws = (ai_fget ws a 0 0).bind fun q => ai_Run 55 12 ls (q :: st) ws := R_getf hc_55 dX2_deathsBy_9 hv_55 (w := 466) rfl rfl
theorem r_55_12 (ls st : List Value) (a b : Int32) (ws : ai_W) : ai_Run 55 12 ls (.int b :: .int a :: st) ws = if a < b then ai_Run 55 15 ls st ws else ai_Run 55 57 ls st ws := R_cmp_ge hc_55 dX2_deathsBy_12 rfl rfl
theorem r_55_15 (ls st : List Value) (ws : ai_W) : ai_Run 55 15 ls st ws = ai_Run 55 16 ls (.int 0 :: st) ws := R_iconst hc_55 dX2_deathsBy_15 (by decide) rfl
theorem r_55_16 (l0 l1 l2 l3 l4 : Value) (a : Int32) (st : List Value) (ws : ai_W) : ai_Run 55 16 [l0, l1, l2, l3, l4] (.int a :: st) ws = ai_Run 55 18 [l0, l1, l2, l3, .int a] st ws := R_istore hc_55 dX2_deathsBy_16 (Nat.le_of_ble_eq_true rfl) rfl rfl
theorem r_55_18 (l0 l1 l2 l3 : Value) (a : Int32) (st : List Value) (ws : ai_W) : ai_Run 55 18 [l0, l1, l2, l3, .int a] st ws = ai_Run 55 20 [l0, l1, l2, l3, .int a] (.int a :: st) ws := R_iload hc_55 dX2_deathsBy_18 rfl rfl
theorem r_55_20 (l1 l2 l3 l4 : Value) (a : Nat) (st : List Value) (ws : ai_W) : ai_Run 55 20 [.ref a, l1, l2, l3, l4] st ws = ai_Run 55 21 [.ref a, l1, l2, l3, l4] (.ref a :: st) ws := R_aload_n hc_55 dX2_deathsBy_20 rfl rfl
theorem r_55_21 (ls st : List Value) (a : Nat) (ws : ai_W) : ai_Run 55 21 ls (.ref a :: st) ws = (ai_fget ws a 2 0).bind fun q => ai_Run 55 24 ls (q :: st) ws := R_getf hc_55 dX2_deathsBy_21 hv_55 (w := 561) rfl rfl
theorem r_55_24 (l0 l1 l2 l4 : Value) (a : Int32) (st : List Value) (ws : ai_W) : ai_Run 55 24 [l0, l1, l2, .int a, l4] st ws = ai_Run 55 25 [l0, l1, l2, .int a, l4] (.int a :: st) ws := R_iload_n hc_55 dX2_deathsBy_24 rfl rfl
theorem r_55_25 (ls : List Value) (r : Nat) (b0 : Int32) (s0 : Value) (ws : ai_W) : ai_Run 55 25 ls [.int b0, .ref r, s0] ws = (ai_Call 13 [.ref r, .int b0] ws).bind fun q => ai_Run 55 28 ls (q.1.toList ++ [s0]) q.2 := R_callV hc_55 dX2_deathsBy_25 hv_55 (w := 275) rfl (ai_lt3 hf_13 hf_55 hL_13 ho_13 ho_55 rfl) hk_13 (by rw [hn_13]; rfl) rfl (Nat.le_of_ble_eq_true rfl) rfl
theorem r_55_28 (ls st : List Value) (a b : Int32) (ws : ai_W) : ai_Run 55 28 ls (.int b :: .int a :: st) ws = if a < b then ai_Run 55 31 ls st ws else ai_Run 55 51 ls st ws := R_cmp_ge hc_55 dX2_deathsBy_28 rfl rfl
theorem r_55_31 (l1 l2 l3 l4 : Value) (a : Nat) (st : List Value) (ws : ai_W) : ai_Run 55 31 [.ref a, l1, l2, l3, l4] st ws = ai_Run 55 32 [.ref a, l1, l2, l3, l4] (.ref a :: st) ws := R_aload_n hc_55 dX2_deathsBy_31 rfl rfl
theorem r_55_32 (l0 l2 l3 l4 : Value) (a : Int32) (st : List Value) (ws : ai_W) : ai_Run 55 32 [l0, .int a, l2, l3, l4] st ws = ai_Run 55 33 [l0, .int a, l2, l3, l4] (.int a :: st) ws := R_iload_n hc_55 dX2_deathsBy_32 rfl rfl
theorem r_55_33 (l0 l1 l2 l4 : Value) (a : Int32) (st : List Value) (ws : ai_W) : ai_Run 55 33 [l0, l1, l2, .int a, l4] st ws = ai_Run 55 34 [l0, l1, l2, .int a, l4] (.int a :: st) ws := R_iload_n hc_55 dX2_deathsBy_33 rfl rfl
theorem r_55_34 (l0 l1 l2 l3 : Value) (a : Int32) (st : List Value) (ws : ai_W) : ai_Run 55 34 [l0, l1, l2, l3, .int a] st ws = ai_Run 55 36 [l0, l1, l2, l3, .int a] (.int a :: st) ws := R_iload hc_55 dX2_deathsBy_34 rfl rfl
theorem r_55_36 (ls : List Value) (r : Nat) (b0 : Int32) (b1 : Int32) (b2 : Int32) (ws : ai_W) : ai_Run 55 36 ls [.int b2, .int b1, .int b0, .ref r] ws = (ai_Call 54 [.ref r, .int b0, .int b1, .int b2] ws).bind fun q => ai_Run 55 39 ls (q.1.toList ++ []) q.2 := R_callV hc_55 dX2_deathsBy_36 hv_55 (w := 297) rfl (ai_lt3 hf_54 hf_55 hL_54 ho_54 ho_55 rfl) hk_54 (by rw [hn_54]; rfl) rfl (Nat.le_of_ble_eq_true rfl) rfl
theorem r_55_39 (ls st : List Value) (a : Int32) (ws : ai_W) : ai_Run 55 39 ls (.int a :: st) ws = if a = 0 then ai_Run 55 45 ls st ws else ai_Run 55 42 ls st ws := R_if_eq hc_55 dX2_deathsBy_39 rfl rfl
theorem r_55_42 (l0 l1 l3 l4 : Value) (a : Int32) (st : List Value) (ws : ai_W) : ai_Run 55 42 [l0, l1, .int a, l3, l4] st ws = ai_Run 55 45 [l0, l1, .int (a + 1), l3, l4] st ws := R_iinc hc_55 dX2_deathsBy_42 rfl (by decide) rfl rfl
theorem r_55_45 (l0 l1 l2 l3 : Value) (a : Int32) (st : List Value) (ws : ai_W) : ai_Run 55 45 [l0, l1, l2, l3, .int a] st ws = ai_Run 55 48 [l0, l1, l2, l3, .int (a + 1)] st ws := R_iinc hc_55 dX2_deathsBy_45 rfl (by decide) rfl rfl
theorem r_55_48 (ls st : List Value) (ws : ai_W) : ai_Run 55 48 ls st ws = ai_Run 55 18 ls st ws := R_goto hc_55 dX2_deathsBy_48 rfl
theorem r_55_51 (l0 l1 l2 l4 : Value) (a : Int32) (st : List Value) (ws : ai_W) : ai_Run 55 51 [l0, l1, l2, .int a, l4] st ws = ai_Run 55 54 [l0, l1, l2, .int (a + 1), l4] st ws := R_iinc hc_55 dX2_deathsBy_51 rfl (by decide) rfl rfl
theorem r_55_54 (ls st : List Value) (ws : ai_W) : ai_Run 55 54 ls st ws = ai_Run 55 4 ls st ws := R_goto hc_55 dX2_deathsBy_54 rfl
theorem r_55_57 (l0 l1 l3 l4 : Value) (a : Int32) (st : List Value) (ws : ai_W) : ai_Run 55 57 [l0, l1, .int a, l3, l4] st ws = ai_Run 55 58 [l0, l1, .int a, l3, l4] (.int a :: st) ws := R_iload_n hc_55 dX2_deathsBy_57 rfl rfl
theorem r_55_58 (ls : List Value) (x : Int32) (ws : ai_W) : ai_Run 55 58 ls [.int x] ws = some (some (.int x), ws) := R_iret hc_55 dX2_deathsBy_58 ht_55
theorem dX2_solvedDeathsBy_0 : decode cX2_solvedDeathsBy 0 = .ok (.iconst 0, 1) := by decide +kernel
theorem dX2_solvedDeathsBy_1 : decode cX2_solvedDeathsBy 1 = .ok (.istore_n 2, 1) := by decide +kernel
theorem dX2_solvedDeathsBy_2 : decode cX2_solvedDeathsBy 2 = .ok (.iconst 0, 1) := by decide +kernel
theorem dX2_solvedDeathsBy_3 : decode cX2_solvedDeathsBy 3 = .ok (.istore_n 3, 1) := by decide +kernel
theorem dX2_solvedDeathsBy_4 : decode cX2_solvedDeathsBy 4 = .ok (.iload_n 3, 1) := by decide +kernel
theorem dX2_solvedDeathsBy_5 : decode cX2_solvedDeathsBy 5 = .ok (.aload_n 0, 1) := by decide +kernel
theorem dX2_solvedDeathsBy_6 : decode cX2_solvedDeathsBy 6 = .ok (.getfield 20, 3) := by decide +kernel
theorem dX2_solvedDeathsBy_9 : decode cX2_solvedDeathsBy 9 = .ok (.getfield 41, 3) := by decide +kernel
theorem dX2_solvedDeathsBy_12 : decode cX2_solvedDeathsBy 12 = .ok (.if_icmp .ge 58, 3) := by decide +kernel
theorem dX2_solvedDeathsBy_15 : decode cX2_solvedDeathsBy 15 = .ok (.iconst 0, 1) := by decide +kernel
theorem dX2_solvedDeathsBy_16 : decode cX2_solvedDeathsBy 16 = .ok (.istore 4, 2) := by decide +kernel
theorem dX2_solvedDeathsBy_18 : decode cX2_solvedDeathsBy 18 = .ok (.iload 4, 2) := by decide +kernel
theorem dX2_solvedDeathsBy_20 : decode cX2_solvedDeathsBy 20 = .ok (.aload_n 0, 1) := by decide +kernel
theorem dX2_solvedDeathsBy_21 : decode cX2_solvedDeathsBy 21 = .ok (.getfield 20, 3) := by decide +kernel
theorem dX2_solvedDeathsBy_24 : decode cX2_solvedDeathsBy 24 = .ok (.iload_n 3, 1) := by decide +kernel
theorem dX2_solvedDeathsBy_25 : decode cX2_solvedDeathsBy 25 = .ok (.invokevirtual 24, 3) := by decide +kernel
theorem dX2_solvedDeathsBy_28 : decode cX2_solvedDeathsBy 28 = .ok (.if_icmp .ge 36, 3) := by decide +kernel
theorem dX2_solvedDeathsBy_31 : decode cX2_solvedDeathsBy 31 = .ok (.aload_n 0, 1) := by decide +kernel
theorem dX2_solvedDeathsBy_32 : decode cX2_solvedDeathsBy 32 = .ok (.iload_n 1, 1) := by decide +kernel
theorem dX2_solvedDeathsBy_33 : decode cX2_solvedDeathsBy 33 = .ok (.iload_n 3, 1) := by decide +kernel
theorem dX2_solvedDeathsBy_34 : decode cX2_solvedDeathsBy 34 = .ok (.iload 4, 2) := by decide +kernel
theorem dX2_solvedDeathsBy_36 : decode cX2_solvedDeathsBy 36 = .ok (.invokevirtual 60, 3) := by decide +kernel
theorem dX2_solvedDeathsBy_39 : decode cX2_solvedDeathsBy 39 = .ok (.ifCond .eq 19, 3) := by decide +kernel
theorem dX2_solvedDeathsBy_42 : decode cX2_solvedDeathsBy 42 = .ok (.aload_n 0, 1) := by decide +kernel
theorem dX2_solvedDeathsBy_43 : decode cX2_solvedDeathsBy 43 = .ok (.getfield 20, 3) := by decide +kernel
theorem dX2_solvedDeathsBy_46 : decode cX2_solvedDeathsBy 46 = .ok (.iload_n 3, 1) := by decide +kernel
theorem dX2_solvedDeathsBy_47 : decode cX2_solvedDeathsBy 47 = .ok (.iload 4, 2) := by decide +kernel
theorem dX2_solvedDeathsBy_49 : decode cX2_solvedDeathsBy 49 = .ok (.invokevirtual 37, 3) := by decide +kernel
theorem dX2_solvedDeathsBy_52 : decode cX2_solvedDeathsBy 52 = .ok (.ifCond .eq 6, 3) := by decide +kernel
theorem dX2_solvedDeathsBy_55 : decode cX2_solvedDeathsBy 55 = .ok (.iinc 2 1, 3) := by decide +kernel
theorem dX2_solvedDeathsBy_58 : decode cX2_solvedDeathsBy 58 = .ok (.iinc 4 1, 3) := by decide +kernel
theorem dX2_solvedDeathsBy_61 : decode cX2_solvedDeathsBy 61 = .ok (.goto (-43), 3) := by decide +kernel
theorem dX2_solvedDeathsBy_64 : decode cX2_solvedDeathsBy 64 = .ok (.iinc 3 1, 3) := by decide +kernel
theorem dX2_solvedDeathsBy_67 : decode cX2_solvedDeathsBy 67 = .ok (.goto (-63), 3) := by decide +kernel
theorem dX2_solvedDeathsBy_70 : decode cX2_solvedDeathsBy 70 = .ok (.iload_n 2, 1) := by decide +kernel
theorem dX2_solvedDeathsBy_71 : decode cX2_solvedDeathsBy 71 = .ok (.ireturn, 1) := by decide +kernel
theorem e_56 (r : Nat) (a0 : Int32) (ws : ai_W) : ai_Call 56 [.ref r, .int a0] ws = if ai_isob ws r 2 = true then ai_Run 56 0 [.ref r, .int a0, .null, .null, .null] [] ws else none := R_entV hk_56 ⟨⟨rfl, rfl⟩, Nat.le_of_ble_eq_true rfl⟩ rfl
theorem r_56_0 (ls st : List Value) (ws : ai_W) : ai_Run 56 0 ls st ws = ai_Run 56 1 ls (.int 0 :: st) ws := R_iconst hc_56 dX2_solvedDeathsBy_0 (by decide) rfl
theorem r_56_1 (l0 l1 l2 l3 l4 : Value) (a : Int32) (st : List Value) (ws : ai_W) : ai_Run 56 1 [l0, l1, l2, l3, l4] (.int a :: st) ws = ai_Run 56 2 [l0, l1, .int a, l3, l4] st ws := R_istore_n hc_56 dX2_solvedDeathsBy_1 (Nat.le_of_ble_eq_true rfl) rfl rfl
theorem r_56_2 (ls st : List Value) (ws : ai_W) : ai_Run 56 2 ls st ws = ai_Run 56 3 ls (.int 0 :: st) ws := R_iconst hc_56 dX2_solvedDeathsBy_2 (by decide) rfl
theorem r_56_3 (l0 l1 l2 l3 l4 : Value) (a : Int32) (st : List Value) (ws : ai_W) : ai_Run 56 3 [l0, l1, l2, l3, l4] (.int a :: st) ws = ai_Run 56 4 [l0, l1, l2, .int a, l4] st ws := R_istore_n hc_56 dX2_solvedDeathsBy_3 (Nat.le_of_ble_eq_true rfl) rfl rfl
theorem r_56_4 (l0 l1 l2 l4 : Value) (a : Int32) (st : List Value) (ws : ai_W) : ai_Run 56 4 [l0, l1, l2, .int a, l4] st ws = ai_Run 56 5 [l0, l1, l2, .int a, l4] (.int a :: st) ws := R_iload_n hc_56 dX2_solvedDeathsBy_4 rfl rfl
theorem r_56_5 (l1 l2 l3 l4 : Value) (a : Nat) (st : List Value) (ws : ai_W) : ai_Run 56 5 [.ref a, l1, l2, l3, l4] st ws = ai_Run 56 6 [.ref a, l1, l2, l3, l4] (.ref a :: st) ws := R_aload_n hc_56 dX2_solvedDeathsBy_5 rfl rfl
theorem r_56_6 (ls st : List Value) (a : Nat) (ws : ai_W) : ai_Run 56 6 ls (.ref a :: st) ws = (ai_fget ws a 2 0).bind fun q => ai_Run 56 9 ls (q :: st) ws := R_getf hc_56 dX2_solvedDeathsBy_6 hv_56 (w := 561) rfl rfl
theorem r_56_9 (ls st : List Value) (a : Nat) (ws : ai_W) : ai_Run 56 9 ls (.ref a :: st) ws = (ai_fget ws a 0 0).bind fun q => ai_Run 56 12 ls (q :: st) ws := R_getf hc_56 dX2_solvedDeathsBy_9 hv_56 (w := 466) rfl rfl
theorem r_56_12 (ls st : List Value) (a b : Int32) (ws : ai_W) : ai_Run 56 12 ls (.int b :: .int a :: st) ws = if a < b then ai_Run 56 15 ls st ws else ai_Run 56 70 ls st ws := R_cmp_ge hc_56 dX2_solvedDeathsBy_12 rfl rfl
theorem r_56_15 (ls st : List Value) (ws : ai_W) : ai_Run 56 15 ls st ws = ai_Run 56 16 ls (.int 0 :: st) ws := R_iconst hc_56 dX2_solvedDeathsBy_15 (by decide) rfl
theorem r_56_16 (l0 l1 l2 l3 l4 : Value) (a : Int32) (st : List Value) (ws : ai_W) : ai_Run 56 16 [l0, l1, l2, l3, l4] (.int a :: st) ws = ai_Run 56 18 [l0, l1, l2, l3, .int a] st ws := R_istore hc_56 dX2_solvedDeathsBy_16 (Nat.le_of_ble_eq_true rfl) rfl rfl
theorem r_56_18 (l0 l1 l2 l3 : Value) (a : Int32) (st : List Value) (ws : ai_W) : ai_Run 56 18 [l0, l1, l2, l3, .int a] st ws = ai_Run 56 20 [l0, l1, l2, l3, .int a] (.int a :: st) ws := R_iload hc_56 dX2_solvedDeathsBy_18 rfl rfl
theorem r_56_20 (l1 l2 l3 l4 : Value) (a : Nat) (st : List Value) (ws : ai_W) : ai_Run 56 20 [.ref a, l1, l2, l3, l4] st ws = ai_Run 56 21 [.ref a, l1, l2, l3, l4] (.ref a :: st) ws := R_aload_n hc_56 dX2_solvedDeathsBy_20 rfl rfl
theorem r_56_21 (ls st : List Value) (a : Nat) (ws : ai_W) : ai_Run 56 21 ls (.ref a :: st) ws = (ai_fget ws a 2 0).bind fun q => ai_Run 56 24 ls (q :: st) ws := R_getf hc_56 dX2_solvedDeathsBy_21 hv_56 (w := 561) rfl rfl
theorem r_56_24 (l0 l1 l2 l4 : Value) (a : Int32) (st : List Value) (ws : ai_W) : ai_Run 56 24 [l0, l1, l2, .int a, l4] st ws = ai_Run 56 25 [l0, l1, l2, .int a, l4] (.int a :: st) ws := R_iload_n hc_56 dX2_solvedDeathsBy_24 rfl rfl
theorem r_56_25 (ls : List Value) (r : Nat) (b0 : Int32) (s0 : Value) (ws : ai_W) : ai_Run 56 25 ls [.int b0, .ref r, s0] ws = (ai_Call 13 [.ref r, .int b0] ws).bind fun q => ai_Run 56 28 ls (q.1.toList ++ [s0]) q.2 := R_callV hc_56 dX2_solvedDeathsBy_25 hv_56 (w := 275) rfl (ai_lt3 hf_13 hf_56 hL_13 ho_13 ho_56 rfl) hk_13 (by rw [hn_13]; rfl) rfl (Nat.le_of_ble_eq_true rfl) rfl
theorem r_56_28 (ls st : List Value) (a b : Int32) (ws : ai_W) : ai_Run 56 28 ls (.int b :: .int a :: st) ws = if a < b then ai_Run 56 31 ls st ws else ai_Run 56 64 ls st ws := R_cmp_ge hc_56 dX2_solvedDeathsBy_28 rfl rfl
theorem r_56_31 (l1 l2 l3 l4 : Value) (a : Nat) (st : List Value) (ws : ai_W) : ai_Run 56 31 [.ref a, l1, l2, l3, l4] st ws = ai_Run 56 32 [.ref a, l1, l2, l3, l4] (.ref a :: st) ws := R_aload_n hc_56 dX2_solvedDeathsBy_31 rfl rfl
theorem r_56_32 (l0 l2 l3 l4 : Value) (a : Int32) (st : List Value) (ws : ai_W) : ai_Run 56 32 [l0, .int a, l2, l3, l4] st ws = ai_Run 56 33 [l0, .int a, l2, l3, l4] (.int a :: st) ws := R_iload_n hc_56 dX2_solvedDeathsBy_32 rfl rfl
theorem r_56_33 (l0 l1 l2 l4 : Value) (a : Int32) (st : List Value) (ws : ai_W) : ai_Run 56 33 [l0, l1, l2, .int a, l4] st ws = ai_Run 56 34 [l0, l1, l2, .int a, l4] (.int a :: st) ws := R_iload_n hc_56 dX2_solvedDeathsBy_33 rfl rfl
theorem r_56_34 (l0 l1 l2 l3 : Value) (a : Int32) (st : List Value) (ws : ai_W) : ai_Run 56 34 [l0, l1, l2, l3, .int a] st ws = ai_Run 56 36 [l0, l1, l2, l3, .int a] (.int a :: st) ws := R_iload hc_56 dX2_solvedDeathsBy_34 rfl rfl
theorem r_56_36 (ls : List Value) (r : Nat) (b0 : Int32) (b1 : Int32) (b2 : Int32) (ws : ai_W) : ai_Run 56 36 ls [.int b2, .int b1, .int b0, .ref r] ws = (ai_Call 54 [.ref r, .int b0, .int b1, .int b2] ws).bind fun q => ai_Run 56 39 ls (q.1.toList ++ []) q.2 := R_callV hc_56 dX2_solvedDeathsBy_36 hv_56 (w := 297) rfl (ai_lt3 hf_54 hf_56 hL_54 ho_54 ho_56 rfl) hk_54 (by rw [hn_54]; rfl) rfl (Nat.le_of_ble_eq_true rfl) rfl
theorem r_56_39 (ls st : List Value) (a : Int32) (ws : ai_W) : ai_Run 56 39 ls (.int a :: st) ws = if a = 0 then ai_Run 56 58 ls st ws else ai_Run 56 42 ls st ws := R_if_eq hc_56 dX2_solvedDeathsBy_39 rfl rfl
theorem r_56_42 (l1 l2 l3 l4 : Value) (a : Nat) (st : List Value) (ws : ai_W) : ai_Run 56 42 [.ref a, l1, l2, l3, l4] st ws = ai_Run 56 43 [.ref a, l1, l2, l3, l4] (.ref a :: st) ws := R_aload_n hc_56 dX2_solvedDeathsBy_42 rfl rfl
theorem r_56_43 (ls st : List Value) (a : Nat) (ws : ai_W) : ai_Run 56 43 ls (.ref a :: st) ws = (ai_fget ws a 2 0).bind fun q => ai_Run 56 46 ls (q :: st) ws := R_getf hc_56 dX2_solvedDeathsBy_43 hv_56 (w := 561) rfl rfl
theorem r_56_46 (l0 l1 l2 l4 : Value) (a : Int32) (st : List Value) (ws : ai_W) : ai_Run 56 46 [l0, l1, l2, .int a, l4] st ws = ai_Run 56 47 [l0, l1, l2, .int a, l4] (.int a :: st) ws := R_iload_n hc_56 dX2_solvedDeathsBy_46 rfl rfl
theorem r_56_47 (l0 l1 l2 l3 : Value) (a : Int32) (st : List Value) (ws : ai_W) : ai_Run 56 47 [l0, l1, l2, l3, .int a] st ws = ai_Run 56 49 [l0, l1, l2, l3, .int a] (.int a :: st) ws := R_iload hc_56 dX2_solvedDeathsBy_47 rfl rfl
theorem r_56_49 (ls : List Value) (r : Nat) (b0 : Int32) (b1 : Int32) (ws : ai_W) : ai_Run 56 49 ls [.int b1, .int b0, .ref r] ws = (ai_Call 18 [.ref r, .int b0, .int b1] ws).bind fun q => ai_Run 56 52 ls (q.1.toList ++ []) q.2 := R_callV hc_56 dX2_solvedDeathsBy_49 hv_56 (w := 366) rfl (ai_lt3 hf_18 hf_56 hL_18 ho_18 ho_56 rfl) hk_18 (by rw [hn_18]; rfl) rfl (Nat.le_of_ble_eq_true rfl) rfl
theorem r_56_52 (ls st : List Value) (a : Int32) (ws : ai_W) : ai_Run 56 52 ls (.int a :: st) ws = if a = 0 then ai_Run 56 58 ls st ws else ai_Run 56 55 ls st ws := R_if_eq hc_56 dX2_solvedDeathsBy_52 rfl rfl
theorem r_56_55 (l0 l1 l3 l4 : Value) (a : Int32) (st : List Value) (ws : ai_W) : ai_Run 56 55 [l0, l1, .int a, l3, l4] st ws = ai_Run 56 58 [l0, l1, .int (a + 1), l3, l4] st ws := R_iinc hc_56 dX2_solvedDeathsBy_55 rfl (by decide) rfl rfl
theorem r_56_58 (l0 l1 l2 l3 : Value) (a : Int32) (st : List Value) (ws : ai_W) : ai_Run 56 58 [l0, l1, l2, l3, .int a] st ws = ai_Run 56 61 [l0, l1, l2, l3, .int (a + 1)] st ws := R_iinc hc_56 dX2_solvedDeathsBy_58 rfl (by decide) rfl rfl
theorem r_56_61 (ls st : List Value) (ws : ai_W) : ai_Run 56 61 ls st ws = ai_Run 56 18 ls st ws := R_goto hc_56 dX2_solvedDeathsBy_61 rfl
theorem r_56_64 (l0 l1 l2 l4 : Value) (a : Int32) (st : List Value) (ws : ai_W) : ai_Run 56 64 [l0, l1, l2, .int a, l4] st ws = ai_Run 56 67 [l0, l1, l2, .int (a + 1), l4] st ws := R_iinc hc_56 dX2_solvedDeathsBy_64 rfl (by decide) rfl rfl
theorem r_56_67 (ls st : List Value) (ws : ai_W) : ai_Run 56 67 ls st ws = ai_Run 56 4 ls st ws := R_goto hc_56 dX2_solvedDeathsBy_67 rfl
theorem r_56_70 (l0 l1 l3 l4 : Value) (a : Int32) (st : List Value) (ws : ai_W) : ai_Run 56 70 [l0, l1, .int a, l3, l4] st ws = ai_Run 56 71 [l0, l1, .int a, l3, l4] (.int a :: st) ws := R_iload_n hc_56 dX2_solvedDeathsBy_70 rfl rfl
theorem r_56_71 (ls : List Value) (x : Int32) (ws : ai_W) : ai_Run 56 71 ls [.int x] ws = some (some (.int x), ws) := R_iret hc_56 dX2_solvedDeathsBy_71 ht_56
theorem dX9_argument_0 : decode cX9_argument 0 = .ok (.aload_n 0, 1) := by decide +kernel
theorem dX9_argument_1 : decode cX9_argument 1 = .ok (.getfield 23, 3) := by decide +kernel
theorem dX9_argument_4 : decode cX9_argument 4 = .ok (.iload_n 1, 1) := by decide +kernel
theorem dX9_argument_5 : decode cX9_argument 5 = .ok (.iconst 3, 1) := by decide +kernel
theorem dX9_argument_6 : decode cX9_argument 6 = .ok (.imul, 1) := by decide +kernel
theorem dX9_argument_7 : decode cX9_argument 7 = .ok (.iload_n 2, 1) := by decide +kernel
theorem dX9_argument_8 : decode cX9_argument 8 = .ok (.iadd, 1) := by decide +kernel
theorem dX9_argument_9 : decode cX9_argument 9 = .ok (.invokevirtual 36, 3) := by decide +kernel
theorem dX9_argument_12 : decode cX9_argument 12 = .ok (.ireturn, 1) := by decide +kernel
theorem e_59 (r : Nat) (a0 : Int32) (a1 : Int32) (ws : ai_W) : ai_Call 59 [.ref r, .int a0, .int a1] ws = if ai_isob ws r 9 = true then ai_Run 59 0 [.ref r, .int a0, .int a1] [] ws else none := R_entV hk_59 ⟨⟨rfl, rfl⟩, Nat.le_of_ble_eq_true rfl⟩ rfl
theorem r_59_0 (l1 l2 : Value) (a : Nat) (st : List Value) (ws : ai_W) : ai_Run 59 0 [.ref a, l1, l2] st ws = ai_Run 59 1 [.ref a, l1, l2] (.ref a :: st) ws := R_aload_n hc_59 dX9_argument_0 rfl rfl
theorem r_59_1 (ls st : List Value) (a : Nat) (ws : ai_W) : ai_Run 59 1 ls (.ref a :: st) ws = (ai_fget ws a 9 2).bind fun q => ai_Run 59 4 ls (q :: st) ws := R_getf hc_59 dX9_argument_1 hv_59 (w := 620) rfl rfl
theorem r_59_4 (l0 l2 : Value) (a : Int32) (st : List Value) (ws : ai_W) : ai_Run 59 4 [l0, .int a, l2] st ws = ai_Run 59 5 [l0, .int a, l2] (.int a :: st) ws := R_iload_n hc_59 dX9_argument_4 rfl rfl
theorem r_59_5 (ls st : List Value) (ws : ai_W) : ai_Run 59 5 ls st ws = ai_Run 59 6 ls (.int 3 :: st) ws := R_iconst hc_59 dX9_argument_5 (by decide) rfl
theorem r_59_6 (ls st : List Value) (a b : Int32) (ws : ai_W) : ai_Run 59 6 ls (.int b :: .int a :: st) ws = ai_Run 59 7 ls (.int (a * b) :: st) ws := R_imul hc_59 dX9_argument_6 rfl
theorem r_59_7 (l0 l1 : Value) (a : Int32) (st : List Value) (ws : ai_W) : ai_Run 59 7 [l0, l1, .int a] st ws = ai_Run 59 8 [l0, l1, .int a] (.int a :: st) ws := R_iload_n hc_59 dX9_argument_7 rfl rfl
theorem r_59_8 (ls st : List Value) (a b : Int32) (ws : ai_W) : ai_Run 59 8 ls (.int b :: .int a :: st) ws = ai_Run 59 9 ls (.int (a + b) :: st) ws := R_iadd hc_59 dX9_argument_8 rfl
theorem r_59_9 (ls : List Value) (r : Nat) (b0 : Int32) (ws : ai_W) : ai_Run 59 9 ls [.int b0, .ref r] ws = (ai_Call 12 [.ref r, .int b0] ws).bind fun q => ai_Run 59 12 ls (q.1.toList ++ []) q.2 := R_callV hc_59 dX9_argument_9 hv_59 (w := 1050) rfl (ai_lt3 hf_12 hf_59 hL_12 ho_12 ho_59 rfl) hk_12 (by rw [hn_12]; rfl) rfl (Nat.le_of_ble_eq_true rfl) rfl
theorem r_59_12 (ls : List Value) (x : Int32) (ws : ai_W) : ai_Run 59 12 ls [.int x] ws = some (some (.int x), ws) := R_iret hc_59 dX9_argument_12 ht_59
theorem dX9_kind_0 : decode cX9_kind 0 = .ok (.aload_n 0, 1) := by decide +kernel
theorem dX9_kind_1 : decode cX9_kind 1 = .ok (.getfield 20, 3) := by decide +kernel
theorem dX9_kind_4 : decode cX9_kind 4 = .ok (.iload_n 1, 1) := by decide +kernel
theorem dX9_kind_5 : decode cX9_kind 5 = .ok (.invokevirtual 36, 3) := by decide +kernel
theorem dX9_kind_8 : decode cX9_kind 8 = .ok (.ireturn, 1) := by decide +kernel
theorem e_60 (r : Nat) (a0 : Int32) (ws : ai_W) : ai_Call 60 [.ref r, .int a0] ws = if ai_isob ws r 9 = true then ai_Run 60 0 [.ref r, .int a0] [] ws else none := R_entV hk_60 ⟨⟨rfl, rfl⟩, Nat.le_of_ble_eq_true rfl⟩ rfl
theorem r_60_0 (l1 : Value) (a : Nat) (st : List Value) (ws : ai_W) : ai_Run 60 0 [.ref a, l1] st ws = ai_Run 60 1 [.ref a, l1] (.ref a :: st) ws := R_aload_n hc_60 dX9_kind_0 rfl rfl
theorem r_60_1 (ls st : List Value) (a : Nat) (ws : ai_W) : ai_Run 60 1 ls (.ref a :: st) ws = (ai_fget ws a 9 1).bind fun q => ai_Run 60 4 ls (q :: st) ws := R_getf hc_60 dX9_kind_1 hv_60 (w := 619) rfl rfl
theorem r_60_4 (l0 : Value) (a : Int32) (st : List Value) (ws : ai_W) : ai_Run 60 4 [l0, .int a] st ws = ai_Run 60 5 [l0, .int a] (.int a :: st) ws := R_iload_n hc_60 dX9_kind_4 rfl rfl
theorem r_60_5 (ls : List Value) (r : Nat) (b0 : Int32) (ws : ai_W) : ai_Run 60 5 ls [.int b0, .ref r] ws = (ai_Call 12 [.ref r, .int b0] ws).bind fun q => ai_Run 60 8 ls (q.1.toList ++ []) q.2 := R_callV hc_60 dX9_kind_5 hv_60 (w := 1050) rfl (ai_lt3 hf_12 hf_60 hL_12 ho_12 ho_60 rfl) hk_12 (by rw [hn_12]; rfl) rfl (Nat.le_of_ble_eq_true rfl) rfl
theorem r_60_8 (ls : List Value) (x : Int32) (ws : ai_W) : ai_Run 60 8 ls [.int x] ws = some (some (.int x), ws) := R_iret hc_60 dX9_kind_8 ht_60
theorem dX1_addCharacter_0 : decode cX1_addCharacter 0 = .ok (.aload_n 0, 1) := by decide +kernel
theorem dX1_addCharacter_1 : decode cX1_addCharacter 1 = .ok (.getfield 9, 3) := by decide +kernel
theorem dX1_addCharacter_4 : decode cX1_addCharacter 4 = .ok (.getfield 27, 3) := by decide +kernel
theorem dX1_addCharacter_7 : decode cX1_addCharacter 7 = .ok (.istore_n 1, 1) := by decide +kernel
theorem dX1_addCharacter_8 : decode cX1_addCharacter 8 = .ok (.iload_n 1, 1) := by decide +kernel
theorem dX1_addCharacter_9 : decode cX1_addCharacter 9 = .ok (.bipush 8, 2) := by decide +kernel
theorem dX1_addCharacter_11 : decode cX1_addCharacter 11 = .ok (.if_icmp .lt 13, 3) := by decide +kernel
theorem dX1_addCharacter_14 : decode cX1_addCharacter 14 = .ok (.aload_n 0, 1) := by decide +kernel
theorem dX1_addCharacter_15 : decode cX1_addCharacter 15 = .ok (.getfield 23, 3) := by decide +kernel
theorem dX1_addCharacter_18 : decode cX1_addCharacter 18 = .ok (.iconst 1, 1) := by decide +kernel
theorem dX1_addCharacter_19 : decode cX1_addCharacter 19 = .ok (.iload_n 1, 1) := by decide +kernel
theorem dX1_addCharacter_20 : decode cX1_addCharacter 20 = .ok (.invokevirtual 33, 3) := by decide +kernel
theorem dX1_addCharacter_23 : decode cX1_addCharacter 23 = .ok (.ireturn, 1) := by decide +kernel
theorem dX1_addCharacter_24 : decode cX1_addCharacter 24 = .ok (.aload_n 0, 1) := by decide +kernel
theorem dX1_addCharacter_25 : decode cX1_addCharacter 25 = .ok (.getfield 9, 3) := by decide +kernel
theorem dX1_addCharacter_28 : decode cX1_addCharacter 28 = .ok (.iload_n 1, 1) := by decide +kernel
theorem dX1_addCharacter_29 : decode cX1_addCharacter 29 = .ok (.iconst 1, 1) := by decide +kernel
theorem dX1_addCharacter_30 : decode cX1_addCharacter 30 = .ok (.iadd, 1) := by decide +kernel
theorem dX1_addCharacter_31 : decode cX1_addCharacter 31 = .ok (.putfield 27, 3) := by decide +kernel
theorem dX1_addCharacter_34 : decode cX1_addCharacter 34 = .ok (.iload_n 1, 1) := by decide +kernel
theorem dX1_addCharacter_35 : decode cX1_addCharacter 35 = .ok (.ireturn, 1) := by decide +kernel
theorem e_61 (r : Nat)  (ws : ai_W) : ai_Call 61 [.ref r] ws = if ai_isob ws r 1 = true then ai_Run 61 0 [.ref r, .null] [] ws else none := R_entV hk_61 ⟨⟨rfl, rfl⟩, Nat.le_of_ble_eq_true rfl⟩ rfl
theorem r_61_0 (l1 : Value) (a : Nat) (st : List Value) (ws : ai_W) : ai_Run 61 0 [.ref a, l1] st ws = ai_Run 61 1 [.ref a, l1] (.ref a :: st) ws := R_aload_n hc_61 dX1_addCharacter_0 rfl rfl
theorem r_61_1 (ls st : List Value) (a : Nat) (ws : ai_W) : ai_Run 61 1 ls (.ref a :: st) ws = (ai_fget ws a 1 0).bind fun q => ai_Run 61 4 ls (q :: st) ws := R_getf hc_61 dX1_addCharacter_1 hv_61 (w := 573) rfl rfl
theorem r_61_4 (ls st : List Value) (a : Nat) (ws : ai_W) : ai_Run 61 4 ls (.ref a :: st) ws = (ai_fget ws a 0 0).bind fun q => ai_Run 61 7 ls (q :: st) ws := R_getf hc_61 dX1_addCharacter_4 hv_61 (w := 463) rfl rfl
theorem r_61_7 (l0 l1 : Value) (a : Int32) (st : List Value) (ws : ai_W) : ai_Run 61 7 [l0, l1] (.int a :: st) ws = ai_Run 61 8 [l0, .int a] st ws := R_istore_n hc_61 dX1_addCharacter_7 (Nat.le_of_ble_eq_true rfl) rfl rfl
theorem r_61_8 (l0 : Value) (a : Int32) (st : List Value) (ws : ai_W) : ai_Run 61 8 [l0, .int a] st ws = ai_Run 61 9 [l0, .int a] (.int a :: st) ws := R_iload_n hc_61 dX1_addCharacter_8 rfl rfl
theorem r_61_9 (ls st : List Value) (ws : ai_W) : ai_Run 61 9 ls st ws = ai_Run 61 11 ls (.int 8 :: st) ws := R_bipush hc_61 dX1_addCharacter_9 (by decide) rfl
theorem r_61_11 (ls st : List Value) (a b : Int32) (ws : ai_W) : ai_Run 61 11 ls (.int b :: .int a :: st) ws = if a < b then ai_Run 61 24 ls st ws else ai_Run 61 14 ls st ws := R_cmp_lt hc_61 dX1_addCharacter_11 rfl rfl
theorem r_61_14 (l1 : Value) (a : Nat) (st : List Value) (ws : ai_W) : ai_Run 61 14 [.ref a, l1] st ws = ai_Run 61 15 [.ref a, l1] (.ref a :: st) ws := R_aload_n hc_61 dX1_addCharacter_14 rfl rfl
theorem r_61_15 (ls st : List Value) (a : Nat) (ws : ai_W) : ai_Run 61 15 ls (.ref a :: st) ws = (ai_fget ws a 1 3).bind fun q => ai_Run 61 18 ls (q :: st) ws := R_getf hc_61 dX1_addCharacter_15 hv_61 (w := 576) rfl rfl
theorem r_61_18 (ls st : List Value) (ws : ai_W) : ai_Run 61 18 ls st ws = ai_Run 61 19 ls (.int 1 :: st) ws := R_iconst hc_61 dX1_addCharacter_18 (by decide) rfl
theorem r_61_19 (l0 : Value) (a : Int32) (st : List Value) (ws : ai_W) : ai_Run 61 19 [l0, .int a] st ws = ai_Run 61 20 [l0, .int a] (.int a :: st) ws := R_iload_n hc_61 dX1_addCharacter_19 rfl rfl
theorem r_61_20 (ls : List Value) (r : Nat) (b0 : Int32) (b1 : Int32) (ws : ai_W) : ai_Run 61 20 ls [.int b1, .int b0, .ref r] ws = (ai_Call 47 [.ref r, .int b0, .int b1] ws).bind fun q => ai_Run 61 23 ls (q.1.toList ++ []) q.2 := R_callV hc_61 dX1_addCharacter_20 hv_61 (w := 84) rfl (ai_lt3 hf_47 hf_61 hL_47 ho_47 ho_61 rfl) hk_47 (by rw [hn_47]; rfl) rfl (Nat.le_of_ble_eq_true rfl) rfl
theorem r_61_23 (ls : List Value) (x : Int32) (ws : ai_W) : ai_Run 61 23 ls [.int x] ws = some (some (.int x), ws) := R_iret hc_61 dX1_addCharacter_23 ht_61
theorem r_61_24 (l1 : Value) (a : Nat) (st : List Value) (ws : ai_W) : ai_Run 61 24 [.ref a, l1] st ws = ai_Run 61 25 [.ref a, l1] (.ref a :: st) ws := R_aload_n hc_61 dX1_addCharacter_24 rfl rfl
theorem r_61_25 (ls st : List Value) (a : Nat) (ws : ai_W) : ai_Run 61 25 ls (.ref a :: st) ws = (ai_fget ws a 1 0).bind fun q => ai_Run 61 28 ls (q :: st) ws := R_getf hc_61 dX1_addCharacter_25 hv_61 (w := 573) rfl rfl
theorem r_61_28 (l0 : Value) (a : Int32) (st : List Value) (ws : ai_W) : ai_Run 61 28 [l0, .int a] st ws = ai_Run 61 29 [l0, .int a] (.int a :: st) ws := R_iload_n hc_61 dX1_addCharacter_28 rfl rfl
theorem r_61_29 (ls st : List Value) (ws : ai_W) : ai_Run 61 29 ls st ws = ai_Run 61 30 ls (.int 1 :: st) ws := R_iconst hc_61 dX1_addCharacter_29 (by decide) rfl
theorem r_61_30 (ls st : List Value) (a b : Int32) (ws : ai_W) : ai_Run 61 30 ls (.int b :: .int a :: st) ws = ai_Run 61 31 ls (.int (a + b) :: st) ws := R_iadd hc_61 dX1_addCharacter_30 rfl
theorem r_61_31 (ls st : List Value) (a : Nat) (x : Value) (ws : ai_W) : ai_Run 61 31 ls (x :: .ref a :: st) ws = (ai_fput ws a 0 0 x).bind fun ws => ai_Run 61 34 ls st ws := R_putf hc_61 dX1_addCharacter_31 hv_61 (w := 463) rfl rfl rfl
theorem r_61_34 (l0 : Value) (a : Int32) (st : List Value) (ws : ai_W) : ai_Run 61 34 [l0, .int a] st ws = ai_Run 61 35 [l0, .int a] (.int a :: st) ws := R_iload_n hc_61 dX1_addCharacter_34 rfl rfl
theorem r_61_35 (ls : List Value) (x : Int32) (ws : ai_W) : ai_Run 61 35 ls [.int x] ws = some (some (.int x), ws) := R_iret hc_61 dX1_addCharacter_35 ht_61
theorem dX0_isCharacter_0 : decode cX0_isCharacter 0 = .ok (.iload_n 1, 1) := by decide +kernel
theorem dX0_isCharacter_1 : decode cX0_isCharacter 1 = .ok (.ifCond .lt 15, 3) := by decide +kernel
theorem dX0_isCharacter_4 : decode cX0_isCharacter 4 = .ok (.iload_n 1, 1) := by decide +kernel
theorem dX0_isCharacter_5 : decode cX0_isCharacter 5 = .ok (.aload_n 0, 1) := by decide +kernel
theorem dX0_isCharacter_6 : decode cX0_isCharacter 6 = .ok (.getfield 38, 3) := by decide +kernel
theorem dX0_isCharacter_9 : decode cX0_isCharacter 9 = .ok (.if_icmp .ge 7, 3) := by decide +kernel
theorem dX0_isCharacter_12 : decode cX0_isCharacter 12 = .ok (.iconst 1, 1) := by decide +kernel
theorem dX0_isCharacter_13 : decode cX0_isCharacter 13 = .ok (.goto 4, 3) := by decide +kernel
theorem dX0_isCharacter_16 : decode cX0_isCharacter 16 = .ok (.iconst 0, 1) := by decide +kernel
theorem dX0_isCharacter_17 : decode cX0_isCharacter 17 = .ok (.ireturn, 1) := by decide +kernel
theorem e_62 (r : Nat) (a0 : Int32) (ws : ai_W) : ai_Call 62 [.ref r, .int a0] ws = if ai_isob ws r 0 = true then ai_Run 62 0 [.ref r, .int a0] [] ws else none := R_entV hk_62 ⟨⟨rfl, rfl⟩, Nat.le_of_ble_eq_true rfl⟩ rfl
theorem r_62_0 (l0 : Value) (a : Int32) (st : List Value) (ws : ai_W) : ai_Run 62 0 [l0, .int a] st ws = ai_Run 62 1 [l0, .int a] (.int a :: st) ws := R_iload_n hc_62 dX0_isCharacter_0 rfl rfl
theorem r_62_1 (ls st : List Value) (a : Int32) (ws : ai_W) : ai_Run 62 1 ls (.int a :: st) ws = if a < 0 then ai_Run 62 16 ls st ws else ai_Run 62 4 ls st ws := R_if_lt hc_62 dX0_isCharacter_1 rfl rfl
theorem r_62_4 (l0 : Value) (a : Int32) (st : List Value) (ws : ai_W) : ai_Run 62 4 [l0, .int a] st ws = ai_Run 62 5 [l0, .int a] (.int a :: st) ws := R_iload_n hc_62 dX0_isCharacter_4 rfl rfl
theorem r_62_5 (l1 : Value) (a : Nat) (st : List Value) (ws : ai_W) : ai_Run 62 5 [.ref a, l1] st ws = ai_Run 62 6 [.ref a, l1] (.ref a :: st) ws := R_aload_n hc_62 dX0_isCharacter_5 rfl rfl
theorem r_62_6 (ls st : List Value) (a : Nat) (ws : ai_W) : ai_Run 62 6 ls (.ref a :: st) ws = (ai_fget ws a 0 0).bind fun q => ai_Run 62 9 ls (q :: st) ws := R_getf hc_62 dX0_isCharacter_6 hv_62 (w := 464) rfl rfl
theorem r_62_9 (ls st : List Value) (a b : Int32) (ws : ai_W) : ai_Run 62 9 ls (.int b :: .int a :: st) ws = if a < b then ai_Run 62 12 ls st ws else ai_Run 62 16 ls st ws := R_cmp_ge hc_62 dX0_isCharacter_9 rfl rfl
theorem r_62_12 (ls st : List Value) (ws : ai_W) : ai_Run 62 12 ls st ws = ai_Run 62 13 ls (.int 1 :: st) ws := R_iconst hc_62 dX0_isCharacter_12 (by decide) rfl
theorem r_62_13 (ls st : List Value) (ws : ai_W) : ai_Run 62 13 ls st ws = ai_Run 62 17 ls st ws := R_goto hc_62 dX0_isCharacter_13 rfl
theorem r_62_16 (ls st : List Value) (ws : ai_W) : ai_Run 62 16 ls st ws = ai_Run 62 17 ls (.int 0 :: st) ws := R_iconst hc_62 dX0_isCharacter_16 (by decide) rfl
theorem r_62_17 (ls : List Value) (x : Int32) (ws : ai_W) : ai_Run 62 17 ls [.int x] ws = if ai_pb x = true then some (some (.int x), ws) else none := R_zret hc_62 dX0_isCharacter_17 ht_62
theorem dX0_isChapter_0 : decode cX0_isChapter 0 = .ok (.iload_n 0, 1) := by decide +kernel
theorem dX0_isChapter_1 : decode cX0_isChapter 1 = .ok (.iconst 1, 1) := by decide +kernel
theorem dX0_isChapter_2 : decode cX0_isChapter 2 = .ok (.if_icmp .lt 13, 3) := by decide +kernel
theorem dX0_isChapter_5 : decode cX0_isChapter 5 = .ok (.iload_n 0, 1) := by decide +kernel
theorem dX0_isChapter_6 : decode cX0_isChapter 6 = .ok (.bipush 30, 2) := by decide +kernel
theorem dX0_isChapter_8 : decode cX0_isChapter 8 = .ok (.if_icmp .gt 7, 3) := by decide +kernel
theorem dX0_isChapter_11 : decode cX0_isChapter 11 = .ok (.iconst 1, 1) := by decide +kernel
theorem dX0_isChapter_12 : decode cX0_isChapter 12 = .ok (.goto 4, 3) := by decide +kernel
theorem dX0_isChapter_15 : decode cX0_isChapter 15 = .ok (.iconst 0, 1) := by decide +kernel
theorem dX0_isChapter_16 : decode cX0_isChapter 16 = .ok (.ireturn, 1) := by decide +kernel
theorem e_63 (a0 : Int32) (ws : ai_W) : ai_Call 63 [.int a0] ws = ai_Run 63 0 [.int a0] [] ws := R_entS hk_63 ⟨⟨rfl, rfl⟩, Nat.le_of_ble_eq_true rfl⟩ rfl
theorem r_63_0 (a : Int32) (st : List Value) (ws : ai_W) : ai_Run 63 0 [.int a] st ws = ai_Run 63 1 [.int a] (.int a :: st) ws := R_iload_n hc_63 dX0_isChapter_0 rfl rfl
theorem r_63_1 (ls st : List Value) (ws : ai_W) : ai_Run 63 1 ls st ws = ai_Run 63 2 ls (.int 1 :: st) ws := R_iconst hc_63 dX0_isChapter_1 (by decide) rfl
theorem r_63_2 (ls st : List Value) (a b : Int32) (ws : ai_W) : ai_Run 63 2 ls (.int b :: .int a :: st) ws = if a < b then ai_Run 63 15 ls st ws else ai_Run 63 5 ls st ws := R_cmp_lt hc_63 dX0_isChapter_2 rfl rfl
theorem r_63_5 (a : Int32) (st : List Value) (ws : ai_W) : ai_Run 63 5 [.int a] st ws = ai_Run 63 6 [.int a] (.int a :: st) ws := R_iload_n hc_63 dX0_isChapter_5 rfl rfl
theorem r_63_6 (ls st : List Value) (ws : ai_W) : ai_Run 63 6 ls st ws = ai_Run 63 8 ls (.int 30 :: st) ws := R_bipush hc_63 dX0_isChapter_6 (by decide) rfl
theorem r_63_8 (ls st : List Value) (a b : Int32) (ws : ai_W) : ai_Run 63 8 ls (.int b :: .int a :: st) ws = if b < a then ai_Run 63 15 ls st ws else ai_Run 63 11 ls st ws := R_cmp_gt hc_63 dX0_isChapter_8 rfl rfl
theorem r_63_11 (ls st : List Value) (ws : ai_W) : ai_Run 63 11 ls st ws = ai_Run 63 12 ls (.int 1 :: st) ws := R_iconst hc_63 dX0_isChapter_11 (by decide) rfl
theorem r_63_12 (ls st : List Value) (ws : ai_W) : ai_Run 63 12 ls st ws = ai_Run 63 16 ls st ws := R_goto hc_63 dX0_isChapter_12 rfl
theorem r_63_15 (ls st : List Value) (ws : ai_W) : ai_Run 63 15 ls st ws = ai_Run 63 16 ls (.int 0 :: st) ws := R_iconst hc_63 dX0_isChapter_15 (by decide) rfl
theorem r_63_16 (ls : List Value) (x : Int32) (ws : ai_W) : ai_Run 63 16 ls [.int x] ws = if ai_pb x = true then some (some (.int x), ws) else none := R_zret hc_63 dX0_isChapter_16 ht_63
theorem dX0_isDeadAtLast_0 : decode cX0_isDeadAtLast 0 = .ok (.aload_n 0, 1) := by decide +kernel
theorem dX0_isDeadAtLast_1 : decode cX0_isDeadAtLast 1 = .ok (.getfield 14, 3) := by decide +kernel
theorem dX0_isDeadAtLast_4 : decode cX0_isDeadAtLast 4 = .ok (.iload_n 1, 1) := by decide +kernel
theorem dX0_isDeadAtLast_5 : decode cX0_isDeadAtLast 5 = .ok (.invokevirtual 57, 3) := by decide +kernel
theorem dX0_isDeadAtLast_8 : decode cX0_isDeadAtLast 8 = .ok (.iconst 2, 1) := by decide +kernel
theorem dX0_isDeadAtLast_9 : decode cX0_isDeadAtLast 9 = .ok (.irem, 1) := by decide +kernel
theorem dX0_isDeadAtLast_10 : decode cX0_isDeadAtLast 10 = .ok (.iconst 1, 1) := by decide +kernel
theorem dX0_isDeadAtLast_11 : decode cX0_isDeadAtLast 11 = .ok (.if_icmp .ne 7, 3) := by decide +kernel
theorem dX0_isDeadAtLast_14 : decode cX0_isDeadAtLast 14 = .ok (.iconst 1, 1) := by decide +kernel
theorem dX0_isDeadAtLast_15 : decode cX0_isDeadAtLast 15 = .ok (.goto 4, 3) := by decide +kernel
theorem dX0_isDeadAtLast_18 : decode cX0_isDeadAtLast 18 = .ok (.iconst 0, 1) := by decide +kernel
theorem dX0_isDeadAtLast_19 : decode cX0_isDeadAtLast 19 = .ok (.ireturn, 1) := by decide +kernel
theorem e_64 (r : Nat) (a0 : Int32) (ws : ai_W) : ai_Call 64 [.ref r, .int a0] ws = if ai_isob ws r 0 = true then ai_Run 64 0 [.ref r, .int a0] [] ws else none := R_entV hk_64 ⟨⟨rfl, rfl⟩, Nat.le_of_ble_eq_true rfl⟩ rfl
theorem r_64_0 (l1 : Value) (a : Nat) (st : List Value) (ws : ai_W) : ai_Run 64 0 [.ref a, l1] st ws = ai_Run 64 1 [.ref a, l1] (.ref a :: st) ws := R_aload_n hc_64 dX0_isDeadAtLast_0 rfl rfl
theorem r_64_1 (ls st : List Value) (a : Nat) (ws : ai_W) : ai_Run 64 1 ls (.ref a :: st) ws = (ai_fget ws a 0 3).bind fun q => ai_Run 64 4 ls (q :: st) ws := R_getf hc_64 dX0_isDeadAtLast_1 hv_64 (w := 475) rfl rfl
theorem r_64_4 (l0 : Value) (a : Int32) (st : List Value) (ws : ai_W) : ai_Run 64 4 [l0, .int a] st ws = ai_Run 64 5 [l0, .int a] (.int a :: st) ws := R_iload_n hc_64 dX0_isDeadAtLast_4 rfl rfl
theorem r_64_5 (ls : List Value) (r : Nat) (b0 : Int32) (ws : ai_W) : ai_Run 64 5 ls [.int b0, .ref r] ws = (ai_Call 12 [.ref r, .int b0] ws).bind fun q => ai_Run 64 8 ls (q.1.toList ++ []) q.2 := R_callV hc_64 dX0_isDeadAtLast_5 hv_64 (w := 119) rfl (ai_lt3 hf_12 hf_64 hL_12 ho_12 ho_64 rfl) hk_12 (by rw [hn_12]; rfl) rfl (Nat.le_of_ble_eq_true rfl) rfl
theorem r_64_8 (ls st : List Value) (ws : ai_W) : ai_Run 64 8 ls st ws = ai_Run 64 9 ls (.int 2 :: st) ws := R_iconst hc_64 dX0_isDeadAtLast_8 (by decide) rfl
theorem r_64_9 (ls st : List Value) (a : Int32) (ws : ai_W) : ai_Run 64 9 ls (.int 2 :: .int a :: st) ws = ai_Run 64 10 ls (.int (a - a / 2 * 2) :: st) ws := R_irem hc_64 dX0_isDeadAtLast_9 (by decide) rfl
theorem r_64_10 (ls st : List Value) (ws : ai_W) : ai_Run 64 10 ls st ws = ai_Run 64 11 ls (.int 1 :: st) ws := R_iconst hc_64 dX0_isDeadAtLast_10 (by decide) rfl
theorem r_64_11 (ls st : List Value) (a b : Int32) (ws : ai_W) : ai_Run 64 11 ls (.int b :: .int a :: st) ws = if a = b then ai_Run 64 14 ls st ws else ai_Run 64 18 ls st ws := R_cmp_ne hc_64 dX0_isDeadAtLast_11 rfl rfl
theorem r_64_14 (ls st : List Value) (ws : ai_W) : ai_Run 64 14 ls st ws = ai_Run 64 15 ls (.int 1 :: st) ws := R_iconst hc_64 dX0_isDeadAtLast_14 (by decide) rfl
theorem r_64_15 (ls st : List Value) (ws : ai_W) : ai_Run 64 15 ls st ws = ai_Run 64 19 ls st ws := R_goto hc_64 dX0_isDeadAtLast_15 rfl
theorem r_64_18 (ls st : List Value) (ws : ai_W) : ai_Run 64 18 ls st ws = ai_Run 64 19 ls (.int 0 :: st) ws := R_iconst hc_64 dX0_isDeadAtLast_18 (by decide) rfl
theorem r_64_19 (ls : List Value) (x : Int32) (ws : ai_W) : ai_Run 64 19 ls [.int x] ws = if ai_pb x = true then some (some (.int x), ws) else none := R_zret hc_64 dX0_isDeadAtLast_19 ht_64
theorem dX0_lastChapter_0 : decode cX0_lastChapter 0 = .ok (.aload_n 0, 1) := by decide +kernel
theorem dX0_lastChapter_1 : decode cX0_lastChapter 1 = .ok (.getfield 14, 3) := by decide +kernel
theorem dX0_lastChapter_4 : decode cX0_lastChapter 4 = .ok (.iload_n 1, 1) := by decide +kernel
theorem dX0_lastChapter_5 : decode cX0_lastChapter 5 = .ok (.invokevirtual 57, 3) := by decide +kernel
theorem dX0_lastChapter_8 : decode cX0_lastChapter 8 = .ok (.iconst 1, 1) := by decide +kernel
theorem dX0_lastChapter_9 : decode cX0_lastChapter 9 = .ok (.isub, 1) := by decide +kernel
theorem dX0_lastChapter_10 : decode cX0_lastChapter 10 = .ok (.istore_n 2, 1) := by decide +kernel
theorem dX0_lastChapter_11 : decode cX0_lastChapter 11 = .ok (.iload_n 2, 1) := by decide +kernel
theorem dX0_lastChapter_12 : decode cX0_lastChapter 12 = .ok (.ifCond .lt 12, 3) := by decide +kernel
theorem dX0_lastChapter_15 : decode cX0_lastChapter 15 = .ok (.aload_n 0, 1) := by decide +kernel
theorem dX0_lastChapter_16 : decode cX0_lastChapter 16 = .ok (.iload_n 1, 1) := by decide +kernel
theorem dX0_lastChapter_17 : decode cX0_lastChapter 17 = .ok (.iload_n 2, 1) := by decide +kernel
theorem dX0_lastChapter_18 : decode cX0_lastChapter 18 = .ok (.invokevirtual 60, 3) := by decide +kernel
theorem dX0_lastChapter_21 : decode cX0_lastChapter 21 = .ok (.goto 4, 3) := by decide +kernel
theorem dX0_lastChapter_24 : decode cX0_lastChapter 24 = .ok (.iconst 0, 1) := by decide +kernel
theorem dX0_lastChapter_25 : decode cX0_lastChapter 25 = .ok (.ireturn, 1) := by decide +kernel
theorem e_65 (r : Nat) (a0 : Int32) (ws : ai_W) : ai_Call 65 [.ref r, .int a0] ws = if ai_isob ws r 0 = true then ai_Run 65 0 [.ref r, .int a0, .null] [] ws else none := R_entV hk_65 ⟨⟨rfl, rfl⟩, Nat.le_of_ble_eq_true rfl⟩ rfl
theorem r_65_0 (l1 l2 : Value) (a : Nat) (st : List Value) (ws : ai_W) : ai_Run 65 0 [.ref a, l1, l2] st ws = ai_Run 65 1 [.ref a, l1, l2] (.ref a :: st) ws := R_aload_n hc_65 dX0_lastChapter_0 rfl rfl
theorem r_65_1 (ls st : List Value) (a : Nat) (ws : ai_W) : ai_Run 65 1 ls (.ref a :: st) ws = (ai_fget ws a 0 3).bind fun q => ai_Run 65 4 ls (q :: st) ws := R_getf hc_65 dX0_lastChapter_1 hv_65 (w := 475) rfl rfl
theorem r_65_4 (l0 l2 : Value) (a : Int32) (st : List Value) (ws : ai_W) : ai_Run 65 4 [l0, .int a, l2] st ws = ai_Run 65 5 [l0, .int a, l2] (.int a :: st) ws := R_iload_n hc_65 dX0_lastChapter_4 rfl rfl
theorem r_65_5 (ls : List Value) (r : Nat) (b0 : Int32) (ws : ai_W) : ai_Run 65 5 ls [.int b0, .ref r] ws = (ai_Call 12 [.ref r, .int b0] ws).bind fun q => ai_Run 65 8 ls (q.1.toList ++ []) q.2 := R_callV hc_65 dX0_lastChapter_5 hv_65 (w := 119) rfl (ai_lt3 hf_12 hf_65 hL_12 ho_12 ho_65 rfl) hk_12 (by rw [hn_12]; rfl) rfl (Nat.le_of_ble_eq_true rfl) rfl
theorem r_65_8 (ls st : List Value) (ws : ai_W) : ai_Run 65 8 ls st ws = ai_Run 65 9 ls (.int 1 :: st) ws := R_iconst hc_65 dX0_lastChapter_8 (by decide) rfl
theorem r_65_9 (ls st : List Value) (a b : Int32) (ws : ai_W) : ai_Run 65 9 ls (.int b :: .int a :: st) ws = ai_Run 65 10 ls (.int (a - b) :: st) ws := R_isub hc_65 dX0_lastChapter_9 rfl
theorem r_65_10 (l0 l1 l2 : Value) (a : Int32) (st : List Value) (ws : ai_W) : ai_Run 65 10 [l0, l1, l2] (.int a :: st) ws = ai_Run 65 11 [l0, l1, .int a] st ws := R_istore_n hc_65 dX0_lastChapter_10 (Nat.le_of_ble_eq_true rfl) rfl rfl
theorem r_65_11 (l0 l1 : Value) (a : Int32) (st : List Value) (ws : ai_W) : ai_Run 65 11 [l0, l1, .int a] st ws = ai_Run 65 12 [l0, l1, .int a] (.int a :: st) ws := R_iload_n hc_65 dX0_lastChapter_11 rfl rfl
theorem r_65_12 (ls st : List Value) (a : Int32) (ws : ai_W) : ai_Run 65 12 ls (.int a :: st) ws = if a < 0 then ai_Run 65 24 ls st ws else ai_Run 65 15 ls st ws := R_if_lt hc_65 dX0_lastChapter_12 rfl rfl
theorem r_65_15 (l1 l2 : Value) (a : Nat) (st : List Value) (ws : ai_W) : ai_Run 65 15 [.ref a, l1, l2] st ws = ai_Run 65 16 [.ref a, l1, l2] (.ref a :: st) ws := R_aload_n hc_65 dX0_lastChapter_15 rfl rfl
theorem r_65_16 (l0 l2 : Value) (a : Int32) (st : List Value) (ws : ai_W) : ai_Run 65 16 [l0, .int a, l2] st ws = ai_Run 65 17 [l0, .int a, l2] (.int a :: st) ws := R_iload_n hc_65 dX0_lastChapter_16 rfl rfl
theorem r_65_17 (l0 l1 : Value) (a : Int32) (st : List Value) (ws : ai_W) : ai_Run 65 17 [l0, l1, .int a] st ws = ai_Run 65 18 [l0, l1, .int a] (.int a :: st) ws := R_iload_n hc_65 dX0_lastChapter_17 rfl rfl
theorem r_65_18 (ls : List Value) (r : Nat) (b0 : Int32) (b1 : Int32) (ws : ai_W) : ai_Run 65 18 ls [.int b1, .int b0, .ref r] ws = (ai_Call 33 [.ref r, .int b0, .int b1] ws).bind fun q => ai_Run 65 21 ls (q.1.toList ++ []) q.2 := R_callV hc_65 dX0_lastChapter_18 hv_65 (w := 136) rfl (ai_lt3 hf_33 hf_65 hL_33 ho_33 ho_65 rfl) hk_33 (by rw [hn_33]; rfl) rfl (Nat.le_of_ble_eq_true rfl) rfl
theorem r_65_21 (ls st : List Value) (ws : ai_W) : ai_Run 65 21 ls st ws = ai_Run 65 25 ls st ws := R_goto hc_65 dX0_lastChapter_21 rfl
theorem r_65_24 (ls st : List Value) (ws : ai_W) : ai_Run 65 24 ls st ws = ai_Run 65 25 ls (.int 0 :: st) ws := R_iconst hc_65 dX0_lastChapter_24 (by decide) rfl
theorem r_65_25 (ls : List Value) (x : Int32) (ws : ai_W) : ai_Run 65 25 ls [.int x] ws = some (some (.int x), ws) := R_iret hc_65 dX0_lastChapter_25 ht_65
theorem dX1_canTurn_0 : decode cX1_canTurn 0 = .ok (.aload_n 0, 1) := by decide +kernel
theorem dX1_canTurn_1 : decode cX1_canTurn 1 = .ok (.getfield 9, 3) := by decide +kernel
theorem dX1_canTurn_4 : decode cX1_canTurn 4 = .ok (.iload_n 1, 1) := by decide +kernel
theorem dX1_canTurn_5 : decode cX1_canTurn 5 = .ok (.invokevirtual 64, 3) := by decide +kernel
theorem dX1_canTurn_8 : decode cX1_canTurn 8 = .ok (.istore_n 3, 1) := by decide +kernel
theorem dX1_canTurn_9 : decode cX1_canTurn 9 = .ok (.iload_n 2, 1) := by decide +kernel
theorem dX1_canTurn_10 : decode cX1_canTurn 10 = .ok (.iload_n 3, 1) := by decide +kernel
theorem dX1_canTurn_11 : decode cX1_canTurn 11 = .ok (.if_icmp .gt 15, 3) := by decide +kernel
theorem dX1_canTurn_14 : decode cX1_canTurn 14 = .ok (.aload_n 0, 1) := by decide +kernel
theorem dX1_canTurn_15 : decode cX1_canTurn 15 = .ok (.getfield 23, 3) := by decide +kernel
theorem dX1_canTurn_18 : decode cX1_canTurn 18 = .ok (.iconst 2, 1) := by decide +kernel
theorem dX1_canTurn_19 : decode cX1_canTurn 19 = .ok (.iload_n 3, 1) := by decide +kernel
theorem dX1_canTurn_20 : decode cX1_canTurn 20 = .ok (.invokevirtual 33, 3) := by decide +kernel
theorem dX1_canTurn_23 : decode cX1_canTurn 23 = .ok (.pop, 1) := by decide +kernel
theorem dX1_canTurn_24 : decode cX1_canTurn 24 = .ok (.iconst 0, 1) := by decide +kernel
theorem dX1_canTurn_25 : decode cX1_canTurn 25 = .ok (.ireturn, 1) := by decide +kernel
theorem dX1_canTurn_26 : decode cX1_canTurn 26 = .ok (.aload_n 0, 1) := by decide +kernel
theorem dX1_canTurn_27 : decode cX1_canTurn 27 = .ok (.getfield 9, 3) := by decide +kernel
theorem dX1_canTurn_30 : decode cX1_canTurn 30 = .ok (.getfield 67, 3) := by decide +kernel
theorem dX1_canTurn_33 : decode cX1_canTurn 33 = .ok (.iload_n 1, 1) := by decide +kernel
theorem dX1_canTurn_34 : decode cX1_canTurn 34 = .ok (.invokevirtual 71, 3) := by decide +kernel
theorem dX1_canTurn_37 : decode cX1_canTurn 37 = .ok (.istore 4, 2) := by decide +kernel
theorem dX1_canTurn_39 : decode cX1_canTurn 39 = .ok (.iload 4, 2) := by decide +kernel
theorem dX1_canTurn_41 : decode cX1_canTurn 41 = .ok (.bipush 6, 2) := by decide +kernel
theorem dX1_canTurn_43 : decode cX1_canTurn 43 = .ok (.if_icmp .lt 16, 3) := by decide +kernel
theorem dX1_canTurn_46 : decode cX1_canTurn 46 = .ok (.aload_n 0, 1) := by decide +kernel
theorem dX1_canTurn_47 : decode cX1_canTurn 47 = .ok (.getfield 23, 3) := by decide +kernel
theorem dX1_canTurn_50 : decode cX1_canTurn 50 = .ok (.iconst 1, 1) := by decide +kernel
theorem dX1_canTurn_51 : decode cX1_canTurn 51 = .ok (.iload 4, 2) := by decide +kernel
theorem dX1_canTurn_53 : decode cX1_canTurn 53 = .ok (.invokevirtual 33, 3) := by decide +kernel
theorem dX1_canTurn_56 : decode cX1_canTurn 56 = .ok (.pop, 1) := by decide +kernel
theorem dX1_canTurn_57 : decode cX1_canTurn 57 = .ok (.iconst 0, 1) := by decide +kernel
theorem dX1_canTurn_58 : decode cX1_canTurn 58 = .ok (.ireturn, 1) := by decide +kernel
theorem dX1_canTurn_59 : decode cX1_canTurn 59 = .ok (.iconst 1, 1) := by decide +kernel
theorem dX1_canTurn_60 : decode cX1_canTurn 60 = .ok (.ireturn, 1) := by decide +kernel
theorem e_66 (r : Nat) (a0 : Int32) (a1 : Int32) (ws : ai_W) : ai_Call 66 [.ref r, .int a0, .int a1] ws = if ai_isob ws r 1 = true then ai_Run 66 0 [.ref r, .int a0, .int a1, .null, .null] [] ws else none := R_entV hk_66 ⟨⟨rfl, rfl⟩, Nat.le_of_ble_eq_true rfl⟩ rfl
theorem r_66_0 (l1 l2 l3 l4 : Value) (a : Nat) (st : List Value) (ws : ai_W) : ai_Run 66 0 [.ref a, l1, l2, l3, l4] st ws = ai_Run 66 1 [.ref a, l1, l2, l3, l4] (.ref a :: st) ws := R_aload_n hc_66 dX1_canTurn_0 rfl rfl
theorem r_66_1 (ls st : List Value) (a : Nat) (ws : ai_W) : ai_Run 66 1 ls (.ref a :: st) ws = (ai_fget ws a 1 0).bind fun q => ai_Run 66 4 ls (q :: st) ws := R_getf hc_66 dX1_canTurn_1 hv_66 (w := 573) rfl rfl
theorem r_66_4 (l0 l2 l3 l4 : Value) (a : Int32) (st : List Value) (ws : ai_W) : ai_Run 66 4 [l0, .int a, l2, l3, l4] st ws = ai_Run 66 5 [l0, .int a, l2, l3, l4] (.int a :: st) ws := R_iload_n hc_66 dX1_canTurn_4 rfl rfl
theorem r_66_5 (ls : List Value) (r : Nat) (b0 : Int32) (ws : ai_W) : ai_Run 66 5 ls [.int b0, .ref r] ws = (ai_Call 65 [.ref r, .int b0] ws).bind fun q => ai_Run 66 8 ls (q.1.toList ++ []) q.2 := R_callV hc_66 dX1_canTurn_5 hv_66 (w := 132) rfl (ai_lt3 hf_65 hf_66 hL_65 ho_65 ho_66 rfl) hk_65 (by rw [hn_65]; rfl) rfl (Nat.le_of_ble_eq_true rfl) rfl
theorem r_66_8 (l0 l1 l2 l3 l4 : Value) (a : Int32) (st : List Value) (ws : ai_W) : ai_Run 66 8 [l0, l1, l2, l3, l4] (.int a :: st) ws = ai_Run 66 9 [l0, l1, l2, .int a, l4] st ws := R_istore_n hc_66 dX1_canTurn_8 (Nat.le_of_ble_eq_true rfl) rfl rfl
theorem r_66_9 (l0 l1 l3 l4 : Value) (a : Int32) (st : List Value) (ws : ai_W) : ai_Run 66 9 [l0, l1, .int a, l3, l4] st ws = ai_Run 66 10 [l0, l1, .int a, l3, l4] (.int a :: st) ws := R_iload_n hc_66 dX1_canTurn_9 rfl rfl
theorem r_66_10 (l0 l1 l2 l4 : Value) (a : Int32) (st : List Value) (ws : ai_W) : ai_Run 66 10 [l0, l1, l2, .int a, l4] st ws = ai_Run 66 11 [l0, l1, l2, .int a, l4] (.int a :: st) ws := R_iload_n hc_66 dX1_canTurn_10 rfl rfl
theorem r_66_11 (ls st : List Value) (a b : Int32) (ws : ai_W) : ai_Run 66 11 ls (.int b :: .int a :: st) ws = if b < a then ai_Run 66 26 ls st ws else ai_Run 66 14 ls st ws := R_cmp_gt hc_66 dX1_canTurn_11 rfl rfl
theorem r_66_14 (l1 l2 l3 l4 : Value) (a : Nat) (st : List Value) (ws : ai_W) : ai_Run 66 14 [.ref a, l1, l2, l3, l4] st ws = ai_Run 66 15 [.ref a, l1, l2, l3, l4] (.ref a :: st) ws := R_aload_n hc_66 dX1_canTurn_14 rfl rfl
theorem r_66_15 (ls st : List Value) (a : Nat) (ws : ai_W) : ai_Run 66 15 ls (.ref a :: st) ws = (ai_fget ws a 1 3).bind fun q => ai_Run 66 18 ls (q :: st) ws := R_getf hc_66 dX1_canTurn_15 hv_66 (w := 576) rfl rfl
theorem r_66_18 (ls st : List Value) (ws : ai_W) : ai_Run 66 18 ls st ws = ai_Run 66 19 ls (.int 2 :: st) ws := R_iconst hc_66 dX1_canTurn_18 (by decide) rfl
theorem r_66_19 (l0 l1 l2 l4 : Value) (a : Int32) (st : List Value) (ws : ai_W) : ai_Run 66 19 [l0, l1, l2, .int a, l4] st ws = ai_Run 66 20 [l0, l1, l2, .int a, l4] (.int a :: st) ws := R_iload_n hc_66 dX1_canTurn_19 rfl rfl
theorem r_66_20 (ls : List Value) (r : Nat) (b0 : Int32) (b1 : Int32) (ws : ai_W) : ai_Run 66 20 ls [.int b1, .int b0, .ref r] ws = (ai_Call 47 [.ref r, .int b0, .int b1] ws).bind fun q => ai_Run 66 23 ls (q.1.toList ++ []) q.2 := R_callV hc_66 dX1_canTurn_20 hv_66 (w := 84) rfl (ai_lt3 hf_47 hf_66 hL_47 ho_47 ho_66 rfl) hk_47 (by rw [hn_47]; rfl) rfl (Nat.le_of_ble_eq_true rfl) rfl
theorem r_66_23 (ls st : List Value) (a : Int32) (ws : ai_W) : ai_Run 66 23 ls (.int a :: st) ws = ai_Run 66 24 ls st ws := R_pop hc_66 dX1_canTurn_23 rfl
theorem r_66_24 (ls st : List Value) (ws : ai_W) : ai_Run 66 24 ls st ws = ai_Run 66 25 ls (.int 0 :: st) ws := R_iconst hc_66 dX1_canTurn_24 (by decide) rfl
theorem r_66_25 (ls : List Value) (x : Int32) (ws : ai_W) : ai_Run 66 25 ls [.int x] ws = if ai_pb x = true then some (some (.int x), ws) else none := R_zret hc_66 dX1_canTurn_25 ht_66
theorem r_66_26 (l1 l2 l3 l4 : Value) (a : Nat) (st : List Value) (ws : ai_W) : ai_Run 66 26 [.ref a, l1, l2, l3, l4] st ws = ai_Run 66 27 [.ref a, l1, l2, l3, l4] (.ref a :: st) ws := R_aload_n hc_66 dX1_canTurn_26 rfl rfl
theorem r_66_27 (ls st : List Value) (a : Nat) (ws : ai_W) : ai_Run 66 27 ls (.ref a :: st) ws = (ai_fget ws a 1 0).bind fun q => ai_Run 66 30 ls (q :: st) ws := R_getf hc_66 dX1_canTurn_27 hv_66 (w := 573) rfl rfl
theorem r_66_30 (ls st : List Value) (a : Nat) (ws : ai_W) : ai_Run 66 30 ls (.ref a :: st) ws = (ai_fget ws a 0 3).bind fun q => ai_Run 66 33 ls (q :: st) ws := R_getf hc_66 dX1_canTurn_30 hv_66 (w := 477) rfl rfl
theorem r_66_33 (l0 l2 l3 l4 : Value) (a : Int32) (st : List Value) (ws : ai_W) : ai_Run 66 33 [l0, .int a, l2, l3, l4] st ws = ai_Run 66 34 [l0, .int a, l2, l3, l4] (.int a :: st) ws := R_iload_n hc_66 dX1_canTurn_33 rfl rfl
theorem r_66_34 (ls : List Value) (r : Nat) (b0 : Int32) (ws : ai_W) : ai_Run 66 34 ls [.int b0, .ref r] ws = (ai_Call 12 [.ref r, .int b0] ws).bind fun q => ai_Run 66 37 ls (q.1.toList ++ []) q.2 := R_callV hc_66 dX1_canTurn_34 hv_66 (w := 140) rfl (ai_lt3 hf_12 hf_66 hL_12 ho_12 ho_66 rfl) hk_12 (by rw [hn_12]; rfl) rfl (Nat.le_of_ble_eq_true rfl) rfl
theorem r_66_37 (l0 l1 l2 l3 l4 : Value) (a : Int32) (st : List Value) (ws : ai_W) : ai_Run 66 37 [l0, l1, l2, l3, l4] (.int a :: st) ws = ai_Run 66 39 [l0, l1, l2, l3, .int a] st ws := R_istore hc_66 dX1_canTurn_37 (Nat.le_of_ble_eq_true rfl) rfl rfl
theorem r_66_39 (l0 l1 l2 l3 : Value) (a : Int32) (st : List Value) (ws : ai_W) : ai_Run 66 39 [l0, l1, l2, l3, .int a] st ws = ai_Run 66 41 [l0, l1, l2, l3, .int a] (.int a :: st) ws := R_iload hc_66 dX1_canTurn_39 rfl rfl
theorem r_66_41 (ls st : List Value) (ws : ai_W) : ai_Run 66 41 ls st ws = ai_Run 66 43 ls (.int 6 :: st) ws := R_bipush hc_66 dX1_canTurn_41 (by decide) rfl
theorem r_66_43 (ls st : List Value) (a b : Int32) (ws : ai_W) : ai_Run 66 43 ls (.int b :: .int a :: st) ws = if a < b then ai_Run 66 59 ls st ws else ai_Run 66 46 ls st ws := R_cmp_lt hc_66 dX1_canTurn_43 rfl rfl
theorem r_66_46 (l1 l2 l3 l4 : Value) (a : Nat) (st : List Value) (ws : ai_W) : ai_Run 66 46 [.ref a, l1, l2, l3, l4] st ws = ai_Run 66 47 [.ref a, l1, l2, l3, l4] (.ref a :: st) ws := R_aload_n hc_66 dX1_canTurn_46 rfl rfl
theorem r_66_47 (ls st : List Value) (a : Nat) (ws : ai_W) : ai_Run 66 47 ls (.ref a :: st) ws = (ai_fget ws a 1 3).bind fun q => ai_Run 66 50 ls (q :: st) ws := R_getf hc_66 dX1_canTurn_47 hv_66 (w := 576) rfl rfl
theorem r_66_50 (ls st : List Value) (ws : ai_W) : ai_Run 66 50 ls st ws = ai_Run 66 51 ls (.int 1 :: st) ws := R_iconst hc_66 dX1_canTurn_50 (by decide) rfl
theorem r_66_51 (l0 l1 l2 l3 : Value) (a : Int32) (st : List Value) (ws : ai_W) : ai_Run 66 51 [l0, l1, l2, l3, .int a] st ws = ai_Run 66 53 [l0, l1, l2, l3, .int a] (.int a :: st) ws := R_iload hc_66 dX1_canTurn_51 rfl rfl
theorem r_66_53 (ls : List Value) (r : Nat) (b0 : Int32) (b1 : Int32) (ws : ai_W) : ai_Run 66 53 ls [.int b1, .int b0, .ref r] ws = (ai_Call 47 [.ref r, .int b0, .int b1] ws).bind fun q => ai_Run 66 56 ls (q.1.toList ++ []) q.2 := R_callV hc_66 dX1_canTurn_53 hv_66 (w := 84) rfl (ai_lt3 hf_47 hf_66 hL_47 ho_47 ho_66 rfl) hk_47 (by rw [hn_47]; rfl) rfl (Nat.le_of_ble_eq_true rfl) rfl
theorem r_66_56 (ls st : List Value) (a : Int32) (ws : ai_W) : ai_Run 66 56 ls (.int a :: st) ws = ai_Run 66 57 ls st ws := R_pop hc_66 dX1_canTurn_56 rfl
theorem r_66_57 (ls st : List Value) (ws : ai_W) : ai_Run 66 57 ls st ws = ai_Run 66 58 ls (.int 0 :: st) ws := R_iconst hc_66 dX1_canTurn_57 (by decide) rfl
theorem r_66_58 (ls : List Value) (x : Int32) (ws : ai_W) : ai_Run 66 58 ls [.int x] ws = if ai_pb x = true then some (some (.int x), ws) else none := R_zret hc_66 dX1_canTurn_58 ht_66
theorem r_66_59 (ls st : List Value) (ws : ai_W) : ai_Run 66 59 ls st ws = ai_Run 66 60 ls (.int 1 :: st) ws := R_iconst hc_66 dX1_canTurn_59 (by decide) rfl
theorem r_66_60 (ls : List Value) (x : Int32) (ws : ai_W) : ai_Run 66 60 ls [.int x] ws = if ai_pb x = true then some (some (.int x), ws) else none := R_zret hc_66 dX1_canTurn_60 ht_66
theorem dX0_addTurn_0 : decode cX0_addTurn 0 = .ok (.aload_n 0, 1) := by decide +kernel
theorem dX0_addTurn_1 : decode cX0_addTurn 1 = .ok (.getfield 14, 3) := by decide +kernel
theorem dX0_addTurn_4 : decode cX0_addTurn 4 = .ok (.iload_n 1, 1) := by decide +kernel
theorem dX0_addTurn_5 : decode cX0_addTurn 5 = .ok (.invokevirtual 57, 3) := by decide +kernel
theorem dX0_addTurn_8 : decode cX0_addTurn 8 = .ok (.istore_n 3, 1) := by decide +kernel
theorem dX0_addTurn_9 : decode cX0_addTurn 9 = .ok (.aload_n 0, 1) := by decide +kernel
theorem dX0_addTurn_10 : decode cX0_addTurn 10 = .ok (.getfield 20, 3) := by decide +kernel
theorem dX0_addTurn_13 : decode cX0_addTurn 13 = .ok (.iload_n 1, 1) := by decide +kernel
theorem dX0_addTurn_14 : decode cX0_addTurn 14 = .ok (.bipush 6, 2) := by decide +kernel
theorem dX0_addTurn_16 : decode cX0_addTurn 16 = .ok (.imul, 1) := by decide +kernel
theorem dX0_addTurn_17 : decode cX0_addTurn 17 = .ok (.iload_n 3, 1) := by decide +kernel
theorem dX0_addTurn_18 : decode cX0_addTurn 18 = .ok (.iadd, 1) := by decide +kernel
theorem dX0_addTurn_19 : decode cX0_addTurn 19 = .ok (.iload_n 2, 1) := by decide +kernel
theorem dX0_addTurn_20 : decode cX0_addTurn 20 = .ok (.invokevirtual 67, 3) := by decide +kernel
theorem dX0_addTurn_23 : decode cX0_addTurn 23 = .ok (.aload_n 0, 1) := by decide +kernel
theorem dX0_addTurn_24 : decode cX0_addTurn 24 = .ok (.getfield 14, 3) := by decide +kernel
theorem dX0_addTurn_27 : decode cX0_addTurn 27 = .ok (.iload_n 1, 1) := by decide +kernel
theorem dX0_addTurn_28 : decode cX0_addTurn 28 = .ok (.iload_n 3, 1) := by decide +kernel
theorem dX0_addTurn_29 : decode cX0_addTurn 29 = .ok (.iconst 1, 1) := by decide +kernel
theorem dX0_addTurn_30 : decode cX0_addTurn 30 = .ok (.iadd, 1) := by decide +kernel
theorem dX0_addTurn_31 : decode cX0_addTurn 31 = .ok (.invokevirtual 67, 3) := by decide +kernel
theorem dX0_addTurn_34 : decode cX0_addTurn 34 = .ok (.return_, 1) := by decide +kernel
theorem e_67 (r : Nat) (a0 : Int32) (a1 : Int32) (ws : ai_W) : ai_Call 67 [.ref r, .int a0, .int a1] ws = if ai_isob ws r 0 = true then ai_Run 67 0 [.ref r, .int a0, .int a1, .null] [] ws else none := R_entV hk_67 ⟨⟨rfl, rfl⟩, Nat.le_of_ble_eq_true rfl⟩ rfl
theorem r_67_0 (l1 l2 l3 : Value) (a : Nat) (st : List Value) (ws : ai_W) : ai_Run 67 0 [.ref a, l1, l2, l3] st ws = ai_Run 67 1 [.ref a, l1, l2, l3] (.ref a :: st) ws := R_aload_n hc_67 dX0_addTurn_0 rfl rfl
theorem r_67_1 (ls st : List Value) (a : Nat) (ws : ai_W) : ai_Run 67 1 ls (.ref a :: st) ws = (ai_fget ws a 0 3).bind fun q => ai_Run 67 4 ls (q :: st) ws := R_getf hc_67 dX0_addTurn_1 hv_67 (w := 475) rfl rfl
theorem r_67_4 (l0 l2 l3 : Value) (a : Int32) (st : List Value) (ws : ai_W) : ai_Run 67 4 [l0, .int a, l2, l3] st ws = ai_Run 67 5 [l0, .int a, l2, l3] (.int a :: st) ws := R_iload_n hc_67 dX0_addTurn_4 rfl rfl
theorem r_67_5 (ls : List Value) (r : Nat) (b0 : Int32) (ws : ai_W) : ai_Run 67 5 ls [.int b0, .ref r] ws = (ai_Call 12 [.ref r, .int b0] ws).bind fun q => ai_Run 67 8 ls (q.1.toList ++ []) q.2 := R_callV hc_67 dX0_addTurn_5 hv_67 (w := 119) rfl (ai_lt3 hf_12 hf_67 hL_12 ho_12 ho_67 rfl) hk_12 (by rw [hn_12]; rfl) rfl (Nat.le_of_ble_eq_true rfl) rfl
theorem r_67_8 (l0 l1 l2 l3 : Value) (a : Int32) (st : List Value) (ws : ai_W) : ai_Run 67 8 [l0, l1, l2, l3] (.int a :: st) ws = ai_Run 67 9 [l0, l1, l2, .int a] st ws := R_istore_n hc_67 dX0_addTurn_8 (Nat.le_of_ble_eq_true rfl) rfl rfl
theorem r_67_9 (l1 l2 l3 : Value) (a : Nat) (st : List Value) (ws : ai_W) : ai_Run 67 9 [.ref a, l1, l2, l3] st ws = ai_Run 67 10 [.ref a, l1, l2, l3] (.ref a :: st) ws := R_aload_n hc_67 dX0_addTurn_9 rfl rfl
theorem r_67_10 (ls st : List Value) (a : Nat) (ws : ai_W) : ai_Run 67 10 ls (.ref a :: st) ws = (ai_fget ws a 0 4).bind fun q => ai_Run 67 13 ls (q :: st) ws := R_getf hc_67 dX0_addTurn_10 hv_67 (w := 479) rfl rfl
theorem r_67_13 (l0 l2 l3 : Value) (a : Int32) (st : List Value) (ws : ai_W) : ai_Run 67 13 [l0, .int a, l2, l3] st ws = ai_Run 67 14 [l0, .int a, l2, l3] (.int a :: st) ws := R_iload_n hc_67 dX0_addTurn_13 rfl rfl
theorem r_67_14 (ls st : List Value) (ws : ai_W) : ai_Run 67 14 ls st ws = ai_Run 67 16 ls (.int 6 :: st) ws := R_bipush hc_67 dX0_addTurn_14 (by decide) rfl
theorem r_67_16 (ls st : List Value) (a b : Int32) (ws : ai_W) : ai_Run 67 16 ls (.int b :: .int a :: st) ws = ai_Run 67 17 ls (.int (a * b) :: st) ws := R_imul hc_67 dX0_addTurn_16 rfl
theorem r_67_17 (l0 l1 l2 : Value) (a : Int32) (st : List Value) (ws : ai_W) : ai_Run 67 17 [l0, l1, l2, .int a] st ws = ai_Run 67 18 [l0, l1, l2, .int a] (.int a :: st) ws := R_iload_n hc_67 dX0_addTurn_17 rfl rfl
theorem r_67_18 (ls st : List Value) (a b : Int32) (ws : ai_W) : ai_Run 67 18 ls (.int b :: .int a :: st) ws = ai_Run 67 19 ls (.int (a + b) :: st) ws := R_iadd hc_67 dX0_addTurn_18 rfl
theorem r_67_19 (l0 l1 l3 : Value) (a : Int32) (st : List Value) (ws : ai_W) : ai_Run 67 19 [l0, l1, .int a, l3] st ws = ai_Run 67 20 [l0, l1, .int a, l3] (.int a :: st) ws := R_iload_n hc_67 dX0_addTurn_19 rfl rfl
theorem r_67_20 (ls : List Value) (r : Nat) (b0 : Int32) (b1 : Int32) (ws : ai_W) : ai_Run 67 20 ls [.int b1, .int b0, .ref r] ws = (ai_Call 29 [.ref r, .int b0, .int b1] ws).bind fun q => ai_Run 67 23 ls (q.1.toList ++ []) q.2 := R_callV hc_67 dX0_addTurn_20 hv_67 (w := 145) rfl (ai_lt3 hf_29 hf_67 hL_29 ho_29 ho_67 rfl) hk_29 (by rw [hn_29]; rfl) rfl (Nat.le_of_ble_eq_true rfl) rfl
theorem r_67_23 (l1 l2 l3 : Value) (a : Nat) (st : List Value) (ws : ai_W) : ai_Run 67 23 [.ref a, l1, l2, l3] st ws = ai_Run 67 24 [.ref a, l1, l2, l3] (.ref a :: st) ws := R_aload_n hc_67 dX0_addTurn_23 rfl rfl
theorem r_67_24 (ls st : List Value) (a : Nat) (ws : ai_W) : ai_Run 67 24 ls (.ref a :: st) ws = (ai_fget ws a 0 3).bind fun q => ai_Run 67 27 ls (q :: st) ws := R_getf hc_67 dX0_addTurn_24 hv_67 (w := 475) rfl rfl
theorem r_67_27 (l0 l2 l3 : Value) (a : Int32) (st : List Value) (ws : ai_W) : ai_Run 67 27 [l0, .int a, l2, l3] st ws = ai_Run 67 28 [l0, .int a, l2, l3] (.int a :: st) ws := R_iload_n hc_67 dX0_addTurn_27 rfl rfl
theorem r_67_28 (l0 l1 l2 : Value) (a : Int32) (st : List Value) (ws : ai_W) : ai_Run 67 28 [l0, l1, l2, .int a] st ws = ai_Run 67 29 [l0, l1, l2, .int a] (.int a :: st) ws := R_iload_n hc_67 dX0_addTurn_28 rfl rfl
theorem r_67_29 (ls st : List Value) (ws : ai_W) : ai_Run 67 29 ls st ws = ai_Run 67 30 ls (.int 1 :: st) ws := R_iconst hc_67 dX0_addTurn_29 (by decide) rfl
theorem r_67_30 (ls st : List Value) (a b : Int32) (ws : ai_W) : ai_Run 67 30 ls (.int b :: .int a :: st) ws = ai_Run 67 31 ls (.int (a + b) :: st) ws := R_iadd hc_67 dX0_addTurn_30 rfl
theorem r_67_31 (ls : List Value) (r : Nat) (b0 : Int32) (b1 : Int32) (ws : ai_W) : ai_Run 67 31 ls [.int b1, .int b0, .ref r] ws = (ai_Call 29 [.ref r, .int b0, .int b1] ws).bind fun q => ai_Run 67 34 ls (q.1.toList ++ []) q.2 := R_callV hc_67 dX0_addTurn_31 hv_67 (w := 145) rfl (ai_lt3 hf_29 hf_67 hL_29 ho_29 ho_67 rfl) hk_29 (by rw [hn_29]; rfl) rfl (Nat.le_of_ble_eq_true rfl) rfl
theorem r_67_34 (ls : List Value) (ws : ai_W) : ai_Run 67 34 ls [] ws = some (none, ws) := R_vret hc_67 dX0_addTurn_34 ht_67
theorem dX1_letDie_0 : decode cX1_letDie 0 = .ok (.aload_n 0, 1) := by decide +kernel
theorem dX1_letDie_1 : decode cX1_letDie 1 = .ok (.getfield 9, 3) := by decide +kernel
theorem dX1_letDie_4 : decode cX1_letDie 4 = .ok (.iload_n 1, 1) := by decide +kernel
theorem dX1_letDie_5 : decode cX1_letDie 5 = .ok (.invokevirtual 42, 3) := by decide +kernel
theorem dX1_letDie_8 : decode cX1_letDie 8 = .ok (.ifCond .ne 5, 3) := by decide +kernel
theorem dX1_letDie_11 : decode cX1_letDie 11 = .ok (.iconst (-1), 1) := by decide +kernel
theorem dX1_letDie_12 : decode cX1_letDie 12 = .ok (.ireturn, 1) := by decide +kernel
theorem dX1_letDie_13 : decode cX1_letDie 13 = .ok (.iload_n 2, 1) := by decide +kernel
theorem dX1_letDie_14 : decode cX1_letDie 14 = .ok (.invokestatic 46, 3) := by decide +kernel
theorem dX1_letDie_17 : decode cX1_letDie 17 = .ok (.ifCond .ne 6, 3) := by decide +kernel
theorem dX1_letDie_20 : decode cX1_letDie 20 = .ok (.bipush (-2), 2) := by decide +kernel
theorem dX1_letDie_22 : decode cX1_letDie 22 = .ok (.ireturn, 1) := by decide +kernel
theorem dX1_letDie_23 : decode cX1_letDie 23 = .ok (.aload_n 0, 1) := by decide +kernel
theorem dX1_letDie_24 : decode cX1_letDie 24 = .ok (.getfield 9, 3) := by decide +kernel
theorem dX1_letDie_27 : decode cX1_letDie 27 = .ok (.iload_n 1, 1) := by decide +kernel
theorem dX1_letDie_28 : decode cX1_letDie 28 = .ok (.invokevirtual 49, 3) := by decide +kernel
theorem dX1_letDie_31 : decode cX1_letDie 31 = .ok (.ifCond .eq 20, 3) := by decide +kernel
theorem dX1_letDie_34 : decode cX1_letDie 34 = .ok (.aload_n 0, 1) := by decide +kernel
theorem dX1_letDie_35 : decode cX1_letDie 35 = .ok (.getfield 23, 3) := by decide +kernel
theorem dX1_letDie_38 : decode cX1_letDie 38 = .ok (.iconst 3, 1) := by decide +kernel
theorem dX1_letDie_39 : decode cX1_letDie 39 = .ok (.aload_n 0, 1) := by decide +kernel
theorem dX1_letDie_40 : decode cX1_letDie 40 = .ok (.getfield 9, 3) := by decide +kernel
theorem dX1_letDie_43 : decode cX1_letDie 43 = .ok (.iload_n 1, 1) := by decide +kernel
theorem dX1_letDie_44 : decode cX1_letDie 44 = .ok (.invokevirtual 52, 3) := by decide +kernel
theorem dX1_letDie_47 : decode cX1_letDie 47 = .ok (.invokevirtual 33, 3) := by decide +kernel
theorem dX1_letDie_50 : decode cX1_letDie 50 = .ok (.ireturn, 1) := by decide +kernel
theorem dX1_letDie_51 : decode cX1_letDie 51 = .ok (.aload_n 0, 1) := by decide +kernel
theorem dX1_letDie_52 : decode cX1_letDie 52 = .ok (.iload_n 1, 1) := by decide +kernel
theorem dX1_letDie_53 : decode cX1_letDie 53 = .ok (.iload_n 2, 1) := by decide +kernel
theorem dX1_letDie_54 : decode cX1_letDie 54 = .ok (.invokevirtual 56, 3) := by decide +kernel
theorem dX1_letDie_57 : decode cX1_letDie 57 = .ok (.ifCond .ne 6, 3) := by decide +kernel
theorem dX1_letDie_60 : decode cX1_letDie 60 = .ok (.bipush (-3), 2) := by decide +kernel
theorem dX1_letDie_62 : decode cX1_letDie 62 = .ok (.ireturn, 1) := by decide +kernel
theorem dX1_letDie_63 : decode cX1_letDie 63 = .ok (.aload_n 0, 1) := by decide +kernel
theorem dX1_letDie_64 : decode cX1_letDie 64 = .ok (.getfield 9, 3) := by decide +kernel
theorem dX1_letDie_67 : decode cX1_letDie 67 = .ok (.iload_n 1, 1) := by decide +kernel
theorem dX1_letDie_68 : decode cX1_letDie 68 = .ok (.iload_n 2, 1) := by decide +kernel
theorem dX1_letDie_69 : decode cX1_letDie 69 = .ok (.invokevirtual 60, 3) := by decide +kernel
theorem dX1_letDie_72 : decode cX1_letDie 72 = .ok (.aload_n 0, 1) := by decide +kernel
theorem dX1_letDie_73 : decode cX1_letDie 73 = .ok (.getfield 9, 3) := by decide +kernel
theorem dX1_letDie_76 : decode cX1_letDie 76 = .ok (.iload_n 1, 1) := by decide +kernel
theorem dX1_letDie_77 : decode cX1_letDie 77 = .ok (.invokevirtual 52, 3) := by decide +kernel
theorem dX1_letDie_80 : decode cX1_letDie 80 = .ok (.ireturn, 1) := by decide +kernel
theorem e_68 (r : Nat) (a0 : Int32) (a1 : Int32) (ws : ai_W) : ai_Call 68 [.ref r, .int a0, .int a1] ws = if ai_isob ws r 1 = true then ai_Run 68 0 [.ref r, .int a0, .int a1] [] ws else none := R_entV hk_68 ⟨⟨rfl, rfl⟩, Nat.le_of_ble_eq_true rfl⟩ rfl
theorem r_68_0 (l1 l2 : Value) (a : Nat) (st : List Value) (ws : ai_W) : ai_Run 68 0 [.ref a, l1, l2] st ws = ai_Run 68 1 [.ref a, l1, l2] (.ref a :: st) ws := R_aload_n hc_68 dX1_letDie_0 rfl rfl
theorem r_68_1 (ls st : List Value) (a : Nat) (ws : ai_W) : ai_Run 68 1 ls (.ref a :: st) ws = (ai_fget ws a 1 0).bind fun q => ai_Run 68 4 ls (q :: st) ws := R_getf hc_68 dX1_letDie_1 hv_68 (w := 573) rfl rfl
theorem r_68_4 (l0 l2 : Value) (a : Int32) (st : List Value) (ws : ai_W) : ai_Run 68 4 [l0, .int a, l2] st ws = ai_Run 68 5 [l0, .int a, l2] (.int a :: st) ws := R_iload_n hc_68 dX1_letDie_4 rfl rfl
theorem r_68_5 (ls : List Value) (r : Nat) (b0 : Int32) (ws : ai_W) : ai_Run 68 5 ls [.int b0, .ref r] ws = (ai_Call 62 [.ref r, .int b0] ws).bind fun q => ai_Run 68 8 ls (q.1.toList ++ []) q.2 := R_callV hc_68 dX1_letDie_5 hv_68 (w := 108) rfl (ai_lt3 hf_62 hf_68 hL_62 ho_62 ho_68 rfl) hk_62 (by rw [hn_62]; rfl) rfl (Nat.le_of_ble_eq_true rfl) rfl
theorem r_68_8 (ls st : List Value) (a : Int32) (ws : ai_W) : ai_Run 68 8 ls (.int a :: st) ws = if a = 0 then ai_Run 68 11 ls st ws else ai_Run 68 13 ls st ws := R_if_ne hc_68 dX1_letDie_8 rfl rfl
theorem r_68_11 (ls st : List Value) (ws : ai_W) : ai_Run 68 11 ls st ws = ai_Run 68 12 ls (.int (-1) :: st) ws := R_iconst hc_68 dX1_letDie_11 (by decide) rfl
theorem r_68_12 (ls : List Value) (x : Int32) (ws : ai_W) : ai_Run 68 12 ls [.int x] ws = some (some (.int x), ws) := R_iret hc_68 dX1_letDie_12 ht_68
theorem r_68_13 (l0 l1 : Value) (a : Int32) (st : List Value) (ws : ai_W) : ai_Run 68 13 [l0, l1, .int a] st ws = ai_Run 68 14 [l0, l1, .int a] (.int a :: st) ws := R_iload_n hc_68 dX1_letDie_13 rfl rfl
theorem r_68_14 (ls : List Value) (b0 : Int32) (ws : ai_W) : ai_Run 68 14 ls [.int b0] ws = (ai_Call 63 [.int b0] ws).bind fun q => ai_Run 68 17 ls (q.1.toList ++ []) q.2 := R_callS hc_68 dX1_letDie_14 hv_68 (w := 112) rfl (ai_lt3 hf_63 hf_68 hL_63 ho_63 ho_68 rfl) hk_63 (by rw [hn_63]; rfl) rfl (Nat.le_of_ble_eq_true rfl) rfl
theorem r_68_17 (ls st : List Value) (a : Int32) (ws : ai_W) : ai_Run 68 17 ls (.int a :: st) ws = if a = 0 then ai_Run 68 20 ls st ws else ai_Run 68 23 ls st ws := R_if_ne hc_68 dX1_letDie_17 rfl rfl
theorem r_68_20 (ls st : List Value) (ws : ai_W) : ai_Run 68 20 ls st ws = ai_Run 68 22 ls (.int (-2) :: st) ws := R_bipush hc_68 dX1_letDie_20 (by decide) rfl
theorem r_68_22 (ls : List Value) (x : Int32) (ws : ai_W) : ai_Run 68 22 ls [.int x] ws = some (some (.int x), ws) := R_iret hc_68 dX1_letDie_22 ht_68
theorem r_68_23 (l1 l2 : Value) (a : Nat) (st : List Value) (ws : ai_W) : ai_Run 68 23 [.ref a, l1, l2] st ws = ai_Run 68 24 [.ref a, l1, l2] (.ref a :: st) ws := R_aload_n hc_68 dX1_letDie_23 rfl rfl
theorem r_68_24 (ls st : List Value) (a : Nat) (ws : ai_W) : ai_Run 68 24 ls (.ref a :: st) ws = (ai_fget ws a 1 0).bind fun q => ai_Run 68 27 ls (q :: st) ws := R_getf hc_68 dX1_letDie_24 hv_68 (w := 573) rfl rfl
theorem r_68_27 (l0 l2 : Value) (a : Int32) (st : List Value) (ws : ai_W) : ai_Run 68 27 [l0, .int a, l2] st ws = ai_Run 68 28 [l0, .int a, l2] (.int a :: st) ws := R_iload_n hc_68 dX1_letDie_27 rfl rfl
theorem r_68_28 (ls : List Value) (r : Nat) (b0 : Int32) (ws : ai_W) : ai_Run 68 28 ls [.int b0, .ref r] ws = (ai_Call 64 [.ref r, .int b0] ws).bind fun q => ai_Run 68 31 ls (q.1.toList ++ []) q.2 := R_callV hc_68 dX1_letDie_28 hv_68 (w := 115) rfl (ai_lt3 hf_64 hf_68 hL_64 ho_64 ho_68 rfl) hk_64 (by rw [hn_64]; rfl) rfl (Nat.le_of_ble_eq_true rfl) rfl
theorem r_68_31 (ls st : List Value) (a : Int32) (ws : ai_W) : ai_Run 68 31 ls (.int a :: st) ws = if a = 0 then ai_Run 68 51 ls st ws else ai_Run 68 34 ls st ws := R_if_eq hc_68 dX1_letDie_31 rfl rfl
theorem r_68_34 (l1 l2 : Value) (a : Nat) (st : List Value) (ws : ai_W) : ai_Run 68 34 [.ref a, l1, l2] st ws = ai_Run 68 35 [.ref a, l1, l2] (.ref a :: st) ws := R_aload_n hc_68 dX1_letDie_34 rfl rfl
theorem r_68_35 (ls st : List Value) (a : Nat) (ws : ai_W) : ai_Run 68 35 ls (.ref a :: st) ws = (ai_fget ws a 1 3).bind fun q => ai_Run 68 38 ls (q :: st) ws := R_getf hc_68 dX1_letDie_35 hv_68 (w := 576) rfl rfl
theorem r_68_38 (ls st : List Value) (ws : ai_W) : ai_Run 68 38 ls st ws = ai_Run 68 39 ls (.int 3 :: st) ws := R_iconst hc_68 dX1_letDie_38 (by decide) rfl
theorem r_68_39 (l1 l2 : Value) (a : Nat) (st : List Value) (ws : ai_W) : ai_Run 68 39 [.ref a, l1, l2] st ws = ai_Run 68 40 [.ref a, l1, l2] (.ref a :: st) ws := R_aload_n hc_68 dX1_letDie_39 rfl rfl
theorem r_68_40 (ls st : List Value) (a : Nat) (ws : ai_W) : ai_Run 68 40 ls (.ref a :: st) ws = (ai_fget ws a 1 0).bind fun q => ai_Run 68 43 ls (q :: st) ws := R_getf hc_68 dX1_letDie_40 hv_68 (w := 573) rfl rfl
theorem r_68_43 (l0 l2 : Value) (a : Int32) (st : List Value) (ws : ai_W) : ai_Run 68 43 [l0, .int a, l2] st ws = ai_Run 68 44 [l0, .int a, l2] (.int a :: st) ws := R_iload_n hc_68 dX1_letDie_43 rfl rfl
theorem r_68_44 (ls : List Value) (r : Nat) (b0 : Int32) (s0 s1 : Value) (ws : ai_W) : ai_Run 68 44 ls [.int b0, .ref r, s0, s1] ws = (ai_Call 13 [.ref r, .int b0] ws).bind fun q => ai_Run 68 47 ls (q.1.toList ++ [s0, s1]) q.2 := R_callV hc_68 dX1_letDie_44 hv_68 (w := 123) rfl (ai_lt3 hf_13 hf_68 hL_13 ho_13 ho_68 rfl) hk_13 (by rw [hn_13]; rfl) rfl (Nat.le_of_ble_eq_true rfl) rfl
theorem r_68_47 (ls : List Value) (r : Nat) (b0 : Int32) (b1 : Int32) (ws : ai_W) : ai_Run 68 47 ls [.int b1, .int b0, .ref r] ws = (ai_Call 47 [.ref r, .int b0, .int b1] ws).bind fun q => ai_Run 68 50 ls (q.1.toList ++ []) q.2 := R_callV hc_68 dX1_letDie_47 hv_68 (w := 84) rfl (ai_lt3 hf_47 hf_68 hL_47 ho_47 ho_68 rfl) hk_47 (by rw [hn_47]; rfl) rfl (Nat.le_of_ble_eq_true rfl) rfl
theorem r_68_50 (ls : List Value) (x : Int32) (ws : ai_W) : ai_Run 68 50 ls [.int x] ws = some (some (.int x), ws) := R_iret hc_68 dX1_letDie_50 ht_68
theorem r_68_51 (l1 l2 : Value) (a : Nat) (st : List Value) (ws : ai_W) : ai_Run 68 51 [.ref a, l1, l2] st ws = ai_Run 68 52 [.ref a, l1, l2] (.ref a :: st) ws := R_aload_n hc_68 dX1_letDie_51 rfl rfl
theorem r_68_52 (l0 l2 : Value) (a : Int32) (st : List Value) (ws : ai_W) : ai_Run 68 52 [l0, .int a, l2] st ws = ai_Run 68 53 [l0, .int a, l2] (.int a :: st) ws := R_iload_n hc_68 dX1_letDie_52 rfl rfl
theorem r_68_53 (l0 l1 : Value) (a : Int32) (st : List Value) (ws : ai_W) : ai_Run 68 53 [l0, l1, .int a] st ws = ai_Run 68 54 [l0, l1, .int a] (.int a :: st) ws := R_iload_n hc_68 dX1_letDie_53 rfl rfl
theorem r_68_54 (ls : List Value) (r : Nat) (b0 : Int32) (b1 : Int32) (ws : ai_W) : ai_Run 68 54 ls [.int b1, .int b0, .ref r] ws = (ai_Call 66 [.ref r, .int b0, .int b1] ws).bind fun q => ai_Run 68 57 ls (q.1.toList ++ []) q.2 := R_callV hc_68 dX1_letDie_54 hv_68 (w := 127) rfl (ai_lt3 hf_66 hf_68 hL_66 ho_66 ho_68 rfl) hk_66 (by rw [hn_66]; rfl) rfl (Nat.le_of_ble_eq_true rfl) rfl
theorem r_68_57 (ls st : List Value) (a : Int32) (ws : ai_W) : ai_Run 68 57 ls (.int a :: st) ws = if a = 0 then ai_Run 68 60 ls st ws else ai_Run 68 63 ls st ws := R_if_ne hc_68 dX1_letDie_57 rfl rfl
theorem r_68_60 (ls st : List Value) (ws : ai_W) : ai_Run 68 60 ls st ws = ai_Run 68 62 ls (.int (-3) :: st) ws := R_bipush hc_68 dX1_letDie_60 (by decide) rfl
theorem r_68_62 (ls : List Value) (x : Int32) (ws : ai_W) : ai_Run 68 62 ls [.int x] ws = some (some (.int x), ws) := R_iret hc_68 dX1_letDie_62 ht_68
theorem r_68_63 (l1 l2 : Value) (a : Nat) (st : List Value) (ws : ai_W) : ai_Run 68 63 [.ref a, l1, l2] st ws = ai_Run 68 64 [.ref a, l1, l2] (.ref a :: st) ws := R_aload_n hc_68 dX1_letDie_63 rfl rfl
theorem r_68_64 (ls st : List Value) (a : Nat) (ws : ai_W) : ai_Run 68 64 ls (.ref a :: st) ws = (ai_fget ws a 1 0).bind fun q => ai_Run 68 67 ls (q :: st) ws := R_getf hc_68 dX1_letDie_64 hv_68 (w := 573) rfl rfl
theorem r_68_67 (l0 l2 : Value) (a : Int32) (st : List Value) (ws : ai_W) : ai_Run 68 67 [l0, .int a, l2] st ws = ai_Run 68 68 [l0, .int a, l2] (.int a :: st) ws := R_iload_n hc_68 dX1_letDie_67 rfl rfl
theorem r_68_68 (l0 l1 : Value) (a : Int32) (st : List Value) (ws : ai_W) : ai_Run 68 68 [l0, l1, .int a] st ws = ai_Run 68 69 [l0, l1, .int a] (.int a :: st) ws := R_iload_n hc_68 dX1_letDie_68 rfl rfl
theorem r_68_69 (ls : List Value) (r : Nat) (b0 : Int32) (b1 : Int32) (ws : ai_W) : ai_Run 68 69 ls [.int b1, .int b0, .ref r] ws = (ai_Call 67 [.ref r, .int b0, .int b1] ws).bind fun q => ai_Run 68 72 ls (q.1.toList ++ []) q.2 := R_callV hc_68 dX1_letDie_69 hv_68 (w := 141) rfl (ai_lt3 hf_67 hf_68 hL_67 ho_67 ho_68 rfl) hk_67 (by rw [hn_67]; rfl) rfl (Nat.le_of_ble_eq_true rfl) rfl
theorem r_68_72 (l1 l2 : Value) (a : Nat) (st : List Value) (ws : ai_W) : ai_Run 68 72 [.ref a, l1, l2] st ws = ai_Run 68 73 [.ref a, l1, l2] (.ref a :: st) ws := R_aload_n hc_68 dX1_letDie_72 rfl rfl
theorem r_68_73 (ls st : List Value) (a : Nat) (ws : ai_W) : ai_Run 68 73 ls (.ref a :: st) ws = (ai_fget ws a 1 0).bind fun q => ai_Run 68 76 ls (q :: st) ws := R_getf hc_68 dX1_letDie_73 hv_68 (w := 573) rfl rfl
theorem r_68_76 (l0 l2 : Value) (a : Int32) (st : List Value) (ws : ai_W) : ai_Run 68 76 [l0, .int a, l2] st ws = ai_Run 68 77 [l0, .int a, l2] (.int a :: st) ws := R_iload_n hc_68 dX1_letDie_76 rfl rfl
theorem r_68_77 (ls : List Value) (r : Nat) (b0 : Int32) (ws : ai_W) : ai_Run 68 77 ls [.int b0, .ref r] ws = (ai_Call 13 [.ref r, .int b0] ws).bind fun q => ai_Run 68 80 ls (q.1.toList ++ []) q.2 := R_callV hc_68 dX1_letDie_77 hv_68 (w := 123) rfl (ai_lt3 hf_13 hf_68 hL_13 ho_13 ho_68 rfl) hk_13 (by rw [hn_13]; rfl) rfl (Nat.le_of_ble_eq_true rfl) rfl
theorem r_68_80 (ls : List Value) (x : Int32) (ws : ai_W) : ai_Run 68 80 ls [.int x] ws = some (some (.int x), ws) := R_iret hc_68 dX1_letDie_80 ht_68
theorem dX1_letRise_0 : decode cX1_letRise 0 = .ok (.aload_n 0, 1) := by decide +kernel
theorem dX1_letRise_1 : decode cX1_letRise 1 = .ok (.getfield 9, 3) := by decide +kernel
theorem dX1_letRise_4 : decode cX1_letRise 4 = .ok (.iload_n 1, 1) := by decide +kernel
theorem dX1_letRise_5 : decode cX1_letRise 5 = .ok (.invokevirtual 42, 3) := by decide +kernel
theorem dX1_letRise_8 : decode cX1_letRise 8 = .ok (.ifCond .ne 5, 3) := by decide +kernel
theorem dX1_letRise_11 : decode cX1_letRise 11 = .ok (.iconst (-1), 1) := by decide +kernel
theorem dX1_letRise_12 : decode cX1_letRise 12 = .ok (.ireturn, 1) := by decide +kernel
theorem dX1_letRise_13 : decode cX1_letRise 13 = .ok (.iload_n 2, 1) := by decide +kernel
theorem dX1_letRise_14 : decode cX1_letRise 14 = .ok (.invokestatic 46, 3) := by decide +kernel
theorem dX1_letRise_17 : decode cX1_letRise 17 = .ok (.ifCond .ne 6, 3) := by decide +kernel
theorem dX1_letRise_20 : decode cX1_letRise 20 = .ok (.bipush (-2), 2) := by decide +kernel
theorem dX1_letRise_22 : decode cX1_letRise 22 = .ok (.ireturn, 1) := by decide +kernel
theorem dX1_letRise_23 : decode cX1_letRise 23 = .ok (.aload_n 0, 1) := by decide +kernel
theorem dX1_letRise_24 : decode cX1_letRise 24 = .ok (.getfield 9, 3) := by decide +kernel
theorem dX1_letRise_27 : decode cX1_letRise 27 = .ok (.iload_n 1, 1) := by decide +kernel
theorem dX1_letRise_28 : decode cX1_letRise 28 = .ok (.invokevirtual 49, 3) := by decide +kernel
theorem dX1_letRise_31 : decode cX1_letRise 31 = .ok (.ifCond .ne 20, 3) := by decide +kernel
theorem dX1_letRise_34 : decode cX1_letRise 34 = .ok (.aload_n 0, 1) := by decide +kernel
theorem dX1_letRise_35 : decode cX1_letRise 35 = .ok (.getfield 23, 3) := by decide +kernel
theorem dX1_letRise_38 : decode cX1_letRise 38 = .ok (.iconst 4, 1) := by decide +kernel
theorem dX1_letRise_39 : decode cX1_letRise 39 = .ok (.aload_n 0, 1) := by decide +kernel
theorem dX1_letRise_40 : decode cX1_letRise 40 = .ok (.getfield 9, 3) := by decide +kernel
theorem dX1_letRise_43 : decode cX1_letRise 43 = .ok (.iload_n 1, 1) := by decide +kernel
theorem dX1_letRise_44 : decode cX1_letRise 44 = .ok (.invokevirtual 52, 3) := by decide +kernel
theorem dX1_letRise_47 : decode cX1_letRise 47 = .ok (.invokevirtual 33, 3) := by decide +kernel
theorem dX1_letRise_50 : decode cX1_letRise 50 = .ok (.ireturn, 1) := by decide +kernel
theorem dX1_letRise_51 : decode cX1_letRise 51 = .ok (.aload_n 0, 1) := by decide +kernel
theorem dX1_letRise_52 : decode cX1_letRise 52 = .ok (.iload_n 1, 1) := by decide +kernel
theorem dX1_letRise_53 : decode cX1_letRise 53 = .ok (.iload_n 2, 1) := by decide +kernel
theorem dX1_letRise_54 : decode cX1_letRise 54 = .ok (.invokevirtual 56, 3) := by decide +kernel
theorem dX1_letRise_57 : decode cX1_letRise 57 = .ok (.ifCond .ne 6, 3) := by decide +kernel
theorem dX1_letRise_60 : decode cX1_letRise 60 = .ok (.bipush (-3), 2) := by decide +kernel
theorem dX1_letRise_62 : decode cX1_letRise 62 = .ok (.ireturn, 1) := by decide +kernel
theorem dX1_letRise_63 : decode cX1_letRise 63 = .ok (.aload_n 0, 1) := by decide +kernel
theorem dX1_letRise_64 : decode cX1_letRise 64 = .ok (.getfield 9, 3) := by decide +kernel
theorem dX1_letRise_67 : decode cX1_letRise 67 = .ok (.iload_n 1, 1) := by decide +kernel
theorem dX1_letRise_68 : decode cX1_letRise 68 = .ok (.invokevirtual 64, 3) := by decide +kernel
theorem dX1_letRise_71 : decode cX1_letRise 71 = .ok (.istore_n 3, 1) := by decide +kernel
theorem dX1_letRise_72 : decode cX1_letRise 72 = .ok (.aload_n 0, 1) := by decide +kernel
theorem dX1_letRise_73 : decode cX1_letRise 73 = .ok (.getfield 9, 3) := by decide +kernel
theorem dX1_letRise_76 : decode cX1_letRise 76 = .ok (.iload_n 1, 1) := by decide +kernel
theorem dX1_letRise_77 : decode cX1_letRise 77 = .ok (.iload_n 2, 1) := by decide +kernel
theorem dX1_letRise_78 : decode cX1_letRise 78 = .ok (.invokevirtual 60, 3) := by decide +kernel
theorem dX1_letRise_81 : decode cX1_letRise 81 = .ok (.iload_n 2, 1) := by decide +kernel
theorem dX1_letRise_82 : decode cX1_letRise 82 = .ok (.iload_n 3, 1) := by decide +kernel
theorem dX1_letRise_83 : decode cX1_letRise 83 = .ok (.isub, 1) := by decide +kernel
theorem dX1_letRise_84 : decode cX1_letRise 84 = .ok (.ireturn, 1) := by decide +kernel
theorem e_69 (r : Nat) (a0 : Int32) (a1 : Int32) (ws : ai_W) : ai_Call 69 [.ref r, .int a0, .int a1] ws = if ai_isob ws r 1 = true then ai_Run 69 0 [.ref r, .int a0, .int a1, .null] [] ws else none := R_entV hk_69 ⟨⟨rfl, rfl⟩, Nat.le_of_ble_eq_true rfl⟩ rfl
theorem r_69_0 (l1 l2 l3 : Value) (a : Nat) (st : List Value) (ws : ai_W) : ai_Run 69 0 [.ref a, l1, l2, l3] st ws = ai_Run 69 1 [.ref a, l1, l2, l3] (.ref a :: st) ws := R_aload_n hc_69 dX1_letRise_0 rfl rfl
theorem r_69_1 (ls st : List Value) (a : Nat) (ws : ai_W) : ai_Run 69 1 ls (.ref a :: st) ws = (ai_fget ws a 1 0).bind fun q => ai_Run 69 4 ls (q :: st) ws := R_getf hc_69 dX1_letRise_1 hv_69 (w := 573) rfl rfl
theorem r_69_4 (l0 l2 l3 : Value) (a : Int32) (st : List Value) (ws : ai_W) : ai_Run 69 4 [l0, .int a, l2, l3] st ws = ai_Run 69 5 [l0, .int a, l2, l3] (.int a :: st) ws := R_iload_n hc_69 dX1_letRise_4 rfl rfl
theorem r_69_5 (ls : List Value) (r : Nat) (b0 : Int32) (ws : ai_W) : ai_Run 69 5 ls [.int b0, .ref r] ws = (ai_Call 62 [.ref r, .int b0] ws).bind fun q => ai_Run 69 8 ls (q.1.toList ++ []) q.2 := R_callV hc_69 dX1_letRise_5 hv_69 (w := 108) rfl (ai_lt3 hf_62 hf_69 hL_62 ho_62 ho_69 rfl) hk_62 (by rw [hn_62]; rfl) rfl (Nat.le_of_ble_eq_true rfl) rfl
theorem r_69_8 (ls st : List Value) (a : Int32) (ws : ai_W) : ai_Run 69 8 ls (.int a :: st) ws = if a = 0 then ai_Run 69 11 ls st ws else ai_Run 69 13 ls st ws := R_if_ne hc_69 dX1_letRise_8 rfl rfl
theorem r_69_11 (ls st : List Value) (ws : ai_W) : ai_Run 69 11 ls st ws = ai_Run 69 12 ls (.int (-1) :: st) ws := R_iconst hc_69 dX1_letRise_11 (by decide) rfl
theorem r_69_12 (ls : List Value) (x : Int32) (ws : ai_W) : ai_Run 69 12 ls [.int x] ws = some (some (.int x), ws) := R_iret hc_69 dX1_letRise_12 ht_69
theorem r_69_13 (l0 l1 l3 : Value) (a : Int32) (st : List Value) (ws : ai_W) : ai_Run 69 13 [l0, l1, .int a, l3] st ws = ai_Run 69 14 [l0, l1, .int a, l3] (.int a :: st) ws := R_iload_n hc_69 dX1_letRise_13 rfl rfl
theorem r_69_14 (ls : List Value) (b0 : Int32) (ws : ai_W) : ai_Run 69 14 ls [.int b0] ws = (ai_Call 63 [.int b0] ws).bind fun q => ai_Run 69 17 ls (q.1.toList ++ []) q.2 := R_callS hc_69 dX1_letRise_14 hv_69 (w := 112) rfl (ai_lt3 hf_63 hf_69 hL_63 ho_63 ho_69 rfl) hk_63 (by rw [hn_63]; rfl) rfl (Nat.le_of_ble_eq_true rfl) rfl
theorem r_69_17 (ls st : List Value) (a : Int32) (ws : ai_W) : ai_Run 69 17 ls (.int a :: st) ws = if a = 0 then ai_Run 69 20 ls st ws else ai_Run 69 23 ls st ws := R_if_ne hc_69 dX1_letRise_17 rfl rfl
theorem r_69_20 (ls st : List Value) (ws : ai_W) : ai_Run 69 20 ls st ws = ai_Run 69 22 ls (.int (-2) :: st) ws := R_bipush hc_69 dX1_letRise_20 (by decide) rfl
theorem r_69_22 (ls : List Value) (x : Int32) (ws : ai_W) : ai_Run 69 22 ls [.int x] ws = some (some (.int x), ws) := R_iret hc_69 dX1_letRise_22 ht_69
theorem r_69_23 (l1 l2 l3 : Value) (a : Nat) (st : List Value) (ws : ai_W) : ai_Run 69 23 [.ref a, l1, l2, l3] st ws = ai_Run 69 24 [.ref a, l1, l2, l3] (.ref a :: st) ws := R_aload_n hc_69 dX1_letRise_23 rfl rfl
theorem r_69_24 (ls st : List Value) (a : Nat) (ws : ai_W) : ai_Run 69 24 ls (.ref a :: st) ws = (ai_fget ws a 1 0).bind fun q => ai_Run 69 27 ls (q :: st) ws := R_getf hc_69 dX1_letRise_24 hv_69 (w := 573) rfl rfl
theorem r_69_27 (l0 l2 l3 : Value) (a : Int32) (st : List Value) (ws : ai_W) : ai_Run 69 27 [l0, .int a, l2, l3] st ws = ai_Run 69 28 [l0, .int a, l2, l3] (.int a :: st) ws := R_iload_n hc_69 dX1_letRise_27 rfl rfl
theorem r_69_28 (ls : List Value) (r : Nat) (b0 : Int32) (ws : ai_W) : ai_Run 69 28 ls [.int b0, .ref r] ws = (ai_Call 64 [.ref r, .int b0] ws).bind fun q => ai_Run 69 31 ls (q.1.toList ++ []) q.2 := R_callV hc_69 dX1_letRise_28 hv_69 (w := 115) rfl (ai_lt3 hf_64 hf_69 hL_64 ho_64 ho_69 rfl) hk_64 (by rw [hn_64]; rfl) rfl (Nat.le_of_ble_eq_true rfl) rfl
theorem r_69_31 (ls st : List Value) (a : Int32) (ws : ai_W) : ai_Run 69 31 ls (.int a :: st) ws = if a = 0 then ai_Run 69 34 ls st ws else ai_Run 69 51 ls st ws := R_if_ne hc_69 dX1_letRise_31 rfl rfl
theorem r_69_34 (l1 l2 l3 : Value) (a : Nat) (st : List Value) (ws : ai_W) : ai_Run 69 34 [.ref a, l1, l2, l3] st ws = ai_Run 69 35 [.ref a, l1, l2, l3] (.ref a :: st) ws := R_aload_n hc_69 dX1_letRise_34 rfl rfl
theorem r_69_35 (ls st : List Value) (a : Nat) (ws : ai_W) : ai_Run 69 35 ls (.ref a :: st) ws = (ai_fget ws a 1 3).bind fun q => ai_Run 69 38 ls (q :: st) ws := R_getf hc_69 dX1_letRise_35 hv_69 (w := 576) rfl rfl
theorem r_69_38 (ls st : List Value) (ws : ai_W) : ai_Run 69 38 ls st ws = ai_Run 69 39 ls (.int 4 :: st) ws := R_iconst hc_69 dX1_letRise_38 (by decide) rfl
theorem r_69_39 (l1 l2 l3 : Value) (a : Nat) (st : List Value) (ws : ai_W) : ai_Run 69 39 [.ref a, l1, l2, l3] st ws = ai_Run 69 40 [.ref a, l1, l2, l3] (.ref a :: st) ws := R_aload_n hc_69 dX1_letRise_39 rfl rfl
theorem r_69_40 (ls st : List Value) (a : Nat) (ws : ai_W) : ai_Run 69 40 ls (.ref a :: st) ws = (ai_fget ws a 1 0).bind fun q => ai_Run 69 43 ls (q :: st) ws := R_getf hc_69 dX1_letRise_40 hv_69 (w := 573) rfl rfl
theorem r_69_43 (l0 l2 l3 : Value) (a : Int32) (st : List Value) (ws : ai_W) : ai_Run 69 43 [l0, .int a, l2, l3] st ws = ai_Run 69 44 [l0, .int a, l2, l3] (.int a :: st) ws := R_iload_n hc_69 dX1_letRise_43 rfl rfl
theorem r_69_44 (ls : List Value) (r : Nat) (b0 : Int32) (s0 s1 : Value) (ws : ai_W) : ai_Run 69 44 ls [.int b0, .ref r, s0, s1] ws = (ai_Call 13 [.ref r, .int b0] ws).bind fun q => ai_Run 69 47 ls (q.1.toList ++ [s0, s1]) q.2 := R_callV hc_69 dX1_letRise_44 hv_69 (w := 123) rfl (ai_lt3 hf_13 hf_69 hL_13 ho_13 ho_69 rfl) hk_13 (by rw [hn_13]; rfl) rfl (Nat.le_of_ble_eq_true rfl) rfl
theorem r_69_47 (ls : List Value) (r : Nat) (b0 : Int32) (b1 : Int32) (ws : ai_W) : ai_Run 69 47 ls [.int b1, .int b0, .ref r] ws = (ai_Call 47 [.ref r, .int b0, .int b1] ws).bind fun q => ai_Run 69 50 ls (q.1.toList ++ []) q.2 := R_callV hc_69 dX1_letRise_47 hv_69 (w := 84) rfl (ai_lt3 hf_47 hf_69 hL_47 ho_47 ho_69 rfl) hk_47 (by rw [hn_47]; rfl) rfl (Nat.le_of_ble_eq_true rfl) rfl
theorem r_69_50 (ls : List Value) (x : Int32) (ws : ai_W) : ai_Run 69 50 ls [.int x] ws = some (some (.int x), ws) := R_iret hc_69 dX1_letRise_50 ht_69
theorem r_69_51 (l1 l2 l3 : Value) (a : Nat) (st : List Value) (ws : ai_W) : ai_Run 69 51 [.ref a, l1, l2, l3] st ws = ai_Run 69 52 [.ref a, l1, l2, l3] (.ref a :: st) ws := R_aload_n hc_69 dX1_letRise_51 rfl rfl
theorem r_69_52 (l0 l2 l3 : Value) (a : Int32) (st : List Value) (ws : ai_W) : ai_Run 69 52 [l0, .int a, l2, l3] st ws = ai_Run 69 53 [l0, .int a, l2, l3] (.int a :: st) ws := R_iload_n hc_69 dX1_letRise_52 rfl rfl
theorem r_69_53 (l0 l1 l3 : Value) (a : Int32) (st : List Value) (ws : ai_W) : ai_Run 69 53 [l0, l1, .int a, l3] st ws = ai_Run 69 54 [l0, l1, .int a, l3] (.int a :: st) ws := R_iload_n hc_69 dX1_letRise_53 rfl rfl
theorem r_69_54 (ls : List Value) (r : Nat) (b0 : Int32) (b1 : Int32) (ws : ai_W) : ai_Run 69 54 ls [.int b1, .int b0, .ref r] ws = (ai_Call 66 [.ref r, .int b0, .int b1] ws).bind fun q => ai_Run 69 57 ls (q.1.toList ++ []) q.2 := R_callV hc_69 dX1_letRise_54 hv_69 (w := 127) rfl (ai_lt3 hf_66 hf_69 hL_66 ho_66 ho_69 rfl) hk_66 (by rw [hn_66]; rfl) rfl (Nat.le_of_ble_eq_true rfl) rfl
theorem r_69_57 (ls st : List Value) (a : Int32) (ws : ai_W) : ai_Run 69 57 ls (.int a :: st) ws = if a = 0 then ai_Run 69 60 ls st ws else ai_Run 69 63 ls st ws := R_if_ne hc_69 dX1_letRise_57 rfl rfl
theorem r_69_60 (ls st : List Value) (ws : ai_W) : ai_Run 69 60 ls st ws = ai_Run 69 62 ls (.int (-3) :: st) ws := R_bipush hc_69 dX1_letRise_60 (by decide) rfl
theorem r_69_62 (ls : List Value) (x : Int32) (ws : ai_W) : ai_Run 69 62 ls [.int x] ws = some (some (.int x), ws) := R_iret hc_69 dX1_letRise_62 ht_69
theorem r_69_63 (l1 l2 l3 : Value) (a : Nat) (st : List Value) (ws : ai_W) : ai_Run 69 63 [.ref a, l1, l2, l3] st ws = ai_Run 69 64 [.ref a, l1, l2, l3] (.ref a :: st) ws := R_aload_n hc_69 dX1_letRise_63 rfl rfl
theorem r_69_64 (ls st : List Value) (a : Nat) (ws : ai_W) : ai_Run 69 64 ls (.ref a :: st) ws = (ai_fget ws a 1 0).bind fun q => ai_Run 69 67 ls (q :: st) ws := R_getf hc_69 dX1_letRise_64 hv_69 (w := 573) rfl rfl
theorem r_69_67 (l0 l2 l3 : Value) (a : Int32) (st : List Value) (ws : ai_W) : ai_Run 69 67 [l0, .int a, l2, l3] st ws = ai_Run 69 68 [l0, .int a, l2, l3] (.int a :: st) ws := R_iload_n hc_69 dX1_letRise_67 rfl rfl
theorem r_69_68 (ls : List Value) (r : Nat) (b0 : Int32) (ws : ai_W) : ai_Run 69 68 ls [.int b0, .ref r] ws = (ai_Call 65 [.ref r, .int b0] ws).bind fun q => ai_Run 69 71 ls (q.1.toList ++ []) q.2 := R_callV hc_69 dX1_letRise_68 hv_69 (w := 132) rfl (ai_lt3 hf_65 hf_69 hL_65 ho_65 ho_69 rfl) hk_65 (by rw [hn_65]; rfl) rfl (Nat.le_of_ble_eq_true rfl) rfl
theorem r_69_71 (l0 l1 l2 l3 : Value) (a : Int32) (st : List Value) (ws : ai_W) : ai_Run 69 71 [l0, l1, l2, l3] (.int a :: st) ws = ai_Run 69 72 [l0, l1, l2, .int a] st ws := R_istore_n hc_69 dX1_letRise_71 (Nat.le_of_ble_eq_true rfl) rfl rfl
theorem r_69_72 (l1 l2 l3 : Value) (a : Nat) (st : List Value) (ws : ai_W) : ai_Run 69 72 [.ref a, l1, l2, l3] st ws = ai_Run 69 73 [.ref a, l1, l2, l3] (.ref a :: st) ws := R_aload_n hc_69 dX1_letRise_72 rfl rfl
theorem r_69_73 (ls st : List Value) (a : Nat) (ws : ai_W) : ai_Run 69 73 ls (.ref a :: st) ws = (ai_fget ws a 1 0).bind fun q => ai_Run 69 76 ls (q :: st) ws := R_getf hc_69 dX1_letRise_73 hv_69 (w := 573) rfl rfl
theorem r_69_76 (l0 l2 l3 : Value) (a : Int32) (st : List Value) (ws : ai_W) : ai_Run 69 76 [l0, .int a, l2, l3] st ws = ai_Run 69 77 [l0, .int a, l2, l3] (.int a :: st) ws := R_iload_n hc_69 dX1_letRise_76 rfl rfl
theorem r_69_77 (l0 l1 l3 : Value) (a : Int32) (st : List Value) (ws : ai_W) : ai_Run 69 77 [l0, l1, .int a, l3] st ws = ai_Run 69 78 [l0, l1, .int a, l3] (.int a :: st) ws := R_iload_n hc_69 dX1_letRise_77 rfl rfl
theorem r_69_78 (ls : List Value) (r : Nat) (b0 : Int32) (b1 : Int32) (ws : ai_W) : ai_Run 69 78 ls [.int b1, .int b0, .ref r] ws = (ai_Call 67 [.ref r, .int b0, .int b1] ws).bind fun q => ai_Run 69 81 ls (q.1.toList ++ []) q.2 := R_callV hc_69 dX1_letRise_78 hv_69 (w := 141) rfl (ai_lt3 hf_67 hf_69 hL_67 ho_67 ho_69 rfl) hk_67 (by rw [hn_67]; rfl) rfl (Nat.le_of_ble_eq_true rfl) rfl
theorem r_69_81 (l0 l1 l3 : Value) (a : Int32) (st : List Value) (ws : ai_W) : ai_Run 69 81 [l0, l1, .int a, l3] st ws = ai_Run 69 82 [l0, l1, .int a, l3] (.int a :: st) ws := R_iload_n hc_69 dX1_letRise_81 rfl rfl
theorem r_69_82 (l0 l1 l2 : Value) (a : Int32) (st : List Value) (ws : ai_W) : ai_Run 69 82 [l0, l1, l2, .int a] st ws = ai_Run 69 83 [l0, l1, l2, .int a] (.int a :: st) ws := R_iload_n hc_69 dX1_letRise_82 rfl rfl
theorem r_69_83 (ls st : List Value) (a b : Int32) (ws : ai_W) : ai_Run 69 83 ls (.int b :: .int a :: st) ws = ai_Run 69 84 ls (.int (a - b) :: st) ws := R_isub hc_69 dX1_letRise_83 rfl
theorem r_69_84 (ls : List Value) (x : Int32) (ws : ai_W) : ai_Run 69 84 ls [.int x] ws = some (some (.int x), ws) := R_iret hc_69 dX1_letRise_84 ht_69
theorem dX0_setCulprit_0 : decode cX0_setCulprit 0 = .ok (.aload_n 0, 1) := by decide +kernel
theorem dX0_setCulprit_1 : decode cX0_setCulprit 1 = .ok (.getfield 23, 3) := by decide +kernel
theorem dX0_setCulprit_4 : decode cX0_setCulprit 4 = .ok (.iload_n 1, 1) := by decide +kernel
theorem dX0_setCulprit_5 : decode cX0_setCulprit 5 = .ok (.iconst 3, 1) := by decide +kernel
theorem dX0_setCulprit_6 : decode cX0_setCulprit 6 = .ok (.imul, 1) := by decide +kernel
theorem dX0_setCulprit_7 : decode cX0_setCulprit 7 = .ok (.iload_n 2, 1) := by decide +kernel
theorem dX0_setCulprit_8 : decode cX0_setCulprit 8 = .ok (.iadd, 1) := by decide +kernel
theorem dX0_setCulprit_9 : decode cX0_setCulprit 9 = .ok (.iload_n 3, 1) := by decide +kernel
theorem dX0_setCulprit_10 : decode cX0_setCulprit 10 = .ok (.invokevirtual 67, 3) := by decide +kernel
theorem dX0_setCulprit_13 : decode cX0_setCulprit 13 = .ok (.return_, 1) := by decide +kernel
theorem e_70 (r : Nat) (a0 : Int32) (a1 : Int32) (a2 : Int32) (ws : ai_W) : ai_Call 70 [.ref r, .int a0, .int a1, .int a2] ws = if ai_isob ws r 0 = true then ai_Run 70 0 [.ref r, .int a0, .int a1, .int a2] [] ws else none := R_entV hk_70 ⟨⟨rfl, rfl⟩, Nat.le_of_ble_eq_true rfl⟩ rfl
theorem r_70_0 (l1 l2 l3 : Value) (a : Nat) (st : List Value) (ws : ai_W) : ai_Run 70 0 [.ref a, l1, l2, l3] st ws = ai_Run 70 1 [.ref a, l1, l2, l3] (.ref a :: st) ws := R_aload_n hc_70 dX0_setCulprit_0 rfl rfl
theorem r_70_1 (ls st : List Value) (a : Nat) (ws : ai_W) : ai_Run 70 1 ls (.ref a :: st) ws = (ai_fget ws a 0 5).bind fun q => ai_Run 70 4 ls (q :: st) ws := R_getf hc_70 dX0_setCulprit_1 hv_70 (w := 481) rfl rfl
theorem r_70_4 (l0 l2 l3 : Value) (a : Int32) (st : List Value) (ws : ai_W) : ai_Run 70 4 [l0, .int a, l2, l3] st ws = ai_Run 70 5 [l0, .int a, l2, l3] (.int a :: st) ws := R_iload_n hc_70 dX0_setCulprit_4 rfl rfl
theorem r_70_5 (ls st : List Value) (ws : ai_W) : ai_Run 70 5 ls st ws = ai_Run 70 6 ls (.int 3 :: st) ws := R_iconst hc_70 dX0_setCulprit_5 (by decide) rfl
theorem r_70_6 (ls st : List Value) (a b : Int32) (ws : ai_W) : ai_Run 70 6 ls (.int b :: .int a :: st) ws = ai_Run 70 7 ls (.int (a * b) :: st) ws := R_imul hc_70 dX0_setCulprit_6 rfl
theorem r_70_7 (l0 l1 l3 : Value) (a : Int32) (st : List Value) (ws : ai_W) : ai_Run 70 7 [l0, l1, .int a, l3] st ws = ai_Run 70 8 [l0, l1, .int a, l3] (.int a :: st) ws := R_iload_n hc_70 dX0_setCulprit_7 rfl rfl
theorem r_70_8 (ls st : List Value) (a b : Int32) (ws : ai_W) : ai_Run 70 8 ls (.int b :: .int a :: st) ws = ai_Run 70 9 ls (.int (a + b) :: st) ws := R_iadd hc_70 dX0_setCulprit_8 rfl
theorem r_70_9 (l0 l1 l2 : Value) (a : Int32) (st : List Value) (ws : ai_W) : ai_Run 70 9 [l0, l1, l2, .int a] st ws = ai_Run 70 10 [l0, l1, l2, .int a] (.int a :: st) ws := R_iload_n hc_70 dX0_setCulprit_9 rfl rfl
theorem r_70_10 (ls : List Value) (r : Nat) (b0 : Int32) (b1 : Int32) (ws : ai_W) : ai_Run 70 10 ls [.int b1, .int b0, .ref r] ws = (ai_Call 29 [.ref r, .int b0, .int b1] ws).bind fun q => ai_Run 70 13 ls (q.1.toList ++ []) q.2 := R_callV hc_70 dX0_setCulprit_10 hv_70 (w := 145) rfl (ai_lt3 hf_29 hf_70 hL_29 ho_29 ho_70 rfl) hk_29 (by rw [hn_29]; rfl) rfl (Nat.le_of_ble_eq_true rfl) rfl
theorem r_70_13 (ls : List Value) (ws : ai_W) : ai_Run 70 13 ls [] ws = some (none, ws) := R_vret hc_70 dX0_setCulprit_13 ht_70
theorem dX0_removeLastTurn_0 : decode cX0_removeLastTurn 0 = .ok (.aload_n 0, 1) := by decide +kernel
theorem dX0_removeLastTurn_1 : decode cX0_removeLastTurn 1 = .ok (.getfield 14, 3) := by decide +kernel
theorem dX0_removeLastTurn_4 : decode cX0_removeLastTurn 4 = .ok (.iload_n 1, 1) := by decide +kernel
theorem dX0_removeLastTurn_5 : decode cX0_removeLastTurn 5 = .ok (.invokevirtual 57, 3) := by decide +kernel
theorem dX0_removeLastTurn_8 : decode cX0_removeLastTurn 8 = .ok (.iconst 1, 1) := by decide +kernel
theorem dX0_removeLastTurn_9 : decode cX0_removeLastTurn 9 = .ok (.isub, 1) := by decide +kernel
theorem dX0_removeLastTurn_10 : decode cX0_removeLastTurn 10 = .ok (.istore_n 2, 1) := by decide +kernel
theorem dX0_removeLastTurn_11 : decode cX0_removeLastTurn 11 = .ok (.iload_n 2, 1) := by decide +kernel
theorem dX0_removeLastTurn_12 : decode cX0_removeLastTurn 12 = .ok (.iconst 2, 1) := by decide +kernel
theorem dX0_removeLastTurn_13 : decode cX0_removeLastTurn 13 = .ok (.irem, 1) := by decide +kernel
theorem dX0_removeLastTurn_14 : decode cX0_removeLastTurn 14 = .ok (.ifCond .ne 13, 3) := by decide +kernel
theorem dX0_removeLastTurn_17 : decode cX0_removeLastTurn 17 = .ok (.aload_n 0, 1) := by decide +kernel
theorem dX0_removeLastTurn_18 : decode cX0_removeLastTurn 18 = .ok (.iload_n 1, 1) := by decide +kernel
theorem dX0_removeLastTurn_19 : decode cX0_removeLastTurn 19 = .ok (.iload_n 2, 1) := by decide +kernel
theorem dX0_removeLastTurn_20 : decode cX0_removeLastTurn 20 = .ok (.iconst 2, 1) := by decide +kernel
theorem dX0_removeLastTurn_21 : decode cX0_removeLastTurn 21 = .ok (.idiv, 1) := by decide +kernel
theorem dX0_removeLastTurn_22 : decode cX0_removeLastTurn 22 = .ok (.bipush (-4), 2) := by decide +kernel
theorem dX0_removeLastTurn_24 : decode cX0_removeLastTurn 24 = .ok (.invokevirtual 70, 3) := by decide +kernel
theorem dX0_removeLastTurn_27 : decode cX0_removeLastTurn 27 = .ok (.aload_n 0, 1) := by decide +kernel
theorem dX0_removeLastTurn_28 : decode cX0_removeLastTurn 28 = .ok (.getfield 14, 3) := by decide +kernel
theorem dX0_removeLastTurn_31 : decode cX0_removeLastTurn 31 = .ok (.iload_n 1, 1) := by decide +kernel
theorem dX0_removeLastTurn_32 : decode cX0_removeLastTurn 32 = .ok (.iload_n 2, 1) := by decide +kernel
theorem dX0_removeLastTurn_33 : decode cX0_removeLastTurn 33 = .ok (.invokevirtual 67, 3) := by decide +kernel
theorem dX0_removeLastTurn_36 : decode cX0_removeLastTurn 36 = .ok (.return_, 1) := by decide +kernel
theorem e_71 (r : Nat) (a0 : Int32) (ws : ai_W) : ai_Call 71 [.ref r, .int a0] ws = if ai_isob ws r 0 = true then ai_Run 71 0 [.ref r, .int a0, .null] [] ws else none := R_entV hk_71 ⟨⟨rfl, rfl⟩, Nat.le_of_ble_eq_true rfl⟩ rfl
theorem r_71_0 (l1 l2 : Value) (a : Nat) (st : List Value) (ws : ai_W) : ai_Run 71 0 [.ref a, l1, l2] st ws = ai_Run 71 1 [.ref a, l1, l2] (.ref a :: st) ws := R_aload_n hc_71 dX0_removeLastTurn_0 rfl rfl
theorem r_71_1 (ls st : List Value) (a : Nat) (ws : ai_W) : ai_Run 71 1 ls (.ref a :: st) ws = (ai_fget ws a 0 3).bind fun q => ai_Run 71 4 ls (q :: st) ws := R_getf hc_71 dX0_removeLastTurn_1 hv_71 (w := 475) rfl rfl
theorem r_71_4 (l0 l2 : Value) (a : Int32) (st : List Value) (ws : ai_W) : ai_Run 71 4 [l0, .int a, l2] st ws = ai_Run 71 5 [l0, .int a, l2] (.int a :: st) ws := R_iload_n hc_71 dX0_removeLastTurn_4 rfl rfl
theorem r_71_5 (ls : List Value) (r : Nat) (b0 : Int32) (ws : ai_W) : ai_Run 71 5 ls [.int b0, .ref r] ws = (ai_Call 12 [.ref r, .int b0] ws).bind fun q => ai_Run 71 8 ls (q.1.toList ++ []) q.2 := R_callV hc_71 dX0_removeLastTurn_5 hv_71 (w := 119) rfl (ai_lt3 hf_12 hf_71 hL_12 ho_12 ho_71 rfl) hk_12 (by rw [hn_12]; rfl) rfl (Nat.le_of_ble_eq_true rfl) rfl
theorem r_71_8 (ls st : List Value) (ws : ai_W) : ai_Run 71 8 ls st ws = ai_Run 71 9 ls (.int 1 :: st) ws := R_iconst hc_71 dX0_removeLastTurn_8 (by decide) rfl
theorem r_71_9 (ls st : List Value) (a b : Int32) (ws : ai_W) : ai_Run 71 9 ls (.int b :: .int a :: st) ws = ai_Run 71 10 ls (.int (a - b) :: st) ws := R_isub hc_71 dX0_removeLastTurn_9 rfl
theorem r_71_10 (l0 l1 l2 : Value) (a : Int32) (st : List Value) (ws : ai_W) : ai_Run 71 10 [l0, l1, l2] (.int a :: st) ws = ai_Run 71 11 [l0, l1, .int a] st ws := R_istore_n hc_71 dX0_removeLastTurn_10 (Nat.le_of_ble_eq_true rfl) rfl rfl
theorem r_71_11 (l0 l1 : Value) (a : Int32) (st : List Value) (ws : ai_W) : ai_Run 71 11 [l0, l1, .int a] st ws = ai_Run 71 12 [l0, l1, .int a] (.int a :: st) ws := R_iload_n hc_71 dX0_removeLastTurn_11 rfl rfl
theorem r_71_12 (ls st : List Value) (ws : ai_W) : ai_Run 71 12 ls st ws = ai_Run 71 13 ls (.int 2 :: st) ws := R_iconst hc_71 dX0_removeLastTurn_12 (by decide) rfl
theorem r_71_13 (ls st : List Value) (a : Int32) (ws : ai_W) : ai_Run 71 13 ls (.int 2 :: .int a :: st) ws = ai_Run 71 14 ls (.int (a - a / 2 * 2) :: st) ws := R_irem hc_71 dX0_removeLastTurn_13 (by decide) rfl
theorem r_71_14 (ls st : List Value) (a : Int32) (ws : ai_W) : ai_Run 71 14 ls (.int a :: st) ws = if a = 0 then ai_Run 71 17 ls st ws else ai_Run 71 27 ls st ws := R_if_ne hc_71 dX0_removeLastTurn_14 rfl rfl
theorem r_71_17 (l1 l2 : Value) (a : Nat) (st : List Value) (ws : ai_W) : ai_Run 71 17 [.ref a, l1, l2] st ws = ai_Run 71 18 [.ref a, l1, l2] (.ref a :: st) ws := R_aload_n hc_71 dX0_removeLastTurn_17 rfl rfl
theorem r_71_18 (l0 l2 : Value) (a : Int32) (st : List Value) (ws : ai_W) : ai_Run 71 18 [l0, .int a, l2] st ws = ai_Run 71 19 [l0, .int a, l2] (.int a :: st) ws := R_iload_n hc_71 dX0_removeLastTurn_18 rfl rfl
theorem r_71_19 (l0 l1 : Value) (a : Int32) (st : List Value) (ws : ai_W) : ai_Run 71 19 [l0, l1, .int a] st ws = ai_Run 71 20 [l0, l1, .int a] (.int a :: st) ws := R_iload_n hc_71 dX0_removeLastTurn_19 rfl rfl
theorem r_71_20 (ls st : List Value) (ws : ai_W) : ai_Run 71 20 ls st ws = ai_Run 71 21 ls (.int 2 :: st) ws := R_iconst hc_71 dX0_removeLastTurn_20 (by decide) rfl
theorem r_71_21 (ls st : List Value) (a : Int32) (ws : ai_W) : ai_Run 71 21 ls (.int 2 :: .int a :: st) ws = ai_Run 71 22 ls (.int (a / 2) :: st) ws := R_idiv hc_71 dX0_removeLastTurn_21 (by decide) rfl
theorem r_71_22 (ls st : List Value) (ws : ai_W) : ai_Run 71 22 ls st ws = ai_Run 71 24 ls (.int (-4) :: st) ws := R_bipush hc_71 dX0_removeLastTurn_22 (by decide) rfl
theorem r_71_24 (ls : List Value) (r : Nat) (b0 : Int32) (b1 : Int32) (b2 : Int32) (ws : ai_W) : ai_Run 71 24 ls [.int b2, .int b1, .int b0, .ref r] ws = (ai_Call 70 [.ref r, .int b0, .int b1, .int b2] ws).bind fun q => ai_Run 71 27 ls (q.1.toList ++ []) q.2 := R_callV hc_71 dX0_removeLastTurn_24 hv_71 (w := 732) rfl (ai_lt3 hf_70 hf_71 hL_70 ho_70 ho_71 rfl) hk_70 (by rw [hn_70]; rfl) rfl (Nat.le_of_ble_eq_true rfl) rfl
theorem r_71_27 (l1 l2 : Value) (a : Nat) (st : List Value) (ws : ai_W) : ai_Run 71 27 [.ref a, l1, l2] st ws = ai_Run 71 28 [.ref a, l1, l2] (.ref a :: st) ws := R_aload_n hc_71 dX0_removeLastTurn_27 rfl rfl
theorem r_71_28 (ls st : List Value) (a : Nat) (ws : ai_W) : ai_Run 71 28 ls (.ref a :: st) ws = (ai_fget ws a 0 3).bind fun q => ai_Run 71 31 ls (q :: st) ws := R_getf hc_71 dX0_removeLastTurn_28 hv_71 (w := 475) rfl rfl
theorem r_71_31 (l0 l2 : Value) (a : Int32) (st : List Value) (ws : ai_W) : ai_Run 71 31 [l0, .int a, l2] st ws = ai_Run 71 32 [l0, .int a, l2] (.int a :: st) ws := R_iload_n hc_71 dX0_removeLastTurn_31 rfl rfl
theorem r_71_32 (l0 l1 : Value) (a : Int32) (st : List Value) (ws : ai_W) : ai_Run 71 32 [l0, l1, .int a] st ws = ai_Run 71 33 [l0, l1, .int a] (.int a :: st) ws := R_iload_n hc_71 dX0_removeLastTurn_32 rfl rfl
theorem r_71_33 (ls : List Value) (r : Nat) (b0 : Int32) (b1 : Int32) (ws : ai_W) : ai_Run 71 33 ls [.int b1, .int b0, .ref r] ws = (ai_Call 29 [.ref r, .int b0, .int b1] ws).bind fun q => ai_Run 71 36 ls (q.1.toList ++ []) q.2 := R_callV hc_71 dX0_removeLastTurn_33 hv_71 (w := 145) rfl (ai_lt3 hf_29 hf_71 hL_29 ho_29 ho_71 rfl) hk_29 (by rw [hn_29]; rfl) rfl (Nat.le_of_ble_eq_true rfl) rfl
theorem r_71_36 (ls : List Value) (ws : ai_W) : ai_Run 71 36 ls [] ws = some (none, ws) := R_vret hc_71 dX0_removeLastTurn_36 ht_71
theorem dX1_strikeOut_0 : decode cX1_strikeOut 0 = .ok (.aload_n 0, 1) := by decide +kernel
theorem dX1_strikeOut_1 : decode cX1_strikeOut 1 = .ok (.getfield 9, 3) := by decide +kernel
theorem dX1_strikeOut_4 : decode cX1_strikeOut 4 = .ok (.iload_n 1, 1) := by decide +kernel
theorem dX1_strikeOut_5 : decode cX1_strikeOut 5 = .ok (.invokevirtual 42, 3) := by decide +kernel
theorem dX1_strikeOut_8 : decode cX1_strikeOut 8 = .ok (.ifCond .ne 5, 3) := by decide +kernel
theorem dX1_strikeOut_11 : decode cX1_strikeOut 11 = .ok (.iconst (-1), 1) := by decide +kernel
theorem dX1_strikeOut_12 : decode cX1_strikeOut 12 = .ok (.ireturn, 1) := by decide +kernel
theorem dX1_strikeOut_13 : decode cX1_strikeOut 13 = .ok (.aload_n 0, 1) := by decide +kernel
theorem dX1_strikeOut_14 : decode cX1_strikeOut 14 = .ok (.getfield 9, 3) := by decide +kernel
theorem dX1_strikeOut_17 : decode cX1_strikeOut 17 = .ok (.getfield 67, 3) := by decide +kernel
theorem dX1_strikeOut_20 : decode cX1_strikeOut 20 = .ok (.iload_n 1, 1) := by decide +kernel
theorem dX1_strikeOut_21 : decode cX1_strikeOut 21 = .ok (.invokevirtual 71, 3) := by decide +kernel
theorem dX1_strikeOut_24 : decode cX1_strikeOut 24 = .ok (.ifCond .ne 20, 3) := by decide +kernel
theorem dX1_strikeOut_27 : decode cX1_strikeOut 27 = .ok (.aload_n 0, 1) := by decide +kernel
theorem dX1_strikeOut_28 : decode cX1_strikeOut 28 = .ok (.getfield 23, 3) := by decide +kernel
theorem dX1_strikeOut_31 : decode cX1_strikeOut 31 = .ok (.iconst 4, 1) := by decide +kernel
theorem dX1_strikeOut_32 : decode cX1_strikeOut 32 = .ok (.aload_n 0, 1) := by decide +kernel
theorem dX1_strikeOut_33 : decode cX1_strikeOut 33 = .ok (.getfield 9, 3) := by decide +kernel
theorem dX1_strikeOut_36 : decode cX1_strikeOut 36 = .ok (.iload_n 1, 1) := by decide +kernel
theorem dX1_strikeOut_37 : decode cX1_strikeOut 37 = .ok (.invokevirtual 52, 3) := by decide +kernel
theorem dX1_strikeOut_40 : decode cX1_strikeOut 40 = .ok (.invokevirtual 33, 3) := by decide +kernel
theorem dX1_strikeOut_43 : decode cX1_strikeOut 43 = .ok (.ireturn, 1) := by decide +kernel
theorem dX1_strikeOut_44 : decode cX1_strikeOut 44 = .ok (.aload_n 0, 1) := by decide +kernel
theorem dX1_strikeOut_45 : decode cX1_strikeOut 45 = .ok (.getfield 9, 3) := by decide +kernel
theorem dX1_strikeOut_48 : decode cX1_strikeOut 48 = .ok (.iload_n 1, 1) := by decide +kernel
theorem dX1_strikeOut_49 : decode cX1_strikeOut 49 = .ok (.invokevirtual 64, 3) := by decide +kernel
theorem dX1_strikeOut_52 : decode cX1_strikeOut 52 = .ok (.istore_n 2, 1) := by decide +kernel
theorem dX1_strikeOut_53 : decode cX1_strikeOut 53 = .ok (.aload_n 0, 1) := by decide +kernel
theorem dX1_strikeOut_54 : decode cX1_strikeOut 54 = .ok (.getfield 9, 3) := by decide +kernel
theorem dX1_strikeOut_57 : decode cX1_strikeOut 57 = .ok (.iload_n 1, 1) := by decide +kernel
theorem dX1_strikeOut_58 : decode cX1_strikeOut 58 = .ok (.invokevirtual 76, 3) := by decide +kernel
theorem dX1_strikeOut_61 : decode cX1_strikeOut 61 = .ok (.iload_n 2, 1) := by decide +kernel
theorem dX1_strikeOut_62 : decode cX1_strikeOut 62 = .ok (.ireturn, 1) := by decide +kernel
theorem e_72 (r : Nat) (a0 : Int32) (ws : ai_W) : ai_Call 72 [.ref r, .int a0] ws = if ai_isob ws r 1 = true then ai_Run 72 0 [.ref r, .int a0, .null] [] ws else none := R_entV hk_72 ⟨⟨rfl, rfl⟩, Nat.le_of_ble_eq_true rfl⟩ rfl
theorem r_72_0 (l1 l2 : Value) (a : Nat) (st : List Value) (ws : ai_W) : ai_Run 72 0 [.ref a, l1, l2] st ws = ai_Run 72 1 [.ref a, l1, l2] (.ref a :: st) ws := R_aload_n hc_72 dX1_strikeOut_0 rfl rfl
theorem r_72_1 (ls st : List Value) (a : Nat) (ws : ai_W) : ai_Run 72 1 ls (.ref a :: st) ws = (ai_fget ws a 1 0).bind fun q => ai_Run 72 4 ls (q :: st) ws := R_getf hc_72 dX1_strikeOut_1 hv_72 (w := 573) rfl rfl
theorem r_72_4 (l0 l2 : Value) (a : Int32) (st : List Value) (ws : ai_W) : ai_Run 72 4 [l0, .int a, l2] st ws = ai_Run 72 5 [l0, .int a, l2] (.int a :: st) ws := R_iload_n hc_72 dX1_strikeOut_4 rfl rfl
theorem r_72_5 (ls : List Value) (r : Nat) (b0 : Int32) (ws : ai_W) : ai_Run 72 5 ls [.int b0, .ref r] ws = (ai_Call 62 [.ref r, .int b0] ws).bind fun q => ai_Run 72 8 ls (q.1.toList ++ []) q.2 := R_callV hc_72 dX1_strikeOut_5 hv_72 (w := 108) rfl (ai_lt3 hf_62 hf_72 hL_62 ho_62 ho_72 rfl) hk_62 (by rw [hn_62]; rfl) rfl (Nat.le_of_ble_eq_true rfl) rfl
theorem r_72_8 (ls st : List Value) (a : Int32) (ws : ai_W) : ai_Run 72 8 ls (.int a :: st) ws = if a = 0 then ai_Run 72 11 ls st ws else ai_Run 72 13 ls st ws := R_if_ne hc_72 dX1_strikeOut_8 rfl rfl
theorem r_72_11 (ls st : List Value) (ws : ai_W) : ai_Run 72 11 ls st ws = ai_Run 72 12 ls (.int (-1) :: st) ws := R_iconst hc_72 dX1_strikeOut_11 (by decide) rfl
theorem r_72_12 (ls : List Value) (x : Int32) (ws : ai_W) : ai_Run 72 12 ls [.int x] ws = some (some (.int x), ws) := R_iret hc_72 dX1_strikeOut_12 ht_72
theorem r_72_13 (l1 l2 : Value) (a : Nat) (st : List Value) (ws : ai_W) : ai_Run 72 13 [.ref a, l1, l2] st ws = ai_Run 72 14 [.ref a, l1, l2] (.ref a :: st) ws := R_aload_n hc_72 dX1_strikeOut_13 rfl rfl
theorem r_72_14 (ls st : List Value) (a : Nat) (ws : ai_W) : ai_Run 72 14 ls (.ref a :: st) ws = (ai_fget ws a 1 0).bind fun q => ai_Run 72 17 ls (q :: st) ws := R_getf hc_72 dX1_strikeOut_14 hv_72 (w := 573) rfl rfl
theorem r_72_17 (ls st : List Value) (a : Nat) (ws : ai_W) : ai_Run 72 17 ls (.ref a :: st) ws = (ai_fget ws a 0 3).bind fun q => ai_Run 72 20 ls (q :: st) ws := R_getf hc_72 dX1_strikeOut_17 hv_72 (w := 477) rfl rfl
theorem r_72_20 (l0 l2 : Value) (a : Int32) (st : List Value) (ws : ai_W) : ai_Run 72 20 [l0, .int a, l2] st ws = ai_Run 72 21 [l0, .int a, l2] (.int a :: st) ws := R_iload_n hc_72 dX1_strikeOut_20 rfl rfl
theorem r_72_21 (ls : List Value) (r : Nat) (b0 : Int32) (ws : ai_W) : ai_Run 72 21 ls [.int b0, .ref r] ws = (ai_Call 12 [.ref r, .int b0] ws).bind fun q => ai_Run 72 24 ls (q.1.toList ++ []) q.2 := R_callV hc_72 dX1_strikeOut_21 hv_72 (w := 140) rfl (ai_lt3 hf_12 hf_72 hL_12 ho_12 ho_72 rfl) hk_12 (by rw [hn_12]; rfl) rfl (Nat.le_of_ble_eq_true rfl) rfl
theorem r_72_24 (ls st : List Value) (a : Int32) (ws : ai_W) : ai_Run 72 24 ls (.int a :: st) ws = if a = 0 then ai_Run 72 27 ls st ws else ai_Run 72 44 ls st ws := R_if_ne hc_72 dX1_strikeOut_24 rfl rfl
theorem r_72_27 (l1 l2 : Value) (a : Nat) (st : List Value) (ws : ai_W) : ai_Run 72 27 [.ref a, l1, l2] st ws = ai_Run 72 28 [.ref a, l1, l2] (.ref a :: st) ws := R_aload_n hc_72 dX1_strikeOut_27 rfl rfl
theorem r_72_28 (ls st : List Value) (a : Nat) (ws : ai_W) : ai_Run 72 28 ls (.ref a :: st) ws = (ai_fget ws a 1 3).bind fun q => ai_Run 72 31 ls (q :: st) ws := R_getf hc_72 dX1_strikeOut_28 hv_72 (w := 576) rfl rfl
theorem r_72_31 (ls st : List Value) (ws : ai_W) : ai_Run 72 31 ls st ws = ai_Run 72 32 ls (.int 4 :: st) ws := R_iconst hc_72 dX1_strikeOut_31 (by decide) rfl
theorem r_72_32 (l1 l2 : Value) (a : Nat) (st : List Value) (ws : ai_W) : ai_Run 72 32 [.ref a, l1, l2] st ws = ai_Run 72 33 [.ref a, l1, l2] (.ref a :: st) ws := R_aload_n hc_72 dX1_strikeOut_32 rfl rfl
theorem r_72_33 (ls st : List Value) (a : Nat) (ws : ai_W) : ai_Run 72 33 ls (.ref a :: st) ws = (ai_fget ws a 1 0).bind fun q => ai_Run 72 36 ls (q :: st) ws := R_getf hc_72 dX1_strikeOut_33 hv_72 (w := 573) rfl rfl
theorem r_72_36 (l0 l2 : Value) (a : Int32) (st : List Value) (ws : ai_W) : ai_Run 72 36 [l0, .int a, l2] st ws = ai_Run 72 37 [l0, .int a, l2] (.int a :: st) ws := R_iload_n hc_72 dX1_strikeOut_36 rfl rfl
theorem r_72_37 (ls : List Value) (r : Nat) (b0 : Int32) (s0 s1 : Value) (ws : ai_W) : ai_Run 72 37 ls [.int b0, .ref r, s0, s1] ws = (ai_Call 13 [.ref r, .int b0] ws).bind fun q => ai_Run 72 40 ls (q.1.toList ++ [s0, s1]) q.2 := R_callV hc_72 dX1_strikeOut_37 hv_72 (w := 123) rfl (ai_lt3 hf_13 hf_72 hL_13 ho_13 ho_72 rfl) hk_13 (by rw [hn_13]; rfl) rfl (Nat.le_of_ble_eq_true rfl) rfl
theorem r_72_40 (ls : List Value) (r : Nat) (b0 : Int32) (b1 : Int32) (ws : ai_W) : ai_Run 72 40 ls [.int b1, .int b0, .ref r] ws = (ai_Call 47 [.ref r, .int b0, .int b1] ws).bind fun q => ai_Run 72 43 ls (q.1.toList ++ []) q.2 := R_callV hc_72 dX1_strikeOut_40 hv_72 (w := 84) rfl (ai_lt3 hf_47 hf_72 hL_47 ho_47 ho_72 rfl) hk_47 (by rw [hn_47]; rfl) rfl (Nat.le_of_ble_eq_true rfl) rfl
theorem r_72_43 (ls : List Value) (x : Int32) (ws : ai_W) : ai_Run 72 43 ls [.int x] ws = some (some (.int x), ws) := R_iret hc_72 dX1_strikeOut_43 ht_72
theorem r_72_44 (l1 l2 : Value) (a : Nat) (st : List Value) (ws : ai_W) : ai_Run 72 44 [.ref a, l1, l2] st ws = ai_Run 72 45 [.ref a, l1, l2] (.ref a :: st) ws := R_aload_n hc_72 dX1_strikeOut_44 rfl rfl
theorem r_72_45 (ls st : List Value) (a : Nat) (ws : ai_W) : ai_Run 72 45 ls (.ref a :: st) ws = (ai_fget ws a 1 0).bind fun q => ai_Run 72 48 ls (q :: st) ws := R_getf hc_72 dX1_strikeOut_45 hv_72 (w := 573) rfl rfl
theorem r_72_48 (l0 l2 : Value) (a : Int32) (st : List Value) (ws : ai_W) : ai_Run 72 48 [l0, .int a, l2] st ws = ai_Run 72 49 [l0, .int a, l2] (.int a :: st) ws := R_iload_n hc_72 dX1_strikeOut_48 rfl rfl
theorem r_72_49 (ls : List Value) (r : Nat) (b0 : Int32) (ws : ai_W) : ai_Run 72 49 ls [.int b0, .ref r] ws = (ai_Call 65 [.ref r, .int b0] ws).bind fun q => ai_Run 72 52 ls (q.1.toList ++ []) q.2 := R_callV hc_72 dX1_strikeOut_49 hv_72 (w := 132) rfl (ai_lt3 hf_65 hf_72 hL_65 ho_65 ho_72 rfl) hk_65 (by rw [hn_65]; rfl) rfl (Nat.le_of_ble_eq_true rfl) rfl
theorem r_72_52 (l0 l1 l2 : Value) (a : Int32) (st : List Value) (ws : ai_W) : ai_Run 72 52 [l0, l1, l2] (.int a :: st) ws = ai_Run 72 53 [l0, l1, .int a] st ws := R_istore_n hc_72 dX1_strikeOut_52 (Nat.le_of_ble_eq_true rfl) rfl rfl
theorem r_72_53 (l1 l2 : Value) (a : Nat) (st : List Value) (ws : ai_W) : ai_Run 72 53 [.ref a, l1, l2] st ws = ai_Run 72 54 [.ref a, l1, l2] (.ref a :: st) ws := R_aload_n hc_72 dX1_strikeOut_53 rfl rfl
theorem r_72_54 (ls st : List Value) (a : Nat) (ws : ai_W) : ai_Run 72 54 ls (.ref a :: st) ws = (ai_fget ws a 1 0).bind fun q => ai_Run 72 57 ls (q :: st) ws := R_getf hc_72 dX1_strikeOut_54 hv_72 (w := 573) rfl rfl
theorem r_72_57 (l0 l2 : Value) (a : Int32) (st : List Value) (ws : ai_W) : ai_Run 72 57 [l0, .int a, l2] st ws = ai_Run 72 58 [l0, .int a, l2] (.int a :: st) ws := R_iload_n hc_72 dX1_strikeOut_57 rfl rfl
theorem r_72_58 (ls : List Value) (r : Nat) (b0 : Int32) (ws : ai_W) : ai_Run 72 58 ls [.int b0, .ref r] ws = (ai_Call 71 [.ref r, .int b0] ws).bind fun q => ai_Run 72 61 ls (q.1.toList ++ []) q.2 := R_callV hc_72 dX1_strikeOut_58 hv_72 (w := 728) rfl (ai_lt3 hf_71 hf_72 hL_71 ho_71 ho_72 rfl) hk_71 (by rw [hn_71]; rfl) rfl (Nat.le_of_ble_eq_true rfl) rfl
theorem r_72_61 (l0 l1 : Value) (a : Int32) (st : List Value) (ws : ai_W) : ai_Run 72 61 [l0, l1, .int a] st ws = ai_Run 72 62 [l0, l1, .int a] (.int a :: st) ws := R_iload_n hc_72 dX1_strikeOut_61 rfl rfl
theorem r_72_62 (ls : List Value) (x : Int32) (ws : ai_W) : ai_Run 72 62 ls [.int x] ws = some (some (.int x), ws) := R_iret hc_72 dX1_strikeOut_62 ht_72
theorem dX1_setWriter_0 : decode cX1_setWriter 0 = .ok (.aload_n 0, 1) := by decide +kernel
theorem dX1_setWriter_1 : decode cX1_setWriter 1 = .ok (.getfield 9, 3) := by decide +kernel
theorem dX1_setWriter_4 : decode cX1_setWriter 4 = .ok (.iload_n 2, 1) := by decide +kernel
theorem dX1_setWriter_5 : decode cX1_setWriter 5 = .ok (.invokevirtual 80, 3) := by decide +kernel
theorem dX1_setWriter_8 : decode cX1_setWriter 8 = .ok (.ifCond .ne 5, 3) := by decide +kernel
theorem dX1_setWriter_11 : decode cX1_setWriter 11 = .ok (.iconst (-1), 1) := by decide +kernel
theorem dX1_setWriter_12 : decode cX1_setWriter 12 = .ok (.ireturn, 1) := by decide +kernel
theorem dX1_setWriter_13 : decode cX1_setWriter 13 = .ok (.iload_n 1, 1) := by decide +kernel
theorem dX1_setWriter_14 : decode cX1_setWriter 14 = .ok (.invokestatic 46, 3) := by decide +kernel
theorem dX1_setWriter_17 : decode cX1_setWriter 17 = .ok (.ifCond .ne 6, 3) := by decide +kernel
theorem dX1_setWriter_20 : decode cX1_setWriter 20 = .ok (.bipush (-2), 2) := by decide +kernel
theorem dX1_setWriter_22 : decode cX1_setWriter 22 = .ok (.ireturn, 1) := by decide +kernel
theorem dX1_setWriter_23 : decode cX1_setWriter 23 = .ok (.aload_n 0, 1) := by decide +kernel
theorem dX1_setWriter_24 : decode cX1_setWriter 24 = .ok (.getfield 9, 3) := by decide +kernel
theorem dX1_setWriter_27 : decode cX1_setWriter 27 = .ok (.getfield 83, 3) := by decide +kernel
theorem dX1_setWriter_30 : decode cX1_setWriter 30 = .ok (.iload_n 1, 1) := by decide +kernel
theorem dX1_setWriter_31 : decode cX1_setWriter 31 = .ok (.invokevirtual 71, 3) := by decide +kernel
theorem dX1_setWriter_34 : decode cX1_setWriter 34 = .ok (.istore_n 3, 1) := by decide +kernel
theorem dX1_setWriter_35 : decode cX1_setWriter 35 = .ok (.iload_n 3, 1) := by decide +kernel
theorem dX1_setWriter_36 : decode cX1_setWriter 36 = .ok (.iload_n 2, 1) := by decide +kernel
theorem dX1_setWriter_37 : decode cX1_setWriter 37 = .ok (.if_icmp .ne 13, 3) := by decide +kernel
theorem dX1_setWriter_40 : decode cX1_setWriter 40 = .ok (.aload_n 0, 1) := by decide +kernel
theorem dX1_setWriter_41 : decode cX1_setWriter 41 = .ok (.getfield 23, 3) := by decide +kernel
theorem dX1_setWriter_44 : decode cX1_setWriter 44 = .ok (.iconst 5, 1) := by decide +kernel
theorem dX1_setWriter_45 : decode cX1_setWriter 45 = .ok (.iload_n 2, 1) := by decide +kernel
theorem dX1_setWriter_46 : decode cX1_setWriter 46 = .ok (.invokevirtual 33, 3) := by decide +kernel
theorem dX1_setWriter_49 : decode cX1_setWriter 49 = .ok (.ireturn, 1) := by decide +kernel
theorem dX1_setWriter_50 : decode cX1_setWriter 50 = .ok (.aload_n 0, 1) := by decide +kernel
theorem dX1_setWriter_51 : decode cX1_setWriter 51 = .ok (.getfield 9, 3) := by decide +kernel
theorem dX1_setWriter_54 : decode cX1_setWriter 54 = .ok (.getfield 83, 3) := by decide +kernel
theorem dX1_setWriter_57 : decode cX1_setWriter 57 = .ok (.iload_n 1, 1) := by decide +kernel
theorem dX1_setWriter_58 : decode cX1_setWriter 58 = .ok (.iload_n 2, 1) := by decide +kernel
theorem dX1_setWriter_59 : decode cX1_setWriter 59 = .ok (.invokevirtual 86, 3) := by decide +kernel
theorem dX1_setWriter_62 : decode cX1_setWriter 62 = .ok (.iload_n 3, 1) := by decide +kernel
theorem dX1_setWriter_63 : decode cX1_setWriter 63 = .ok (.ireturn, 1) := by decide +kernel
theorem e_73 (r : Nat) (a0 : Int32) (a1 : Int32) (ws : ai_W) : ai_Call 73 [.ref r, .int a0, .int a1] ws = if ai_isob ws r 1 = true then ai_Run 73 0 [.ref r, .int a0, .int a1, .null] [] ws else none := R_entV hk_73 ⟨⟨rfl, rfl⟩, Nat.le_of_ble_eq_true rfl⟩ rfl
theorem r_73_0 (l1 l2 l3 : Value) (a : Nat) (st : List Value) (ws : ai_W) : ai_Run 73 0 [.ref a, l1, l2, l3] st ws = ai_Run 73 1 [.ref a, l1, l2, l3] (.ref a :: st) ws := R_aload_n hc_73 dX1_setWriter_0 rfl rfl
theorem r_73_1 (ls st : List Value) (a : Nat) (ws : ai_W) : ai_Run 73 1 ls (.ref a :: st) ws = (ai_fget ws a 1 0).bind fun q => ai_Run 73 4 ls (q :: st) ws := R_getf hc_73 dX1_setWriter_1 hv_73 (w := 573) rfl rfl
theorem r_73_4 (l0 l1 l3 : Value) (a : Int32) (st : List Value) (ws : ai_W) : ai_Run 73 4 [l0, l1, .int a, l3] st ws = ai_Run 73 5 [l0, l1, .int a, l3] (.int a :: st) ws := R_iload_n hc_73 dX1_setWriter_4 rfl rfl
theorem r_73_5 (ls : List Value) (r : Nat) (b0 : Int32) (ws : ai_W) : ai_Run 73 5 ls [.int b0, .ref r] ws = (ai_Call 35 [.ref r, .int b0] ws).bind fun q => ai_Run 73 8 ls (q.1.toList ++ []) q.2 := R_callV hc_73 dX1_setWriter_5 hv_73 (w := 157) rfl (ai_lt3 hf_35 hf_73 hL_35 ho_35 ho_73 rfl) hk_35 (by rw [hn_35]; rfl) rfl (Nat.le_of_ble_eq_true rfl) rfl
theorem r_73_8 (ls st : List Value) (a : Int32) (ws : ai_W) : ai_Run 73 8 ls (.int a :: st) ws = if a = 0 then ai_Run 73 11 ls st ws else ai_Run 73 13 ls st ws := R_if_ne hc_73 dX1_setWriter_8 rfl rfl
theorem r_73_11 (ls st : List Value) (ws : ai_W) : ai_Run 73 11 ls st ws = ai_Run 73 12 ls (.int (-1) :: st) ws := R_iconst hc_73 dX1_setWriter_11 (by decide) rfl
theorem r_73_12 (ls : List Value) (x : Int32) (ws : ai_W) : ai_Run 73 12 ls [.int x] ws = some (some (.int x), ws) := R_iret hc_73 dX1_setWriter_12 ht_73
theorem r_73_13 (l0 l2 l3 : Value) (a : Int32) (st : List Value) (ws : ai_W) : ai_Run 73 13 [l0, .int a, l2, l3] st ws = ai_Run 73 14 [l0, .int a, l2, l3] (.int a :: st) ws := R_iload_n hc_73 dX1_setWriter_13 rfl rfl
theorem r_73_14 (ls : List Value) (b0 : Int32) (ws : ai_W) : ai_Run 73 14 ls [.int b0] ws = (ai_Call 63 [.int b0] ws).bind fun q => ai_Run 73 17 ls (q.1.toList ++ []) q.2 := R_callS hc_73 dX1_setWriter_14 hv_73 (w := 112) rfl (ai_lt3 hf_63 hf_73 hL_63 ho_63 ho_73 rfl) hk_63 (by rw [hn_63]; rfl) rfl (Nat.le_of_ble_eq_true rfl) rfl
theorem r_73_17 (ls st : List Value) (a : Int32) (ws : ai_W) : ai_Run 73 17 ls (.int a :: st) ws = if a = 0 then ai_Run 73 20 ls st ws else ai_Run 73 23 ls st ws := R_if_ne hc_73 dX1_setWriter_17 rfl rfl
theorem r_73_20 (ls st : List Value) (ws : ai_W) : ai_Run 73 20 ls st ws = ai_Run 73 22 ls (.int (-2) :: st) ws := R_bipush hc_73 dX1_setWriter_20 (by decide) rfl
theorem r_73_22 (ls : List Value) (x : Int32) (ws : ai_W) : ai_Run 73 22 ls [.int x] ws = some (some (.int x), ws) := R_iret hc_73 dX1_setWriter_22 ht_73
theorem r_73_23 (l1 l2 l3 : Value) (a : Nat) (st : List Value) (ws : ai_W) : ai_Run 73 23 [.ref a, l1, l2, l3] st ws = ai_Run 73 24 [.ref a, l1, l2, l3] (.ref a :: st) ws := R_aload_n hc_73 dX1_setWriter_23 rfl rfl
theorem r_73_24 (ls st : List Value) (a : Nat) (ws : ai_W) : ai_Run 73 24 ls (.ref a :: st) ws = (ai_fget ws a 1 0).bind fun q => ai_Run 73 27 ls (q :: st) ws := R_getf hc_73 dX1_setWriter_24 hv_73 (w := 573) rfl rfl
theorem r_73_27 (ls st : List Value) (a : Nat) (ws : ai_W) : ai_Run 73 27 ls (.ref a :: st) ws = (ai_fget ws a 0 6).bind fun q => ai_Run 73 30 ls (q :: st) ws := R_getf hc_73 dX1_setWriter_27 hv_73 (w := 484) rfl rfl
theorem r_73_30 (l0 l2 l3 : Value) (a : Int32) (st : List Value) (ws : ai_W) : ai_Run 73 30 [l0, .int a, l2, l3] st ws = ai_Run 73 31 [l0, .int a, l2, l3] (.int a :: st) ws := R_iload_n hc_73 dX1_setWriter_30 rfl rfl
theorem r_73_31 (ls : List Value) (r : Nat) (b0 : Int32) (ws : ai_W) : ai_Run 73 31 ls [.int b0, .ref r] ws = (ai_Call 12 [.ref r, .int b0] ws).bind fun q => ai_Run 73 34 ls (q.1.toList ++ []) q.2 := R_callV hc_73 dX1_setWriter_31 hv_73 (w := 140) rfl (ai_lt3 hf_12 hf_73 hL_12 ho_12 ho_73 rfl) hk_12 (by rw [hn_12]; rfl) rfl (Nat.le_of_ble_eq_true rfl) rfl
theorem r_73_34 (l0 l1 l2 l3 : Value) (a : Int32) (st : List Value) (ws : ai_W) : ai_Run 73 34 [l0, l1, l2, l3] (.int a :: st) ws = ai_Run 73 35 [l0, l1, l2, .int a] st ws := R_istore_n hc_73 dX1_setWriter_34 (Nat.le_of_ble_eq_true rfl) rfl rfl
theorem r_73_35 (l0 l1 l2 : Value) (a : Int32) (st : List Value) (ws : ai_W) : ai_Run 73 35 [l0, l1, l2, .int a] st ws = ai_Run 73 36 [l0, l1, l2, .int a] (.int a :: st) ws := R_iload_n hc_73 dX1_setWriter_35 rfl rfl
theorem r_73_36 (l0 l1 l3 : Value) (a : Int32) (st : List Value) (ws : ai_W) : ai_Run 73 36 [l0, l1, .int a, l3] st ws = ai_Run 73 37 [l0, l1, .int a, l3] (.int a :: st) ws := R_iload_n hc_73 dX1_setWriter_36 rfl rfl
theorem r_73_37 (ls st : List Value) (a b : Int32) (ws : ai_W) : ai_Run 73 37 ls (.int b :: .int a :: st) ws = if a = b then ai_Run 73 40 ls st ws else ai_Run 73 50 ls st ws := R_cmp_ne hc_73 dX1_setWriter_37 rfl rfl
theorem r_73_40 (l1 l2 l3 : Value) (a : Nat) (st : List Value) (ws : ai_W) : ai_Run 73 40 [.ref a, l1, l2, l3] st ws = ai_Run 73 41 [.ref a, l1, l2, l3] (.ref a :: st) ws := R_aload_n hc_73 dX1_setWriter_40 rfl rfl
theorem r_73_41 (ls st : List Value) (a : Nat) (ws : ai_W) : ai_Run 73 41 ls (.ref a :: st) ws = (ai_fget ws a 1 3).bind fun q => ai_Run 73 44 ls (q :: st) ws := R_getf hc_73 dX1_setWriter_41 hv_73 (w := 576) rfl rfl
theorem r_73_44 (ls st : List Value) (ws : ai_W) : ai_Run 73 44 ls st ws = ai_Run 73 45 ls (.int 5 :: st) ws := R_iconst hc_73 dX1_setWriter_44 (by decide) rfl
theorem r_73_45 (l0 l1 l3 : Value) (a : Int32) (st : List Value) (ws : ai_W) : ai_Run 73 45 [l0, l1, .int a, l3] st ws = ai_Run 73 46 [l0, l1, .int a, l3] (.int a :: st) ws := R_iload_n hc_73 dX1_setWriter_45 rfl rfl
theorem r_73_46 (ls : List Value) (r : Nat) (b0 : Int32) (b1 : Int32) (ws : ai_W) : ai_Run 73 46 ls [.int b1, .int b0, .ref r] ws = (ai_Call 47 [.ref r, .int b0, .int b1] ws).bind fun q => ai_Run 73 49 ls (q.1.toList ++ []) q.2 := R_callV hc_73 dX1_setWriter_46 hv_73 (w := 84) rfl (ai_lt3 hf_47 hf_73 hL_47 ho_47 ho_73 rfl) hk_47 (by rw [hn_47]; rfl) rfl (Nat.le_of_ble_eq_true rfl) rfl
theorem r_73_49 (ls : List Value) (x : Int32) (ws : ai_W) : ai_Run 73 49 ls [.int x] ws = some (some (.int x), ws) := R_iret hc_73 dX1_setWriter_49 ht_73
theorem r_73_50 (l1 l2 l3 : Value) (a : Nat) (st : List Value) (ws : ai_W) : ai_Run 73 50 [.ref a, l1, l2, l3] st ws = ai_Run 73 51 [.ref a, l1, l2, l3] (.ref a :: st) ws := R_aload_n hc_73 dX1_setWriter_50 rfl rfl
theorem r_73_51 (ls st : List Value) (a : Nat) (ws : ai_W) : ai_Run 73 51 ls (.ref a :: st) ws = (ai_fget ws a 1 0).bind fun q => ai_Run 73 54 ls (q :: st) ws := R_getf hc_73 dX1_setWriter_51 hv_73 (w := 573) rfl rfl
theorem r_73_54 (ls st : List Value) (a : Nat) (ws : ai_W) : ai_Run 73 54 ls (.ref a :: st) ws = (ai_fget ws a 0 6).bind fun q => ai_Run 73 57 ls (q :: st) ws := R_getf hc_73 dX1_setWriter_54 hv_73 (w := 484) rfl rfl
theorem r_73_57 (l0 l2 l3 : Value) (a : Int32) (st : List Value) (ws : ai_W) : ai_Run 73 57 [l0, .int a, l2, l3] st ws = ai_Run 73 58 [l0, .int a, l2, l3] (.int a :: st) ws := R_iload_n hc_73 dX1_setWriter_57 rfl rfl
theorem r_73_58 (l0 l1 l3 : Value) (a : Int32) (st : List Value) (ws : ai_W) : ai_Run 73 58 [l0, l1, .int a, l3] st ws = ai_Run 73 59 [l0, l1, .int a, l3] (.int a :: st) ws := R_iload_n hc_73 dX1_setWriter_58 rfl rfl
theorem r_73_59 (ls : List Value) (r : Nat) (b0 : Int32) (b1 : Int32) (ws : ai_W) : ai_Run 73 59 ls [.int b1, .int b0, .ref r] ws = (ai_Call 29 [.ref r, .int b0, .int b1] ws).bind fun q => ai_Run 73 62 ls (q.1.toList ++ []) q.2 := R_callV hc_73 dX1_setWriter_59 hv_73 (w := 164) rfl (ai_lt3 hf_29 hf_73 hL_29 ho_29 ho_73 rfl) hk_29 (by rw [hn_29]; rfl) rfl (Nat.le_of_ble_eq_true rfl) rfl
theorem r_73_62 (l0 l1 l2 : Value) (a : Int32) (st : List Value) (ws : ai_W) : ai_Run 73 62 [l0, l1, l2, .int a] st ws = ai_Run 73 63 [l0, l1, l2, .int a] (.int a :: st) ws := R_iload_n hc_73 dX1_setWriter_62 rfl rfl
theorem r_73_63 (ls : List Value) (x : Int32) (ws : ai_W) : ai_Run 73 63 ls [.int x] ws = some (some (.int x), ws) := R_iret hc_73 dX1_setWriter_63 ht_73
theorem dX1_setSworn_0 : decode cX1_setSworn 0 = .ok (.aload_n 0, 1) := by decide +kernel
theorem dX1_setSworn_1 : decode cX1_setSworn 1 = .ok (.getfield 9, 3) := by decide +kernel
theorem dX1_setSworn_4 : decode cX1_setSworn 4 = .ok (.iload_n 1, 1) := by decide +kernel
theorem dX1_setSworn_5 : decode cX1_setSworn 5 = .ok (.invokevirtual 80, 3) := by decide +kernel
theorem dX1_setSworn_8 : decode cX1_setSworn 8 = .ok (.ifCond .ne 5, 3) := by decide +kernel
theorem dX1_setSworn_11 : decode cX1_setSworn 11 = .ok (.iconst (-1), 1) := by decide +kernel
theorem dX1_setSworn_12 : decode cX1_setSworn 12 = .ok (.ireturn, 1) := by decide +kernel
theorem dX1_setSworn_13 : decode cX1_setSworn 13 = .ok (.iload_n 2, 1) := by decide +kernel
theorem dX1_setSworn_14 : decode cX1_setSworn 14 = .ok (.invokestatic 89, 3) := by decide +kernel
theorem dX1_setSworn_17 : decode cX1_setSworn 17 = .ok (.ifCond .ne 6, 3) := by decide +kernel
theorem dX1_setSworn_20 : decode cX1_setSworn 20 = .ok (.bipush (-2), 2) := by decide +kernel
theorem dX1_setSworn_22 : decode cX1_setSworn 22 = .ok (.ireturn, 1) := by decide +kernel
theorem dX1_setSworn_23 : decode cX1_setSworn 23 = .ok (.aload_n 0, 1) := by decide +kernel
theorem dX1_setSworn_24 : decode cX1_setSworn 24 = .ok (.getfield 9, 3) := by decide +kernel
theorem dX1_setSworn_27 : decode cX1_setSworn 27 = .ok (.getfield 92, 3) := by decide +kernel
theorem dX1_setSworn_30 : decode cX1_setSworn 30 = .ok (.iload_n 1, 1) := by decide +kernel
theorem dX1_setSworn_31 : decode cX1_setSworn 31 = .ok (.invokevirtual 71, 3) := by decide +kernel
theorem dX1_setSworn_34 : decode cX1_setSworn 34 = .ok (.iload_n 2, 1) := by decide +kernel
theorem dX1_setSworn_35 : decode cX1_setSworn 35 = .ok (.if_icmp .ne 13, 3) := by decide +kernel
theorem dX1_setSworn_38 : decode cX1_setSworn 38 = .ok (.aload_n 0, 1) := by decide +kernel
theorem dX1_setSworn_39 : decode cX1_setSworn 39 = .ok (.getfield 23, 3) := by decide +kernel
theorem dX1_setSworn_42 : decode cX1_setSworn 42 = .ok (.iconst 5, 1) := by decide +kernel
theorem dX1_setSworn_43 : decode cX1_setSworn 43 = .ok (.iload_n 2, 1) := by decide +kernel
theorem dX1_setSworn_44 : decode cX1_setSworn 44 = .ok (.invokevirtual 33, 3) := by decide +kernel
theorem dX1_setSworn_47 : decode cX1_setSworn 47 = .ok (.ireturn, 1) := by decide +kernel
theorem dX1_setSworn_48 : decode cX1_setSworn 48 = .ok (.aload_n 0, 1) := by decide +kernel
theorem dX1_setSworn_49 : decode cX1_setSworn 49 = .ok (.getfield 9, 3) := by decide +kernel
theorem dX1_setSworn_52 : decode cX1_setSworn 52 = .ok (.getfield 92, 3) := by decide +kernel
theorem dX1_setSworn_55 : decode cX1_setSworn 55 = .ok (.iload_n 1, 1) := by decide +kernel
theorem dX1_setSworn_56 : decode cX1_setSworn 56 = .ok (.iload_n 2, 1) := by decide +kernel
theorem dX1_setSworn_57 : decode cX1_setSworn 57 = .ok (.invokevirtual 86, 3) := by decide +kernel
theorem dX1_setSworn_60 : decode cX1_setSworn 60 = .ok (.aload_n 0, 1) := by decide +kernel
theorem dX1_setSworn_61 : decode cX1_setSworn 61 = .ok (.getfield 9, 3) := by decide +kernel
theorem dX1_setSworn_64 : decode cX1_setSworn 64 = .ok (.invokevirtual 95, 3) := by decide +kernel
theorem dX1_setSworn_67 : decode cX1_setSworn 67 = .ok (.ireturn, 1) := by decide +kernel
theorem e_75 (r : Nat) (a0 : Int32) (a1 : Int32) (ws : ai_W) : ai_Call 75 [.ref r, .int a0, .int a1] ws = if ai_isob ws r 1 = true then ai_Run 75 0 [.ref r, .int a0, .int a1] [] ws else none := R_entV hk_75 ⟨⟨rfl, rfl⟩, Nat.le_of_ble_eq_true rfl⟩ rfl
theorem r_75_0 (l1 l2 : Value) (a : Nat) (st : List Value) (ws : ai_W) : ai_Run 75 0 [.ref a, l1, l2] st ws = ai_Run 75 1 [.ref a, l1, l2] (.ref a :: st) ws := R_aload_n hc_75 dX1_setSworn_0 rfl rfl
theorem r_75_1 (ls st : List Value) (a : Nat) (ws : ai_W) : ai_Run 75 1 ls (.ref a :: st) ws = (ai_fget ws a 1 0).bind fun q => ai_Run 75 4 ls (q :: st) ws := R_getf hc_75 dX1_setSworn_1 hv_75 (w := 573) rfl rfl
theorem r_75_4 (l0 l2 : Value) (a : Int32) (st : List Value) (ws : ai_W) : ai_Run 75 4 [l0, .int a, l2] st ws = ai_Run 75 5 [l0, .int a, l2] (.int a :: st) ws := R_iload_n hc_75 dX1_setSworn_4 rfl rfl
theorem r_75_5 (ls : List Value) (r : Nat) (b0 : Int32) (ws : ai_W) : ai_Run 75 5 ls [.int b0, .ref r] ws = (ai_Call 35 [.ref r, .int b0] ws).bind fun q => ai_Run 75 8 ls (q.1.toList ++ []) q.2 := R_callV hc_75 dX1_setSworn_5 hv_75 (w := 157) rfl (ai_lt3 hf_35 hf_75 hL_35 ho_35 ho_75 rfl) hk_35 (by rw [hn_35]; rfl) rfl (Nat.le_of_ble_eq_true rfl) rfl
theorem r_75_8 (ls st : List Value) (a : Int32) (ws : ai_W) : ai_Run 75 8 ls (.int a :: st) ws = if a = 0 then ai_Run 75 11 ls st ws else ai_Run 75 13 ls st ws := R_if_ne hc_75 dX1_setSworn_8 rfl rfl
theorem r_75_11 (ls st : List Value) (ws : ai_W) : ai_Run 75 11 ls st ws = ai_Run 75 12 ls (.int (-1) :: st) ws := R_iconst hc_75 dX1_setSworn_11 (by decide) rfl
theorem r_75_12 (ls : List Value) (x : Int32) (ws : ai_W) : ai_Run 75 12 ls [.int x] ws = some (some (.int x), ws) := R_iret hc_75 dX1_setSworn_12 ht_75
theorem r_75_13 (l0 l1 : Value) (a : Int32) (st : List Value) (ws : ai_W) : ai_Run 75 13 [l0, l1, .int a] st ws = ai_Run 75 14 [l0, l1, .int a] (.int a :: st) ws := R_iload_n hc_75 dX1_setSworn_13 rfl rfl
theorem r_75_14 (ls : List Value) (b0 : Int32) (ws : ai_W) : ai_Run 75 14 ls [.int b0] ws = (ai_Call 74 [.int b0] ws).bind fun q => ai_Run 75 17 ls (q.1.toList ++ []) q.2 := R_callN hc_75 dX1_setSworn_14 hv_75 (w := 161) rfl (ai_lt3 hf_74 hf_75 hL_74 ho_74 ho_75 rfl) hk_74 (by rw [hn_74]; rfl) rfl (Nat.le_of_ble_eq_true rfl) rfl
theorem r_75_17 (ls st : List Value) (a : Int32) (ws : ai_W) : ai_Run 75 17 ls (.int a :: st) ws = if a = 0 then ai_Run 75 20 ls st ws else ai_Run 75 23 ls st ws := R_if_ne hc_75 dX1_setSworn_17 rfl rfl
theorem r_75_20 (ls st : List Value) (ws : ai_W) : ai_Run 75 20 ls st ws = ai_Run 75 22 ls (.int (-2) :: st) ws := R_bipush hc_75 dX1_setSworn_20 (by decide) rfl
theorem r_75_22 (ls : List Value) (x : Int32) (ws : ai_W) : ai_Run 75 22 ls [.int x] ws = some (some (.int x), ws) := R_iret hc_75 dX1_setSworn_22 ht_75
theorem r_75_23 (l1 l2 : Value) (a : Nat) (st : List Value) (ws : ai_W) : ai_Run 75 23 [.ref a, l1, l2] st ws = ai_Run 75 24 [.ref a, l1, l2] (.ref a :: st) ws := R_aload_n hc_75 dX1_setSworn_23 rfl rfl
theorem r_75_24 (ls st : List Value) (a : Nat) (ws : ai_W) : ai_Run 75 24 ls (.ref a :: st) ws = (ai_fget ws a 1 0).bind fun q => ai_Run 75 27 ls (q :: st) ws := R_getf hc_75 dX1_setSworn_24 hv_75 (w := 573) rfl rfl
theorem r_75_27 (ls st : List Value) (a : Nat) (ws : ai_W) : ai_Run 75 27 ls (.ref a :: st) ws = (ai_fget ws a 0 7).bind fun q => ai_Run 75 30 ls (q :: st) ws := R_getf hc_75 dX1_setSworn_27 hv_75 (w := 487) rfl rfl
theorem r_75_30 (l0 l2 : Value) (a : Int32) (st : List Value) (ws : ai_W) : ai_Run 75 30 [l0, .int a, l2] st ws = ai_Run 75 31 [l0, .int a, l2] (.int a :: st) ws := R_iload_n hc_75 dX1_setSworn_30 rfl rfl
theorem r_75_31 (ls : List Value) (r : Nat) (b0 : Int32) (ws : ai_W) : ai_Run 75 31 ls [.int b0, .ref r] ws = (ai_Call 12 [.ref r, .int b0] ws).bind fun q => ai_Run 75 34 ls (q.1.toList ++ []) q.2 := R_callV hc_75 dX1_setSworn_31 hv_75 (w := 140) rfl (ai_lt3 hf_12 hf_75 hL_12 ho_12 ho_75 rfl) hk_12 (by rw [hn_12]; rfl) rfl (Nat.le_of_ble_eq_true rfl) rfl
theorem r_75_34 (l0 l1 : Value) (a : Int32) (st : List Value) (ws : ai_W) : ai_Run 75 34 [l0, l1, .int a] st ws = ai_Run 75 35 [l0, l1, .int a] (.int a :: st) ws := R_iload_n hc_75 dX1_setSworn_34 rfl rfl
theorem r_75_35 (ls st : List Value) (a b : Int32) (ws : ai_W) : ai_Run 75 35 ls (.int b :: .int a :: st) ws = if a = b then ai_Run 75 38 ls st ws else ai_Run 75 48 ls st ws := R_cmp_ne hc_75 dX1_setSworn_35 rfl rfl
theorem r_75_38 (l1 l2 : Value) (a : Nat) (st : List Value) (ws : ai_W) : ai_Run 75 38 [.ref a, l1, l2] st ws = ai_Run 75 39 [.ref a, l1, l2] (.ref a :: st) ws := R_aload_n hc_75 dX1_setSworn_38 rfl rfl
theorem r_75_39 (ls st : List Value) (a : Nat) (ws : ai_W) : ai_Run 75 39 ls (.ref a :: st) ws = (ai_fget ws a 1 3).bind fun q => ai_Run 75 42 ls (q :: st) ws := R_getf hc_75 dX1_setSworn_39 hv_75 (w := 576) rfl rfl
theorem r_75_42 (ls st : List Value) (ws : ai_W) : ai_Run 75 42 ls st ws = ai_Run 75 43 ls (.int 5 :: st) ws := R_iconst hc_75 dX1_setSworn_42 (by decide) rfl
theorem r_75_43 (l0 l1 : Value) (a : Int32) (st : List Value) (ws : ai_W) : ai_Run 75 43 [l0, l1, .int a] st ws = ai_Run 75 44 [l0, l1, .int a] (.int a :: st) ws := R_iload_n hc_75 dX1_setSworn_43 rfl rfl
theorem r_75_44 (ls : List Value) (r : Nat) (b0 : Int32) (b1 : Int32) (ws : ai_W) : ai_Run 75 44 ls [.int b1, .int b0, .ref r] ws = (ai_Call 47 [.ref r, .int b0, .int b1] ws).bind fun q => ai_Run 75 47 ls (q.1.toList ++ []) q.2 := R_callV hc_75 dX1_setSworn_44 hv_75 (w := 84) rfl (ai_lt3 hf_47 hf_75 hL_47 ho_47 ho_75 rfl) hk_47 (by rw [hn_47]; rfl) rfl (Nat.le_of_ble_eq_true rfl) rfl
theorem r_75_47 (ls : List Value) (x : Int32) (ws : ai_W) : ai_Run 75 47 ls [.int x] ws = some (some (.int x), ws) := R_iret hc_75 dX1_setSworn_47 ht_75
theorem r_75_48 (l1 l2 : Value) (a : Nat) (st : List Value) (ws : ai_W) : ai_Run 75 48 [.ref a, l1, l2] st ws = ai_Run 75 49 [.ref a, l1, l2] (.ref a :: st) ws := R_aload_n hc_75 dX1_setSworn_48 rfl rfl
theorem r_75_49 (ls st : List Value) (a : Nat) (ws : ai_W) : ai_Run 75 49 ls (.ref a :: st) ws = (ai_fget ws a 1 0).bind fun q => ai_Run 75 52 ls (q :: st) ws := R_getf hc_75 dX1_setSworn_49 hv_75 (w := 573) rfl rfl
theorem r_75_52 (ls st : List Value) (a : Nat) (ws : ai_W) : ai_Run 75 52 ls (.ref a :: st) ws = (ai_fget ws a 0 7).bind fun q => ai_Run 75 55 ls (q :: st) ws := R_getf hc_75 dX1_setSworn_52 hv_75 (w := 487) rfl rfl
theorem r_75_55 (l0 l2 : Value) (a : Int32) (st : List Value) (ws : ai_W) : ai_Run 75 55 [l0, .int a, l2] st ws = ai_Run 75 56 [l0, .int a, l2] (.int a :: st) ws := R_iload_n hc_75 dX1_setSworn_55 rfl rfl
theorem r_75_56 (l0 l1 : Value) (a : Int32) (st : List Value) (ws : ai_W) : ai_Run 75 56 [l0, l1, .int a] st ws = ai_Run 75 57 [l0, l1, .int a] (.int a :: st) ws := R_iload_n hc_75 dX1_setSworn_56 rfl rfl
theorem r_75_57 (ls : List Value) (r : Nat) (b0 : Int32) (b1 : Int32) (ws : ai_W) : ai_Run 75 57 ls [.int b1, .int b0, .ref r] ws = (ai_Call 29 [.ref r, .int b0, .int b1] ws).bind fun q => ai_Run 75 60 ls (q.1.toList ++ []) q.2 := R_callV hc_75 dX1_setSworn_57 hv_75 (w := 164) rfl (ai_lt3 hf_29 hf_75 hL_29 ho_29 ho_75 rfl) hk_29 (by rw [hn_29]; rfl) rfl (Nat.le_of_ble_eq_true rfl) rfl
theorem r_75_60 (l1 l2 : Value) (a : Nat) (st : List Value) (ws : ai_W) : ai_Run 75 60 [.ref a, l1, l2] st ws = ai_Run 75 61 [.ref a, l1, l2] (.ref a :: st) ws := R_aload_n hc_75 dX1_setSworn_60 rfl rfl
theorem r_75_61 (ls st : List Value) (a : Nat) (ws : ai_W) : ai_Run 75 61 ls (.ref a :: st) ws = (ai_fget ws a 1 0).bind fun q => ai_Run 75 64 ls (q :: st) ws := R_getf hc_75 dX1_setSworn_61 hv_75 (w := 573) rfl rfl
theorem r_75_64 (ls : List Value) (r : Nat) (ws : ai_W) : ai_Run 75 64 ls [.ref r] ws = (ai_Call 25 [.ref r] ws).bind fun q => ai_Run 75 67 ls (q.1.toList ++ []) q.2 := R_callV hc_75 dX1_setSworn_64 hv_75 (w := 165) rfl (ai_lt3 hf_25 hf_75 hL_25 ho_25 ho_75 rfl) hk_25 (by rw [hn_25]; rfl) rfl (Nat.le_of_ble_eq_true rfl) rfl
theorem r_75_67 (ls : List Value) (x : Int32) (ws : ai_W) : ai_Run 75 67 ls [.int x] ws = some (some (.int x), ws) := R_iret hc_75 dX1_setSworn_67 ht_75
theorem dX0_motivePages_0 : decode cX0_motivePages 0 = .ok (.aload_n 0, 1) := by decide +kernel
theorem dX0_motivePages_1 : decode cX0_motivePages 1 = .ok (.getfield 32, 3) := by decide +kernel
theorem dX0_motivePages_4 : decode cX0_motivePages 4 = .ok (.iload_n 1, 1) := by decide +kernel
theorem dX0_motivePages_5 : decode cX0_motivePages 5 = .ok (.bipush 8, 2) := by decide +kernel
theorem dX0_motivePages_7 : decode cX0_motivePages 7 = .ok (.imul, 1) := by decide +kernel
theorem dX0_motivePages_8 : decode cX0_motivePages 8 = .ok (.iload_n 2, 1) := by decide +kernel
theorem dX0_motivePages_9 : decode cX0_motivePages 9 = .ok (.iadd, 1) := by decide +kernel
theorem dX0_motivePages_10 : decode cX0_motivePages 10 = .ok (.invokevirtual 57, 3) := by decide +kernel
theorem dX0_motivePages_13 : decode cX0_motivePages 13 = .ok (.ireturn, 1) := by decide +kernel
theorem e_76 (r : Nat) (a0 : Int32) (a1 : Int32) (ws : ai_W) : ai_Call 76 [.ref r, .int a0, .int a1] ws = if ai_isob ws r 0 = true then ai_Run 76 0 [.ref r, .int a0, .int a1] [] ws else none := R_entV hk_76 ⟨⟨rfl, rfl⟩, Nat.le_of_ble_eq_true rfl⟩ rfl
theorem r_76_0 (l1 l2 : Value) (a : Nat) (st : List Value) (ws : ai_W) : ai_Run 76 0 [.ref a, l1, l2] st ws = ai_Run 76 1 [.ref a, l1, l2] (.ref a :: st) ws := R_aload_n hc_76 dX0_motivePages_0 rfl rfl
theorem r_76_1 (ls st : List Value) (a : Nat) (ws : ai_W) : ai_Run 76 1 ls (.ref a :: st) ws = (ai_fget ws a 0 8).bind fun q => ai_Run 76 4 ls (q :: st) ws := R_getf hc_76 dX0_motivePages_1 hv_76 (w := 489) rfl rfl
theorem r_76_4 (l0 l2 : Value) (a : Int32) (st : List Value) (ws : ai_W) : ai_Run 76 4 [l0, .int a, l2] st ws = ai_Run 76 5 [l0, .int a, l2] (.int a :: st) ws := R_iload_n hc_76 dX0_motivePages_4 rfl rfl
theorem r_76_5 (ls st : List Value) (ws : ai_W) : ai_Run 76 5 ls st ws = ai_Run 76 7 ls (.int 8 :: st) ws := R_bipush hc_76 dX0_motivePages_5 (by decide) rfl
theorem r_76_7 (ls st : List Value) (a b : Int32) (ws : ai_W) : ai_Run 76 7 ls (.int b :: .int a :: st) ws = ai_Run 76 8 ls (.int (a * b) :: st) ws := R_imul hc_76 dX0_motivePages_7 rfl
theorem r_76_8 (l0 l1 : Value) (a : Int32) (st : List Value) (ws : ai_W) : ai_Run 76 8 [l0, l1, .int a] st ws = ai_Run 76 9 [l0, l1, .int a] (.int a :: st) ws := R_iload_n hc_76 dX0_motivePages_8 rfl rfl
theorem r_76_9 (ls st : List Value) (a b : Int32) (ws : ai_W) : ai_Run 76 9 ls (.int b :: .int a :: st) ws = ai_Run 76 10 ls (.int (a + b) :: st) ws := R_iadd hc_76 dX0_motivePages_9 rfl
theorem r_76_10 (ls : List Value) (r : Nat) (b0 : Int32) (ws : ai_W) : ai_Run 76 10 ls [.int b0, .ref r] ws = (ai_Call 12 [.ref r, .int b0] ws).bind fun q => ai_Run 76 13 ls (q.1.toList ++ []) q.2 := R_callV hc_76 dX0_motivePages_10 hv_76 (w := 119) rfl (ai_lt3 hf_12 hf_76 hL_12 ho_12 ho_76 rfl) hk_12 (by rw [hn_12]; rfl) rfl (Nat.le_of_ble_eq_true rfl) rfl
theorem r_76_13 (ls : List Value) (x : Int32) (ws : ai_W) : ai_Run 76 13 ls [.int x] ws = some (some (.int x), ws) := R_iret hc_76 dX0_motivePages_13 ht_76
