/-! rules: printed by gen2.py -/
theorem dX11_of_0 : decode cX11_of 0 = .ok (.aload_n 0, 1) := by decide +kernel
theorem dX11_of_1 : decode cX11_of 1 = .ok (.getfield 9, 3) := by decide +kernel
theorem dX11_of_4 : decode cX11_of 4 = .ok (.bipush 109, 2) := by decide +kernel
theorem dX11_of_6 : decode cX11_of 6 = .ok (.bipush 10, 2) := by decide +kernel
theorem dX11_of_8 : decode cX11_of 8 = .ok (.iload_n 1, 1) := by decide +kernel
theorem dX11_of_9 : decode cX11_of 9 = .ok (.imul, 1) := by decide +kernel
theorem dX11_of_10 : decode cX11_of 10 = .ok (.iadd, 1) := by decide +kernel
theorem dX11_of_11 : decode cX11_of 11 = .ok (.iload_n 2, 1) := by decide +kernel
theorem dX11_of_12 : decode cX11_of 12 = .ok (.iadd, 1) := by decide +kernel
theorem dX11_of_13 : decode cX11_of 13 = .ok (.iaload, 1) := by decide +kernel
theorem dX11_of_14 : decode cX11_of 14 = .ok (.ireturn, 1) := by decide +kernel
theorem e_165 (r : Nat) (a0 : Int32) (a1 : Int32) (ws : ai_W) : ai_Call 165 [.ref r, .int a0, .int a1] ws = if ai_isob ws r 11 = true then ai_Run 165 0 [.ref r, .int a0, .int a1] [] ws else none := R_entV hk_165 ⟨⟨rfl, rfl⟩, Nat.le_of_ble_eq_true rfl⟩ rfl
theorem r_165_0 (l1 l2 : Value) (a : Nat) (st : List Value) (ws : ai_W) : ai_Run 165 0 [.ref a, l1, l2] st ws = ai_Run 165 1 [.ref a, l1, l2] (.ref a :: st) ws := R_aload_n hc_165 dX11_of_0 rfl rfl
theorem r_165_1 (ls st : List Value) (a : Nat) (ws : ai_W) : ai_Run 165 1 ls (.ref a :: st) ws = (ai_fget ws a 11 0).bind fun q => ai_Run 165 4 ls (q :: st) ws := R_getf hc_165 dX11_of_1 hv_165 (w := 1024) rfl rfl
theorem r_165_4 (ls st : List Value) (ws : ai_W) : ai_Run 165 4 ls st ws = ai_Run 165 6 ls (.int 109 :: st) ws := R_bipush hc_165 dX11_of_4 (by decide) rfl
theorem r_165_6 (ls st : List Value) (ws : ai_W) : ai_Run 165 6 ls st ws = ai_Run 165 8 ls (.int 10 :: st) ws := R_bipush hc_165 dX11_of_6 (by decide) rfl
theorem r_165_8 (l0 l2 : Value) (a : Int32) (st : List Value) (ws : ai_W) : ai_Run 165 8 [l0, .int a, l2] st ws = ai_Run 165 9 [l0, .int a, l2] (.int a :: st) ws := R_iload_n hc_165 dX11_of_8 rfl rfl
theorem r_165_9 (ls st : List Value) (a b : Int32) (ws : ai_W) : ai_Run 165 9 ls (.int b :: .int a :: st) ws = ai_Run 165 10 ls (.int (a * b) :: st) ws := R_imul hc_165 dX11_of_9 rfl
theorem r_165_10 (ls st : List Value) (a b : Int32) (ws : ai_W) : ai_Run 165 10 ls (.int b :: .int a :: st) ws = ai_Run 165 11 ls (.int (a + b) :: st) ws := R_iadd hc_165 dX11_of_10 rfl
theorem r_165_11 (l0 l1 : Value) (a : Int32) (st : List Value) (ws : ai_W) : ai_Run 165 11 [l0, l1, .int a] st ws = ai_Run 165 12 [l0, l1, .int a] (.int a :: st) ws := R_iload_n hc_165 dX11_of_11 rfl rfl
theorem r_165_12 (ls st : List Value) (a b : Int32) (ws : ai_W) : ai_Run 165 12 ls (.int b :: .int a :: st) ws = ai_Run 165 13 ls (.int (a + b) :: st) ws := R_iadd hc_165 dX11_of_12 rfl
theorem r_165_13 (ls st : List Value) (a : Nat) (i : Int32) (ws : ai_W) : ai_Run 165 13 ls (.int i :: .ref a :: st) ws = (ai_aget ws a i).bind fun q => ai_Run 165 14 ls (.int q :: st) ws := R_iaload hc_165 dX11_of_13 rfl
theorem r_165_14 (ls : List Value) (x : Int32) (ws : ai_W) : ai_Run 165 14 ls [.int x] ws = some (some (.int x), ws) := R_iret hc_165 dX11_of_14 ht_165
theorem dX11_deathsOf_0 : decode cX11_deathsOf 0 = .ok (.aload_n 0, 1) := by decide +kernel
theorem dX11_deathsOf_1 : decode cX11_deathsOf 1 = .ok (.iload_n 1, 1) := by decide +kernel
theorem dX11_deathsOf_2 : decode cX11_deathsOf 2 = .ok (.iconst 0, 1) := by decide +kernel
theorem dX11_deathsOf_3 : decode cX11_deathsOf 3 = .ok (.invokevirtual 59, 3) := by decide +kernel
theorem dX11_deathsOf_6 : decode cX11_deathsOf 6 = .ok (.iconst 1, 1) := by decide +kernel
theorem dX11_deathsOf_7 : decode cX11_deathsOf 7 = .ok (.iadd, 1) := by decide +kernel
theorem dX11_deathsOf_8 : decode cX11_deathsOf 8 = .ok (.iconst 2, 1) := by decide +kernel
theorem dX11_deathsOf_9 : decode cX11_deathsOf 9 = .ok (.idiv, 1) := by decide +kernel
theorem dX11_deathsOf_10 : decode cX11_deathsOf 10 = .ok (.ireturn, 1) := by decide +kernel
theorem e_166 (r : Nat) (a0 : Int32) (ws : ai_W) : ai_Call 166 [.ref r, .int a0] ws = if ai_isob ws r 11 = true then ai_Run 166 0 [.ref r, .int a0] [] ws else none := R_entV hk_166 ⟨⟨rfl, rfl⟩, Nat.le_of_ble_eq_true rfl⟩ rfl
theorem r_166_0 (l1 : Value) (a : Nat) (st : List Value) (ws : ai_W) : ai_Run 166 0 [.ref a, l1] st ws = ai_Run 166 1 [.ref a, l1] (.ref a :: st) ws := R_aload_n hc_166 dX11_deathsOf_0 rfl rfl
theorem r_166_1 (l0 : Value) (a : Int32) (st : List Value) (ws : ai_W) : ai_Run 166 1 [l0, .int a] st ws = ai_Run 166 2 [l0, .int a] (.int a :: st) ws := R_iload_n hc_166 dX11_deathsOf_1 rfl rfl
theorem r_166_2 (ls st : List Value) (ws : ai_W) : ai_Run 166 2 ls st ws = ai_Run 166 3 ls (.int 0 :: st) ws := R_iconst hc_166 dX11_deathsOf_2 (by decide) rfl
theorem r_166_3 (ls : List Value) (r : Nat) (b0 : Int32) (b1 : Int32) (ws : ai_W) : ai_Run 166 3 ls [.int b1, .int b0, .ref r] ws = (ai_Call 165 [.ref r, .int b0, .int b1] ws).bind fun q => ai_Run 166 6 ls (q.1.toList ++ []) q.2 := R_callV hc_166 dX11_deathsOf_3 hv_166 (w := 1137) rfl (Nat.le_of_ble_eq_true rfl) hk_165 (by rw [hn_165]; rfl) rfl (Nat.le_of_ble_eq_true rfl) rfl
theorem r_166_6 (ls st : List Value) (ws : ai_W) : ai_Run 166 6 ls st ws = ai_Run 166 7 ls (.int 1 :: st) ws := R_iconst hc_166 dX11_deathsOf_6 (by decide) rfl
theorem r_166_7 (ls st : List Value) (a b : Int32) (ws : ai_W) : ai_Run 166 7 ls (.int b :: .int a :: st) ws = ai_Run 166 8 ls (.int (a + b) :: st) ws := R_iadd hc_166 dX11_deathsOf_7 rfl
theorem r_166_8 (ls st : List Value) (ws : ai_W) : ai_Run 166 8 ls st ws = ai_Run 166 9 ls (.int 2 :: st) ws := R_iconst hc_166 dX11_deathsOf_8 (by decide) rfl
theorem r_166_9 (ls st : List Value) (a : Int32) (ws : ai_W) : ai_Run 166 9 ls (.int 2 :: .int a :: st) ws = ai_Run 166 10 ls (.int (a / 2) :: st) ws := R_idiv hc_166 dX11_deathsOf_9 (by decide) rfl
theorem r_166_10 (ls : List Value) (x : Int32) (ws : ai_W) : ai_Run 166 10 ls [.int x] ws = some (some (.int x), ws) := R_iret hc_166 dX11_deathsOf_10 ht_166
theorem dX11_allDeaths_0 : decode cX11_allDeaths 0 = .ok (.iconst 0, 1) := by decide +kernel
theorem dX11_allDeaths_1 : decode cX11_allDeaths 1 = .ok (.istore_n 1, 1) := by decide +kernel
theorem dX11_allDeaths_2 : decode cX11_allDeaths 2 = .ok (.iconst 0, 1) := by decide +kernel
theorem dX11_allDeaths_3 : decode cX11_allDeaths 3 = .ok (.istore_n 2, 1) := by decide +kernel
theorem dX11_allDeaths_4 : decode cX11_allDeaths 4 = .ok (.iload_n 2, 1) := by decide +kernel
theorem dX11_allDeaths_5 : decode cX11_allDeaths 5 = .ok (.aload_n 0, 1) := by decide +kernel
theorem dX11_allDeaths_6 : decode cX11_allDeaths 6 = .ok (.getfield 9, 3) := by decide +kernel
theorem dX11_allDeaths_9 : decode cX11_allDeaths 9 = .ok (.iconst 0, 1) := by decide +kernel
theorem dX11_allDeaths_10 : decode cX11_allDeaths 10 = .ok (.iaload, 1) := by decide +kernel
theorem dX11_allDeaths_11 : decode cX11_allDeaths 11 = .ok (.if_icmp .ge 17, 3) := by decide +kernel
theorem dX11_allDeaths_14 : decode cX11_allDeaths 14 = .ok (.iload_n 1, 1) := by decide +kernel
theorem dX11_allDeaths_15 : decode cX11_allDeaths 15 = .ok (.aload_n 0, 1) := by decide +kernel
theorem dX11_allDeaths_16 : decode cX11_allDeaths 16 = .ok (.iload_n 2, 1) := by decide +kernel
theorem dX11_allDeaths_17 : decode cX11_allDeaths 17 = .ok (.invokevirtual 66, 3) := by decide +kernel
theorem dX11_allDeaths_20 : decode cX11_allDeaths 20 = .ok (.iadd, 1) := by decide +kernel
theorem dX11_allDeaths_21 : decode cX11_allDeaths 21 = .ok (.istore_n 1, 1) := by decide +kernel
theorem dX11_allDeaths_22 : decode cX11_allDeaths 22 = .ok (.iinc 2 1, 3) := by decide +kernel
theorem dX11_allDeaths_25 : decode cX11_allDeaths 25 = .ok (.goto (-21), 3) := by decide +kernel
theorem dX11_allDeaths_28 : decode cX11_allDeaths 28 = .ok (.iload_n 1, 1) := by decide +kernel
theorem dX11_allDeaths_29 : decode cX11_allDeaths 29 = .ok (.ireturn, 1) := by decide +kernel
theorem e_167 (r : Nat)  (ws : ai_W) : ai_Call 167 [.ref r] ws = if ai_isob ws r 11 = true then ai_Run 167 0 [.ref r, .null, .null] [] ws else none := R_entV hk_167 ⟨⟨rfl, rfl⟩, Nat.le_of_ble_eq_true rfl⟩ rfl
theorem r_167_0 (ls st : List Value) (ws : ai_W) : ai_Run 167 0 ls st ws = ai_Run 167 1 ls (.int 0 :: st) ws := R_iconst hc_167 dX11_allDeaths_0 (by decide) rfl
theorem r_167_1 (l0 l1 l2 : Value) (a : Int32) (st : List Value) (ws : ai_W) : ai_Run 167 1 [l0, l1, l2] (.int a :: st) ws = ai_Run 167 2 [l0, .int a, l2] st ws := R_istore_n hc_167 dX11_allDeaths_1 (Nat.le_of_ble_eq_true rfl) rfl rfl
theorem r_167_2 (ls st : List Value) (ws : ai_W) : ai_Run 167 2 ls st ws = ai_Run 167 3 ls (.int 0 :: st) ws := R_iconst hc_167 dX11_allDeaths_2 (by decide) rfl
theorem r_167_3 (l0 l1 l2 : Value) (a : Int32) (st : List Value) (ws : ai_W) : ai_Run 167 3 [l0, l1, l2] (.int a :: st) ws = ai_Run 167 4 [l0, l1, .int a] st ws := R_istore_n hc_167 dX11_allDeaths_3 (Nat.le_of_ble_eq_true rfl) rfl rfl
theorem r_167_4 (l0 l1 : Value) (a : Int32) (st : List Value) (ws : ai_W) : ai_Run 167 4 [l0, l1, .int a] st ws = ai_Run 167 5 [l0, l1, .int a] (.int a :: st) ws := R_iload_n hc_167 dX11_allDeaths_4 rfl rfl
theorem r_167_5 (l1 l2 : Value) (a : Nat) (st : List Value) (ws : ai_W) : ai_Run 167 5 [.ref a, l1, l2] st ws = ai_Run 167 6 [.ref a, l1, l2] (.ref a :: st) ws := R_aload_n hc_167 dX11_allDeaths_5 rfl rfl
theorem r_167_6 (ls st : List Value) (a : Nat) (ws : ai_W) : ai_Run 167 6 ls (.ref a :: st) ws = (ai_fget ws a 11 0).bind fun q => ai_Run 167 9 ls (q :: st) ws := R_getf hc_167 dX11_allDeaths_6 hv_167 (w := 1024) rfl rfl
theorem r_167_9 (ls st : List Value) (ws : ai_W) : ai_Run 167 9 ls st ws = ai_Run 167 10 ls (.int 0 :: st) ws := R_iconst hc_167 dX11_allDeaths_9 (by decide) rfl
theorem r_167_10 (ls st : List Value) (a : Nat) (i : Int32) (ws : ai_W) : ai_Run 167 10 ls (.int i :: .ref a :: st) ws = (ai_aget ws a i).bind fun q => ai_Run 167 11 ls (.int q :: st) ws := R_iaload hc_167 dX11_allDeaths_10 rfl
theorem r_167_11 (ls st : List Value) (a b : Int32) (ws : ai_W) : ai_Run 167 11 ls (.int b :: .int a :: st) ws = if a < b then ai_Run 167 14 ls st ws else ai_Run 167 28 ls st ws := R_cmp_ge hc_167 dX11_allDeaths_11 rfl rfl
theorem r_167_14 (l0 l2 : Value) (a : Int32) (st : List Value) (ws : ai_W) : ai_Run 167 14 [l0, .int a, l2] st ws = ai_Run 167 15 [l0, .int a, l2] (.int a :: st) ws := R_iload_n hc_167 dX11_allDeaths_14 rfl rfl
theorem r_167_15 (l1 l2 : Value) (a : Nat) (st : List Value) (ws : ai_W) : ai_Run 167 15 [.ref a, l1, l2] st ws = ai_Run 167 16 [.ref a, l1, l2] (.ref a :: st) ws := R_aload_n hc_167 dX11_allDeaths_15 rfl rfl
theorem r_167_16 (l0 l1 : Value) (a : Int32) (st : List Value) (ws : ai_W) : ai_Run 167 16 [l0, l1, .int a] st ws = ai_Run 167 17 [l0, l1, .int a] (.int a :: st) ws := R_iload_n hc_167 dX11_allDeaths_16 rfl rfl
theorem r_167_17 (ls : List Value) (r : Nat) (b0 : Int32) (s0 : Value) (ws : ai_W) : ai_Run 167 17 ls [.int b0, .ref r, s0] ws = (ai_Call 166 [.ref r, .int b0] ws).bind fun q => ai_Run 167 20 ls (q.1.toList ++ [s0]) q.2 := R_callV hc_167 dX11_allDeaths_17 hv_167 (w := 1141) rfl (Nat.le_of_ble_eq_true rfl) hk_166 (by rw [hn_166]; rfl) rfl (Nat.le_of_ble_eq_true rfl) rfl
theorem r_167_20 (ls st : List Value) (a b : Int32) (ws : ai_W) : ai_Run 167 20 ls (.int b :: .int a :: st) ws = ai_Run 167 21 ls (.int (a + b) :: st) ws := R_iadd hc_167 dX11_allDeaths_20 rfl
theorem r_167_21 (l0 l1 l2 : Value) (a : Int32) (st : List Value) (ws : ai_W) : ai_Run 167 21 [l0, l1, l2] (.int a :: st) ws = ai_Run 167 22 [l0, .int a, l2] st ws := R_istore_n hc_167 dX11_allDeaths_21 (Nat.le_of_ble_eq_true rfl) rfl rfl
theorem r_167_22 (l0 l1 : Value) (a : Int32) (st : List Value) (ws : ai_W) : ai_Run 167 22 [l0, l1, .int a] st ws = ai_Run 167 25 [l0, l1, .int (a + 1)] st ws := R_iinc hc_167 dX11_allDeaths_22 rfl (by decide) rfl rfl
theorem r_167_25 (ls st : List Value) (ws : ai_W) : ai_Run 167 25 ls st ws = ai_Run 167 4 ls st ws := R_goto hc_167 dX11_allDeaths_25 rfl
theorem r_167_28 (l0 l2 : Value) (a : Int32) (st : List Value) (ws : ai_W) : ai_Run 167 28 [l0, .int a, l2] st ws = ai_Run 167 29 [l0, .int a, l2] (.int a :: st) ws := R_iload_n hc_167 dX11_allDeaths_28 rfl rfl
theorem r_167_29 (ls : List Value) (x : Int32) (ws : ai_W) : ai_Run 167 29 ls [.int x] ws = some (some (.int x), ws) := R_iret hc_167 dX11_allDeaths_29 ht_167
theorem dX11_risingsOf_0 : decode cX11_risingsOf 0 = .ok (.aload_n 0, 1) := by decide +kernel
theorem dX11_risingsOf_1 : decode cX11_risingsOf 1 = .ok (.iload_n 1, 1) := by decide +kernel
theorem dX11_risingsOf_2 : decode cX11_risingsOf 2 = .ok (.iconst 0, 1) := by decide +kernel
theorem dX11_risingsOf_3 : decode cX11_risingsOf 3 = .ok (.invokevirtual 59, 3) := by decide +kernel
theorem dX11_risingsOf_6 : decode cX11_risingsOf 6 = .ok (.iconst 2, 1) := by decide +kernel
theorem dX11_risingsOf_7 : decode cX11_risingsOf 7 = .ok (.idiv, 1) := by decide +kernel
theorem dX11_risingsOf_8 : decode cX11_risingsOf 8 = .ok (.ireturn, 1) := by decide +kernel
theorem e_168 (r : Nat) (a0 : Int32) (ws : ai_W) : ai_Call 168 [.ref r, .int a0] ws = if ai_isob ws r 11 = true then ai_Run 168 0 [.ref r, .int a0] [] ws else none := R_entV hk_168 ⟨⟨rfl, rfl⟩, Nat.le_of_ble_eq_true rfl⟩ rfl
theorem r_168_0 (l1 : Value) (a : Nat) (st : List Value) (ws : ai_W) : ai_Run 168 0 [.ref a, l1] st ws = ai_Run 168 1 [.ref a, l1] (.ref a :: st) ws := R_aload_n hc_168 dX11_risingsOf_0 rfl rfl
theorem r_168_1 (l0 : Value) (a : Int32) (st : List Value) (ws : ai_W) : ai_Run 168 1 [l0, .int a] st ws = ai_Run 168 2 [l0, .int a] (.int a :: st) ws := R_iload_n hc_168 dX11_risingsOf_1 rfl rfl
theorem r_168_2 (ls st : List Value) (ws : ai_W) : ai_Run 168 2 ls st ws = ai_Run 168 3 ls (.int 0 :: st) ws := R_iconst hc_168 dX11_risingsOf_2 (by decide) rfl
theorem r_168_3 (ls : List Value) (r : Nat) (b0 : Int32) (b1 : Int32) (ws : ai_W) : ai_Run 168 3 ls [.int b1, .int b0, .ref r] ws = (ai_Call 165 [.ref r, .int b0, .int b1] ws).bind fun q => ai_Run 168 6 ls (q.1.toList ++ []) q.2 := R_callV hc_168 dX11_risingsOf_3 hv_168 (w := 1137) rfl (Nat.le_of_ble_eq_true rfl) hk_165 (by rw [hn_165]; rfl) rfl (Nat.le_of_ble_eq_true rfl) rfl
theorem r_168_6 (ls st : List Value) (ws : ai_W) : ai_Run 168 6 ls st ws = ai_Run 168 7 ls (.int 2 :: st) ws := R_iconst hc_168 dX11_risingsOf_6 (by decide) rfl
theorem r_168_7 (ls st : List Value) (a : Int32) (ws : ai_W) : ai_Run 168 7 ls (.int 2 :: .int a :: st) ws = ai_Run 168 8 ls (.int (a / 2) :: st) ws := R_idiv hc_168 dX11_risingsOf_7 (by decide) rfl
theorem r_168_8 (ls : List Value) (x : Int32) (ws : ai_W) : ai_Run 168 8 ls [.int x] ws = some (some (.int x), ws) := R_iret hc_168 dX11_risingsOf_8 ht_168
theorem dX11_allRisings_0 : decode cX11_allRisings 0 = .ok (.iconst 0, 1) := by decide +kernel
theorem dX11_allRisings_1 : decode cX11_allRisings 1 = .ok (.istore_n 1, 1) := by decide +kernel
theorem dX11_allRisings_2 : decode cX11_allRisings 2 = .ok (.iconst 0, 1) := by decide +kernel
theorem dX11_allRisings_3 : decode cX11_allRisings 3 = .ok (.istore_n 2, 1) := by decide +kernel
theorem dX11_allRisings_4 : decode cX11_allRisings 4 = .ok (.iload_n 2, 1) := by decide +kernel
theorem dX11_allRisings_5 : decode cX11_allRisings 5 = .ok (.aload_n 0, 1) := by decide +kernel
theorem dX11_allRisings_6 : decode cX11_allRisings 6 = .ok (.getfield 9, 3) := by decide +kernel
theorem dX11_allRisings_9 : decode cX11_allRisings 9 = .ok (.iconst 0, 1) := by decide +kernel
theorem dX11_allRisings_10 : decode cX11_allRisings 10 = .ok (.iaload, 1) := by decide +kernel
theorem dX11_allRisings_11 : decode cX11_allRisings 11 = .ok (.if_icmp .ge 17, 3) := by decide +kernel
theorem dX11_allRisings_14 : decode cX11_allRisings 14 = .ok (.iload_n 1, 1) := by decide +kernel
theorem dX11_allRisings_15 : decode cX11_allRisings 15 = .ok (.aload_n 0, 1) := by decide +kernel
theorem dX11_allRisings_16 : decode cX11_allRisings 16 = .ok (.iload_n 2, 1) := by decide +kernel
theorem dX11_allRisings_17 : decode cX11_allRisings 17 = .ok (.invokevirtual 175, 3) := by decide +kernel
theorem dX11_allRisings_20 : decode cX11_allRisings 20 = .ok (.iadd, 1) := by decide +kernel
theorem dX11_allRisings_21 : decode cX11_allRisings 21 = .ok (.istore_n 1, 1) := by decide +kernel
theorem dX11_allRisings_22 : decode cX11_allRisings 22 = .ok (.iinc 2 1, 3) := by decide +kernel
theorem dX11_allRisings_25 : decode cX11_allRisings 25 = .ok (.goto (-21), 3) := by decide +kernel
theorem dX11_allRisings_28 : decode cX11_allRisings 28 = .ok (.iload_n 1, 1) := by decide +kernel
theorem dX11_allRisings_29 : decode cX11_allRisings 29 = .ok (.ireturn, 1) := by decide +kernel
theorem e_169 (r : Nat)  (ws : ai_W) : ai_Call 169 [.ref r] ws = if ai_isob ws r 11 = true then ai_Run 169 0 [.ref r, .null, .null] [] ws else none := R_entV hk_169 ⟨⟨rfl, rfl⟩, Nat.le_of_ble_eq_true rfl⟩ rfl
theorem r_169_0 (ls st : List Value) (ws : ai_W) : ai_Run 169 0 ls st ws = ai_Run 169 1 ls (.int 0 :: st) ws := R_iconst hc_169 dX11_allRisings_0 (by decide) rfl
theorem r_169_1 (l0 l1 l2 : Value) (a : Int32) (st : List Value) (ws : ai_W) : ai_Run 169 1 [l0, l1, l2] (.int a :: st) ws = ai_Run 169 2 [l0, .int a, l2] st ws := R_istore_n hc_169 dX11_allRisings_1 (Nat.le_of_ble_eq_true rfl) rfl rfl
theorem r_169_2 (ls st : List Value) (ws : ai_W) : ai_Run 169 2 ls st ws = ai_Run 169 3 ls (.int 0 :: st) ws := R_iconst hc_169 dX11_allRisings_2 (by decide) rfl
theorem r_169_3 (l0 l1 l2 : Value) (a : Int32) (st : List Value) (ws : ai_W) : ai_Run 169 3 [l0, l1, l2] (.int a :: st) ws = ai_Run 169 4 [l0, l1, .int a] st ws := R_istore_n hc_169 dX11_allRisings_3 (Nat.le_of_ble_eq_true rfl) rfl rfl
theorem r_169_4 (l0 l1 : Value) (a : Int32) (st : List Value) (ws : ai_W) : ai_Run 169 4 [l0, l1, .int a] st ws = ai_Run 169 5 [l0, l1, .int a] (.int a :: st) ws := R_iload_n hc_169 dX11_allRisings_4 rfl rfl
theorem r_169_5 (l1 l2 : Value) (a : Nat) (st : List Value) (ws : ai_W) : ai_Run 169 5 [.ref a, l1, l2] st ws = ai_Run 169 6 [.ref a, l1, l2] (.ref a :: st) ws := R_aload_n hc_169 dX11_allRisings_5 rfl rfl
theorem r_169_6 (ls st : List Value) (a : Nat) (ws : ai_W) : ai_Run 169 6 ls (.ref a :: st) ws = (ai_fget ws a 11 0).bind fun q => ai_Run 169 9 ls (q :: st) ws := R_getf hc_169 dX11_allRisings_6 hv_169 (w := 1024) rfl rfl
theorem r_169_9 (ls st : List Value) (ws : ai_W) : ai_Run 169 9 ls st ws = ai_Run 169 10 ls (.int 0 :: st) ws := R_iconst hc_169 dX11_allRisings_9 (by decide) rfl
theorem r_169_10 (ls st : List Value) (a : Nat) (i : Int32) (ws : ai_W) : ai_Run 169 10 ls (.int i :: .ref a :: st) ws = (ai_aget ws a i).bind fun q => ai_Run 169 11 ls (.int q :: st) ws := R_iaload hc_169 dX11_allRisings_10 rfl
theorem r_169_11 (ls st : List Value) (a b : Int32) (ws : ai_W) : ai_Run 169 11 ls (.int b :: .int a :: st) ws = if a < b then ai_Run 169 14 ls st ws else ai_Run 169 28 ls st ws := R_cmp_ge hc_169 dX11_allRisings_11 rfl rfl
theorem r_169_14 (l0 l2 : Value) (a : Int32) (st : List Value) (ws : ai_W) : ai_Run 169 14 [l0, .int a, l2] st ws = ai_Run 169 15 [l0, .int a, l2] (.int a :: st) ws := R_iload_n hc_169 dX11_allRisings_14 rfl rfl
theorem r_169_15 (l1 l2 : Value) (a : Nat) (st : List Value) (ws : ai_W) : ai_Run 169 15 [.ref a, l1, l2] st ws = ai_Run 169 16 [.ref a, l1, l2] (.ref a :: st) ws := R_aload_n hc_169 dX11_allRisings_15 rfl rfl
theorem r_169_16 (l0 l1 : Value) (a : Int32) (st : List Value) (ws : ai_W) : ai_Run 169 16 [l0, l1, .int a] st ws = ai_Run 169 17 [l0, l1, .int a] (.int a :: st) ws := R_iload_n hc_169 dX11_allRisings_16 rfl rfl
theorem r_169_17 (ls : List Value) (r : Nat) (b0 : Int32) (s0 : Value) (ws : ai_W) : ai_Run 169 17 ls [.int b0, .ref r, s0] ws = (ai_Call 168 [.ref r, .int b0] ws).bind fun q => ai_Run 169 20 ls (q.1.toList ++ [s0]) q.2 := R_callV hc_169 dX11_allRisings_17 hv_169 (w := 1284) rfl (Nat.le_of_ble_eq_true rfl) hk_168 (by rw [hn_168]; rfl) rfl (Nat.le_of_ble_eq_true rfl) rfl
theorem r_169_20 (ls st : List Value) (a b : Int32) (ws : ai_W) : ai_Run 169 20 ls (.int b :: .int a :: st) ws = ai_Run 169 21 ls (.int (a + b) :: st) ws := R_iadd hc_169 dX11_allRisings_20 rfl
theorem r_169_21 (l0 l1 l2 : Value) (a : Int32) (st : List Value) (ws : ai_W) : ai_Run 169 21 [l0, l1, l2] (.int a :: st) ws = ai_Run 169 22 [l0, .int a, l2] st ws := R_istore_n hc_169 dX11_allRisings_21 (Nat.le_of_ble_eq_true rfl) rfl rfl
theorem r_169_22 (l0 l1 : Value) (a : Int32) (st : List Value) (ws : ai_W) : ai_Run 169 22 [l0, l1, .int a] st ws = ai_Run 169 25 [l0, l1, .int (a + 1)] st ws := R_iinc hc_169 dX11_allRisings_22 rfl (by decide) rfl rfl
theorem r_169_25 (ls st : List Value) (ws : ai_W) : ai_Run 169 25 ls st ws = ai_Run 169 4 ls st ws := R_goto hc_169 dX11_allRisings_25 rfl
theorem r_169_28 (l0 l2 : Value) (a : Int32) (st : List Value) (ws : ai_W) : ai_Run 169 28 [l0, .int a, l2] st ws = ai_Run 169 29 [l0, .int a, l2] (.int a :: st) ws := R_iload_n hc_169 dX11_allRisings_28 rfl rfl
theorem r_169_29 (ls : List Value) (x : Int32) (ws : ai_W) : ai_Run 169 29 ls [.int x] ws = some (some (.int x), ws) := R_iret hc_169 dX11_allRisings_29 ht_169
theorem dX11_culprit_0 : decode cX11_culprit 0 = .ok (.aload_n 0, 1) := by decide +kernel
theorem dX11_culprit_1 : decode cX11_culprit 1 = .ok (.iload_n 1, 1) := by decide +kernel
theorem dX11_culprit_2 : decode cX11_culprit 2 = .ok (.bipush 7, 2) := by decide +kernel
theorem dX11_culprit_4 : decode cX11_culprit 4 = .ok (.iload_n 2, 1) := by decide +kernel
theorem dX11_culprit_5 : decode cX11_culprit 5 = .ok (.iadd, 1) := by decide +kernel
theorem dX11_culprit_6 : decode cX11_culprit 6 = .ok (.invokevirtual 59, 3) := by decide +kernel
theorem dX11_culprit_9 : decode cX11_culprit 9 = .ok (.ireturn, 1) := by decide +kernel
theorem e_170 (r : Nat) (a0 : Int32) (a1 : Int32) (ws : ai_W) : ai_Call 170 [.ref r, .int a0, .int a1] ws = if ai_isob ws r 11 = true then ai_Run 170 0 [.ref r, .int a0, .int a1] [] ws else none := R_entV hk_170 ⟨⟨rfl, rfl⟩, Nat.le_of_ble_eq_true rfl⟩ rfl
theorem r_170_0 (l1 l2 : Value) (a : Nat) (st : List Value) (ws : ai_W) : ai_Run 170 0 [.ref a, l1, l2] st ws = ai_Run 170 1 [.ref a, l1, l2] (.ref a :: st) ws := R_aload_n hc_170 dX11_culprit_0 rfl rfl
theorem r_170_1 (l0 l2 : Value) (a : Int32) (st : List Value) (ws : ai_W) : ai_Run 170 1 [l0, .int a, l2] st ws = ai_Run 170 2 [l0, .int a, l2] (.int a :: st) ws := R_iload_n hc_170 dX11_culprit_1 rfl rfl
theorem r_170_2 (ls st : List Value) (ws : ai_W) : ai_Run 170 2 ls st ws = ai_Run 170 4 ls (.int 7 :: st) ws := R_bipush hc_170 dX11_culprit_2 (by decide) rfl
theorem r_170_4 (l0 l1 : Value) (a : Int32) (st : List Value) (ws : ai_W) : ai_Run 170 4 [l0, l1, .int a] st ws = ai_Run 170 5 [l0, l1, .int a] (.int a :: st) ws := R_iload_n hc_170 dX11_culprit_4 rfl rfl
theorem r_170_5 (ls st : List Value) (a b : Int32) (ws : ai_W) : ai_Run 170 5 ls (.int b :: .int a :: st) ws = ai_Run 170 6 ls (.int (a + b) :: st) ws := R_iadd hc_170 dX11_culprit_5 rfl
theorem r_170_6 (ls : List Value) (r : Nat) (b0 : Int32) (b1 : Int32) (ws : ai_W) : ai_Run 170 6 ls [.int b1, .int b0, .ref r] ws = (ai_Call 165 [.ref r, .int b0, .int b1] ws).bind fun q => ai_Run 170 9 ls (q.1.toList ++ []) q.2 := R_callV hc_170 dX11_culprit_6 hv_170 (w := 1137) rfl (Nat.le_of_ble_eq_true rfl) hk_165 (by rw [hn_165]; rfl) rfl (Nat.le_of_ble_eq_true rfl) rfl
theorem r_170_9 (ls : List Value) (x : Int32) (ws : ai_W) : ai_Run 170 9 ls [.int x] ws = some (some (.int x), ws) := R_iret hc_170 dX11_culprit_9 ht_170
theorem dX11_solvedOf_0 : decode cX11_solvedOf 0 = .ok (.iconst 0, 1) := by decide +kernel
theorem dX11_solvedOf_1 : decode cX11_solvedOf 1 = .ok (.istore_n 2, 1) := by decide +kernel
theorem dX11_solvedOf_2 : decode cX11_solvedOf 2 = .ok (.iconst 0, 1) := by decide +kernel
theorem dX11_solvedOf_3 : decode cX11_solvedOf 3 = .ok (.istore_n 3, 1) := by decide +kernel
theorem dX11_solvedOf_4 : decode cX11_solvedOf 4 = .ok (.iload_n 3, 1) := by decide +kernel
theorem dX11_solvedOf_5 : decode cX11_solvedOf 5 = .ok (.aload_n 0, 1) := by decide +kernel
theorem dX11_solvedOf_6 : decode cX11_solvedOf 6 = .ok (.iload_n 1, 1) := by decide +kernel
theorem dX11_solvedOf_7 : decode cX11_solvedOf 7 = .ok (.invokevirtual 66, 3) := by decide +kernel
theorem dX11_solvedOf_10 : decode cX11_solvedOf 10 = .ok (.if_icmp .ge 28, 3) := by decide +kernel
theorem dX11_solvedOf_13 : decode cX11_solvedOf 13 = .ok (.iload_n 2, 1) := by decide +kernel
theorem dX11_solvedOf_14 : decode cX11_solvedOf 14 = .ok (.aload_n 0, 1) := by decide +kernel
theorem dX11_solvedOf_15 : decode cX11_solvedOf 15 = .ok (.iload_n 1, 1) := by decide +kernel
theorem dX11_solvedOf_16 : decode cX11_solvedOf 16 = .ok (.iload_n 3, 1) := by decide +kernel
theorem dX11_solvedOf_17 : decode cX11_solvedOf 17 = .ok (.invokevirtual 166, 3) := by decide +kernel
theorem dX11_solvedOf_20 : decode cX11_solvedOf 20 = .ok (.bipush (-4), 2) := by decide +kernel
theorem dX11_solvedOf_22 : decode cX11_solvedOf 22 = .ok (.if_icmp .ne 7, 3) := by decide +kernel
theorem dX11_solvedOf_25 : decode cX11_solvedOf 25 = .ok (.iconst 0, 1) := by decide +kernel
theorem dX11_solvedOf_26 : decode cX11_solvedOf 26 = .ok (.goto 4, 3) := by decide +kernel
theorem dX11_solvedOf_29 : decode cX11_solvedOf 29 = .ok (.iconst 1, 1) := by decide +kernel
theorem dX11_solvedOf_30 : decode cX11_solvedOf 30 = .ok (.iadd, 1) := by decide +kernel
theorem dX11_solvedOf_31 : decode cX11_solvedOf 31 = .ok (.istore_n 2, 1) := by decide +kernel
theorem dX11_solvedOf_32 : decode cX11_solvedOf 32 = .ok (.iinc 3 1, 3) := by decide +kernel
theorem dX11_solvedOf_35 : decode cX11_solvedOf 35 = .ok (.goto (-31), 3) := by decide +kernel
theorem dX11_solvedOf_38 : decode cX11_solvedOf 38 = .ok (.iload_n 2, 1) := by decide +kernel
theorem dX11_solvedOf_39 : decode cX11_solvedOf 39 = .ok (.ireturn, 1) := by decide +kernel
theorem e_171 (r : Nat) (a0 : Int32) (ws : ai_W) : ai_Call 171 [.ref r, .int a0] ws = if ai_isob ws r 11 = true then ai_Run 171 0 [.ref r, .int a0, .null, .null] [] ws else none := R_entV hk_171 ⟨⟨rfl, rfl⟩, Nat.le_of_ble_eq_true rfl⟩ rfl
theorem r_171_0 (ls st : List Value) (ws : ai_W) : ai_Run 171 0 ls st ws = ai_Run 171 1 ls (.int 0 :: st) ws := R_iconst hc_171 dX11_solvedOf_0 (by decide) rfl
theorem r_171_1 (l0 l1 l2 l3 : Value) (a : Int32) (st : List Value) (ws : ai_W) : ai_Run 171 1 [l0, l1, l2, l3] (.int a :: st) ws = ai_Run 171 2 [l0, l1, .int a, l3] st ws := R_istore_n hc_171 dX11_solvedOf_1 (Nat.le_of_ble_eq_true rfl) rfl rfl
theorem r_171_2 (ls st : List Value) (ws : ai_W) : ai_Run 171 2 ls st ws = ai_Run 171 3 ls (.int 0 :: st) ws := R_iconst hc_171 dX11_solvedOf_2 (by decide) rfl
theorem r_171_3 (l0 l1 l2 l3 : Value) (a : Int32) (st : List Value) (ws : ai_W) : ai_Run 171 3 [l0, l1, l2, l3] (.int a :: st) ws = ai_Run 171 4 [l0, l1, l2, .int a] st ws := R_istore_n hc_171 dX11_solvedOf_3 (Nat.le_of_ble_eq_true rfl) rfl rfl
theorem r_171_4 (l0 l1 l2 : Value) (a : Int32) (st : List Value) (ws : ai_W) : ai_Run 171 4 [l0, l1, l2, .int a] st ws = ai_Run 171 5 [l0, l1, l2, .int a] (.int a :: st) ws := R_iload_n hc_171 dX11_solvedOf_4 rfl rfl
theorem r_171_5 (l1 l2 l3 : Value) (a : Nat) (st : List Value) (ws : ai_W) : ai_Run 171 5 [.ref a, l1, l2, l3] st ws = ai_Run 171 6 [.ref a, l1, l2, l3] (.ref a :: st) ws := R_aload_n hc_171 dX11_solvedOf_5 rfl rfl
theorem r_171_6 (l0 l2 l3 : Value) (a : Int32) (st : List Value) (ws : ai_W) : ai_Run 171 6 [l0, .int a, l2, l3] st ws = ai_Run 171 7 [l0, .int a, l2, l3] (.int a :: st) ws := R_iload_n hc_171 dX11_solvedOf_6 rfl rfl
theorem r_171_7 (ls : List Value) (r : Nat) (b0 : Int32) (s0 : Value) (ws : ai_W) : ai_Run 171 7 ls [.int b0, .ref r, s0] ws = (ai_Call 166 [.ref r, .int b0] ws).bind fun q => ai_Run 171 10 ls (q.1.toList ++ [s0]) q.2 := R_callV hc_171 dX11_solvedOf_7 hv_171 (w := 1141) rfl (Nat.le_of_ble_eq_true rfl) hk_166 (by rw [hn_166]; rfl) rfl (Nat.le_of_ble_eq_true rfl) rfl
theorem r_171_10 (ls st : List Value) (a b : Int32) (ws : ai_W) : ai_Run 171 10 ls (.int b :: .int a :: st) ws = if a < b then ai_Run 171 13 ls st ws else ai_Run 171 38 ls st ws := R_cmp_ge hc_171 dX11_solvedOf_10 rfl rfl
theorem r_171_13 (l0 l1 l3 : Value) (a : Int32) (st : List Value) (ws : ai_W) : ai_Run 171 13 [l0, l1, .int a, l3] st ws = ai_Run 171 14 [l0, l1, .int a, l3] (.int a :: st) ws := R_iload_n hc_171 dX11_solvedOf_13 rfl rfl
theorem r_171_14 (l1 l2 l3 : Value) (a : Nat) (st : List Value) (ws : ai_W) : ai_Run 171 14 [.ref a, l1, l2, l3] st ws = ai_Run 171 15 [.ref a, l1, l2, l3] (.ref a :: st) ws := R_aload_n hc_171 dX11_solvedOf_14 rfl rfl
theorem r_171_15 (l0 l2 l3 : Value) (a : Int32) (st : List Value) (ws : ai_W) : ai_Run 171 15 [l0, .int a, l2, l3] st ws = ai_Run 171 16 [l0, .int a, l2, l3] (.int a :: st) ws := R_iload_n hc_171 dX11_solvedOf_15 rfl rfl
theorem r_171_16 (l0 l1 l2 : Value) (a : Int32) (st : List Value) (ws : ai_W) : ai_Run 171 16 [l0, l1, l2, .int a] st ws = ai_Run 171 17 [l0, l1, l2, .int a] (.int a :: st) ws := R_iload_n hc_171 dX11_solvedOf_16 rfl rfl
theorem r_171_17 (ls : List Value) (r : Nat) (b0 : Int32) (b1 : Int32) (s0 : Value) (ws : ai_W) : ai_Run 171 17 ls [.int b1, .int b0, .ref r, s0] ws = (ai_Call 170 [.ref r, .int b0, .int b1] ws).bind fun q => ai_Run 171 20 ls (q.1.toList ++ [s0]) q.2 := R_callV hc_171 dX11_solvedOf_17 hv_171 (w := 1244) rfl (Nat.le_of_ble_eq_true rfl) hk_170 (by rw [hn_170]; rfl) rfl (Nat.le_of_ble_eq_true rfl) rfl
theorem r_171_20 (ls st : List Value) (ws : ai_W) : ai_Run 171 20 ls st ws = ai_Run 171 22 ls (.int (-4) :: st) ws := R_bipush hc_171 dX11_solvedOf_20 (by decide) rfl
theorem r_171_22 (ls st : List Value) (a b : Int32) (ws : ai_W) : ai_Run 171 22 ls (.int b :: .int a :: st) ws = if a = b then ai_Run 171 25 ls st ws else ai_Run 171 29 ls st ws := R_cmp_ne hc_171 dX11_solvedOf_22 rfl rfl
theorem r_171_25 (ls st : List Value) (ws : ai_W) : ai_Run 171 25 ls st ws = ai_Run 171 26 ls (.int 0 :: st) ws := R_iconst hc_171 dX11_solvedOf_25 (by decide) rfl
theorem r_171_26 (ls st : List Value) (ws : ai_W) : ai_Run 171 26 ls st ws = ai_Run 171 30 ls st ws := R_goto hc_171 dX11_solvedOf_26 rfl
theorem r_171_29 (ls st : List Value) (ws : ai_W) : ai_Run 171 29 ls st ws = ai_Run 171 30 ls (.int 1 :: st) ws := R_iconst hc_171 dX11_solvedOf_29 (by decide) rfl
theorem r_171_30 (ls st : List Value) (a b : Int32) (ws : ai_W) : ai_Run 171 30 ls (.int b :: .int a :: st) ws = ai_Run 171 31 ls (.int (a + b) :: st) ws := R_iadd hc_171 dX11_solvedOf_30 rfl
theorem r_171_31 (l0 l1 l2 l3 : Value) (a : Int32) (st : List Value) (ws : ai_W) : ai_Run 171 31 [l0, l1, l2, l3] (.int a :: st) ws = ai_Run 171 32 [l0, l1, .int a, l3] st ws := R_istore_n hc_171 dX11_solvedOf_31 (Nat.le_of_ble_eq_true rfl) rfl rfl
theorem r_171_32 (l0 l1 l2 : Value) (a : Int32) (st : List Value) (ws : ai_W) : ai_Run 171 32 [l0, l1, l2, .int a] st ws = ai_Run 171 35 [l0, l1, l2, .int (a + 1)] st ws := R_iinc hc_171 dX11_solvedOf_32 rfl (by decide) rfl rfl
theorem r_171_35 (ls st : List Value) (ws : ai_W) : ai_Run 171 35 ls st ws = ai_Run 171 4 ls st ws := R_goto hc_171 dX11_solvedOf_35 rfl
theorem r_171_38 (l0 l1 l3 : Value) (a : Int32) (st : List Value) (ws : ai_W) : ai_Run 171 38 [l0, l1, .int a, l3] st ws = ai_Run 171 39 [l0, l1, .int a, l3] (.int a :: st) ws := R_iload_n hc_171 dX11_solvedOf_38 rfl rfl
theorem r_171_39 (ls : List Value) (x : Int32) (ws : ai_W) : ai_Run 171 39 ls [.int x] ws = some (some (.int x), ws) := R_iret hc_171 dX11_solvedOf_39 ht_171
theorem dX11_allSolved_0 : decode cX11_allSolved 0 = .ok (.iconst 0, 1) := by decide +kernel
theorem dX11_allSolved_1 : decode cX11_allSolved 1 = .ok (.istore_n 1, 1) := by decide +kernel
theorem dX11_allSolved_2 : decode cX11_allSolved 2 = .ok (.iconst 0, 1) := by decide +kernel
theorem dX11_allSolved_3 : decode cX11_allSolved 3 = .ok (.istore_n 2, 1) := by decide +kernel
theorem dX11_allSolved_4 : decode cX11_allSolved 4 = .ok (.iload_n 2, 1) := by decide +kernel
theorem dX11_allSolved_5 : decode cX11_allSolved 5 = .ok (.aload_n 0, 1) := by decide +kernel
theorem dX11_allSolved_6 : decode cX11_allSolved 6 = .ok (.getfield 9, 3) := by decide +kernel
theorem dX11_allSolved_9 : decode cX11_allSolved 9 = .ok (.iconst 0, 1) := by decide +kernel
theorem dX11_allSolved_10 : decode cX11_allSolved 10 = .ok (.iaload, 1) := by decide +kernel
theorem dX11_allSolved_11 : decode cX11_allSolved 11 = .ok (.if_icmp .ge 17, 3) := by decide +kernel
theorem dX11_allSolved_14 : decode cX11_allSolved 14 = .ok (.iload_n 1, 1) := by decide +kernel
theorem dX11_allSolved_15 : decode cX11_allSolved 15 = .ok (.aload_n 0, 1) := by decide +kernel
theorem dX11_allSolved_16 : decode cX11_allSolved 16 = .ok (.iload_n 2, 1) := by decide +kernel
theorem dX11_allSolved_17 : decode cX11_allSolved 17 = .ok (.invokevirtual 181, 3) := by decide +kernel
theorem dX11_allSolved_20 : decode cX11_allSolved 20 = .ok (.iadd, 1) := by decide +kernel
theorem dX11_allSolved_21 : decode cX11_allSolved 21 = .ok (.istore_n 1, 1) := by decide +kernel
theorem dX11_allSolved_22 : decode cX11_allSolved 22 = .ok (.iinc 2 1, 3) := by decide +kernel
theorem dX11_allSolved_25 : decode cX11_allSolved 25 = .ok (.goto (-21), 3) := by decide +kernel
theorem dX11_allSolved_28 : decode cX11_allSolved 28 = .ok (.iload_n 1, 1) := by decide +kernel
theorem dX11_allSolved_29 : decode cX11_allSolved 29 = .ok (.ireturn, 1) := by decide +kernel
theorem e_172 (r : Nat)  (ws : ai_W) : ai_Call 172 [.ref r] ws = if ai_isob ws r 11 = true then ai_Run 172 0 [.ref r, .null, .null] [] ws else none := R_entV hk_172 ⟨⟨rfl, rfl⟩, Nat.le_of_ble_eq_true rfl⟩ rfl
theorem r_172_0 (ls st : List Value) (ws : ai_W) : ai_Run 172 0 ls st ws = ai_Run 172 1 ls (.int 0 :: st) ws := R_iconst hc_172 dX11_allSolved_0 (by decide) rfl
theorem r_172_1 (l0 l1 l2 : Value) (a : Int32) (st : List Value) (ws : ai_W) : ai_Run 172 1 [l0, l1, l2] (.int a :: st) ws = ai_Run 172 2 [l0, .int a, l2] st ws := R_istore_n hc_172 dX11_allSolved_1 (Nat.le_of_ble_eq_true rfl) rfl rfl
theorem r_172_2 (ls st : List Value) (ws : ai_W) : ai_Run 172 2 ls st ws = ai_Run 172 3 ls (.int 0 :: st) ws := R_iconst hc_172 dX11_allSolved_2 (by decide) rfl
theorem r_172_3 (l0 l1 l2 : Value) (a : Int32) (st : List Value) (ws : ai_W) : ai_Run 172 3 [l0, l1, l2] (.int a :: st) ws = ai_Run 172 4 [l0, l1, .int a] st ws := R_istore_n hc_172 dX11_allSolved_3 (Nat.le_of_ble_eq_true rfl) rfl rfl
theorem r_172_4 (l0 l1 : Value) (a : Int32) (st : List Value) (ws : ai_W) : ai_Run 172 4 [l0, l1, .int a] st ws = ai_Run 172 5 [l0, l1, .int a] (.int a :: st) ws := R_iload_n hc_172 dX11_allSolved_4 rfl rfl
theorem r_172_5 (l1 l2 : Value) (a : Nat) (st : List Value) (ws : ai_W) : ai_Run 172 5 [.ref a, l1, l2] st ws = ai_Run 172 6 [.ref a, l1, l2] (.ref a :: st) ws := R_aload_n hc_172 dX11_allSolved_5 rfl rfl
theorem r_172_6 (ls st : List Value) (a : Nat) (ws : ai_W) : ai_Run 172 6 ls (.ref a :: st) ws = (ai_fget ws a 11 0).bind fun q => ai_Run 172 9 ls (q :: st) ws := R_getf hc_172 dX11_allSolved_6 hv_172 (w := 1024) rfl rfl
theorem r_172_9 (ls st : List Value) (ws : ai_W) : ai_Run 172 9 ls st ws = ai_Run 172 10 ls (.int 0 :: st) ws := R_iconst hc_172 dX11_allSolved_9 (by decide) rfl
theorem r_172_10 (ls st : List Value) (a : Nat) (i : Int32) (ws : ai_W) : ai_Run 172 10 ls (.int i :: .ref a :: st) ws = (ai_aget ws a i).bind fun q => ai_Run 172 11 ls (.int q :: st) ws := R_iaload hc_172 dX11_allSolved_10 rfl
theorem r_172_11 (ls st : List Value) (a b : Int32) (ws : ai_W) : ai_Run 172 11 ls (.int b :: .int a :: st) ws = if a < b then ai_Run 172 14 ls st ws else ai_Run 172 28 ls st ws := R_cmp_ge hc_172 dX11_allSolved_11 rfl rfl
theorem r_172_14 (l0 l2 : Value) (a : Int32) (st : List Value) (ws : ai_W) : ai_Run 172 14 [l0, .int a, l2] st ws = ai_Run 172 15 [l0, .int a, l2] (.int a :: st) ws := R_iload_n hc_172 dX11_allSolved_14 rfl rfl
theorem r_172_15 (l1 l2 : Value) (a : Nat) (st : List Value) (ws : ai_W) : ai_Run 172 15 [.ref a, l1, l2] st ws = ai_Run 172 16 [.ref a, l1, l2] (.ref a :: st) ws := R_aload_n hc_172 dX11_allSolved_15 rfl rfl
theorem r_172_16 (l0 l1 : Value) (a : Int32) (st : List Value) (ws : ai_W) : ai_Run 172 16 [l0, l1, .int a] st ws = ai_Run 172 17 [l0, l1, .int a] (.int a :: st) ws := R_iload_n hc_172 dX11_allSolved_16 rfl rfl
theorem r_172_17 (ls : List Value) (r : Nat) (b0 : Int32) (s0 : Value) (ws : ai_W) : ai_Run 172 17 ls [.int b0, .ref r, s0] ws = (ai_Call 171 [.ref r, .int b0] ws).bind fun q => ai_Run 172 20 ls (q.1.toList ++ [s0]) q.2 := R_callV hc_172 dX11_allSolved_17 hv_172 (w := 1292) rfl (Nat.le_of_ble_eq_true rfl) hk_171 (by rw [hn_171]; rfl) rfl (Nat.le_of_ble_eq_true rfl) rfl
theorem r_172_20 (ls st : List Value) (a b : Int32) (ws : ai_W) : ai_Run 172 20 ls (.int b :: .int a :: st) ws = ai_Run 172 21 ls (.int (a + b) :: st) ws := R_iadd hc_172 dX11_allSolved_20 rfl
theorem r_172_21 (l0 l1 l2 : Value) (a : Int32) (st : List Value) (ws : ai_W) : ai_Run 172 21 [l0, l1, l2] (.int a :: st) ws = ai_Run 172 22 [l0, .int a, l2] st ws := R_istore_n hc_172 dX11_allSolved_21 (Nat.le_of_ble_eq_true rfl) rfl rfl
theorem r_172_22 (l0 l1 : Value) (a : Int32) (st : List Value) (ws : ai_W) : ai_Run 172 22 [l0, l1, .int a] st ws = ai_Run 172 25 [l0, l1, .int (a + 1)] st ws := R_iinc hc_172 dX11_allSolved_22 rfl (by decide) rfl rfl
theorem r_172_25 (ls st : List Value) (ws : ai_W) : ai_Run 172 25 ls st ws = ai_Run 172 4 ls st ws := R_goto hc_172 dX11_allSolved_25 rfl
theorem r_172_28 (l0 l2 : Value) (a : Int32) (st : List Value) (ws : ai_W) : ai_Run 172 28 [l0, .int a, l2] st ws = ai_Run 172 29 [l0, .int a, l2] (.int a :: st) ws := R_iload_n hc_172 dX11_allSolved_28 rfl rfl
theorem r_172_29 (ls : List Value) (x : Int32) (ws : ai_W) : ai_Run 172 29 ls [.int x] ws = some (some (.int x), ws) := R_iret hc_172 dX11_allSolved_29 ht_172
theorem dX11_sitting_0 : decode cX11_sitting 0 = .ok (.iconst 0, 1) := by decide +kernel
theorem dX11_sitting_1 : decode cX11_sitting 1 = .ok (.istore_n 1, 1) := by decide +kernel
theorem dX11_sitting_2 : decode cX11_sitting 2 = .ok (.iconst 0, 1) := by decide +kernel
theorem dX11_sitting_3 : decode cX11_sitting 3 = .ok (.istore_n 2, 1) := by decide +kernel
theorem dX11_sitting_4 : decode cX11_sitting 4 = .ok (.iload_n 2, 1) := by decide +kernel
theorem dX11_sitting_5 : decode cX11_sitting 5 = .ok (.bipush 7, 2) := by decide +kernel
theorem dX11_sitting_7 : decode cX11_sitting 7 = .ok (.if_icmp .ge 29, 3) := by decide +kernel
theorem dX11_sitting_10 : decode cX11_sitting 10 = .ok (.iload_n 1, 1) := by decide +kernel
theorem dX11_sitting_11 : decode cX11_sitting 11 = .ok (.aload_n 0, 1) := by decide +kernel
theorem dX11_sitting_12 : decode cX11_sitting 12 = .ok (.getfield 9, 3) := by decide +kernel
theorem dX11_sitting_15 : decode cX11_sitting 15 = .ok (.bipush 38, 2) := by decide +kernel
theorem dX11_sitting_17 : decode cX11_sitting 17 = .ok (.iload_n 2, 1) := by decide +kernel
theorem dX11_sitting_18 : decode cX11_sitting 18 = .ok (.iadd, 1) := by decide +kernel
theorem dX11_sitting_19 : decode cX11_sitting 19 = .ok (.iaload, 1) := by decide +kernel
theorem dX11_sitting_20 : decode cX11_sitting 20 = .ok (.ifCond .le 7, 3) := by decide +kernel
theorem dX11_sitting_23 : decode cX11_sitting 23 = .ok (.iconst 1, 1) := by decide +kernel
theorem dX11_sitting_24 : decode cX11_sitting 24 = .ok (.goto 4, 3) := by decide +kernel
theorem dX11_sitting_27 : decode cX11_sitting 27 = .ok (.iconst 0, 1) := by decide +kernel
theorem dX11_sitting_28 : decode cX11_sitting 28 = .ok (.iadd, 1) := by decide +kernel
theorem dX11_sitting_29 : decode cX11_sitting 29 = .ok (.istore_n 1, 1) := by decide +kernel
theorem dX11_sitting_30 : decode cX11_sitting 30 = .ok (.iinc 2 1, 3) := by decide +kernel
theorem dX11_sitting_33 : decode cX11_sitting 33 = .ok (.goto (-29), 3) := by decide +kernel
theorem dX11_sitting_36 : decode cX11_sitting 36 = .ok (.iload_n 1, 1) := by decide +kernel
theorem dX11_sitting_37 : decode cX11_sitting 37 = .ok (.ireturn, 1) := by decide +kernel
theorem e_173 (r : Nat)  (ws : ai_W) : ai_Call 173 [.ref r] ws = if ai_isob ws r 11 = true then ai_Run 173 0 [.ref r, .null, .null] [] ws else none := R_entV hk_173 ⟨⟨rfl, rfl⟩, Nat.le_of_ble_eq_true rfl⟩ rfl
theorem r_173_0 (ls st : List Value) (ws : ai_W) : ai_Run 173 0 ls st ws = ai_Run 173 1 ls (.int 0 :: st) ws := R_iconst hc_173 dX11_sitting_0 (by decide) rfl
theorem r_173_1 (l0 l1 l2 : Value) (a : Int32) (st : List Value) (ws : ai_W) : ai_Run 173 1 [l0, l1, l2] (.int a :: st) ws = ai_Run 173 2 [l0, .int a, l2] st ws := R_istore_n hc_173 dX11_sitting_1 (Nat.le_of_ble_eq_true rfl) rfl rfl
theorem r_173_2 (ls st : List Value) (ws : ai_W) : ai_Run 173 2 ls st ws = ai_Run 173 3 ls (.int 0 :: st) ws := R_iconst hc_173 dX11_sitting_2 (by decide) rfl
theorem r_173_3 (l0 l1 l2 : Value) (a : Int32) (st : List Value) (ws : ai_W) : ai_Run 173 3 [l0, l1, l2] (.int a :: st) ws = ai_Run 173 4 [l0, l1, .int a] st ws := R_istore_n hc_173 dX11_sitting_3 (Nat.le_of_ble_eq_true rfl) rfl rfl
theorem r_173_4 (l0 l1 : Value) (a : Int32) (st : List Value) (ws : ai_W) : ai_Run 173 4 [l0, l1, .int a] st ws = ai_Run 173 5 [l0, l1, .int a] (.int a :: st) ws := R_iload_n hc_173 dX11_sitting_4 rfl rfl
theorem r_173_5 (ls st : List Value) (ws : ai_W) : ai_Run 173 5 ls st ws = ai_Run 173 7 ls (.int 7 :: st) ws := R_bipush hc_173 dX11_sitting_5 (by decide) rfl
theorem r_173_7 (ls st : List Value) (a b : Int32) (ws : ai_W) : ai_Run 173 7 ls (.int b :: .int a :: st) ws = if a < b then ai_Run 173 10 ls st ws else ai_Run 173 36 ls st ws := R_cmp_ge hc_173 dX11_sitting_7 rfl rfl
theorem r_173_10 (l0 l2 : Value) (a : Int32) (st : List Value) (ws : ai_W) : ai_Run 173 10 [l0, .int a, l2] st ws = ai_Run 173 11 [l0, .int a, l2] (.int a :: st) ws := R_iload_n hc_173 dX11_sitting_10 rfl rfl
theorem r_173_11 (l1 l2 : Value) (a : Nat) (st : List Value) (ws : ai_W) : ai_Run 173 11 [.ref a, l1, l2] st ws = ai_Run 173 12 [.ref a, l1, l2] (.ref a :: st) ws := R_aload_n hc_173 dX11_sitting_11 rfl rfl
theorem r_173_12 (ls st : List Value) (a : Nat) (ws : ai_W) : ai_Run 173 12 ls (.ref a :: st) ws = (ai_fget ws a 11 0).bind fun q => ai_Run 173 15 ls (q :: st) ws := R_getf hc_173 dX11_sitting_12 hv_173 (w := 1024) rfl rfl
theorem r_173_15 (ls st : List Value) (ws : ai_W) : ai_Run 173 15 ls st ws = ai_Run 173 17 ls (.int 38 :: st) ws := R_bipush hc_173 dX11_sitting_15 (by decide) rfl
theorem r_173_17 (l0 l1 : Value) (a : Int32) (st : List Value) (ws : ai_W) : ai_Run 173 17 [l0, l1, .int a] st ws = ai_Run 173 18 [l0, l1, .int a] (.int a :: st) ws := R_iload_n hc_173 dX11_sitting_17 rfl rfl
theorem r_173_18 (ls st : List Value) (a b : Int32) (ws : ai_W) : ai_Run 173 18 ls (.int b :: .int a :: st) ws = ai_Run 173 19 ls (.int (a + b) :: st) ws := R_iadd hc_173 dX11_sitting_18 rfl
theorem r_173_19 (ls st : List Value) (a : Nat) (i : Int32) (ws : ai_W) : ai_Run 173 19 ls (.int i :: .ref a :: st) ws = (ai_aget ws a i).bind fun q => ai_Run 173 20 ls (.int q :: st) ws := R_iaload hc_173 dX11_sitting_19 rfl
theorem r_173_20 (ls st : List Value) (a : Int32) (ws : ai_W) : ai_Run 173 20 ls (.int a :: st) ws = if 0 < a then ai_Run 173 23 ls st ws else ai_Run 173 27 ls st ws := R_if_le hc_173 dX11_sitting_20 rfl rfl
theorem r_173_23 (ls st : List Value) (ws : ai_W) : ai_Run 173 23 ls st ws = ai_Run 173 24 ls (.int 1 :: st) ws := R_iconst hc_173 dX11_sitting_23 (by decide) rfl
theorem r_173_24 (ls st : List Value) (ws : ai_W) : ai_Run 173 24 ls st ws = ai_Run 173 28 ls st ws := R_goto hc_173 dX11_sitting_24 rfl
theorem r_173_27 (ls st : List Value) (ws : ai_W) : ai_Run 173 27 ls st ws = ai_Run 173 28 ls (.int 0 :: st) ws := R_iconst hc_173 dX11_sitting_27 (by decide) rfl
theorem r_173_28 (ls st : List Value) (a b : Int32) (ws : ai_W) : ai_Run 173 28 ls (.int b :: .int a :: st) ws = ai_Run 173 29 ls (.int (a + b) :: st) ws := R_iadd hc_173 dX11_sitting_28 rfl
theorem r_173_29 (l0 l1 l2 : Value) (a : Int32) (st : List Value) (ws : ai_W) : ai_Run 173 29 [l0, l1, l2] (.int a :: st) ws = ai_Run 173 30 [l0, .int a, l2] st ws := R_istore_n hc_173 dX11_sitting_29 (Nat.le_of_ble_eq_true rfl) rfl rfl
theorem r_173_30 (l0 l1 : Value) (a : Int32) (st : List Value) (ws : ai_W) : ai_Run 173 30 [l0, l1, .int a] st ws = ai_Run 173 33 [l0, l1, .int (a + 1)] st ws := R_iinc hc_173 dX11_sitting_30 rfl (by decide) rfl rfl
theorem r_173_33 (ls st : List Value) (ws : ai_W) : ai_Run 173 33 ls st ws = ai_Run 173 4 ls st ws := R_goto hc_173 dX11_sitting_33 rfl
theorem r_173_36 (l0 l2 : Value) (a : Int32) (st : List Value) (ws : ai_W) : ai_Run 173 36 [l0, .int a, l2] st ws = ai_Run 173 37 [l0, .int a, l2] (.int a :: st) ws := R_iload_n hc_173 dX11_sitting_36 rfl rfl
theorem r_173_37 (ls : List Value) (x : Int32) (ws : ai_W) : ai_Run 173 37 ls [.int x] ws = some (some (.int x), ws) := R_iret hc_173 dX11_sitting_37 ht_173
theorem dX11_written_0 : decode cX11_written 0 = .ok (.iconst 0, 1) := by decide +kernel
theorem dX11_written_1 : decode cX11_written 1 = .ok (.istore_n 1, 1) := by decide +kernel
theorem dX11_written_2 : decode cX11_written 2 = .ok (.iconst 1, 1) := by decide +kernel
theorem dX11_written_3 : decode cX11_written 3 = .ok (.istore_n 2, 1) := by decide +kernel
theorem dX11_written_4 : decode cX11_written 4 = .ok (.iload_n 2, 1) := by decide +kernel
theorem dX11_written_5 : decode cX11_written 5 = .ok (.bipush 30, 2) := by decide +kernel
theorem dX11_written_7 : decode cX11_written 7 = .ok (.if_icmp .gt 30, 3) := by decide +kernel
theorem dX11_written_10 : decode cX11_written 10 = .ok (.iload_n 1, 1) := by decide +kernel
theorem dX11_written_11 : decode cX11_written 11 = .ok (.aload_n 0, 1) := by decide +kernel
theorem dX11_written_12 : decode cX11_written 12 = .ok (.getfield 9, 3) := by decide +kernel
theorem dX11_written_15 : decode cX11_written 15 = .ok (.iconst 3, 1) := by decide +kernel
theorem dX11_written_16 : decode cX11_written 16 = .ok (.iload_n 2, 1) := by decide +kernel
theorem dX11_written_17 : decode cX11_written 17 = .ok (.iadd, 1) := by decide +kernel
theorem dX11_written_18 : decode cX11_written 18 = .ok (.iaload, 1) := by decide +kernel
theorem dX11_written_19 : decode cX11_written 19 = .ok (.bipush (-4), 2) := by decide +kernel
theorem dX11_written_21 : decode cX11_written 21 = .ok (.if_icmp .ne 7, 3) := by decide +kernel
theorem dX11_written_24 : decode cX11_written 24 = .ok (.iconst 0, 1) := by decide +kernel
theorem dX11_written_25 : decode cX11_written 25 = .ok (.goto 4, 3) := by decide +kernel
theorem dX11_written_28 : decode cX11_written 28 = .ok (.iconst 1, 1) := by decide +kernel
theorem dX11_written_29 : decode cX11_written 29 = .ok (.iadd, 1) := by decide +kernel
theorem dX11_written_30 : decode cX11_written 30 = .ok (.istore_n 1, 1) := by decide +kernel
theorem dX11_written_31 : decode cX11_written 31 = .ok (.iinc 2 1, 3) := by decide +kernel
theorem dX11_written_34 : decode cX11_written 34 = .ok (.goto (-30), 3) := by decide +kernel
theorem dX11_written_37 : decode cX11_written 37 = .ok (.iload_n 1, 1) := by decide +kernel
theorem dX11_written_38 : decode cX11_written 38 = .ok (.ireturn, 1) := by decide +kernel
theorem e_174 (r : Nat)  (ws : ai_W) : ai_Call 174 [.ref r] ws = if ai_isob ws r 11 = true then ai_Run 174 0 [.ref r, .null, .null] [] ws else none := R_entV hk_174 ⟨⟨rfl, rfl⟩, Nat.le_of_ble_eq_true rfl⟩ rfl
theorem r_174_0 (ls st : List Value) (ws : ai_W) : ai_Run 174 0 ls st ws = ai_Run 174 1 ls (.int 0 :: st) ws := R_iconst hc_174 dX11_written_0 (by decide) rfl
theorem r_174_1 (l0 l1 l2 : Value) (a : Int32) (st : List Value) (ws : ai_W) : ai_Run 174 1 [l0, l1, l2] (.int a :: st) ws = ai_Run 174 2 [l0, .int a, l2] st ws := R_istore_n hc_174 dX11_written_1 (Nat.le_of_ble_eq_true rfl) rfl rfl
theorem r_174_2 (ls st : List Value) (ws : ai_W) : ai_Run 174 2 ls st ws = ai_Run 174 3 ls (.int 1 :: st) ws := R_iconst hc_174 dX11_written_2 (by decide) rfl
theorem r_174_3 (l0 l1 l2 : Value) (a : Int32) (st : List Value) (ws : ai_W) : ai_Run 174 3 [l0, l1, l2] (.int a :: st) ws = ai_Run 174 4 [l0, l1, .int a] st ws := R_istore_n hc_174 dX11_written_3 (Nat.le_of_ble_eq_true rfl) rfl rfl
theorem r_174_4 (l0 l1 : Value) (a : Int32) (st : List Value) (ws : ai_W) : ai_Run 174 4 [l0, l1, .int a] st ws = ai_Run 174 5 [l0, l1, .int a] (.int a :: st) ws := R_iload_n hc_174 dX11_written_4 rfl rfl
theorem r_174_5 (ls st : List Value) (ws : ai_W) : ai_Run 174 5 ls st ws = ai_Run 174 7 ls (.int 30 :: st) ws := R_bipush hc_174 dX11_written_5 (by decide) rfl
theorem r_174_7 (ls st : List Value) (a b : Int32) (ws : ai_W) : ai_Run 174 7 ls (.int b :: .int a :: st) ws = if b < a then ai_Run 174 37 ls st ws else ai_Run 174 10 ls st ws := R_cmp_gt hc_174 dX11_written_7 rfl rfl
theorem r_174_10 (l0 l2 : Value) (a : Int32) (st : List Value) (ws : ai_W) : ai_Run 174 10 [l0, .int a, l2] st ws = ai_Run 174 11 [l0, .int a, l2] (.int a :: st) ws := R_iload_n hc_174 dX11_written_10 rfl rfl
theorem r_174_11 (l1 l2 : Value) (a : Nat) (st : List Value) (ws : ai_W) : ai_Run 174 11 [.ref a, l1, l2] st ws = ai_Run 174 12 [.ref a, l1, l2] (.ref a :: st) ws := R_aload_n hc_174 dX11_written_11 rfl rfl
theorem r_174_12 (ls st : List Value) (a : Nat) (ws : ai_W) : ai_Run 174 12 ls (.ref a :: st) ws = (ai_fget ws a 11 0).bind fun q => ai_Run 174 15 ls (q :: st) ws := R_getf hc_174 dX11_written_12 hv_174 (w := 1024) rfl rfl
theorem r_174_15 (ls st : List Value) (ws : ai_W) : ai_Run 174 15 ls st ws = ai_Run 174 16 ls (.int 3 :: st) ws := R_iconst hc_174 dX11_written_15 (by decide) rfl
theorem r_174_16 (l0 l1 : Value) (a : Int32) (st : List Value) (ws : ai_W) : ai_Run 174 16 [l0, l1, .int a] st ws = ai_Run 174 17 [l0, l1, .int a] (.int a :: st) ws := R_iload_n hc_174 dX11_written_16 rfl rfl
theorem r_174_17 (ls st : List Value) (a b : Int32) (ws : ai_W) : ai_Run 174 17 ls (.int b :: .int a :: st) ws = ai_Run 174 18 ls (.int (a + b) :: st) ws := R_iadd hc_174 dX11_written_17 rfl
theorem r_174_18 (ls st : List Value) (a : Nat) (i : Int32) (ws : ai_W) : ai_Run 174 18 ls (.int i :: .ref a :: st) ws = (ai_aget ws a i).bind fun q => ai_Run 174 19 ls (.int q :: st) ws := R_iaload hc_174 dX11_written_18 rfl
theorem r_174_19 (ls st : List Value) (ws : ai_W) : ai_Run 174 19 ls st ws = ai_Run 174 21 ls (.int (-4) :: st) ws := R_bipush hc_174 dX11_written_19 (by decide) rfl
theorem r_174_21 (ls st : List Value) (a b : Int32) (ws : ai_W) : ai_Run 174 21 ls (.int b :: .int a :: st) ws = if a = b then ai_Run 174 24 ls st ws else ai_Run 174 28 ls st ws := R_cmp_ne hc_174 dX11_written_21 rfl rfl
theorem r_174_24 (ls st : List Value) (ws : ai_W) : ai_Run 174 24 ls st ws = ai_Run 174 25 ls (.int 0 :: st) ws := R_iconst hc_174 dX11_written_24 (by decide) rfl
theorem r_174_25 (ls st : List Value) (ws : ai_W) : ai_Run 174 25 ls st ws = ai_Run 174 29 ls st ws := R_goto hc_174 dX11_written_25 rfl
theorem r_174_28 (ls st : List Value) (ws : ai_W) : ai_Run 174 28 ls st ws = ai_Run 174 29 ls (.int 1 :: st) ws := R_iconst hc_174 dX11_written_28 (by decide) rfl
theorem r_174_29 (ls st : List Value) (a b : Int32) (ws : ai_W) : ai_Run 174 29 ls (.int b :: .int a :: st) ws = ai_Run 174 30 ls (.int (a + b) :: st) ws := R_iadd hc_174 dX11_written_29 rfl
theorem r_174_30 (l0 l1 l2 : Value) (a : Int32) (st : List Value) (ws : ai_W) : ai_Run 174 30 [l0, l1, l2] (.int a :: st) ws = ai_Run 174 31 [l0, .int a, l2] st ws := R_istore_n hc_174 dX11_written_30 (Nat.le_of_ble_eq_true rfl) rfl rfl
theorem r_174_31 (l0 l1 : Value) (a : Int32) (st : List Value) (ws : ai_W) : ai_Run 174 31 [l0, l1, .int a] st ws = ai_Run 174 34 [l0, l1, .int (a + 1)] st ws := R_iinc hc_174 dX11_written_31 rfl (by decide) rfl rfl
theorem r_174_34 (ls st : List Value) (ws : ai_W) : ai_Run 174 34 ls st ws = ai_Run 174 4 ls st ws := R_goto hc_174 dX11_written_34 rfl
theorem r_174_37 (l0 l2 : Value) (a : Int32) (st : List Value) (ws : ai_W) : ai_Run 174 37 [l0, .int a, l2] st ws = ai_Run 174 38 [l0, .int a, l2] (.int a :: st) ws := R_iload_n hc_174 dX11_written_37 rfl rfl
theorem r_174_38 (ls : List Value) (x : Int32) (ws : ai_W) : ai_Run 174 38 ls [.int x] ws = some (some (.int x), ws) := R_iret hc_174 dX11_written_38 ht_174
theorem dX11_swornMany_0 : decode cX11_swornMany 0 = .ok (.iconst 0, 1) := by decide +kernel
theorem dX11_swornMany_1 : decode cX11_swornMany 1 = .ok (.istore_n 1, 1) := by decide +kernel
theorem dX11_swornMany_2 : decode cX11_swornMany 2 = .ok (.iconst 0, 1) := by decide +kernel
theorem dX11_swornMany_3 : decode cX11_swornMany 3 = .ok (.istore_n 2, 1) := by decide +kernel
theorem dX11_swornMany_4 : decode cX11_swornMany 4 = .ok (.iload_n 2, 1) := by decide +kernel
theorem dX11_swornMany_5 : decode cX11_swornMany 5 = .ok (.aload_n 0, 1) := by decide +kernel
theorem dX11_swornMany_6 : decode cX11_swornMany 6 = .ok (.getfield 9, 3) := by decide +kernel
theorem dX11_swornMany_9 : decode cX11_swornMany 9 = .ok (.iconst 1, 1) := by decide +kernel
theorem dX11_swornMany_10 : decode cX11_swornMany 10 = .ok (.iaload, 1) := by decide +kernel
theorem dX11_swornMany_11 : decode cX11_swornMany 11 = .ok (.if_icmp .ge 21, 3) := by decide +kernel
theorem dX11_swornMany_14 : decode cX11_swornMany 14 = .ok (.iload_n 1, 1) := by decide +kernel
theorem dX11_swornMany_15 : decode cX11_swornMany 15 = .ok (.aload_n 0, 1) := by decide +kernel
theorem dX11_swornMany_16 : decode cX11_swornMany 16 = .ok (.getfield 9, 3) := by decide +kernel
theorem dX11_swornMany_19 : decode cX11_swornMany 19 = .ok (.bipush 34, 2) := by decide +kernel
theorem dX11_swornMany_21 : decode cX11_swornMany 21 = .ok (.iload_n 2, 1) := by decide +kernel
theorem dX11_swornMany_22 : decode cX11_swornMany 22 = .ok (.iadd, 1) := by decide +kernel
theorem dX11_swornMany_23 : decode cX11_swornMany 23 = .ok (.iaload, 1) := by decide +kernel
theorem dX11_swornMany_24 : decode cX11_swornMany 24 = .ok (.iadd, 1) := by decide +kernel
theorem dX11_swornMany_25 : decode cX11_swornMany 25 = .ok (.istore_n 1, 1) := by decide +kernel
theorem dX11_swornMany_26 : decode cX11_swornMany 26 = .ok (.iinc 2 1, 3) := by decide +kernel
theorem dX11_swornMany_29 : decode cX11_swornMany 29 = .ok (.goto (-25), 3) := by decide +kernel
theorem dX11_swornMany_32 : decode cX11_swornMany 32 = .ok (.iload_n 1, 1) := by decide +kernel
theorem dX11_swornMany_33 : decode cX11_swornMany 33 = .ok (.ireturn, 1) := by decide +kernel
theorem e_175 (r : Nat)  (ws : ai_W) : ai_Call 175 [.ref r] ws = if ai_isob ws r 11 = true then ai_Run 175 0 [.ref r, .null, .null] [] ws else none := R_entV hk_175 ⟨⟨rfl, rfl⟩, Nat.le_of_ble_eq_true rfl⟩ rfl
theorem r_175_0 (ls st : List Value) (ws : ai_W) : ai_Run 175 0 ls st ws = ai_Run 175 1 ls (.int 0 :: st) ws := R_iconst hc_175 dX11_swornMany_0 (by decide) rfl
theorem r_175_1 (l0 l1 l2 : Value) (a : Int32) (st : List Value) (ws : ai_W) : ai_Run 175 1 [l0, l1, l2] (.int a :: st) ws = ai_Run 175 2 [l0, .int a, l2] st ws := R_istore_n hc_175 dX11_swornMany_1 (Nat.le_of_ble_eq_true rfl) rfl rfl
theorem r_175_2 (ls st : List Value) (ws : ai_W) : ai_Run 175 2 ls st ws = ai_Run 175 3 ls (.int 0 :: st) ws := R_iconst hc_175 dX11_swornMany_2 (by decide) rfl
theorem r_175_3 (l0 l1 l2 : Value) (a : Int32) (st : List Value) (ws : ai_W) : ai_Run 175 3 [l0, l1, l2] (.int a :: st) ws = ai_Run 175 4 [l0, l1, .int a] st ws := R_istore_n hc_175 dX11_swornMany_3 (Nat.le_of_ble_eq_true rfl) rfl rfl
theorem r_175_4 (l0 l1 : Value) (a : Int32) (st : List Value) (ws : ai_W) : ai_Run 175 4 [l0, l1, .int a] st ws = ai_Run 175 5 [l0, l1, .int a] (.int a :: st) ws := R_iload_n hc_175 dX11_swornMany_4 rfl rfl
theorem r_175_5 (l1 l2 : Value) (a : Nat) (st : List Value) (ws : ai_W) : ai_Run 175 5 [.ref a, l1, l2] st ws = ai_Run 175 6 [.ref a, l1, l2] (.ref a :: st) ws := R_aload_n hc_175 dX11_swornMany_5 rfl rfl
theorem r_175_6 (ls st : List Value) (a : Nat) (ws : ai_W) : ai_Run 175 6 ls (.ref a :: st) ws = (ai_fget ws a 11 0).bind fun q => ai_Run 175 9 ls (q :: st) ws := R_getf hc_175 dX11_swornMany_6 hv_175 (w := 1024) rfl rfl
theorem r_175_9 (ls st : List Value) (ws : ai_W) : ai_Run 175 9 ls st ws = ai_Run 175 10 ls (.int 1 :: st) ws := R_iconst hc_175 dX11_swornMany_9 (by decide) rfl
theorem r_175_10 (ls st : List Value) (a : Nat) (i : Int32) (ws : ai_W) : ai_Run 175 10 ls (.int i :: .ref a :: st) ws = (ai_aget ws a i).bind fun q => ai_Run 175 11 ls (.int q :: st) ws := R_iaload hc_175 dX11_swornMany_10 rfl
theorem r_175_11 (ls st : List Value) (a b : Int32) (ws : ai_W) : ai_Run 175 11 ls (.int b :: .int a :: st) ws = if a < b then ai_Run 175 14 ls st ws else ai_Run 175 32 ls st ws := R_cmp_ge hc_175 dX11_swornMany_11 rfl rfl
theorem r_175_14 (l0 l2 : Value) (a : Int32) (st : List Value) (ws : ai_W) : ai_Run 175 14 [l0, .int a, l2] st ws = ai_Run 175 15 [l0, .int a, l2] (.int a :: st) ws := R_iload_n hc_175 dX11_swornMany_14 rfl rfl
theorem r_175_15 (l1 l2 : Value) (a : Nat) (st : List Value) (ws : ai_W) : ai_Run 175 15 [.ref a, l1, l2] st ws = ai_Run 175 16 [.ref a, l1, l2] (.ref a :: st) ws := R_aload_n hc_175 dX11_swornMany_15 rfl rfl
theorem r_175_16 (ls st : List Value) (a : Nat) (ws : ai_W) : ai_Run 175 16 ls (.ref a :: st) ws = (ai_fget ws a 11 0).bind fun q => ai_Run 175 19 ls (q :: st) ws := R_getf hc_175 dX11_swornMany_16 hv_175 (w := 1024) rfl rfl
theorem r_175_19 (ls st : List Value) (ws : ai_W) : ai_Run 175 19 ls st ws = ai_Run 175 21 ls (.int 34 :: st) ws := R_bipush hc_175 dX11_swornMany_19 (by decide) rfl
theorem r_175_21 (l0 l1 : Value) (a : Int32) (st : List Value) (ws : ai_W) : ai_Run 175 21 [l0, l1, .int a] st ws = ai_Run 175 22 [l0, l1, .int a] (.int a :: st) ws := R_iload_n hc_175 dX11_swornMany_21 rfl rfl
theorem r_175_22 (ls st : List Value) (a b : Int32) (ws : ai_W) : ai_Run 175 22 ls (.int b :: .int a :: st) ws = ai_Run 175 23 ls (.int (a + b) :: st) ws := R_iadd hc_175 dX11_swornMany_22 rfl
theorem r_175_23 (ls st : List Value) (a : Nat) (i : Int32) (ws : ai_W) : ai_Run 175 23 ls (.int i :: .ref a :: st) ws = (ai_aget ws a i).bind fun q => ai_Run 175 24 ls (.int q :: st) ws := R_iaload hc_175 dX11_swornMany_23 rfl
theorem r_175_24 (ls st : List Value) (a b : Int32) (ws : ai_W) : ai_Run 175 24 ls (.int b :: .int a :: st) ws = ai_Run 175 25 ls (.int (a + b) :: st) ws := R_iadd hc_175 dX11_swornMany_24 rfl
theorem r_175_25 (l0 l1 l2 : Value) (a : Int32) (st : List Value) (ws : ai_W) : ai_Run 175 25 [l0, l1, l2] (.int a :: st) ws = ai_Run 175 26 [l0, .int a, l2] st ws := R_istore_n hc_175 dX11_swornMany_25 (Nat.le_of_ble_eq_true rfl) rfl rfl
theorem r_175_26 (l0 l1 : Value) (a : Int32) (st : List Value) (ws : ai_W) : ai_Run 175 26 [l0, l1, .int a] st ws = ai_Run 175 29 [l0, l1, .int (a + 1)] st ws := R_iinc hc_175 dX11_swornMany_26 rfl (by decide) rfl rfl
theorem r_175_29 (ls st : List Value) (ws : ai_W) : ai_Run 175 29 ls st ws = ai_Run 175 4 ls st ws := R_goto hc_175 dX11_swornMany_29 rfl
theorem r_175_32 (l0 l2 : Value) (a : Int32) (st : List Value) (ws : ai_W) : ai_Run 175 32 [l0, .int a, l2] st ws = ai_Run 175 33 [l0, .int a, l2] (.int a :: st) ws := R_iload_n hc_175 dX11_swornMany_32 rfl rfl
theorem r_175_33 (ls : List Value) (x : Int32) (ws : ai_W) : ai_Run 175 33 ls [.int x] ws = some (some (.int x), ws) := R_iret hc_175 dX11_swornMany_33 ht_175
theorem dX11_account_0 : decode cX11_account 0 = .ok (.iload_n 1, 1) := by decide +kernel
theorem dX11_account_1 : decode cX11_account 1 = .ok (.tableswitch 113 0 10 #[59, 59, 66, 71, 76, 81, 86, 93, 98, 103, 108], 59) := by decide +kernel
theorem dX11_account_60 : decode cX11_account 60 = .ok (.aload_n 0, 1) := by decide +kernel
theorem dX11_account_61 : decode cX11_account 61 = .ok (.getfield 9, 3) := by decide +kernel
theorem dX11_account_64 : decode cX11_account 64 = .ok (.iload_n 1, 1) := by decide +kernel
theorem dX11_account_65 : decode cX11_account 65 = .ok (.iaload, 1) := by decide +kernel
theorem dX11_account_66 : decode cX11_account 66 = .ok (.ireturn, 1) := by decide +kernel
theorem dX11_account_67 : decode cX11_account 67 = .ok (.aload_n 0, 1) := by decide +kernel
theorem dX11_account_68 : decode cX11_account 68 = .ok (.invokevirtual 262, 3) := by decide +kernel
theorem dX11_account_71 : decode cX11_account 71 = .ok (.ireturn, 1) := by decide +kernel
theorem dX11_account_72 : decode cX11_account 72 = .ok (.aload_n 0, 1) := by decide +kernel
theorem dX11_account_73 : decode cX11_account 73 = .ok (.invokevirtual 265, 3) := by decide +kernel
theorem dX11_account_76 : decode cX11_account 76 = .ok (.ireturn, 1) := by decide +kernel
theorem dX11_account_77 : decode cX11_account 77 = .ok (.aload_n 0, 1) := by decide +kernel
theorem dX11_account_78 : decode cX11_account 78 = .ok (.invokevirtual 268, 3) := by decide +kernel
theorem dX11_account_81 : decode cX11_account 81 = .ok (.ireturn, 1) := by decide +kernel
theorem dX11_account_82 : decode cX11_account 82 = .ok (.aload_n 0, 1) := by decide +kernel
theorem dX11_account_83 : decode cX11_account 83 = .ok (.invokevirtual 139, 3) := by decide +kernel
theorem dX11_account_86 : decode cX11_account 86 = .ok (.ireturn, 1) := by decide +kernel
theorem dX11_account_87 : decode cX11_account 87 = .ok (.aload_n 0, 1) := by decide +kernel
theorem dX11_account_88 : decode cX11_account 88 = .ok (.getfield 9, 3) := by decide +kernel
theorem dX11_account_91 : decode cX11_account 91 = .ok (.iconst 2, 1) := by decide +kernel
theorem dX11_account_92 : decode cX11_account 92 = .ok (.iaload, 1) := by decide +kernel
theorem dX11_account_93 : decode cX11_account 93 = .ok (.ireturn, 1) := by decide +kernel
theorem dX11_account_94 : decode cX11_account 94 = .ok (.aload_n 0, 1) := by decide +kernel
theorem dX11_account_95 : decode cX11_account 95 = .ok (.invokevirtual 271, 3) := by decide +kernel
theorem dX11_account_98 : decode cX11_account 98 = .ok (.ireturn, 1) := by decide +kernel
theorem dX11_account_99 : decode cX11_account 99 = .ok (.aload_n 0, 1) := by decide +kernel
theorem dX11_account_100 : decode cX11_account 100 = .ok (.invokevirtual 123, 3) := by decide +kernel
theorem dX11_account_103 : decode cX11_account 103 = .ok (.ireturn, 1) := by decide +kernel
theorem dX11_account_104 : decode cX11_account 104 = .ok (.aload_n 0, 1) := by decide +kernel
theorem dX11_account_105 : decode cX11_account 105 = .ok (.getfield 225, 3) := by decide +kernel
theorem dX11_account_108 : decode cX11_account 108 = .ok (.ireturn, 1) := by decide +kernel
theorem dX11_account_109 : decode cX11_account 109 = .ok (.aload_n 0, 1) := by decide +kernel
theorem dX11_account_110 : decode cX11_account 110 = .ok (.getfield 39, 3) := by decide +kernel
theorem dX11_account_113 : decode cX11_account 113 = .ok (.ireturn, 1) := by decide +kernel
theorem dX11_account_114 : decode cX11_account 114 = .ok (.bipush (-2), 2) := by decide +kernel
theorem dX11_account_116 : decode cX11_account 116 = .ok (.ireturn, 1) := by decide +kernel
theorem e_176 (r : Nat) (a0 : Int32) (ws : ai_W) : ai_Call 176 [.ref r, .int a0] ws = if ai_isob ws r 11 = true then ai_Run 176 0 [.ref r, .int a0] [] ws else none := R_entV hk_176 ⟨⟨rfl, rfl⟩, Nat.le_of_ble_eq_true rfl⟩ rfl
theorem r_176_0 (l0 : Value) (a : Int32) (st : List Value) (ws : ai_W) : ai_Run 176 0 [l0, .int a] st ws = ai_Run 176 1 [l0, .int a] (.int a :: st) ws := R_iload_n hc_176 dX11_account_0 rfl rfl
theorem r_176_1 (ls st : List Value) (x : Int32) (ws : ai_W) : ai_Run 176 1 ls (.int x :: st) ws = if x = 0 then ai_Run 176 60 ls st ws else if x = 1 then ai_Run 176 60 ls st ws else if x = 2 then ai_Run 176 67 ls st ws else if x = 3 then ai_Run 176 72 ls st ws else if x = 4 then ai_Run 176 77 ls st ws else if x = 5 then ai_Run 176 82 ls st ws else if x = 6 then ai_Run 176 87 ls st ws else if x = 7 then ai_Run 176 94 ls st ws else if x = 8 then ai_Run 176 99 ls st ws else if x = 9 then ai_Run 176 104 ls st ws else if x = 10 then ai_Run 176 109 ls st ws else ai_Run 176 114 ls st ws := by
  by_cases h0 : x = 0
  · subst h0; rw [if_pos rfl]; exact R_switch hc_176 dX11_account_1 (by decide +kernel)
  rw [if_neg h0]
  by_cases h1 : x = 1
  · subst h1; rw [if_pos rfl]; exact R_switch hc_176 dX11_account_1 (by decide +kernel)
  rw [if_neg h1]
  by_cases h2 : x = 2
  · subst h2; rw [if_pos rfl]; exact R_switch hc_176 dX11_account_1 (by decide +kernel)
  rw [if_neg h2]
  by_cases h3 : x = 3
  · subst h3; rw [if_pos rfl]; exact R_switch hc_176 dX11_account_1 (by decide +kernel)
  rw [if_neg h3]
  by_cases h4 : x = 4
  · subst h4; rw [if_pos rfl]; exact R_switch hc_176 dX11_account_1 (by decide +kernel)
  rw [if_neg h4]
  by_cases h5 : x = 5
  · subst h5; rw [if_pos rfl]; exact R_switch hc_176 dX11_account_1 (by decide +kernel)
  rw [if_neg h5]
  by_cases h6 : x = 6
  · subst h6; rw [if_pos rfl]; exact R_switch hc_176 dX11_account_1 (by decide +kernel)
  rw [if_neg h6]
  by_cases h7 : x = 7
  · subst h7; rw [if_pos rfl]; exact R_switch hc_176 dX11_account_1 (by decide +kernel)
  rw [if_neg h7]
  by_cases h8 : x = 8
  · subst h8; rw [if_pos rfl]; exact R_switch hc_176 dX11_account_1 (by decide +kernel)
  rw [if_neg h8]
  by_cases h9 : x = 9
  · subst h9; rw [if_pos rfl]; exact R_switch hc_176 dX11_account_1 (by decide +kernel)
  rw [if_neg h9]
  by_cases h10 : x = 10
  · subst h10; rw [if_pos rfl]; exact R_switch hc_176 dX11_account_1 (by decide +kernel)
  rw [if_neg h10]
  have q0 : x.toInt ≠ 0 := fun e => h0 (Int32.toInt_inj.mp e)
  have q1 : x.toInt ≠ 1 := fun e => h1 (Int32.toInt_inj.mp e)
  have q2 : x.toInt ≠ 2 := fun e => h2 (Int32.toInt_inj.mp e)
  have q3 : x.toInt ≠ 3 := fun e => h3 (Int32.toInt_inj.mp e)
  have q4 : x.toInt ≠ 4 := fun e => h4 (Int32.toInt_inj.mp e)
  have q5 : x.toInt ≠ 5 := fun e => h5 (Int32.toInt_inj.mp e)
  have q6 : x.toInt ≠ 6 := fun e => h6 (Int32.toInt_inj.mp e)
  have q7 : x.toInt ≠ 7 := fun e => h7 (Int32.toInt_inj.mp e)
  have q8 : x.toInt ≠ 8 := fun e => h8 (Int32.toInt_inj.mp e)
  have q9 : x.toInt ≠ 9 := fun e => h9 (Int32.toInt_inj.mp e)
  have q10 : x.toInt ≠ 10 := fun e => h10 (Int32.toInt_inj.mp e)
  refine R_switch hc_176 dX11_account_1 (t := 114) ?_
  unfold ai_sw
  rw [if_pos (by omega)]
  rfl
theorem r_176_60 (l1 : Value) (a : Nat) (st : List Value) (ws : ai_W) : ai_Run 176 60 [.ref a, l1] st ws = ai_Run 176 61 [.ref a, l1] (.ref a :: st) ws := R_aload_n hc_176 dX11_account_60 rfl rfl
theorem r_176_61 (ls st : List Value) (a : Nat) (ws : ai_W) : ai_Run 176 61 ls (.ref a :: st) ws = (ai_fget ws a 11 0).bind fun q => ai_Run 176 64 ls (q :: st) ws := R_getf hc_176 dX11_account_61 hv_176 (w := 1024) rfl rfl
theorem r_176_64 (l0 : Value) (a : Int32) (st : List Value) (ws : ai_W) : ai_Run 176 64 [l0, .int a] st ws = ai_Run 176 65 [l0, .int a] (.int a :: st) ws := R_iload_n hc_176 dX11_account_64 rfl rfl
theorem r_176_65 (ls st : List Value) (a : Nat) (i : Int32) (ws : ai_W) : ai_Run 176 65 ls (.int i :: .ref a :: st) ws = (ai_aget ws a i).bind fun q => ai_Run 176 66 ls (.int q :: st) ws := R_iaload hc_176 dX11_account_65 rfl
theorem r_176_66 (ls : List Value) (x : Int32) (ws : ai_W) : ai_Run 176 66 ls [.int x] ws = some (some (.int x), ws) := R_iret hc_176 dX11_account_66 ht_176
theorem r_176_67 (l1 : Value) (a : Nat) (st : List Value) (ws : ai_W) : ai_Run 176 67 [.ref a, l1] st ws = ai_Run 176 68 [.ref a, l1] (.ref a :: st) ws := R_aload_n hc_176 dX11_account_67 rfl rfl
theorem r_176_68 (ls : List Value) (r : Nat) (ws : ai_W) : ai_Run 176 68 ls [.ref r] ws = (ai_Call 167 [.ref r] ws).bind fun q => ai_Run 176 71 ls (q.1.toList ++ []) q.2 := R_callV hc_176 dX11_account_68 hv_176 (w := 1441) rfl (Nat.le_of_ble_eq_true rfl) hk_167 (by rw [hn_167]; rfl) rfl (Nat.le_of_ble_eq_true rfl) rfl
theorem r_176_71 (ls : List Value) (x : Int32) (ws : ai_W) : ai_Run 176 71 ls [.int x] ws = some (some (.int x), ws) := R_iret hc_176 dX11_account_71 ht_176
theorem r_176_72 (l1 : Value) (a : Nat) (st : List Value) (ws : ai_W) : ai_Run 176 72 [.ref a, l1] st ws = ai_Run 176 73 [.ref a, l1] (.ref a :: st) ws := R_aload_n hc_176 dX11_account_72 rfl rfl
theorem r_176_73 (ls : List Value) (r : Nat) (ws : ai_W) : ai_Run 176 73 ls [.ref r] ws = (ai_Call 169 [.ref r] ws).bind fun q => ai_Run 176 76 ls (q.1.toList ++ []) q.2 := R_callV hc_176 dX11_account_73 hv_176 (w := 1445) rfl (Nat.le_of_ble_eq_true rfl) hk_169 (by rw [hn_169]; rfl) rfl (Nat.le_of_ble_eq_true rfl) rfl
theorem r_176_76 (ls : List Value) (x : Int32) (ws : ai_W) : ai_Run 176 76 ls [.int x] ws = some (some (.int x), ws) := R_iret hc_176 dX11_account_76 ht_176
theorem r_176_77 (l1 : Value) (a : Nat) (st : List Value) (ws : ai_W) : ai_Run 176 77 [.ref a, l1] st ws = ai_Run 176 78 [.ref a, l1] (.ref a :: st) ws := R_aload_n hc_176 dX11_account_77 rfl rfl
theorem r_176_78 (ls : List Value) (r : Nat) (ws : ai_W) : ai_Run 176 78 ls [.ref r] ws = (ai_Call 172 [.ref r] ws).bind fun q => ai_Run 176 81 ls (q.1.toList ++ []) q.2 := R_callV hc_176 dX11_account_78 hv_176 (w := 1449) rfl (Nat.le_of_ble_eq_true rfl) hk_172 (by rw [hn_172]; rfl) rfl (Nat.le_of_ble_eq_true rfl) rfl
theorem r_176_81 (ls : List Value) (x : Int32) (ws : ai_W) : ai_Run 176 81 ls [.int x] ws = some (some (.int x), ws) := R_iret hc_176 dX11_account_81 ht_176
theorem r_176_82 (l1 : Value) (a : Nat) (st : List Value) (ws : ai_W) : ai_Run 176 82 [.ref a, l1] st ws = ai_Run 176 83 [.ref a, l1] (.ref a :: st) ws := R_aload_n hc_176 dX11_account_82 rfl rfl
theorem r_176_83 (ls : List Value) (r : Nat) (ws : ai_W) : ai_Run 176 83 ls [.ref r] ws = (ai_Call 173 [.ref r] ws).bind fun q => ai_Run 176 86 ls (q.1.toList ++ []) q.2 := R_callV hc_176 dX11_account_83 hv_176 (w := 1220) rfl (Nat.le_of_ble_eq_true rfl) hk_173 (by rw [hn_173]; rfl) rfl (Nat.le_of_ble_eq_true rfl) rfl
theorem r_176_86 (ls : List Value) (x : Int32) (ws : ai_W) : ai_Run 176 86 ls [.int x] ws = some (some (.int x), ws) := R_iret hc_176 dX11_account_86 ht_176
theorem r_176_87 (l1 : Value) (a : Nat) (st : List Value) (ws : ai_W) : ai_Run 176 87 [.ref a, l1] st ws = ai_Run 176 88 [.ref a, l1] (.ref a :: st) ws := R_aload_n hc_176 dX11_account_87 rfl rfl
theorem r_176_88 (ls st : List Value) (a : Nat) (ws : ai_W) : ai_Run 176 88 ls (.ref a :: st) ws = (ai_fget ws a 11 0).bind fun q => ai_Run 176 91 ls (q :: st) ws := R_getf hc_176 dX11_account_88 hv_176 (w := 1024) rfl rfl
theorem r_176_91 (ls st : List Value) (ws : ai_W) : ai_Run 176 91 ls st ws = ai_Run 176 92 ls (.int 2 :: st) ws := R_iconst hc_176 dX11_account_91 (by decide) rfl
theorem r_176_92 (ls st : List Value) (a : Nat) (i : Int32) (ws : ai_W) : ai_Run 176 92 ls (.int i :: .ref a :: st) ws = (ai_aget ws a i).bind fun q => ai_Run 176 93 ls (.int q :: st) ws := R_iaload hc_176 dX11_account_92 rfl
theorem r_176_93 (ls : List Value) (x : Int32) (ws : ai_W) : ai_Run 176 93 ls [.int x] ws = some (some (.int x), ws) := R_iret hc_176 dX11_account_93 ht_176
theorem r_176_94 (l1 : Value) (a : Nat) (st : List Value) (ws : ai_W) : ai_Run 176 94 [.ref a, l1] st ws = ai_Run 176 95 [.ref a, l1] (.ref a :: st) ws := R_aload_n hc_176 dX11_account_94 rfl rfl
theorem r_176_95 (ls : List Value) (r : Nat) (ws : ai_W) : ai_Run 176 95 ls [.ref r] ws = (ai_Call 174 [.ref r] ws).bind fun q => ai_Run 176 98 ls (q.1.toList ++ []) q.2 := R_callV hc_176 dX11_account_95 hv_176 (w := 1453) rfl (Nat.le_of_ble_eq_true rfl) hk_174 (by rw [hn_174]; rfl) rfl (Nat.le_of_ble_eq_true rfl) rfl
theorem r_176_98 (ls : List Value) (x : Int32) (ws : ai_W) : ai_Run 176 98 ls [.int x] ws = some (some (.int x), ws) := R_iret hc_176 dX11_account_98 ht_176
theorem r_176_99 (l1 : Value) (a : Nat) (st : List Value) (ws : ai_W) : ai_Run 176 99 [.ref a, l1] st ws = ai_Run 176 100 [.ref a, l1] (.ref a :: st) ws := R_aload_n hc_176 dX11_account_99 rfl rfl
theorem r_176_100 (ls : List Value) (r : Nat) (ws : ai_W) : ai_Run 176 100 ls [.ref r] ws = (ai_Call 175 [.ref r] ws).bind fun q => ai_Run 176 103 ls (q.1.toList ++ []) q.2 := R_callV hc_176 dX11_account_100 hv_176 (w := 1193) rfl (Nat.le_of_ble_eq_true rfl) hk_175 (by rw [hn_175]; rfl) rfl (Nat.le_of_ble_eq_true rfl) rfl
theorem r_176_103 (ls : List Value) (x : Int32) (ws : ai_W) : ai_Run 176 103 ls [.int x] ws = some (some (.int x), ws) := R_iret hc_176 dX11_account_103 ht_176
theorem r_176_104 (l1 : Value) (a : Nat) (st : List Value) (ws : ai_W) : ai_Run 176 104 [.ref a, l1] st ws = ai_Run 176 105 [.ref a, l1] (.ref a :: st) ws := R_aload_n hc_176 dX11_account_104 rfl rfl
theorem r_176_105 (ls st : List Value) (a : Nat) (ws : ai_W) : ai_Run 176 105 ls (.ref a :: st) ws = (ai_fget ws a 11 13).bind fun q => ai_Run 176 108 ls (q :: st) ws := R_getf hc_176 dX11_account_105 hv_176 (w := 1037) rfl rfl
theorem r_176_108 (ls : List Value) (x : Int32) (ws : ai_W) : ai_Run 176 108 ls [.int x] ws = some (some (.int x), ws) := R_iret hc_176 dX11_account_108 ht_176
theorem r_176_109 (l1 : Value) (a : Nat) (st : List Value) (ws : ai_W) : ai_Run 176 109 [.ref a, l1] st ws = ai_Run 176 110 [.ref a, l1] (.ref a :: st) ws := R_aload_n hc_176 dX11_account_109 rfl rfl
theorem r_176_110 (ls st : List Value) (a : Nat) (ws : ai_W) : ai_Run 176 110 ls (.ref a :: st) ws = (ai_fget ws a 11 4).bind fun q => ai_Run 176 113 ls (q :: st) ws := R_getf hc_176 dX11_account_110 hv_176 (w := 1028) rfl rfl
theorem r_176_113 (ls : List Value) (x : Int32) (ws : ai_W) : ai_Run 176 113 ls [.int x] ws = some (some (.int x), ws) := R_iret hc_176 dX11_account_113 ht_176
theorem r_176_114 (ls st : List Value) (ws : ai_W) : ai_Run 176 114 ls st ws = ai_Run 176 116 ls (.int (-2) :: st) ws := R_bipush hc_176 dX11_account_114 (by decide) rfl
theorem r_176_116 (ls : List Value) (x : Int32) (ws : ai_W) : ai_Run 176 116 ls [.int x] ws = some (some (.int x), ws) := R_iret hc_176 dX11_account_116 ht_176
theorem dX11_sets_0 : decode cX11_sets 0 = .ok (.aload_n 0, 1) := by decide +kernel
theorem dX11_sets_1 : decode cX11_sets 1 = .ok (.getfield 9, 3) := by decide +kernel
theorem dX11_sets_4 : decode cX11_sets 4 = .ok (.bipush 109, 2) := by decide +kernel
theorem dX11_sets_6 : decode cX11_sets 6 = .ok (.bipush 10, 2) := by decide +kernel
theorem dX11_sets_8 : decode cX11_sets 8 = .ok (.iload_n 1, 1) := by decide +kernel
theorem dX11_sets_9 : decode cX11_sets 9 = .ok (.imul, 1) := by decide +kernel
theorem dX11_sets_10 : decode cX11_sets 10 = .ok (.iadd, 1) := by decide +kernel
theorem dX11_sets_11 : decode cX11_sets 11 = .ok (.iload_n 2, 1) := by decide +kernel
theorem dX11_sets_12 : decode cX11_sets 12 = .ok (.iadd, 1) := by decide +kernel
theorem dX11_sets_13 : decode cX11_sets 13 = .ok (.iload_n 3, 1) := by decide +kernel
theorem dX11_sets_14 : decode cX11_sets 14 = .ok (.iastore, 1) := by decide +kernel
theorem dX11_sets_15 : decode cX11_sets 15 = .ok (.return_, 1) := by decide +kernel
theorem e_177 (r : Nat) (a0 : Int32) (a1 : Int32) (a2 : Int32) (ws : ai_W) : ai_Call 177 [.ref r, .int a0, .int a1, .int a2] ws = if ai_isob ws r 11 = true then ai_Run 177 0 [.ref r, .int a0, .int a1, .int a2] [] ws else none := R_entV hk_177 ⟨⟨rfl, rfl⟩, Nat.le_of_ble_eq_true rfl⟩ rfl
theorem r_177_0 (l1 l2 l3 : Value) (a : Nat) (st : List Value) (ws : ai_W) : ai_Run 177 0 [.ref a, l1, l2, l3] st ws = ai_Run 177 1 [.ref a, l1, l2, l3] (.ref a :: st) ws := R_aload_n hc_177 dX11_sets_0 rfl rfl
theorem r_177_1 (ls st : List Value) (a : Nat) (ws : ai_W) : ai_Run 177 1 ls (.ref a :: st) ws = (ai_fget ws a 11 0).bind fun q => ai_Run 177 4 ls (q :: st) ws := R_getf hc_177 dX11_sets_1 hv_177 (w := 1024) rfl rfl
theorem r_177_4 (ls st : List Value) (ws : ai_W) : ai_Run 177 4 ls st ws = ai_Run 177 6 ls (.int 109 :: st) ws := R_bipush hc_177 dX11_sets_4 (by decide) rfl
theorem r_177_6 (ls st : List Value) (ws : ai_W) : ai_Run 177 6 ls st ws = ai_Run 177 8 ls (.int 10 :: st) ws := R_bipush hc_177 dX11_sets_6 (by decide) rfl
theorem r_177_8 (l0 l2 l3 : Value) (a : Int32) (st : List Value) (ws : ai_W) : ai_Run 177 8 [l0, .int a, l2, l3] st ws = ai_Run 177 9 [l0, .int a, l2, l3] (.int a :: st) ws := R_iload_n hc_177 dX11_sets_8 rfl rfl
theorem r_177_9 (ls st : List Value) (a b : Int32) (ws : ai_W) : ai_Run 177 9 ls (.int b :: .int a :: st) ws = ai_Run 177 10 ls (.int (a * b) :: st) ws := R_imul hc_177 dX11_sets_9 rfl
theorem r_177_10 (ls st : List Value) (a b : Int32) (ws : ai_W) : ai_Run 177 10 ls (.int b :: .int a :: st) ws = ai_Run 177 11 ls (.int (a + b) :: st) ws := R_iadd hc_177 dX11_sets_10 rfl
theorem r_177_11 (l0 l1 l3 : Value) (a : Int32) (st : List Value) (ws : ai_W) : ai_Run 177 11 [l0, l1, .int a, l3] st ws = ai_Run 177 12 [l0, l1, .int a, l3] (.int a :: st) ws := R_iload_n hc_177 dX11_sets_11 rfl rfl
theorem r_177_12 (ls st : List Value) (a b : Int32) (ws : ai_W) : ai_Run 177 12 ls (.int b :: .int a :: st) ws = ai_Run 177 13 ls (.int (a + b) :: st) ws := R_iadd hc_177 dX11_sets_12 rfl
theorem r_177_13 (l0 l1 l2 : Value) (a : Int32) (st : List Value) (ws : ai_W) : ai_Run 177 13 [l0, l1, l2, .int a] st ws = ai_Run 177 14 [l0, l1, l2, .int a] (.int a :: st) ws := R_iload_n hc_177 dX11_sets_13 rfl rfl
theorem r_177_14 (ls st : List Value) (a : Nat) (i x : Int32) (ws : ai_W) : ai_Run 177 14 ls (.int x :: .int i :: .ref a :: st) ws = (ai_aset ws a i x).bind fun ws => ai_Run 177 15 ls st ws := R_iastore hc_177 dX11_sets_14 rfl
theorem r_177_15 (ls : List Value) (ws : ai_W) : ai_Run 177 15 ls [] ws = some (none, ws) := R_vret hc_177 dX11_sets_15 ht_177
theorem dX11_adds_0 : decode cX11_adds 0 = .ok (.aload_n 0, 1) := by decide +kernel
theorem dX11_adds_1 : decode cX11_adds 1 = .ok (.iload_n 1, 1) := by decide +kernel
theorem dX11_adds_2 : decode cX11_adds 2 = .ok (.iconst 0, 1) := by decide +kernel
theorem dX11_adds_3 : decode cX11_adds 3 = .ok (.invokevirtual 59, 3) := by decide +kernel
theorem dX11_adds_6 : decode cX11_adds 6 = .ok (.istore_n 3, 1) := by decide +kernel
theorem dX11_adds_7 : decode cX11_adds 7 = .ok (.aload_n 0, 1) := by decide +kernel
theorem dX11_adds_8 : decode cX11_adds 8 = .ok (.iload_n 1, 1) := by decide +kernel
theorem dX11_adds_9 : decode cX11_adds 9 = .ok (.iconst 1, 1) := by decide +kernel
theorem dX11_adds_10 : decode cX11_adds 10 = .ok (.iload_n 3, 1) := by decide +kernel
theorem dX11_adds_11 : decode cX11_adds 11 = .ok (.iadd, 1) := by decide +kernel
theorem dX11_adds_12 : decode cX11_adds 12 = .ok (.iload_n 2, 1) := by decide +kernel
theorem dX11_adds_13 : decode cX11_adds 13 = .ok (.invokevirtual 74, 3) := by decide +kernel
theorem dX11_adds_16 : decode cX11_adds 16 = .ok (.aload_n 0, 1) := by decide +kernel
theorem dX11_adds_17 : decode cX11_adds 17 = .ok (.iload_n 1, 1) := by decide +kernel
theorem dX11_adds_18 : decode cX11_adds 18 = .ok (.iconst 0, 1) := by decide +kernel
theorem dX11_adds_19 : decode cX11_adds 19 = .ok (.iload_n 3, 1) := by decide +kernel
theorem dX11_adds_20 : decode cX11_adds 20 = .ok (.iconst 1, 1) := by decide +kernel
theorem dX11_adds_21 : decode cX11_adds 21 = .ok (.iadd, 1) := by decide +kernel
theorem dX11_adds_22 : decode cX11_adds 22 = .ok (.invokevirtual 74, 3) := by decide +kernel
theorem dX11_adds_25 : decode cX11_adds 25 = .ok (.return_, 1) := by decide +kernel
theorem e_178 (r : Nat) (a0 : Int32) (a1 : Int32) (ws : ai_W) : ai_Call 178 [.ref r, .int a0, .int a1] ws = if ai_isob ws r 11 = true then ai_Run 178 0 [.ref r, .int a0, .int a1, .null] [] ws else none := R_entV hk_178 ⟨⟨rfl, rfl⟩, Nat.le_of_ble_eq_true rfl⟩ rfl
theorem r_178_0 (l1 l2 l3 : Value) (a : Nat) (st : List Value) (ws : ai_W) : ai_Run 178 0 [.ref a, l1, l2, l3] st ws = ai_Run 178 1 [.ref a, l1, l2, l3] (.ref a :: st) ws := R_aload_n hc_178 dX11_adds_0 rfl rfl
theorem r_178_1 (l0 l2 l3 : Value) (a : Int32) (st : List Value) (ws : ai_W) : ai_Run 178 1 [l0, .int a, l2, l3] st ws = ai_Run 178 2 [l0, .int a, l2, l3] (.int a :: st) ws := R_iload_n hc_178 dX11_adds_1 rfl rfl
theorem r_178_2 (ls st : List Value) (ws : ai_W) : ai_Run 178 2 ls st ws = ai_Run 178 3 ls (.int 0 :: st) ws := R_iconst hc_178 dX11_adds_2 (by decide) rfl
theorem r_178_3 (ls : List Value) (r : Nat) (b0 : Int32) (b1 : Int32) (ws : ai_W) : ai_Run 178 3 ls [.int b1, .int b0, .ref r] ws = (ai_Call 165 [.ref r, .int b0, .int b1] ws).bind fun q => ai_Run 178 6 ls (q.1.toList ++ []) q.2 := R_callV hc_178 dX11_adds_3 hv_178 (w := 1137) rfl (Nat.le_of_ble_eq_true rfl) hk_165 (by rw [hn_165]; rfl) rfl (Nat.le_of_ble_eq_true rfl) rfl
theorem r_178_6 (l0 l1 l2 l3 : Value) (a : Int32) (st : List Value) (ws : ai_W) : ai_Run 178 6 [l0, l1, l2, l3] (.int a :: st) ws = ai_Run 178 7 [l0, l1, l2, .int a] st ws := R_istore_n hc_178 dX11_adds_6 (Nat.le_of_ble_eq_true rfl) rfl rfl
theorem r_178_7 (l1 l2 l3 : Value) (a : Nat) (st : List Value) (ws : ai_W) : ai_Run 178 7 [.ref a, l1, l2, l3] st ws = ai_Run 178 8 [.ref a, l1, l2, l3] (.ref a :: st) ws := R_aload_n hc_178 dX11_adds_7 rfl rfl
theorem r_178_8 (l0 l2 l3 : Value) (a : Int32) (st : List Value) (ws : ai_W) : ai_Run 178 8 [l0, .int a, l2, l3] st ws = ai_Run 178 9 [l0, .int a, l2, l3] (.int a :: st) ws := R_iload_n hc_178 dX11_adds_8 rfl rfl
theorem r_178_9 (ls st : List Value) (ws : ai_W) : ai_Run 178 9 ls st ws = ai_Run 178 10 ls (.int 1 :: st) ws := R_iconst hc_178 dX11_adds_9 (by decide) rfl
theorem r_178_10 (l0 l1 l2 : Value) (a : Int32) (st : List Value) (ws : ai_W) : ai_Run 178 10 [l0, l1, l2, .int a] st ws = ai_Run 178 11 [l0, l1, l2, .int a] (.int a :: st) ws := R_iload_n hc_178 dX11_adds_10 rfl rfl
theorem r_178_11 (ls st : List Value) (a b : Int32) (ws : ai_W) : ai_Run 178 11 ls (.int b :: .int a :: st) ws = ai_Run 178 12 ls (.int (a + b) :: st) ws := R_iadd hc_178 dX11_adds_11 rfl
theorem r_178_12 (l0 l1 l3 : Value) (a : Int32) (st : List Value) (ws : ai_W) : ai_Run 178 12 [l0, l1, .int a, l3] st ws = ai_Run 178 13 [l0, l1, .int a, l3] (.int a :: st) ws := R_iload_n hc_178 dX11_adds_12 rfl rfl
theorem r_178_13 (ls : List Value) (r : Nat) (b0 : Int32) (b1 : Int32) (b2 : Int32) (ws : ai_W) : ai_Run 178 13 ls [.int b2, .int b1, .int b0, .ref r] ws = (ai_Call 177 [.ref r, .int b0, .int b1, .int b2] ws).bind fun q => ai_Run 178 16 ls (q.1.toList ++ []) q.2 := R_callV hc_178 dX11_adds_13 hv_178 (w := 1092) rfl (Nat.le_of_ble_eq_true rfl) hk_177 (by rw [hn_177]; rfl) rfl (Nat.le_of_ble_eq_true rfl) rfl
theorem r_178_16 (l1 l2 l3 : Value) (a : Nat) (st : List Value) (ws : ai_W) : ai_Run 178 16 [.ref a, l1, l2, l3] st ws = ai_Run 178 17 [.ref a, l1, l2, l3] (.ref a :: st) ws := R_aload_n hc_178 dX11_adds_16 rfl rfl
theorem r_178_17 (l0 l2 l3 : Value) (a : Int32) (st : List Value) (ws : ai_W) : ai_Run 178 17 [l0, .int a, l2, l3] st ws = ai_Run 178 18 [l0, .int a, l2, l3] (.int a :: st) ws := R_iload_n hc_178 dX11_adds_17 rfl rfl
theorem r_178_18 (ls st : List Value) (ws : ai_W) : ai_Run 178 18 ls st ws = ai_Run 178 19 ls (.int 0 :: st) ws := R_iconst hc_178 dX11_adds_18 (by decide) rfl
theorem r_178_19 (l0 l1 l2 : Value) (a : Int32) (st : List Value) (ws : ai_W) : ai_Run 178 19 [l0, l1, l2, .int a] st ws = ai_Run 178 20 [l0, l1, l2, .int a] (.int a :: st) ws := R_iload_n hc_178 dX11_adds_19 rfl rfl
theorem r_178_20 (ls st : List Value) (ws : ai_W) : ai_Run 178 20 ls st ws = ai_Run 178 21 ls (.int 1 :: st) ws := R_iconst hc_178 dX11_adds_20 (by decide) rfl
theorem r_178_21 (ls st : List Value) (a b : Int32) (ws : ai_W) : ai_Run 178 21 ls (.int b :: .int a :: st) ws = ai_Run 178 22 ls (.int (a + b) :: st) ws := R_iadd hc_178 dX11_adds_21 rfl
theorem r_178_22 (ls : List Value) (r : Nat) (b0 : Int32) (b1 : Int32) (b2 : Int32) (ws : ai_W) : ai_Run 178 22 ls [.int b2, .int b1, .int b0, .ref r] ws = (ai_Call 177 [.ref r, .int b0, .int b1, .int b2] ws).bind fun q => ai_Run 178 25 ls (q.1.toList ++ []) q.2 := R_callV hc_178 dX11_adds_22 hv_178 (w := 1092) rfl (Nat.le_of_ble_eq_true rfl) hk_177 (by rw [hn_177]; rfl) rfl (Nat.le_of_ble_eq_true rfl) rfl
theorem r_178_25 (ls : List Value) (ws : ai_W) : ai_Run 178 25 ls [] ws = some (none, ws) := R_vret hc_178 dX11_adds_25 ht_178
theorem dX11_isIn_0 : decode cX11_isIn 0 = .ok (.iload_n 0, 1) := by decide +kernel
theorem dX11_isIn_1 : decode cX11_isIn 1 = .ok (.iload_n 1, 1) := by decide +kernel
theorem dX11_isIn_2 : decode cX11_isIn 2 = .ok (.if_icmp .lt 12, 3) := by decide +kernel
theorem dX11_isIn_5 : decode cX11_isIn 5 = .ok (.iload_n 0, 1) := by decide +kernel
theorem dX11_isIn_6 : decode cX11_isIn 6 = .ok (.iload_n 2, 1) := by decide +kernel
theorem dX11_isIn_7 : decode cX11_isIn 7 = .ok (.if_icmp .gt 7, 3) := by decide +kernel
theorem dX11_isIn_10 : decode cX11_isIn 10 = .ok (.iconst 1, 1) := by decide +kernel
theorem dX11_isIn_11 : decode cX11_isIn 11 = .ok (.goto 4, 3) := by decide +kernel
theorem dX11_isIn_14 : decode cX11_isIn 14 = .ok (.iconst 0, 1) := by decide +kernel
theorem dX11_isIn_15 : decode cX11_isIn 15 = .ok (.ireturn, 1) := by decide +kernel
theorem e_179 (a0 : Int32) (a1 : Int32) (a2 : Int32) (ws : ai_W) : ai_Call 179 [.int a0, .int a1, .int a2] ws = ai_Run 179 0 [.int a0, .int a1, .int a2] [] ws := R_entS hk_179 ⟨⟨rfl, rfl⟩, Nat.le_of_ble_eq_true rfl⟩ rfl
theorem r_179_0 (l1 l2 : Value) (a : Int32) (st : List Value) (ws : ai_W) : ai_Run 179 0 [.int a, l1, l2] st ws = ai_Run 179 1 [.int a, l1, l2] (.int a :: st) ws := R_iload_n hc_179 dX11_isIn_0 rfl rfl
theorem r_179_1 (l0 l2 : Value) (a : Int32) (st : List Value) (ws : ai_W) : ai_Run 179 1 [l0, .int a, l2] st ws = ai_Run 179 2 [l0, .int a, l2] (.int a :: st) ws := R_iload_n hc_179 dX11_isIn_1 rfl rfl
theorem r_179_2 (ls st : List Value) (a b : Int32) (ws : ai_W) : ai_Run 179 2 ls (.int b :: .int a :: st) ws = if a < b then ai_Run 179 14 ls st ws else ai_Run 179 5 ls st ws := R_cmp_lt hc_179 dX11_isIn_2 rfl rfl
theorem r_179_5 (l1 l2 : Value) (a : Int32) (st : List Value) (ws : ai_W) : ai_Run 179 5 [.int a, l1, l2] st ws = ai_Run 179 6 [.int a, l1, l2] (.int a :: st) ws := R_iload_n hc_179 dX11_isIn_5 rfl rfl
theorem r_179_6 (l0 l1 : Value) (a : Int32) (st : List Value) (ws : ai_W) : ai_Run 179 6 [l0, l1, .int a] st ws = ai_Run 179 7 [l0, l1, .int a] (.int a :: st) ws := R_iload_n hc_179 dX11_isIn_6 rfl rfl
theorem r_179_7 (ls st : List Value) (a b : Int32) (ws : ai_W) : ai_Run 179 7 ls (.int b :: .int a :: st) ws = if b < a then ai_Run 179 14 ls st ws else ai_Run 179 10 ls st ws := R_cmp_gt hc_179 dX11_isIn_7 rfl rfl
theorem r_179_10 (ls st : List Value) (ws : ai_W) : ai_Run 179 10 ls st ws = ai_Run 179 11 ls (.int 1 :: st) ws := R_iconst hc_179 dX11_isIn_10 (by decide) rfl
theorem r_179_11 (ls st : List Value) (ws : ai_W) : ai_Run 179 11 ls st ws = ai_Run 179 15 ls st ws := R_goto hc_179 dX11_isIn_11 rfl
theorem r_179_14 (ls st : List Value) (ws : ai_W) : ai_Run 179 14 ls st ws = ai_Run 179 15 ls (.int 0 :: st) ws := R_iconst hc_179 dX11_isIn_14 (by decide) rfl
theorem r_179_15 (ls : List Value) (x : Int32) (ws : ai_W) : ai_Run 179 15 ls [.int x] ws = if ai_pb x = true then some (some (.int x), ws) else none := R_zret hc_179 dX11_isIn_15 ht_179
theorem dX11_append_0 : decode cX11_append 0 = .ok (.iload_n 1, 1) := by decide +kernel
theorem dX11_append_1 : decode cX11_append 1 = .ok (.bipush 32, 2) := by decide +kernel
theorem dX11_append_3 : decode cX11_append 3 = .ok (.bipush 126, 2) := by decide +kernel
theorem dX11_append_5 : decode cX11_append 5 = .ok (.invokestatic 55, 3) := by decide +kernel
theorem dX11_append_8 : decode cX11_append 8 = .ok (.ifCond .eq 12, 3) := by decide +kernel
theorem dX11_append_11 : decode cX11_append 11 = .ok (.aload_n 0, 1) := by decide +kernel
theorem dX11_append_12 : decode cX11_append 12 = .ok (.getfield 225, 3) := by decide +kernel
theorem dX11_append_15 : decode cX11_append 15 = .ok (.bipush 70, 2) := by decide +kernel
theorem dX11_append_17 : decode cX11_append 17 = .ok (.if_icmp .ne 6, 3) := by decide +kernel
theorem dX11_append_20 : decode cX11_append 20 = .ok (.bipush (-2), 2) := by decide +kernel
theorem dX11_append_22 : decode cX11_append 22 = .ok (.ireturn, 1) := by decide +kernel
theorem dX11_append_23 : decode cX11_append 23 = .ok (.aload_n 0, 1) := by decide +kernel
theorem dX11_append_24 : decode cX11_append 24 = .ok (.getfield 29, 3) := by decide +kernel
theorem dX11_append_27 : decode cX11_append 27 = .ok (.aload_n 0, 1) := by decide +kernel
theorem dX11_append_28 : decode cX11_append 28 = .ok (.getfield 225, 3) := by decide +kernel
theorem dX11_append_31 : decode cX11_append 31 = .ok (.iload_n 1, 1) := by decide +kernel
theorem dX11_append_32 : decode cX11_append 32 = .ok (.iastore, 1) := by decide +kernel
theorem dX11_append_33 : decode cX11_append 33 = .ok (.aload_n 0, 1) := by decide +kernel
theorem dX11_append_34 : decode cX11_append 34 = .ok (.dup, 1) := by decide +kernel
theorem dX11_append_35 : decode cX11_append 35 = .ok (.getfield 225, 3) := by decide +kernel
theorem dX11_append_38 : decode cX11_append 38 = .ok (.iconst 1, 1) := by decide +kernel
theorem dX11_append_39 : decode cX11_append 39 = .ok (.iadd, 1) := by decide +kernel
theorem dX11_append_40 : decode cX11_append 40 = .ok (.putfield 225, 3) := by decide +kernel
theorem dX11_append_43 : decode cX11_append 43 = .ok (.aload_n 0, 1) := by decide +kernel
theorem dX11_append_44 : decode cX11_append 44 = .ok (.getfield 225, 3) := by decide +kernel
theorem dX11_append_47 : decode cX11_append 47 = .ok (.ireturn, 1) := by decide +kernel
theorem e_180 (r : Nat) (a0 : Int32) (ws : ai_W) : ai_Call 180 [.ref r, .int a0] ws = if ai_isob ws r 11 = true then ai_Run 180 0 [.ref r, .int a0] [] ws else none := R_entV hk_180 ⟨⟨rfl, rfl⟩, Nat.le_of_ble_eq_true rfl⟩ rfl
theorem r_180_0 (l0 : Value) (a : Int32) (st : List Value) (ws : ai_W) : ai_Run 180 0 [l0, .int a] st ws = ai_Run 180 1 [l0, .int a] (.int a :: st) ws := R_iload_n hc_180 dX11_append_0 rfl rfl
theorem r_180_1 (ls st : List Value) (ws : ai_W) : ai_Run 180 1 ls st ws = ai_Run 180 3 ls (.int 32 :: st) ws := R_bipush hc_180 dX11_append_1 (by decide) rfl
theorem r_180_3 (ls st : List Value) (ws : ai_W) : ai_Run 180 3 ls st ws = ai_Run 180 5 ls (.int 126 :: st) ws := R_bipush hc_180 dX11_append_3 (by decide) rfl
theorem r_180_5 (ls : List Value) (b0 : Int32) (b1 : Int32) (b2 : Int32) (ws : ai_W) : ai_Run 180 5 ls [.int b2, .int b1, .int b0] ws = (ai_Call 179 [.int b0, .int b1, .int b2] ws).bind fun q => ai_Run 180 8 ls (q.1.toList ++ []) q.2 := R_callS hc_180 dX11_append_5 hv_180 (w := 1127) rfl (Nat.le_of_ble_eq_true rfl) hk_179 (by rw [hn_179]; rfl) rfl (Nat.le_of_ble_eq_true rfl) rfl
theorem r_180_8 (ls st : List Value) (a : Int32) (ws : ai_W) : ai_Run 180 8 ls (.int a :: st) ws = if a = 0 then ai_Run 180 20 ls st ws else ai_Run 180 11 ls st ws := R_if_eq hc_180 dX11_append_8 rfl rfl
theorem r_180_11 (l1 : Value) (a : Nat) (st : List Value) (ws : ai_W) : ai_Run 180 11 [.ref a, l1] st ws = ai_Run 180 12 [.ref a, l1] (.ref a :: st) ws := R_aload_n hc_180 dX11_append_11 rfl rfl
theorem r_180_12 (ls st : List Value) (a : Nat) (ws : ai_W) : ai_Run 180 12 ls (.ref a :: st) ws = (ai_fget ws a 11 13).bind fun q => ai_Run 180 15 ls (q :: st) ws := R_getf hc_180 dX11_append_12 hv_180 (w := 1037) rfl rfl
theorem r_180_15 (ls st : List Value) (ws : ai_W) : ai_Run 180 15 ls st ws = ai_Run 180 17 ls (.int 70 :: st) ws := R_bipush hc_180 dX11_append_15 (by decide) rfl
theorem r_180_17 (ls st : List Value) (a b : Int32) (ws : ai_W) : ai_Run 180 17 ls (.int b :: .int a :: st) ws = if a = b then ai_Run 180 20 ls st ws else ai_Run 180 23 ls st ws := R_cmp_ne hc_180 dX11_append_17 rfl rfl
theorem r_180_20 (ls st : List Value) (ws : ai_W) : ai_Run 180 20 ls st ws = ai_Run 180 22 ls (.int (-2) :: st) ws := R_bipush hc_180 dX11_append_20 (by decide) rfl
theorem r_180_22 (ls : List Value) (x : Int32) (ws : ai_W) : ai_Run 180 22 ls [.int x] ws = some (some (.int x), ws) := R_iret hc_180 dX11_append_22 ht_180
theorem r_180_23 (l1 : Value) (a : Nat) (st : List Value) (ws : ai_W) : ai_Run 180 23 [.ref a, l1] st ws = ai_Run 180 24 [.ref a, l1] (.ref a :: st) ws := R_aload_n hc_180 dX11_append_23 rfl rfl
theorem r_180_24 (ls st : List Value) (a : Nat) (ws : ai_W) : ai_Run 180 24 ls (.ref a :: st) ws = (ai_fget ws a 11 11).bind fun q => ai_Run 180 27 ls (q :: st) ws := R_getf hc_180 dX11_append_24 hv_180 (w := 1035) rfl rfl
theorem r_180_27 (l1 : Value) (a : Nat) (st : List Value) (ws : ai_W) : ai_Run 180 27 [.ref a, l1] st ws = ai_Run 180 28 [.ref a, l1] (.ref a :: st) ws := R_aload_n hc_180 dX11_append_27 rfl rfl
theorem r_180_28 (ls st : List Value) (a : Nat) (ws : ai_W) : ai_Run 180 28 ls (.ref a :: st) ws = (ai_fget ws a 11 13).bind fun q => ai_Run 180 31 ls (q :: st) ws := R_getf hc_180 dX11_append_28 hv_180 (w := 1037) rfl rfl
theorem r_180_31 (l0 : Value) (a : Int32) (st : List Value) (ws : ai_W) : ai_Run 180 31 [l0, .int a] st ws = ai_Run 180 32 [l0, .int a] (.int a :: st) ws := R_iload_n hc_180 dX11_append_31 rfl rfl
theorem r_180_32 (ls st : List Value) (a : Nat) (i x : Int32) (ws : ai_W) : ai_Run 180 32 ls (.int x :: .int i :: .ref a :: st) ws = (ai_aset ws a i x).bind fun ws => ai_Run 180 33 ls st ws := R_iastore hc_180 dX11_append_32 rfl
theorem r_180_33 (l1 : Value) (a : Nat) (st : List Value) (ws : ai_W) : ai_Run 180 33 [.ref a, l1] st ws = ai_Run 180 34 [.ref a, l1] (.ref a :: st) ws := R_aload_n hc_180 dX11_append_33 rfl rfl
theorem r_180_34 (ls st : List Value) (a : Nat) (ws : ai_W) : ai_Run 180 34 ls (.ref a :: st) ws = ai_Run 180 35 ls (.ref a :: .ref a :: st) ws := R_dup hc_180 dX11_append_34 rfl
theorem r_180_35 (ls st : List Value) (a : Nat) (ws : ai_W) : ai_Run 180 35 ls (.ref a :: st) ws = (ai_fget ws a 11 13).bind fun q => ai_Run 180 38 ls (q :: st) ws := R_getf hc_180 dX11_append_35 hv_180 (w := 1037) rfl rfl
theorem r_180_38 (ls st : List Value) (ws : ai_W) : ai_Run 180 38 ls st ws = ai_Run 180 39 ls (.int 1 :: st) ws := R_iconst hc_180 dX11_append_38 (by decide) rfl
theorem r_180_39 (ls st : List Value) (a b : Int32) (ws : ai_W) : ai_Run 180 39 ls (.int b :: .int a :: st) ws = ai_Run 180 40 ls (.int (a + b) :: st) ws := R_iadd hc_180 dX11_append_39 rfl
theorem r_180_40 (ls st : List Value) (a : Nat) (x : Value) (ws : ai_W) : ai_Run 180 40 ls (x :: .ref a :: st) ws = (ai_fput ws a 11 13 x).bind fun ws => ai_Run 180 43 ls st ws := R_putf hc_180 dX11_append_40 hv_180 (w := 1037) rfl rfl rfl
theorem r_180_43 (l1 : Value) (a : Nat) (st : List Value) (ws : ai_W) : ai_Run 180 43 [.ref a, l1] st ws = ai_Run 180 44 [.ref a, l1] (.ref a :: st) ws := R_aload_n hc_180 dX11_append_43 rfl rfl
theorem r_180_44 (ls st : List Value) (a : Nat) (ws : ai_W) : ai_Run 180 44 ls (.ref a :: st) ws = (ai_fget ws a 11 13).bind fun q => ai_Run 180 47 ls (q :: st) ws := R_getf hc_180 dX11_append_44 hv_180 (w := 1037) rfl rfl
theorem r_180_47 (ls : List Value) (x : Int32) (ws : ai_W) : ai_Run 180 47 ls [.int x] ws = some (some (.int x), ws) := R_iret hc_180 dX11_append_47 ht_180
theorem dX11_copies_0 : decode cX11_copies 0 = .ok (.iconst 0, 1) := by decide +kernel
theorem dX11_copies_1 : decode cX11_copies 1 = .ok (.istore 4, 2) := by decide +kernel
theorem dX11_copies_3 : decode cX11_copies 3 = .ok (.iload 4, 2) := by decide +kernel
theorem dX11_copies_5 : decode cX11_copies 5 = .ok (.sipush 189, 3) := by decide +kernel
theorem dX11_copies_8 : decode cX11_copies 8 = .ok (.if_icmp .ge 21, 3) := by decide +kernel
theorem dX11_copies_11 : decode cX11_copies 11 = .ok (.aload_n 2, 1) := by decide +kernel
theorem dX11_copies_12 : decode cX11_copies 12 = .ok (.iload_n 3, 1) := by decide +kernel
theorem dX11_copies_13 : decode cX11_copies 13 = .ok (.iload 4, 2) := by decide +kernel
theorem dX11_copies_15 : decode cX11_copies 15 = .ok (.iadd, 1) := by decide +kernel
theorem dX11_copies_16 : decode cX11_copies 16 = .ok (.aload_n 0, 1) := by decide +kernel
theorem dX11_copies_17 : decode cX11_copies 17 = .ok (.iload_n 1, 1) := by decide +kernel
theorem dX11_copies_18 : decode cX11_copies 18 = .ok (.iload 4, 2) := by decide +kernel
theorem dX11_copies_20 : decode cX11_copies 20 = .ok (.iadd, 1) := by decide +kernel
theorem dX11_copies_21 : decode cX11_copies 21 = .ok (.iaload, 1) := by decide +kernel
theorem dX11_copies_22 : decode cX11_copies 22 = .ok (.iastore, 1) := by decide +kernel
theorem dX11_copies_23 : decode cX11_copies 23 = .ok (.iinc 4 1, 3) := by decide +kernel
theorem dX11_copies_26 : decode cX11_copies 26 = .ok (.goto (-23), 3) := by decide +kernel
theorem dX11_copies_29 : decode cX11_copies 29 = .ok (.return_, 1) := by decide +kernel
theorem e_181 (a0 : Nat) (a1 : Int32) (a2 : Nat) (a3 : Int32) (ws : ai_W) : ai_Call 181 [.ref a0, .int a1, .ref a2, .int a3] ws = ai_Run 181 0 [.ref a0, .int a1, .ref a2, .int a3, .null] [] ws := R_entS hk_181 ⟨⟨rfl, rfl⟩, Nat.le_of_ble_eq_true rfl⟩ rfl
theorem r_181_0 (ls st : List Value) (ws : ai_W) : ai_Run 181 0 ls st ws = ai_Run 181 1 ls (.int 0 :: st) ws := R_iconst hc_181 dX11_copies_0 (by decide) rfl
theorem r_181_1 (l0 l1 l2 l3 l4 : Value) (a : Int32) (st : List Value) (ws : ai_W) : ai_Run 181 1 [l0, l1, l2, l3, l4] (.int a :: st) ws = ai_Run 181 3 [l0, l1, l2, l3, .int a] st ws := R_istore hc_181 dX11_copies_1 (Nat.le_of_ble_eq_true rfl) rfl rfl
theorem r_181_3 (l0 l1 l2 l3 : Value) (a : Int32) (st : List Value) (ws : ai_W) : ai_Run 181 3 [l0, l1, l2, l3, .int a] st ws = ai_Run 181 5 [l0, l1, l2, l3, .int a] (.int a :: st) ws := R_iload hc_181 dX11_copies_3 rfl rfl
theorem r_181_5 (ls st : List Value) (ws : ai_W) : ai_Run 181 5 ls st ws = ai_Run 181 8 ls (.int 189 :: st) ws := R_sipush hc_181 dX11_copies_5 (by decide) rfl
theorem r_181_8 (ls st : List Value) (a b : Int32) (ws : ai_W) : ai_Run 181 8 ls (.int b :: .int a :: st) ws = if a < b then ai_Run 181 11 ls st ws else ai_Run 181 29 ls st ws := R_cmp_ge hc_181 dX11_copies_8 rfl rfl
theorem r_181_11 (l0 l1 l3 l4 : Value) (a : Nat) (st : List Value) (ws : ai_W) : ai_Run 181 11 [l0, l1, .ref a, l3, l4] st ws = ai_Run 181 12 [l0, l1, .ref a, l3, l4] (.ref a :: st) ws := R_aload_n hc_181 dX11_copies_11 rfl rfl
theorem r_181_12 (l0 l1 l2 l4 : Value) (a : Int32) (st : List Value) (ws : ai_W) : ai_Run 181 12 [l0, l1, l2, .int a, l4] st ws = ai_Run 181 13 [l0, l1, l2, .int a, l4] (.int a :: st) ws := R_iload_n hc_181 dX11_copies_12 rfl rfl
theorem r_181_13 (l0 l1 l2 l3 : Value) (a : Int32) (st : List Value) (ws : ai_W) : ai_Run 181 13 [l0, l1, l2, l3, .int a] st ws = ai_Run 181 15 [l0, l1, l2, l3, .int a] (.int a :: st) ws := R_iload hc_181 dX11_copies_13 rfl rfl
theorem r_181_15 (ls st : List Value) (a b : Int32) (ws : ai_W) : ai_Run 181 15 ls (.int b :: .int a :: st) ws = ai_Run 181 16 ls (.int (a + b) :: st) ws := R_iadd hc_181 dX11_copies_15 rfl
theorem r_181_16 (l1 l2 l3 l4 : Value) (a : Nat) (st : List Value) (ws : ai_W) : ai_Run 181 16 [.ref a, l1, l2, l3, l4] st ws = ai_Run 181 17 [.ref a, l1, l2, l3, l4] (.ref a :: st) ws := R_aload_n hc_181 dX11_copies_16 rfl rfl
theorem r_181_17 (l0 l2 l3 l4 : Value) (a : Int32) (st : List Value) (ws : ai_W) : ai_Run 181 17 [l0, .int a, l2, l3, l4] st ws = ai_Run 181 18 [l0, .int a, l2, l3, l4] (.int a :: st) ws := R_iload_n hc_181 dX11_copies_17 rfl rfl
theorem r_181_18 (l0 l1 l2 l3 : Value) (a : Int32) (st : List Value) (ws : ai_W) : ai_Run 181 18 [l0, l1, l2, l3, .int a] st ws = ai_Run 181 20 [l0, l1, l2, l3, .int a] (.int a :: st) ws := R_iload hc_181 dX11_copies_18 rfl rfl
theorem r_181_20 (ls st : List Value) (a b : Int32) (ws : ai_W) : ai_Run 181 20 ls (.int b :: .int a :: st) ws = ai_Run 181 21 ls (.int (a + b) :: st) ws := R_iadd hc_181 dX11_copies_20 rfl
theorem r_181_21 (ls st : List Value) (a : Nat) (i : Int32) (ws : ai_W) : ai_Run 181 21 ls (.int i :: .ref a :: st) ws = (ai_aget ws a i).bind fun q => ai_Run 181 22 ls (.int q :: st) ws := R_iaload hc_181 dX11_copies_21 rfl
theorem r_181_22 (ls st : List Value) (a : Nat) (i x : Int32) (ws : ai_W) : ai_Run 181 22 ls (.int x :: .int i :: .ref a :: st) ws = (ai_aset ws a i x).bind fun ws => ai_Run 181 23 ls st ws := R_iastore hc_181 dX11_copies_22 rfl
theorem r_181_23 (l0 l1 l2 l3 : Value) (a : Int32) (st : List Value) (ws : ai_W) : ai_Run 181 23 [l0, l1, l2, l3, .int a] st ws = ai_Run 181 26 [l0, l1, l2, l3, .int (a + 1)] st ws := R_iinc hc_181 dX11_copies_23 rfl (by decide) rfl rfl
theorem r_181_26 (ls st : List Value) (ws : ai_W) : ai_Run 181 26 ls st ws = ai_Run 181 3 ls st ws := R_goto hc_181 dX11_copies_26 rfl
theorem r_181_29 (ls : List Value) (ws : ai_W) : ai_Run 181 29 ls [] ws = some (none, ws) := R_vret hc_181 dX11_copies_29 ht_181
theorem dX11_keeps_0 : decode cX11_keeps 0 = .ok (.aload_n 0, 1) := by decide +kernel
theorem dX11_keeps_1 : decode cX11_keeps 1 = .ok (.getfield 9, 3) := by decide +kernel
theorem dX11_keeps_4 : decode cX11_keeps 4 = .ok (.iconst 0, 1) := by decide +kernel
theorem dX11_keeps_5 : decode cX11_keeps 5 = .ok (.aload_n 0, 1) := by decide +kernel
theorem dX11_keeps_6 : decode cX11_keeps 6 = .ok (.getfield 13, 3) := by decide +kernel
theorem dX11_keeps_9 : decode cX11_keeps 9 = .ok (.iconst 0, 1) := by decide +kernel
theorem dX11_keeps_10 : decode cX11_keeps 10 = .ok (.invokestatic 35, 3) := by decide +kernel
theorem dX11_keeps_13 : decode cX11_keeps 13 = .ok (.return_, 1) := by decide +kernel
theorem e_182 (r : Nat)  (ws : ai_W) : ai_Call 182 [.ref r] ws = if ai_isob ws r 11 = true then ai_Run 182 0 [.ref r] [] ws else none := R_entV hk_182 ⟨⟨rfl, rfl⟩, Nat.le_of_ble_eq_true rfl⟩ rfl
theorem r_182_0 (a : Nat) (st : List Value) (ws : ai_W) : ai_Run 182 0 [.ref a] st ws = ai_Run 182 1 [.ref a] (.ref a :: st) ws := R_aload_n hc_182 dX11_keeps_0 rfl rfl
theorem r_182_1 (ls st : List Value) (a : Nat) (ws : ai_W) : ai_Run 182 1 ls (.ref a :: st) ws = (ai_fget ws a 11 0).bind fun q => ai_Run 182 4 ls (q :: st) ws := R_getf hc_182 dX11_keeps_1 hv_182 (w := 1024) rfl rfl
theorem r_182_4 (ls st : List Value) (ws : ai_W) : ai_Run 182 4 ls st ws = ai_Run 182 5 ls (.int 0 :: st) ws := R_iconst hc_182 dX11_keeps_4 (by decide) rfl
theorem r_182_5 (a : Nat) (st : List Value) (ws : ai_W) : ai_Run 182 5 [.ref a] st ws = ai_Run 182 6 [.ref a] (.ref a :: st) ws := R_aload_n hc_182 dX11_keeps_5 rfl rfl
theorem r_182_6 (ls st : List Value) (a : Nat) (ws : ai_W) : ai_Run 182 6 ls (.ref a :: st) ws = (ai_fget ws a 11 1).bind fun q => ai_Run 182 9 ls (q :: st) ws := R_getf hc_182 dX11_keeps_6 hv_182 (w := 1025) rfl rfl
theorem r_182_9 (ls st : List Value) (ws : ai_W) : ai_Run 182 9 ls st ws = ai_Run 182 10 ls (.int 0 :: st) ws := R_iconst hc_182 dX11_keeps_9 (by decide) rfl
theorem r_182_10 (ls : List Value) (b0 : Nat) (b1 : Int32) (b2 : Nat) (b3 : Int32) (ws : ai_W) : ai_Run 182 10 ls [.int b3, .ref b2, .int b1, .ref b0] ws = (ai_Call 181 [.ref b0, .int b1, .ref b2, .int b3] ws).bind fun q => ai_Run 182 13 ls (q.1.toList ++ []) q.2 := R_callS hc_182 dX11_keeps_10 hv_182 (w := 1081) rfl (Nat.le_of_ble_eq_true rfl) hk_181 (by rw [hn_181]; rfl) rfl (Nat.le_of_ble_eq_true rfl) rfl
theorem r_182_13 (ls : List Value) (ws : ai_W) : ai_Run 182 13 ls [] ws = some (none, ws) := R_vret hc_182 dX11_keeps_13 ht_182
theorem dX11_isRefused_0 : decode cX11_isRefused 0 = .ok (.iload_n 1, 1) := by decide +kernel
theorem dX11_isRefused_1 : decode cX11_isRefused 1 = .ok (.ifCond .eq 19, 3) := by decide +kernel
theorem dX11_isRefused_4 : decode cX11_isRefused 4 = .ok (.aload_n 0, 1) := by decide +kernel
theorem dX11_isRefused_5 : decode cX11_isRefused 5 = .ok (.iload_n 2, 1) := by decide +kernel
theorem dX11_isRefused_6 : decode cX11_isRefused 6 = .ok (.putfield 49, 3) := by decide +kernel
theorem dX11_isRefused_9 : decode cX11_isRefused 9 = .ok (.aload_n 0, 1) := by decide +kernel
theorem dX11_isRefused_10 : decode cX11_isRefused 10 = .ok (.iload_n 3, 1) := by decide +kernel
theorem dX11_isRefused_11 : decode cX11_isRefused 11 = .ok (.putfield 52, 3) := by decide +kernel
theorem dX11_isRefused_14 : decode cX11_isRefused 14 = .ok (.aload_n 0, 1) := by decide +kernel
theorem dX11_isRefused_15 : decode cX11_isRefused 15 = .ok (.bipush (-4), 2) := by decide +kernel
theorem dX11_isRefused_17 : decode cX11_isRefused 17 = .ok (.putfield 22, 3) := by decide +kernel
theorem dX11_isRefused_20 : decode cX11_isRefused 20 = .ok (.iload_n 1, 1) := by decide +kernel
theorem dX11_isRefused_21 : decode cX11_isRefused 21 = .ok (.ireturn, 1) := by decide +kernel
theorem e_183 (r : Nat) (a0 : Int32) (a1 : Int32) (a2 : Int32) (ws : ai_W) : ai_Call 183 [.ref r, .int a0, .int a1, .int a2] ws = if ai_isob ws r 11 = true then ai_Run 183 0 [.ref r, .int a0, .int a1, .int a2] [] ws else none := R_entV hk_183 ⟨⟨rfl, rfl⟩, Nat.le_of_ble_eq_true rfl⟩ rfl
theorem r_183_0 (l0 l2 l3 : Value) (a : Int32) (st : List Value) (ws : ai_W) : ai_Run 183 0 [l0, .int a, l2, l3] st ws = ai_Run 183 1 [l0, .int a, l2, l3] (.int a :: st) ws := R_iload_n hc_183 dX11_isRefused_0 rfl rfl
theorem r_183_1 (ls st : List Value) (a : Int32) (ws : ai_W) : ai_Run 183 1 ls (.int a :: st) ws = if a = 0 then ai_Run 183 20 ls st ws else ai_Run 183 4 ls st ws := R_if_eq hc_183 dX11_isRefused_1 rfl rfl
theorem r_183_4 (l1 l2 l3 : Value) (a : Nat) (st : List Value) (ws : ai_W) : ai_Run 183 4 [.ref a, l1, l2, l3] st ws = ai_Run 183 5 [.ref a, l1, l2, l3] (.ref a :: st) ws := R_aload_n hc_183 dX11_isRefused_4 rfl rfl
theorem r_183_5 (l0 l1 l3 : Value) (a : Int32) (st : List Value) (ws : ai_W) : ai_Run 183 5 [l0, l1, .int a, l3] st ws = ai_Run 183 6 [l0, l1, .int a, l3] (.int a :: st) ws := R_iload_n hc_183 dX11_isRefused_5 rfl rfl
theorem r_183_6 (ls st : List Value) (a : Nat) (x : Value) (ws : ai_W) : ai_Run 183 6 ls (x :: .ref a :: st) ws = (ai_fput ws a 11 5 x).bind fun ws => ai_Run 183 9 ls st ws := R_putf hc_183 dX11_isRefused_6 hv_183 (w := 1029) rfl rfl rfl
theorem r_183_9 (l1 l2 l3 : Value) (a : Nat) (st : List Value) (ws : ai_W) : ai_Run 183 9 [.ref a, l1, l2, l3] st ws = ai_Run 183 10 [.ref a, l1, l2, l3] (.ref a :: st) ws := R_aload_n hc_183 dX11_isRefused_9 rfl rfl
theorem r_183_10 (l0 l1 l2 : Value) (a : Int32) (st : List Value) (ws : ai_W) : ai_Run 183 10 [l0, l1, l2, .int a] st ws = ai_Run 183 11 [l0, l1, l2, .int a] (.int a :: st) ws := R_iload_n hc_183 dX11_isRefused_10 rfl rfl
theorem r_183_11 (ls st : List Value) (a : Nat) (x : Value) (ws : ai_W) : ai_Run 183 11 ls (x :: .ref a :: st) ws = (ai_fput ws a 11 6 x).bind fun ws => ai_Run 183 14 ls st ws := R_putf hc_183 dX11_isRefused_11 hv_183 (w := 1030) rfl rfl rfl
theorem r_183_14 (l1 l2 l3 : Value) (a : Nat) (st : List Value) (ws : ai_W) : ai_Run 183 14 [.ref a, l1, l2, l3] st ws = ai_Run 183 15 [.ref a, l1, l2, l3] (.ref a :: st) ws := R_aload_n hc_183 dX11_isRefused_14 rfl rfl
theorem r_183_15 (ls st : List Value) (ws : ai_W) : ai_Run 183 15 ls st ws = ai_Run 183 17 ls (.int (-4) :: st) ws := R_bipush hc_183 dX11_isRefused_15 (by decide) rfl
theorem r_183_17 (ls st : List Value) (a : Nat) (x : Value) (ws : ai_W) : ai_Run 183 17 ls (x :: .ref a :: st) ws = (ai_fput ws a 11 7 x).bind fun ws => ai_Run 183 20 ls st ws := R_putf hc_183 dX11_isRefused_17 hv_183 (w := 1031) rfl rfl rfl
theorem r_183_20 (l0 l2 l3 : Value) (a : Int32) (st : List Value) (ws : ai_W) : ai_Run 183 20 [l0, .int a, l2, l3] st ws = ai_Run 183 21 [l0, .int a, l2, l3] (.int a :: st) ws := R_iload_n hc_183 dX11_isRefused_20 rfl rfl
theorem r_183_21 (ls : List Value) (x : Int32) (ws : ai_W) : ai_Run 183 21 ls [.int x] ws = if ai_pb x = true then some (some (.int x), ws) else none := R_zret hc_183 dX11_isRefused_21 ht_183
theorem dX11_tellsAuthor_0 : decode cX11_tellsAuthor 0 = .ok (.aload_n 0, 1) := by decide +kernel
theorem dX11_tellsAuthor_1 : decode cX11_tellsAuthor 1 = .ok (.aload_n 0, 1) := by decide +kernel
theorem dX11_tellsAuthor_2 : decode cX11_tellsAuthor 2 = .ok (.getfield 9, 3) := by decide +kernel
theorem dX11_tellsAuthor_5 : decode cX11_tellsAuthor 5 = .ok (.iconst 1, 1) := by decide +kernel
theorem dX11_tellsAuthor_6 : decode cX11_tellsAuthor 6 = .ok (.iaload, 1) := by decide +kernel
theorem dX11_tellsAuthor_7 : decode cX11_tellsAuthor 7 = .ok (.iconst 4, 1) := by decide +kernel
theorem dX11_tellsAuthor_8 : decode cX11_tellsAuthor 8 = .ok (.if_icmp .ne 7, 3) := by decide +kernel
theorem dX11_tellsAuthor_11 : decode cX11_tellsAuthor 11 = .ok (.iconst 1, 1) := by decide +kernel
theorem dX11_tellsAuthor_12 : decode cX11_tellsAuthor 12 = .ok (.goto 4, 3) := by decide +kernel
theorem dX11_tellsAuthor_15 : decode cX11_tellsAuthor 15 = .ok (.iconst 0, 1) := by decide +kernel
theorem dX11_tellsAuthor_16 : decode cX11_tellsAuthor 16 = .ok (.iconst 1, 1) := by decide +kernel
theorem dX11_tellsAuthor_17 : decode cX11_tellsAuthor 17 = .ok (.iconst 4, 1) := by decide +kernel
theorem dX11_tellsAuthor_18 : decode cX11_tellsAuthor 18 = .ok (.invokevirtual 70, 3) := by decide +kernel
theorem dX11_tellsAuthor_21 : decode cX11_tellsAuthor 21 = .ok (.ifCond .eq 6, 3) := by decide +kernel
theorem dX11_tellsAuthor_24 : decode cX11_tellsAuthor 24 = .ok (.bipush (-3), 2) := by decide +kernel
theorem dX11_tellsAuthor_26 : decode cX11_tellsAuthor 26 = .ok (.ireturn, 1) := by decide +kernel
theorem dX11_tellsAuthor_27 : decode cX11_tellsAuthor 27 = .ok (.aload_n 0, 1) := by decide +kernel
theorem dX11_tellsAuthor_28 : decode cX11_tellsAuthor 28 = .ok (.getfield 9, 3) := by decide +kernel
theorem dX11_tellsAuthor_31 : decode cX11_tellsAuthor 31 = .ok (.iconst 1, 1) := by decide +kernel
theorem dX11_tellsAuthor_32 : decode cX11_tellsAuthor 32 = .ok (.dup2, 1) := by decide +kernel
theorem dX11_tellsAuthor_33 : decode cX11_tellsAuthor 33 = .ok (.iaload, 1) := by decide +kernel
theorem dX11_tellsAuthor_34 : decode cX11_tellsAuthor 34 = .ok (.iconst 1, 1) := by decide +kernel
theorem dX11_tellsAuthor_35 : decode cX11_tellsAuthor 35 = .ok (.iadd, 1) := by decide +kernel
theorem dX11_tellsAuthor_36 : decode cX11_tellsAuthor 36 = .ok (.iastore, 1) := by decide +kernel
theorem dX11_tellsAuthor_37 : decode cX11_tellsAuthor 37 = .ok (.aload_n 0, 1) := by decide +kernel
theorem dX11_tellsAuthor_38 : decode cX11_tellsAuthor 38 = .ok (.getfield 9, 3) := by decide +kernel
theorem dX11_tellsAuthor_41 : decode cX11_tellsAuthor 41 = .ok (.iconst 1, 1) := by decide +kernel
theorem dX11_tellsAuthor_42 : decode cX11_tellsAuthor 42 = .ok (.iaload, 1) := by decide +kernel
theorem dX11_tellsAuthor_43 : decode cX11_tellsAuthor 43 = .ok (.iconst 1, 1) := by decide +kernel
theorem dX11_tellsAuthor_44 : decode cX11_tellsAuthor 44 = .ok (.isub, 1) := by decide +kernel
theorem dX11_tellsAuthor_45 : decode cX11_tellsAuthor 45 = .ok (.ireturn, 1) := by decide +kernel
theorem e_184 (r : Nat)  (ws : ai_W) : ai_Call 184 [.ref r] ws = if ai_isob ws r 11 = true then ai_Run 184 0 [.ref r] [] ws else none := R_entV hk_184 ⟨⟨rfl, rfl⟩, Nat.le_of_ble_eq_true rfl⟩ rfl
theorem r_184_0 (a : Nat) (st : List Value) (ws : ai_W) : ai_Run 184 0 [.ref a] st ws = ai_Run 184 1 [.ref a] (.ref a :: st) ws := R_aload_n hc_184 dX11_tellsAuthor_0 rfl rfl
theorem r_184_1 (a : Nat) (st : List Value) (ws : ai_W) : ai_Run 184 1 [.ref a] st ws = ai_Run 184 2 [.ref a] (.ref a :: st) ws := R_aload_n hc_184 dX11_tellsAuthor_1 rfl rfl
theorem r_184_2 (ls st : List Value) (a : Nat) (ws : ai_W) : ai_Run 184 2 ls (.ref a :: st) ws = (ai_fget ws a 11 0).bind fun q => ai_Run 184 5 ls (q :: st) ws := R_getf hc_184 dX11_tellsAuthor_2 hv_184 (w := 1024) rfl rfl
theorem r_184_5 (ls st : List Value) (ws : ai_W) : ai_Run 184 5 ls st ws = ai_Run 184 6 ls (.int 1 :: st) ws := R_iconst hc_184 dX11_tellsAuthor_5 (by decide) rfl
theorem r_184_6 (ls st : List Value) (a : Nat) (i : Int32) (ws : ai_W) : ai_Run 184 6 ls (.int i :: .ref a :: st) ws = (ai_aget ws a i).bind fun q => ai_Run 184 7 ls (.int q :: st) ws := R_iaload hc_184 dX11_tellsAuthor_6 rfl
theorem r_184_7 (ls st : List Value) (ws : ai_W) : ai_Run 184 7 ls st ws = ai_Run 184 8 ls (.int 4 :: st) ws := R_iconst hc_184 dX11_tellsAuthor_7 (by decide) rfl
theorem r_184_8 (ls st : List Value) (a b : Int32) (ws : ai_W) : ai_Run 184 8 ls (.int b :: .int a :: st) ws = if a = b then ai_Run 184 11 ls st ws else ai_Run 184 15 ls st ws := R_cmp_ne hc_184 dX11_tellsAuthor_8 rfl rfl
theorem r_184_11 (ls st : List Value) (ws : ai_W) : ai_Run 184 11 ls st ws = ai_Run 184 12 ls (.int 1 :: st) ws := R_iconst hc_184 dX11_tellsAuthor_11 (by decide) rfl
theorem r_184_12 (ls st : List Value) (ws : ai_W) : ai_Run 184 12 ls st ws = ai_Run 184 16 ls st ws := R_goto hc_184 dX11_tellsAuthor_12 rfl
theorem r_184_15 (ls st : List Value) (ws : ai_W) : ai_Run 184 15 ls st ws = ai_Run 184 16 ls (.int 0 :: st) ws := R_iconst hc_184 dX11_tellsAuthor_15 (by decide) rfl
theorem r_184_16 (ls st : List Value) (ws : ai_W) : ai_Run 184 16 ls st ws = ai_Run 184 17 ls (.int 1 :: st) ws := R_iconst hc_184 dX11_tellsAuthor_16 (by decide) rfl
theorem r_184_17 (ls st : List Value) (ws : ai_W) : ai_Run 184 17 ls st ws = ai_Run 184 18 ls (.int 4 :: st) ws := R_iconst hc_184 dX11_tellsAuthor_17 (by decide) rfl
theorem r_184_18 (ls : List Value) (r : Nat) (b0 : Int32) (b1 : Int32) (b2 : Int32) (ws : ai_W) : ai_Run 184 18 ls [.int b2, .int b1, .int b0, .ref r] ws = (ai_Call 183 [.ref r, .int b0, .int b1, .int b2] ws).bind fun q => ai_Run 184 21 ls (q.1.toList ++ []) q.2 := R_callV hc_184 dX11_tellsAuthor_18 hv_184 (w := 1088) rfl (Nat.le_of_ble_eq_true rfl) hk_183 (by rw [hn_183]; rfl) rfl (Nat.le_of_ble_eq_true rfl) rfl
theorem r_184_21 (ls st : List Value) (a : Int32) (ws : ai_W) : ai_Run 184 21 ls (.int a :: st) ws = if a = 0 then ai_Run 184 27 ls st ws else ai_Run 184 24 ls st ws := R_if_eq hc_184 dX11_tellsAuthor_21 rfl rfl
theorem r_184_24 (ls st : List Value) (ws : ai_W) : ai_Run 184 24 ls st ws = ai_Run 184 26 ls (.int (-3) :: st) ws := R_bipush hc_184 dX11_tellsAuthor_24 (by decide) rfl
theorem r_184_26 (ls : List Value) (x : Int32) (ws : ai_W) : ai_Run 184 26 ls [.int x] ws = some (some (.int x), ws) := R_iret hc_184 dX11_tellsAuthor_26 ht_184
theorem r_184_27 (a : Nat) (st : List Value) (ws : ai_W) : ai_Run 184 27 [.ref a] st ws = ai_Run 184 28 [.ref a] (.ref a :: st) ws := R_aload_n hc_184 dX11_tellsAuthor_27 rfl rfl
theorem r_184_28 (ls st : List Value) (a : Nat) (ws : ai_W) : ai_Run 184 28 ls (.ref a :: st) ws = (ai_fget ws a 11 0).bind fun q => ai_Run 184 31 ls (q :: st) ws := R_getf hc_184 dX11_tellsAuthor_28 hv_184 (w := 1024) rfl rfl
theorem r_184_31 (ls st : List Value) (ws : ai_W) : ai_Run 184 31 ls st ws = ai_Run 184 32 ls (.int 1 :: st) ws := R_iconst hc_184 dX11_tellsAuthor_31 (by decide) rfl
theorem r_184_32 (ls st : List Value) (a : Nat) (i : Int32) (ws : ai_W) : ai_Run 184 32 ls (.int i :: .ref a :: st) ws = ai_Run 184 33 ls (.int i :: .ref a :: .int i :: .ref a :: st) ws := R_dup2 hc_184 dX11_tellsAuthor_32 rfl
theorem r_184_33 (ls st : List Value) (a : Nat) (i : Int32) (ws : ai_W) : ai_Run 184 33 ls (.int i :: .ref a :: st) ws = (ai_aget ws a i).bind fun q => ai_Run 184 34 ls (.int q :: st) ws := R_iaload hc_184 dX11_tellsAuthor_33 rfl
theorem r_184_34 (ls st : List Value) (ws : ai_W) : ai_Run 184 34 ls st ws = ai_Run 184 35 ls (.int 1 :: st) ws := R_iconst hc_184 dX11_tellsAuthor_34 (by decide) rfl
theorem r_184_35 (ls st : List Value) (a b : Int32) (ws : ai_W) : ai_Run 184 35 ls (.int b :: .int a :: st) ws = ai_Run 184 36 ls (.int (a + b) :: st) ws := R_iadd hc_184 dX11_tellsAuthor_35 rfl
theorem r_184_36 (ls st : List Value) (a : Nat) (i x : Int32) (ws : ai_W) : ai_Run 184 36 ls (.int x :: .int i :: .ref a :: st) ws = (ai_aset ws a i x).bind fun ws => ai_Run 184 37 ls st ws := R_iastore hc_184 dX11_tellsAuthor_36 rfl
theorem r_184_37 (a : Nat) (st : List Value) (ws : ai_W) : ai_Run 184 37 [.ref a] st ws = ai_Run 184 38 [.ref a] (.ref a :: st) ws := R_aload_n hc_184 dX11_tellsAuthor_37 rfl rfl
theorem r_184_38 (ls st : List Value) (a : Nat) (ws : ai_W) : ai_Run 184 38 ls (.ref a :: st) ws = (ai_fget ws a 11 0).bind fun q => ai_Run 184 41 ls (q :: st) ws := R_getf hc_184 dX11_tellsAuthor_38 hv_184 (w := 1024) rfl rfl
theorem r_184_41 (ls st : List Value) (ws : ai_W) : ai_Run 184 41 ls st ws = ai_Run 184 42 ls (.int 1 :: st) ws := R_iconst hc_184 dX11_tellsAuthor_41 (by decide) rfl
theorem r_184_42 (ls st : List Value) (a : Nat) (i : Int32) (ws : ai_W) : ai_Run 184 42 ls (.int i :: .ref a :: st) ws = (ai_aget ws a i).bind fun q => ai_Run 184 43 ls (.int q :: st) ws := R_iaload hc_184 dX11_tellsAuthor_42 rfl
theorem r_184_43 (ls st : List Value) (ws : ai_W) : ai_Run 184 43 ls st ws = ai_Run 184 44 ls (.int 1 :: st) ws := R_iconst hc_184 dX11_tellsAuthor_43 (by decide) rfl
theorem r_184_44 (ls st : List Value) (a b : Int32) (ws : ai_W) : ai_Run 184 44 ls (.int b :: .int a :: st) ws = ai_Run 184 45 ls (.int (a - b) :: st) ws := R_isub hc_184 dX11_tellsAuthor_44 rfl
theorem r_184_45 (ls : List Value) (x : Int32) (ws : ai_W) : ai_Run 184 45 ls [.int x] ws = some (some (.int x), ws) := R_iret hc_184 dX11_tellsAuthor_45 ht_184
theorem dX11_isError_0 : decode cX11_isError 0 = .ok (.iload_n 0, 1) := by decide +kernel
theorem dX11_isError_1 : decode cX11_isError 1 = .ok (.ifCond .ge 13, 3) := by decide +kernel
theorem dX11_isError_4 : decode cX11_isError 4 = .ok (.iload_n 0, 1) := by decide +kernel
theorem dX11_isError_5 : decode cX11_isError 5 = .ok (.bipush (-4), 2) := by decide +kernel
theorem dX11_isError_7 : decode cX11_isError 7 = .ok (.if_icmp .eq 7, 3) := by decide +kernel
theorem dX11_isError_10 : decode cX11_isError 10 = .ok (.iconst 1, 1) := by decide +kernel
theorem dX11_isError_11 : decode cX11_isError 11 = .ok (.goto 4, 3) := by decide +kernel
theorem dX11_isError_14 : decode cX11_isError 14 = .ok (.iconst 0, 1) := by decide +kernel
theorem dX11_isError_15 : decode cX11_isError 15 = .ok (.ireturn, 1) := by decide +kernel
theorem e_185 (a0 : Int32) (ws : ai_W) : ai_Call 185 [.int a0] ws = ai_Run 185 0 [.int a0] [] ws := R_entS hk_185 ⟨⟨rfl, rfl⟩, Nat.le_of_ble_eq_true rfl⟩ rfl
theorem r_185_0 (a : Int32) (st : List Value) (ws : ai_W) : ai_Run 185 0 [.int a] st ws = ai_Run 185 1 [.int a] (.int a :: st) ws := R_iload_n hc_185 dX11_isError_0 rfl rfl
theorem r_185_1 (ls st : List Value) (a : Int32) (ws : ai_W) : ai_Run 185 1 ls (.int a :: st) ws = if a < 0 then ai_Run 185 4 ls st ws else ai_Run 185 14 ls st ws := R_if_ge hc_185 dX11_isError_1 rfl rfl
theorem r_185_4 (a : Int32) (st : List Value) (ws : ai_W) : ai_Run 185 4 [.int a] st ws = ai_Run 185 5 [.int a] (.int a :: st) ws := R_iload_n hc_185 dX11_isError_4 rfl rfl
theorem r_185_5 (ls st : List Value) (ws : ai_W) : ai_Run 185 5 ls st ws = ai_Run 185 7 ls (.int (-4) :: st) ws := R_bipush hc_185 dX11_isError_5 (by decide) rfl
theorem r_185_7 (ls st : List Value) (a b : Int32) (ws : ai_W) : ai_Run 185 7 ls (.int b :: .int a :: st) ws = if a = b then ai_Run 185 14 ls st ws else ai_Run 185 10 ls st ws := R_cmp_eq hc_185 dX11_isError_7 rfl rfl
theorem r_185_10 (ls st : List Value) (ws : ai_W) : ai_Run 185 10 ls st ws = ai_Run 185 11 ls (.int 1 :: st) ws := R_iconst hc_185 dX11_isError_10 (by decide) rfl
theorem r_185_11 (ls st : List Value) (ws : ai_W) : ai_Run 185 11 ls st ws = ai_Run 185 15 ls st ws := R_goto hc_185 dX11_isError_11 rfl
theorem r_185_14 (ls st : List Value) (ws : ai_W) : ai_Run 185 14 ls st ws = ai_Run 185 15 ls (.int 0 :: st) ws := R_iconst hc_185 dX11_isError_14 (by decide) rfl
theorem r_185_15 (ls : List Value) (x : Int32) (ws : ai_W) : ai_Run 185 15 ls [.int x] ws = if ai_pb x = true then some (some (.int x), ws) else none := R_zret hc_185 dX11_isError_15 ht_185
theorem dX11_changed_0 : decode cX11_changed 0 = .ok (.aload_n 0, 1) := by decide +kernel
theorem dX11_changed_1 : decode cX11_changed 1 = .ok (.getfield 39, 3) := by decide +kernel
theorem dX11_changed_4 : decode cX11_changed 4 = .ok (.bipush 8, 2) := by decide +kernel
theorem dX11_changed_6 : decode cX11_changed 6 = .ok (.if_icmp .ne 50, 3) := by decide +kernel
theorem dX11_changed_9 : decode cX11_changed 9 = .ok (.iconst 1, 1) := by decide +kernel
theorem dX11_changed_10 : decode cX11_changed 10 = .ok (.istore_n 1, 1) := by decide +kernel
theorem dX11_changed_11 : decode cX11_changed 11 = .ok (.iload_n 1, 1) := by decide +kernel
theorem dX11_changed_12 : decode cX11_changed 12 = .ok (.bipush 8, 2) := by decide +kernel
theorem dX11_changed_14 : decode cX11_changed 14 = .ok (.if_icmp .ge 32, 3) := by decide +kernel
theorem dX11_changed_17 : decode cX11_changed 17 = .ok (.aload_n 0, 1) := by decide +kernel
theorem dX11_changed_18 : decode cX11_changed 18 = .ok (.getfield 19, 3) := by decide +kernel
theorem dX11_changed_21 : decode cX11_changed 21 = .ok (.sipush 189, 3) := by decide +kernel
theorem dX11_changed_24 : decode cX11_changed 24 = .ok (.iload_n 1, 1) := by decide +kernel
theorem dX11_changed_25 : decode cX11_changed 25 = .ok (.imul, 1) := by decide +kernel
theorem dX11_changed_26 : decode cX11_changed 26 = .ok (.aload_n 0, 1) := by decide +kernel
theorem dX11_changed_27 : decode cX11_changed 27 = .ok (.getfield 19, 3) := by decide +kernel
theorem dX11_changed_30 : decode cX11_changed 30 = .ok (.sipush 189, 3) := by decide +kernel
theorem dX11_changed_33 : decode cX11_changed 33 = .ok (.iload_n 1, 1) := by decide +kernel
theorem dX11_changed_34 : decode cX11_changed 34 = .ok (.iconst 1, 1) := by decide +kernel
theorem dX11_changed_35 : decode cX11_changed 35 = .ok (.isub, 1) := by decide +kernel
theorem dX11_changed_36 : decode cX11_changed 36 = .ok (.imul, 1) := by decide +kernel
theorem dX11_changed_37 : decode cX11_changed 37 = .ok (.invokestatic 35, 3) := by decide +kernel
theorem dX11_changed_40 : decode cX11_changed 40 = .ok (.iinc 1 1, 3) := by decide +kernel
theorem dX11_changed_43 : decode cX11_changed 43 = .ok (.goto (-32), 3) := by decide +kernel
theorem dX11_changed_46 : decode cX11_changed 46 = .ok (.aload_n 0, 1) := by decide +kernel
theorem dX11_changed_47 : decode cX11_changed 47 = .ok (.dup, 1) := by decide +kernel
theorem dX11_changed_48 : decode cX11_changed 48 = .ok (.getfield 39, 3) := by decide +kernel
theorem dX11_changed_51 : decode cX11_changed 51 = .ok (.iconst 1, 1) := by decide +kernel
theorem dX11_changed_52 : decode cX11_changed 52 = .ok (.isub, 1) := by decide +kernel
theorem dX11_changed_53 : decode cX11_changed 53 = .ok (.putfield 39, 3) := by decide +kernel
theorem dX11_changed_56 : decode cX11_changed 56 = .ok (.aload_n 0, 1) := by decide +kernel
theorem dX11_changed_57 : decode cX11_changed 57 = .ok (.getfield 13, 3) := by decide +kernel
theorem dX11_changed_60 : decode cX11_changed 60 = .ok (.iconst 0, 1) := by decide +kernel
theorem dX11_changed_61 : decode cX11_changed 61 = .ok (.aload_n 0, 1) := by decide +kernel
theorem dX11_changed_62 : decode cX11_changed 62 = .ok (.getfield 19, 3) := by decide +kernel
theorem dX11_changed_65 : decode cX11_changed 65 = .ok (.sipush 189, 3) := by decide +kernel
theorem dX11_changed_68 : decode cX11_changed 68 = .ok (.aload_n 0, 1) := by decide +kernel
theorem dX11_changed_69 : decode cX11_changed 69 = .ok (.getfield 39, 3) := by decide +kernel
theorem dX11_changed_72 : decode cX11_changed 72 = .ok (.imul, 1) := by decide +kernel
theorem dX11_changed_73 : decode cX11_changed 73 = .ok (.invokestatic 35, 3) := by decide +kernel
theorem dX11_changed_76 : decode cX11_changed 76 = .ok (.aload_n 0, 1) := by decide +kernel
theorem dX11_changed_77 : decode cX11_changed 77 = .ok (.dup, 1) := by decide +kernel
theorem dX11_changed_78 : decode cX11_changed 78 = .ok (.getfield 39, 3) := by decide +kernel
theorem dX11_changed_81 : decode cX11_changed 81 = .ok (.iconst 1, 1) := by decide +kernel
theorem dX11_changed_82 : decode cX11_changed 82 = .ok (.iadd, 1) := by decide +kernel
theorem dX11_changed_83 : decode cX11_changed 83 = .ok (.putfield 39, 3) := by decide +kernel
theorem dX11_changed_86 : decode cX11_changed 86 = .ok (.return_, 1) := by decide +kernel
theorem e_186 (r : Nat)  (ws : ai_W) : ai_Call 186 [.ref r] ws = if ai_isob ws r 11 = true then ai_Run 186 0 [.ref r, .null] [] ws else none := R_entV hk_186 ⟨⟨rfl, rfl⟩, Nat.le_of_ble_eq_true rfl⟩ rfl
theorem r_186_0 (l1 : Value) (a : Nat) (st : List Value) (ws : ai_W) : ai_Run 186 0 [.ref a, l1] st ws = ai_Run 186 1 [.ref a, l1] (.ref a :: st) ws := R_aload_n hc_186 dX11_changed_0 rfl rfl
theorem r_186_1 (ls st : List Value) (a : Nat) (ws : ai_W) : ai_Run 186 1 ls (.ref a :: st) ws = (ai_fget ws a 11 4).bind fun q => ai_Run 186 4 ls (q :: st) ws := R_getf hc_186 dX11_changed_1 hv_186 (w := 1028) rfl rfl
theorem r_186_4 (ls st : List Value) (ws : ai_W) : ai_Run 186 4 ls st ws = ai_Run 186 6 ls (.int 8 :: st) ws := R_bipush hc_186 dX11_changed_4 (by decide) rfl
theorem r_186_6 (ls st : List Value) (a b : Int32) (ws : ai_W) : ai_Run 186 6 ls (.int b :: .int a :: st) ws = if a = b then ai_Run 186 9 ls st ws else ai_Run 186 56 ls st ws := R_cmp_ne hc_186 dX11_changed_6 rfl rfl
theorem r_186_9 (ls st : List Value) (ws : ai_W) : ai_Run 186 9 ls st ws = ai_Run 186 10 ls (.int 1 :: st) ws := R_iconst hc_186 dX11_changed_9 (by decide) rfl
theorem r_186_10 (l0 l1 : Value) (a : Int32) (st : List Value) (ws : ai_W) : ai_Run 186 10 [l0, l1] (.int a :: st) ws = ai_Run 186 11 [l0, .int a] st ws := R_istore_n hc_186 dX11_changed_10 (Nat.le_of_ble_eq_true rfl) rfl rfl
theorem r_186_11 (l0 : Value) (a : Int32) (st : List Value) (ws : ai_W) : ai_Run 186 11 [l0, .int a] st ws = ai_Run 186 12 [l0, .int a] (.int a :: st) ws := R_iload_n hc_186 dX11_changed_11 rfl rfl
theorem r_186_12 (ls st : List Value) (ws : ai_W) : ai_Run 186 12 ls st ws = ai_Run 186 14 ls (.int 8 :: st) ws := R_bipush hc_186 dX11_changed_12 (by decide) rfl
theorem r_186_14 (ls st : List Value) (a b : Int32) (ws : ai_W) : ai_Run 186 14 ls (.int b :: .int a :: st) ws = if a < b then ai_Run 186 17 ls st ws else ai_Run 186 46 ls st ws := R_cmp_ge hc_186 dX11_changed_14 rfl rfl
theorem r_186_17 (l1 : Value) (a : Nat) (st : List Value) (ws : ai_W) : ai_Run 186 17 [.ref a, l1] st ws = ai_Run 186 18 [.ref a, l1] (.ref a :: st) ws := R_aload_n hc_186 dX11_changed_17 rfl rfl
theorem r_186_18 (ls st : List Value) (a : Nat) (ws : ai_W) : ai_Run 186 18 ls (.ref a :: st) ws = (ai_fget ws a 11 3).bind fun q => ai_Run 186 21 ls (q :: st) ws := R_getf hc_186 dX11_changed_18 hv_186 (w := 1027) rfl rfl
theorem r_186_21 (ls st : List Value) (ws : ai_W) : ai_Run 186 21 ls st ws = ai_Run 186 24 ls (.int 189 :: st) ws := R_sipush hc_186 dX11_changed_21 (by decide) rfl
theorem r_186_24 (l0 : Value) (a : Int32) (st : List Value) (ws : ai_W) : ai_Run 186 24 [l0, .int a] st ws = ai_Run 186 25 [l0, .int a] (.int a :: st) ws := R_iload_n hc_186 dX11_changed_24 rfl rfl
theorem r_186_25 (ls st : List Value) (a b : Int32) (ws : ai_W) : ai_Run 186 25 ls (.int b :: .int a :: st) ws = ai_Run 186 26 ls (.int (a * b) :: st) ws := R_imul hc_186 dX11_changed_25 rfl
theorem r_186_26 (l1 : Value) (a : Nat) (st : List Value) (ws : ai_W) : ai_Run 186 26 [.ref a, l1] st ws = ai_Run 186 27 [.ref a, l1] (.ref a :: st) ws := R_aload_n hc_186 dX11_changed_26 rfl rfl
theorem r_186_27 (ls st : List Value) (a : Nat) (ws : ai_W) : ai_Run 186 27 ls (.ref a :: st) ws = (ai_fget ws a 11 3).bind fun q => ai_Run 186 30 ls (q :: st) ws := R_getf hc_186 dX11_changed_27 hv_186 (w := 1027) rfl rfl
theorem r_186_30 (ls st : List Value) (ws : ai_W) : ai_Run 186 30 ls st ws = ai_Run 186 33 ls (.int 189 :: st) ws := R_sipush hc_186 dX11_changed_30 (by decide) rfl
theorem r_186_33 (l0 : Value) (a : Int32) (st : List Value) (ws : ai_W) : ai_Run 186 33 [l0, .int a] st ws = ai_Run 186 34 [l0, .int a] (.int a :: st) ws := R_iload_n hc_186 dX11_changed_33 rfl rfl
theorem r_186_34 (ls st : List Value) (ws : ai_W) : ai_Run 186 34 ls st ws = ai_Run 186 35 ls (.int 1 :: st) ws := R_iconst hc_186 dX11_changed_34 (by decide) rfl
theorem r_186_35 (ls st : List Value) (a b : Int32) (ws : ai_W) : ai_Run 186 35 ls (.int b :: .int a :: st) ws = ai_Run 186 36 ls (.int (a - b) :: st) ws := R_isub hc_186 dX11_changed_35 rfl
theorem r_186_36 (ls st : List Value) (a b : Int32) (ws : ai_W) : ai_Run 186 36 ls (.int b :: .int a :: st) ws = ai_Run 186 37 ls (.int (a * b) :: st) ws := R_imul hc_186 dX11_changed_36 rfl
theorem r_186_37 (ls : List Value) (b0 : Nat) (b1 : Int32) (b2 : Nat) (b3 : Int32) (ws : ai_W) : ai_Run 186 37 ls [.int b3, .ref b2, .int b1, .ref b0] ws = (ai_Call 181 [.ref b0, .int b1, .ref b2, .int b3] ws).bind fun q => ai_Run 186 40 ls (q.1.toList ++ []) q.2 := R_callS hc_186 dX11_changed_37 hv_186 (w := 1081) rfl (Nat.le_of_ble_eq_true rfl) hk_181 (by rw [hn_181]; rfl) rfl (Nat.le_of_ble_eq_true rfl) rfl
theorem r_186_40 (l0 : Value) (a : Int32) (st : List Value) (ws : ai_W) : ai_Run 186 40 [l0, .int a] st ws = ai_Run 186 43 [l0, .int (a + 1)] st ws := R_iinc hc_186 dX11_changed_40 rfl (by decide) rfl rfl
theorem r_186_43 (ls st : List Value) (ws : ai_W) : ai_Run 186 43 ls st ws = ai_Run 186 11 ls st ws := R_goto hc_186 dX11_changed_43 rfl
theorem r_186_46 (l1 : Value) (a : Nat) (st : List Value) (ws : ai_W) : ai_Run 186 46 [.ref a, l1] st ws = ai_Run 186 47 [.ref a, l1] (.ref a :: st) ws := R_aload_n hc_186 dX11_changed_46 rfl rfl
theorem r_186_47 (ls st : List Value) (a : Nat) (ws : ai_W) : ai_Run 186 47 ls (.ref a :: st) ws = ai_Run 186 48 ls (.ref a :: .ref a :: st) ws := R_dup hc_186 dX11_changed_47 rfl
theorem r_186_48 (ls st : List Value) (a : Nat) (ws : ai_W) : ai_Run 186 48 ls (.ref a :: st) ws = (ai_fget ws a 11 4).bind fun q => ai_Run 186 51 ls (q :: st) ws := R_getf hc_186 dX11_changed_48 hv_186 (w := 1028) rfl rfl
theorem r_186_51 (ls st : List Value) (ws : ai_W) : ai_Run 186 51 ls st ws = ai_Run 186 52 ls (.int 1 :: st) ws := R_iconst hc_186 dX11_changed_51 (by decide) rfl
theorem r_186_52 (ls st : List Value) (a b : Int32) (ws : ai_W) : ai_Run 186 52 ls (.int b :: .int a :: st) ws = ai_Run 186 53 ls (.int (a - b) :: st) ws := R_isub hc_186 dX11_changed_52 rfl
theorem r_186_53 (ls st : List Value) (a : Nat) (x : Value) (ws : ai_W) : ai_Run 186 53 ls (x :: .ref a :: st) ws = (ai_fput ws a 11 4 x).bind fun ws => ai_Run 186 56 ls st ws := R_putf hc_186 dX11_changed_53 hv_186 (w := 1028) rfl rfl rfl
theorem r_186_56 (l1 : Value) (a : Nat) (st : List Value) (ws : ai_W) : ai_Run 186 56 [.ref a, l1] st ws = ai_Run 186 57 [.ref a, l1] (.ref a :: st) ws := R_aload_n hc_186 dX11_changed_56 rfl rfl
theorem r_186_57 (ls st : List Value) (a : Nat) (ws : ai_W) : ai_Run 186 57 ls (.ref a :: st) ws = (ai_fget ws a 11 1).bind fun q => ai_Run 186 60 ls (q :: st) ws := R_getf hc_186 dX11_changed_57 hv_186 (w := 1025) rfl rfl
theorem r_186_60 (ls st : List Value) (ws : ai_W) : ai_Run 186 60 ls st ws = ai_Run 186 61 ls (.int 0 :: st) ws := R_iconst hc_186 dX11_changed_60 (by decide) rfl
theorem r_186_61 (l1 : Value) (a : Nat) (st : List Value) (ws : ai_W) : ai_Run 186 61 [.ref a, l1] st ws = ai_Run 186 62 [.ref a, l1] (.ref a :: st) ws := R_aload_n hc_186 dX11_changed_61 rfl rfl
theorem r_186_62 (ls st : List Value) (a : Nat) (ws : ai_W) : ai_Run 186 62 ls (.ref a :: st) ws = (ai_fget ws a 11 3).bind fun q => ai_Run 186 65 ls (q :: st) ws := R_getf hc_186 dX11_changed_62 hv_186 (w := 1027) rfl rfl
theorem r_186_65 (ls st : List Value) (ws : ai_W) : ai_Run 186 65 ls st ws = ai_Run 186 68 ls (.int 189 :: st) ws := R_sipush hc_186 dX11_changed_65 (by decide) rfl
theorem r_186_68 (l1 : Value) (a : Nat) (st : List Value) (ws : ai_W) : ai_Run 186 68 [.ref a, l1] st ws = ai_Run 186 69 [.ref a, l1] (.ref a :: st) ws := R_aload_n hc_186 dX11_changed_68 rfl rfl
theorem r_186_69 (ls st : List Value) (a : Nat) (ws : ai_W) : ai_Run 186 69 ls (.ref a :: st) ws = (ai_fget ws a 11 4).bind fun q => ai_Run 186 72 ls (q :: st) ws := R_getf hc_186 dX11_changed_69 hv_186 (w := 1028) rfl rfl
theorem r_186_72 (ls st : List Value) (a b : Int32) (ws : ai_W) : ai_Run 186 72 ls (.int b :: .int a :: st) ws = ai_Run 186 73 ls (.int (a * b) :: st) ws := R_imul hc_186 dX11_changed_72 rfl
theorem r_186_73 (ls : List Value) (b0 : Nat) (b1 : Int32) (b2 : Nat) (b3 : Int32) (ws : ai_W) : ai_Run 186 73 ls [.int b3, .ref b2, .int b1, .ref b0] ws = (ai_Call 181 [.ref b0, .int b1, .ref b2, .int b3] ws).bind fun q => ai_Run 186 76 ls (q.1.toList ++ []) q.2 := R_callS hc_186 dX11_changed_73 hv_186 (w := 1081) rfl (Nat.le_of_ble_eq_true rfl) hk_181 (by rw [hn_181]; rfl) rfl (Nat.le_of_ble_eq_true rfl) rfl
theorem r_186_76 (l1 : Value) (a : Nat) (st : List Value) (ws : ai_W) : ai_Run 186 76 [.ref a, l1] st ws = ai_Run 186 77 [.ref a, l1] (.ref a :: st) ws := R_aload_n hc_186 dX11_changed_76 rfl rfl
theorem r_186_77 (ls st : List Value) (a : Nat) (ws : ai_W) : ai_Run 186 77 ls (.ref a :: st) ws = ai_Run 186 78 ls (.ref a :: .ref a :: st) ws := R_dup hc_186 dX11_changed_77 rfl
theorem r_186_78 (ls st : List Value) (a : Nat) (ws : ai_W) : ai_Run 186 78 ls (.ref a :: st) ws = (ai_fget ws a 11 4).bind fun q => ai_Run 186 81 ls (q :: st) ws := R_getf hc_186 dX11_changed_78 hv_186 (w := 1028) rfl rfl
theorem r_186_81 (ls st : List Value) (ws : ai_W) : ai_Run 186 81 ls st ws = ai_Run 186 82 ls (.int 1 :: st) ws := R_iconst hc_186 dX11_changed_81 (by decide) rfl
theorem r_186_82 (ls st : List Value) (a b : Int32) (ws : ai_W) : ai_Run 186 82 ls (.int b :: .int a :: st) ws = ai_Run 186 83 ls (.int (a + b) :: st) ws := R_iadd hc_186 dX11_changed_82 rfl
theorem r_186_83 (ls st : List Value) (a : Nat) (x : Value) (ws : ai_W) : ai_Run 186 83 ls (x :: .ref a :: st) ws = (ai_fput ws a 11 4 x).bind fun ws => ai_Run 186 86 ls st ws := R_putf hc_186 dX11_changed_83 hv_186 (w := 1028) rfl rfl rfl
theorem r_186_86 (ls : List Value) (ws : ai_W) : ai_Run 186 86 ls [] ws = some (none, ws) := R_vret hc_186 dX11_changed_86 ht_186
theorem dX11_ends_0 : decode cX11_ends 0 = .ok (.iload_n 1, 1) := by decide +kernel
theorem dX11_ends_1 : decode cX11_ends 1 = .ok (.invokestatic 42, 3) := by decide +kernel
theorem dX11_ends_4 : decode cX11_ends 4 = .ok (.ifCond .ne 7, 3) := by decide +kernel
theorem dX11_ends_7 : decode cX11_ends 7 = .ok (.aload_n 0, 1) := by decide +kernel
theorem dX11_ends_8 : decode cX11_ends 8 = .ok (.invokevirtual 46, 3) := by decide +kernel
theorem dX11_ends_11 : decode cX11_ends 11 = .ok (.iload_n 1, 1) := by decide +kernel
theorem dX11_ends_12 : decode cX11_ends 12 = .ok (.ireturn, 1) := by decide +kernel
theorem e_187 (r : Nat) (a0 : Int32) (ws : ai_W) : ai_Call 187 [.ref r, .int a0] ws = if ai_isob ws r 11 = true then ai_Run 187 0 [.ref r, .int a0] [] ws else none := R_entV hk_187 ⟨⟨rfl, rfl⟩, Nat.le_of_ble_eq_true rfl⟩ rfl
theorem r_187_0 (l0 : Value) (a : Int32) (st : List Value) (ws : ai_W) : ai_Run 187 0 [l0, .int a] st ws = ai_Run 187 1 [l0, .int a] (.int a :: st) ws := R_iload_n hc_187 dX11_ends_0 rfl rfl
theorem r_187_1 (ls : List Value) (b0 : Int32) (ws : ai_W) : ai_Run 187 1 ls [.int b0] ws = (ai_Call 185 [.int b0] ws).bind fun q => ai_Run 187 4 ls (q.1.toList ++ []) q.2 := R_callS hc_187 dX11_ends_1 hv_187 (w := 1100) rfl (Nat.le_of_ble_eq_true rfl) hk_185 (by rw [hn_185]; rfl) rfl (Nat.le_of_ble_eq_true rfl) rfl
theorem r_187_4 (ls st : List Value) (a : Int32) (ws : ai_W) : ai_Run 187 4 ls (.int a :: st) ws = if a = 0 then ai_Run 187 7 ls st ws else ai_Run 187 11 ls st ws := R_if_ne hc_187 dX11_ends_4 rfl rfl
theorem r_187_7 (l1 : Value) (a : Nat) (st : List Value) (ws : ai_W) : ai_Run 187 7 [.ref a, l1] st ws = ai_Run 187 8 [.ref a, l1] (.ref a :: st) ws := R_aload_n hc_187 dX11_ends_7 rfl rfl
theorem r_187_8 (ls : List Value) (r : Nat) (ws : ai_W) : ai_Run 187 8 ls [.ref r] ws = (ai_Call 186 [.ref r] ws).bind fun q => ai_Run 187 11 ls (q.1.toList ++ []) q.2 := R_callV hc_187 dX11_ends_8 hv_187 (w := 1103) rfl (Nat.le_of_ble_eq_true rfl) hk_186 (by rw [hn_186]; rfl) rfl (Nat.le_of_ble_eq_true rfl) rfl
theorem r_187_11 (l0 : Value) (a : Int32) (st : List Value) (ws : ai_W) : ai_Run 187 11 [l0, .int a] st ws = ai_Run 187 12 [l0, .int a] (.int a :: st) ws := R_iload_n hc_187 dX11_ends_11 rfl rfl
theorem r_187_12 (ls : List Value) (x : Int32) (ws : ai_W) : ai_Run 187 12 ls [.int x] ws = some (some (.int x), ws) := R_iret hc_187 dX11_ends_12 ht_187
theorem dX11_author_0 : decode cX11_author 0 = .ok (.aload_n 0, 1) := by decide +kernel
theorem dX11_author_1 : decode cX11_author 1 = .ok (.invokevirtual 78, 3) := by decide +kernel
theorem dX11_author_4 : decode cX11_author 4 = .ok (.aload_n 0, 1) := by decide +kernel
theorem dX11_author_5 : decode cX11_author 5 = .ok (.aload_n 0, 1) := by decide +kernel
theorem dX11_author_6 : decode cX11_author 6 = .ok (.invokevirtual 88, 3) := by decide +kernel
theorem dX11_author_9 : decode cX11_author 9 = .ok (.invokevirtual 85, 3) := by decide +kernel
theorem dX11_author_12 : decode cX11_author 12 = .ok (.ireturn, 1) := by decide +kernel
theorem e_188 (r : Nat)  (ws : ai_W) : ai_Call 188 [.ref r] ws = if ai_isob ws r 11 = true then ai_Run 188 0 [.ref r] [] ws else none := R_entV hk_188 ⟨⟨rfl, rfl⟩, Nat.le_of_ble_eq_true rfl⟩ rfl
theorem r_188_0 (a : Nat) (st : List Value) (ws : ai_W) : ai_Run 188 0 [.ref a] st ws = ai_Run 188 1 [.ref a] (.ref a :: st) ws := R_aload_n hc_188 dX11_author_0 rfl rfl
theorem r_188_1 (ls : List Value) (r : Nat) (ws : ai_W) : ai_Run 188 1 ls [.ref r] ws = (ai_Call 182 [.ref r] ws).bind fun q => ai_Run 188 4 ls (q.1.toList ++ []) q.2 := R_callV hc_188 dX11_author_1 hv_188 (w := 1077) rfl (Nat.le_of_ble_eq_true rfl) hk_182 (by rw [hn_182]; rfl) rfl (Nat.le_of_ble_eq_true rfl) rfl
theorem r_188_4 (a : Nat) (st : List Value) (ws : ai_W) : ai_Run 188 4 [.ref a] st ws = ai_Run 188 5 [.ref a] (.ref a :: st) ws := R_aload_n hc_188 dX11_author_4 rfl rfl
theorem r_188_5 (a : Nat) (st : List Value) (ws : ai_W) : ai_Run 188 5 [.ref a] st ws = ai_Run 188 6 [.ref a] (.ref a :: st) ws := R_aload_n hc_188 dX11_author_5 rfl rfl
theorem r_188_6 (ls : List Value) (r : Nat) (s0 : Value) (ws : ai_W) : ai_Run 188 6 ls [.ref r, s0] ws = (ai_Call 184 [.ref r] ws).bind fun q => ai_Run 188 9 ls (q.1.toList ++ [s0]) q.2 := R_callV hc_188 dX11_author_6 hv_188 (w := 1111) rfl (Nat.le_of_ble_eq_true rfl) hk_184 (by rw [hn_184]; rfl) rfl (Nat.le_of_ble_eq_true rfl) rfl
theorem r_188_9 (ls : List Value) (r : Nat) (b0 : Int32) (ws : ai_W) : ai_Run 188 9 ls [.int b0, .ref r] ws = (ai_Call 187 [.ref r, .int b0] ws).bind fun q => ai_Run 188 12 ls (q.1.toList ++ []) q.2 := R_callV hc_188 dX11_author_9 hv_188 (w := 1096) rfl (Nat.le_of_ble_eq_true rfl) hk_187 (by rw [hn_187]; rfl) rfl (Nat.le_of_ble_eq_true rfl) rfl
theorem r_188_12 (ls : List Value) (x : Int32) (ws : ai_W) : ai_Run 188 12 ls [.int x] ws = some (some (.int x), ws) := R_iret hc_188 dX11_author_12 ht_188
theorem dX11_isAuthor_0 : decode cX11_isAuthor 0 = .ok (.iload_n 1, 1) := by decide +kernel
theorem dX11_isAuthor_1 : decode cX11_isAuthor 1 = .ok (.iconst 0, 1) := by decide +kernel
theorem dX11_isAuthor_2 : decode cX11_isAuthor 2 = .ok (.aload_n 0, 1) := by decide +kernel
theorem dX11_isAuthor_3 : decode cX11_isAuthor 3 = .ok (.getfield 9, 3) := by decide +kernel
theorem dX11_isAuthor_6 : decode cX11_isAuthor 6 = .ok (.iconst 1, 1) := by decide +kernel
theorem dX11_isAuthor_7 : decode cX11_isAuthor 7 = .ok (.iaload, 1) := by decide +kernel
theorem dX11_isAuthor_8 : decode cX11_isAuthor 8 = .ok (.iconst 1, 1) := by decide +kernel
theorem dX11_isAuthor_9 : decode cX11_isAuthor 9 = .ok (.isub, 1) := by decide +kernel
theorem dX11_isAuthor_10 : decode cX11_isAuthor 10 = .ok (.invokestatic 55, 3) := by decide +kernel
theorem dX11_isAuthor_13 : decode cX11_isAuthor 13 = .ok (.ireturn, 1) := by decide +kernel
theorem e_189 (r : Nat) (a0 : Int32) (ws : ai_W) : ai_Call 189 [.ref r, .int a0] ws = if ai_isob ws r 11 = true then ai_Run 189 0 [.ref r, .int a0] [] ws else none := R_entV hk_189 ⟨⟨rfl, rfl⟩, Nat.le_of_ble_eq_true rfl⟩ rfl
theorem r_189_0 (l0 : Value) (a : Int32) (st : List Value) (ws : ai_W) : ai_Run 189 0 [l0, .int a] st ws = ai_Run 189 1 [l0, .int a] (.int a :: st) ws := R_iload_n hc_189 dX11_isAuthor_0 rfl rfl
theorem r_189_1 (ls st : List Value) (ws : ai_W) : ai_Run 189 1 ls st ws = ai_Run 189 2 ls (.int 0 :: st) ws := R_iconst hc_189 dX11_isAuthor_1 (by decide) rfl
theorem r_189_2 (l1 : Value) (a : Nat) (st : List Value) (ws : ai_W) : ai_Run 189 2 [.ref a, l1] st ws = ai_Run 189 3 [.ref a, l1] (.ref a :: st) ws := R_aload_n hc_189 dX11_isAuthor_2 rfl rfl
theorem r_189_3 (ls st : List Value) (a : Nat) (ws : ai_W) : ai_Run 189 3 ls (.ref a :: st) ws = (ai_fget ws a 11 0).bind fun q => ai_Run 189 6 ls (q :: st) ws := R_getf hc_189 dX11_isAuthor_3 hv_189 (w := 1024) rfl rfl
theorem r_189_6 (ls st : List Value) (ws : ai_W) : ai_Run 189 6 ls st ws = ai_Run 189 7 ls (.int 1 :: st) ws := R_iconst hc_189 dX11_isAuthor_6 (by decide) rfl
theorem r_189_7 (ls st : List Value) (a : Nat) (i : Int32) (ws : ai_W) : ai_Run 189 7 ls (.int i :: .ref a :: st) ws = (ai_aget ws a i).bind fun q => ai_Run 189 8 ls (.int q :: st) ws := R_iaload hc_189 dX11_isAuthor_7 rfl
theorem r_189_8 (ls st : List Value) (ws : ai_W) : ai_Run 189 8 ls st ws = ai_Run 189 9 ls (.int 1 :: st) ws := R_iconst hc_189 dX11_isAuthor_8 (by decide) rfl
theorem r_189_9 (ls st : List Value) (a b : Int32) (ws : ai_W) : ai_Run 189 9 ls (.int b :: .int a :: st) ws = ai_Run 189 10 ls (.int (a - b) :: st) ws := R_isub hc_189 dX11_isAuthor_9 rfl
theorem r_189_10 (ls : List Value) (b0 : Int32) (b1 : Int32) (b2 : Int32) (ws : ai_W) : ai_Run 189 10 ls [.int b2, .int b1, .int b0] ws = (ai_Call 179 [.int b0, .int b1, .int b2] ws).bind fun q => ai_Run 189 13 ls (q.1.toList ++ []) q.2 := R_callS hc_189 dX11_isAuthor_10 hv_189 (w := 1127) rfl (Nat.le_of_ble_eq_true rfl) hk_179 (by rw [hn_179]; rfl) rfl (Nat.le_of_ble_eq_true rfl) rfl
theorem r_189_13 (ls : List Value) (x : Int32) (ws : ai_W) : ai_Run 189 13 ls [.int x] ws = if ai_pb x = true then some (some (.int x), ws) else none := R_zret hc_189 dX11_isAuthor_13 ht_189
theorem dX11_chaptersBy_0 : decode cX11_chaptersBy 0 = .ok (.iconst 0, 1) := by decide +kernel
theorem dX11_chaptersBy_1 : decode cX11_chaptersBy 1 = .ok (.istore_n 2, 1) := by decide +kernel
theorem dX11_chaptersBy_2 : decode cX11_chaptersBy 2 = .ok (.iconst 1, 1) := by decide +kernel
theorem dX11_chaptersBy_3 : decode cX11_chaptersBy 3 = .ok (.istore_n 3, 1) := by decide +kernel
theorem dX11_chaptersBy_4 : decode cX11_chaptersBy 4 = .ok (.iload_n 3, 1) := by decide +kernel
theorem dX11_chaptersBy_5 : decode cX11_chaptersBy 5 = .ok (.bipush 30, 2) := by decide +kernel
theorem dX11_chaptersBy_7 : decode cX11_chaptersBy 7 = .ok (.if_icmp .gt 29, 3) := by decide +kernel
theorem dX11_chaptersBy_10 : decode cX11_chaptersBy 10 = .ok (.iload_n 2, 1) := by decide +kernel
theorem dX11_chaptersBy_11 : decode cX11_chaptersBy 11 = .ok (.aload_n 0, 1) := by decide +kernel
theorem dX11_chaptersBy_12 : decode cX11_chaptersBy 12 = .ok (.getfield 9, 3) := by decide +kernel
theorem dX11_chaptersBy_15 : decode cX11_chaptersBy 15 = .ok (.iconst 3, 1) := by decide +kernel
theorem dX11_chaptersBy_16 : decode cX11_chaptersBy 16 = .ok (.iload_n 3, 1) := by decide +kernel
theorem dX11_chaptersBy_17 : decode cX11_chaptersBy 17 = .ok (.iadd, 1) := by decide +kernel
theorem dX11_chaptersBy_18 : decode cX11_chaptersBy 18 = .ok (.iaload, 1) := by decide +kernel
theorem dX11_chaptersBy_19 : decode cX11_chaptersBy 19 = .ok (.iload_n 1, 1) := by decide +kernel
theorem dX11_chaptersBy_20 : decode cX11_chaptersBy 20 = .ok (.if_icmp .ne 7, 3) := by decide +kernel
theorem dX11_chaptersBy_23 : decode cX11_chaptersBy 23 = .ok (.iconst 1, 1) := by decide +kernel
theorem dX11_chaptersBy_24 : decode cX11_chaptersBy 24 = .ok (.goto 4, 3) := by decide +kernel
theorem dX11_chaptersBy_27 : decode cX11_chaptersBy 27 = .ok (.iconst 0, 1) := by decide +kernel
theorem dX11_chaptersBy_28 : decode cX11_chaptersBy 28 = .ok (.iadd, 1) := by decide +kernel
theorem dX11_chaptersBy_29 : decode cX11_chaptersBy 29 = .ok (.istore_n 2, 1) := by decide +kernel
theorem dX11_chaptersBy_30 : decode cX11_chaptersBy 30 = .ok (.iinc 3 1, 3) := by decide +kernel
theorem dX11_chaptersBy_33 : decode cX11_chaptersBy 33 = .ok (.goto (-29), 3) := by decide +kernel
theorem dX11_chaptersBy_36 : decode cX11_chaptersBy 36 = .ok (.iload_n 2, 1) := by decide +kernel
theorem dX11_chaptersBy_37 : decode cX11_chaptersBy 37 = .ok (.ireturn, 1) := by decide +kernel
theorem e_190 (r : Nat) (a0 : Int32) (ws : ai_W) : ai_Call 190 [.ref r, .int a0] ws = if ai_isob ws r 11 = true then ai_Run 190 0 [.ref r, .int a0, .null, .null] [] ws else none := R_entV hk_190 ⟨⟨rfl, rfl⟩, Nat.le_of_ble_eq_true rfl⟩ rfl
theorem r_190_0 (ls st : List Value) (ws : ai_W) : ai_Run 190 0 ls st ws = ai_Run 190 1 ls (.int 0 :: st) ws := R_iconst hc_190 dX11_chaptersBy_0 (by decide) rfl
theorem r_190_1 (l0 l1 l2 l3 : Value) (a : Int32) (st : List Value) (ws : ai_W) : ai_Run 190 1 [l0, l1, l2, l3] (.int a :: st) ws = ai_Run 190 2 [l0, l1, .int a, l3] st ws := R_istore_n hc_190 dX11_chaptersBy_1 (Nat.le_of_ble_eq_true rfl) rfl rfl
theorem r_190_2 (ls st : List Value) (ws : ai_W) : ai_Run 190 2 ls st ws = ai_Run 190 3 ls (.int 1 :: st) ws := R_iconst hc_190 dX11_chaptersBy_2 (by decide) rfl
theorem r_190_3 (l0 l1 l2 l3 : Value) (a : Int32) (st : List Value) (ws : ai_W) : ai_Run 190 3 [l0, l1, l2, l3] (.int a :: st) ws = ai_Run 190 4 [l0, l1, l2, .int a] st ws := R_istore_n hc_190 dX11_chaptersBy_3 (Nat.le_of_ble_eq_true rfl) rfl rfl
theorem r_190_4 (l0 l1 l2 : Value) (a : Int32) (st : List Value) (ws : ai_W) : ai_Run 190 4 [l0, l1, l2, .int a] st ws = ai_Run 190 5 [l0, l1, l2, .int a] (.int a :: st) ws := R_iload_n hc_190 dX11_chaptersBy_4 rfl rfl
theorem r_190_5 (ls st : List Value) (ws : ai_W) : ai_Run 190 5 ls st ws = ai_Run 190 7 ls (.int 30 :: st) ws := R_bipush hc_190 dX11_chaptersBy_5 (by decide) rfl
theorem r_190_7 (ls st : List Value) (a b : Int32) (ws : ai_W) : ai_Run 190 7 ls (.int b :: .int a :: st) ws = if b < a then ai_Run 190 36 ls st ws else ai_Run 190 10 ls st ws := R_cmp_gt hc_190 dX11_chaptersBy_7 rfl rfl
theorem r_190_10 (l0 l1 l3 : Value) (a : Int32) (st : List Value) (ws : ai_W) : ai_Run 190 10 [l0, l1, .int a, l3] st ws = ai_Run 190 11 [l0, l1, .int a, l3] (.int a :: st) ws := R_iload_n hc_190 dX11_chaptersBy_10 rfl rfl
theorem r_190_11 (l1 l2 l3 : Value) (a : Nat) (st : List Value) (ws : ai_W) : ai_Run 190 11 [.ref a, l1, l2, l3] st ws = ai_Run 190 12 [.ref a, l1, l2, l3] (.ref a :: st) ws := R_aload_n hc_190 dX11_chaptersBy_11 rfl rfl
theorem r_190_12 (ls st : List Value) (a : Nat) (ws : ai_W) : ai_Run 190 12 ls (.ref a :: st) ws = (ai_fget ws a 11 0).bind fun q => ai_Run 190 15 ls (q :: st) ws := R_getf hc_190 dX11_chaptersBy_12 hv_190 (w := 1024) rfl rfl
theorem r_190_15 (ls st : List Value) (ws : ai_W) : ai_Run 190 15 ls st ws = ai_Run 190 16 ls (.int 3 :: st) ws := R_iconst hc_190 dX11_chaptersBy_15 (by decide) rfl
theorem r_190_16 (l0 l1 l2 : Value) (a : Int32) (st : List Value) (ws : ai_W) : ai_Run 190 16 [l0, l1, l2, .int a] st ws = ai_Run 190 17 [l0, l1, l2, .int a] (.int a :: st) ws := R_iload_n hc_190 dX11_chaptersBy_16 rfl rfl
theorem r_190_17 (ls st : List Value) (a b : Int32) (ws : ai_W) : ai_Run 190 17 ls (.int b :: .int a :: st) ws = ai_Run 190 18 ls (.int (a + b) :: st) ws := R_iadd hc_190 dX11_chaptersBy_17 rfl
theorem r_190_18 (ls st : List Value) (a : Nat) (i : Int32) (ws : ai_W) : ai_Run 190 18 ls (.int i :: .ref a :: st) ws = (ai_aget ws a i).bind fun q => ai_Run 190 19 ls (.int q :: st) ws := R_iaload hc_190 dX11_chaptersBy_18 rfl
theorem r_190_19 (l0 l2 l3 : Value) (a : Int32) (st : List Value) (ws : ai_W) : ai_Run 190 19 [l0, .int a, l2, l3] st ws = ai_Run 190 20 [l0, .int a, l2, l3] (.int a :: st) ws := R_iload_n hc_190 dX11_chaptersBy_19 rfl rfl
theorem r_190_20 (ls st : List Value) (a b : Int32) (ws : ai_W) : ai_Run 190 20 ls (.int b :: .int a :: st) ws = if a = b then ai_Run 190 23 ls st ws else ai_Run 190 27 ls st ws := R_cmp_ne hc_190 dX11_chaptersBy_20 rfl rfl
theorem r_190_23 (ls st : List Value) (ws : ai_W) : ai_Run 190 23 ls st ws = ai_Run 190 24 ls (.int 1 :: st) ws := R_iconst hc_190 dX11_chaptersBy_23 (by decide) rfl
theorem r_190_24 (ls st : List Value) (ws : ai_W) : ai_Run 190 24 ls st ws = ai_Run 190 28 ls st ws := R_goto hc_190 dX11_chaptersBy_24 rfl
theorem r_190_27 (ls st : List Value) (ws : ai_W) : ai_Run 190 27 ls st ws = ai_Run 190 28 ls (.int 0 :: st) ws := R_iconst hc_190 dX11_chaptersBy_27 (by decide) rfl
theorem r_190_28 (ls st : List Value) (a b : Int32) (ws : ai_W) : ai_Run 190 28 ls (.int b :: .int a :: st) ws = ai_Run 190 29 ls (.int (a + b) :: st) ws := R_iadd hc_190 dX11_chaptersBy_28 rfl
theorem r_190_29 (l0 l1 l2 l3 : Value) (a : Int32) (st : List Value) (ws : ai_W) : ai_Run 190 29 [l0, l1, l2, l3] (.int a :: st) ws = ai_Run 190 30 [l0, l1, .int a, l3] st ws := R_istore_n hc_190 dX11_chaptersBy_29 (Nat.le_of_ble_eq_true rfl) rfl rfl
theorem r_190_30 (l0 l1 l2 : Value) (a : Int32) (st : List Value) (ws : ai_W) : ai_Run 190 30 [l0, l1, l2, .int a] st ws = ai_Run 190 33 [l0, l1, l2, .int (a + 1)] st ws := R_iinc hc_190 dX11_chaptersBy_30 rfl (by decide) rfl rfl
theorem r_190_33 (ls st : List Value) (ws : ai_W) : ai_Run 190 33 ls st ws = ai_Run 190 4 ls st ws := R_goto hc_190 dX11_chaptersBy_33 rfl
theorem r_190_36 (l0 l1 l3 : Value) (a : Int32) (st : List Value) (ws : ai_W) : ai_Run 190 36 [l0, l1, .int a, l3] st ws = ai_Run 190 37 [l0, l1, .int a, l3] (.int a :: st) ws := R_iload_n hc_190 dX11_chaptersBy_36 rfl rfl
theorem r_190_37 (ls : List Value) (x : Int32) (ws : ai_W) : ai_Run 190 37 ls [.int x] ws = some (some (.int x), ws) := R_iret hc_190 dX11_chaptersBy_37 ht_190
theorem dX11_chapterOf_0 : decode cX11_chapterOf 0 = .ok (.aload_n 0, 1) := by decide +kernel
theorem dX11_chapterOf_1 : decode cX11_chapterOf 1 = .ok (.iload_n 1, 1) := by decide +kernel
theorem dX11_chapterOf_2 : decode cX11_chapterOf 2 = .ok (.iconst 1, 1) := by decide +kernel
theorem dX11_chapterOf_3 : decode cX11_chapterOf 3 = .ok (.iconst 2, 1) := by decide +kernel
theorem dX11_chapterOf_4 : decode cX11_chapterOf 4 = .ok (.iload_n 2, 1) := by decide +kernel
theorem dX11_chapterOf_5 : decode cX11_chapterOf 5 = .ok (.imul, 1) := by decide +kernel
theorem dX11_chapterOf_6 : decode cX11_chapterOf 6 = .ok (.iadd, 1) := by decide +kernel
theorem dX11_chapterOf_7 : decode cX11_chapterOf 7 = .ok (.invokevirtual 59, 3) := by decide +kernel
theorem dX11_chapterOf_10 : decode cX11_chapterOf 10 = .ok (.ireturn, 1) := by decide +kernel
theorem e_191 (r : Nat) (a0 : Int32) (a1 : Int32) (ws : ai_W) : ai_Call 191 [.ref r, .int a0, .int a1] ws = if ai_isob ws r 11 = true then ai_Run 191 0 [.ref r, .int a0, .int a1] [] ws else none := R_entV hk_191 ⟨⟨rfl, rfl⟩, Nat.le_of_ble_eq_true rfl⟩ rfl
theorem r_191_0 (l1 l2 : Value) (a : Nat) (st : List Value) (ws : ai_W) : ai_Run 191 0 [.ref a, l1, l2] st ws = ai_Run 191 1 [.ref a, l1, l2] (.ref a :: st) ws := R_aload_n hc_191 dX11_chapterOf_0 rfl rfl
theorem r_191_1 (l0 l2 : Value) (a : Int32) (st : List Value) (ws : ai_W) : ai_Run 191 1 [l0, .int a, l2] st ws = ai_Run 191 2 [l0, .int a, l2] (.int a :: st) ws := R_iload_n hc_191 dX11_chapterOf_1 rfl rfl
theorem r_191_2 (ls st : List Value) (ws : ai_W) : ai_Run 191 2 ls st ws = ai_Run 191 3 ls (.int 1 :: st) ws := R_iconst hc_191 dX11_chapterOf_2 (by decide) rfl
theorem r_191_3 (ls st : List Value) (ws : ai_W) : ai_Run 191 3 ls st ws = ai_Run 191 4 ls (.int 2 :: st) ws := R_iconst hc_191 dX11_chapterOf_3 (by decide) rfl
theorem r_191_4 (l0 l1 : Value) (a : Int32) (st : List Value) (ws : ai_W) : ai_Run 191 4 [l0, l1, .int a] st ws = ai_Run 191 5 [l0, l1, .int a] (.int a :: st) ws := R_iload_n hc_191 dX11_chapterOf_4 rfl rfl
theorem r_191_5 (ls st : List Value) (a b : Int32) (ws : ai_W) : ai_Run 191 5 ls (.int b :: .int a :: st) ws = ai_Run 191 6 ls (.int (a * b) :: st) ws := R_imul hc_191 dX11_chapterOf_5 rfl
theorem r_191_6 (ls st : List Value) (a b : Int32) (ws : ai_W) : ai_Run 191 6 ls (.int b :: .int a :: st) ws = ai_Run 191 7 ls (.int (a + b) :: st) ws := R_iadd hc_191 dX11_chapterOf_6 rfl
theorem r_191_7 (ls : List Value) (r : Nat) (b0 : Int32) (b1 : Int32) (ws : ai_W) : ai_Run 191 7 ls [.int b1, .int b0, .ref r] ws = (ai_Call 165 [.ref r, .int b0, .int b1] ws).bind fun q => ai_Run 191 10 ls (q.1.toList ++ []) q.2 := R_callV hc_191 dX11_chapterOf_7 hv_191 (w := 1137) rfl (Nat.le_of_ble_eq_true rfl) hk_165 (by rw [hn_165]; rfl) rfl (Nat.le_of_ble_eq_true rfl) rfl
theorem r_191_10 (ls : List Value) (x : Int32) (ws : ai_W) : ai_Run 191 10 ls [.int x] ws = some (some (.int x), ws) := R_iret hc_191 dX11_chapterOf_10 ht_191
theorem dX11_deathsBy_0 : decode cX11_deathsBy 0 = .ok (.iconst 0, 1) := by decide +kernel
theorem dX11_deathsBy_1 : decode cX11_deathsBy 1 = .ok (.istore_n 3, 1) := by decide +kernel
theorem dX11_deathsBy_2 : decode cX11_deathsBy 2 = .ok (.iconst 0, 1) := by decide +kernel
theorem dX11_deathsBy_3 : decode cX11_deathsBy 3 = .ok (.istore 4, 2) := by decide +kernel
theorem dX11_deathsBy_5 : decode cX11_deathsBy 5 = .ok (.iload 4, 2) := by decide +kernel
theorem dX11_deathsBy_7 : decode cX11_deathsBy 7 = .ok (.aload_n 0, 1) := by decide +kernel
theorem dX11_deathsBy_8 : decode cX11_deathsBy 8 = .ok (.getfield 9, 3) := by decide +kernel
theorem dX11_deathsBy_11 : decode cX11_deathsBy 11 = .ok (.iconst 0, 1) := by decide +kernel
theorem dX11_deathsBy_12 : decode cX11_deathsBy 12 = .ok (.iaload, 1) := by decide +kernel
theorem dX11_deathsBy_13 : decode cX11_deathsBy 13 = .ok (.if_icmp .ge 85, 3) := by decide +kernel
theorem dX11_deathsBy_16 : decode cX11_deathsBy 16 = .ok (.iconst 0, 1) := by decide +kernel
theorem dX11_deathsBy_17 : decode cX11_deathsBy 17 = .ok (.istore 5, 2) := by decide +kernel
theorem dX11_deathsBy_19 : decode cX11_deathsBy 19 = .ok (.iload 5, 2) := by decide +kernel
theorem dX11_deathsBy_21 : decode cX11_deathsBy 21 = .ok (.aload_n 0, 1) := by decide +kernel
theorem dX11_deathsBy_22 : decode cX11_deathsBy 22 = .ok (.iload 4, 2) := by decide +kernel
theorem dX11_deathsBy_24 : decode cX11_deathsBy 24 = .ok (.invokevirtual 66, 3) := by decide +kernel
theorem dX11_deathsBy_27 : decode cX11_deathsBy 27 = .ok (.if_icmp .ge 65, 3) := by decide +kernel
theorem dX11_deathsBy_30 : decode cX11_deathsBy 30 = .ok (.aload_n 0, 1) := by decide +kernel
theorem dX11_deathsBy_31 : decode cX11_deathsBy 31 = .ok (.getfield 9, 3) := by decide +kernel
theorem dX11_deathsBy_34 : decode cX11_deathsBy 34 = .ok (.iconst 3, 1) := by decide +kernel
theorem dX11_deathsBy_35 : decode cX11_deathsBy 35 = .ok (.aload_n 0, 1) := by decide +kernel
theorem dX11_deathsBy_36 : decode cX11_deathsBy 36 = .ok (.iload 4, 2) := by decide +kernel
theorem dX11_deathsBy_38 : decode cX11_deathsBy 38 = .ok (.iload 5, 2) := by decide +kernel
theorem dX11_deathsBy_40 : decode cX11_deathsBy 40 = .ok (.invokevirtual 148, 3) := by decide +kernel
theorem dX11_deathsBy_43 : decode cX11_deathsBy 43 = .ok (.iadd, 1) := by decide +kernel
theorem dX11_deathsBy_44 : decode cX11_deathsBy 44 = .ok (.iaload, 1) := by decide +kernel
theorem dX11_deathsBy_45 : decode cX11_deathsBy 45 = .ok (.iload_n 1, 1) := by decide +kernel
theorem dX11_deathsBy_46 : decode cX11_deathsBy 46 = .ok (.if_icmp .ne 7, 3) := by decide +kernel
theorem dX11_deathsBy_49 : decode cX11_deathsBy 49 = .ok (.iconst 1, 1) := by decide +kernel
theorem dX11_deathsBy_50 : decode cX11_deathsBy 50 = .ok (.goto 4, 3) := by decide +kernel
theorem dX11_deathsBy_53 : decode cX11_deathsBy 53 = .ok (.iconst 0, 1) := by decide +kernel
theorem dX11_deathsBy_54 : decode cX11_deathsBy 54 = .ok (.istore 6, 2) := by decide +kernel
theorem dX11_deathsBy_56 : decode cX11_deathsBy 56 = .ok (.iload_n 3, 1) := by decide +kernel
theorem dX11_deathsBy_57 : decode cX11_deathsBy 57 = .ok (.iload 6, 2) := by decide +kernel
theorem dX11_deathsBy_59 : decode cX11_deathsBy 59 = .ok (.ifCond .eq 24, 3) := by decide +kernel
theorem dX11_deathsBy_62 : decode cX11_deathsBy 62 = .ok (.iload_n 2, 1) := by decide +kernel
theorem dX11_deathsBy_63 : decode cX11_deathsBy 63 = .ok (.ifCond .eq 16, 3) := by decide +kernel
theorem dX11_deathsBy_66 : decode cX11_deathsBy 66 = .ok (.aload_n 0, 1) := by decide +kernel
theorem dX11_deathsBy_67 : decode cX11_deathsBy 67 = .ok (.iload 4, 2) := by decide +kernel
theorem dX11_deathsBy_69 : decode cX11_deathsBy 69 = .ok (.iload 5, 2) := by decide +kernel
theorem dX11_deathsBy_71 : decode cX11_deathsBy 71 = .ok (.invokevirtual 166, 3) := by decide +kernel
theorem dX11_deathsBy_74 : decode cX11_deathsBy 74 = .ok (.bipush (-4), 2) := by decide +kernel
theorem dX11_deathsBy_76 : decode cX11_deathsBy 76 = .ok (.if_icmp .eq 7, 3) := by decide +kernel
theorem dX11_deathsBy_79 : decode cX11_deathsBy 79 = .ok (.iconst 1, 1) := by decide +kernel
theorem dX11_deathsBy_80 : decode cX11_deathsBy 80 = .ok (.goto 4, 3) := by decide +kernel
theorem dX11_deathsBy_83 : decode cX11_deathsBy 83 = .ok (.iconst 0, 1) := by decide +kernel
theorem dX11_deathsBy_84 : decode cX11_deathsBy 84 = .ok (.iadd, 1) := by decide +kernel
theorem dX11_deathsBy_85 : decode cX11_deathsBy 85 = .ok (.istore_n 3, 1) := by decide +kernel
theorem dX11_deathsBy_86 : decode cX11_deathsBy 86 = .ok (.iinc 5 1, 3) := by decide +kernel
theorem dX11_deathsBy_89 : decode cX11_deathsBy 89 = .ok (.goto (-70), 3) := by decide +kernel
theorem dX11_deathsBy_92 : decode cX11_deathsBy 92 = .ok (.iinc 4 1, 3) := by decide +kernel
theorem dX11_deathsBy_95 : decode cX11_deathsBy 95 = .ok (.goto (-90), 3) := by decide +kernel
theorem dX11_deathsBy_98 : decode cX11_deathsBy 98 = .ok (.iload_n 3, 1) := by decide +kernel
theorem dX11_deathsBy_99 : decode cX11_deathsBy 99 = .ok (.ireturn, 1) := by decide +kernel
theorem e_192 (r : Nat) (a0 : Int32) (a1 : Int32) (ws : ai_W) : ai_Call 192 [.ref r, .int a0, .int a1] ws = if ai_isob ws r 11 = true then ai_Run 192 0 [.ref r, .int a0, .int a1, .null, .null, .null, .null] [] ws else none := R_entV hk_192 ⟨⟨rfl, rfl⟩, Nat.le_of_ble_eq_true rfl⟩ rfl
theorem r_192_0 (ls st : List Value) (ws : ai_W) : ai_Run 192 0 ls st ws = ai_Run 192 1 ls (.int 0 :: st) ws := R_iconst hc_192 dX11_deathsBy_0 (by decide) rfl
theorem r_192_1 (l0 l1 l2 l3 l4 l5 l6 : Value) (a : Int32) (st : List Value) (ws : ai_W) : ai_Run 192 1 [l0, l1, l2, l3, l4, l5, l6] (.int a :: st) ws = ai_Run 192 2 [l0, l1, l2, .int a, l4, l5, l6] st ws := R_istore_n hc_192 dX11_deathsBy_1 (Nat.le_of_ble_eq_true rfl) rfl rfl
theorem r_192_2 (ls st : List Value) (ws : ai_W) : ai_Run 192 2 ls st ws = ai_Run 192 3 ls (.int 0 :: st) ws := R_iconst hc_192 dX11_deathsBy_2 (by decide) rfl
theorem r_192_3 (l0 l1 l2 l3 l4 l5 l6 : Value) (a : Int32) (st : List Value) (ws : ai_W) : ai_Run 192 3 [l0, l1, l2, l3, l4, l5, l6] (.int a :: st) ws = ai_Run 192 5 [l0, l1, l2, l3, .int a, l5, l6] st ws := R_istore hc_192 dX11_deathsBy_3 (Nat.le_of_ble_eq_true rfl) rfl rfl
theorem r_192_5 (l0 l1 l2 l3 l5 l6 : Value) (a : Int32) (st : List Value) (ws : ai_W) : ai_Run 192 5 [l0, l1, l2, l3, .int a, l5, l6] st ws = ai_Run 192 7 [l0, l1, l2, l3, .int a, l5, l6] (.int a :: st) ws := R_iload hc_192 dX11_deathsBy_5 rfl rfl
theorem r_192_7 (l1 l2 l3 l4 l5 l6 : Value) (a : Nat) (st : List Value) (ws : ai_W) : ai_Run 192 7 [.ref a, l1, l2, l3, l4, l5, l6] st ws = ai_Run 192 8 [.ref a, l1, l2, l3, l4, l5, l6] (.ref a :: st) ws := R_aload_n hc_192 dX11_deathsBy_7 rfl rfl
theorem r_192_8 (ls st : List Value) (a : Nat) (ws : ai_W) : ai_Run 192 8 ls (.ref a :: st) ws = (ai_fget ws a 11 0).bind fun q => ai_Run 192 11 ls (q :: st) ws := R_getf hc_192 dX11_deathsBy_8 hv_192 (w := 1024) rfl rfl
theorem r_192_11 (ls st : List Value) (ws : ai_W) : ai_Run 192 11 ls st ws = ai_Run 192 12 ls (.int 0 :: st) ws := R_iconst hc_192 dX11_deathsBy_11 (by decide) rfl
theorem r_192_12 (ls st : List Value) (a : Nat) (i : Int32) (ws : ai_W) : ai_Run 192 12 ls (.int i :: .ref a :: st) ws = (ai_aget ws a i).bind fun q => ai_Run 192 13 ls (.int q :: st) ws := R_iaload hc_192 dX11_deathsBy_12 rfl
theorem r_192_13 (ls st : List Value) (a b : Int32) (ws : ai_W) : ai_Run 192 13 ls (.int b :: .int a :: st) ws = if a < b then ai_Run 192 16 ls st ws else ai_Run 192 98 ls st ws := R_cmp_ge hc_192 dX11_deathsBy_13 rfl rfl
theorem r_192_16 (ls st : List Value) (ws : ai_W) : ai_Run 192 16 ls st ws = ai_Run 192 17 ls (.int 0 :: st) ws := R_iconst hc_192 dX11_deathsBy_16 (by decide) rfl
theorem r_192_17 (l0 l1 l2 l3 l4 l5 l6 : Value) (a : Int32) (st : List Value) (ws : ai_W) : ai_Run 192 17 [l0, l1, l2, l3, l4, l5, l6] (.int a :: st) ws = ai_Run 192 19 [l0, l1, l2, l3, l4, .int a, l6] st ws := R_istore hc_192 dX11_deathsBy_17 (Nat.le_of_ble_eq_true rfl) rfl rfl
theorem r_192_19 (l0 l1 l2 l3 l4 l6 : Value) (a : Int32) (st : List Value) (ws : ai_W) : ai_Run 192 19 [l0, l1, l2, l3, l4, .int a, l6] st ws = ai_Run 192 21 [l0, l1, l2, l3, l4, .int a, l6] (.int a :: st) ws := R_iload hc_192 dX11_deathsBy_19 rfl rfl
theorem r_192_21 (l1 l2 l3 l4 l5 l6 : Value) (a : Nat) (st : List Value) (ws : ai_W) : ai_Run 192 21 [.ref a, l1, l2, l3, l4, l5, l6] st ws = ai_Run 192 22 [.ref a, l1, l2, l3, l4, l5, l6] (.ref a :: st) ws := R_aload_n hc_192 dX11_deathsBy_21 rfl rfl
theorem r_192_22 (l0 l1 l2 l3 l5 l6 : Value) (a : Int32) (st : List Value) (ws : ai_W) : ai_Run 192 22 [l0, l1, l2, l3, .int a, l5, l6] st ws = ai_Run 192 24 [l0, l1, l2, l3, .int a, l5, l6] (.int a :: st) ws := R_iload hc_192 dX11_deathsBy_22 rfl rfl
theorem r_192_24 (ls : List Value) (r : Nat) (b0 : Int32) (s0 : Value) (ws : ai_W) : ai_Run 192 24 ls [.int b0, .ref r, s0] ws = (ai_Call 166 [.ref r, .int b0] ws).bind fun q => ai_Run 192 27 ls (q.1.toList ++ [s0]) q.2 := R_callV hc_192 dX11_deathsBy_24 hv_192 (w := 1141) rfl (Nat.le_of_ble_eq_true rfl) hk_166 (by rw [hn_166]; rfl) rfl (Nat.le_of_ble_eq_true rfl) rfl
theorem r_192_27 (ls st : List Value) (a b : Int32) (ws : ai_W) : ai_Run 192 27 ls (.int b :: .int a :: st) ws = if a < b then ai_Run 192 30 ls st ws else ai_Run 192 92 ls st ws := R_cmp_ge hc_192 dX11_deathsBy_27 rfl rfl
theorem r_192_30 (l1 l2 l3 l4 l5 l6 : Value) (a : Nat) (st : List Value) (ws : ai_W) : ai_Run 192 30 [.ref a, l1, l2, l3, l4, l5, l6] st ws = ai_Run 192 31 [.ref a, l1, l2, l3, l4, l5, l6] (.ref a :: st) ws := R_aload_n hc_192 dX11_deathsBy_30 rfl rfl
theorem r_192_31 (ls st : List Value) (a : Nat) (ws : ai_W) : ai_Run 192 31 ls (.ref a :: st) ws = (ai_fget ws a 11 0).bind fun q => ai_Run 192 34 ls (q :: st) ws := R_getf hc_192 dX11_deathsBy_31 hv_192 (w := 1024) rfl rfl
theorem r_192_34 (ls st : List Value) (ws : ai_W) : ai_Run 192 34 ls st ws = ai_Run 192 35 ls (.int 3 :: st) ws := R_iconst hc_192 dX11_deathsBy_34 (by decide) rfl
theorem r_192_35 (l1 l2 l3 l4 l5 l6 : Value) (a : Nat) (st : List Value) (ws : ai_W) : ai_Run 192 35 [.ref a, l1, l2, l3, l4, l5, l6] st ws = ai_Run 192 36 [.ref a, l1, l2, l3, l4, l5, l6] (.ref a :: st) ws := R_aload_n hc_192 dX11_deathsBy_35 rfl rfl
theorem r_192_36 (l0 l1 l2 l3 l5 l6 : Value) (a : Int32) (st : List Value) (ws : ai_W) : ai_Run 192 36 [l0, l1, l2, l3, .int a, l5, l6] st ws = ai_Run 192 38 [l0, l1, l2, l3, .int a, l5, l6] (.int a :: st) ws := R_iload hc_192 dX11_deathsBy_36 rfl rfl
theorem r_192_38 (l0 l1 l2 l3 l4 l6 : Value) (a : Int32) (st : List Value) (ws : ai_W) : ai_Run 192 38 [l0, l1, l2, l3, l4, .int a, l6] st ws = ai_Run 192 40 [l0, l1, l2, l3, l4, .int a, l6] (.int a :: st) ws := R_iload hc_192 dX11_deathsBy_38 rfl rfl
theorem r_192_40 (ls : List Value) (r : Nat) (b0 : Int32) (b1 : Int32) (s0 s1 : Value) (ws : ai_W) : ai_Run 192 40 ls [.int b1, .int b0, .ref r, s0, s1] ws = (ai_Call 191 [.ref r, .int b0, .int b1] ws).bind fun q => ai_Run 192 43 ls (q.1.toList ++ [s0, s1]) q.2 := R_callV hc_192 dX11_deathsBy_40 hv_192 (w := 1252) rfl (Nat.le_of_ble_eq_true rfl) hk_191 (by rw [hn_191]; rfl) rfl (Nat.le_of_ble_eq_true rfl) rfl
theorem r_192_43 (ls st : List Value) (a b : Int32) (ws : ai_W) : ai_Run 192 43 ls (.int b :: .int a :: st) ws = ai_Run 192 44 ls (.int (a + b) :: st) ws := R_iadd hc_192 dX11_deathsBy_43 rfl
theorem r_192_44 (ls st : List Value) (a : Nat) (i : Int32) (ws : ai_W) : ai_Run 192 44 ls (.int i :: .ref a :: st) ws = (ai_aget ws a i).bind fun q => ai_Run 192 45 ls (.int q :: st) ws := R_iaload hc_192 dX11_deathsBy_44 rfl
theorem r_192_45 (l0 l2 l3 l4 l5 l6 : Value) (a : Int32) (st : List Value) (ws : ai_W) : ai_Run 192 45 [l0, .int a, l2, l3, l4, l5, l6] st ws = ai_Run 192 46 [l0, .int a, l2, l3, l4, l5, l6] (.int a :: st) ws := R_iload_n hc_192 dX11_deathsBy_45 rfl rfl
theorem r_192_46 (ls st : List Value) (a b : Int32) (ws : ai_W) : ai_Run 192 46 ls (.int b :: .int a :: st) ws = if a = b then ai_Run 192 49 ls st ws else ai_Run 192 53 ls st ws := R_cmp_ne hc_192 dX11_deathsBy_46 rfl rfl
theorem r_192_49 (ls st : List Value) (ws : ai_W) : ai_Run 192 49 ls st ws = ai_Run 192 50 ls (.int 1 :: st) ws := R_iconst hc_192 dX11_deathsBy_49 (by decide) rfl
theorem r_192_50 (ls st : List Value) (ws : ai_W) : ai_Run 192 50 ls st ws = ai_Run 192 54 ls st ws := R_goto hc_192 dX11_deathsBy_50 rfl
theorem r_192_53 (ls st : List Value) (ws : ai_W) : ai_Run 192 53 ls st ws = ai_Run 192 54 ls (.int 0 :: st) ws := R_iconst hc_192 dX11_deathsBy_53 (by decide) rfl
theorem r_192_54 (l0 l1 l2 l3 l4 l5 l6 : Value) (a : Int32) (st : List Value) (ws : ai_W) : ai_Run 192 54 [l0, l1, l2, l3, l4, l5, l6] (.int a :: st) ws = ai_Run 192 56 [l0, l1, l2, l3, l4, l5, .int a] st ws := R_istore hc_192 dX11_deathsBy_54 (Nat.le_of_ble_eq_true rfl) rfl rfl
theorem r_192_56 (l0 l1 l2 l4 l5 l6 : Value) (a : Int32) (st : List Value) (ws : ai_W) : ai_Run 192 56 [l0, l1, l2, .int a, l4, l5, l6] st ws = ai_Run 192 57 [l0, l1, l2, .int a, l4, l5, l6] (.int a :: st) ws := R_iload_n hc_192 dX11_deathsBy_56 rfl rfl
theorem r_192_57 (l0 l1 l2 l3 l4 l5 : Value) (a : Int32) (st : List Value) (ws : ai_W) : ai_Run 192 57 [l0, l1, l2, l3, l4, l5, .int a] st ws = ai_Run 192 59 [l0, l1, l2, l3, l4, l5, .int a] (.int a :: st) ws := R_iload hc_192 dX11_deathsBy_57 rfl rfl
theorem r_192_59 (ls st : List Value) (a : Int32) (ws : ai_W) : ai_Run 192 59 ls (.int a :: st) ws = if a = 0 then ai_Run 192 83 ls st ws else ai_Run 192 62 ls st ws := R_if_eq hc_192 dX11_deathsBy_59 rfl rfl
theorem r_192_62 (l0 l1 l3 l4 l5 l6 : Value) (a : Int32) (st : List Value) (ws : ai_W) : ai_Run 192 62 [l0, l1, .int a, l3, l4, l5, l6] st ws = ai_Run 192 63 [l0, l1, .int a, l3, l4, l5, l6] (.int a :: st) ws := R_iload_n hc_192 dX11_deathsBy_62 rfl rfl
theorem r_192_63 (ls st : List Value) (a : Int32) (ws : ai_W) : ai_Run 192 63 ls (.int a :: st) ws = if a = 0 then ai_Run 192 79 ls st ws else ai_Run 192 66 ls st ws := R_if_eq hc_192 dX11_deathsBy_63 rfl rfl
theorem r_192_66 (l1 l2 l3 l4 l5 l6 : Value) (a : Nat) (st : List Value) (ws : ai_W) : ai_Run 192 66 [.ref a, l1, l2, l3, l4, l5, l6] st ws = ai_Run 192 67 [.ref a, l1, l2, l3, l4, l5, l6] (.ref a :: st) ws := R_aload_n hc_192 dX11_deathsBy_66 rfl rfl
theorem r_192_67 (l0 l1 l2 l3 l5 l6 : Value) (a : Int32) (st : List Value) (ws : ai_W) : ai_Run 192 67 [l0, l1, l2, l3, .int a, l5, l6] st ws = ai_Run 192 69 [l0, l1, l2, l3, .int a, l5, l6] (.int a :: st) ws := R_iload hc_192 dX11_deathsBy_67 rfl rfl
theorem r_192_69 (l0 l1 l2 l3 l4 l6 : Value) (a : Int32) (st : List Value) (ws : ai_W) : ai_Run 192 69 [l0, l1, l2, l3, l4, .int a, l6] st ws = ai_Run 192 71 [l0, l1, l2, l3, l4, .int a, l6] (.int a :: st) ws := R_iload hc_192 dX11_deathsBy_69 rfl rfl
theorem r_192_71 (ls : List Value) (r : Nat) (b0 : Int32) (b1 : Int32) (s0 : Value) (ws : ai_W) : ai_Run 192 71 ls [.int b1, .int b0, .ref r, s0] ws = (ai_Call 170 [.ref r, .int b0, .int b1] ws).bind fun q => ai_Run 192 74 ls (q.1.toList ++ [s0]) q.2 := R_callV hc_192 dX11_deathsBy_71 hv_192 (w := 1244) rfl (Nat.le_of_ble_eq_true rfl) hk_170 (by rw [hn_170]; rfl) rfl (Nat.le_of_ble_eq_true rfl) rfl
theorem r_192_74 (ls st : List Value) (ws : ai_W) : ai_Run 192 74 ls st ws = ai_Run 192 76 ls (.int (-4) :: st) ws := R_bipush hc_192 dX11_deathsBy_74 (by decide) rfl
theorem r_192_76 (ls st : List Value) (a b : Int32) (ws : ai_W) : ai_Run 192 76 ls (.int b :: .int a :: st) ws = if a = b then ai_Run 192 83 ls st ws else ai_Run 192 79 ls st ws := R_cmp_eq hc_192 dX11_deathsBy_76 rfl rfl
theorem r_192_79 (ls st : List Value) (ws : ai_W) : ai_Run 192 79 ls st ws = ai_Run 192 80 ls (.int 1 :: st) ws := R_iconst hc_192 dX11_deathsBy_79 (by decide) rfl
theorem r_192_80 (ls st : List Value) (ws : ai_W) : ai_Run 192 80 ls st ws = ai_Run 192 84 ls st ws := R_goto hc_192 dX11_deathsBy_80 rfl
theorem r_192_83 (ls st : List Value) (ws : ai_W) : ai_Run 192 83 ls st ws = ai_Run 192 84 ls (.int 0 :: st) ws := R_iconst hc_192 dX11_deathsBy_83 (by decide) rfl
theorem r_192_84 (ls st : List Value) (a b : Int32) (ws : ai_W) : ai_Run 192 84 ls (.int b :: .int a :: st) ws = ai_Run 192 85 ls (.int (a + b) :: st) ws := R_iadd hc_192 dX11_deathsBy_84 rfl
theorem r_192_85 (l0 l1 l2 l3 l4 l5 l6 : Value) (a : Int32) (st : List Value) (ws : ai_W) : ai_Run 192 85 [l0, l1, l2, l3, l4, l5, l6] (.int a :: st) ws = ai_Run 192 86 [l0, l1, l2, .int a, l4, l5, l6] st ws := R_istore_n hc_192 dX11_deathsBy_85 (Nat.le_of_ble_eq_true rfl) rfl rfl
theorem r_192_86 (l0 l1 l2 l3 l4 l6 : Value) (a : Int32) (st : List Value) (ws : ai_W) : ai_Run 192 86 [l0, l1, l2, l3, l4, .int a, l6] st ws = ai_Run 192 89 [l0, l1, l2, l3, l4, .int (a + 1), l6] st ws := R_iinc hc_192 dX11_deathsBy_86 rfl (by decide) rfl rfl
theorem r_192_89 (ls st : List Value) (ws : ai_W) : ai_Run 192 89 ls st ws = ai_Run 192 19 ls st ws := R_goto hc_192 dX11_deathsBy_89 rfl
theorem r_192_92 (l0 l1 l2 l3 l5 l6 : Value) (a : Int32) (st : List Value) (ws : ai_W) : ai_Run 192 92 [l0, l1, l2, l3, .int a, l5, l6] st ws = ai_Run 192 95 [l0, l1, l2, l3, .int (a + 1), l5, l6] st ws := R_iinc hc_192 dX11_deathsBy_92 rfl (by decide) rfl rfl
theorem r_192_95 (ls st : List Value) (ws : ai_W) : ai_Run 192 95 ls st ws = ai_Run 192 5 ls st ws := R_goto hc_192 dX11_deathsBy_95 rfl
theorem r_192_98 (l0 l1 l2 l4 l5 l6 : Value) (a : Int32) (st : List Value) (ws : ai_W) : ai_Run 192 98 [l0, l1, l2, .int a, l4, l5, l6] st ws = ai_Run 192 99 [l0, l1, l2, .int a, l4, l5, l6] (.int a :: st) ws := R_iload_n hc_192 dX11_deathsBy_98 rfl rfl
theorem r_192_99 (ls : List Value) (x : Int32) (ws : ai_W) : ai_Run 192 99 ls [.int x] ws = some (some (.int x), ws) := R_iret hc_192 dX11_deathsBy_99 ht_192
theorem dX11_authorOf_0 : decode cX11_authorOf 0 = .ok (.aload_n 0, 1) := by decide +kernel
theorem dX11_authorOf_1 : decode cX11_authorOf 1 = .ok (.iload_n 1, 1) := by decide +kernel
theorem dX11_authorOf_2 : decode cX11_authorOf 2 = .ok (.invokevirtual 117, 3) := by decide +kernel
theorem dX11_authorOf_5 : decode cX11_authorOf 5 = .ok (.ifCond .ne 5, 3) := by decide +kernel
theorem dX11_authorOf_8 : decode cX11_authorOf 8 = .ok (.iconst (-1), 1) := by decide +kernel
theorem dX11_authorOf_9 : decode cX11_authorOf 9 = .ok (.ireturn, 1) := by decide +kernel
theorem dX11_authorOf_10 : decode cX11_authorOf 10 = .ok (.iload_n 2, 1) := by decide +kernel
theorem dX11_authorOf_11 : decode cX11_authorOf 11 = .ok (.tableswitch 61 0 3 #[29, 39, 45, 45], 29) := by decide +kernel
theorem dX11_authorOf_40 : decode cX11_authorOf 40 = .ok (.aload_n 0, 1) := by decide +kernel
theorem dX11_authorOf_41 : decode cX11_authorOf 41 = .ok (.getfield 9, 3) := by decide +kernel
theorem dX11_authorOf_44 : decode cX11_authorOf 44 = .ok (.bipush 34, 2) := by decide +kernel
theorem dX11_authorOf_46 : decode cX11_authorOf 46 = .ok (.iload_n 1, 1) := by decide +kernel
theorem dX11_authorOf_47 : decode cX11_authorOf 47 = .ok (.iadd, 1) := by decide +kernel
theorem dX11_authorOf_48 : decode cX11_authorOf 48 = .ok (.iaload, 1) := by decide +kernel
theorem dX11_authorOf_49 : decode cX11_authorOf 49 = .ok (.ireturn, 1) := by decide +kernel
theorem dX11_authorOf_50 : decode cX11_authorOf 50 = .ok (.aload_n 0, 1) := by decide +kernel
theorem dX11_authorOf_51 : decode cX11_authorOf 51 = .ok (.iload_n 1, 1) := by decide +kernel
theorem dX11_authorOf_52 : decode cX11_authorOf 52 = .ok (.invokevirtual 194, 3) := by decide +kernel
theorem dX11_authorOf_55 : decode cX11_authorOf 55 = .ok (.ireturn, 1) := by decide +kernel
theorem dX11_authorOf_56 : decode cX11_authorOf 56 = .ok (.aload_n 0, 1) := by decide +kernel
theorem dX11_authorOf_57 : decode cX11_authorOf 57 = .ok (.iload_n 1, 1) := by decide +kernel
theorem dX11_authorOf_58 : decode cX11_authorOf 58 = .ok (.iload_n 2, 1) := by decide +kernel
theorem dX11_authorOf_59 : decode cX11_authorOf 59 = .ok (.iconst 3, 1) := by decide +kernel
theorem dX11_authorOf_60 : decode cX11_authorOf 60 = .ok (.if_icmp .ne 7, 3) := by decide +kernel
theorem dX11_authorOf_63 : decode cX11_authorOf 63 = .ok (.iconst 1, 1) := by decide +kernel
theorem dX11_authorOf_64 : decode cX11_authorOf 64 = .ok (.goto 4, 3) := by decide +kernel
theorem dX11_authorOf_67 : decode cX11_authorOf 67 = .ok (.iconst 0, 1) := by decide +kernel
theorem dX11_authorOf_68 : decode cX11_authorOf 68 = .ok (.invokevirtual 197, 3) := by decide +kernel
theorem dX11_authorOf_71 : decode cX11_authorOf 71 = .ok (.ireturn, 1) := by decide +kernel
theorem dX11_authorOf_72 : decode cX11_authorOf 72 = .ok (.bipush (-2), 2) := by decide +kernel
theorem dX11_authorOf_74 : decode cX11_authorOf 74 = .ok (.ireturn, 1) := by decide +kernel
theorem e_193 (r : Nat) (a0 : Int32) (a1 : Int32) (ws : ai_W) : ai_Call 193 [.ref r, .int a0, .int a1] ws = if ai_isob ws r 11 = true then ai_Run 193 0 [.ref r, .int a0, .int a1] [] ws else none := R_entV hk_193 ⟨⟨rfl, rfl⟩, Nat.le_of_ble_eq_true rfl⟩ rfl
theorem r_193_0 (l1 l2 : Value) (a : Nat) (st : List Value) (ws : ai_W) : ai_Run 193 0 [.ref a, l1, l2] st ws = ai_Run 193 1 [.ref a, l1, l2] (.ref a :: st) ws := R_aload_n hc_193 dX11_authorOf_0 rfl rfl
theorem r_193_1 (l0 l2 : Value) (a : Int32) (st : List Value) (ws : ai_W) : ai_Run 193 1 [l0, .int a, l2] st ws = ai_Run 193 2 [l0, .int a, l2] (.int a :: st) ws := R_iload_n hc_193 dX11_authorOf_1 rfl rfl
theorem r_193_2 (ls : List Value) (r : Nat) (b0 : Int32) (ws : ai_W) : ai_Run 193 2 ls [.int b0, .ref r] ws = (ai_Call 189 [.ref r, .int b0] ws).bind fun q => ai_Run 193 5 ls (q.1.toList ++ []) q.2 := R_callV hc_193 dX11_authorOf_2 hv_193 (w := 1181) rfl (Nat.le_of_ble_eq_true rfl) hk_189 (by rw [hn_189]; rfl) rfl (Nat.le_of_ble_eq_true rfl) rfl
theorem r_193_5 (ls st : List Value) (a : Int32) (ws : ai_W) : ai_Run 193 5 ls (.int a :: st) ws = if a = 0 then ai_Run 193 8 ls st ws else ai_Run 193 10 ls st ws := R_if_ne hc_193 dX11_authorOf_5 rfl rfl
theorem r_193_8 (ls st : List Value) (ws : ai_W) : ai_Run 193 8 ls st ws = ai_Run 193 9 ls (.int (-1) :: st) ws := R_iconst hc_193 dX11_authorOf_8 (by decide) rfl
theorem r_193_9 (ls : List Value) (x : Int32) (ws : ai_W) : ai_Run 193 9 ls [.int x] ws = some (some (.int x), ws) := R_iret hc_193 dX11_authorOf_9 ht_193
theorem r_193_10 (l0 l1 : Value) (a : Int32) (st : List Value) (ws : ai_W) : ai_Run 193 10 [l0, l1, .int a] st ws = ai_Run 193 11 [l0, l1, .int a] (.int a :: st) ws := R_iload_n hc_193 dX11_authorOf_10 rfl rfl
theorem r_193_11 (ls st : List Value) (x : Int32) (ws : ai_W) : ai_Run 193 11 ls (.int x :: st) ws = if x = 0 then ai_Run 193 40 ls st ws else if x = 1 then ai_Run 193 50 ls st ws else if x = 2 then ai_Run 193 56 ls st ws else if x = 3 then ai_Run 193 56 ls st ws else ai_Run 193 72 ls st ws := by
  by_cases h0 : x = 0
  · subst h0; rw [if_pos rfl]; exact R_switch hc_193 dX11_authorOf_11 (by decide +kernel)
  rw [if_neg h0]
  by_cases h1 : x = 1
  · subst h1; rw [if_pos rfl]; exact R_switch hc_193 dX11_authorOf_11 (by decide +kernel)
  rw [if_neg h1]
  by_cases h2 : x = 2
  · subst h2; rw [if_pos rfl]; exact R_switch hc_193 dX11_authorOf_11 (by decide +kernel)
  rw [if_neg h2]
  by_cases h3 : x = 3
  · subst h3; rw [if_pos rfl]; exact R_switch hc_193 dX11_authorOf_11 (by decide +kernel)
  rw [if_neg h3]
  have q0 : x.toInt ≠ 0 := fun e => h0 (Int32.toInt_inj.mp e)
  have q1 : x.toInt ≠ 1 := fun e => h1 (Int32.toInt_inj.mp e)
  have q2 : x.toInt ≠ 2 := fun e => h2 (Int32.toInt_inj.mp e)
  have q3 : x.toInt ≠ 3 := fun e => h3 (Int32.toInt_inj.mp e)
  refine R_switch hc_193 dX11_authorOf_11 (t := 72) ?_
  unfold ai_sw
  rw [if_pos (by omega)]
  rfl
theorem r_193_40 (l1 l2 : Value) (a : Nat) (st : List Value) (ws : ai_W) : ai_Run 193 40 [.ref a, l1, l2] st ws = ai_Run 193 41 [.ref a, l1, l2] (.ref a :: st) ws := R_aload_n hc_193 dX11_authorOf_40 rfl rfl
theorem r_193_41 (ls st : List Value) (a : Nat) (ws : ai_W) : ai_Run 193 41 ls (.ref a :: st) ws = (ai_fget ws a 11 0).bind fun q => ai_Run 193 44 ls (q :: st) ws := R_getf hc_193 dX11_authorOf_41 hv_193 (w := 1024) rfl rfl
theorem r_193_44 (ls st : List Value) (ws : ai_W) : ai_Run 193 44 ls st ws = ai_Run 193 46 ls (.int 34 :: st) ws := R_bipush hc_193 dX11_authorOf_44 (by decide) rfl
theorem r_193_46 (l0 l2 : Value) (a : Int32) (st : List Value) (ws : ai_W) : ai_Run 193 46 [l0, .int a, l2] st ws = ai_Run 193 47 [l0, .int a, l2] (.int a :: st) ws := R_iload_n hc_193 dX11_authorOf_46 rfl rfl
theorem r_193_47 (ls st : List Value) (a b : Int32) (ws : ai_W) : ai_Run 193 47 ls (.int b :: .int a :: st) ws = ai_Run 193 48 ls (.int (a + b) :: st) ws := R_iadd hc_193 dX11_authorOf_47 rfl
theorem r_193_48 (ls st : List Value) (a : Nat) (i : Int32) (ws : ai_W) : ai_Run 193 48 ls (.int i :: .ref a :: st) ws = (ai_aget ws a i).bind fun q => ai_Run 193 49 ls (.int q :: st) ws := R_iaload hc_193 dX11_authorOf_48 rfl
theorem r_193_49 (ls : List Value) (x : Int32) (ws : ai_W) : ai_Run 193 49 ls [.int x] ws = some (some (.int x), ws) := R_iret hc_193 dX11_authorOf_49 ht_193
theorem r_193_50 (l1 l2 : Value) (a : Nat) (st : List Value) (ws : ai_W) : ai_Run 193 50 [.ref a, l1, l2] st ws = ai_Run 193 51 [.ref a, l1, l2] (.ref a :: st) ws := R_aload_n hc_193 dX11_authorOf_50 rfl rfl
theorem r_193_51 (l0 l2 : Value) (a : Int32) (st : List Value) (ws : ai_W) : ai_Run 193 51 [l0, .int a, l2] st ws = ai_Run 193 52 [l0, .int a, l2] (.int a :: st) ws := R_iload_n hc_193 dX11_authorOf_51 rfl rfl
theorem r_193_52 (ls : List Value) (r : Nat) (b0 : Int32) (ws : ai_W) : ai_Run 193 52 ls [.int b0, .ref r] ws = (ai_Call 190 [.ref r, .int b0] ws).bind fun q => ai_Run 193 55 ls (q.1.toList ++ []) q.2 := R_callV hc_193 dX11_authorOf_52 hv_193 (w := 1316) rfl (Nat.le_of_ble_eq_true rfl) hk_190 (by rw [hn_190]; rfl) rfl (Nat.le_of_ble_eq_true rfl) rfl
theorem r_193_55 (ls : List Value) (x : Int32) (ws : ai_W) : ai_Run 193 55 ls [.int x] ws = some (some (.int x), ws) := R_iret hc_193 dX11_authorOf_55 ht_193
theorem r_193_56 (l1 l2 : Value) (a : Nat) (st : List Value) (ws : ai_W) : ai_Run 193 56 [.ref a, l1, l2] st ws = ai_Run 193 57 [.ref a, l1, l2] (.ref a :: st) ws := R_aload_n hc_193 dX11_authorOf_56 rfl rfl
theorem r_193_57 (l0 l2 : Value) (a : Int32) (st : List Value) (ws : ai_W) : ai_Run 193 57 [l0, .int a, l2] st ws = ai_Run 193 58 [l0, .int a, l2] (.int a :: st) ws := R_iload_n hc_193 dX11_authorOf_57 rfl rfl
theorem r_193_58 (l0 l1 : Value) (a : Int32) (st : List Value) (ws : ai_W) : ai_Run 193 58 [l0, l1, .int a] st ws = ai_Run 193 59 [l0, l1, .int a] (.int a :: st) ws := R_iload_n hc_193 dX11_authorOf_58 rfl rfl
theorem r_193_59 (ls st : List Value) (ws : ai_W) : ai_Run 193 59 ls st ws = ai_Run 193 60 ls (.int 3 :: st) ws := R_iconst hc_193 dX11_authorOf_59 (by decide) rfl
theorem r_193_60 (ls st : List Value) (a b : Int32) (ws : ai_W) : ai_Run 193 60 ls (.int b :: .int a :: st) ws = if a = b then ai_Run 193 63 ls st ws else ai_Run 193 67 ls st ws := R_cmp_ne hc_193 dX11_authorOf_60 rfl rfl
theorem r_193_63 (ls st : List Value) (ws : ai_W) : ai_Run 193 63 ls st ws = ai_Run 193 64 ls (.int 1 :: st) ws := R_iconst hc_193 dX11_authorOf_63 (by decide) rfl
theorem r_193_64 (ls st : List Value) (ws : ai_W) : ai_Run 193 64 ls st ws = ai_Run 193 68 ls st ws := R_goto hc_193 dX11_authorOf_64 rfl
theorem r_193_67 (ls st : List Value) (ws : ai_W) : ai_Run 193 67 ls st ws = ai_Run 193 68 ls (.int 0 :: st) ws := R_iconst hc_193 dX11_authorOf_67 (by decide) rfl
theorem r_193_68 (ls : List Value) (r : Nat) (b0 : Int32) (b1 : Int32) (ws : ai_W) : ai_Run 193 68 ls [.int b1, .int b0, .ref r] ws = (ai_Call 192 [.ref r, .int b0, .int b1] ws).bind fun q => ai_Run 193 71 ls (q.1.toList ++ []) q.2 := R_callV hc_193 dX11_authorOf_68 hv_193 (w := 1320) rfl (Nat.le_of_ble_eq_true rfl) hk_192 (by rw [hn_192]; rfl) rfl (Nat.le_of_ble_eq_true rfl) rfl
theorem r_193_71 (ls : List Value) (x : Int32) (ws : ai_W) : ai_Run 193 71 ls [.int x] ws = some (some (.int x), ws) := R_iret hc_193 dX11_authorOf_71 ht_193
theorem r_193_72 (ls st : List Value) (ws : ai_W) : ai_Run 193 72 ls st ws = ai_Run 193 74 ls (.int (-2) :: st) ws := R_bipush hc_193 dX11_authorOf_72 (by decide) rfl
theorem r_193_74 (ls : List Value) (x : Int32) (ws : ai_W) : ai_Run 193 74 ls [.int x] ws = some (some (.int x), ws) := R_iret hc_193 dX11_authorOf_74 ht_193
theorem dX11_pagesOf_0 : decode cX11_pagesOf 0 = .ok (.aload_n 0, 1) := by decide +kernel
theorem dX11_pagesOf_1 : decode cX11_pagesOf 1 = .ok (.getfield 9, 3) := by decide +kernel
theorem dX11_pagesOf_4 : decode cX11_pagesOf 4 = .ok (.bipush 45, 2) := by decide +kernel
theorem dX11_pagesOf_6 : decode cX11_pagesOf 6 = .ok (.bipush 8, 2) := by decide +kernel
theorem dX11_pagesOf_8 : decode cX11_pagesOf 8 = .ok (.iload_n 1, 1) := by decide +kernel
theorem dX11_pagesOf_9 : decode cX11_pagesOf 9 = .ok (.imul, 1) := by decide +kernel
theorem dX11_pagesOf_10 : decode cX11_pagesOf 10 = .ok (.iadd, 1) := by decide +kernel
theorem dX11_pagesOf_11 : decode cX11_pagesOf 11 = .ok (.iload_n 2, 1) := by decide +kernel
theorem dX11_pagesOf_12 : decode cX11_pagesOf 12 = .ok (.iadd, 1) := by decide +kernel
theorem dX11_pagesOf_13 : decode cX11_pagesOf 13 = .ok (.iaload, 1) := by decide +kernel
theorem dX11_pagesOf_14 : decode cX11_pagesOf 14 = .ok (.ireturn, 1) := by decide +kernel
theorem e_194 (r : Nat) (a0 : Int32) (a1 : Int32) (ws : ai_W) : ai_Call 194 [.ref r, .int a0, .int a1] ws = if ai_isob ws r 11 = true then ai_Run 194 0 [.ref r, .int a0, .int a1] [] ws else none := R_entV hk_194 ⟨⟨rfl, rfl⟩, Nat.le_of_ble_eq_true rfl⟩ rfl
theorem r_194_0 (l1 l2 : Value) (a : Nat) (st : List Value) (ws : ai_W) : ai_Run 194 0 [.ref a, l1, l2] st ws = ai_Run 194 1 [.ref a, l1, l2] (.ref a :: st) ws := R_aload_n hc_194 dX11_pagesOf_0 rfl rfl
theorem r_194_1 (ls st : List Value) (a : Nat) (ws : ai_W) : ai_Run 194 1 ls (.ref a :: st) ws = (ai_fget ws a 11 0).bind fun q => ai_Run 194 4 ls (q :: st) ws := R_getf hc_194 dX11_pagesOf_1 hv_194 (w := 1024) rfl rfl
theorem r_194_4 (ls st : List Value) (ws : ai_W) : ai_Run 194 4 ls st ws = ai_Run 194 6 ls (.int 45 :: st) ws := R_bipush hc_194 dX11_pagesOf_4 (by decide) rfl
theorem r_194_6 (ls st : List Value) (ws : ai_W) : ai_Run 194 6 ls st ws = ai_Run 194 8 ls (.int 8 :: st) ws := R_bipush hc_194 dX11_pagesOf_6 (by decide) rfl
theorem r_194_8 (l0 l2 : Value) (a : Int32) (st : List Value) (ws : ai_W) : ai_Run 194 8 [l0, .int a, l2] st ws = ai_Run 194 9 [l0, .int a, l2] (.int a :: st) ws := R_iload_n hc_194 dX11_pagesOf_8 rfl rfl
theorem r_194_9 (ls st : List Value) (a b : Int32) (ws : ai_W) : ai_Run 194 9 ls (.int b :: .int a :: st) ws = ai_Run 194 10 ls (.int (a * b) :: st) ws := R_imul hc_194 dX11_pagesOf_9 rfl
theorem r_194_10 (ls st : List Value) (a b : Int32) (ws : ai_W) : ai_Run 194 10 ls (.int b :: .int a :: st) ws = ai_Run 194 11 ls (.int (a + b) :: st) ws := R_iadd hc_194 dX11_pagesOf_10 rfl
theorem r_194_11 (l0 l1 : Value) (a : Int32) (st : List Value) (ws : ai_W) : ai_Run 194 11 [l0, l1, .int a] st ws = ai_Run 194 12 [l0, l1, .int a] (.int a :: st) ws := R_iload_n hc_194 dX11_pagesOf_11 rfl rfl
theorem r_194_12 (ls st : List Value) (a b : Int32) (ws : ai_W) : ai_Run 194 12 ls (.int b :: .int a :: st) ws = ai_Run 194 13 ls (.int (a + b) :: st) ws := R_iadd hc_194 dX11_pagesOf_12 rfl
theorem r_194_13 (ls st : List Value) (a : Nat) (i : Int32) (ws : ai_W) : ai_Run 194 13 ls (.int i :: .ref a :: st) ws = (ai_aget ws a i).bind fun q => ai_Run 194 14 ls (.int q :: st) ws := R_iaload hc_194 dX11_pagesOf_13 rfl
theorem r_194_14 (ls : List Value) (x : Int32) (ws : ai_W) : ai_Run 194 14 ls [.int x] ws = some (some (.int x), ws) := R_iret hc_194 dX11_pagesOf_14 ht_194
theorem dX11_isDeadIn_0 : decode cX11_isDeadIn 0 = .ok (.iconst 0, 1) := by decide +kernel
theorem dX11_isDeadIn_1 : decode cX11_isDeadIn 1 = .ok (.istore_n 3, 1) := by decide +kernel
theorem dX11_isDeadIn_2 : decode cX11_isDeadIn 2 = .ok (.iload_n 3, 1) := by decide +kernel
theorem dX11_isDeadIn_3 : decode cX11_isDeadIn 3 = .ok (.aload_n 0, 1) := by decide +kernel
theorem dX11_isDeadIn_4 : decode cX11_isDeadIn 4 = .ok (.iload_n 1, 1) := by decide +kernel
theorem dX11_isDeadIn_5 : decode cX11_isDeadIn 5 = .ok (.iconst 0, 1) := by decide +kernel
theorem dX11_isDeadIn_6 : decode cX11_isDeadIn 6 = .ok (.invokevirtual 59, 3) := by decide +kernel
theorem dX11_isDeadIn_9 : decode cX11_isDeadIn 9 = .ok (.if_icmp .ge 21, 3) := by decide +kernel
theorem dX11_isDeadIn_12 : decode cX11_isDeadIn 12 = .ok (.aload_n 0, 1) := by decide +kernel
theorem dX11_isDeadIn_13 : decode cX11_isDeadIn 13 = .ok (.iload_n 1, 1) := by decide +kernel
theorem dX11_isDeadIn_14 : decode cX11_isDeadIn 14 = .ok (.iconst 1, 1) := by decide +kernel
theorem dX11_isDeadIn_15 : decode cX11_isDeadIn 15 = .ok (.iload_n 3, 1) := by decide +kernel
theorem dX11_isDeadIn_16 : decode cX11_isDeadIn 16 = .ok (.iadd, 1) := by decide +kernel
theorem dX11_isDeadIn_17 : decode cX11_isDeadIn 17 = .ok (.invokevirtual 59, 3) := by decide +kernel
theorem dX11_isDeadIn_20 : decode cX11_isDeadIn 20 = .ok (.iload_n 2, 1) := by decide +kernel
theorem dX11_isDeadIn_21 : decode cX11_isDeadIn 21 = .ok (.if_icmp .gt 9, 3) := by decide +kernel
theorem dX11_isDeadIn_24 : decode cX11_isDeadIn 24 = .ok (.iinc 3 1, 3) := by decide +kernel
theorem dX11_isDeadIn_27 : decode cX11_isDeadIn 27 = .ok (.goto (-25), 3) := by decide +kernel
theorem dX11_isDeadIn_30 : decode cX11_isDeadIn 30 = .ok (.iload_n 3, 1) := by decide +kernel
theorem dX11_isDeadIn_31 : decode cX11_isDeadIn 31 = .ok (.iconst 2, 1) := by decide +kernel
theorem dX11_isDeadIn_32 : decode cX11_isDeadIn 32 = .ok (.irem, 1) := by decide +kernel
theorem dX11_isDeadIn_33 : decode cX11_isDeadIn 33 = .ok (.iconst 1, 1) := by decide +kernel
theorem dX11_isDeadIn_34 : decode cX11_isDeadIn 34 = .ok (.if_icmp .ne 7, 3) := by decide +kernel
theorem dX11_isDeadIn_37 : decode cX11_isDeadIn 37 = .ok (.iconst 1, 1) := by decide +kernel
theorem dX11_isDeadIn_38 : decode cX11_isDeadIn 38 = .ok (.goto 4, 3) := by decide +kernel
theorem dX11_isDeadIn_41 : decode cX11_isDeadIn 41 = .ok (.iconst 0, 1) := by decide +kernel
theorem dX11_isDeadIn_42 : decode cX11_isDeadIn 42 = .ok (.ireturn, 1) := by decide +kernel
theorem e_195 (r : Nat) (a0 : Int32) (a1 : Int32) (ws : ai_W) : ai_Call 195 [.ref r, .int a0, .int a1] ws = if ai_isob ws r 11 = true then ai_Run 195 0 [.ref r, .int a0, .int a1, .null] [] ws else none := R_entV hk_195 ⟨⟨rfl, rfl⟩, Nat.le_of_ble_eq_true rfl⟩ rfl
theorem r_195_0 (ls st : List Value) (ws : ai_W) : ai_Run 195 0 ls st ws = ai_Run 195 1 ls (.int 0 :: st) ws := R_iconst hc_195 dX11_isDeadIn_0 (by decide) rfl
theorem r_195_1 (l0 l1 l2 l3 : Value) (a : Int32) (st : List Value) (ws : ai_W) : ai_Run 195 1 [l0, l1, l2, l3] (.int a :: st) ws = ai_Run 195 2 [l0, l1, l2, .int a] st ws := R_istore_n hc_195 dX11_isDeadIn_1 (Nat.le_of_ble_eq_true rfl) rfl rfl
theorem r_195_2 (l0 l1 l2 : Value) (a : Int32) (st : List Value) (ws : ai_W) : ai_Run 195 2 [l0, l1, l2, .int a] st ws = ai_Run 195 3 [l0, l1, l2, .int a] (.int a :: st) ws := R_iload_n hc_195 dX11_isDeadIn_2 rfl rfl
theorem r_195_3 (l1 l2 l3 : Value) (a : Nat) (st : List Value) (ws : ai_W) : ai_Run 195 3 [.ref a, l1, l2, l3] st ws = ai_Run 195 4 [.ref a, l1, l2, l3] (.ref a :: st) ws := R_aload_n hc_195 dX11_isDeadIn_3 rfl rfl
theorem r_195_4 (l0 l2 l3 : Value) (a : Int32) (st : List Value) (ws : ai_W) : ai_Run 195 4 [l0, .int a, l2, l3] st ws = ai_Run 195 5 [l0, .int a, l2, l3] (.int a :: st) ws := R_iload_n hc_195 dX11_isDeadIn_4 rfl rfl
theorem r_195_5 (ls st : List Value) (ws : ai_W) : ai_Run 195 5 ls st ws = ai_Run 195 6 ls (.int 0 :: st) ws := R_iconst hc_195 dX11_isDeadIn_5 (by decide) rfl
theorem r_195_6 (ls : List Value) (r : Nat) (b0 : Int32) (b1 : Int32) (s0 : Value) (ws : ai_W) : ai_Run 195 6 ls [.int b1, .int b0, .ref r, s0] ws = (ai_Call 165 [.ref r, .int b0, .int b1] ws).bind fun q => ai_Run 195 9 ls (q.1.toList ++ [s0]) q.2 := R_callV hc_195 dX11_isDeadIn_6 hv_195 (w := 1137) rfl (Nat.le_of_ble_eq_true rfl) hk_165 (by rw [hn_165]; rfl) rfl (Nat.le_of_ble_eq_true rfl) rfl
theorem r_195_9 (ls st : List Value) (a b : Int32) (ws : ai_W) : ai_Run 195 9 ls (.int b :: .int a :: st) ws = if a < b then ai_Run 195 12 ls st ws else ai_Run 195 30 ls st ws := R_cmp_ge hc_195 dX11_isDeadIn_9 rfl rfl
theorem r_195_12 (l1 l2 l3 : Value) (a : Nat) (st : List Value) (ws : ai_W) : ai_Run 195 12 [.ref a, l1, l2, l3] st ws = ai_Run 195 13 [.ref a, l1, l2, l3] (.ref a :: st) ws := R_aload_n hc_195 dX11_isDeadIn_12 rfl rfl
theorem r_195_13 (l0 l2 l3 : Value) (a : Int32) (st : List Value) (ws : ai_W) : ai_Run 195 13 [l0, .int a, l2, l3] st ws = ai_Run 195 14 [l0, .int a, l2, l3] (.int a :: st) ws := R_iload_n hc_195 dX11_isDeadIn_13 rfl rfl
theorem r_195_14 (ls st : List Value) (ws : ai_W) : ai_Run 195 14 ls st ws = ai_Run 195 15 ls (.int 1 :: st) ws := R_iconst hc_195 dX11_isDeadIn_14 (by decide) rfl
theorem r_195_15 (l0 l1 l2 : Value) (a : Int32) (st : List Value) (ws : ai_W) : ai_Run 195 15 [l0, l1, l2, .int a] st ws = ai_Run 195 16 [l0, l1, l2, .int a] (.int a :: st) ws := R_iload_n hc_195 dX11_isDeadIn_15 rfl rfl
theorem r_195_16 (ls st : List Value) (a b : Int32) (ws : ai_W) : ai_Run 195 16 ls (.int b :: .int a :: st) ws = ai_Run 195 17 ls (.int (a + b) :: st) ws := R_iadd hc_195 dX11_isDeadIn_16 rfl
theorem r_195_17 (ls : List Value) (r : Nat) (b0 : Int32) (b1 : Int32) (ws : ai_W) : ai_Run 195 17 ls [.int b1, .int b0, .ref r] ws = (ai_Call 165 [.ref r, .int b0, .int b1] ws).bind fun q => ai_Run 195 20 ls (q.1.toList ++ []) q.2 := R_callV hc_195 dX11_isDeadIn_17 hv_195 (w := 1137) rfl (Nat.le_of_ble_eq_true rfl) hk_165 (by rw [hn_165]; rfl) rfl (Nat.le_of_ble_eq_true rfl) rfl
theorem r_195_20 (l0 l1 l3 : Value) (a : Int32) (st : List Value) (ws : ai_W) : ai_Run 195 20 [l0, l1, .int a, l3] st ws = ai_Run 195 21 [l0, l1, .int a, l3] (.int a :: st) ws := R_iload_n hc_195 dX11_isDeadIn_20 rfl rfl
theorem r_195_21 (ls st : List Value) (a b : Int32) (ws : ai_W) : ai_Run 195 21 ls (.int b :: .int a :: st) ws = if b < a then ai_Run 195 30 ls st ws else ai_Run 195 24 ls st ws := R_cmp_gt hc_195 dX11_isDeadIn_21 rfl rfl
theorem r_195_24 (l0 l1 l2 : Value) (a : Int32) (st : List Value) (ws : ai_W) : ai_Run 195 24 [l0, l1, l2, .int a] st ws = ai_Run 195 27 [l0, l1, l2, .int (a + 1)] st ws := R_iinc hc_195 dX11_isDeadIn_24 rfl (by decide) rfl rfl
theorem r_195_27 (ls st : List Value) (ws : ai_W) : ai_Run 195 27 ls st ws = ai_Run 195 2 ls st ws := R_goto hc_195 dX11_isDeadIn_27 rfl
theorem r_195_30 (l0 l1 l2 : Value) (a : Int32) (st : List Value) (ws : ai_W) : ai_Run 195 30 [l0, l1, l2, .int a] st ws = ai_Run 195 31 [l0, l1, l2, .int a] (.int a :: st) ws := R_iload_n hc_195 dX11_isDeadIn_30 rfl rfl
theorem r_195_31 (ls st : List Value) (ws : ai_W) : ai_Run 195 31 ls st ws = ai_Run 195 32 ls (.int 2 :: st) ws := R_iconst hc_195 dX11_isDeadIn_31 (by decide) rfl
theorem r_195_32 (ls st : List Value) (a : Int32) (ws : ai_W) : ai_Run 195 32 ls (.int 2 :: .int a :: st) ws = ai_Run 195 33 ls (.int (a - a / 2 * 2) :: st) ws := R_irem hc_195 dX11_isDeadIn_32 (by decide) rfl
theorem r_195_33 (ls st : List Value) (ws : ai_W) : ai_Run 195 33 ls st ws = ai_Run 195 34 ls (.int 1 :: st) ws := R_iconst hc_195 dX11_isDeadIn_33 (by decide) rfl
theorem r_195_34 (ls st : List Value) (a b : Int32) (ws : ai_W) : ai_Run 195 34 ls (.int b :: .int a :: st) ws = if a = b then ai_Run 195 37 ls st ws else ai_Run 195 41 ls st ws := R_cmp_ne hc_195 dX11_isDeadIn_34 rfl rfl
theorem r_195_37 (ls st : List Value) (ws : ai_W) : ai_Run 195 37 ls st ws = ai_Run 195 38 ls (.int 1 :: st) ws := R_iconst hc_195 dX11_isDeadIn_37 (by decide) rfl
theorem r_195_38 (ls st : List Value) (ws : ai_W) : ai_Run 195 38 ls st ws = ai_Run 195 42 ls st ws := R_goto hc_195 dX11_isDeadIn_38 rfl
theorem r_195_41 (ls st : List Value) (ws : ai_W) : ai_Run 195 41 ls st ws = ai_Run 195 42 ls (.int 0 :: st) ws := R_iconst hc_195 dX11_isDeadIn_41 (by decide) rfl
theorem r_195_42 (ls : List Value) (x : Int32) (ws : ai_W) : ai_Run 195 42 ls [.int x] ws = if ai_pb x = true then some (some (.int x), ws) else none := R_zret hc_195 dX11_isDeadIn_42 ht_195
theorem dX11_could_0 : decode cX11_could 0 = .ok (.aload_n 0, 1) := by decide +kernel
theorem dX11_could_1 : decode cX11_could 1 = .ok (.iload_n 1, 1) := by decide +kernel
theorem dX11_could_2 : decode cX11_could 2 = .ok (.iload_n 2, 1) := by decide +kernel
theorem dX11_could_3 : decode cX11_could 3 = .ok (.invokevirtual 129, 3) := by decide +kernel
theorem dX11_could_6 : decode cX11_could 6 = .ok (.ifCond .le 23, 3) := by decide +kernel
theorem dX11_could_9 : decode cX11_could 9 = .ok (.aload_n 0, 1) := by decide +kernel
theorem dX11_could_10 : decode cX11_could 10 = .ok (.iload_n 1, 1) := by decide +kernel
theorem dX11_could_11 : decode cX11_could 11 = .ok (.aload_n 0, 1) := by decide +kernel
theorem dX11_could_12 : decode cX11_could 12 = .ok (.iload_n 2, 1) := by decide +kernel
theorem dX11_could_13 : decode cX11_could 13 = .ok (.iload_n 3, 1) := by decide +kernel
theorem dX11_could_14 : decode cX11_could 14 = .ok (.invokevirtual 148, 3) := by decide +kernel
theorem dX11_could_17 : decode cX11_could 17 = .ok (.iconst 1, 1) := by decide +kernel
theorem dX11_could_18 : decode cX11_could 18 = .ok (.isub, 1) := by decide +kernel
theorem dX11_could_19 : decode cX11_could 19 = .ok (.invokevirtual 151, 3) := by decide +kernel
theorem dX11_could_22 : decode cX11_could 22 = .ok (.ifCond .ne 7, 3) := by decide +kernel
theorem dX11_could_25 : decode cX11_could 25 = .ok (.iconst 1, 1) := by decide +kernel
theorem dX11_could_26 : decode cX11_could 26 = .ok (.goto 4, 3) := by decide +kernel
theorem dX11_could_29 : decode cX11_could 29 = .ok (.iconst 0, 1) := by decide +kernel
theorem dX11_could_30 : decode cX11_could 30 = .ok (.ireturn, 1) := by decide +kernel
theorem e_196 (r : Nat) (a0 : Int32) (a1 : Int32) (a2 : Int32) (ws : ai_W) : ai_Call 196 [.ref r, .int a0, .int a1, .int a2] ws = if ai_isob ws r 11 = true then ai_Run 196 0 [.ref r, .int a0, .int a1, .int a2] [] ws else none := R_entV hk_196 ⟨⟨rfl, rfl⟩, Nat.le_of_ble_eq_true rfl⟩ rfl
theorem r_196_0 (l1 l2 l3 : Value) (a : Nat) (st : List Value) (ws : ai_W) : ai_Run 196 0 [.ref a, l1, l2, l3] st ws = ai_Run 196 1 [.ref a, l1, l2, l3] (.ref a :: st) ws := R_aload_n hc_196 dX11_could_0 rfl rfl
theorem r_196_1 (l0 l2 l3 : Value) (a : Int32) (st : List Value) (ws : ai_W) : ai_Run 196 1 [l0, .int a, l2, l3] st ws = ai_Run 196 2 [l0, .int a, l2, l3] (.int a :: st) ws := R_iload_n hc_196 dX11_could_1 rfl rfl
theorem r_196_2 (l0 l1 l3 : Value) (a : Int32) (st : List Value) (ws : ai_W) : ai_Run 196 2 [l0, l1, .int a, l3] st ws = ai_Run 196 3 [l0, l1, .int a, l3] (.int a :: st) ws := R_iload_n hc_196 dX11_could_2 rfl rfl
theorem r_196_3 (ls : List Value) (r : Nat) (b0 : Int32) (b1 : Int32) (ws : ai_W) : ai_Run 196 3 ls [.int b1, .int b0, .ref r] ws = (ai_Call 194 [.ref r, .int b0, .int b1] ws).bind fun q => ai_Run 196 6 ls (q.1.toList ++ []) q.2 := R_callV hc_196 dX11_could_3 hv_196 (w := 1205) rfl (Nat.le_of_ble_eq_true rfl) hk_194 (by rw [hn_194]; rfl) rfl (Nat.le_of_ble_eq_true rfl) rfl
theorem r_196_6 (ls st : List Value) (a : Int32) (ws : ai_W) : ai_Run 196 6 ls (.int a :: st) ws = if 0 < a then ai_Run 196 9 ls st ws else ai_Run 196 29 ls st ws := R_if_le hc_196 dX11_could_6 rfl rfl
theorem r_196_9 (l1 l2 l3 : Value) (a : Nat) (st : List Value) (ws : ai_W) : ai_Run 196 9 [.ref a, l1, l2, l3] st ws = ai_Run 196 10 [.ref a, l1, l2, l3] (.ref a :: st) ws := R_aload_n hc_196 dX11_could_9 rfl rfl
theorem r_196_10 (l0 l2 l3 : Value) (a : Int32) (st : List Value) (ws : ai_W) : ai_Run 196 10 [l0, .int a, l2, l3] st ws = ai_Run 196 11 [l0, .int a, l2, l3] (.int a :: st) ws := R_iload_n hc_196 dX11_could_10 rfl rfl
theorem r_196_11 (l1 l2 l3 : Value) (a : Nat) (st : List Value) (ws : ai_W) : ai_Run 196 11 [.ref a, l1, l2, l3] st ws = ai_Run 196 12 [.ref a, l1, l2, l3] (.ref a :: st) ws := R_aload_n hc_196 dX11_could_11 rfl rfl
theorem r_196_12 (l0 l1 l3 : Value) (a : Int32) (st : List Value) (ws : ai_W) : ai_Run 196 12 [l0, l1, .int a, l3] st ws = ai_Run 196 13 [l0, l1, .int a, l3] (.int a :: st) ws := R_iload_n hc_196 dX11_could_12 rfl rfl
theorem r_196_13 (l0 l1 l2 : Value) (a : Int32) (st : List Value) (ws : ai_W) : ai_Run 196 13 [l0, l1, l2, .int a] st ws = ai_Run 196 14 [l0, l1, l2, .int a] (.int a :: st) ws := R_iload_n hc_196 dX11_could_13 rfl rfl
theorem r_196_14 (ls : List Value) (r : Nat) (b0 : Int32) (b1 : Int32) (s0 s1 : Value) (ws : ai_W) : ai_Run 196 14 ls [.int b1, .int b0, .ref r, s0, s1] ws = (ai_Call 191 [.ref r, .int b0, .int b1] ws).bind fun q => ai_Run 196 17 ls (q.1.toList ++ [s0, s1]) q.2 := R_callV hc_196 dX11_could_14 hv_196 (w := 1252) rfl (Nat.le_of_ble_eq_true rfl) hk_191 (by rw [hn_191]; rfl) rfl (Nat.le_of_ble_eq_true rfl) rfl
theorem r_196_17 (ls st : List Value) (ws : ai_W) : ai_Run 196 17 ls st ws = ai_Run 196 18 ls (.int 1 :: st) ws := R_iconst hc_196 dX11_could_17 (by decide) rfl
theorem r_196_18 (ls st : List Value) (a b : Int32) (ws : ai_W) : ai_Run 196 18 ls (.int b :: .int a :: st) ws = ai_Run 196 19 ls (.int (a - b) :: st) ws := R_isub hc_196 dX11_could_18 rfl
theorem r_196_19 (ls : List Value) (r : Nat) (b0 : Int32) (b1 : Int32) (ws : ai_W) : ai_Run 196 19 ls [.int b1, .int b0, .ref r] ws = (ai_Call 195 [.ref r, .int b0, .int b1] ws).bind fun q => ai_Run 196 22 ls (q.1.toList ++ []) q.2 := R_callV hc_196 dX11_could_19 hv_196 (w := 1256) rfl (Nat.le_of_ble_eq_true rfl) hk_195 (by rw [hn_195]; rfl) rfl (Nat.le_of_ble_eq_true rfl) rfl
theorem r_196_22 (ls st : List Value) (a : Int32) (ws : ai_W) : ai_Run 196 22 ls (.int a :: st) ws = if a = 0 then ai_Run 196 25 ls st ws else ai_Run 196 29 ls st ws := R_if_ne hc_196 dX11_could_22 rfl rfl
theorem r_196_25 (ls st : List Value) (ws : ai_W) : ai_Run 196 25 ls st ws = ai_Run 196 26 ls (.int 1 :: st) ws := R_iconst hc_196 dX11_could_25 (by decide) rfl
theorem r_196_26 (ls st : List Value) (ws : ai_W) : ai_Run 196 26 ls st ws = ai_Run 196 30 ls st ws := R_goto hc_196 dX11_could_26 rfl
theorem r_196_29 (ls st : List Value) (ws : ai_W) : ai_Run 196 29 ls st ws = ai_Run 196 30 ls (.int 0 :: st) ws := R_iconst hc_196 dX11_could_29 (by decide) rfl
theorem r_196_30 (ls : List Value) (x : Int32) (ws : ai_W) : ai_Run 196 30 ls [.int x] ws = if ai_pb x = true then some (some (.int x), ws) else none := R_zret hc_196 dX11_could_30 ht_196
theorem dX11_causers_0 : decode cX11_causers 0 = .ok (.iconst 0, 1) := by decide +kernel
theorem dX11_causers_1 : decode cX11_causers 1 = .ok (.istore_n 3, 1) := by decide +kernel
theorem dX11_causers_2 : decode cX11_causers 2 = .ok (.iconst 0, 1) := by decide +kernel
theorem dX11_causers_3 : decode cX11_causers 3 = .ok (.istore 4, 2) := by decide +kernel
theorem dX11_causers_5 : decode cX11_causers 5 = .ok (.iload 4, 2) := by decide +kernel
theorem dX11_causers_7 : decode cX11_causers 7 = .ok (.aload_n 0, 1) := by decide +kernel
theorem dX11_causers_8 : decode cX11_causers 8 = .ok (.getfield 9, 3) := by decide +kernel
theorem dX11_causers_11 : decode cX11_causers 11 = .ok (.iconst 0, 1) := by decide +kernel
theorem dX11_causers_12 : decode cX11_causers 12 = .ok (.iaload, 1) := by decide +kernel
theorem dX11_causers_13 : decode cX11_causers 13 = .ok (.if_icmp .ge 28, 3) := by decide +kernel
theorem dX11_causers_16 : decode cX11_causers 16 = .ok (.iload_n 3, 1) := by decide +kernel
theorem dX11_causers_17 : decode cX11_causers 17 = .ok (.aload_n 0, 1) := by decide +kernel
theorem dX11_causers_18 : decode cX11_causers 18 = .ok (.iload 4, 2) := by decide +kernel
theorem dX11_causers_20 : decode cX11_causers 20 = .ok (.iload_n 1, 1) := by decide +kernel
theorem dX11_causers_21 : decode cX11_causers 21 = .ok (.iload_n 2, 1) := by decide +kernel
theorem dX11_causers_22 : decode cX11_causers 22 = .ok (.invokevirtual 154, 3) := by decide +kernel
theorem dX11_causers_25 : decode cX11_causers 25 = .ok (.ifCond .eq 7, 3) := by decide +kernel
theorem dX11_causers_28 : decode cX11_causers 28 = .ok (.iconst 1, 1) := by decide +kernel
theorem dX11_causers_29 : decode cX11_causers 29 = .ok (.goto 4, 3) := by decide +kernel
theorem dX11_causers_32 : decode cX11_causers 32 = .ok (.iconst 0, 1) := by decide +kernel
theorem dX11_causers_33 : decode cX11_causers 33 = .ok (.iadd, 1) := by decide +kernel
theorem dX11_causers_34 : decode cX11_causers 34 = .ok (.istore_n 3, 1) := by decide +kernel
theorem dX11_causers_35 : decode cX11_causers 35 = .ok (.iinc 4 1, 3) := by decide +kernel
theorem dX11_causers_38 : decode cX11_causers 38 = .ok (.goto (-33), 3) := by decide +kernel
theorem dX11_causers_41 : decode cX11_causers 41 = .ok (.iload_n 3, 1) := by decide +kernel
theorem dX11_causers_42 : decode cX11_causers 42 = .ok (.ireturn, 1) := by decide +kernel
theorem e_197 (r : Nat) (a0 : Int32) (a1 : Int32) (ws : ai_W) : ai_Call 197 [.ref r, .int a0, .int a1] ws = if ai_isob ws r 11 = true then ai_Run 197 0 [.ref r, .int a0, .int a1, .null, .null] [] ws else none := R_entV hk_197 ⟨⟨rfl, rfl⟩, Nat.le_of_ble_eq_true rfl⟩ rfl
theorem r_197_0 (ls st : List Value) (ws : ai_W) : ai_Run 197 0 ls st ws = ai_Run 197 1 ls (.int 0 :: st) ws := R_iconst hc_197 dX11_causers_0 (by decide) rfl
theorem r_197_1 (l0 l1 l2 l3 l4 : Value) (a : Int32) (st : List Value) (ws : ai_W) : ai_Run 197 1 [l0, l1, l2, l3, l4] (.int a :: st) ws = ai_Run 197 2 [l0, l1, l2, .int a, l4] st ws := R_istore_n hc_197 dX11_causers_1 (Nat.le_of_ble_eq_true rfl) rfl rfl
theorem r_197_2 (ls st : List Value) (ws : ai_W) : ai_Run 197 2 ls st ws = ai_Run 197 3 ls (.int 0 :: st) ws := R_iconst hc_197 dX11_causers_2 (by decide) rfl
theorem r_197_3 (l0 l1 l2 l3 l4 : Value) (a : Int32) (st : List Value) (ws : ai_W) : ai_Run 197 3 [l0, l1, l2, l3, l4] (.int a :: st) ws = ai_Run 197 5 [l0, l1, l2, l3, .int a] st ws := R_istore hc_197 dX11_causers_3 (Nat.le_of_ble_eq_true rfl) rfl rfl
theorem r_197_5 (l0 l1 l2 l3 : Value) (a : Int32) (st : List Value) (ws : ai_W) : ai_Run 197 5 [l0, l1, l2, l3, .int a] st ws = ai_Run 197 7 [l0, l1, l2, l3, .int a] (.int a :: st) ws := R_iload hc_197 dX11_causers_5 rfl rfl
theorem r_197_7 (l1 l2 l3 l4 : Value) (a : Nat) (st : List Value) (ws : ai_W) : ai_Run 197 7 [.ref a, l1, l2, l3, l4] st ws = ai_Run 197 8 [.ref a, l1, l2, l3, l4] (.ref a :: st) ws := R_aload_n hc_197 dX11_causers_7 rfl rfl
theorem r_197_8 (ls st : List Value) (a : Nat) (ws : ai_W) : ai_Run 197 8 ls (.ref a :: st) ws = (ai_fget ws a 11 0).bind fun q => ai_Run 197 11 ls (q :: st) ws := R_getf hc_197 dX11_causers_8 hv_197 (w := 1024) rfl rfl
theorem r_197_11 (ls st : List Value) (ws : ai_W) : ai_Run 197 11 ls st ws = ai_Run 197 12 ls (.int 0 :: st) ws := R_iconst hc_197 dX11_causers_11 (by decide) rfl
theorem r_197_12 (ls st : List Value) (a : Nat) (i : Int32) (ws : ai_W) : ai_Run 197 12 ls (.int i :: .ref a :: st) ws = (ai_aget ws a i).bind fun q => ai_Run 197 13 ls (.int q :: st) ws := R_iaload hc_197 dX11_causers_12 rfl
theorem r_197_13 (ls st : List Value) (a b : Int32) (ws : ai_W) : ai_Run 197 13 ls (.int b :: .int a :: st) ws = if a < b then ai_Run 197 16 ls st ws else ai_Run 197 41 ls st ws := R_cmp_ge hc_197 dX11_causers_13 rfl rfl
theorem r_197_16 (l0 l1 l2 l4 : Value) (a : Int32) (st : List Value) (ws : ai_W) : ai_Run 197 16 [l0, l1, l2, .int a, l4] st ws = ai_Run 197 17 [l0, l1, l2, .int a, l4] (.int a :: st) ws := R_iload_n hc_197 dX11_causers_16 rfl rfl
theorem r_197_17 (l1 l2 l3 l4 : Value) (a : Nat) (st : List Value) (ws : ai_W) : ai_Run 197 17 [.ref a, l1, l2, l3, l4] st ws = ai_Run 197 18 [.ref a, l1, l2, l3, l4] (.ref a :: st) ws := R_aload_n hc_197 dX11_causers_17 rfl rfl
theorem r_197_18 (l0 l1 l2 l3 : Value) (a : Int32) (st : List Value) (ws : ai_W) : ai_Run 197 18 [l0, l1, l2, l3, .int a] st ws = ai_Run 197 20 [l0, l1, l2, l3, .int a] (.int a :: st) ws := R_iload hc_197 dX11_causers_18 rfl rfl
theorem r_197_20 (l0 l2 l3 l4 : Value) (a : Int32) (st : List Value) (ws : ai_W) : ai_Run 197 20 [l0, .int a, l2, l3, l4] st ws = ai_Run 197 21 [l0, .int a, l2, l3, l4] (.int a :: st) ws := R_iload_n hc_197 dX11_causers_20 rfl rfl
theorem r_197_21 (l0 l1 l3 l4 : Value) (a : Int32) (st : List Value) (ws : ai_W) : ai_Run 197 21 [l0, l1, .int a, l3, l4] st ws = ai_Run 197 22 [l0, l1, .int a, l3, l4] (.int a :: st) ws := R_iload_n hc_197 dX11_causers_21 rfl rfl
theorem r_197_22 (ls : List Value) (r : Nat) (b0 : Int32) (b1 : Int32) (b2 : Int32) (s0 : Value) (ws : ai_W) : ai_Run 197 22 ls [.int b2, .int b1, .int b0, .ref r, s0] ws = (ai_Call 196 [.ref r, .int b0, .int b1, .int b2] ws).bind fun q => ai_Run 197 25 ls (q.1.toList ++ [s0]) q.2 := R_callV hc_197 dX11_causers_22 hv_197 (w := 1248) rfl (Nat.le_of_ble_eq_true rfl) hk_196 (by rw [hn_196]; rfl) rfl (Nat.le_of_ble_eq_true rfl) rfl
theorem r_197_25 (ls st : List Value) (a : Int32) (ws : ai_W) : ai_Run 197 25 ls (.int a :: st) ws = if a = 0 then ai_Run 197 32 ls st ws else ai_Run 197 28 ls st ws := R_if_eq hc_197 dX11_causers_25 rfl rfl
theorem r_197_28 (ls st : List Value) (ws : ai_W) : ai_Run 197 28 ls st ws = ai_Run 197 29 ls (.int 1 :: st) ws := R_iconst hc_197 dX11_causers_28 (by decide) rfl
theorem r_197_29 (ls st : List Value) (ws : ai_W) : ai_Run 197 29 ls st ws = ai_Run 197 33 ls st ws := R_goto hc_197 dX11_causers_29 rfl
theorem r_197_32 (ls st : List Value) (ws : ai_W) : ai_Run 197 32 ls st ws = ai_Run 197 33 ls (.int 0 :: st) ws := R_iconst hc_197 dX11_causers_32 (by decide) rfl
theorem r_197_33 (ls st : List Value) (a b : Int32) (ws : ai_W) : ai_Run 197 33 ls (.int b :: .int a :: st) ws = ai_Run 197 34 ls (.int (a + b) :: st) ws := R_iadd hc_197 dX11_causers_33 rfl
theorem r_197_34 (l0 l1 l2 l3 l4 : Value) (a : Int32) (st : List Value) (ws : ai_W) : ai_Run 197 34 [l0, l1, l2, l3, l4] (.int a :: st) ws = ai_Run 197 35 [l0, l1, l2, .int a, l4] st ws := R_istore_n hc_197 dX11_causers_34 (Nat.le_of_ble_eq_true rfl) rfl rfl
theorem r_197_35 (l0 l1 l2 l3 : Value) (a : Int32) (st : List Value) (ws : ai_W) : ai_Run 197 35 [l0, l1, l2, l3, .int a] st ws = ai_Run 197 38 [l0, l1, l2, l3, .int (a + 1)] st ws := R_iinc hc_197 dX11_causers_35 rfl (by decide) rfl rfl
theorem r_197_38 (ls st : List Value) (ws : ai_W) : ai_Run 197 38 ls st ws = ai_Run 197 5 ls st ws := R_goto hc_197 dX11_causers_38 rfl
theorem r_197_41 (l0 l1 l2 l4 : Value) (a : Int32) (st : List Value) (ws : ai_W) : ai_Run 197 41 [l0, l1, l2, .int a, l4] st ws = ai_Run 197 42 [l0, l1, l2, .int a, l4] (.int a :: st) ws := R_iload_n hc_197 dX11_causers_41 rfl rfl
theorem r_197_42 (ls : List Value) (x : Int32) (ws : ai_W) : ai_Run 197 42 ls [.int x] ws = some (some (.int x), ws) := R_iret hc_197 dX11_causers_42 ht_197
theorem dX11_comes_0 : decode cX11_comes 0 = .ok (.aload_n 0, 1) := by decide +kernel
theorem dX11_comes_1 : decode cX11_comes 1 = .ok (.aload_n 0, 1) := by decide +kernel
theorem dX11_comes_2 : decode cX11_comes 2 = .ok (.getfield 9, 3) := by decide +kernel
theorem dX11_comes_5 : decode cX11_comes 5 = .ok (.iconst 0, 1) := by decide +kernel
theorem dX11_comes_6 : decode cX11_comes 6 = .ok (.iaload, 1) := by decide +kernel
theorem dX11_comes_7 : decode cX11_comes 7 = .ok (.bipush 8, 2) := by decide +kernel
theorem dX11_comes_9 : decode cX11_comes 9 = .ok (.if_icmp .ne 7, 3) := by decide +kernel
theorem dX11_comes_12 : decode cX11_comes 12 = .ok (.iconst 1, 1) := by decide +kernel
theorem dX11_comes_13 : decode cX11_comes 13 = .ok (.goto 4, 3) := by decide +kernel
theorem dX11_comes_16 : decode cX11_comes 16 = .ok (.iconst 0, 1) := by decide +kernel
theorem dX11_comes_17 : decode cX11_comes 17 = .ok (.iconst 1, 1) := by decide +kernel
theorem dX11_comes_18 : decode cX11_comes 18 = .ok (.bipush 8, 2) := by decide +kernel
theorem dX11_comes_20 : decode cX11_comes 20 = .ok (.invokevirtual 70, 3) := by decide +kernel
theorem dX11_comes_23 : decode cX11_comes 23 = .ok (.ifCond .eq 6, 3) := by decide +kernel
theorem dX11_comes_26 : decode cX11_comes 26 = .ok (.bipush (-3), 2) := by decide +kernel
theorem dX11_comes_28 : decode cX11_comes 28 = .ok (.ireturn, 1) := by decide +kernel
theorem dX11_comes_29 : decode cX11_comes 29 = .ok (.iconst 0, 1) := by decide +kernel
theorem dX11_comes_30 : decode cX11_comes 30 = .ok (.istore_n 1, 1) := by decide +kernel
theorem dX11_comes_31 : decode cX11_comes 31 = .ok (.iload_n 1, 1) := by decide +kernel
theorem dX11_comes_32 : decode cX11_comes 32 = .ok (.iconst 3, 1) := by decide +kernel
theorem dX11_comes_33 : decode cX11_comes 33 = .ok (.if_icmp .ge 25, 3) := by decide +kernel
theorem dX11_comes_36 : decode cX11_comes 36 = .ok (.aload_n 0, 1) := by decide +kernel
theorem dX11_comes_37 : decode cX11_comes 37 = .ok (.aload_n 0, 1) := by decide +kernel
theorem dX11_comes_38 : decode cX11_comes 38 = .ok (.getfield 9, 3) := by decide +kernel
theorem dX11_comes_41 : decode cX11_comes 41 = .ok (.iconst 0, 1) := by decide +kernel
theorem dX11_comes_42 : decode cX11_comes 42 = .ok (.iaload, 1) := by decide +kernel
theorem dX11_comes_43 : decode cX11_comes 43 = .ok (.bipush 7, 2) := by decide +kernel
theorem dX11_comes_45 : decode cX11_comes 45 = .ok (.iload_n 1, 1) := by decide +kernel
theorem dX11_comes_46 : decode cX11_comes 46 = .ok (.iadd, 1) := by decide +kernel
theorem dX11_comes_47 : decode cX11_comes 47 = .ok (.bipush (-4), 2) := by decide +kernel
theorem dX11_comes_49 : decode cX11_comes 49 = .ok (.invokevirtual 74, 3) := by decide +kernel
theorem dX11_comes_52 : decode cX11_comes 52 = .ok (.iinc 1 1, 3) := by decide +kernel
theorem dX11_comes_55 : decode cX11_comes 55 = .ok (.goto (-24), 3) := by decide +kernel
theorem dX11_comes_58 : decode cX11_comes 58 = .ok (.aload_n 0, 1) := by decide +kernel
theorem dX11_comes_59 : decode cX11_comes 59 = .ok (.getfield 9, 3) := by decide +kernel
theorem dX11_comes_62 : decode cX11_comes 62 = .ok (.iconst 0, 1) := by decide +kernel
theorem dX11_comes_63 : decode cX11_comes 63 = .ok (.dup2, 1) := by decide +kernel
theorem dX11_comes_64 : decode cX11_comes 64 = .ok (.iaload, 1) := by decide +kernel
theorem dX11_comes_65 : decode cX11_comes 65 = .ok (.iconst 1, 1) := by decide +kernel
theorem dX11_comes_66 : decode cX11_comes 66 = .ok (.iadd, 1) := by decide +kernel
theorem dX11_comes_67 : decode cX11_comes 67 = .ok (.iastore, 1) := by decide +kernel
theorem dX11_comes_68 : decode cX11_comes 68 = .ok (.aload_n 0, 1) := by decide +kernel
theorem dX11_comes_69 : decode cX11_comes 69 = .ok (.getfield 9, 3) := by decide +kernel
theorem dX11_comes_72 : decode cX11_comes 72 = .ok (.iconst 0, 1) := by decide +kernel
theorem dX11_comes_73 : decode cX11_comes 73 = .ok (.iaload, 1) := by decide +kernel
theorem dX11_comes_74 : decode cX11_comes 74 = .ok (.iconst 1, 1) := by decide +kernel
theorem dX11_comes_75 : decode cX11_comes 75 = .ok (.isub, 1) := by decide +kernel
theorem dX11_comes_76 : decode cX11_comes 76 = .ok (.ireturn, 1) := by decide +kernel
theorem e_198 (r : Nat)  (ws : ai_W) : ai_Call 198 [.ref r] ws = if ai_isob ws r 11 = true then ai_Run 198 0 [.ref r, .null] [] ws else none := R_entV hk_198 ⟨⟨rfl, rfl⟩, Nat.le_of_ble_eq_true rfl⟩ rfl
theorem r_198_0 (l1 : Value) (a : Nat) (st : List Value) (ws : ai_W) : ai_Run 198 0 [.ref a, l1] st ws = ai_Run 198 1 [.ref a, l1] (.ref a :: st) ws := R_aload_n hc_198 dX11_comes_0 rfl rfl
theorem r_198_1 (l1 : Value) (a : Nat) (st : List Value) (ws : ai_W) : ai_Run 198 1 [.ref a, l1] st ws = ai_Run 198 2 [.ref a, l1] (.ref a :: st) ws := R_aload_n hc_198 dX11_comes_1 rfl rfl
theorem r_198_2 (ls st : List Value) (a : Nat) (ws : ai_W) : ai_Run 198 2 ls (.ref a :: st) ws = (ai_fget ws a 11 0).bind fun q => ai_Run 198 5 ls (q :: st) ws := R_getf hc_198 dX11_comes_2 hv_198 (w := 1024) rfl rfl
theorem r_198_5 (ls st : List Value) (ws : ai_W) : ai_Run 198 5 ls st ws = ai_Run 198 6 ls (.int 0 :: st) ws := R_iconst hc_198 dX11_comes_5 (by decide) rfl
theorem r_198_6 (ls st : List Value) (a : Nat) (i : Int32) (ws : ai_W) : ai_Run 198 6 ls (.int i :: .ref a :: st) ws = (ai_aget ws a i).bind fun q => ai_Run 198 7 ls (.int q :: st) ws := R_iaload hc_198 dX11_comes_6 rfl
theorem r_198_7 (ls st : List Value) (ws : ai_W) : ai_Run 198 7 ls st ws = ai_Run 198 9 ls (.int 8 :: st) ws := R_bipush hc_198 dX11_comes_7 (by decide) rfl
theorem r_198_9 (ls st : List Value) (a b : Int32) (ws : ai_W) : ai_Run 198 9 ls (.int b :: .int a :: st) ws = if a = b then ai_Run 198 12 ls st ws else ai_Run 198 16 ls st ws := R_cmp_ne hc_198 dX11_comes_9 rfl rfl
theorem r_198_12 (ls st : List Value) (ws : ai_W) : ai_Run 198 12 ls st ws = ai_Run 198 13 ls (.int 1 :: st) ws := R_iconst hc_198 dX11_comes_12 (by decide) rfl
theorem r_198_13 (ls st : List Value) (ws : ai_W) : ai_Run 198 13 ls st ws = ai_Run 198 17 ls st ws := R_goto hc_198 dX11_comes_13 rfl
theorem r_198_16 (ls st : List Value) (ws : ai_W) : ai_Run 198 16 ls st ws = ai_Run 198 17 ls (.int 0 :: st) ws := R_iconst hc_198 dX11_comes_16 (by decide) rfl
theorem r_198_17 (ls st : List Value) (ws : ai_W) : ai_Run 198 17 ls st ws = ai_Run 198 18 ls (.int 1 :: st) ws := R_iconst hc_198 dX11_comes_17 (by decide) rfl
theorem r_198_18 (ls st : List Value) (ws : ai_W) : ai_Run 198 18 ls st ws = ai_Run 198 20 ls (.int 8 :: st) ws := R_bipush hc_198 dX11_comes_18 (by decide) rfl
theorem r_198_20 (ls : List Value) (r : Nat) (b0 : Int32) (b1 : Int32) (b2 : Int32) (ws : ai_W) : ai_Run 198 20 ls [.int b2, .int b1, .int b0, .ref r] ws = (ai_Call 183 [.ref r, .int b0, .int b1, .int b2] ws).bind fun q => ai_Run 198 23 ls (q.1.toList ++ []) q.2 := R_callV hc_198 dX11_comes_20 hv_198 (w := 1088) rfl (Nat.le_of_ble_eq_true rfl) hk_183 (by rw [hn_183]; rfl) rfl (Nat.le_of_ble_eq_true rfl) rfl
theorem r_198_23 (ls st : List Value) (a : Int32) (ws : ai_W) : ai_Run 198 23 ls (.int a :: st) ws = if a = 0 then ai_Run 198 29 ls st ws else ai_Run 198 26 ls st ws := R_if_eq hc_198 dX11_comes_23 rfl rfl
theorem r_198_26 (ls st : List Value) (ws : ai_W) : ai_Run 198 26 ls st ws = ai_Run 198 28 ls (.int (-3) :: st) ws := R_bipush hc_198 dX11_comes_26 (by decide) rfl
theorem r_198_28 (ls : List Value) (x : Int32) (ws : ai_W) : ai_Run 198 28 ls [.int x] ws = some (some (.int x), ws) := R_iret hc_198 dX11_comes_28 ht_198
theorem r_198_29 (ls st : List Value) (ws : ai_W) : ai_Run 198 29 ls st ws = ai_Run 198 30 ls (.int 0 :: st) ws := R_iconst hc_198 dX11_comes_29 (by decide) rfl
theorem r_198_30 (l0 l1 : Value) (a : Int32) (st : List Value) (ws : ai_W) : ai_Run 198 30 [l0, l1] (.int a :: st) ws = ai_Run 198 31 [l0, .int a] st ws := R_istore_n hc_198 dX11_comes_30 (Nat.le_of_ble_eq_true rfl) rfl rfl
theorem r_198_31 (l0 : Value) (a : Int32) (st : List Value) (ws : ai_W) : ai_Run 198 31 [l0, .int a] st ws = ai_Run 198 32 [l0, .int a] (.int a :: st) ws := R_iload_n hc_198 dX11_comes_31 rfl rfl
theorem r_198_32 (ls st : List Value) (ws : ai_W) : ai_Run 198 32 ls st ws = ai_Run 198 33 ls (.int 3 :: st) ws := R_iconst hc_198 dX11_comes_32 (by decide) rfl
theorem r_198_33 (ls st : List Value) (a b : Int32) (ws : ai_W) : ai_Run 198 33 ls (.int b :: .int a :: st) ws = if a < b then ai_Run 198 36 ls st ws else ai_Run 198 58 ls st ws := R_cmp_ge hc_198 dX11_comes_33 rfl rfl
theorem r_198_36 (l1 : Value) (a : Nat) (st : List Value) (ws : ai_W) : ai_Run 198 36 [.ref a, l1] st ws = ai_Run 198 37 [.ref a, l1] (.ref a :: st) ws := R_aload_n hc_198 dX11_comes_36 rfl rfl
theorem r_198_37 (l1 : Value) (a : Nat) (st : List Value) (ws : ai_W) : ai_Run 198 37 [.ref a, l1] st ws = ai_Run 198 38 [.ref a, l1] (.ref a :: st) ws := R_aload_n hc_198 dX11_comes_37 rfl rfl
theorem r_198_38 (ls st : List Value) (a : Nat) (ws : ai_W) : ai_Run 198 38 ls (.ref a :: st) ws = (ai_fget ws a 11 0).bind fun q => ai_Run 198 41 ls (q :: st) ws := R_getf hc_198 dX11_comes_38 hv_198 (w := 1024) rfl rfl
theorem r_198_41 (ls st : List Value) (ws : ai_W) : ai_Run 198 41 ls st ws = ai_Run 198 42 ls (.int 0 :: st) ws := R_iconst hc_198 dX11_comes_41 (by decide) rfl
theorem r_198_42 (ls st : List Value) (a : Nat) (i : Int32) (ws : ai_W) : ai_Run 198 42 ls (.int i :: .ref a :: st) ws = (ai_aget ws a i).bind fun q => ai_Run 198 43 ls (.int q :: st) ws := R_iaload hc_198 dX11_comes_42 rfl
theorem r_198_43 (ls st : List Value) (ws : ai_W) : ai_Run 198 43 ls st ws = ai_Run 198 45 ls (.int 7 :: st) ws := R_bipush hc_198 dX11_comes_43 (by decide) rfl
theorem r_198_45 (l0 : Value) (a : Int32) (st : List Value) (ws : ai_W) : ai_Run 198 45 [l0, .int a] st ws = ai_Run 198 46 [l0, .int a] (.int a :: st) ws := R_iload_n hc_198 dX11_comes_45 rfl rfl
theorem r_198_46 (ls st : List Value) (a b : Int32) (ws : ai_W) : ai_Run 198 46 ls (.int b :: .int a :: st) ws = ai_Run 198 47 ls (.int (a + b) :: st) ws := R_iadd hc_198 dX11_comes_46 rfl
theorem r_198_47 (ls st : List Value) (ws : ai_W) : ai_Run 198 47 ls st ws = ai_Run 198 49 ls (.int (-4) :: st) ws := R_bipush hc_198 dX11_comes_47 (by decide) rfl
theorem r_198_49 (ls : List Value) (r : Nat) (b0 : Int32) (b1 : Int32) (b2 : Int32) (ws : ai_W) : ai_Run 198 49 ls [.int b2, .int b1, .int b0, .ref r] ws = (ai_Call 177 [.ref r, .int b0, .int b1, .int b2] ws).bind fun q => ai_Run 198 52 ls (q.1.toList ++ []) q.2 := R_callV hc_198 dX11_comes_49 hv_198 (w := 1092) rfl (Nat.le_of_ble_eq_true rfl) hk_177 (by rw [hn_177]; rfl) rfl (Nat.le_of_ble_eq_true rfl) rfl
theorem r_198_52 (l0 : Value) (a : Int32) (st : List Value) (ws : ai_W) : ai_Run 198 52 [l0, .int a] st ws = ai_Run 198 55 [l0, .int (a + 1)] st ws := R_iinc hc_198 dX11_comes_52 rfl (by decide) rfl rfl
theorem r_198_55 (ls st : List Value) (ws : ai_W) : ai_Run 198 55 ls st ws = ai_Run 198 31 ls st ws := R_goto hc_198 dX11_comes_55 rfl
theorem r_198_58 (l1 : Value) (a : Nat) (st : List Value) (ws : ai_W) : ai_Run 198 58 [.ref a, l1] st ws = ai_Run 198 59 [.ref a, l1] (.ref a :: st) ws := R_aload_n hc_198 dX11_comes_58 rfl rfl
theorem r_198_59 (ls st : List Value) (a : Nat) (ws : ai_W) : ai_Run 198 59 ls (.ref a :: st) ws = (ai_fget ws a 11 0).bind fun q => ai_Run 198 62 ls (q :: st) ws := R_getf hc_198 dX11_comes_59 hv_198 (w := 1024) rfl rfl
theorem r_198_62 (ls st : List Value) (ws : ai_W) : ai_Run 198 62 ls st ws = ai_Run 198 63 ls (.int 0 :: st) ws := R_iconst hc_198 dX11_comes_62 (by decide) rfl
theorem r_198_63 (ls st : List Value) (a : Nat) (i : Int32) (ws : ai_W) : ai_Run 198 63 ls (.int i :: .ref a :: st) ws = ai_Run 198 64 ls (.int i :: .ref a :: .int i :: .ref a :: st) ws := R_dup2 hc_198 dX11_comes_63 rfl
theorem r_198_64 (ls st : List Value) (a : Nat) (i : Int32) (ws : ai_W) : ai_Run 198 64 ls (.int i :: .ref a :: st) ws = (ai_aget ws a i).bind fun q => ai_Run 198 65 ls (.int q :: st) ws := R_iaload hc_198 dX11_comes_64 rfl
theorem r_198_65 (ls st : List Value) (ws : ai_W) : ai_Run 198 65 ls st ws = ai_Run 198 66 ls (.int 1 :: st) ws := R_iconst hc_198 dX11_comes_65 (by decide) rfl
theorem r_198_66 (ls st : List Value) (a b : Int32) (ws : ai_W) : ai_Run 198 66 ls (.int b :: .int a :: st) ws = ai_Run 198 67 ls (.int (a + b) :: st) ws := R_iadd hc_198 dX11_comes_66 rfl
theorem r_198_67 (ls st : List Value) (a : Nat) (i x : Int32) (ws : ai_W) : ai_Run 198 67 ls (.int x :: .int i :: .ref a :: st) ws = (ai_aset ws a i x).bind fun ws => ai_Run 198 68 ls st ws := R_iastore hc_198 dX11_comes_67 rfl
theorem r_198_68 (l1 : Value) (a : Nat) (st : List Value) (ws : ai_W) : ai_Run 198 68 [.ref a, l1] st ws = ai_Run 198 69 [.ref a, l1] (.ref a :: st) ws := R_aload_n hc_198 dX11_comes_68 rfl rfl
theorem r_198_69 (ls st : List Value) (a : Nat) (ws : ai_W) : ai_Run 198 69 ls (.ref a :: st) ws = (ai_fget ws a 11 0).bind fun q => ai_Run 198 72 ls (q :: st) ws := R_getf hc_198 dX11_comes_69 hv_198 (w := 1024) rfl rfl
theorem r_198_72 (ls st : List Value) (ws : ai_W) : ai_Run 198 72 ls st ws = ai_Run 198 73 ls (.int 0 :: st) ws := R_iconst hc_198 dX11_comes_72 (by decide) rfl
theorem r_198_73 (ls st : List Value) (a : Nat) (i : Int32) (ws : ai_W) : ai_Run 198 73 ls (.int i :: .ref a :: st) ws = (ai_aget ws a i).bind fun q => ai_Run 198 74 ls (.int q :: st) ws := R_iaload hc_198 dX11_comes_73 rfl
theorem r_198_74 (ls st : List Value) (ws : ai_W) : ai_Run 198 74 ls st ws = ai_Run 198 75 ls (.int 1 :: st) ws := R_iconst hc_198 dX11_comes_74 (by decide) rfl
theorem r_198_75 (ls st : List Value) (a b : Int32) (ws : ai_W) : ai_Run 198 75 ls (.int b :: .int a :: st) ws = ai_Run 198 76 ls (.int (a - b) :: st) ws := R_isub hc_198 dX11_comes_75 rfl
theorem r_198_76 (ls : List Value) (x : Int32) (ws : ai_W) : ai_Run 198 76 ls [.int x] ws = some (some (.int x), ws) := R_iret hc_198 dX11_comes_76 ht_198
theorem dX11_character_0 : decode cX11_character 0 = .ok (.aload_n 0, 1) := by decide +kernel
theorem dX11_character_1 : decode cX11_character 1 = .ok (.invokevirtual 78, 3) := by decide +kernel
theorem dX11_character_4 : decode cX11_character 4 = .ok (.aload_n 0, 1) := by decide +kernel
theorem dX11_character_5 : decode cX11_character 5 = .ok (.aload_n 0, 1) := by decide +kernel
theorem dX11_character_6 : decode cX11_character 6 = .ok (.invokevirtual 81, 3) := by decide +kernel
theorem dX11_character_9 : decode cX11_character 9 = .ok (.invokevirtual 85, 3) := by decide +kernel
theorem dX11_character_12 : decode cX11_character 12 = .ok (.ireturn, 1) := by decide +kernel
theorem e_199 (r : Nat)  (ws : ai_W) : ai_Call 199 [.ref r] ws = if ai_isob ws r 11 = true then ai_Run 199 0 [.ref r] [] ws else none := R_entV hk_199 ⟨⟨rfl, rfl⟩, Nat.le_of_ble_eq_true rfl⟩ rfl
theorem r_199_0 (a : Nat) (st : List Value) (ws : ai_W) : ai_Run 199 0 [.ref a] st ws = ai_Run 199 1 [.ref a] (.ref a :: st) ws := R_aload_n hc_199 dX11_character_0 rfl rfl
theorem r_199_1 (ls : List Value) (r : Nat) (ws : ai_W) : ai_Run 199 1 ls [.ref r] ws = (ai_Call 182 [.ref r] ws).bind fun q => ai_Run 199 4 ls (q.1.toList ++ []) q.2 := R_callV hc_199 dX11_character_1 hv_199 (w := 1077) rfl (Nat.le_of_ble_eq_true rfl) hk_182 (by rw [hn_182]; rfl) rfl (Nat.le_of_ble_eq_true rfl) rfl
theorem r_199_4 (a : Nat) (st : List Value) (ws : ai_W) : ai_Run 199 4 [.ref a] st ws = ai_Run 199 5 [.ref a] (.ref a :: st) ws := R_aload_n hc_199 dX11_character_4 rfl rfl
theorem r_199_5 (a : Nat) (st : List Value) (ws : ai_W) : ai_Run 199 5 [.ref a] st ws = ai_Run 199 6 [.ref a] (.ref a :: st) ws := R_aload_n hc_199 dX11_character_5 rfl rfl
theorem r_199_6 (ls : List Value) (r : Nat) (s0 : Value) (ws : ai_W) : ai_Run 199 6 ls [.ref r, s0] ws = (ai_Call 198 [.ref r] ws).bind fun q => ai_Run 199 9 ls (q.1.toList ++ [s0]) q.2 := R_callV hc_199 dX11_character_6 hv_199 (w := 1084) rfl (Nat.le_of_ble_eq_true rfl) hk_198 (by rw [hn_198]; rfl) rfl (Nat.le_of_ble_eq_true rfl) rfl
theorem r_199_9 (ls : List Value) (r : Nat) (b0 : Int32) (ws : ai_W) : ai_Run 199 9 ls [.int b0, .ref r] ws = (ai_Call 187 [.ref r, .int b0] ws).bind fun q => ai_Run 199 12 ls (q.1.toList ++ []) q.2 := R_callV hc_199 dX11_character_9 hv_199 (w := 1096) rfl (Nat.le_of_ble_eq_true rfl) hk_187 (by rw [hn_187]; rfl) rfl (Nat.le_of_ble_eq_true rfl) rfl
theorem r_199_12 (ls : List Value) (x : Int32) (ws : ai_W) : ai_Run 199 12 ls [.int x] ws = some (some (.int x), ws) := R_iret hc_199 dX11_character_12 ht_199
theorem dX11_isCharacter_0 : decode cX11_isCharacter 0 = .ok (.iload_n 1, 1) := by decide +kernel
theorem dX11_isCharacter_1 : decode cX11_isCharacter 1 = .ok (.iconst 0, 1) := by decide +kernel
theorem dX11_isCharacter_2 : decode cX11_isCharacter 2 = .ok (.aload_n 0, 1) := by decide +kernel
theorem dX11_isCharacter_3 : decode cX11_isCharacter 3 = .ok (.getfield 9, 3) := by decide +kernel
theorem dX11_isCharacter_6 : decode cX11_isCharacter 6 = .ok (.iconst 0, 1) := by decide +kernel
theorem dX11_isCharacter_7 : decode cX11_isCharacter 7 = .ok (.iaload, 1) := by decide +kernel
theorem dX11_isCharacter_8 : decode cX11_isCharacter 8 = .ok (.iconst 1, 1) := by decide +kernel
theorem dX11_isCharacter_9 : decode cX11_isCharacter 9 = .ok (.isub, 1) := by decide +kernel
theorem dX11_isCharacter_10 : decode cX11_isCharacter 10 = .ok (.invokestatic 55, 3) := by decide +kernel
theorem dX11_isCharacter_13 : decode cX11_isCharacter 13 = .ok (.ireturn, 1) := by decide +kernel
theorem e_200 (r : Nat) (a0 : Int32) (ws : ai_W) : ai_Call 200 [.ref r, .int a0] ws = if ai_isob ws r 11 = true then ai_Run 200 0 [.ref r, .int a0] [] ws else none := R_entV hk_200 ⟨⟨rfl, rfl⟩, Nat.le_of_ble_eq_true rfl⟩ rfl
theorem r_200_0 (l0 : Value) (a : Int32) (st : List Value) (ws : ai_W) : ai_Run 200 0 [l0, .int a] st ws = ai_Run 200 1 [l0, .int a] (.int a :: st) ws := R_iload_n hc_200 dX11_isCharacter_0 rfl rfl
theorem r_200_1 (ls st : List Value) (ws : ai_W) : ai_Run 200 1 ls st ws = ai_Run 200 2 ls (.int 0 :: st) ws := R_iconst hc_200 dX11_isCharacter_1 (by decide) rfl
theorem r_200_2 (l1 : Value) (a : Nat) (st : List Value) (ws : ai_W) : ai_Run 200 2 [.ref a, l1] st ws = ai_Run 200 3 [.ref a, l1] (.ref a :: st) ws := R_aload_n hc_200 dX11_isCharacter_2 rfl rfl
theorem r_200_3 (ls st : List Value) (a : Nat) (ws : ai_W) : ai_Run 200 3 ls (.ref a :: st) ws = (ai_fget ws a 11 0).bind fun q => ai_Run 200 6 ls (q :: st) ws := R_getf hc_200 dX11_isCharacter_3 hv_200 (w := 1024) rfl rfl
theorem r_200_6 (ls st : List Value) (ws : ai_W) : ai_Run 200 6 ls st ws = ai_Run 200 7 ls (.int 0 :: st) ws := R_iconst hc_200 dX11_isCharacter_6 (by decide) rfl
theorem r_200_7 (ls st : List Value) (a : Nat) (i : Int32) (ws : ai_W) : ai_Run 200 7 ls (.int i :: .ref a :: st) ws = (ai_aget ws a i).bind fun q => ai_Run 200 8 ls (.int q :: st) ws := R_iaload hc_200 dX11_isCharacter_7 rfl
theorem r_200_8 (ls st : List Value) (ws : ai_W) : ai_Run 200 8 ls st ws = ai_Run 200 9 ls (.int 1 :: st) ws := R_iconst hc_200 dX11_isCharacter_8 (by decide) rfl
theorem r_200_9 (ls st : List Value) (a b : Int32) (ws : ai_W) : ai_Run 200 9 ls (.int b :: .int a :: st) ws = ai_Run 200 10 ls (.int (a - b) :: st) ws := R_isub hc_200 dX11_isCharacter_9 rfl
theorem r_200_10 (ls : List Value) (b0 : Int32) (b1 : Int32) (b2 : Int32) (ws : ai_W) : ai_Run 200 10 ls [.int b2, .int b1, .int b0] ws = (ai_Call 179 [.int b0, .int b1, .int b2] ws).bind fun q => ai_Run 200 13 ls (q.1.toList ++ []) q.2 := R_callS hc_200 dX11_isCharacter_10 hv_200 (w := 1127) rfl (Nat.le_of_ble_eq_true rfl) hk_179 (by rw [hn_179]; rfl) rfl (Nat.le_of_ble_eq_true rfl) rfl
theorem r_200_13 (ls : List Value) (x : Int32) (ws : ai_W) : ai_Run 200 13 ls [.int x] ws = if ai_pb x = true then some (some (.int x), ws) else none := R_zret hc_200 dX11_isCharacter_13 ht_200
theorem dX11_lives_0 : decode cX11_lives 0 = .ok (.iconst 0, 1) := by decide +kernel
theorem dX11_lives_1 : decode cX11_lives 1 = .ok (.istore_n 2, 1) := by decide +kernel
theorem dX11_lives_2 : decode cX11_lives 2 = .ok (.iconst 1, 1) := by decide +kernel
theorem dX11_lives_3 : decode cX11_lives 3 = .ok (.istore_n 3, 1) := by decide +kernel
theorem dX11_lives_4 : decode cX11_lives 4 = .ok (.iload_n 3, 1) := by decide +kernel
theorem dX11_lives_5 : decode cX11_lives 5 = .ok (.bipush 30, 2) := by decide +kernel
theorem dX11_lives_7 : decode cX11_lives 7 = .ok (.if_icmp .gt 26, 3) := by decide +kernel
theorem dX11_lives_10 : decode cX11_lives 10 = .ok (.iload_n 2, 1) := by decide +kernel
theorem dX11_lives_11 : decode cX11_lives 11 = .ok (.aload_n 0, 1) := by decide +kernel
theorem dX11_lives_12 : decode cX11_lives 12 = .ok (.iload_n 1, 1) := by decide +kernel
theorem dX11_lives_13 : decode cX11_lives 13 = .ok (.iload_n 3, 1) := by decide +kernel
theorem dX11_lives_14 : decode cX11_lives 14 = .ok (.invokevirtual 151, 3) := by decide +kernel
theorem dX11_lives_17 : decode cX11_lives 17 = .ok (.ifCond .eq 7, 3) := by decide +kernel
theorem dX11_lives_20 : decode cX11_lives 20 = .ok (.iconst 0, 1) := by decide +kernel
theorem dX11_lives_21 : decode cX11_lives 21 = .ok (.goto 4, 3) := by decide +kernel
theorem dX11_lives_24 : decode cX11_lives 24 = .ok (.iconst 1, 1) := by decide +kernel
theorem dX11_lives_25 : decode cX11_lives 25 = .ok (.iadd, 1) := by decide +kernel
theorem dX11_lives_26 : decode cX11_lives 26 = .ok (.istore_n 2, 1) := by decide +kernel
theorem dX11_lives_27 : decode cX11_lives 27 = .ok (.iinc 3 1, 3) := by decide +kernel
theorem dX11_lives_30 : decode cX11_lives 30 = .ok (.goto (-26), 3) := by decide +kernel
theorem dX11_lives_33 : decode cX11_lives 33 = .ok (.iload_n 2, 1) := by decide +kernel
theorem dX11_lives_34 : decode cX11_lives 34 = .ok (.ireturn, 1) := by decide +kernel
theorem e_201 (r : Nat) (a0 : Int32) (ws : ai_W) : ai_Call 201 [.ref r, .int a0] ws = if ai_isob ws r 11 = true then ai_Run 201 0 [.ref r, .int a0, .null, .null] [] ws else none := R_entV hk_201 ⟨⟨rfl, rfl⟩, Nat.le_of_ble_eq_true rfl⟩ rfl
theorem r_201_0 (ls st : List Value) (ws : ai_W) : ai_Run 201 0 ls st ws = ai_Run 201 1 ls (.int 0 :: st) ws := R_iconst hc_201 dX11_lives_0 (by decide) rfl
theorem r_201_1 (l0 l1 l2 l3 : Value) (a : Int32) (st : List Value) (ws : ai_W) : ai_Run 201 1 [l0, l1, l2, l3] (.int a :: st) ws = ai_Run 201 2 [l0, l1, .int a, l3] st ws := R_istore_n hc_201 dX11_lives_1 (Nat.le_of_ble_eq_true rfl) rfl rfl
theorem r_201_2 (ls st : List Value) (ws : ai_W) : ai_Run 201 2 ls st ws = ai_Run 201 3 ls (.int 1 :: st) ws := R_iconst hc_201 dX11_lives_2 (by decide) rfl
theorem r_201_3 (l0 l1 l2 l3 : Value) (a : Int32) (st : List Value) (ws : ai_W) : ai_Run 201 3 [l0, l1, l2, l3] (.int a :: st) ws = ai_Run 201 4 [l0, l1, l2, .int a] st ws := R_istore_n hc_201 dX11_lives_3 (Nat.le_of_ble_eq_true rfl) rfl rfl
theorem r_201_4 (l0 l1 l2 : Value) (a : Int32) (st : List Value) (ws : ai_W) : ai_Run 201 4 [l0, l1, l2, .int a] st ws = ai_Run 201 5 [l0, l1, l2, .int a] (.int a :: st) ws := R_iload_n hc_201 dX11_lives_4 rfl rfl
theorem r_201_5 (ls st : List Value) (ws : ai_W) : ai_Run 201 5 ls st ws = ai_Run 201 7 ls (.int 30 :: st) ws := R_bipush hc_201 dX11_lives_5 (by decide) rfl
theorem r_201_7 (ls st : List Value) (a b : Int32) (ws : ai_W) : ai_Run 201 7 ls (.int b :: .int a :: st) ws = if b < a then ai_Run 201 33 ls st ws else ai_Run 201 10 ls st ws := R_cmp_gt hc_201 dX11_lives_7 rfl rfl
theorem r_201_10 (l0 l1 l3 : Value) (a : Int32) (st : List Value) (ws : ai_W) : ai_Run 201 10 [l0, l1, .int a, l3] st ws = ai_Run 201 11 [l0, l1, .int a, l3] (.int a :: st) ws := R_iload_n hc_201 dX11_lives_10 rfl rfl
theorem r_201_11 (l1 l2 l3 : Value) (a : Nat) (st : List Value) (ws : ai_W) : ai_Run 201 11 [.ref a, l1, l2, l3] st ws = ai_Run 201 12 [.ref a, l1, l2, l3] (.ref a :: st) ws := R_aload_n hc_201 dX11_lives_11 rfl rfl
theorem r_201_12 (l0 l2 l3 : Value) (a : Int32) (st : List Value) (ws : ai_W) : ai_Run 201 12 [l0, .int a, l2, l3] st ws = ai_Run 201 13 [l0, .int a, l2, l3] (.int a :: st) ws := R_iload_n hc_201 dX11_lives_12 rfl rfl
theorem r_201_13 (l0 l1 l2 : Value) (a : Int32) (st : List Value) (ws : ai_W) : ai_Run 201 13 [l0, l1, l2, .int a] st ws = ai_Run 201 14 [l0, l1, l2, .int a] (.int a :: st) ws := R_iload_n hc_201 dX11_lives_13 rfl rfl
theorem r_201_14 (ls : List Value) (r : Nat) (b0 : Int32) (b1 : Int32) (s0 : Value) (ws : ai_W) : ai_Run 201 14 ls [.int b1, .int b0, .ref r, s0] ws = (ai_Call 195 [.ref r, .int b0, .int b1] ws).bind fun q => ai_Run 201 17 ls (q.1.toList ++ [s0]) q.2 := R_callV hc_201 dX11_lives_14 hv_201 (w := 1256) rfl (Nat.le_of_ble_eq_true rfl) hk_195 (by rw [hn_195]; rfl) rfl (Nat.le_of_ble_eq_true rfl) rfl
theorem r_201_17 (ls st : List Value) (a : Int32) (ws : ai_W) : ai_Run 201 17 ls (.int a :: st) ws = if a = 0 then ai_Run 201 24 ls st ws else ai_Run 201 20 ls st ws := R_if_eq hc_201 dX11_lives_17 rfl rfl
theorem r_201_20 (ls st : List Value) (ws : ai_W) : ai_Run 201 20 ls st ws = ai_Run 201 21 ls (.int 0 :: st) ws := R_iconst hc_201 dX11_lives_20 (by decide) rfl
theorem r_201_21 (ls st : List Value) (ws : ai_W) : ai_Run 201 21 ls st ws = ai_Run 201 25 ls st ws := R_goto hc_201 dX11_lives_21 rfl
theorem r_201_24 (ls st : List Value) (ws : ai_W) : ai_Run 201 24 ls st ws = ai_Run 201 25 ls (.int 1 :: st) ws := R_iconst hc_201 dX11_lives_24 (by decide) rfl
theorem r_201_25 (ls st : List Value) (a b : Int32) (ws : ai_W) : ai_Run 201 25 ls (.int b :: .int a :: st) ws = ai_Run 201 26 ls (.int (a + b) :: st) ws := R_iadd hc_201 dX11_lives_25 rfl
theorem r_201_26 (l0 l1 l2 l3 : Value) (a : Int32) (st : List Value) (ws : ai_W) : ai_Run 201 26 [l0, l1, l2, l3] (.int a :: st) ws = ai_Run 201 27 [l0, l1, .int a, l3] st ws := R_istore_n hc_201 dX11_lives_26 (Nat.le_of_ble_eq_true rfl) rfl rfl
theorem r_201_27 (l0 l1 l2 : Value) (a : Int32) (st : List Value) (ws : ai_W) : ai_Run 201 27 [l0, l1, l2, .int a] st ws = ai_Run 201 30 [l0, l1, l2, .int (a + 1)] st ws := R_iinc hc_201 dX11_lives_27 rfl (by decide) rfl rfl
theorem r_201_30 (ls st : List Value) (ws : ai_W) : ai_Run 201 30 ls st ws = ai_Run 201 4 ls st ws := R_goto hc_201 dX11_lives_30 rfl
theorem r_201_33 (l0 l1 l3 : Value) (a : Int32) (st : List Value) (ws : ai_W) : ai_Run 201 33 [l0, l1, .int a, l3] st ws = ai_Run 201 34 [l0, l1, .int a, l3] (.int a :: st) ws := R_iload_n hc_201 dX11_lives_33 rfl rfl
theorem r_201_34 (ls : List Value) (x : Int32) (ws : ai_W) : ai_Run 201 34 ls [.int x] ws = some (some (.int x), ws) := R_iret hc_201 dX11_lives_34 ht_201
theorem dX11_culpritMany_0 : decode cX11_culpritMany 0 = .ok (.iconst 0, 1) := by decide +kernel
theorem dX11_culpritMany_1 : decode cX11_culpritMany 1 = .ok (.istore_n 2, 1) := by decide +kernel
theorem dX11_culpritMany_2 : decode cX11_culpritMany 2 = .ok (.iconst 0, 1) := by decide +kernel
theorem dX11_culpritMany_3 : decode cX11_culpritMany 3 = .ok (.istore_n 3, 1) := by decide +kernel
theorem dX11_culpritMany_4 : decode cX11_culpritMany 4 = .ok (.iload_n 3, 1) := by decide +kernel
theorem dX11_culpritMany_5 : decode cX11_culpritMany 5 = .ok (.aload_n 0, 1) := by decide +kernel
theorem dX11_culpritMany_6 : decode cX11_culpritMany 6 = .ok (.getfield 9, 3) := by decide +kernel
theorem dX11_culpritMany_9 : decode cX11_culpritMany 9 = .ok (.iconst 0, 1) := by decide +kernel
theorem dX11_culpritMany_10 : decode cX11_culpritMany 10 = .ok (.iaload, 1) := by decide +kernel
theorem dX11_culpritMany_11 : decode cX11_culpritMany 11 = .ok (.if_icmp .ge 47, 3) := by decide +kernel
theorem dX11_culpritMany_14 : decode cX11_culpritMany 14 = .ok (.iconst 0, 1) := by decide +kernel
theorem dX11_culpritMany_15 : decode cX11_culpritMany 15 = .ok (.istore 4, 2) := by decide +kernel
theorem dX11_culpritMany_17 : decode cX11_culpritMany 17 = .ok (.iload 4, 2) := by decide +kernel
theorem dX11_culpritMany_19 : decode cX11_culpritMany 19 = .ok (.aload_n 0, 1) := by decide +kernel
theorem dX11_culpritMany_20 : decode cX11_culpritMany 20 = .ok (.iload_n 3, 1) := by decide +kernel
theorem dX11_culpritMany_21 : decode cX11_culpritMany 21 = .ok (.invokevirtual 66, 3) := by decide +kernel
theorem dX11_culpritMany_24 : decode cX11_culpritMany 24 = .ok (.if_icmp .ge 28, 3) := by decide +kernel
theorem dX11_culpritMany_27 : decode cX11_culpritMany 27 = .ok (.iload_n 2, 1) := by decide +kernel
theorem dX11_culpritMany_28 : decode cX11_culpritMany 28 = .ok (.aload_n 0, 1) := by decide +kernel
theorem dX11_culpritMany_29 : decode cX11_culpritMany 29 = .ok (.iload_n 3, 1) := by decide +kernel
theorem dX11_culpritMany_30 : decode cX11_culpritMany 30 = .ok (.iload 4, 2) := by decide +kernel
theorem dX11_culpritMany_32 : decode cX11_culpritMany 32 = .ok (.invokevirtual 166, 3) := by decide +kernel
theorem dX11_culpritMany_35 : decode cX11_culpritMany 35 = .ok (.iload_n 1, 1) := by decide +kernel
theorem dX11_culpritMany_36 : decode cX11_culpritMany 36 = .ok (.if_icmp .ne 7, 3) := by decide +kernel
theorem dX11_culpritMany_39 : decode cX11_culpritMany 39 = .ok (.iconst 1, 1) := by decide +kernel
theorem dX11_culpritMany_40 : decode cX11_culpritMany 40 = .ok (.goto 4, 3) := by decide +kernel
theorem dX11_culpritMany_43 : decode cX11_culpritMany 43 = .ok (.iconst 0, 1) := by decide +kernel
theorem dX11_culpritMany_44 : decode cX11_culpritMany 44 = .ok (.iadd, 1) := by decide +kernel
theorem dX11_culpritMany_45 : decode cX11_culpritMany 45 = .ok (.istore_n 2, 1) := by decide +kernel
theorem dX11_culpritMany_46 : decode cX11_culpritMany 46 = .ok (.iinc 4 1, 3) := by decide +kernel
theorem dX11_culpritMany_49 : decode cX11_culpritMany 49 = .ok (.goto (-32), 3) := by decide +kernel
theorem dX11_culpritMany_52 : decode cX11_culpritMany 52 = .ok (.iinc 3 1, 3) := by decide +kernel
theorem dX11_culpritMany_55 : decode cX11_culpritMany 55 = .ok (.goto (-51), 3) := by decide +kernel
theorem dX11_culpritMany_58 : decode cX11_culpritMany 58 = .ok (.iload_n 2, 1) := by decide +kernel
theorem dX11_culpritMany_59 : decode cX11_culpritMany 59 = .ok (.ireturn, 1) := by decide +kernel
theorem e_202 (r : Nat) (a0 : Int32) (ws : ai_W) : ai_Call 202 [.ref r, .int a0] ws = if ai_isob ws r 11 = true then ai_Run 202 0 [.ref r, .int a0, .null, .null, .null] [] ws else none := R_entV hk_202 ⟨⟨rfl, rfl⟩, Nat.le_of_ble_eq_true rfl⟩ rfl
theorem r_202_0 (ls st : List Value) (ws : ai_W) : ai_Run 202 0 ls st ws = ai_Run 202 1 ls (.int 0 :: st) ws := R_iconst hc_202 dX11_culpritMany_0 (by decide) rfl
theorem r_202_1 (l0 l1 l2 l3 l4 : Value) (a : Int32) (st : List Value) (ws : ai_W) : ai_Run 202 1 [l0, l1, l2, l3, l4] (.int a :: st) ws = ai_Run 202 2 [l0, l1, .int a, l3, l4] st ws := R_istore_n hc_202 dX11_culpritMany_1 (Nat.le_of_ble_eq_true rfl) rfl rfl
theorem r_202_2 (ls st : List Value) (ws : ai_W) : ai_Run 202 2 ls st ws = ai_Run 202 3 ls (.int 0 :: st) ws := R_iconst hc_202 dX11_culpritMany_2 (by decide) rfl
theorem r_202_3 (l0 l1 l2 l3 l4 : Value) (a : Int32) (st : List Value) (ws : ai_W) : ai_Run 202 3 [l0, l1, l2, l3, l4] (.int a :: st) ws = ai_Run 202 4 [l0, l1, l2, .int a, l4] st ws := R_istore_n hc_202 dX11_culpritMany_3 (Nat.le_of_ble_eq_true rfl) rfl rfl
theorem r_202_4 (l0 l1 l2 l4 : Value) (a : Int32) (st : List Value) (ws : ai_W) : ai_Run 202 4 [l0, l1, l2, .int a, l4] st ws = ai_Run 202 5 [l0, l1, l2, .int a, l4] (.int a :: st) ws := R_iload_n hc_202 dX11_culpritMany_4 rfl rfl
theorem r_202_5 (l1 l2 l3 l4 : Value) (a : Nat) (st : List Value) (ws : ai_W) : ai_Run 202 5 [.ref a, l1, l2, l3, l4] st ws = ai_Run 202 6 [.ref a, l1, l2, l3, l4] (.ref a :: st) ws := R_aload_n hc_202 dX11_culpritMany_5 rfl rfl
theorem r_202_6 (ls st : List Value) (a : Nat) (ws : ai_W) : ai_Run 202 6 ls (.ref a :: st) ws = (ai_fget ws a 11 0).bind fun q => ai_Run 202 9 ls (q :: st) ws := R_getf hc_202 dX11_culpritMany_6 hv_202 (w := 1024) rfl rfl
theorem r_202_9 (ls st : List Value) (ws : ai_W) : ai_Run 202 9 ls st ws = ai_Run 202 10 ls (.int 0 :: st) ws := R_iconst hc_202 dX11_culpritMany_9 (by decide) rfl
theorem r_202_10 (ls st : List Value) (a : Nat) (i : Int32) (ws : ai_W) : ai_Run 202 10 ls (.int i :: .ref a :: st) ws = (ai_aget ws a i).bind fun q => ai_Run 202 11 ls (.int q :: st) ws := R_iaload hc_202 dX11_culpritMany_10 rfl
theorem r_202_11 (ls st : List Value) (a b : Int32) (ws : ai_W) : ai_Run 202 11 ls (.int b :: .int a :: st) ws = if a < b then ai_Run 202 14 ls st ws else ai_Run 202 58 ls st ws := R_cmp_ge hc_202 dX11_culpritMany_11 rfl rfl
theorem r_202_14 (ls st : List Value) (ws : ai_W) : ai_Run 202 14 ls st ws = ai_Run 202 15 ls (.int 0 :: st) ws := R_iconst hc_202 dX11_culpritMany_14 (by decide) rfl
theorem r_202_15 (l0 l1 l2 l3 l4 : Value) (a : Int32) (st : List Value) (ws : ai_W) : ai_Run 202 15 [l0, l1, l2, l3, l4] (.int a :: st) ws = ai_Run 202 17 [l0, l1, l2, l3, .int a] st ws := R_istore hc_202 dX11_culpritMany_15 (Nat.le_of_ble_eq_true rfl) rfl rfl
theorem r_202_17 (l0 l1 l2 l3 : Value) (a : Int32) (st : List Value) (ws : ai_W) : ai_Run 202 17 [l0, l1, l2, l3, .int a] st ws = ai_Run 202 19 [l0, l1, l2, l3, .int a] (.int a :: st) ws := R_iload hc_202 dX11_culpritMany_17 rfl rfl
theorem r_202_19 (l1 l2 l3 l4 : Value) (a : Nat) (st : List Value) (ws : ai_W) : ai_Run 202 19 [.ref a, l1, l2, l3, l4] st ws = ai_Run 202 20 [.ref a, l1, l2, l3, l4] (.ref a :: st) ws := R_aload_n hc_202 dX11_culpritMany_19 rfl rfl
theorem r_202_20 (l0 l1 l2 l4 : Value) (a : Int32) (st : List Value) (ws : ai_W) : ai_Run 202 20 [l0, l1, l2, .int a, l4] st ws = ai_Run 202 21 [l0, l1, l2, .int a, l4] (.int a :: st) ws := R_iload_n hc_202 dX11_culpritMany_20 rfl rfl
theorem r_202_21 (ls : List Value) (r : Nat) (b0 : Int32) (s0 : Value) (ws : ai_W) : ai_Run 202 21 ls [.int b0, .ref r, s0] ws = (ai_Call 166 [.ref r, .int b0] ws).bind fun q => ai_Run 202 24 ls (q.1.toList ++ [s0]) q.2 := R_callV hc_202 dX11_culpritMany_21 hv_202 (w := 1141) rfl (Nat.le_of_ble_eq_true rfl) hk_166 (by rw [hn_166]; rfl) rfl (Nat.le_of_ble_eq_true rfl) rfl
theorem r_202_24 (ls st : List Value) (a b : Int32) (ws : ai_W) : ai_Run 202 24 ls (.int b :: .int a :: st) ws = if a < b then ai_Run 202 27 ls st ws else ai_Run 202 52 ls st ws := R_cmp_ge hc_202 dX11_culpritMany_24 rfl rfl
theorem r_202_27 (l0 l1 l3 l4 : Value) (a : Int32) (st : List Value) (ws : ai_W) : ai_Run 202 27 [l0, l1, .int a, l3, l4] st ws = ai_Run 202 28 [l0, l1, .int a, l3, l4] (.int a :: st) ws := R_iload_n hc_202 dX11_culpritMany_27 rfl rfl
theorem r_202_28 (l1 l2 l3 l4 : Value) (a : Nat) (st : List Value) (ws : ai_W) : ai_Run 202 28 [.ref a, l1, l2, l3, l4] st ws = ai_Run 202 29 [.ref a, l1, l2, l3, l4] (.ref a :: st) ws := R_aload_n hc_202 dX11_culpritMany_28 rfl rfl
theorem r_202_29 (l0 l1 l2 l4 : Value) (a : Int32) (st : List Value) (ws : ai_W) : ai_Run 202 29 [l0, l1, l2, .int a, l4] st ws = ai_Run 202 30 [l0, l1, l2, .int a, l4] (.int a :: st) ws := R_iload_n hc_202 dX11_culpritMany_29 rfl rfl
theorem r_202_30 (l0 l1 l2 l3 : Value) (a : Int32) (st : List Value) (ws : ai_W) : ai_Run 202 30 [l0, l1, l2, l3, .int a] st ws = ai_Run 202 32 [l0, l1, l2, l3, .int a] (.int a :: st) ws := R_iload hc_202 dX11_culpritMany_30 rfl rfl
theorem r_202_32 (ls : List Value) (r : Nat) (b0 : Int32) (b1 : Int32) (s0 : Value) (ws : ai_W) : ai_Run 202 32 ls [.int b1, .int b0, .ref r, s0] ws = (ai_Call 170 [.ref r, .int b0, .int b1] ws).bind fun q => ai_Run 202 35 ls (q.1.toList ++ [s0]) q.2 := R_callV hc_202 dX11_culpritMany_32 hv_202 (w := 1244) rfl (Nat.le_of_ble_eq_true rfl) hk_170 (by rw [hn_170]; rfl) rfl (Nat.le_of_ble_eq_true rfl) rfl
theorem r_202_35 (l0 l2 l3 l4 : Value) (a : Int32) (st : List Value) (ws : ai_W) : ai_Run 202 35 [l0, .int a, l2, l3, l4] st ws = ai_Run 202 36 [l0, .int a, l2, l3, l4] (.int a :: st) ws := R_iload_n hc_202 dX11_culpritMany_35 rfl rfl
theorem r_202_36 (ls st : List Value) (a b : Int32) (ws : ai_W) : ai_Run 202 36 ls (.int b :: .int a :: st) ws = if a = b then ai_Run 202 39 ls st ws else ai_Run 202 43 ls st ws := R_cmp_ne hc_202 dX11_culpritMany_36 rfl rfl
theorem r_202_39 (ls st : List Value) (ws : ai_W) : ai_Run 202 39 ls st ws = ai_Run 202 40 ls (.int 1 :: st) ws := R_iconst hc_202 dX11_culpritMany_39 (by decide) rfl
theorem r_202_40 (ls st : List Value) (ws : ai_W) : ai_Run 202 40 ls st ws = ai_Run 202 44 ls st ws := R_goto hc_202 dX11_culpritMany_40 rfl
theorem r_202_43 (ls st : List Value) (ws : ai_W) : ai_Run 202 43 ls st ws = ai_Run 202 44 ls (.int 0 :: st) ws := R_iconst hc_202 dX11_culpritMany_43 (by decide) rfl
theorem r_202_44 (ls st : List Value) (a b : Int32) (ws : ai_W) : ai_Run 202 44 ls (.int b :: .int a :: st) ws = ai_Run 202 45 ls (.int (a + b) :: st) ws := R_iadd hc_202 dX11_culpritMany_44 rfl
theorem r_202_45 (l0 l1 l2 l3 l4 : Value) (a : Int32) (st : List Value) (ws : ai_W) : ai_Run 202 45 [l0, l1, l2, l3, l4] (.int a :: st) ws = ai_Run 202 46 [l0, l1, .int a, l3, l4] st ws := R_istore_n hc_202 dX11_culpritMany_45 (Nat.le_of_ble_eq_true rfl) rfl rfl
theorem r_202_46 (l0 l1 l2 l3 : Value) (a : Int32) (st : List Value) (ws : ai_W) : ai_Run 202 46 [l0, l1, l2, l3, .int a] st ws = ai_Run 202 49 [l0, l1, l2, l3, .int (a + 1)] st ws := R_iinc hc_202 dX11_culpritMany_46 rfl (by decide) rfl rfl
theorem r_202_49 (ls st : List Value) (ws : ai_W) : ai_Run 202 49 ls st ws = ai_Run 202 17 ls st ws := R_goto hc_202 dX11_culpritMany_49 rfl
theorem r_202_52 (l0 l1 l2 l4 : Value) (a : Int32) (st : List Value) (ws : ai_W) : ai_Run 202 52 [l0, l1, l2, .int a, l4] st ws = ai_Run 202 55 [l0, l1, l2, .int (a + 1), l4] st ws := R_iinc hc_202 dX11_culpritMany_52 rfl (by decide) rfl rfl
theorem r_202_55 (ls st : List Value) (ws : ai_W) : ai_Run 202 55 ls st ws = ai_Run 202 4 ls st ws := R_goto hc_202 dX11_culpritMany_55 rfl
theorem r_202_58 (l0 l1 l3 l4 : Value) (a : Int32) (st : List Value) (ws : ai_W) : ai_Run 202 58 [l0, l1, .int a, l3, l4] st ws = ai_Run 202 59 [l0, l1, .int a, l3, l4] (.int a :: st) ws := R_iload_n hc_202 dX11_culpritMany_58 rfl rfl
theorem r_202_59 (ls : List Value) (x : Int32) (ws : ai_W) : ai_Run 202 59 ls [.int x] ws = some (some (.int x), ws) := R_iret hc_202 dX11_culpritMany_59 ht_202
theorem dX11_motives_0 : decode cX11_motives 0 = .ok (.iconst 0, 1) := by decide +kernel
theorem dX11_motives_1 : decode cX11_motives 1 = .ok (.istore_n 3, 1) := by decide +kernel
theorem dX11_motives_2 : decode cX11_motives 2 = .ok (.iconst 0, 1) := by decide +kernel
theorem dX11_motives_3 : decode cX11_motives 3 = .ok (.istore 4, 2) := by decide +kernel
theorem dX11_motives_5 : decode cX11_motives 5 = .ok (.iload 4, 2) := by decide +kernel
theorem dX11_motives_7 : decode cX11_motives 7 = .ok (.aload_n 0, 1) := by decide +kernel
theorem dX11_motives_8 : decode cX11_motives 8 = .ok (.getfield 9, 3) := by decide +kernel
theorem dX11_motives_11 : decode cX11_motives 11 = .ok (.iconst 0, 1) := by decide +kernel
theorem dX11_motives_12 : decode cX11_motives 12 = .ok (.iaload, 1) := by decide +kernel
theorem dX11_motives_13 : decode cX11_motives 13 = .ok (.if_icmp .ge 33, 3) := by decide +kernel
theorem dX11_motives_16 : decode cX11_motives 16 = .ok (.iload_n 3, 1) := by decide +kernel
theorem dX11_motives_17 : decode cX11_motives 17 = .ok (.iload_n 2, 1) := by decide +kernel
theorem dX11_motives_18 : decode cX11_motives 18 = .ok (.ifCond .eq 13, 3) := by decide +kernel
theorem dX11_motives_21 : decode cX11_motives 21 = .ok (.aload_n 0, 1) := by decide +kernel
theorem dX11_motives_22 : decode cX11_motives 22 = .ok (.iload 4, 2) := by decide +kernel
theorem dX11_motives_24 : decode cX11_motives 24 = .ok (.iload_n 1, 1) := by decide +kernel
theorem dX11_motives_25 : decode cX11_motives 25 = .ok (.invokevirtual 129, 3) := by decide +kernel
theorem dX11_motives_28 : decode cX11_motives 28 = .ok (.goto 10, 3) := by decide +kernel
theorem dX11_motives_31 : decode cX11_motives 31 = .ok (.aload_n 0, 1) := by decide +kernel
theorem dX11_motives_32 : decode cX11_motives 32 = .ok (.iload_n 1, 1) := by decide +kernel
theorem dX11_motives_33 : decode cX11_motives 33 = .ok (.iload 4, 2) := by decide +kernel
theorem dX11_motives_35 : decode cX11_motives 35 = .ok (.invokevirtual 129, 3) := by decide +kernel
theorem dX11_motives_38 : decode cX11_motives 38 = .ok (.iadd, 1) := by decide +kernel
theorem dX11_motives_39 : decode cX11_motives 39 = .ok (.istore_n 3, 1) := by decide +kernel
theorem dX11_motives_40 : decode cX11_motives 40 = .ok (.iinc 4 1, 3) := by decide +kernel
theorem dX11_motives_43 : decode cX11_motives 43 = .ok (.goto (-38), 3) := by decide +kernel
theorem dX11_motives_46 : decode cX11_motives 46 = .ok (.iload_n 3, 1) := by decide +kernel
theorem dX11_motives_47 : decode cX11_motives 47 = .ok (.ireturn, 1) := by decide +kernel
theorem e_203 (r : Nat) (a0 : Int32) (a1 : Int32) (ws : ai_W) : ai_Call 203 [.ref r, .int a0, .int a1] ws = if ai_isob ws r 11 = true then ai_Run 203 0 [.ref r, .int a0, .int a1, .null, .null] [] ws else none := R_entV hk_203 ⟨⟨rfl, rfl⟩, Nat.le_of_ble_eq_true rfl⟩ rfl
theorem r_203_0 (ls st : List Value) (ws : ai_W) : ai_Run 203 0 ls st ws = ai_Run 203 1 ls (.int 0 :: st) ws := R_iconst hc_203 dX11_motives_0 (by decide) rfl
theorem r_203_1 (l0 l1 l2 l3 l4 : Value) (a : Int32) (st : List Value) (ws : ai_W) : ai_Run 203 1 [l0, l1, l2, l3, l4] (.int a :: st) ws = ai_Run 203 2 [l0, l1, l2, .int a, l4] st ws := R_istore_n hc_203 dX11_motives_1 (Nat.le_of_ble_eq_true rfl) rfl rfl
theorem r_203_2 (ls st : List Value) (ws : ai_W) : ai_Run 203 2 ls st ws = ai_Run 203 3 ls (.int 0 :: st) ws := R_iconst hc_203 dX11_motives_2 (by decide) rfl
theorem r_203_3 (l0 l1 l2 l3 l4 : Value) (a : Int32) (st : List Value) (ws : ai_W) : ai_Run 203 3 [l0, l1, l2, l3, l4] (.int a :: st) ws = ai_Run 203 5 [l0, l1, l2, l3, .int a] st ws := R_istore hc_203 dX11_motives_3 (Nat.le_of_ble_eq_true rfl) rfl rfl
theorem r_203_5 (l0 l1 l2 l3 : Value) (a : Int32) (st : List Value) (ws : ai_W) : ai_Run 203 5 [l0, l1, l2, l3, .int a] st ws = ai_Run 203 7 [l0, l1, l2, l3, .int a] (.int a :: st) ws := R_iload hc_203 dX11_motives_5 rfl rfl
theorem r_203_7 (l1 l2 l3 l4 : Value) (a : Nat) (st : List Value) (ws : ai_W) : ai_Run 203 7 [.ref a, l1, l2, l3, l4] st ws = ai_Run 203 8 [.ref a, l1, l2, l3, l4] (.ref a :: st) ws := R_aload_n hc_203 dX11_motives_7 rfl rfl
theorem r_203_8 (ls st : List Value) (a : Nat) (ws : ai_W) : ai_Run 203 8 ls (.ref a :: st) ws = (ai_fget ws a 11 0).bind fun q => ai_Run 203 11 ls (q :: st) ws := R_getf hc_203 dX11_motives_8 hv_203 (w := 1024) rfl rfl
theorem r_203_11 (ls st : List Value) (ws : ai_W) : ai_Run 203 11 ls st ws = ai_Run 203 12 ls (.int 0 :: st) ws := R_iconst hc_203 dX11_motives_11 (by decide) rfl
theorem r_203_12 (ls st : List Value) (a : Nat) (i : Int32) (ws : ai_W) : ai_Run 203 12 ls (.int i :: .ref a :: st) ws = (ai_aget ws a i).bind fun q => ai_Run 203 13 ls (.int q :: st) ws := R_iaload hc_203 dX11_motives_12 rfl
theorem r_203_13 (ls st : List Value) (a b : Int32) (ws : ai_W) : ai_Run 203 13 ls (.int b :: .int a :: st) ws = if a < b then ai_Run 203 16 ls st ws else ai_Run 203 46 ls st ws := R_cmp_ge hc_203 dX11_motives_13 rfl rfl
theorem r_203_16 (l0 l1 l2 l4 : Value) (a : Int32) (st : List Value) (ws : ai_W) : ai_Run 203 16 [l0, l1, l2, .int a, l4] st ws = ai_Run 203 17 [l0, l1, l2, .int a, l4] (.int a :: st) ws := R_iload_n hc_203 dX11_motives_16 rfl rfl
theorem r_203_17 (l0 l1 l3 l4 : Value) (a : Int32) (st : List Value) (ws : ai_W) : ai_Run 203 17 [l0, l1, .int a, l3, l4] st ws = ai_Run 203 18 [l0, l1, .int a, l3, l4] (.int a :: st) ws := R_iload_n hc_203 dX11_motives_17 rfl rfl
theorem r_203_18 (ls st : List Value) (a : Int32) (ws : ai_W) : ai_Run 203 18 ls (.int a :: st) ws = if a = 0 then ai_Run 203 31 ls st ws else ai_Run 203 21 ls st ws := R_if_eq hc_203 dX11_motives_18 rfl rfl
theorem r_203_21 (l1 l2 l3 l4 : Value) (a : Nat) (st : List Value) (ws : ai_W) : ai_Run 203 21 [.ref a, l1, l2, l3, l4] st ws = ai_Run 203 22 [.ref a, l1, l2, l3, l4] (.ref a :: st) ws := R_aload_n hc_203 dX11_motives_21 rfl rfl
theorem r_203_22 (l0 l1 l2 l3 : Value) (a : Int32) (st : List Value) (ws : ai_W) : ai_Run 203 22 [l0, l1, l2, l3, .int a] st ws = ai_Run 203 24 [l0, l1, l2, l3, .int a] (.int a :: st) ws := R_iload hc_203 dX11_motives_22 rfl rfl
theorem r_203_24 (l0 l2 l3 l4 : Value) (a : Int32) (st : List Value) (ws : ai_W) : ai_Run 203 24 [l0, .int a, l2, l3, l4] st ws = ai_Run 203 25 [l0, .int a, l2, l3, l4] (.int a :: st) ws := R_iload_n hc_203 dX11_motives_24 rfl rfl
theorem r_203_25 (ls : List Value) (r : Nat) (b0 : Int32) (b1 : Int32) (s0 : Value) (ws : ai_W) : ai_Run 203 25 ls [.int b1, .int b0, .ref r, s0] ws = (ai_Call 194 [.ref r, .int b0, .int b1] ws).bind fun q => ai_Run 203 28 ls (q.1.toList ++ [s0]) q.2 := R_callV hc_203 dX11_motives_25 hv_203 (w := 1205) rfl (Nat.le_of_ble_eq_true rfl) hk_194 (by rw [hn_194]; rfl) rfl (Nat.le_of_ble_eq_true rfl) rfl
theorem r_203_28 (ls st : List Value) (ws : ai_W) : ai_Run 203 28 ls st ws = ai_Run 203 38 ls st ws := R_goto hc_203 dX11_motives_28 rfl
theorem r_203_31 (l1 l2 l3 l4 : Value) (a : Nat) (st : List Value) (ws : ai_W) : ai_Run 203 31 [.ref a, l1, l2, l3, l4] st ws = ai_Run 203 32 [.ref a, l1, l2, l3, l4] (.ref a :: st) ws := R_aload_n hc_203 dX11_motives_31 rfl rfl
theorem r_203_32 (l0 l2 l3 l4 : Value) (a : Int32) (st : List Value) (ws : ai_W) : ai_Run 203 32 [l0, .int a, l2, l3, l4] st ws = ai_Run 203 33 [l0, .int a, l2, l3, l4] (.int a :: st) ws := R_iload_n hc_203 dX11_motives_32 rfl rfl
theorem r_203_33 (l0 l1 l2 l3 : Value) (a : Int32) (st : List Value) (ws : ai_W) : ai_Run 203 33 [l0, l1, l2, l3, .int a] st ws = ai_Run 203 35 [l0, l1, l2, l3, .int a] (.int a :: st) ws := R_iload hc_203 dX11_motives_33 rfl rfl
theorem r_203_35 (ls : List Value) (r : Nat) (b0 : Int32) (b1 : Int32) (s0 : Value) (ws : ai_W) : ai_Run 203 35 ls [.int b1, .int b0, .ref r, s0] ws = (ai_Call 194 [.ref r, .int b0, .int b1] ws).bind fun q => ai_Run 203 38 ls (q.1.toList ++ [s0]) q.2 := R_callV hc_203 dX11_motives_35 hv_203 (w := 1205) rfl (Nat.le_of_ble_eq_true rfl) hk_194 (by rw [hn_194]; rfl) rfl (Nat.le_of_ble_eq_true rfl) rfl
theorem r_203_38 (ls st : List Value) (a b : Int32) (ws : ai_W) : ai_Run 203 38 ls (.int b :: .int a :: st) ws = ai_Run 203 39 ls (.int (a + b) :: st) ws := R_iadd hc_203 dX11_motives_38 rfl
theorem r_203_39 (l0 l1 l2 l3 l4 : Value) (a : Int32) (st : List Value) (ws : ai_W) : ai_Run 203 39 [l0, l1, l2, l3, l4] (.int a :: st) ws = ai_Run 203 40 [l0, l1, l2, .int a, l4] st ws := R_istore_n hc_203 dX11_motives_39 (Nat.le_of_ble_eq_true rfl) rfl rfl
theorem r_203_40 (l0 l1 l2 l3 : Value) (a : Int32) (st : List Value) (ws : ai_W) : ai_Run 203 40 [l0, l1, l2, l3, .int a] st ws = ai_Run 203 43 [l0, l1, l2, l3, .int (a + 1)] st ws := R_iinc hc_203 dX11_motives_40 rfl (by decide) rfl rfl
theorem r_203_43 (ls st : List Value) (ws : ai_W) : ai_Run 203 43 ls st ws = ai_Run 203 5 ls st ws := R_goto hc_203 dX11_motives_43 rfl
theorem r_203_46 (l0 l1 l2 l4 : Value) (a : Int32) (st : List Value) (ws : ai_W) : ai_Run 203 46 [l0, l1, l2, .int a, l4] st ws = ai_Run 203 47 [l0, l1, l2, .int a, l4] (.int a :: st) ws := R_iload_n hc_203 dX11_motives_46 rfl rfl
theorem r_203_47 (ls : List Value) (x : Int32) (ws : ai_W) : ai_Run 203 47 ls [.int x] ws = some (some (.int x), ws) := R_iret hc_203 dX11_motives_47 ht_203
theorem dX11_characterOf_0 : decode cX11_characterOf 0 = .ok (.aload_n 0, 1) := by decide +kernel
theorem dX11_characterOf_1 : decode cX11_characterOf 1 = .ok (.iload_n 1, 1) := by decide +kernel
theorem dX11_characterOf_2 : decode cX11_characterOf 2 = .ok (.invokevirtual 63, 3) := by decide +kernel
theorem dX11_characterOf_5 : decode cX11_characterOf 5 = .ok (.ifCond .ne 5, 3) := by decide +kernel
theorem dX11_characterOf_8 : decode cX11_characterOf 8 = .ok (.iconst (-1), 1) := by decide +kernel
theorem dX11_characterOf_9 : decode cX11_characterOf 9 = .ok (.ireturn, 1) := by decide +kernel
theorem dX11_characterOf_10 : decode cX11_characterOf 10 = .ok (.iload_n 2, 1) := by decide +kernel
theorem dX11_characterOf_11 : decode cX11_characterOf 11 = .ok (.tableswitch 88 0 6 #[41, 47, 53, 59, 65, 71, 71], 41) := by decide +kernel
theorem dX11_characterOf_52 : decode cX11_characterOf 52 = .ok (.aload_n 0, 1) := by decide +kernel
theorem dX11_characterOf_53 : decode cX11_characterOf 53 = .ok (.iload_n 1, 1) := by decide +kernel
theorem dX11_characterOf_54 : decode cX11_characterOf 54 = .ok (.invokevirtual 66, 3) := by decide +kernel
theorem dX11_characterOf_57 : decode cX11_characterOf 57 = .ok (.ireturn, 1) := by decide +kernel
theorem dX11_characterOf_58 : decode cX11_characterOf 58 = .ok (.aload_n 0, 1) := by decide +kernel
theorem dX11_characterOf_59 : decode cX11_characterOf 59 = .ok (.iload_n 1, 1) := by decide +kernel
theorem dX11_characterOf_60 : decode cX11_characterOf 60 = .ok (.invokevirtual 175, 3) := by decide +kernel
theorem dX11_characterOf_63 : decode cX11_characterOf 63 = .ok (.ireturn, 1) := by decide +kernel
theorem dX11_characterOf_64 : decode cX11_characterOf 64 = .ok (.aload_n 0, 1) := by decide +kernel
theorem dX11_characterOf_65 : decode cX11_characterOf 65 = .ok (.iload_n 1, 1) := by decide +kernel
theorem dX11_characterOf_66 : decode cX11_characterOf 66 = .ok (.invokevirtual 178, 3) := by decide +kernel
theorem dX11_characterOf_69 : decode cX11_characterOf 69 = .ok (.ireturn, 1) := by decide +kernel
theorem dX11_characterOf_70 : decode cX11_characterOf 70 = .ok (.aload_n 0, 1) := by decide +kernel
theorem dX11_characterOf_71 : decode cX11_characterOf 71 = .ok (.iload_n 1, 1) := by decide +kernel
theorem dX11_characterOf_72 : decode cX11_characterOf 72 = .ok (.invokevirtual 181, 3) := by decide +kernel
theorem dX11_characterOf_75 : decode cX11_characterOf 75 = .ok (.ireturn, 1) := by decide +kernel
theorem dX11_characterOf_76 : decode cX11_characterOf 76 = .ok (.aload_n 0, 1) := by decide +kernel
theorem dX11_characterOf_77 : decode cX11_characterOf 77 = .ok (.iload_n 1, 1) := by decide +kernel
theorem dX11_characterOf_78 : decode cX11_characterOf 78 = .ok (.invokevirtual 184, 3) := by decide +kernel
theorem dX11_characterOf_81 : decode cX11_characterOf 81 = .ok (.ireturn, 1) := by decide +kernel
theorem dX11_characterOf_82 : decode cX11_characterOf 82 = .ok (.aload_n 0, 1) := by decide +kernel
theorem dX11_characterOf_83 : decode cX11_characterOf 83 = .ok (.iload_n 1, 1) := by decide +kernel
theorem dX11_characterOf_84 : decode cX11_characterOf 84 = .ok (.iload_n 2, 1) := by decide +kernel
theorem dX11_characterOf_85 : decode cX11_characterOf 85 = .ok (.bipush 6, 2) := by decide +kernel
theorem dX11_characterOf_87 : decode cX11_characterOf 87 = .ok (.if_icmp .ne 7, 3) := by decide +kernel
theorem dX11_characterOf_90 : decode cX11_characterOf 90 = .ok (.iconst 1, 1) := by decide +kernel
theorem dX11_characterOf_91 : decode cX11_characterOf 91 = .ok (.goto 4, 3) := by decide +kernel
theorem dX11_characterOf_94 : decode cX11_characterOf 94 = .ok (.iconst 0, 1) := by decide +kernel
theorem dX11_characterOf_95 : decode cX11_characterOf 95 = .ok (.invokevirtual 187, 3) := by decide +kernel
theorem dX11_characterOf_98 : decode cX11_characterOf 98 = .ok (.ireturn, 1) := by decide +kernel
theorem dX11_characterOf_99 : decode cX11_characterOf 99 = .ok (.bipush (-2), 2) := by decide +kernel
theorem dX11_characterOf_101 : decode cX11_characterOf 101 = .ok (.ireturn, 1) := by decide +kernel
theorem e_204 (r : Nat) (a0 : Int32) (a1 : Int32) (ws : ai_W) : ai_Call 204 [.ref r, .int a0, .int a1] ws = if ai_isob ws r 11 = true then ai_Run 204 0 [.ref r, .int a0, .int a1] [] ws else none := R_entV hk_204 ⟨⟨rfl, rfl⟩, Nat.le_of_ble_eq_true rfl⟩ rfl
theorem r_204_0 (l1 l2 : Value) (a : Nat) (st : List Value) (ws : ai_W) : ai_Run 204 0 [.ref a, l1, l2] st ws = ai_Run 204 1 [.ref a, l1, l2] (.ref a :: st) ws := R_aload_n hc_204 dX11_characterOf_0 rfl rfl
theorem r_204_1 (l0 l2 : Value) (a : Int32) (st : List Value) (ws : ai_W) : ai_Run 204 1 [l0, .int a, l2] st ws = ai_Run 204 2 [l0, .int a, l2] (.int a :: st) ws := R_iload_n hc_204 dX11_characterOf_1 rfl rfl
theorem r_204_2 (ls : List Value) (r : Nat) (b0 : Int32) (ws : ai_W) : ai_Run 204 2 ls [.int b0, .ref r] ws = (ai_Call 200 [.ref r, .int b0] ws).bind fun q => ai_Run 204 5 ls (q.1.toList ++ []) q.2 := R_callV hc_204 dX11_characterOf_2 hv_204 (w := 1123) rfl (Nat.le_of_ble_eq_true rfl) hk_200 (by rw [hn_200]; rfl) rfl (Nat.le_of_ble_eq_true rfl) rfl
theorem r_204_5 (ls st : List Value) (a : Int32) (ws : ai_W) : ai_Run 204 5 ls (.int a :: st) ws = if a = 0 then ai_Run 204 8 ls st ws else ai_Run 204 10 ls st ws := R_if_ne hc_204 dX11_characterOf_5 rfl rfl
theorem r_204_8 (ls st : List Value) (ws : ai_W) : ai_Run 204 8 ls st ws = ai_Run 204 9 ls (.int (-1) :: st) ws := R_iconst hc_204 dX11_characterOf_8 (by decide) rfl
theorem r_204_9 (ls : List Value) (x : Int32) (ws : ai_W) : ai_Run 204 9 ls [.int x] ws = some (some (.int x), ws) := R_iret hc_204 dX11_characterOf_9 ht_204
theorem r_204_10 (l0 l1 : Value) (a : Int32) (st : List Value) (ws : ai_W) : ai_Run 204 10 [l0, l1, .int a] st ws = ai_Run 204 11 [l0, l1, .int a] (.int a :: st) ws := R_iload_n hc_204 dX11_characterOf_10 rfl rfl
theorem r_204_11 (ls st : List Value) (x : Int32) (ws : ai_W) : ai_Run 204 11 ls (.int x :: st) ws = if x = 0 then ai_Run 204 52 ls st ws else if x = 1 then ai_Run 204 58 ls st ws else if x = 2 then ai_Run 204 64 ls st ws else if x = 3 then ai_Run 204 70 ls st ws else if x = 4 then ai_Run 204 76 ls st ws else if x = 5 then ai_Run 204 82 ls st ws else if x = 6 then ai_Run 204 82 ls st ws else ai_Run 204 99 ls st ws := by
  by_cases h0 : x = 0
  · subst h0; rw [if_pos rfl]; exact R_switch hc_204 dX11_characterOf_11 (by decide +kernel)
  rw [if_neg h0]
  by_cases h1 : x = 1
  · subst h1; rw [if_pos rfl]; exact R_switch hc_204 dX11_characterOf_11 (by decide +kernel)
  rw [if_neg h1]
  by_cases h2 : x = 2
  · subst h2; rw [if_pos rfl]; exact R_switch hc_204 dX11_characterOf_11 (by decide +kernel)
  rw [if_neg h2]
  by_cases h3 : x = 3
  · subst h3; rw [if_pos rfl]; exact R_switch hc_204 dX11_characterOf_11 (by decide +kernel)
  rw [if_neg h3]
  by_cases h4 : x = 4
  · subst h4; rw [if_pos rfl]; exact R_switch hc_204 dX11_characterOf_11 (by decide +kernel)
  rw [if_neg h4]
  by_cases h5 : x = 5
  · subst h5; rw [if_pos rfl]; exact R_switch hc_204 dX11_characterOf_11 (by decide +kernel)
  rw [if_neg h5]
  by_cases h6 : x = 6
  · subst h6; rw [if_pos rfl]; exact R_switch hc_204 dX11_characterOf_11 (by decide +kernel)
  rw [if_neg h6]
  have q0 : x.toInt ≠ 0 := fun e => h0 (Int32.toInt_inj.mp e)
  have q1 : x.toInt ≠ 1 := fun e => h1 (Int32.toInt_inj.mp e)
  have q2 : x.toInt ≠ 2 := fun e => h2 (Int32.toInt_inj.mp e)
  have q3 : x.toInt ≠ 3 := fun e => h3 (Int32.toInt_inj.mp e)
  have q4 : x.toInt ≠ 4 := fun e => h4 (Int32.toInt_inj.mp e)
  have q5 : x.toInt ≠ 5 := fun e => h5 (Int32.toInt_inj.mp e)
  have q6 : x.toInt ≠ 6 := fun e => h6 (Int32.toInt_inj.mp e)
  refine R_switch hc_204 dX11_characterOf_11 (t := 99) ?_
  unfold ai_sw
  rw [if_pos (by omega)]
  rfl
theorem r_204_52 (l1 l2 : Value) (a : Nat) (st : List Value) (ws : ai_W) : ai_Run 204 52 [.ref a, l1, l2] st ws = ai_Run 204 53 [.ref a, l1, l2] (.ref a :: st) ws := R_aload_n hc_204 dX11_characterOf_52 rfl rfl
theorem r_204_53 (l0 l2 : Value) (a : Int32) (st : List Value) (ws : ai_W) : ai_Run 204 53 [l0, .int a, l2] st ws = ai_Run 204 54 [l0, .int a, l2] (.int a :: st) ws := R_iload_n hc_204 dX11_characterOf_53 rfl rfl
theorem r_204_54 (ls : List Value) (r : Nat) (b0 : Int32) (ws : ai_W) : ai_Run 204 54 ls [.int b0, .ref r] ws = (ai_Call 166 [.ref r, .int b0] ws).bind fun q => ai_Run 204 57 ls (q.1.toList ++ []) q.2 := R_callV hc_204 dX11_characterOf_54 hv_204 (w := 1141) rfl (Nat.le_of_ble_eq_true rfl) hk_166 (by rw [hn_166]; rfl) rfl (Nat.le_of_ble_eq_true rfl) rfl
theorem r_204_57 (ls : List Value) (x : Int32) (ws : ai_W) : ai_Run 204 57 ls [.int x] ws = some (some (.int x), ws) := R_iret hc_204 dX11_characterOf_57 ht_204
theorem r_204_58 (l1 l2 : Value) (a : Nat) (st : List Value) (ws : ai_W) : ai_Run 204 58 [.ref a, l1, l2] st ws = ai_Run 204 59 [.ref a, l1, l2] (.ref a :: st) ws := R_aload_n hc_204 dX11_characterOf_58 rfl rfl
theorem r_204_59 (l0 l2 : Value) (a : Int32) (st : List Value) (ws : ai_W) : ai_Run 204 59 [l0, .int a, l2] st ws = ai_Run 204 60 [l0, .int a, l2] (.int a :: st) ws := R_iload_n hc_204 dX11_characterOf_59 rfl rfl
theorem r_204_60 (ls : List Value) (r : Nat) (b0 : Int32) (ws : ai_W) : ai_Run 204 60 ls [.int b0, .ref r] ws = (ai_Call 168 [.ref r, .int b0] ws).bind fun q => ai_Run 204 63 ls (q.1.toList ++ []) q.2 := R_callV hc_204 dX11_characterOf_60 hv_204 (w := 1284) rfl (Nat.le_of_ble_eq_true rfl) hk_168 (by rw [hn_168]; rfl) rfl (Nat.le_of_ble_eq_true rfl) rfl
theorem r_204_63 (ls : List Value) (x : Int32) (ws : ai_W) : ai_Run 204 63 ls [.int x] ws = some (some (.int x), ws) := R_iret hc_204 dX11_characterOf_63 ht_204
theorem r_204_64 (l1 l2 : Value) (a : Nat) (st : List Value) (ws : ai_W) : ai_Run 204 64 [.ref a, l1, l2] st ws = ai_Run 204 65 [.ref a, l1, l2] (.ref a :: st) ws := R_aload_n hc_204 dX11_characterOf_64 rfl rfl
theorem r_204_65 (l0 l2 : Value) (a : Int32) (st : List Value) (ws : ai_W) : ai_Run 204 65 [l0, .int a, l2] st ws = ai_Run 204 66 [l0, .int a, l2] (.int a :: st) ws := R_iload_n hc_204 dX11_characterOf_65 rfl rfl
theorem r_204_66 (ls : List Value) (r : Nat) (b0 : Int32) (ws : ai_W) : ai_Run 204 66 ls [.int b0, .ref r] ws = (ai_Call 201 [.ref r, .int b0] ws).bind fun q => ai_Run 204 69 ls (q.1.toList ++ []) q.2 := R_callV hc_204 dX11_characterOf_66 hv_204 (w := 1288) rfl (Nat.le_of_ble_eq_true rfl) hk_201 (by rw [hn_201]; rfl) rfl (Nat.le_of_ble_eq_true rfl) rfl
theorem r_204_69 (ls : List Value) (x : Int32) (ws : ai_W) : ai_Run 204 69 ls [.int x] ws = some (some (.int x), ws) := R_iret hc_204 dX11_characterOf_69 ht_204
theorem r_204_70 (l1 l2 : Value) (a : Nat) (st : List Value) (ws : ai_W) : ai_Run 204 70 [.ref a, l1, l2] st ws = ai_Run 204 71 [.ref a, l1, l2] (.ref a :: st) ws := R_aload_n hc_204 dX11_characterOf_70 rfl rfl
theorem r_204_71 (l0 l2 : Value) (a : Int32) (st : List Value) (ws : ai_W) : ai_Run 204 71 [l0, .int a, l2] st ws = ai_Run 204 72 [l0, .int a, l2] (.int a :: st) ws := R_iload_n hc_204 dX11_characterOf_71 rfl rfl
theorem r_204_72 (ls : List Value) (r : Nat) (b0 : Int32) (ws : ai_W) : ai_Run 204 72 ls [.int b0, .ref r] ws = (ai_Call 171 [.ref r, .int b0] ws).bind fun q => ai_Run 204 75 ls (q.1.toList ++ []) q.2 := R_callV hc_204 dX11_characterOf_72 hv_204 (w := 1292) rfl (Nat.le_of_ble_eq_true rfl) hk_171 (by rw [hn_171]; rfl) rfl (Nat.le_of_ble_eq_true rfl) rfl
theorem r_204_75 (ls : List Value) (x : Int32) (ws : ai_W) : ai_Run 204 75 ls [.int x] ws = some (some (.int x), ws) := R_iret hc_204 dX11_characterOf_75 ht_204
theorem r_204_76 (l1 l2 : Value) (a : Nat) (st : List Value) (ws : ai_W) : ai_Run 204 76 [.ref a, l1, l2] st ws = ai_Run 204 77 [.ref a, l1, l2] (.ref a :: st) ws := R_aload_n hc_204 dX11_characterOf_76 rfl rfl
theorem r_204_77 (l0 l2 : Value) (a : Int32) (st : List Value) (ws : ai_W) : ai_Run 204 77 [l0, .int a, l2] st ws = ai_Run 204 78 [l0, .int a, l2] (.int a :: st) ws := R_iload_n hc_204 dX11_characterOf_77 rfl rfl
theorem r_204_78 (ls : List Value) (r : Nat) (b0 : Int32) (ws : ai_W) : ai_Run 204 78 ls [.int b0, .ref r] ws = (ai_Call 202 [.ref r, .int b0] ws).bind fun q => ai_Run 204 81 ls (q.1.toList ++ []) q.2 := R_callV hc_204 dX11_characterOf_78 hv_204 (w := 1296) rfl (Nat.le_of_ble_eq_true rfl) hk_202 (by rw [hn_202]; rfl) rfl (Nat.le_of_ble_eq_true rfl) rfl
theorem r_204_81 (ls : List Value) (x : Int32) (ws : ai_W) : ai_Run 204 81 ls [.int x] ws = some (some (.int x), ws) := R_iret hc_204 dX11_characterOf_81 ht_204
theorem r_204_82 (l1 l2 : Value) (a : Nat) (st : List Value) (ws : ai_W) : ai_Run 204 82 [.ref a, l1, l2] st ws = ai_Run 204 83 [.ref a, l1, l2] (.ref a :: st) ws := R_aload_n hc_204 dX11_characterOf_82 rfl rfl
theorem r_204_83 (l0 l2 : Value) (a : Int32) (st : List Value) (ws : ai_W) : ai_Run 204 83 [l0, .int a, l2] st ws = ai_Run 204 84 [l0, .int a, l2] (.int a :: st) ws := R_iload_n hc_204 dX11_characterOf_83 rfl rfl
theorem r_204_84 (l0 l1 : Value) (a : Int32) (st : List Value) (ws : ai_W) : ai_Run 204 84 [l0, l1, .int a] st ws = ai_Run 204 85 [l0, l1, .int a] (.int a :: st) ws := R_iload_n hc_204 dX11_characterOf_84 rfl rfl
theorem r_204_85 (ls st : List Value) (ws : ai_W) : ai_Run 204 85 ls st ws = ai_Run 204 87 ls (.int 6 :: st) ws := R_bipush hc_204 dX11_characterOf_85 (by decide) rfl
theorem r_204_87 (ls st : List Value) (a b : Int32) (ws : ai_W) : ai_Run 204 87 ls (.int b :: .int a :: st) ws = if a = b then ai_Run 204 90 ls st ws else ai_Run 204 94 ls st ws := R_cmp_ne hc_204 dX11_characterOf_87 rfl rfl
theorem r_204_90 (ls st : List Value) (ws : ai_W) : ai_Run 204 90 ls st ws = ai_Run 204 91 ls (.int 1 :: st) ws := R_iconst hc_204 dX11_characterOf_90 (by decide) rfl
theorem r_204_91 (ls st : List Value) (ws : ai_W) : ai_Run 204 91 ls st ws = ai_Run 204 95 ls st ws := R_goto hc_204 dX11_characterOf_91 rfl
theorem r_204_94 (ls st : List Value) (ws : ai_W) : ai_Run 204 94 ls st ws = ai_Run 204 95 ls (.int 0 :: st) ws := R_iconst hc_204 dX11_characterOf_94 (by decide) rfl
theorem r_204_95 (ls : List Value) (r : Nat) (b0 : Int32) (b1 : Int32) (ws : ai_W) : ai_Run 204 95 ls [.int b1, .int b0, .ref r] ws = (ai_Call 203 [.ref r, .int b0, .int b1] ws).bind fun q => ai_Run 204 98 ls (q.1.toList ++ []) q.2 := R_callV hc_204 dX11_characterOf_95 hv_204 (w := 1300) rfl (Nat.le_of_ble_eq_true rfl) hk_203 (by rw [hn_203]; rfl) rfl (Nat.le_of_ble_eq_true rfl) rfl
theorem r_204_98 (ls : List Value) (x : Int32) (ws : ai_W) : ai_Run 204 98 ls [.int x] ws = some (some (.int x), ws) := R_iret hc_204 dX11_characterOf_98 ht_204
theorem r_204_99 (ls st : List Value) (ws : ai_W) : ai_Run 204 99 ls st ws = ai_Run 204 101 ls (.int (-2) :: st) ws := R_bipush hc_204 dX11_characterOf_99 (by decide) rfl
theorem r_204_101 (ls : List Value) (x : Int32) (ws : ai_W) : ai_Run 204 101 ls [.int x] ws = some (some (.int x), ws) := R_iret hc_204 dX11_characterOf_101 ht_204
theorem dX11_deadMany_0 : decode cX11_deadMany 0 = .ok (.iconst 0, 1) := by decide +kernel
theorem dX11_deadMany_1 : decode cX11_deadMany 1 = .ok (.istore_n 2, 1) := by decide +kernel
theorem dX11_deadMany_2 : decode cX11_deadMany 2 = .ok (.iconst 0, 1) := by decide +kernel
theorem dX11_deadMany_3 : decode cX11_deadMany 3 = .ok (.istore_n 3, 1) := by decide +kernel
theorem dX11_deadMany_4 : decode cX11_deadMany 4 = .ok (.iload_n 3, 1) := by decide +kernel
theorem dX11_deadMany_5 : decode cX11_deadMany 5 = .ok (.aload_n 0, 1) := by decide +kernel
theorem dX11_deadMany_6 : decode cX11_deadMany 6 = .ok (.getfield 9, 3) := by decide +kernel
theorem dX11_deadMany_9 : decode cX11_deadMany 9 = .ok (.iconst 0, 1) := by decide +kernel
theorem dX11_deadMany_10 : decode cX11_deadMany 10 = .ok (.iaload, 1) := by decide +kernel
theorem dX11_deadMany_11 : decode cX11_deadMany 11 = .ok (.if_icmp .ge 26, 3) := by decide +kernel
theorem dX11_deadMany_14 : decode cX11_deadMany 14 = .ok (.iload_n 2, 1) := by decide +kernel
theorem dX11_deadMany_15 : decode cX11_deadMany 15 = .ok (.aload_n 0, 1) := by decide +kernel
theorem dX11_deadMany_16 : decode cX11_deadMany 16 = .ok (.iload_n 3, 1) := by decide +kernel
theorem dX11_deadMany_17 : decode cX11_deadMany 17 = .ok (.iload_n 1, 1) := by decide +kernel
theorem dX11_deadMany_18 : decode cX11_deadMany 18 = .ok (.invokevirtual 151, 3) := by decide +kernel
theorem dX11_deadMany_21 : decode cX11_deadMany 21 = .ok (.ifCond .eq 7, 3) := by decide +kernel
theorem dX11_deadMany_24 : decode cX11_deadMany 24 = .ok (.iconst 1, 1) := by decide +kernel
theorem dX11_deadMany_25 : decode cX11_deadMany 25 = .ok (.goto 4, 3) := by decide +kernel
theorem dX11_deadMany_28 : decode cX11_deadMany 28 = .ok (.iconst 0, 1) := by decide +kernel
theorem dX11_deadMany_29 : decode cX11_deadMany 29 = .ok (.iadd, 1) := by decide +kernel
theorem dX11_deadMany_30 : decode cX11_deadMany 30 = .ok (.istore_n 2, 1) := by decide +kernel
theorem dX11_deadMany_31 : decode cX11_deadMany 31 = .ok (.iinc 3 1, 3) := by decide +kernel
theorem dX11_deadMany_34 : decode cX11_deadMany 34 = .ok (.goto (-30), 3) := by decide +kernel
theorem dX11_deadMany_37 : decode cX11_deadMany 37 = .ok (.iload_n 2, 1) := by decide +kernel
theorem dX11_deadMany_38 : decode cX11_deadMany 38 = .ok (.ireturn, 1) := by decide +kernel
theorem e_205 (r : Nat) (a0 : Int32) (ws : ai_W) : ai_Call 205 [.ref r, .int a0] ws = if ai_isob ws r 11 = true then ai_Run 205 0 [.ref r, .int a0, .null, .null] [] ws else none := R_entV hk_205 ⟨⟨rfl, rfl⟩, Nat.le_of_ble_eq_true rfl⟩ rfl
theorem r_205_0 (ls st : List Value) (ws : ai_W) : ai_Run 205 0 ls st ws = ai_Run 205 1 ls (.int 0 :: st) ws := R_iconst hc_205 dX11_deadMany_0 (by decide) rfl
theorem r_205_1 (l0 l1 l2 l3 : Value) (a : Int32) (st : List Value) (ws : ai_W) : ai_Run 205 1 [l0, l1, l2, l3] (.int a :: st) ws = ai_Run 205 2 [l0, l1, .int a, l3] st ws := R_istore_n hc_205 dX11_deadMany_1 (Nat.le_of_ble_eq_true rfl) rfl rfl
theorem r_205_2 (ls st : List Value) (ws : ai_W) : ai_Run 205 2 ls st ws = ai_Run 205 3 ls (.int 0 :: st) ws := R_iconst hc_205 dX11_deadMany_2 (by decide) rfl
theorem r_205_3 (l0 l1 l2 l3 : Value) (a : Int32) (st : List Value) (ws : ai_W) : ai_Run 205 3 [l0, l1, l2, l3] (.int a :: st) ws = ai_Run 205 4 [l0, l1, l2, .int a] st ws := R_istore_n hc_205 dX11_deadMany_3 (Nat.le_of_ble_eq_true rfl) rfl rfl
theorem r_205_4 (l0 l1 l2 : Value) (a : Int32) (st : List Value) (ws : ai_W) : ai_Run 205 4 [l0, l1, l2, .int a] st ws = ai_Run 205 5 [l0, l1, l2, .int a] (.int a :: st) ws := R_iload_n hc_205 dX11_deadMany_4 rfl rfl
theorem r_205_5 (l1 l2 l3 : Value) (a : Nat) (st : List Value) (ws : ai_W) : ai_Run 205 5 [.ref a, l1, l2, l3] st ws = ai_Run 205 6 [.ref a, l1, l2, l3] (.ref a :: st) ws := R_aload_n hc_205 dX11_deadMany_5 rfl rfl
theorem r_205_6 (ls st : List Value) (a : Nat) (ws : ai_W) : ai_Run 205 6 ls (.ref a :: st) ws = (ai_fget ws a 11 0).bind fun q => ai_Run 205 9 ls (q :: st) ws := R_getf hc_205 dX11_deadMany_6 hv_205 (w := 1024) rfl rfl
theorem r_205_9 (ls st : List Value) (ws : ai_W) : ai_Run 205 9 ls st ws = ai_Run 205 10 ls (.int 0 :: st) ws := R_iconst hc_205 dX11_deadMany_9 (by decide) rfl
theorem r_205_10 (ls st : List Value) (a : Nat) (i : Int32) (ws : ai_W) : ai_Run 205 10 ls (.int i :: .ref a :: st) ws = (ai_aget ws a i).bind fun q => ai_Run 205 11 ls (.int q :: st) ws := R_iaload hc_205 dX11_deadMany_10 rfl
theorem r_205_11 (ls st : List Value) (a b : Int32) (ws : ai_W) : ai_Run 205 11 ls (.int b :: .int a :: st) ws = if a < b then ai_Run 205 14 ls st ws else ai_Run 205 37 ls st ws := R_cmp_ge hc_205 dX11_deadMany_11 rfl rfl
theorem r_205_14 (l0 l1 l3 : Value) (a : Int32) (st : List Value) (ws : ai_W) : ai_Run 205 14 [l0, l1, .int a, l3] st ws = ai_Run 205 15 [l0, l1, .int a, l3] (.int a :: st) ws := R_iload_n hc_205 dX11_deadMany_14 rfl rfl
theorem r_205_15 (l1 l2 l3 : Value) (a : Nat) (st : List Value) (ws : ai_W) : ai_Run 205 15 [.ref a, l1, l2, l3] st ws = ai_Run 205 16 [.ref a, l1, l2, l3] (.ref a :: st) ws := R_aload_n hc_205 dX11_deadMany_15 rfl rfl
theorem r_205_16 (l0 l1 l2 : Value) (a : Int32) (st : List Value) (ws : ai_W) : ai_Run 205 16 [l0, l1, l2, .int a] st ws = ai_Run 205 17 [l0, l1, l2, .int a] (.int a :: st) ws := R_iload_n hc_205 dX11_deadMany_16 rfl rfl
theorem r_205_17 (l0 l2 l3 : Value) (a : Int32) (st : List Value) (ws : ai_W) : ai_Run 205 17 [l0, .int a, l2, l3] st ws = ai_Run 205 18 [l0, .int a, l2, l3] (.int a :: st) ws := R_iload_n hc_205 dX11_deadMany_17 rfl rfl
theorem r_205_18 (ls : List Value) (r : Nat) (b0 : Int32) (b1 : Int32) (s0 : Value) (ws : ai_W) : ai_Run 205 18 ls [.int b1, .int b0, .ref r, s0] ws = (ai_Call 195 [.ref r, .int b0, .int b1] ws).bind fun q => ai_Run 205 21 ls (q.1.toList ++ [s0]) q.2 := R_callV hc_205 dX11_deadMany_18 hv_205 (w := 1256) rfl (Nat.le_of_ble_eq_true rfl) hk_195 (by rw [hn_195]; rfl) rfl (Nat.le_of_ble_eq_true rfl) rfl
theorem r_205_21 (ls st : List Value) (a : Int32) (ws : ai_W) : ai_Run 205 21 ls (.int a :: st) ws = if a = 0 then ai_Run 205 28 ls st ws else ai_Run 205 24 ls st ws := R_if_eq hc_205 dX11_deadMany_21 rfl rfl
theorem r_205_24 (ls st : List Value) (ws : ai_W) : ai_Run 205 24 ls st ws = ai_Run 205 25 ls (.int 1 :: st) ws := R_iconst hc_205 dX11_deadMany_24 (by decide) rfl
theorem r_205_25 (ls st : List Value) (ws : ai_W) : ai_Run 205 25 ls st ws = ai_Run 205 29 ls st ws := R_goto hc_205 dX11_deadMany_25 rfl
theorem r_205_28 (ls st : List Value) (ws : ai_W) : ai_Run 205 28 ls st ws = ai_Run 205 29 ls (.int 0 :: st) ws := R_iconst hc_205 dX11_deadMany_28 (by decide) rfl
theorem r_205_29 (ls st : List Value) (a b : Int32) (ws : ai_W) : ai_Run 205 29 ls (.int b :: .int a :: st) ws = ai_Run 205 30 ls (.int (a + b) :: st) ws := R_iadd hc_205 dX11_deadMany_29 rfl
theorem r_205_30 (l0 l1 l2 l3 : Value) (a : Int32) (st : List Value) (ws : ai_W) : ai_Run 205 30 [l0, l1, l2, l3] (.int a :: st) ws = ai_Run 205 31 [l0, l1, .int a, l3] st ws := R_istore_n hc_205 dX11_deadMany_30 (Nat.le_of_ble_eq_true rfl) rfl rfl
theorem r_205_31 (l0 l1 l2 : Value) (a : Int32) (st : List Value) (ws : ai_W) : ai_Run 205 31 [l0, l1, l2, .int a] st ws = ai_Run 205 34 [l0, l1, l2, .int (a + 1)] st ws := R_iinc hc_205 dX11_deadMany_31 rfl (by decide) rfl rfl
theorem r_205_34 (ls st : List Value) (ws : ai_W) : ai_Run 205 34 ls st ws = ai_Run 205 4 ls st ws := R_goto hc_205 dX11_deadMany_34 rfl
theorem r_205_37 (l0 l1 l3 : Value) (a : Int32) (st : List Value) (ws : ai_W) : ai_Run 205 37 [l0, l1, .int a, l3] st ws = ai_Run 205 38 [l0, l1, .int a, l3] (.int a :: st) ws := R_iload_n hc_205 dX11_deadMany_37 rfl rfl
theorem r_205_38 (ls : List Value) (x : Int32) (ws : ai_W) : ai_Run 205 38 ls [.int x] ws = some (some (.int x), ws) := R_iret hc_205 dX11_deadMany_38 ht_205
theorem dX11_darkest_0 : decode cX11_darkest 0 = .ok (.iload_n 1, 1) := by decide +kernel
theorem dX11_darkest_1 : decode cX11_darkest 1 = .ok (.iconst 0, 1) := by decide +kernel
theorem dX11_darkest_2 : decode cX11_darkest 2 = .ok (.iconst 1, 1) := by decide +kernel
theorem dX11_darkest_3 : decode cX11_darkest 3 = .ok (.invokestatic 55, 3) := by decide +kernel
theorem dX11_darkest_6 : decode cX11_darkest 6 = .ok (.ifCond .ne 6, 3) := by decide +kernel
theorem dX11_darkest_9 : decode cX11_darkest 9 = .ok (.bipush (-2), 2) := by decide +kernel
theorem dX11_darkest_11 : decode cX11_darkest 11 = .ok (.ireturn, 1) := by decide +kernel
theorem dX11_darkest_12 : decode cX11_darkest 12 = .ok (.iconst 1, 1) := by decide +kernel
theorem dX11_darkest_13 : decode cX11_darkest 13 = .ok (.istore_n 2, 1) := by decide +kernel
theorem dX11_darkest_14 : decode cX11_darkest 14 = .ok (.iconst 2, 1) := by decide +kernel
theorem dX11_darkest_15 : decode cX11_darkest 15 = .ok (.istore_n 3, 1) := by decide +kernel
theorem dX11_darkest_16 : decode cX11_darkest 16 = .ok (.iload_n 3, 1) := by decide +kernel
theorem dX11_darkest_17 : decode cX11_darkest 17 = .ok (.bipush 30, 2) := by decide +kernel
theorem dX11_darkest_19 : decode cX11_darkest 19 = .ok (.if_icmp .gt 28, 3) := by decide +kernel
theorem dX11_darkest_22 : decode cX11_darkest 22 = .ok (.aload_n 0, 1) := by decide +kernel
theorem dX11_darkest_23 : decode cX11_darkest 23 = .ok (.iload_n 3, 1) := by decide +kernel
theorem dX11_darkest_24 : decode cX11_darkest 24 = .ok (.invokevirtual 206, 3) := by decide +kernel
theorem dX11_darkest_27 : decode cX11_darkest 27 = .ok (.aload_n 0, 1) := by decide +kernel
theorem dX11_darkest_28 : decode cX11_darkest 28 = .ok (.iload_n 2, 1) := by decide +kernel
theorem dX11_darkest_29 : decode cX11_darkest 29 = .ok (.invokevirtual 206, 3) := by decide +kernel
theorem dX11_darkest_32 : decode cX11_darkest 32 = .ok (.if_icmp .le 7, 3) := by decide +kernel
theorem dX11_darkest_35 : decode cX11_darkest 35 = .ok (.iload_n 3, 1) := by decide +kernel
theorem dX11_darkest_36 : decode cX11_darkest 36 = .ok (.goto 4, 3) := by decide +kernel
theorem dX11_darkest_39 : decode cX11_darkest 39 = .ok (.iload_n 2, 1) := by decide +kernel
theorem dX11_darkest_40 : decode cX11_darkest 40 = .ok (.istore_n 2, 1) := by decide +kernel
theorem dX11_darkest_41 : decode cX11_darkest 41 = .ok (.iinc 3 1, 3) := by decide +kernel
theorem dX11_darkest_44 : decode cX11_darkest 44 = .ok (.goto (-28), 3) := by decide +kernel
theorem dX11_darkest_47 : decode cX11_darkest 47 = .ok (.iload_n 1, 1) := by decide +kernel
theorem dX11_darkest_48 : decode cX11_darkest 48 = .ok (.iconst 1, 1) := by decide +kernel
theorem dX11_darkest_49 : decode cX11_darkest 49 = .ok (.if_icmp .ne 11, 3) := by decide +kernel
theorem dX11_darkest_52 : decode cX11_darkest 52 = .ok (.aload_n 0, 1) := by decide +kernel
theorem dX11_darkest_53 : decode cX11_darkest 53 = .ok (.iload_n 2, 1) := by decide +kernel
theorem dX11_darkest_54 : decode cX11_darkest 54 = .ok (.invokevirtual 206, 3) := by decide +kernel
theorem dX11_darkest_57 : decode cX11_darkest 57 = .ok (.goto 4, 3) := by decide +kernel
theorem dX11_darkest_60 : decode cX11_darkest 60 = .ok (.iload_n 2, 1) := by decide +kernel
theorem dX11_darkest_61 : decode cX11_darkest 61 = .ok (.ireturn, 1) := by decide +kernel
theorem e_206 (r : Nat) (a0 : Int32) (ws : ai_W) : ai_Call 206 [.ref r, .int a0] ws = if ai_isob ws r 11 = true then ai_Run 206 0 [.ref r, .int a0, .null, .null] [] ws else none := R_entV hk_206 ⟨⟨rfl, rfl⟩, Nat.le_of_ble_eq_true rfl⟩ rfl
theorem r_206_0 (l0 l2 l3 : Value) (a : Int32) (st : List Value) (ws : ai_W) : ai_Run 206 0 [l0, .int a, l2, l3] st ws = ai_Run 206 1 [l0, .int a, l2, l3] (.int a :: st) ws := R_iload_n hc_206 dX11_darkest_0 rfl rfl
theorem r_206_1 (ls st : List Value) (ws : ai_W) : ai_Run 206 1 ls st ws = ai_Run 206 2 ls (.int 0 :: st) ws := R_iconst hc_206 dX11_darkest_1 (by decide) rfl
theorem r_206_2 (ls st : List Value) (ws : ai_W) : ai_Run 206 2 ls st ws = ai_Run 206 3 ls (.int 1 :: st) ws := R_iconst hc_206 dX11_darkest_2 (by decide) rfl
theorem r_206_3 (ls : List Value) (b0 : Int32) (b1 : Int32) (b2 : Int32) (ws : ai_W) : ai_Run 206 3 ls [.int b2, .int b1, .int b0] ws = (ai_Call 179 [.int b0, .int b1, .int b2] ws).bind fun q => ai_Run 206 6 ls (q.1.toList ++ []) q.2 := R_callS hc_206 dX11_darkest_3 hv_206 (w := 1127) rfl (Nat.le_of_ble_eq_true rfl) hk_179 (by rw [hn_179]; rfl) rfl (Nat.le_of_ble_eq_true rfl) rfl
theorem r_206_6 (ls st : List Value) (a : Int32) (ws : ai_W) : ai_Run 206 6 ls (.int a :: st) ws = if a = 0 then ai_Run 206 9 ls st ws else ai_Run 206 12 ls st ws := R_if_ne hc_206 dX11_darkest_6 rfl rfl
theorem r_206_9 (ls st : List Value) (ws : ai_W) : ai_Run 206 9 ls st ws = ai_Run 206 11 ls (.int (-2) :: st) ws := R_bipush hc_206 dX11_darkest_9 (by decide) rfl
theorem r_206_11 (ls : List Value) (x : Int32) (ws : ai_W) : ai_Run 206 11 ls [.int x] ws = some (some (.int x), ws) := R_iret hc_206 dX11_darkest_11 ht_206
theorem r_206_12 (ls st : List Value) (ws : ai_W) : ai_Run 206 12 ls st ws = ai_Run 206 13 ls (.int 1 :: st) ws := R_iconst hc_206 dX11_darkest_12 (by decide) rfl
theorem r_206_13 (l0 l1 l2 l3 : Value) (a : Int32) (st : List Value) (ws : ai_W) : ai_Run 206 13 [l0, l1, l2, l3] (.int a :: st) ws = ai_Run 206 14 [l0, l1, .int a, l3] st ws := R_istore_n hc_206 dX11_darkest_13 (Nat.le_of_ble_eq_true rfl) rfl rfl
theorem r_206_14 (ls st : List Value) (ws : ai_W) : ai_Run 206 14 ls st ws = ai_Run 206 15 ls (.int 2 :: st) ws := R_iconst hc_206 dX11_darkest_14 (by decide) rfl
theorem r_206_15 (l0 l1 l2 l3 : Value) (a : Int32) (st : List Value) (ws : ai_W) : ai_Run 206 15 [l0, l1, l2, l3] (.int a :: st) ws = ai_Run 206 16 [l0, l1, l2, .int a] st ws := R_istore_n hc_206 dX11_darkest_15 (Nat.le_of_ble_eq_true rfl) rfl rfl
theorem r_206_16 (l0 l1 l2 : Value) (a : Int32) (st : List Value) (ws : ai_W) : ai_Run 206 16 [l0, l1, l2, .int a] st ws = ai_Run 206 17 [l0, l1, l2, .int a] (.int a :: st) ws := R_iload_n hc_206 dX11_darkest_16 rfl rfl
theorem r_206_17 (ls st : List Value) (ws : ai_W) : ai_Run 206 17 ls st ws = ai_Run 206 19 ls (.int 30 :: st) ws := R_bipush hc_206 dX11_darkest_17 (by decide) rfl
theorem r_206_19 (ls st : List Value) (a b : Int32) (ws : ai_W) : ai_Run 206 19 ls (.int b :: .int a :: st) ws = if b < a then ai_Run 206 47 ls st ws else ai_Run 206 22 ls st ws := R_cmp_gt hc_206 dX11_darkest_19 rfl rfl
theorem r_206_22 (l1 l2 l3 : Value) (a : Nat) (st : List Value) (ws : ai_W) : ai_Run 206 22 [.ref a, l1, l2, l3] st ws = ai_Run 206 23 [.ref a, l1, l2, l3] (.ref a :: st) ws := R_aload_n hc_206 dX11_darkest_22 rfl rfl
theorem r_206_23 (l0 l1 l2 : Value) (a : Int32) (st : List Value) (ws : ai_W) : ai_Run 206 23 [l0, l1, l2, .int a] st ws = ai_Run 206 24 [l0, l1, l2, .int a] (.int a :: st) ws := R_iload_n hc_206 dX11_darkest_23 rfl rfl
theorem r_206_24 (ls : List Value) (r : Nat) (b0 : Int32) (ws : ai_W) : ai_Run 206 24 ls [.int b0, .ref r] ws = (ai_Call 205 [.ref r, .int b0] ws).bind fun q => ai_Run 206 27 ls (q.1.toList ++ []) q.2 := R_callV hc_206 dX11_darkest_24 hv_206 (w := 1345) rfl (Nat.le_of_ble_eq_true rfl) hk_205 (by rw [hn_205]; rfl) rfl (Nat.le_of_ble_eq_true rfl) rfl
theorem r_206_27 (l1 l2 l3 : Value) (a : Nat) (st : List Value) (ws : ai_W) : ai_Run 206 27 [.ref a, l1, l2, l3] st ws = ai_Run 206 28 [.ref a, l1, l2, l3] (.ref a :: st) ws := R_aload_n hc_206 dX11_darkest_27 rfl rfl
theorem r_206_28 (l0 l1 l3 : Value) (a : Int32) (st : List Value) (ws : ai_W) : ai_Run 206 28 [l0, l1, .int a, l3] st ws = ai_Run 206 29 [l0, l1, .int a, l3] (.int a :: st) ws := R_iload_n hc_206 dX11_darkest_28 rfl rfl
theorem r_206_29 (ls : List Value) (r : Nat) (b0 : Int32) (s0 : Value) (ws : ai_W) : ai_Run 206 29 ls [.int b0, .ref r, s0] ws = (ai_Call 205 [.ref r, .int b0] ws).bind fun q => ai_Run 206 32 ls (q.1.toList ++ [s0]) q.2 := R_callV hc_206 dX11_darkest_29 hv_206 (w := 1345) rfl (Nat.le_of_ble_eq_true rfl) hk_205 (by rw [hn_205]; rfl) rfl (Nat.le_of_ble_eq_true rfl) rfl
theorem r_206_32 (ls st : List Value) (a b : Int32) (ws : ai_W) : ai_Run 206 32 ls (.int b :: .int a :: st) ws = if b < a then ai_Run 206 35 ls st ws else ai_Run 206 39 ls st ws := R_cmp_le hc_206 dX11_darkest_32 rfl rfl
theorem r_206_35 (l0 l1 l2 : Value) (a : Int32) (st : List Value) (ws : ai_W) : ai_Run 206 35 [l0, l1, l2, .int a] st ws = ai_Run 206 36 [l0, l1, l2, .int a] (.int a :: st) ws := R_iload_n hc_206 dX11_darkest_35 rfl rfl
theorem r_206_36 (ls st : List Value) (ws : ai_W) : ai_Run 206 36 ls st ws = ai_Run 206 40 ls st ws := R_goto hc_206 dX11_darkest_36 rfl
theorem r_206_39 (l0 l1 l3 : Value) (a : Int32) (st : List Value) (ws : ai_W) : ai_Run 206 39 [l0, l1, .int a, l3] st ws = ai_Run 206 40 [l0, l1, .int a, l3] (.int a :: st) ws := R_iload_n hc_206 dX11_darkest_39 rfl rfl
theorem r_206_40 (l0 l1 l2 l3 : Value) (a : Int32) (st : List Value) (ws : ai_W) : ai_Run 206 40 [l0, l1, l2, l3] (.int a :: st) ws = ai_Run 206 41 [l0, l1, .int a, l3] st ws := R_istore_n hc_206 dX11_darkest_40 (Nat.le_of_ble_eq_true rfl) rfl rfl
theorem r_206_41 (l0 l1 l2 : Value) (a : Int32) (st : List Value) (ws : ai_W) : ai_Run 206 41 [l0, l1, l2, .int a] st ws = ai_Run 206 44 [l0, l1, l2, .int (a + 1)] st ws := R_iinc hc_206 dX11_darkest_41 rfl (by decide) rfl rfl
theorem r_206_44 (ls st : List Value) (ws : ai_W) : ai_Run 206 44 ls st ws = ai_Run 206 16 ls st ws := R_goto hc_206 dX11_darkest_44 rfl
theorem r_206_47 (l0 l2 l3 : Value) (a : Int32) (st : List Value) (ws : ai_W) : ai_Run 206 47 [l0, .int a, l2, l3] st ws = ai_Run 206 48 [l0, .int a, l2, l3] (.int a :: st) ws := R_iload_n hc_206 dX11_darkest_47 rfl rfl
theorem r_206_48 (ls st : List Value) (ws : ai_W) : ai_Run 206 48 ls st ws = ai_Run 206 49 ls (.int 1 :: st) ws := R_iconst hc_206 dX11_darkest_48 (by decide) rfl
theorem r_206_49 (ls st : List Value) (a b : Int32) (ws : ai_W) : ai_Run 206 49 ls (.int b :: .int a :: st) ws = if a = b then ai_Run 206 52 ls st ws else ai_Run 206 60 ls st ws := R_cmp_ne hc_206 dX11_darkest_49 rfl rfl
theorem r_206_52 (l1 l2 l3 : Value) (a : Nat) (st : List Value) (ws : ai_W) : ai_Run 206 52 [.ref a, l1, l2, l3] st ws = ai_Run 206 53 [.ref a, l1, l2, l3] (.ref a :: st) ws := R_aload_n hc_206 dX11_darkest_52 rfl rfl
theorem r_206_53 (l0 l1 l3 : Value) (a : Int32) (st : List Value) (ws : ai_W) : ai_Run 206 53 [l0, l1, .int a, l3] st ws = ai_Run 206 54 [l0, l1, .int a, l3] (.int a :: st) ws := R_iload_n hc_206 dX11_darkest_53 rfl rfl
theorem r_206_54 (ls : List Value) (r : Nat) (b0 : Int32) (ws : ai_W) : ai_Run 206 54 ls [.int b0, .ref r] ws = (ai_Call 205 [.ref r, .int b0] ws).bind fun q => ai_Run 206 57 ls (q.1.toList ++ []) q.2 := R_callV hc_206 dX11_darkest_54 hv_206 (w := 1345) rfl (Nat.le_of_ble_eq_true rfl) hk_205 (by rw [hn_205]; rfl) rfl (Nat.le_of_ble_eq_true rfl) rfl
theorem r_206_57 (ls st : List Value) (ws : ai_W) : ai_Run 206 57 ls st ws = ai_Run 206 61 ls st ws := R_goto hc_206 dX11_darkest_57 rfl
theorem r_206_60 (l0 l1 l3 : Value) (a : Int32) (st : List Value) (ws : ai_W) : ai_Run 206 60 [l0, l1, .int a, l3] st ws = ai_Run 206 61 [l0, l1, .int a, l3] (.int a :: st) ws := R_iload_n hc_206 dX11_darkest_60 rfl rfl
theorem r_206_61 (ls : List Value) (x : Int32) (ws : ai_W) : ai_Run 206 61 ls [.int x] ws = some (some (.int x), ws) := R_iret hc_206 dX11_darkest_61 ht_206
theorem dX11_isChapter_0 : decode cX11_isChapter 0 = .ok (.iload_n 0, 1) := by decide +kernel
theorem dX11_isChapter_1 : decode cX11_isChapter 1 = .ok (.iconst 1, 1) := by decide +kernel
theorem dX11_isChapter_2 : decode cX11_isChapter 2 = .ok (.bipush 30, 2) := by decide +kernel
theorem dX11_isChapter_4 : decode cX11_isChapter 4 = .ok (.invokestatic 55, 3) := by decide +kernel
theorem dX11_isChapter_7 : decode cX11_isChapter 7 = .ok (.ireturn, 1) := by decide +kernel
theorem e_207 (a0 : Int32) (ws : ai_W) : ai_Call 207 [.int a0] ws = ai_Run 207 0 [.int a0] [] ws := R_entS hk_207 ⟨⟨rfl, rfl⟩, Nat.le_of_ble_eq_true rfl⟩ rfl
theorem r_207_0 (a : Int32) (st : List Value) (ws : ai_W) : ai_Run 207 0 [.int a] st ws = ai_Run 207 1 [.int a] (.int a :: st) ws := R_iload_n hc_207 dX11_isChapter_0 rfl rfl
theorem r_207_1 (ls st : List Value) (ws : ai_W) : ai_Run 207 1 ls st ws = ai_Run 207 2 ls (.int 1 :: st) ws := R_iconst hc_207 dX11_isChapter_1 (by decide) rfl
theorem r_207_2 (ls st : List Value) (ws : ai_W) : ai_Run 207 2 ls st ws = ai_Run 207 4 ls (.int 30 :: st) ws := R_bipush hc_207 dX11_isChapter_2 (by decide) rfl
theorem r_207_4 (ls : List Value) (b0 : Int32) (b1 : Int32) (b2 : Int32) (ws : ai_W) : ai_Run 207 4 ls [.int b2, .int b1, .int b0] ws = (ai_Call 179 [.int b0, .int b1, .int b2] ws).bind fun q => ai_Run 207 7 ls (q.1.toList ++ []) q.2 := R_callS hc_207 dX11_isChapter_4 hv_207 (w := 1127) rfl (Nat.le_of_ble_eq_true rfl) hk_179 (by rw [hn_179]; rfl) rfl (Nat.le_of_ble_eq_true rfl) rfl
theorem r_207_7 (ls : List Value) (x : Int32) (ws : ai_W) : ai_Run 207 7 ls [.int x] ws = if ai_pb x = true then some (some (.int x), ws) else none := R_zret hc_207 dX11_isChapter_7 ht_207
theorem dX11_deadIn_0 : decode cX11_deadIn 0 = .ok (.iconst 0, 1) := by decide +kernel
theorem dX11_deadIn_1 : decode cX11_deadIn 1 = .ok (.istore_n 2, 1) := by decide +kernel
theorem dX11_deadIn_2 : decode cX11_deadIn 2 = .ok (.iconst 0, 1) := by decide +kernel
theorem dX11_deadIn_3 : decode cX11_deadIn 3 = .ok (.istore_n 3, 1) := by decide +kernel
theorem dX11_deadIn_4 : decode cX11_deadIn 4 = .ok (.iload_n 3, 1) := by decide +kernel
theorem dX11_deadIn_5 : decode cX11_deadIn 5 = .ok (.aload_n 0, 1) := by decide +kernel
theorem dX11_deadIn_6 : decode cX11_deadIn 6 = .ok (.getfield 9, 3) := by decide +kernel
theorem dX11_deadIn_9 : decode cX11_deadIn 9 = .ok (.iconst 0, 1) := by decide +kernel
theorem dX11_deadIn_10 : decode cX11_deadIn 10 = .ok (.iaload, 1) := by decide +kernel
theorem dX11_deadIn_11 : decode cX11_deadIn 11 = .ok (.if_icmp .ge 28, 3) := by decide +kernel
theorem dX11_deadIn_14 : decode cX11_deadIn 14 = .ok (.iload_n 2, 1) := by decide +kernel
theorem dX11_deadIn_15 : decode cX11_deadIn 15 = .ok (.aload_n 0, 1) := by decide +kernel
theorem dX11_deadIn_16 : decode cX11_deadIn 16 = .ok (.iload_n 3, 1) := by decide +kernel
theorem dX11_deadIn_17 : decode cX11_deadIn 17 = .ok (.iload_n 1, 1) := by decide +kernel
theorem dX11_deadIn_18 : decode cX11_deadIn 18 = .ok (.invokevirtual 151, 3) := by decide +kernel
theorem dX11_deadIn_21 : decode cX11_deadIn 21 = .ok (.ifCond .eq 9, 3) := by decide +kernel
theorem dX11_deadIn_24 : decode cX11_deadIn 24 = .ok (.iconst 1, 1) := by decide +kernel
theorem dX11_deadIn_25 : decode cX11_deadIn 25 = .ok (.iload_n 3, 1) := by decide +kernel
theorem dX11_deadIn_26 : decode cX11_deadIn 26 = .ok (.ishl, 1) := by decide +kernel
theorem dX11_deadIn_27 : decode cX11_deadIn 27 = .ok (.goto 4, 3) := by decide +kernel
theorem dX11_deadIn_30 : decode cX11_deadIn 30 = .ok (.iconst 0, 1) := by decide +kernel
theorem dX11_deadIn_31 : decode cX11_deadIn 31 = .ok (.ior, 1) := by decide +kernel
theorem dX11_deadIn_32 : decode cX11_deadIn 32 = .ok (.istore_n 2, 1) := by decide +kernel
theorem dX11_deadIn_33 : decode cX11_deadIn 33 = .ok (.iinc 3 1, 3) := by decide +kernel
theorem dX11_deadIn_36 : decode cX11_deadIn 36 = .ok (.goto (-32), 3) := by decide +kernel
theorem dX11_deadIn_39 : decode cX11_deadIn 39 = .ok (.iload_n 2, 1) := by decide +kernel
theorem dX11_deadIn_40 : decode cX11_deadIn 40 = .ok (.ireturn, 1) := by decide +kernel
theorem e_208 (r : Nat) (a0 : Int32) (ws : ai_W) : ai_Call 208 [.ref r, .int a0] ws = if ai_isob ws r 11 = true then ai_Run 208 0 [.ref r, .int a0, .null, .null] [] ws else none := R_entV hk_208 ⟨⟨rfl, rfl⟩, Nat.le_of_ble_eq_true rfl⟩ rfl
theorem r_208_0 (ls st : List Value) (ws : ai_W) : ai_Run 208 0 ls st ws = ai_Run 208 1 ls (.int 0 :: st) ws := R_iconst hc_208 dX11_deadIn_0 (by decide) rfl
theorem r_208_1 (l0 l1 l2 l3 : Value) (a : Int32) (st : List Value) (ws : ai_W) : ai_Run 208 1 [l0, l1, l2, l3] (.int a :: st) ws = ai_Run 208 2 [l0, l1, .int a, l3] st ws := R_istore_n hc_208 dX11_deadIn_1 (Nat.le_of_ble_eq_true rfl) rfl rfl
theorem r_208_2 (ls st : List Value) (ws : ai_W) : ai_Run 208 2 ls st ws = ai_Run 208 3 ls (.int 0 :: st) ws := R_iconst hc_208 dX11_deadIn_2 (by decide) rfl
theorem r_208_3 (l0 l1 l2 l3 : Value) (a : Int32) (st : List Value) (ws : ai_W) : ai_Run 208 3 [l0, l1, l2, l3] (.int a :: st) ws = ai_Run 208 4 [l0, l1, l2, .int a] st ws := R_istore_n hc_208 dX11_deadIn_3 (Nat.le_of_ble_eq_true rfl) rfl rfl
theorem r_208_4 (l0 l1 l2 : Value) (a : Int32) (st : List Value) (ws : ai_W) : ai_Run 208 4 [l0, l1, l2, .int a] st ws = ai_Run 208 5 [l0, l1, l2, .int a] (.int a :: st) ws := R_iload_n hc_208 dX11_deadIn_4 rfl rfl
theorem r_208_5 (l1 l2 l3 : Value) (a : Nat) (st : List Value) (ws : ai_W) : ai_Run 208 5 [.ref a, l1, l2, l3] st ws = ai_Run 208 6 [.ref a, l1, l2, l3] (.ref a :: st) ws := R_aload_n hc_208 dX11_deadIn_5 rfl rfl
theorem r_208_6 (ls st : List Value) (a : Nat) (ws : ai_W) : ai_Run 208 6 ls (.ref a :: st) ws = (ai_fget ws a 11 0).bind fun q => ai_Run 208 9 ls (q :: st) ws := R_getf hc_208 dX11_deadIn_6 hv_208 (w := 1024) rfl rfl
theorem r_208_9 (ls st : List Value) (ws : ai_W) : ai_Run 208 9 ls st ws = ai_Run 208 10 ls (.int 0 :: st) ws := R_iconst hc_208 dX11_deadIn_9 (by decide) rfl
theorem r_208_10 (ls st : List Value) (a : Nat) (i : Int32) (ws : ai_W) : ai_Run 208 10 ls (.int i :: .ref a :: st) ws = (ai_aget ws a i).bind fun q => ai_Run 208 11 ls (.int q :: st) ws := R_iaload hc_208 dX11_deadIn_10 rfl
theorem r_208_11 (ls st : List Value) (a b : Int32) (ws : ai_W) : ai_Run 208 11 ls (.int b :: .int a :: st) ws = if a < b then ai_Run 208 14 ls st ws else ai_Run 208 39 ls st ws := R_cmp_ge hc_208 dX11_deadIn_11 rfl rfl
theorem r_208_14 (l0 l1 l3 : Value) (a : Int32) (st : List Value) (ws : ai_W) : ai_Run 208 14 [l0, l1, .int a, l3] st ws = ai_Run 208 15 [l0, l1, .int a, l3] (.int a :: st) ws := R_iload_n hc_208 dX11_deadIn_14 rfl rfl
theorem r_208_15 (l1 l2 l3 : Value) (a : Nat) (st : List Value) (ws : ai_W) : ai_Run 208 15 [.ref a, l1, l2, l3] st ws = ai_Run 208 16 [.ref a, l1, l2, l3] (.ref a :: st) ws := R_aload_n hc_208 dX11_deadIn_15 rfl rfl
theorem r_208_16 (l0 l1 l2 : Value) (a : Int32) (st : List Value) (ws : ai_W) : ai_Run 208 16 [l0, l1, l2, .int a] st ws = ai_Run 208 17 [l0, l1, l2, .int a] (.int a :: st) ws := R_iload_n hc_208 dX11_deadIn_16 rfl rfl
theorem r_208_17 (l0 l2 l3 : Value) (a : Int32) (st : List Value) (ws : ai_W) : ai_Run 208 17 [l0, .int a, l2, l3] st ws = ai_Run 208 18 [l0, .int a, l2, l3] (.int a :: st) ws := R_iload_n hc_208 dX11_deadIn_17 rfl rfl
theorem r_208_18 (ls : List Value) (r : Nat) (b0 : Int32) (b1 : Int32) (s0 : Value) (ws : ai_W) : ai_Run 208 18 ls [.int b1, .int b0, .ref r, s0] ws = (ai_Call 195 [.ref r, .int b0, .int b1] ws).bind fun q => ai_Run 208 21 ls (q.1.toList ++ [s0]) q.2 := R_callV hc_208 dX11_deadIn_18 hv_208 (w := 1256) rfl (Nat.le_of_ble_eq_true rfl) hk_195 (by rw [hn_195]; rfl) rfl (Nat.le_of_ble_eq_true rfl) rfl
theorem r_208_21 (ls st : List Value) (a : Int32) (ws : ai_W) : ai_Run 208 21 ls (.int a :: st) ws = if a = 0 then ai_Run 208 30 ls st ws else ai_Run 208 24 ls st ws := R_if_eq hc_208 dX11_deadIn_21 rfl rfl
theorem r_208_24 (ls st : List Value) (ws : ai_W) : ai_Run 208 24 ls st ws = ai_Run 208 25 ls (.int 1 :: st) ws := R_iconst hc_208 dX11_deadIn_24 (by decide) rfl
theorem r_208_25 (l0 l1 l2 : Value) (a : Int32) (st : List Value) (ws : ai_W) : ai_Run 208 25 [l0, l1, l2, .int a] st ws = ai_Run 208 26 [l0, l1, l2, .int a] (.int a :: st) ws := R_iload_n hc_208 dX11_deadIn_25 rfl rfl
theorem r_208_26 (ls st : List Value) (a b : Int32) (ws : ai_W) : ai_Run 208 26 ls (.int b :: .int a :: st) ws = ai_Run 208 27 ls (.int (a <<< (b &&& 31)) :: st) ws := R_ishl hc_208 dX11_deadIn_26 rfl
theorem r_208_27 (ls st : List Value) (ws : ai_W) : ai_Run 208 27 ls st ws = ai_Run 208 31 ls st ws := R_goto hc_208 dX11_deadIn_27 rfl
theorem r_208_30 (ls st : List Value) (ws : ai_W) : ai_Run 208 30 ls st ws = ai_Run 208 31 ls (.int 0 :: st) ws := R_iconst hc_208 dX11_deadIn_30 (by decide) rfl
theorem r_208_31 (ls st : List Value) (a b : Int32) (ws : ai_W) : ai_Run 208 31 ls (.int b :: .int a :: st) ws = ai_Run 208 32 ls (.int (a ||| b) :: st) ws := R_ior hc_208 dX11_deadIn_31 rfl
theorem r_208_32 (l0 l1 l2 l3 : Value) (a : Int32) (st : List Value) (ws : ai_W) : ai_Run 208 32 [l0, l1, l2, l3] (.int a :: st) ws = ai_Run 208 33 [l0, l1, .int a, l3] st ws := R_istore_n hc_208 dX11_deadIn_32 (Nat.le_of_ble_eq_true rfl) rfl rfl
theorem r_208_33 (l0 l1 l2 : Value) (a : Int32) (st : List Value) (ws : ai_W) : ai_Run 208 33 [l0, l1, l2, .int a] st ws = ai_Run 208 36 [l0, l1, l2, .int (a + 1)] st ws := R_iinc hc_208 dX11_deadIn_33 rfl (by decide) rfl rfl
theorem r_208_36 (ls st : List Value) (ws : ai_W) : ai_Run 208 36 ls st ws = ai_Run 208 4 ls st ws := R_goto hc_208 dX11_deadIn_36 rfl
theorem r_208_39 (l0 l1 l3 : Value) (a : Int32) (st : List Value) (ws : ai_W) : ai_Run 208 39 [l0, l1, .int a, l3] st ws = ai_Run 208 40 [l0, l1, .int a, l3] (.int a :: st) ws := R_iload_n hc_208 dX11_deadIn_39 rfl rfl
theorem r_208_40 (ls : List Value) (x : Int32) (ws : ai_W) : ai_Run 208 40 ls [.int x] ws = some (some (.int x), ws) := R_iret hc_208 dX11_deadIn_40 ht_208
theorem dX11_dead_0 : decode cX11_dead 0 = .ok (.iload_n 1, 1) := by decide +kernel
theorem dX11_dead_1 : decode cX11_dead 1 = .ok (.invokestatic 94, 3) := by decide +kernel
theorem dX11_dead_4 : decode cX11_dead 4 = .ok (.ifCond .eq 11, 3) := by decide +kernel
theorem dX11_dead_7 : decode cX11_dead 7 = .ok (.aload_n 0, 1) := by decide +kernel
theorem dX11_dead_8 : decode cX11_dead 8 = .ok (.iload_n 1, 1) := by decide +kernel
theorem dX11_dead_9 : decode cX11_dead 9 = .ok (.invokevirtual 200, 3) := by decide +kernel
theorem dX11_dead_12 : decode cX11_dead 12 = .ok (.goto 5, 3) := by decide +kernel
theorem dX11_dead_15 : decode cX11_dead 15 = .ok (.bipush (-2), 2) := by decide +kernel
theorem dX11_dead_17 : decode cX11_dead 17 = .ok (.ireturn, 1) := by decide +kernel
theorem e_209 (r : Nat) (a0 : Int32) (ws : ai_W) : ai_Call 209 [.ref r, .int a0] ws = if ai_isob ws r 11 = true then ai_Run 209 0 [.ref r, .int a0] [] ws else none := R_entV hk_209 ⟨⟨rfl, rfl⟩, Nat.le_of_ble_eq_true rfl⟩ rfl
theorem r_209_0 (l0 : Value) (a : Int32) (st : List Value) (ws : ai_W) : ai_Run 209 0 [l0, .int a] st ws = ai_Run 209 1 [l0, .int a] (.int a :: st) ws := R_iload_n hc_209 dX11_dead_0 rfl rfl
theorem r_209_1 (ls : List Value) (b0 : Int32) (ws : ai_W) : ai_Run 209 1 ls [.int b0] ws = (ai_Call 207 [.int b0] ws).bind fun q => ai_Run 209 4 ls (q.1.toList ++ []) q.2 := R_callS hc_209 dX11_dead_1 hv_209 (w := 1130) rfl (Nat.le_of_ble_eq_true rfl) hk_207 (by rw [hn_207]; rfl) rfl (Nat.le_of_ble_eq_true rfl) rfl
theorem r_209_4 (ls st : List Value) (a : Int32) (ws : ai_W) : ai_Run 209 4 ls (.int a :: st) ws = if a = 0 then ai_Run 209 15 ls st ws else ai_Run 209 7 ls st ws := R_if_eq hc_209 dX11_dead_4 rfl rfl
theorem r_209_7 (l1 : Value) (a : Nat) (st : List Value) (ws : ai_W) : ai_Run 209 7 [.ref a, l1] st ws = ai_Run 209 8 [.ref a, l1] (.ref a :: st) ws := R_aload_n hc_209 dX11_dead_7 rfl rfl
theorem r_209_8 (l0 : Value) (a : Int32) (st : List Value) (ws : ai_W) : ai_Run 209 8 [l0, .int a] st ws = ai_Run 209 9 [l0, .int a] (.int a :: st) ws := R_iload_n hc_209 dX11_dead_8 rfl rfl
theorem r_209_9 (ls : List Value) (r : Nat) (b0 : Int32) (ws : ai_W) : ai_Run 209 9 ls [.int b0, .ref r] ws = (ai_Call 208 [.ref r, .int b0] ws).bind fun q => ai_Run 209 12 ls (q.1.toList ++ []) q.2 := R_callV hc_209 dX11_dead_9 hv_209 (w := 1332) rfl (Nat.le_of_ble_eq_true rfl) hk_208 (by rw [hn_208]; rfl) rfl (Nat.le_of_ble_eq_true rfl) rfl
theorem r_209_12 (ls st : List Value) (ws : ai_W) : ai_Run 209 12 ls st ws = ai_Run 209 17 ls st ws := R_goto hc_209 dX11_dead_12 rfl
theorem r_209_15 (ls st : List Value) (ws : ai_W) : ai_Run 209 15 ls st ws = ai_Run 209 17 ls (.int (-2) :: st) ws := R_bipush hc_209 dX11_dead_15 (by decide) rfl
theorem r_209_17 (ls : List Value) (x : Int32) (ws : ai_W) : ai_Run 209 17 ls [.int x] ws = some (some (.int x), ws) := R_iret hc_209 dX11_dead_17 ht_209
theorem dX11_deadAgain_0 : decode cX11_deadAgain 0 = .ok (.aload_n 0, 1) := by decide +kernel
theorem dX11_deadAgain_1 : decode cX11_deadAgain 1 = .ok (.iload_n 1, 1) := by decide +kernel
theorem dX11_deadAgain_2 : decode cX11_deadAgain 2 = .ok (.invokevirtual 203, 3) := by decide +kernel
theorem dX11_deadAgain_5 : decode cX11_deadAgain 5 = .ok (.ireturn, 1) := by decide +kernel
theorem e_210 (r : Nat) (a0 : Int32) (ws : ai_W) : ai_Call 210 [.ref r, .int a0] ws = if ai_isob ws r 11 = true then ai_Run 210 0 [.ref r, .int a0] [] ws else none := R_entV hk_210 ⟨⟨rfl, rfl⟩, Nat.le_of_ble_eq_true rfl⟩ rfl
theorem r_210_0 (l1 : Value) (a : Nat) (st : List Value) (ws : ai_W) : ai_Run 210 0 [.ref a, l1] st ws = ai_Run 210 1 [.ref a, l1] (.ref a :: st) ws := R_aload_n hc_210 dX11_deadAgain_0 rfl rfl
theorem r_210_1 (l0 : Value) (a : Int32) (st : List Value) (ws : ai_W) : ai_Run 210 1 [l0, .int a] st ws = ai_Run 210 2 [l0, .int a] (.int a :: st) ws := R_iload_n hc_210 dX11_deadAgain_1 rfl rfl
theorem r_210_2 (ls : List Value) (r : Nat) (b0 : Int32) (ws : ai_W) : ai_Run 210 2 ls [.int b0, .ref r] ws = (ai_Call 209 [.ref r, .int b0] ws).bind fun q => ai_Run 210 5 ls (q.1.toList ++ []) q.2 := R_callV hc_210 dX11_deadAgain_2 hv_210 (w := 1340) rfl (Nat.le_of_ble_eq_true rfl) hk_209 (by rw [hn_209]; rfl) rfl (Nat.le_of_ble_eq_true rfl) rfl
theorem r_210_5 (ls : List Value) (x : Int32) (ws : ai_W) : ai_Run 210 5 ls [.int x] ws = some (some (.int x), ws) := R_iret hc_210 dX11_deadAgain_5 ht_210
theorem dX11_isDeath_0 : decode cX11_isDeath 0 = .ok (.aload_n 0, 1) := by decide +kernel
theorem dX11_isDeath_1 : decode cX11_isDeath 1 = .ok (.iload_n 1, 1) := by decide +kernel
theorem dX11_isDeath_2 : decode cX11_isDeath 2 = .ok (.invokevirtual 63, 3) := by decide +kernel
theorem dX11_isDeath_5 : decode cX11_isDeath 5 = .ok (.ifCond .eq 22, 3) := by decide +kernel
theorem dX11_isDeath_8 : decode cX11_isDeath 8 = .ok (.iload_n 2, 1) := by decide +kernel
theorem dX11_isDeath_9 : decode cX11_isDeath 9 = .ok (.iconst 0, 1) := by decide +kernel
theorem dX11_isDeath_10 : decode cX11_isDeath 10 = .ok (.aload_n 0, 1) := by decide +kernel
theorem dX11_isDeath_11 : decode cX11_isDeath 11 = .ok (.iload_n 1, 1) := by decide +kernel
theorem dX11_isDeath_12 : decode cX11_isDeath 12 = .ok (.invokevirtual 66, 3) := by decide +kernel
theorem dX11_isDeath_15 : decode cX11_isDeath 15 = .ok (.iconst 1, 1) := by decide +kernel
theorem dX11_isDeath_16 : decode cX11_isDeath 16 = .ok (.isub, 1) := by decide +kernel
theorem dX11_isDeath_17 : decode cX11_isDeath 17 = .ok (.invokestatic 55, 3) := by decide +kernel
theorem dX11_isDeath_20 : decode cX11_isDeath 20 = .ok (.ifCond .eq 7, 3) := by decide +kernel
theorem dX11_isDeath_23 : decode cX11_isDeath 23 = .ok (.iconst 1, 1) := by decide +kernel
theorem dX11_isDeath_24 : decode cX11_isDeath 24 = .ok (.goto 4, 3) := by decide +kernel
theorem dX11_isDeath_27 : decode cX11_isDeath 27 = .ok (.iconst 0, 1) := by decide +kernel
theorem dX11_isDeath_28 : decode cX11_isDeath 28 = .ok (.ireturn, 1) := by decide +kernel
theorem e_211 (r : Nat) (a0 : Int32) (a1 : Int32) (ws : ai_W) : ai_Call 211 [.ref r, .int a0, .int a1] ws = if ai_isob ws r 11 = true then ai_Run 211 0 [.ref r, .int a0, .int a1] [] ws else none := R_entV hk_211 ⟨⟨rfl, rfl⟩, Nat.le_of_ble_eq_true rfl⟩ rfl
theorem r_211_0 (l1 l2 : Value) (a : Nat) (st : List Value) (ws : ai_W) : ai_Run 211 0 [.ref a, l1, l2] st ws = ai_Run 211 1 [.ref a, l1, l2] (.ref a :: st) ws := R_aload_n hc_211 dX11_isDeath_0 rfl rfl
theorem r_211_1 (l0 l2 : Value) (a : Int32) (st : List Value) (ws : ai_W) : ai_Run 211 1 [l0, .int a, l2] st ws = ai_Run 211 2 [l0, .int a, l2] (.int a :: st) ws := R_iload_n hc_211 dX11_isDeath_1 rfl rfl
theorem r_211_2 (ls : List Value) (r : Nat) (b0 : Int32) (ws : ai_W) : ai_Run 211 2 ls [.int b0, .ref r] ws = (ai_Call 200 [.ref r, .int b0] ws).bind fun q => ai_Run 211 5 ls (q.1.toList ++ []) q.2 := R_callV hc_211 dX11_isDeath_2 hv_211 (w := 1123) rfl (Nat.le_of_ble_eq_true rfl) hk_200 (by rw [hn_200]; rfl) rfl (Nat.le_of_ble_eq_true rfl) rfl
theorem r_211_5 (ls st : List Value) (a : Int32) (ws : ai_W) : ai_Run 211 5 ls (.int a :: st) ws = if a = 0 then ai_Run 211 27 ls st ws else ai_Run 211 8 ls st ws := R_if_eq hc_211 dX11_isDeath_5 rfl rfl
theorem r_211_8 (l0 l1 : Value) (a : Int32) (st : List Value) (ws : ai_W) : ai_Run 211 8 [l0, l1, .int a] st ws = ai_Run 211 9 [l0, l1, .int a] (.int a :: st) ws := R_iload_n hc_211 dX11_isDeath_8 rfl rfl
theorem r_211_9 (ls st : List Value) (ws : ai_W) : ai_Run 211 9 ls st ws = ai_Run 211 10 ls (.int 0 :: st) ws := R_iconst hc_211 dX11_isDeath_9 (by decide) rfl
theorem r_211_10 (l1 l2 : Value) (a : Nat) (st : List Value) (ws : ai_W) : ai_Run 211 10 [.ref a, l1, l2] st ws = ai_Run 211 11 [.ref a, l1, l2] (.ref a :: st) ws := R_aload_n hc_211 dX11_isDeath_10 rfl rfl
theorem r_211_11 (l0 l2 : Value) (a : Int32) (st : List Value) (ws : ai_W) : ai_Run 211 11 [l0, .int a, l2] st ws = ai_Run 211 12 [l0, .int a, l2] (.int a :: st) ws := R_iload_n hc_211 dX11_isDeath_11 rfl rfl
theorem r_211_12 (ls : List Value) (r : Nat) (b0 : Int32) (s0 s1 : Value) (ws : ai_W) : ai_Run 211 12 ls [.int b0, .ref r, s0, s1] ws = (ai_Call 166 [.ref r, .int b0] ws).bind fun q => ai_Run 211 15 ls (q.1.toList ++ [s0, s1]) q.2 := R_callV hc_211 dX11_isDeath_12 hv_211 (w := 1141) rfl (Nat.le_of_ble_eq_true rfl) hk_166 (by rw [hn_166]; rfl) rfl (Nat.le_of_ble_eq_true rfl) rfl
theorem r_211_15 (ls st : List Value) (ws : ai_W) : ai_Run 211 15 ls st ws = ai_Run 211 16 ls (.int 1 :: st) ws := R_iconst hc_211 dX11_isDeath_15 (by decide) rfl
theorem r_211_16 (ls st : List Value) (a b : Int32) (ws : ai_W) : ai_Run 211 16 ls (.int b :: .int a :: st) ws = ai_Run 211 17 ls (.int (a - b) :: st) ws := R_isub hc_211 dX11_isDeath_16 rfl
theorem r_211_17 (ls : List Value) (b0 : Int32) (b1 : Int32) (b2 : Int32) (ws : ai_W) : ai_Run 211 17 ls [.int b2, .int b1, .int b0] ws = (ai_Call 179 [.int b0, .int b1, .int b2] ws).bind fun q => ai_Run 211 20 ls (q.1.toList ++ []) q.2 := R_callS hc_211 dX11_isDeath_17 hv_211 (w := 1127) rfl (Nat.le_of_ble_eq_true rfl) hk_179 (by rw [hn_179]; rfl) rfl (Nat.le_of_ble_eq_true rfl) rfl
theorem r_211_20 (ls st : List Value) (a : Int32) (ws : ai_W) : ai_Run 211 20 ls (.int a :: st) ws = if a = 0 then ai_Run 211 27 ls st ws else ai_Run 211 23 ls st ws := R_if_eq hc_211 dX11_isDeath_20 rfl rfl
theorem r_211_23 (ls st : List Value) (ws : ai_W) : ai_Run 211 23 ls st ws = ai_Run 211 24 ls (.int 1 :: st) ws := R_iconst hc_211 dX11_isDeath_23 (by decide) rfl
theorem r_211_24 (ls st : List Value) (ws : ai_W) : ai_Run 211 24 ls st ws = ai_Run 211 28 ls st ws := R_goto hc_211 dX11_isDeath_24 rfl
theorem r_211_27 (ls st : List Value) (ws : ai_W) : ai_Run 211 27 ls st ws = ai_Run 211 28 ls (.int 0 :: st) ws := R_iconst hc_211 dX11_isDeath_27 (by decide) rfl
theorem r_211_28 (ls : List Value) (x : Int32) (ws : ai_W) : ai_Run 211 28 ls [.int x] ws = if ai_pb x = true then some (some (.int x), ws) else none := R_zret hc_211 dX11_isDeath_28 ht_211
theorem dX11_deathOf_0 : decode cX11_deathOf 0 = .ok (.aload_n 0, 1) := by decide +kernel
theorem dX11_deathOf_1 : decode cX11_deathOf 1 = .ok (.iload_n 1, 1) := by decide +kernel
theorem dX11_deathOf_2 : decode cX11_deathOf 2 = .ok (.iload_n 2, 1) := by decide +kernel
theorem dX11_deathOf_3 : decode cX11_deathOf 3 = .ok (.invokevirtual 163, 3) := by decide +kernel
theorem dX11_deathOf_6 : decode cX11_deathOf 6 = .ok (.ifCond .ne 5, 3) := by decide +kernel
theorem dX11_deathOf_9 : decode cX11_deathOf 9 = .ok (.iconst (-1), 1) := by decide +kernel
theorem dX11_deathOf_10 : decode cX11_deathOf 10 = .ok (.ireturn, 1) := by decide +kernel
theorem dX11_deathOf_11 : decode cX11_deathOf 11 = .ok (.iload_n 3, 1) := by decide +kernel
theorem dX11_deathOf_12 : decode cX11_deathOf 12 = .ok (.tableswitch 98 0 4 #[36, 43, 50, 64, 71], 36) := by decide +kernel
theorem dX11_deathOf_48 : decode cX11_deathOf 48 = .ok (.aload_n 0, 1) := by decide +kernel
theorem dX11_deathOf_49 : decode cX11_deathOf 49 = .ok (.iload_n 1, 1) := by decide +kernel
theorem dX11_deathOf_50 : decode cX11_deathOf 50 = .ok (.iload_n 2, 1) := by decide +kernel
theorem dX11_deathOf_51 : decode cX11_deathOf 51 = .ok (.invokevirtual 148, 3) := by decide +kernel
theorem dX11_deathOf_54 : decode cX11_deathOf 54 = .ok (.ireturn, 1) := by decide +kernel
theorem dX11_deathOf_55 : decode cX11_deathOf 55 = .ok (.aload_n 0, 1) := by decide +kernel
theorem dX11_deathOf_56 : decode cX11_deathOf 56 = .ok (.iload_n 1, 1) := by decide +kernel
theorem dX11_deathOf_57 : decode cX11_deathOf 57 = .ok (.iload_n 2, 1) := by decide +kernel
theorem dX11_deathOf_58 : decode cX11_deathOf 58 = .ok (.invokevirtual 166, 3) := by decide +kernel
theorem dX11_deathOf_61 : decode cX11_deathOf 61 = .ok (.ireturn, 1) := by decide +kernel
theorem dX11_deathOf_62 : decode cX11_deathOf 62 = .ok (.aload_n 0, 1) := by decide +kernel
theorem dX11_deathOf_63 : decode cX11_deathOf 63 = .ok (.getfield 9, 3) := by decide +kernel
theorem dX11_deathOf_66 : decode cX11_deathOf 66 = .ok (.iconst 3, 1) := by decide +kernel
theorem dX11_deathOf_67 : decode cX11_deathOf 67 = .ok (.aload_n 0, 1) := by decide +kernel
theorem dX11_deathOf_68 : decode cX11_deathOf 68 = .ok (.iload_n 1, 1) := by decide +kernel
theorem dX11_deathOf_69 : decode cX11_deathOf 69 = .ok (.iload_n 2, 1) := by decide +kernel
theorem dX11_deathOf_70 : decode cX11_deathOf 70 = .ok (.invokevirtual 148, 3) := by decide +kernel
theorem dX11_deathOf_73 : decode cX11_deathOf 73 = .ok (.iadd, 1) := by decide +kernel
theorem dX11_deathOf_74 : decode cX11_deathOf 74 = .ok (.iaload, 1) := by decide +kernel
theorem dX11_deathOf_75 : decode cX11_deathOf 75 = .ok (.ireturn, 1) := by decide +kernel
theorem dX11_deathOf_76 : decode cX11_deathOf 76 = .ok (.aload_n 0, 1) := by decide +kernel
theorem dX11_deathOf_77 : decode cX11_deathOf 77 = .ok (.iload_n 1, 1) := by decide +kernel
theorem dX11_deathOf_78 : decode cX11_deathOf 78 = .ok (.iload_n 2, 1) := by decide +kernel
theorem dX11_deathOf_79 : decode cX11_deathOf 79 = .ok (.invokevirtual 191, 3) := by decide +kernel
theorem dX11_deathOf_82 : decode cX11_deathOf 82 = .ok (.ireturn, 1) := by decide +kernel
theorem dX11_deathOf_83 : decode cX11_deathOf 83 = .ok (.iload_n 2, 1) := by decide +kernel
theorem dX11_deathOf_84 : decode cX11_deathOf 84 = .ok (.aload_n 0, 1) := by decide +kernel
theorem dX11_deathOf_85 : decode cX11_deathOf 85 = .ok (.iload_n 1, 1) := by decide +kernel
theorem dX11_deathOf_86 : decode cX11_deathOf 86 = .ok (.invokevirtual 175, 3) := by decide +kernel
theorem dX11_deathOf_89 : decode cX11_deathOf 89 = .ok (.if_icmp .ge 18, 3) := by decide +kernel
theorem dX11_deathOf_92 : decode cX11_deathOf 92 = .ok (.aload_n 0, 1) := by decide +kernel
theorem dX11_deathOf_93 : decode cX11_deathOf 93 = .ok (.iload_n 1, 1) := by decide +kernel
theorem dX11_deathOf_94 : decode cX11_deathOf 94 = .ok (.iconst 1, 1) := by decide +kernel
theorem dX11_deathOf_95 : decode cX11_deathOf 95 = .ok (.iconst 2, 1) := by decide +kernel
theorem dX11_deathOf_96 : decode cX11_deathOf 96 = .ok (.iload_n 2, 1) := by decide +kernel
theorem dX11_deathOf_97 : decode cX11_deathOf 97 = .ok (.imul, 1) := by decide +kernel
theorem dX11_deathOf_98 : decode cX11_deathOf 98 = .ok (.iadd, 1) := by decide +kernel
theorem dX11_deathOf_99 : decode cX11_deathOf 99 = .ok (.iconst 1, 1) := by decide +kernel
theorem dX11_deathOf_100 : decode cX11_deathOf 100 = .ok (.iadd, 1) := by decide +kernel
theorem dX11_deathOf_101 : decode cX11_deathOf 101 = .ok (.invokevirtual 59, 3) := by decide +kernel
theorem dX11_deathOf_104 : decode cX11_deathOf 104 = .ok (.goto 5, 3) := by decide +kernel
theorem dX11_deathOf_107 : decode cX11_deathOf 107 = .ok (.bipush (-4), 2) := by decide +kernel
theorem dX11_deathOf_109 : decode cX11_deathOf 109 = .ok (.ireturn, 1) := by decide +kernel
theorem dX11_deathOf_110 : decode cX11_deathOf 110 = .ok (.bipush (-2), 2) := by decide +kernel
theorem dX11_deathOf_112 : decode cX11_deathOf 112 = .ok (.ireturn, 1) := by decide +kernel
theorem e_212 (r : Nat) (a0 : Int32) (a1 : Int32) (a2 : Int32) (ws : ai_W) : ai_Call 212 [.ref r, .int a0, .int a1, .int a2] ws = if ai_isob ws r 11 = true then ai_Run 212 0 [.ref r, .int a0, .int a1, .int a2] [] ws else none := R_entV hk_212 ⟨⟨rfl, rfl⟩, Nat.le_of_ble_eq_true rfl⟩ rfl
theorem r_212_0 (l1 l2 l3 : Value) (a : Nat) (st : List Value) (ws : ai_W) : ai_Run 212 0 [.ref a, l1, l2, l3] st ws = ai_Run 212 1 [.ref a, l1, l2, l3] (.ref a :: st) ws := R_aload_n hc_212 dX11_deathOf_0 rfl rfl
theorem r_212_1 (l0 l2 l3 : Value) (a : Int32) (st : List Value) (ws : ai_W) : ai_Run 212 1 [l0, .int a, l2, l3] st ws = ai_Run 212 2 [l0, .int a, l2, l3] (.int a :: st) ws := R_iload_n hc_212 dX11_deathOf_1 rfl rfl
theorem r_212_2 (l0 l1 l3 : Value) (a : Int32) (st : List Value) (ws : ai_W) : ai_Run 212 2 [l0, l1, .int a, l3] st ws = ai_Run 212 3 [l0, l1, .int a, l3] (.int a :: st) ws := R_iload_n hc_212 dX11_deathOf_2 rfl rfl
theorem r_212_3 (ls : List Value) (r : Nat) (b0 : Int32) (b1 : Int32) (ws : ai_W) : ai_Run 212 3 ls [.int b1, .int b0, .ref r] ws = (ai_Call 211 [.ref r, .int b0, .int b1] ws).bind fun q => ai_Run 212 6 ls (q.1.toList ++ []) q.2 := R_callV hc_212 dX11_deathOf_3 hv_212 (w := 1240) rfl (Nat.le_of_ble_eq_true rfl) hk_211 (by rw [hn_211]; rfl) rfl (Nat.le_of_ble_eq_true rfl) rfl
theorem r_212_6 (ls st : List Value) (a : Int32) (ws : ai_W) : ai_Run 212 6 ls (.int a :: st) ws = if a = 0 then ai_Run 212 9 ls st ws else ai_Run 212 11 ls st ws := R_if_ne hc_212 dX11_deathOf_6 rfl rfl
theorem r_212_9 (ls st : List Value) (ws : ai_W) : ai_Run 212 9 ls st ws = ai_Run 212 10 ls (.int (-1) :: st) ws := R_iconst hc_212 dX11_deathOf_9 (by decide) rfl
theorem r_212_10 (ls : List Value) (x : Int32) (ws : ai_W) : ai_Run 212 10 ls [.int x] ws = some (some (.int x), ws) := R_iret hc_212 dX11_deathOf_10 ht_212
theorem r_212_11 (l0 l1 l2 : Value) (a : Int32) (st : List Value) (ws : ai_W) : ai_Run 212 11 [l0, l1, l2, .int a] st ws = ai_Run 212 12 [l0, l1, l2, .int a] (.int a :: st) ws := R_iload_n hc_212 dX11_deathOf_11 rfl rfl
theorem r_212_12 (ls st : List Value) (x : Int32) (ws : ai_W) : ai_Run 212 12 ls (.int x :: st) ws = if x = 0 then ai_Run 212 48 ls st ws else if x = 1 then ai_Run 212 55 ls st ws else if x = 2 then ai_Run 212 62 ls st ws else if x = 3 then ai_Run 212 76 ls st ws else if x = 4 then ai_Run 212 83 ls st ws else ai_Run 212 110 ls st ws := by
  by_cases h0 : x = 0
  · subst h0; rw [if_pos rfl]; exact R_switch hc_212 dX11_deathOf_12 (by decide +kernel)
  rw [if_neg h0]
  by_cases h1 : x = 1
  · subst h1; rw [if_pos rfl]; exact R_switch hc_212 dX11_deathOf_12 (by decide +kernel)
  rw [if_neg h1]
  by_cases h2 : x = 2
  · subst h2; rw [if_pos rfl]; exact R_switch hc_212 dX11_deathOf_12 (by decide +kernel)
  rw [if_neg h2]
  by_cases h3 : x = 3
  · subst h3; rw [if_pos rfl]; exact R_switch hc_212 dX11_deathOf_12 (by decide +kernel)
  rw [if_neg h3]
  by_cases h4 : x = 4
  · subst h4; rw [if_pos rfl]; exact R_switch hc_212 dX11_deathOf_12 (by decide +kernel)
  rw [if_neg h4]
  have q0 : x.toInt ≠ 0 := fun e => h0 (Int32.toInt_inj.mp e)
  have q1 : x.toInt ≠ 1 := fun e => h1 (Int32.toInt_inj.mp e)
  have q2 : x.toInt ≠ 2 := fun e => h2 (Int32.toInt_inj.mp e)
  have q3 : x.toInt ≠ 3 := fun e => h3 (Int32.toInt_inj.mp e)
  have q4 : x.toInt ≠ 4 := fun e => h4 (Int32.toInt_inj.mp e)
  refine R_switch hc_212 dX11_deathOf_12 (t := 110) ?_
  unfold ai_sw
  rw [if_pos (by omega)]
  rfl
theorem r_212_48 (l1 l2 l3 : Value) (a : Nat) (st : List Value) (ws : ai_W) : ai_Run 212 48 [.ref a, l1, l2, l3] st ws = ai_Run 212 49 [.ref a, l1, l2, l3] (.ref a :: st) ws := R_aload_n hc_212 dX11_deathOf_48 rfl rfl
theorem r_212_49 (l0 l2 l3 : Value) (a : Int32) (st : List Value) (ws : ai_W) : ai_Run 212 49 [l0, .int a, l2, l3] st ws = ai_Run 212 50 [l0, .int a, l2, l3] (.int a :: st) ws := R_iload_n hc_212 dX11_deathOf_49 rfl rfl
theorem r_212_50 (l0 l1 l3 : Value) (a : Int32) (st : List Value) (ws : ai_W) : ai_Run 212 50 [l0, l1, .int a, l3] st ws = ai_Run 212 51 [l0, l1, .int a, l3] (.int a :: st) ws := R_iload_n hc_212 dX11_deathOf_50 rfl rfl
theorem r_212_51 (ls : List Value) (r : Nat) (b0 : Int32) (b1 : Int32) (ws : ai_W) : ai_Run 212 51 ls [.int b1, .int b0, .ref r] ws = (ai_Call 191 [.ref r, .int b0, .int b1] ws).bind fun q => ai_Run 212 54 ls (q.1.toList ++ []) q.2 := R_callV hc_212 dX11_deathOf_51 hv_212 (w := 1252) rfl (Nat.le_of_ble_eq_true rfl) hk_191 (by rw [hn_191]; rfl) rfl (Nat.le_of_ble_eq_true rfl) rfl
theorem r_212_54 (ls : List Value) (x : Int32) (ws : ai_W) : ai_Run 212 54 ls [.int x] ws = some (some (.int x), ws) := R_iret hc_212 dX11_deathOf_54 ht_212
theorem r_212_55 (l1 l2 l3 : Value) (a : Nat) (st : List Value) (ws : ai_W) : ai_Run 212 55 [.ref a, l1, l2, l3] st ws = ai_Run 212 56 [.ref a, l1, l2, l3] (.ref a :: st) ws := R_aload_n hc_212 dX11_deathOf_55 rfl rfl
theorem r_212_56 (l0 l2 l3 : Value) (a : Int32) (st : List Value) (ws : ai_W) : ai_Run 212 56 [l0, .int a, l2, l3] st ws = ai_Run 212 57 [l0, .int a, l2, l3] (.int a :: st) ws := R_iload_n hc_212 dX11_deathOf_56 rfl rfl
theorem r_212_57 (l0 l1 l3 : Value) (a : Int32) (st : List Value) (ws : ai_W) : ai_Run 212 57 [l0, l1, .int a, l3] st ws = ai_Run 212 58 [l0, l1, .int a, l3] (.int a :: st) ws := R_iload_n hc_212 dX11_deathOf_57 rfl rfl
theorem r_212_58 (ls : List Value) (r : Nat) (b0 : Int32) (b1 : Int32) (ws : ai_W) : ai_Run 212 58 ls [.int b1, .int b0, .ref r] ws = (ai_Call 170 [.ref r, .int b0, .int b1] ws).bind fun q => ai_Run 212 61 ls (q.1.toList ++ []) q.2 := R_callV hc_212 dX11_deathOf_58 hv_212 (w := 1244) rfl (Nat.le_of_ble_eq_true rfl) hk_170 (by rw [hn_170]; rfl) rfl (Nat.le_of_ble_eq_true rfl) rfl
theorem r_212_61 (ls : List Value) (x : Int32) (ws : ai_W) : ai_Run 212 61 ls [.int x] ws = some (some (.int x), ws) := R_iret hc_212 dX11_deathOf_61 ht_212
theorem r_212_62 (l1 l2 l3 : Value) (a : Nat) (st : List Value) (ws : ai_W) : ai_Run 212 62 [.ref a, l1, l2, l3] st ws = ai_Run 212 63 [.ref a, l1, l2, l3] (.ref a :: st) ws := R_aload_n hc_212 dX11_deathOf_62 rfl rfl
theorem r_212_63 (ls st : List Value) (a : Nat) (ws : ai_W) : ai_Run 212 63 ls (.ref a :: st) ws = (ai_fget ws a 11 0).bind fun q => ai_Run 212 66 ls (q :: st) ws := R_getf hc_212 dX11_deathOf_63 hv_212 (w := 1024) rfl rfl
theorem r_212_66 (ls st : List Value) (ws : ai_W) : ai_Run 212 66 ls st ws = ai_Run 212 67 ls (.int 3 :: st) ws := R_iconst hc_212 dX11_deathOf_66 (by decide) rfl
theorem r_212_67 (l1 l2 l3 : Value) (a : Nat) (st : List Value) (ws : ai_W) : ai_Run 212 67 [.ref a, l1, l2, l3] st ws = ai_Run 212 68 [.ref a, l1, l2, l3] (.ref a :: st) ws := R_aload_n hc_212 dX11_deathOf_67 rfl rfl
theorem r_212_68 (l0 l2 l3 : Value) (a : Int32) (st : List Value) (ws : ai_W) : ai_Run 212 68 [l0, .int a, l2, l3] st ws = ai_Run 212 69 [l0, .int a, l2, l3] (.int a :: st) ws := R_iload_n hc_212 dX11_deathOf_68 rfl rfl
theorem r_212_69 (l0 l1 l3 : Value) (a : Int32) (st : List Value) (ws : ai_W) : ai_Run 212 69 [l0, l1, .int a, l3] st ws = ai_Run 212 70 [l0, l1, .int a, l3] (.int a :: st) ws := R_iload_n hc_212 dX11_deathOf_69 rfl rfl
theorem r_212_70 (ls : List Value) (r : Nat) (b0 : Int32) (b1 : Int32) (s0 s1 : Value) (ws : ai_W) : ai_Run 212 70 ls [.int b1, .int b0, .ref r, s0, s1] ws = (ai_Call 191 [.ref r, .int b0, .int b1] ws).bind fun q => ai_Run 212 73 ls (q.1.toList ++ [s0, s1]) q.2 := R_callV hc_212 dX11_deathOf_70 hv_212 (w := 1252) rfl (Nat.le_of_ble_eq_true rfl) hk_191 (by rw [hn_191]; rfl) rfl (Nat.le_of_ble_eq_true rfl) rfl
theorem r_212_73 (ls st : List Value) (a b : Int32) (ws : ai_W) : ai_Run 212 73 ls (.int b :: .int a :: st) ws = ai_Run 212 74 ls (.int (a + b) :: st) ws := R_iadd hc_212 dX11_deathOf_73 rfl
theorem r_212_74 (ls st : List Value) (a : Nat) (i : Int32) (ws : ai_W) : ai_Run 212 74 ls (.int i :: .ref a :: st) ws = (ai_aget ws a i).bind fun q => ai_Run 212 75 ls (.int q :: st) ws := R_iaload hc_212 dX11_deathOf_74 rfl
theorem r_212_75 (ls : List Value) (x : Int32) (ws : ai_W) : ai_Run 212 75 ls [.int x] ws = some (some (.int x), ws) := R_iret hc_212 dX11_deathOf_75 ht_212
theorem r_212_76 (l1 l2 l3 : Value) (a : Nat) (st : List Value) (ws : ai_W) : ai_Run 212 76 [.ref a, l1, l2, l3] st ws = ai_Run 212 77 [.ref a, l1, l2, l3] (.ref a :: st) ws := R_aload_n hc_212 dX11_deathOf_76 rfl rfl
theorem r_212_77 (l0 l2 l3 : Value) (a : Int32) (st : List Value) (ws : ai_W) : ai_Run 212 77 [l0, .int a, l2, l3] st ws = ai_Run 212 78 [l0, .int a, l2, l3] (.int a :: st) ws := R_iload_n hc_212 dX11_deathOf_77 rfl rfl
theorem r_212_78 (l0 l1 l3 : Value) (a : Int32) (st : List Value) (ws : ai_W) : ai_Run 212 78 [l0, l1, .int a, l3] st ws = ai_Run 212 79 [l0, l1, .int a, l3] (.int a :: st) ws := R_iload_n hc_212 dX11_deathOf_78 rfl rfl
theorem r_212_79 (ls : List Value) (r : Nat) (b0 : Int32) (b1 : Int32) (ws : ai_W) : ai_Run 212 79 ls [.int b1, .int b0, .ref r] ws = (ai_Call 197 [.ref r, .int b0, .int b1] ws).bind fun q => ai_Run 212 82 ls (q.1.toList ++ []) q.2 := R_callV hc_212 dX11_deathOf_79 hv_212 (w := 1308) rfl (Nat.le_of_ble_eq_true rfl) hk_197 (by rw [hn_197]; rfl) rfl (Nat.le_of_ble_eq_true rfl) rfl
theorem r_212_82 (ls : List Value) (x : Int32) (ws : ai_W) : ai_Run 212 82 ls [.int x] ws = some (some (.int x), ws) := R_iret hc_212 dX11_deathOf_82 ht_212
theorem r_212_83 (l0 l1 l3 : Value) (a : Int32) (st : List Value) (ws : ai_W) : ai_Run 212 83 [l0, l1, .int a, l3] st ws = ai_Run 212 84 [l0, l1, .int a, l3] (.int a :: st) ws := R_iload_n hc_212 dX11_deathOf_83 rfl rfl
theorem r_212_84 (l1 l2 l3 : Value) (a : Nat) (st : List Value) (ws : ai_W) : ai_Run 212 84 [.ref a, l1, l2, l3] st ws = ai_Run 212 85 [.ref a, l1, l2, l3] (.ref a :: st) ws := R_aload_n hc_212 dX11_deathOf_84 rfl rfl
theorem r_212_85 (l0 l2 l3 : Value) (a : Int32) (st : List Value) (ws : ai_W) : ai_Run 212 85 [l0, .int a, l2, l3] st ws = ai_Run 212 86 [l0, .int a, l2, l3] (.int a :: st) ws := R_iload_n hc_212 dX11_deathOf_85 rfl rfl
theorem r_212_86 (ls : List Value) (r : Nat) (b0 : Int32) (s0 : Value) (ws : ai_W) : ai_Run 212 86 ls [.int b0, .ref r, s0] ws = (ai_Call 168 [.ref r, .int b0] ws).bind fun q => ai_Run 212 89 ls (q.1.toList ++ [s0]) q.2 := R_callV hc_212 dX11_deathOf_86 hv_212 (w := 1284) rfl (Nat.le_of_ble_eq_true rfl) hk_168 (by rw [hn_168]; rfl) rfl (Nat.le_of_ble_eq_true rfl) rfl
theorem r_212_89 (ls st : List Value) (a b : Int32) (ws : ai_W) : ai_Run 212 89 ls (.int b :: .int a :: st) ws = if a < b then ai_Run 212 92 ls st ws else ai_Run 212 107 ls st ws := R_cmp_ge hc_212 dX11_deathOf_89 rfl rfl
theorem r_212_92 (l1 l2 l3 : Value) (a : Nat) (st : List Value) (ws : ai_W) : ai_Run 212 92 [.ref a, l1, l2, l3] st ws = ai_Run 212 93 [.ref a, l1, l2, l3] (.ref a :: st) ws := R_aload_n hc_212 dX11_deathOf_92 rfl rfl
theorem r_212_93 (l0 l2 l3 : Value) (a : Int32) (st : List Value) (ws : ai_W) : ai_Run 212 93 [l0, .int a, l2, l3] st ws = ai_Run 212 94 [l0, .int a, l2, l3] (.int a :: st) ws := R_iload_n hc_212 dX11_deathOf_93 rfl rfl
theorem r_212_94 (ls st : List Value) (ws : ai_W) : ai_Run 212 94 ls st ws = ai_Run 212 95 ls (.int 1 :: st) ws := R_iconst hc_212 dX11_deathOf_94 (by decide) rfl
theorem r_212_95 (ls st : List Value) (ws : ai_W) : ai_Run 212 95 ls st ws = ai_Run 212 96 ls (.int 2 :: st) ws := R_iconst hc_212 dX11_deathOf_95 (by decide) rfl
theorem r_212_96 (l0 l1 l3 : Value) (a : Int32) (st : List Value) (ws : ai_W) : ai_Run 212 96 [l0, l1, .int a, l3] st ws = ai_Run 212 97 [l0, l1, .int a, l3] (.int a :: st) ws := R_iload_n hc_212 dX11_deathOf_96 rfl rfl
theorem r_212_97 (ls st : List Value) (a b : Int32) (ws : ai_W) : ai_Run 212 97 ls (.int b :: .int a :: st) ws = ai_Run 212 98 ls (.int (a * b) :: st) ws := R_imul hc_212 dX11_deathOf_97 rfl
theorem r_212_98 (ls st : List Value) (a b : Int32) (ws : ai_W) : ai_Run 212 98 ls (.int b :: .int a :: st) ws = ai_Run 212 99 ls (.int (a + b) :: st) ws := R_iadd hc_212 dX11_deathOf_98 rfl
theorem r_212_99 (ls st : List Value) (ws : ai_W) : ai_Run 212 99 ls st ws = ai_Run 212 100 ls (.int 1 :: st) ws := R_iconst hc_212 dX11_deathOf_99 (by decide) rfl
theorem r_212_100 (ls st : List Value) (a b : Int32) (ws : ai_W) : ai_Run 212 100 ls (.int b :: .int a :: st) ws = ai_Run 212 101 ls (.int (a + b) :: st) ws := R_iadd hc_212 dX11_deathOf_100 rfl
theorem r_212_101 (ls : List Value) (r : Nat) (b0 : Int32) (b1 : Int32) (ws : ai_W) : ai_Run 212 101 ls [.int b1, .int b0, .ref r] ws = (ai_Call 165 [.ref r, .int b0, .int b1] ws).bind fun q => ai_Run 212 104 ls (q.1.toList ++ []) q.2 := R_callV hc_212 dX11_deathOf_101 hv_212 (w := 1137) rfl (Nat.le_of_ble_eq_true rfl) hk_165 (by rw [hn_165]; rfl) rfl (Nat.le_of_ble_eq_true rfl) rfl
theorem r_212_104 (ls st : List Value) (ws : ai_W) : ai_Run 212 104 ls st ws = ai_Run 212 109 ls st ws := R_goto hc_212 dX11_deathOf_104 rfl
theorem r_212_107 (ls st : List Value) (ws : ai_W) : ai_Run 212 107 ls st ws = ai_Run 212 109 ls (.int (-4) :: st) ws := R_bipush hc_212 dX11_deathOf_107 (by decide) rfl
theorem r_212_109 (ls : List Value) (x : Int32) (ws : ai_W) : ai_Run 212 109 ls [.int x] ws = some (some (.int x), ws) := R_iret hc_212 dX11_deathOf_109 ht_212
theorem r_212_110 (ls st : List Value) (ws : ai_W) : ai_Run 212 110 ls st ws = ai_Run 212 112 ls (.int (-2) :: st) ws := R_bipush hc_212 dX11_deathOf_110 (by decide) rfl
theorem r_212_112 (ls : List Value) (x : Int32) (ws : ai_W) : ai_Run 212 112 ls [.int x] ws = some (some (.int x), ws) := R_iret hc_212 dX11_deathOf_112 ht_212
theorem dX11_isDeadNow_0 : decode cX11_isDeadNow 0 = .ok (.aload_n 0, 1) := by decide +kernel
theorem dX11_isDeadNow_1 : decode cX11_isDeadNow 1 = .ok (.iload_n 1, 1) := by decide +kernel
theorem dX11_isDeadNow_2 : decode cX11_isDeadNow 2 = .ok (.iconst 0, 1) := by decide +kernel
theorem dX11_isDeadNow_3 : decode cX11_isDeadNow 3 = .ok (.invokevirtual 59, 3) := by decide +kernel
theorem dX11_isDeadNow_6 : decode cX11_isDeadNow 6 = .ok (.iconst 2, 1) := by decide +kernel
theorem dX11_isDeadNow_7 : decode cX11_isDeadNow 7 = .ok (.irem, 1) := by decide +kernel
theorem dX11_isDeadNow_8 : decode cX11_isDeadNow 8 = .ok (.iconst 1, 1) := by decide +kernel
theorem dX11_isDeadNow_9 : decode cX11_isDeadNow 9 = .ok (.if_icmp .ne 7, 3) := by decide +kernel
theorem dX11_isDeadNow_12 : decode cX11_isDeadNow 12 = .ok (.iconst 1, 1) := by decide +kernel
theorem dX11_isDeadNow_13 : decode cX11_isDeadNow 13 = .ok (.goto 4, 3) := by decide +kernel
theorem dX11_isDeadNow_16 : decode cX11_isDeadNow 16 = .ok (.iconst 0, 1) := by decide +kernel
theorem dX11_isDeadNow_17 : decode cX11_isDeadNow 17 = .ok (.ireturn, 1) := by decide +kernel
theorem e_213 (r : Nat) (a0 : Int32) (ws : ai_W) : ai_Call 213 [.ref r, .int a0] ws = if ai_isob ws r 11 = true then ai_Run 213 0 [.ref r, .int a0] [] ws else none := R_entV hk_213 ⟨⟨rfl, rfl⟩, Nat.le_of_ble_eq_true rfl⟩ rfl
theorem r_213_0 (l1 : Value) (a : Nat) (st : List Value) (ws : ai_W) : ai_Run 213 0 [.ref a, l1] st ws = ai_Run 213 1 [.ref a, l1] (.ref a :: st) ws := R_aload_n hc_213 dX11_isDeadNow_0 rfl rfl
theorem r_213_1 (l0 : Value) (a : Int32) (st : List Value) (ws : ai_W) : ai_Run 213 1 [l0, .int a] st ws = ai_Run 213 2 [l0, .int a] (.int a :: st) ws := R_iload_n hc_213 dX11_isDeadNow_1 rfl rfl
theorem r_213_2 (ls st : List Value) (ws : ai_W) : ai_Run 213 2 ls st ws = ai_Run 213 3 ls (.int 0 :: st) ws := R_iconst hc_213 dX11_isDeadNow_2 (by decide) rfl
theorem r_213_3 (ls : List Value) (r : Nat) (b0 : Int32) (b1 : Int32) (ws : ai_W) : ai_Run 213 3 ls [.int b1, .int b0, .ref r] ws = (ai_Call 165 [.ref r, .int b0, .int b1] ws).bind fun q => ai_Run 213 6 ls (q.1.toList ++ []) q.2 := R_callV hc_213 dX11_isDeadNow_3 hv_213 (w := 1137) rfl (Nat.le_of_ble_eq_true rfl) hk_165 (by rw [hn_165]; rfl) rfl (Nat.le_of_ble_eq_true rfl) rfl
theorem r_213_6 (ls st : List Value) (ws : ai_W) : ai_Run 213 6 ls st ws = ai_Run 213 7 ls (.int 2 :: st) ws := R_iconst hc_213 dX11_isDeadNow_6 (by decide) rfl
theorem r_213_7 (ls st : List Value) (a : Int32) (ws : ai_W) : ai_Run 213 7 ls (.int 2 :: .int a :: st) ws = ai_Run 213 8 ls (.int (a - a / 2 * 2) :: st) ws := R_irem hc_213 dX11_isDeadNow_7 (by decide) rfl
theorem r_213_8 (ls st : List Value) (ws : ai_W) : ai_Run 213 8 ls st ws = ai_Run 213 9 ls (.int 1 :: st) ws := R_iconst hc_213 dX11_isDeadNow_8 (by decide) rfl
theorem r_213_9 (ls st : List Value) (a b : Int32) (ws : ai_W) : ai_Run 213 9 ls (.int b :: .int a :: st) ws = if a = b then ai_Run 213 12 ls st ws else ai_Run 213 16 ls st ws := R_cmp_ne hc_213 dX11_isDeadNow_9 rfl rfl
theorem r_213_12 (ls st : List Value) (ws : ai_W) : ai_Run 213 12 ls st ws = ai_Run 213 13 ls (.int 1 :: st) ws := R_iconst hc_213 dX11_isDeadNow_12 (by decide) rfl
theorem r_213_13 (ls st : List Value) (ws : ai_W) : ai_Run 213 13 ls st ws = ai_Run 213 17 ls st ws := R_goto hc_213 dX11_isDeadNow_13 rfl
theorem r_213_16 (ls st : List Value) (ws : ai_W) : ai_Run 213 16 ls st ws = ai_Run 213 17 ls (.int 0 :: st) ws := R_iconst hc_213 dX11_isDeadNow_16 (by decide) rfl
theorem r_213_17 (ls : List Value) (x : Int32) (ws : ai_W) : ai_Run 213 17 ls [.int x] ws = if ai_pb x = true then some (some (.int x), ws) else none := R_zret hc_213 dX11_isDeadNow_17 ht_213
theorem dX11_lastChapter_0 : decode cX11_lastChapter 0 = .ok (.aload_n 0, 1) := by decide +kernel
theorem dX11_lastChapter_1 : decode cX11_lastChapter 1 = .ok (.iload_n 1, 1) := by decide +kernel
theorem dX11_lastChapter_2 : decode cX11_lastChapter 2 = .ok (.iconst 0, 1) := by decide +kernel
theorem dX11_lastChapter_3 : decode cX11_lastChapter 3 = .ok (.invokevirtual 59, 3) := by decide +kernel
theorem dX11_lastChapter_6 : decode cX11_lastChapter 6 = .ok (.istore_n 2, 1) := by decide +kernel
theorem dX11_lastChapter_7 : decode cX11_lastChapter 7 = .ok (.iload_n 2, 1) := by decide +kernel
theorem dX11_lastChapter_8 : decode cX11_lastChapter 8 = .ok (.ifCond .ne 7, 3) := by decide +kernel
theorem dX11_lastChapter_11 : decode cX11_lastChapter 11 = .ok (.iconst 0, 1) := by decide +kernel
theorem dX11_lastChapter_12 : decode cX11_lastChapter 12 = .ok (.goto 13, 3) := by decide +kernel
theorem dX11_lastChapter_15 : decode cX11_lastChapter 15 = .ok (.aload_n 0, 1) := by decide +kernel
theorem dX11_lastChapter_16 : decode cX11_lastChapter 16 = .ok (.iload_n 1, 1) := by decide +kernel
theorem dX11_lastChapter_17 : decode cX11_lastChapter 17 = .ok (.iconst 1, 1) := by decide +kernel
theorem dX11_lastChapter_18 : decode cX11_lastChapter 18 = .ok (.iload_n 2, 1) := by decide +kernel
theorem dX11_lastChapter_19 : decode cX11_lastChapter 19 = .ok (.iadd, 1) := by decide +kernel
theorem dX11_lastChapter_20 : decode cX11_lastChapter 20 = .ok (.iconst 1, 1) := by decide +kernel
theorem dX11_lastChapter_21 : decode cX11_lastChapter 21 = .ok (.isub, 1) := by decide +kernel
theorem dX11_lastChapter_22 : decode cX11_lastChapter 22 = .ok (.invokevirtual 59, 3) := by decide +kernel
theorem dX11_lastChapter_25 : decode cX11_lastChapter 25 = .ok (.ireturn, 1) := by decide +kernel
theorem e_214 (r : Nat) (a0 : Int32) (ws : ai_W) : ai_Call 214 [.ref r, .int a0] ws = if ai_isob ws r 11 = true then ai_Run 214 0 [.ref r, .int a0, .null] [] ws else none := R_entV hk_214 ⟨⟨rfl, rfl⟩, Nat.le_of_ble_eq_true rfl⟩ rfl
theorem r_214_0 (l1 l2 : Value) (a : Nat) (st : List Value) (ws : ai_W) : ai_Run 214 0 [.ref a, l1, l2] st ws = ai_Run 214 1 [.ref a, l1, l2] (.ref a :: st) ws := R_aload_n hc_214 dX11_lastChapter_0 rfl rfl
theorem r_214_1 (l0 l2 : Value) (a : Int32) (st : List Value) (ws : ai_W) : ai_Run 214 1 [l0, .int a, l2] st ws = ai_Run 214 2 [l0, .int a, l2] (.int a :: st) ws := R_iload_n hc_214 dX11_lastChapter_1 rfl rfl
theorem r_214_2 (ls st : List Value) (ws : ai_W) : ai_Run 214 2 ls st ws = ai_Run 214 3 ls (.int 0 :: st) ws := R_iconst hc_214 dX11_lastChapter_2 (by decide) rfl
theorem r_214_3 (ls : List Value) (r : Nat) (b0 : Int32) (b1 : Int32) (ws : ai_W) : ai_Run 214 3 ls [.int b1, .int b0, .ref r] ws = (ai_Call 165 [.ref r, .int b0, .int b1] ws).bind fun q => ai_Run 214 6 ls (q.1.toList ++ []) q.2 := R_callV hc_214 dX11_lastChapter_3 hv_214 (w := 1137) rfl (Nat.le_of_ble_eq_true rfl) hk_165 (by rw [hn_165]; rfl) rfl (Nat.le_of_ble_eq_true rfl) rfl
theorem r_214_6 (l0 l1 l2 : Value) (a : Int32) (st : List Value) (ws : ai_W) : ai_Run 214 6 [l0, l1, l2] (.int a :: st) ws = ai_Run 214 7 [l0, l1, .int a] st ws := R_istore_n hc_214 dX11_lastChapter_6 (Nat.le_of_ble_eq_true rfl) rfl rfl
theorem r_214_7 (l0 l1 : Value) (a : Int32) (st : List Value) (ws : ai_W) : ai_Run 214 7 [l0, l1, .int a] st ws = ai_Run 214 8 [l0, l1, .int a] (.int a :: st) ws := R_iload_n hc_214 dX11_lastChapter_7 rfl rfl
theorem r_214_8 (ls st : List Value) (a : Int32) (ws : ai_W) : ai_Run 214 8 ls (.int a :: st) ws = if a = 0 then ai_Run 214 11 ls st ws else ai_Run 214 15 ls st ws := R_if_ne hc_214 dX11_lastChapter_8 rfl rfl
theorem r_214_11 (ls st : List Value) (ws : ai_W) : ai_Run 214 11 ls st ws = ai_Run 214 12 ls (.int 0 :: st) ws := R_iconst hc_214 dX11_lastChapter_11 (by decide) rfl
theorem r_214_12 (ls st : List Value) (ws : ai_W) : ai_Run 214 12 ls st ws = ai_Run 214 25 ls st ws := R_goto hc_214 dX11_lastChapter_12 rfl
theorem r_214_15 (l1 l2 : Value) (a : Nat) (st : List Value) (ws : ai_W) : ai_Run 214 15 [.ref a, l1, l2] st ws = ai_Run 214 16 [.ref a, l1, l2] (.ref a :: st) ws := R_aload_n hc_214 dX11_lastChapter_15 rfl rfl
theorem r_214_16 (l0 l2 : Value) (a : Int32) (st : List Value) (ws : ai_W) : ai_Run 214 16 [l0, .int a, l2] st ws = ai_Run 214 17 [l0, .int a, l2] (.int a :: st) ws := R_iload_n hc_214 dX11_lastChapter_16 rfl rfl
theorem r_214_17 (ls st : List Value) (ws : ai_W) : ai_Run 214 17 ls st ws = ai_Run 214 18 ls (.int 1 :: st) ws := R_iconst hc_214 dX11_lastChapter_17 (by decide) rfl
theorem r_214_18 (l0 l1 : Value) (a : Int32) (st : List Value) (ws : ai_W) : ai_Run 214 18 [l0, l1, .int a] st ws = ai_Run 214 19 [l0, l1, .int a] (.int a :: st) ws := R_iload_n hc_214 dX11_lastChapter_18 rfl rfl
theorem r_214_19 (ls st : List Value) (a b : Int32) (ws : ai_W) : ai_Run 214 19 ls (.int b :: .int a :: st) ws = ai_Run 214 20 ls (.int (a + b) :: st) ws := R_iadd hc_214 dX11_lastChapter_19 rfl
theorem r_214_20 (ls st : List Value) (ws : ai_W) : ai_Run 214 20 ls st ws = ai_Run 214 21 ls (.int 1 :: st) ws := R_iconst hc_214 dX11_lastChapter_20 (by decide) rfl
theorem r_214_21 (ls st : List Value) (a b : Int32) (ws : ai_W) : ai_Run 214 21 ls (.int b :: .int a :: st) ws = ai_Run 214 22 ls (.int (a - b) :: st) ws := R_isub hc_214 dX11_lastChapter_21 rfl
theorem r_214_22 (ls : List Value) (r : Nat) (b0 : Int32) (b1 : Int32) (ws : ai_W) : ai_Run 214 22 ls [.int b1, .int b0, .ref r] ws = (ai_Call 165 [.ref r, .int b0, .int b1] ws).bind fun q => ai_Run 214 25 ls (q.1.toList ++ []) q.2 := R_callV hc_214 dX11_lastChapter_22 hv_214 (w := 1137) rfl (Nat.le_of_ble_eq_true rfl) hk_165 (by rw [hn_165]; rfl) rfl (Nat.le_of_ble_eq_true rfl) rfl
theorem r_214_25 (ls : List Value) (x : Int32) (ws : ai_W) : ai_Run 214 25 ls [.int x] ws = some (some (.int x), ws) := R_iret hc_214 dX11_lastChapter_25 ht_214
theorem dX11_isTooEarly_0 : decode cX11_isTooEarly 0 = .ok (.aload_n 0, 1) := by decide +kernel
theorem dX11_isTooEarly_1 : decode cX11_isTooEarly 1 = .ok (.iload_n 1, 1) := by decide +kernel
theorem dX11_isTooEarly_2 : decode cX11_isTooEarly 2 = .ok (.invokevirtual 91, 3) := by decide +kernel
theorem dX11_isTooEarly_5 : decode cX11_isTooEarly 5 = .ok (.istore_n 3, 1) := by decide +kernel
theorem dX11_isTooEarly_6 : decode cX11_isTooEarly 6 = .ok (.aload_n 0, 1) := by decide +kernel
theorem dX11_isTooEarly_7 : decode cX11_isTooEarly 7 = .ok (.iload_n 2, 1) := by decide +kernel
theorem dX11_isTooEarly_8 : decode cX11_isTooEarly 8 = .ok (.iload_n 3, 1) := by decide +kernel
theorem dX11_isTooEarly_9 : decode cX11_isTooEarly 9 = .ok (.if_icmp .gt 7, 3) := by decide +kernel
theorem dX11_isTooEarly_12 : decode cX11_isTooEarly 12 = .ok (.iconst 1, 1) := by decide +kernel
theorem dX11_isTooEarly_13 : decode cX11_isTooEarly 13 = .ok (.goto 4, 3) := by decide +kernel
theorem dX11_isTooEarly_16 : decode cX11_isTooEarly 16 = .ok (.iconst 0, 1) := by decide +kernel
theorem dX11_isTooEarly_17 : decode cX11_isTooEarly 17 = .ok (.iconst 2, 1) := by decide +kernel
theorem dX11_isTooEarly_18 : decode cX11_isTooEarly 18 = .ok (.iload_n 3, 1) := by decide +kernel
theorem dX11_isTooEarly_19 : decode cX11_isTooEarly 19 = .ok (.invokevirtual 70, 3) := by decide +kernel
theorem dX11_isTooEarly_22 : decode cX11_isTooEarly 22 = .ok (.ifCond .ne 29, 3) := by decide +kernel
theorem dX11_isTooEarly_25 : decode cX11_isTooEarly 25 = .ok (.aload_n 0, 1) := by decide +kernel
theorem dX11_isTooEarly_26 : decode cX11_isTooEarly 26 = .ok (.aload_n 0, 1) := by decide +kernel
theorem dX11_isTooEarly_27 : decode cX11_isTooEarly 27 = .ok (.iload_n 1, 1) := by decide +kernel
theorem dX11_isTooEarly_28 : decode cX11_isTooEarly 28 = .ok (.iconst 0, 1) := by decide +kernel
theorem dX11_isTooEarly_29 : decode cX11_isTooEarly 29 = .ok (.invokevirtual 59, 3) := by decide +kernel
theorem dX11_isTooEarly_32 : decode cX11_isTooEarly 32 = .ok (.bipush 6, 2) := by decide +kernel
theorem dX11_isTooEarly_34 : decode cX11_isTooEarly 34 = .ok (.if_icmp .ne 7, 3) := by decide +kernel
theorem dX11_isTooEarly_37 : decode cX11_isTooEarly 37 = .ok (.iconst 1, 1) := by decide +kernel
theorem dX11_isTooEarly_38 : decode cX11_isTooEarly 38 = .ok (.goto 4, 3) := by decide +kernel
theorem dX11_isTooEarly_41 : decode cX11_isTooEarly 41 = .ok (.iconst 0, 1) := by decide +kernel
theorem dX11_isTooEarly_42 : decode cX11_isTooEarly 42 = .ok (.iconst 1, 1) := by decide +kernel
theorem dX11_isTooEarly_43 : decode cX11_isTooEarly 43 = .ok (.bipush 6, 2) := by decide +kernel
theorem dX11_isTooEarly_45 : decode cX11_isTooEarly 45 = .ok (.invokevirtual 70, 3) := by decide +kernel
theorem dX11_isTooEarly_48 : decode cX11_isTooEarly 48 = .ok (.ifCond .eq 7, 3) := by decide +kernel
theorem dX11_isTooEarly_51 : decode cX11_isTooEarly 51 = .ok (.iconst 1, 1) := by decide +kernel
theorem dX11_isTooEarly_52 : decode cX11_isTooEarly 52 = .ok (.goto 4, 3) := by decide +kernel
theorem dX11_isTooEarly_55 : decode cX11_isTooEarly 55 = .ok (.iconst 0, 1) := by decide +kernel
theorem dX11_isTooEarly_56 : decode cX11_isTooEarly 56 = .ok (.ireturn, 1) := by decide +kernel
theorem e_215 (r : Nat) (a0 : Int32) (a1 : Int32) (ws : ai_W) : ai_Call 215 [.ref r, .int a0, .int a1] ws = if ai_isob ws r 11 = true then ai_Run 215 0 [.ref r, .int a0, .int a1, .null] [] ws else none := R_entV hk_215 ⟨⟨rfl, rfl⟩, Nat.le_of_ble_eq_true rfl⟩ rfl
theorem r_215_0 (l1 l2 l3 : Value) (a : Nat) (st : List Value) (ws : ai_W) : ai_Run 215 0 [.ref a, l1, l2, l3] st ws = ai_Run 215 1 [.ref a, l1, l2, l3] (.ref a :: st) ws := R_aload_n hc_215 dX11_isTooEarly_0 rfl rfl
theorem r_215_1 (l0 l2 l3 : Value) (a : Int32) (st : List Value) (ws : ai_W) : ai_Run 215 1 [l0, .int a, l2, l3] st ws = ai_Run 215 2 [l0, .int a, l2, l3] (.int a :: st) ws := R_iload_n hc_215 dX11_isTooEarly_1 rfl rfl
theorem r_215_2 (ls : List Value) (r : Nat) (b0 : Int32) (ws : ai_W) : ai_Run 215 2 ls [.int b0, .ref r] ws = (ai_Call 214 [.ref r, .int b0] ws).bind fun q => ai_Run 215 5 ls (q.1.toList ++ []) q.2 := R_callV hc_215 dX11_isTooEarly_2 hv_215 (w := 1149) rfl (Nat.le_of_ble_eq_true rfl) hk_214 (by rw [hn_214]; rfl) rfl (Nat.le_of_ble_eq_true rfl) rfl
theorem r_215_5 (l0 l1 l2 l3 : Value) (a : Int32) (st : List Value) (ws : ai_W) : ai_Run 215 5 [l0, l1, l2, l3] (.int a :: st) ws = ai_Run 215 6 [l0, l1, l2, .int a] st ws := R_istore_n hc_215 dX11_isTooEarly_5 (Nat.le_of_ble_eq_true rfl) rfl rfl
theorem r_215_6 (l1 l2 l3 : Value) (a : Nat) (st : List Value) (ws : ai_W) : ai_Run 215 6 [.ref a, l1, l2, l3] st ws = ai_Run 215 7 [.ref a, l1, l2, l3] (.ref a :: st) ws := R_aload_n hc_215 dX11_isTooEarly_6 rfl rfl
theorem r_215_7 (l0 l1 l3 : Value) (a : Int32) (st : List Value) (ws : ai_W) : ai_Run 215 7 [l0, l1, .int a, l3] st ws = ai_Run 215 8 [l0, l1, .int a, l3] (.int a :: st) ws := R_iload_n hc_215 dX11_isTooEarly_7 rfl rfl
theorem r_215_8 (l0 l1 l2 : Value) (a : Int32) (st : List Value) (ws : ai_W) : ai_Run 215 8 [l0, l1, l2, .int a] st ws = ai_Run 215 9 [l0, l1, l2, .int a] (.int a :: st) ws := R_iload_n hc_215 dX11_isTooEarly_8 rfl rfl
theorem r_215_9 (ls st : List Value) (a b : Int32) (ws : ai_W) : ai_Run 215 9 ls (.int b :: .int a :: st) ws = if b < a then ai_Run 215 16 ls st ws else ai_Run 215 12 ls st ws := R_cmp_gt hc_215 dX11_isTooEarly_9 rfl rfl
theorem r_215_12 (ls st : List Value) (ws : ai_W) : ai_Run 215 12 ls st ws = ai_Run 215 13 ls (.int 1 :: st) ws := R_iconst hc_215 dX11_isTooEarly_12 (by decide) rfl
theorem r_215_13 (ls st : List Value) (ws : ai_W) : ai_Run 215 13 ls st ws = ai_Run 215 17 ls st ws := R_goto hc_215 dX11_isTooEarly_13 rfl
theorem r_215_16 (ls st : List Value) (ws : ai_W) : ai_Run 215 16 ls st ws = ai_Run 215 17 ls (.int 0 :: st) ws := R_iconst hc_215 dX11_isTooEarly_16 (by decide) rfl
theorem r_215_17 (ls st : List Value) (ws : ai_W) : ai_Run 215 17 ls st ws = ai_Run 215 18 ls (.int 2 :: st) ws := R_iconst hc_215 dX11_isTooEarly_17 (by decide) rfl
theorem r_215_18 (l0 l1 l2 : Value) (a : Int32) (st : List Value) (ws : ai_W) : ai_Run 215 18 [l0, l1, l2, .int a] st ws = ai_Run 215 19 [l0, l1, l2, .int a] (.int a :: st) ws := R_iload_n hc_215 dX11_isTooEarly_18 rfl rfl
theorem r_215_19 (ls : List Value) (r : Nat) (b0 : Int32) (b1 : Int32) (b2 : Int32) (ws : ai_W) : ai_Run 215 19 ls [.int b2, .int b1, .int b0, .ref r] ws = (ai_Call 183 [.ref r, .int b0, .int b1, .int b2] ws).bind fun q => ai_Run 215 22 ls (q.1.toList ++ []) q.2 := R_callV hc_215 dX11_isTooEarly_19 hv_215 (w := 1088) rfl (Nat.le_of_ble_eq_true rfl) hk_183 (by rw [hn_183]; rfl) rfl (Nat.le_of_ble_eq_true rfl) rfl
theorem r_215_22 (ls st : List Value) (a : Int32) (ws : ai_W) : ai_Run 215 22 ls (.int a :: st) ws = if a = 0 then ai_Run 215 25 ls st ws else ai_Run 215 51 ls st ws := R_if_ne hc_215 dX11_isTooEarly_22 rfl rfl
theorem r_215_25 (l1 l2 l3 : Value) (a : Nat) (st : List Value) (ws : ai_W) : ai_Run 215 25 [.ref a, l1, l2, l3] st ws = ai_Run 215 26 [.ref a, l1, l2, l3] (.ref a :: st) ws := R_aload_n hc_215 dX11_isTooEarly_25 rfl rfl
theorem r_215_26 (l1 l2 l3 : Value) (a : Nat) (st : List Value) (ws : ai_W) : ai_Run 215 26 [.ref a, l1, l2, l3] st ws = ai_Run 215 27 [.ref a, l1, l2, l3] (.ref a :: st) ws := R_aload_n hc_215 dX11_isTooEarly_26 rfl rfl
theorem r_215_27 (l0 l2 l3 : Value) (a : Int32) (st : List Value) (ws : ai_W) : ai_Run 215 27 [l0, .int a, l2, l3] st ws = ai_Run 215 28 [l0, .int a, l2, l3] (.int a :: st) ws := R_iload_n hc_215 dX11_isTooEarly_27 rfl rfl
theorem r_215_28 (ls st : List Value) (ws : ai_W) : ai_Run 215 28 ls st ws = ai_Run 215 29 ls (.int 0 :: st) ws := R_iconst hc_215 dX11_isTooEarly_28 (by decide) rfl
theorem r_215_29 (ls : List Value) (r : Nat) (b0 : Int32) (b1 : Int32) (s0 : Value) (ws : ai_W) : ai_Run 215 29 ls [.int b1, .int b0, .ref r, s0] ws = (ai_Call 165 [.ref r, .int b0, .int b1] ws).bind fun q => ai_Run 215 32 ls (q.1.toList ++ [s0]) q.2 := R_callV hc_215 dX11_isTooEarly_29 hv_215 (w := 1137) rfl (Nat.le_of_ble_eq_true rfl) hk_165 (by rw [hn_165]; rfl) rfl (Nat.le_of_ble_eq_true rfl) rfl
theorem r_215_32 (ls st : List Value) (ws : ai_W) : ai_Run 215 32 ls st ws = ai_Run 215 34 ls (.int 6 :: st) ws := R_bipush hc_215 dX11_isTooEarly_32 (by decide) rfl
theorem r_215_34 (ls st : List Value) (a b : Int32) (ws : ai_W) : ai_Run 215 34 ls (.int b :: .int a :: st) ws = if a = b then ai_Run 215 37 ls st ws else ai_Run 215 41 ls st ws := R_cmp_ne hc_215 dX11_isTooEarly_34 rfl rfl
theorem r_215_37 (ls st : List Value) (ws : ai_W) : ai_Run 215 37 ls st ws = ai_Run 215 38 ls (.int 1 :: st) ws := R_iconst hc_215 dX11_isTooEarly_37 (by decide) rfl
theorem r_215_38 (ls st : List Value) (ws : ai_W) : ai_Run 215 38 ls st ws = ai_Run 215 42 ls st ws := R_goto hc_215 dX11_isTooEarly_38 rfl
theorem r_215_41 (ls st : List Value) (ws : ai_W) : ai_Run 215 41 ls st ws = ai_Run 215 42 ls (.int 0 :: st) ws := R_iconst hc_215 dX11_isTooEarly_41 (by decide) rfl
theorem r_215_42 (ls st : List Value) (ws : ai_W) : ai_Run 215 42 ls st ws = ai_Run 215 43 ls (.int 1 :: st) ws := R_iconst hc_215 dX11_isTooEarly_42 (by decide) rfl
theorem r_215_43 (ls st : List Value) (ws : ai_W) : ai_Run 215 43 ls st ws = ai_Run 215 45 ls (.int 6 :: st) ws := R_bipush hc_215 dX11_isTooEarly_43 (by decide) rfl
theorem r_215_45 (ls : List Value) (r : Nat) (b0 : Int32) (b1 : Int32) (b2 : Int32) (ws : ai_W) : ai_Run 215 45 ls [.int b2, .int b1, .int b0, .ref r] ws = (ai_Call 183 [.ref r, .int b0, .int b1, .int b2] ws).bind fun q => ai_Run 215 48 ls (q.1.toList ++ []) q.2 := R_callV hc_215 dX11_isTooEarly_45 hv_215 (w := 1088) rfl (Nat.le_of_ble_eq_true rfl) hk_183 (by rw [hn_183]; rfl) rfl (Nat.le_of_ble_eq_true rfl) rfl
theorem r_215_48 (ls st : List Value) (a : Int32) (ws : ai_W) : ai_Run 215 48 ls (.int a :: st) ws = if a = 0 then ai_Run 215 55 ls st ws else ai_Run 215 51 ls st ws := R_if_eq hc_215 dX11_isTooEarly_48 rfl rfl
theorem r_215_51 (ls st : List Value) (ws : ai_W) : ai_Run 215 51 ls st ws = ai_Run 215 52 ls (.int 1 :: st) ws := R_iconst hc_215 dX11_isTooEarly_51 (by decide) rfl
theorem r_215_52 (ls st : List Value) (ws : ai_W) : ai_Run 215 52 ls st ws = ai_Run 215 56 ls st ws := R_goto hc_215 dX11_isTooEarly_52 rfl
theorem r_215_55 (ls st : List Value) (ws : ai_W) : ai_Run 215 55 ls st ws = ai_Run 215 56 ls (.int 0 :: st) ws := R_iconst hc_215 dX11_isTooEarly_55 (by decide) rfl
theorem r_215_56 (ls : List Value) (x : Int32) (ws : ai_W) : ai_Run 215 56 ls [.int x] ws = if ai_pb x = true then some (some (.int x), ws) else none := R_zret hc_215 dX11_isTooEarly_56 ht_215
