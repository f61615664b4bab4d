/-! rules: printed by gen2.py -/
theorem dX11_dies_0 : decode cX11_dies 0 = .ok (.aload_n 0, 1) := by decide +kernel
theorem dX11_dies_1 : decode cX11_dies 1 = .ok (.iload_n 1, 1) := by decide +kernel
theorem dX11_dies_2 : decode cX11_dies 2 = .ok (.invokevirtual 63, 3) := by decide +kernel
theorem dX11_dies_5 : decode cX11_dies 5 = .ok (.ifCond .ne 5, 3) := by decide +kernel
theorem dX11_dies_8 : decode cX11_dies 8 = .ok (.iconst (-1), 1) := by decide +kernel
theorem dX11_dies_9 : decode cX11_dies 9 = .ok (.ireturn, 1) := by decide +kernel
theorem dX11_dies_10 : decode cX11_dies 10 = .ok (.iload_n 2, 1) := by decide +kernel
theorem dX11_dies_11 : decode cX11_dies 11 = .ok (.invokestatic 94, 3) := by decide +kernel
theorem dX11_dies_14 : decode cX11_dies 14 = .ok (.ifCond .ne 6, 3) := by decide +kernel
theorem dX11_dies_17 : decode cX11_dies 17 = .ok (.bipush (-2), 2) := by decide +kernel
theorem dX11_dies_19 : decode cX11_dies 19 = .ok (.ireturn, 1) := by decide +kernel
theorem dX11_dies_20 : decode cX11_dies 20 = .ok (.aload_n 0, 1) := by decide +kernel
theorem dX11_dies_21 : decode cX11_dies 21 = .ok (.aload_n 0, 1) := by decide +kernel
theorem dX11_dies_22 : decode cX11_dies 22 = .ok (.iload_n 1, 1) := by decide +kernel
theorem dX11_dies_23 : decode cX11_dies 23 = .ok (.invokevirtual 97, 3) := by decide +kernel
theorem dX11_dies_26 : decode cX11_dies 26 = .ok (.iconst 3, 1) := by decide +kernel
theorem dX11_dies_27 : decode cX11_dies 27 = .ok (.aload_n 0, 1) := by decide +kernel
theorem dX11_dies_28 : decode cX11_dies 28 = .ok (.iload_n 1, 1) := by decide +kernel
theorem dX11_dies_29 : decode cX11_dies 29 = .ok (.invokevirtual 66, 3) := by decide +kernel
theorem dX11_dies_32 : decode cX11_dies 32 = .ok (.invokevirtual 70, 3) := by decide +kernel
theorem dX11_dies_35 : decode cX11_dies 35 = .ok (.ifCond .ne 12, 3) := by decide +kernel
theorem dX11_dies_38 : decode cX11_dies 38 = .ok (.aload_n 0, 1) := by decide +kernel
theorem dX11_dies_39 : decode cX11_dies 39 = .ok (.iload_n 1, 1) := by decide +kernel
theorem dX11_dies_40 : decode cX11_dies 40 = .ok (.iload_n 2, 1) := by decide +kernel
theorem dX11_dies_41 : decode cX11_dies 41 = .ok (.invokevirtual 100, 3) := by decide +kernel
theorem dX11_dies_44 : decode cX11_dies 44 = .ok (.ifCond .eq 6, 3) := by decide +kernel
theorem dX11_dies_47 : decode cX11_dies 47 = .ok (.bipush (-3), 2) := by decide +kernel
theorem dX11_dies_49 : decode cX11_dies 49 = .ok (.ireturn, 1) := by decide +kernel
theorem dX11_dies_50 : decode cX11_dies 50 = .ok (.aload_n 0, 1) := by decide +kernel
theorem dX11_dies_51 : decode cX11_dies 51 = .ok (.iload_n 1, 1) := by decide +kernel
theorem dX11_dies_52 : decode cX11_dies 52 = .ok (.iload_n 2, 1) := by decide +kernel
theorem dX11_dies_53 : decode cX11_dies 53 = .ok (.invokevirtual 104, 3) := by decide +kernel
theorem dX11_dies_56 : decode cX11_dies 56 = .ok (.aload_n 0, 1) := by decide +kernel
theorem dX11_dies_57 : decode cX11_dies 57 = .ok (.iload_n 1, 1) := by decide +kernel
theorem dX11_dies_58 : decode cX11_dies 58 = .ok (.invokevirtual 66, 3) := by decide +kernel
theorem dX11_dies_61 : decode cX11_dies 61 = .ok (.ireturn, 1) := by decide +kernel
theorem e_216 (r : Nat) (a0 : Int32) (a1 : Int32) (ws : ai_W) : ai_Call 216 [.ref r, .int a0, .int a1] ws = if ai_isob ws r 11 = true then ai_Run 216 0 [.ref r, .int a0, .int a1] [] ws else none := R_entV hk_216 ⟨⟨rfl, rfl⟩, Nat.le_of_ble_eq_true rfl⟩ rfl
theorem r_216_0 (l1 l2 : Value) (a : Nat) (st : List Value) (ws : ai_W) : ai_Run 216 0 [.ref a, l1, l2] st ws = ai_Run 216 1 [.ref a, l1, l2] (.ref a :: st) ws := R_aload_n hc_216 dX11_dies_0 rfl rfl
theorem r_216_1 (l0 l2 : Value) (a : Int32) (st : List Value) (ws : ai_W) : ai_Run 216 1 [l0, .int a, l2] st ws = ai_Run 216 2 [l0, .int a, l2] (.int a :: st) ws := R_iload_n hc_216 dX11_dies_1 rfl rfl
theorem r_216_2 (ls : List Value) (r : Nat) (b0 : Int32) (ws : ai_W) : ai_Run 216 2 ls [.int b0, .ref r] ws = (ai_Call 200 [.ref r, .int b0] ws).bind fun q => ai_Run 216 5 ls (q.1.toList ++ []) q.2 := R_callV hc_216 dX11_dies_2 hv_216 (w := 1123) rfl (Nat.le_of_ble_eq_true rfl) hk_200 (by rw [hn_200]; rfl) rfl (Nat.le_of_ble_eq_true rfl) rfl
theorem r_216_5 (ls st : List Value) (a : Int32) (ws : ai_W) : ai_Run 216 5 ls (.int a :: st) ws = if a = 0 then ai_Run 216 8 ls st ws else ai_Run 216 10 ls st ws := R_if_ne hc_216 dX11_dies_5 rfl rfl
theorem r_216_8 (ls st : List Value) (ws : ai_W) : ai_Run 216 8 ls st ws = ai_Run 216 9 ls (.int (-1) :: st) ws := R_iconst hc_216 dX11_dies_8 (by decide) rfl
theorem r_216_9 (ls : List Value) (x : Int32) (ws : ai_W) : ai_Run 216 9 ls [.int x] ws = some (some (.int x), ws) := R_iret hc_216 dX11_dies_9 ht_216
theorem r_216_10 (l0 l1 : Value) (a : Int32) (st : List Value) (ws : ai_W) : ai_Run 216 10 [l0, l1, .int a] st ws = ai_Run 216 11 [l0, l1, .int a] (.int a :: st) ws := R_iload_n hc_216 dX11_dies_10 rfl rfl
theorem r_216_11 (ls : List Value) (b0 : Int32) (ws : ai_W) : ai_Run 216 11 ls [.int b0] ws = (ai_Call 207 [.int b0] ws).bind fun q => ai_Run 216 14 ls (q.1.toList ++ []) q.2 := R_callS hc_216 dX11_dies_11 hv_216 (w := 1130) rfl (Nat.le_of_ble_eq_true rfl) hk_207 (by rw [hn_207]; rfl) rfl (Nat.le_of_ble_eq_true rfl) rfl
theorem r_216_14 (ls st : List Value) (a : Int32) (ws : ai_W) : ai_Run 216 14 ls (.int a :: st) ws = if a = 0 then ai_Run 216 17 ls st ws else ai_Run 216 20 ls st ws := R_if_ne hc_216 dX11_dies_14 rfl rfl
theorem r_216_17 (ls st : List Value) (ws : ai_W) : ai_Run 216 17 ls st ws = ai_Run 216 19 ls (.int (-2) :: st) ws := R_bipush hc_216 dX11_dies_17 (by decide) rfl
theorem r_216_19 (ls : List Value) (x : Int32) (ws : ai_W) : ai_Run 216 19 ls [.int x] ws = some (some (.int x), ws) := R_iret hc_216 dX11_dies_19 ht_216
theorem r_216_20 (l1 l2 : Value) (a : Nat) (st : List Value) (ws : ai_W) : ai_Run 216 20 [.ref a, l1, l2] st ws = ai_Run 216 21 [.ref a, l1, l2] (.ref a :: st) ws := R_aload_n hc_216 dX11_dies_20 rfl rfl
theorem r_216_21 (l1 l2 : Value) (a : Nat) (st : List Value) (ws : ai_W) : ai_Run 216 21 [.ref a, l1, l2] st ws = ai_Run 216 22 [.ref a, l1, l2] (.ref a :: st) ws := R_aload_n hc_216 dX11_dies_21 rfl rfl
theorem r_216_22 (l0 l2 : Value) (a : Int32) (st : List Value) (ws : ai_W) : ai_Run 216 22 [l0, .int a, l2] st ws = ai_Run 216 23 [l0, .int a, l2] (.int a :: st) ws := R_iload_n hc_216 dX11_dies_22 rfl rfl
theorem r_216_23 (ls : List Value) (r : Nat) (b0 : Int32) (s0 : Value) (ws : ai_W) : ai_Run 216 23 ls [.int b0, .ref r, s0] ws = (ai_Call 213 [.ref r, .int b0] ws).bind fun q => ai_Run 216 26 ls (q.1.toList ++ [s0]) q.2 := R_callV hc_216 dX11_dies_23 hv_216 (w := 1133) rfl (Nat.le_of_ble_eq_true rfl) hk_213 (by rw [hn_213]; rfl) rfl (Nat.le_of_ble_eq_true rfl) rfl
theorem r_216_26 (ls st : List Value) (ws : ai_W) : ai_Run 216 26 ls st ws = ai_Run 216 27 ls (.int 3 :: st) ws := R_iconst hc_216 dX11_dies_26 (by decide) rfl
theorem r_216_27 (l1 l2 : Value) (a : Nat) (st : List Value) (ws : ai_W) : ai_Run 216 27 [.ref a, l1, l2] st ws = ai_Run 216 28 [.ref a, l1, l2] (.ref a :: st) ws := R_aload_n hc_216 dX11_dies_27 rfl rfl
theorem r_216_28 (l0 l2 : Value) (a : Int32) (st : List Value) (ws : ai_W) : ai_Run 216 28 [l0, .int a, l2] st ws = ai_Run 216 29 [l0, .int a, l2] (.int a :: st) ws := R_iload_n hc_216 dX11_dies_28 rfl rfl
theorem r_216_29 (ls : List Value) (r : Nat) (b0 : Int32) (s0 s1 s2 : Value) (ws : ai_W) : ai_Run 216 29 ls [.int b0, .ref r, s0, s1, s2] ws = (ai_Call 166 [.ref r, .int b0] ws).bind fun q => ai_Run 216 32 ls (q.1.toList ++ [s0, s1, s2]) q.2 := R_callV hc_216 dX11_dies_29 hv_216 (w := 1141) rfl (Nat.le_of_ble_eq_true rfl) hk_166 (by rw [hn_166]; rfl) rfl (Nat.le_of_ble_eq_true rfl) rfl
theorem r_216_32 (ls : List Value) (r : Nat) (b0 : Int32) (b1 : Int32) (b2 : Int32) (ws : ai_W) : ai_Run 216 32 ls [.int b2, .int b1, .int b0, .ref r] ws = (ai_Call 183 [.ref r, .int b0, .int b1, .int b2] ws).bind fun q => ai_Run 216 35 ls (q.1.toList ++ []) q.2 := R_callV hc_216 dX11_dies_32 hv_216 (w := 1088) rfl (Nat.le_of_ble_eq_true rfl) hk_183 (by rw [hn_183]; rfl) rfl (Nat.le_of_ble_eq_true rfl) rfl
theorem r_216_35 (ls st : List Value) (a : Int32) (ws : ai_W) : ai_Run 216 35 ls (.int a :: st) ws = if a = 0 then ai_Run 216 38 ls st ws else ai_Run 216 47 ls st ws := R_if_ne hc_216 dX11_dies_35 rfl rfl
theorem r_216_38 (l1 l2 : Value) (a : Nat) (st : List Value) (ws : ai_W) : ai_Run 216 38 [.ref a, l1, l2] st ws = ai_Run 216 39 [.ref a, l1, l2] (.ref a :: st) ws := R_aload_n hc_216 dX11_dies_38 rfl rfl
theorem r_216_39 (l0 l2 : Value) (a : Int32) (st : List Value) (ws : ai_W) : ai_Run 216 39 [l0, .int a, l2] st ws = ai_Run 216 40 [l0, .int a, l2] (.int a :: st) ws := R_iload_n hc_216 dX11_dies_39 rfl rfl
theorem r_216_40 (l0 l1 : Value) (a : Int32) (st : List Value) (ws : ai_W) : ai_Run 216 40 [l0, l1, .int a] st ws = ai_Run 216 41 [l0, l1, .int a] (.int a :: st) ws := R_iload_n hc_216 dX11_dies_40 rfl rfl
theorem r_216_41 (ls : List Value) (r : Nat) (b0 : Int32) (b1 : Int32) (ws : ai_W) : ai_Run 216 41 ls [.int b1, .int b0, .ref r] ws = (ai_Call 215 [.ref r, .int b0, .int b1] ws).bind fun q => ai_Run 216 44 ls (q.1.toList ++ []) q.2 := R_callV hc_216 dX11_dies_41 hv_216 (w := 1145) rfl (Nat.le_of_ble_eq_true rfl) hk_215 (by rw [hn_215]; rfl) rfl (Nat.le_of_ble_eq_true rfl) rfl
theorem r_216_44 (ls st : List Value) (a : Int32) (ws : ai_W) : ai_Run 216 44 ls (.int a :: st) ws = if a = 0 then ai_Run 216 50 ls st ws else ai_Run 216 47 ls st ws := R_if_eq hc_216 dX11_dies_44 rfl rfl
theorem r_216_47 (ls st : List Value) (ws : ai_W) : ai_Run 216 47 ls st ws = ai_Run 216 49 ls (.int (-3) :: st) ws := R_bipush hc_216 dX11_dies_47 (by decide) rfl
theorem r_216_49 (ls : List Value) (x : Int32) (ws : ai_W) : ai_Run 216 49 ls [.int x] ws = some (some (.int x), ws) := R_iret hc_216 dX11_dies_49 ht_216
theorem r_216_50 (l1 l2 : Value) (a : Nat) (st : List Value) (ws : ai_W) : ai_Run 216 50 [.ref a, l1, l2] st ws = ai_Run 216 51 [.ref a, l1, l2] (.ref a :: st) ws := R_aload_n hc_216 dX11_dies_50 rfl rfl
theorem r_216_51 (l0 l2 : Value) (a : Int32) (st : List Value) (ws : ai_W) : ai_Run 216 51 [l0, .int a, l2] st ws = ai_Run 216 52 [l0, .int a, l2] (.int a :: st) ws := R_iload_n hc_216 dX11_dies_51 rfl rfl
theorem r_216_52 (l0 l1 : Value) (a : Int32) (st : List Value) (ws : ai_W) : ai_Run 216 52 [l0, l1, .int a] st ws = ai_Run 216 53 [l0, l1, .int a] (.int a :: st) ws := R_iload_n hc_216 dX11_dies_52 rfl rfl
theorem r_216_53 (ls : List Value) (r : Nat) (b0 : Int32) (b1 : Int32) (ws : ai_W) : ai_Run 216 53 ls [.int b1, .int b0, .ref r] ws = (ai_Call 178 [.ref r, .int b0, .int b1] ws).bind fun q => ai_Run 216 56 ls (q.1.toList ++ []) q.2 := R_callV hc_216 dX11_dies_53 hv_216 (w := 1153) rfl (Nat.le_of_ble_eq_true rfl) hk_178 (by rw [hn_178]; rfl) rfl (Nat.le_of_ble_eq_true rfl) rfl
theorem r_216_56 (l1 l2 : Value) (a : Nat) (st : List Value) (ws : ai_W) : ai_Run 216 56 [.ref a, l1, l2] st ws = ai_Run 216 57 [.ref a, l1, l2] (.ref a :: st) ws := R_aload_n hc_216 dX11_dies_56 rfl rfl
theorem r_216_57 (l0 l2 : Value) (a : Int32) (st : List Value) (ws : ai_W) : ai_Run 216 57 [l0, .int a, l2] st ws = ai_Run 216 58 [l0, .int a, l2] (.int a :: st) ws := R_iload_n hc_216 dX11_dies_57 rfl rfl
theorem r_216_58 (ls : List Value) (r : Nat) (b0 : Int32) (ws : ai_W) : ai_Run 216 58 ls [.int b0, .ref r] ws = (ai_Call 166 [.ref r, .int b0] ws).bind fun q => ai_Run 216 61 ls (q.1.toList ++ []) q.2 := R_callV hc_216 dX11_dies_58 hv_216 (w := 1141) rfl (Nat.le_of_ble_eq_true rfl) hk_166 (by rw [hn_166]; rfl) rfl (Nat.le_of_ble_eq_true rfl) rfl
theorem r_216_61 (ls : List Value) (x : Int32) (ws : ai_W) : ai_Run 216 61 ls [.int x] ws = some (some (.int x), ws) := R_iret hc_216 dX11_dies_61 ht_216
theorem dX11_die_0 : decode cX11_die 0 = .ok (.aload_n 0, 1) := by decide +kernel
theorem dX11_die_1 : decode cX11_die 1 = .ok (.invokevirtual 78, 3) := by decide +kernel
theorem dX11_die_4 : decode cX11_die 4 = .ok (.aload_n 0, 1) := by decide +kernel
theorem dX11_die_5 : decode cX11_die 5 = .ok (.aload_n 0, 1) := by decide +kernel
theorem dX11_die_6 : decode cX11_die 6 = .ok (.iload_n 1, 1) := by decide +kernel
theorem dX11_die_7 : decode cX11_die 7 = .ok (.iload_n 2, 1) := by decide +kernel
theorem dX11_die_8 : decode cX11_die 8 = .ok (.invokevirtual 108, 3) := by decide +kernel
theorem dX11_die_11 : decode cX11_die 11 = .ok (.invokevirtual 85, 3) := by decide +kernel
theorem dX11_die_14 : decode cX11_die 14 = .ok (.ireturn, 1) := by decide +kernel
theorem e_217 (r : Nat) (a0 : Int32) (a1 : Int32) (ws : ai_W) : ai_Call 217 [.ref r, .int a0, .int a1] ws = if ai_isob ws r 11 = true then ai_Run 217 0 [.ref r, .int a0, .int a1] [] ws else none := R_entV hk_217 ⟨⟨rfl, rfl⟩, Nat.le_of_ble_eq_true rfl⟩ rfl
theorem r_217_0 (l1 l2 : Value) (a : Nat) (st : List Value) (ws : ai_W) : ai_Run 217 0 [.ref a, l1, l2] st ws = ai_Run 217 1 [.ref a, l1, l2] (.ref a :: st) ws := R_aload_n hc_217 dX11_die_0 rfl rfl
theorem r_217_1 (ls : List Value) (r : Nat) (ws : ai_W) : ai_Run 217 1 ls [.ref r] ws = (ai_Call 182 [.ref r] ws).bind fun q => ai_Run 217 4 ls (q.1.toList ++ []) q.2 := R_callV hc_217 dX11_die_1 hv_217 (w := 1077) rfl (Nat.le_of_ble_eq_true rfl) hk_182 (by rw [hn_182]; rfl) rfl (Nat.le_of_ble_eq_true rfl) rfl
theorem r_217_4 (l1 l2 : Value) (a : Nat) (st : List Value) (ws : ai_W) : ai_Run 217 4 [.ref a, l1, l2] st ws = ai_Run 217 5 [.ref a, l1, l2] (.ref a :: st) ws := R_aload_n hc_217 dX11_die_4 rfl rfl
theorem r_217_5 (l1 l2 : Value) (a : Nat) (st : List Value) (ws : ai_W) : ai_Run 217 5 [.ref a, l1, l2] st ws = ai_Run 217 6 [.ref a, l1, l2] (.ref a :: st) ws := R_aload_n hc_217 dX11_die_5 rfl rfl
theorem r_217_6 (l0 l2 : Value) (a : Int32) (st : List Value) (ws : ai_W) : ai_Run 217 6 [l0, .int a, l2] st ws = ai_Run 217 7 [l0, .int a, l2] (.int a :: st) ws := R_iload_n hc_217 dX11_die_6 rfl rfl
theorem r_217_7 (l0 l1 : Value) (a : Int32) (st : List Value) (ws : ai_W) : ai_Run 217 7 [l0, l1, .int a] st ws = ai_Run 217 8 [l0, l1, .int a] (.int a :: st) ws := R_iload_n hc_217 dX11_die_7 rfl rfl
theorem r_217_8 (ls : List Value) (r : Nat) (b0 : Int32) (b1 : Int32) (s0 : Value) (ws : ai_W) : ai_Run 217 8 ls [.int b1, .int b0, .ref r, s0] ws = (ai_Call 216 [.ref r, .int b0, .int b1] ws).bind fun q => ai_Run 217 11 ls (q.1.toList ++ [s0]) q.2 := R_callV hc_217 dX11_die_8 hv_217 (w := 1119) rfl (Nat.le_of_ble_eq_true rfl) hk_216 (by rw [hn_216]; rfl) rfl (Nat.le_of_ble_eq_true rfl) rfl
theorem r_217_11 (ls : List Value) (r : Nat) (b0 : Int32) (ws : ai_W) : ai_Run 217 11 ls [.int b0, .ref r] ws = (ai_Call 187 [.ref r, .int b0] ws).bind fun q => ai_Run 217 14 ls (q.1.toList ++ []) q.2 := R_callV hc_217 dX11_die_11 hv_217 (w := 1096) rfl (Nat.le_of_ble_eq_true rfl) hk_187 (by rw [hn_187]; rfl) rfl (Nat.le_of_ble_eq_true rfl) rfl
theorem r_217_14 (ls : List Value) (x : Int32) (ws : ai_W) : ai_Run 217 14 ls [.int x] ws = some (some (.int x), ws) := R_iret hc_217 dX11_die_14 ht_217
theorem dX11_rises_0 : decode cX11_rises 0 = .ok (.aload_n 0, 1) := by decide +kernel
theorem dX11_rises_1 : decode cX11_rises 1 = .ok (.iload_n 1, 1) := by decide +kernel
theorem dX11_rises_2 : decode cX11_rises 2 = .ok (.invokevirtual 63, 3) := by decide +kernel
theorem dX11_rises_5 : decode cX11_rises 5 = .ok (.ifCond .ne 5, 3) := by decide +kernel
theorem dX11_rises_8 : decode cX11_rises 8 = .ok (.iconst (-1), 1) := by decide +kernel
theorem dX11_rises_9 : decode cX11_rises 9 = .ok (.ireturn, 1) := by decide +kernel
theorem dX11_rises_10 : decode cX11_rises 10 = .ok (.iload_n 2, 1) := by decide +kernel
theorem dX11_rises_11 : decode cX11_rises 11 = .ok (.invokestatic 94, 3) := by decide +kernel
theorem dX11_rises_14 : decode cX11_rises 14 = .ok (.ifCond .ne 6, 3) := by decide +kernel
theorem dX11_rises_17 : decode cX11_rises 17 = .ok (.bipush (-2), 2) := by decide +kernel
theorem dX11_rises_19 : decode cX11_rises 19 = .ok (.ireturn, 1) := by decide +kernel
theorem dX11_rises_20 : decode cX11_rises 20 = .ok (.aload_n 0, 1) := by decide +kernel
theorem dX11_rises_21 : decode cX11_rises 21 = .ok (.aload_n 0, 1) := by decide +kernel
theorem dX11_rises_22 : decode cX11_rises 22 = .ok (.iload_n 1, 1) := by decide +kernel
theorem dX11_rises_23 : decode cX11_rises 23 = .ok (.invokevirtual 97, 3) := by decide +kernel
theorem dX11_rises_26 : decode cX11_rises 26 = .ok (.ifCond .ne 7, 3) := by decide +kernel
theorem dX11_rises_29 : decode cX11_rises 29 = .ok (.iconst 1, 1) := by decide +kernel
theorem dX11_rises_30 : decode cX11_rises 30 = .ok (.goto 4, 3) := by decide +kernel
theorem dX11_rises_33 : decode cX11_rises 33 = .ok (.iconst 0, 1) := by decide +kernel
theorem dX11_rises_34 : decode cX11_rises 34 = .ok (.iconst 4, 1) := by decide +kernel
theorem dX11_rises_35 : decode cX11_rises 35 = .ok (.aload_n 0, 1) := by decide +kernel
theorem dX11_rises_36 : decode cX11_rises 36 = .ok (.iload_n 1, 1) := by decide +kernel
theorem dX11_rises_37 : decode cX11_rises 37 = .ok (.invokevirtual 66, 3) := by decide +kernel
theorem dX11_rises_40 : decode cX11_rises 40 = .ok (.invokevirtual 70, 3) := by decide +kernel
theorem dX11_rises_43 : decode cX11_rises 43 = .ok (.ifCond .ne 12, 3) := by decide +kernel
theorem dX11_rises_46 : decode cX11_rises 46 = .ok (.aload_n 0, 1) := by decide +kernel
theorem dX11_rises_47 : decode cX11_rises 47 = .ok (.iload_n 1, 1) := by decide +kernel
theorem dX11_rises_48 : decode cX11_rises 48 = .ok (.iload_n 2, 1) := by decide +kernel
theorem dX11_rises_49 : decode cX11_rises 49 = .ok (.invokevirtual 100, 3) := by decide +kernel
theorem dX11_rises_52 : decode cX11_rises 52 = .ok (.ifCond .eq 6, 3) := by decide +kernel
theorem dX11_rises_55 : decode cX11_rises 55 = .ok (.bipush (-3), 2) := by decide +kernel
theorem dX11_rises_57 : decode cX11_rises 57 = .ok (.ireturn, 1) := by decide +kernel
theorem dX11_rises_58 : decode cX11_rises 58 = .ok (.aload_n 0, 1) := by decide +kernel
theorem dX11_rises_59 : decode cX11_rises 59 = .ok (.iload_n 1, 1) := by decide +kernel
theorem dX11_rises_60 : decode cX11_rises 60 = .ok (.invokevirtual 91, 3) := by decide +kernel
theorem dX11_rises_63 : decode cX11_rises 63 = .ok (.istore_n 3, 1) := by decide +kernel
theorem dX11_rises_64 : decode cX11_rises 64 = .ok (.aload_n 0, 1) := by decide +kernel
theorem dX11_rises_65 : decode cX11_rises 65 = .ok (.iload_n 1, 1) := by decide +kernel
theorem dX11_rises_66 : decode cX11_rises 66 = .ok (.iload_n 2, 1) := by decide +kernel
theorem dX11_rises_67 : decode cX11_rises 67 = .ok (.invokevirtual 104, 3) := by decide +kernel
theorem dX11_rises_70 : decode cX11_rises 70 = .ok (.iload_n 2, 1) := by decide +kernel
theorem dX11_rises_71 : decode cX11_rises 71 = .ok (.iload_n 3, 1) := by decide +kernel
theorem dX11_rises_72 : decode cX11_rises 72 = .ok (.isub, 1) := by decide +kernel
theorem dX11_rises_73 : decode cX11_rises 73 = .ok (.ireturn, 1) := by decide +kernel
theorem e_218 (r : Nat) (a0 : Int32) (a1 : Int32) (ws : ai_W) : ai_Call 218 [.ref r, .int a0, .int a1] ws = if ai_isob ws r 11 = true then ai_Run 218 0 [.ref r, .int a0, .int a1, .null] [] ws else none := R_entV hk_218 ⟨⟨rfl, rfl⟩, Nat.le_of_ble_eq_true rfl⟩ rfl
theorem r_218_0 (l1 l2 l3 : Value) (a : Nat) (st : List Value) (ws : ai_W) : ai_Run 218 0 [.ref a, l1, l2, l3] st ws = ai_Run 218 1 [.ref a, l1, l2, l3] (.ref a :: st) ws := R_aload_n hc_218 dX11_rises_0 rfl rfl
theorem r_218_1 (l0 l2 l3 : Value) (a : Int32) (st : List Value) (ws : ai_W) : ai_Run 218 1 [l0, .int a, l2, l3] st ws = ai_Run 218 2 [l0, .int a, l2, l3] (.int a :: st) ws := R_iload_n hc_218 dX11_rises_1 rfl rfl
theorem r_218_2 (ls : List Value) (r : Nat) (b0 : Int32) (ws : ai_W) : ai_Run 218 2 ls [.int b0, .ref r] ws = (ai_Call 200 [.ref r, .int b0] ws).bind fun q => ai_Run 218 5 ls (q.1.toList ++ []) q.2 := R_callV hc_218 dX11_rises_2 hv_218 (w := 1123) rfl (Nat.le_of_ble_eq_true rfl) hk_200 (by rw [hn_200]; rfl) rfl (Nat.le_of_ble_eq_true rfl) rfl
theorem r_218_5 (ls st : List Value) (a : Int32) (ws : ai_W) : ai_Run 218 5 ls (.int a :: st) ws = if a = 0 then ai_Run 218 8 ls st ws else ai_Run 218 10 ls st ws := R_if_ne hc_218 dX11_rises_5 rfl rfl
theorem r_218_8 (ls st : List Value) (ws : ai_W) : ai_Run 218 8 ls st ws = ai_Run 218 9 ls (.int (-1) :: st) ws := R_iconst hc_218 dX11_rises_8 (by decide) rfl
theorem r_218_9 (ls : List Value) (x : Int32) (ws : ai_W) : ai_Run 218 9 ls [.int x] ws = some (some (.int x), ws) := R_iret hc_218 dX11_rises_9 ht_218
theorem r_218_10 (l0 l1 l3 : Value) (a : Int32) (st : List Value) (ws : ai_W) : ai_Run 218 10 [l0, l1, .int a, l3] st ws = ai_Run 218 11 [l0, l1, .int a, l3] (.int a :: st) ws := R_iload_n hc_218 dX11_rises_10 rfl rfl
theorem r_218_11 (ls : List Value) (b0 : Int32) (ws : ai_W) : ai_Run 218 11 ls [.int b0] ws = (ai_Call 207 [.int b0] ws).bind fun q => ai_Run 218 14 ls (q.1.toList ++ []) q.2 := R_callS hc_218 dX11_rises_11 hv_218 (w := 1130) rfl (Nat.le_of_ble_eq_true rfl) hk_207 (by rw [hn_207]; rfl) rfl (Nat.le_of_ble_eq_true rfl) rfl
theorem r_218_14 (ls st : List Value) (a : Int32) (ws : ai_W) : ai_Run 218 14 ls (.int a :: st) ws = if a = 0 then ai_Run 218 17 ls st ws else ai_Run 218 20 ls st ws := R_if_ne hc_218 dX11_rises_14 rfl rfl
theorem r_218_17 (ls st : List Value) (ws : ai_W) : ai_Run 218 17 ls st ws = ai_Run 218 19 ls (.int (-2) :: st) ws := R_bipush hc_218 dX11_rises_17 (by decide) rfl
theorem r_218_19 (ls : List Value) (x : Int32) (ws : ai_W) : ai_Run 218 19 ls [.int x] ws = some (some (.int x), ws) := R_iret hc_218 dX11_rises_19 ht_218
theorem r_218_20 (l1 l2 l3 : Value) (a : Nat) (st : List Value) (ws : ai_W) : ai_Run 218 20 [.ref a, l1, l2, l3] st ws = ai_Run 218 21 [.ref a, l1, l2, l3] (.ref a :: st) ws := R_aload_n hc_218 dX11_rises_20 rfl rfl
theorem r_218_21 (l1 l2 l3 : Value) (a : Nat) (st : List Value) (ws : ai_W) : ai_Run 218 21 [.ref a, l1, l2, l3] st ws = ai_Run 218 22 [.ref a, l1, l2, l3] (.ref a :: st) ws := R_aload_n hc_218 dX11_rises_21 rfl rfl
theorem r_218_22 (l0 l2 l3 : Value) (a : Int32) (st : List Value) (ws : ai_W) : ai_Run 218 22 [l0, .int a, l2, l3] st ws = ai_Run 218 23 [l0, .int a, l2, l3] (.int a :: st) ws := R_iload_n hc_218 dX11_rises_22 rfl rfl
theorem r_218_23 (ls : List Value) (r : Nat) (b0 : Int32) (s0 : Value) (ws : ai_W) : ai_Run 218 23 ls [.int b0, .ref r, s0] ws = (ai_Call 213 [.ref r, .int b0] ws).bind fun q => ai_Run 218 26 ls (q.1.toList ++ [s0]) q.2 := R_callV hc_218 dX11_rises_23 hv_218 (w := 1133) rfl (Nat.le_of_ble_eq_true rfl) hk_213 (by rw [hn_213]; rfl) rfl (Nat.le_of_ble_eq_true rfl) rfl
theorem r_218_26 (ls st : List Value) (a : Int32) (ws : ai_W) : ai_Run 218 26 ls (.int a :: st) ws = if a = 0 then ai_Run 218 29 ls st ws else ai_Run 218 33 ls st ws := R_if_ne hc_218 dX11_rises_26 rfl rfl
theorem r_218_29 (ls st : List Value) (ws : ai_W) : ai_Run 218 29 ls st ws = ai_Run 218 30 ls (.int 1 :: st) ws := R_iconst hc_218 dX11_rises_29 (by decide) rfl
theorem r_218_30 (ls st : List Value) (ws : ai_W) : ai_Run 218 30 ls st ws = ai_Run 218 34 ls st ws := R_goto hc_218 dX11_rises_30 rfl
theorem r_218_33 (ls st : List Value) (ws : ai_W) : ai_Run 218 33 ls st ws = ai_Run 218 34 ls (.int 0 :: st) ws := R_iconst hc_218 dX11_rises_33 (by decide) rfl
theorem r_218_34 (ls st : List Value) (ws : ai_W) : ai_Run 218 34 ls st ws = ai_Run 218 35 ls (.int 4 :: st) ws := R_iconst hc_218 dX11_rises_34 (by decide) rfl
theorem r_218_35 (l1 l2 l3 : Value) (a : Nat) (st : List Value) (ws : ai_W) : ai_Run 218 35 [.ref a, l1, l2, l3] st ws = ai_Run 218 36 [.ref a, l1, l2, l3] (.ref a :: st) ws := R_aload_n hc_218 dX11_rises_35 rfl rfl
theorem r_218_36 (l0 l2 l3 : Value) (a : Int32) (st : List Value) (ws : ai_W) : ai_Run 218 36 [l0, .int a, l2, l3] st ws = ai_Run 218 37 [l0, .int a, l2, l3] (.int a :: st) ws := R_iload_n hc_218 dX11_rises_36 rfl rfl
theorem r_218_37 (ls : List Value) (r : Nat) (b0 : Int32) (s0 s1 s2 : Value) (ws : ai_W) : ai_Run 218 37 ls [.int b0, .ref r, s0, s1, s2] ws = (ai_Call 166 [.ref r, .int b0] ws).bind fun q => ai_Run 218 40 ls (q.1.toList ++ [s0, s1, s2]) q.2 := R_callV hc_218 dX11_rises_37 hv_218 (w := 1141) rfl (Nat.le_of_ble_eq_true rfl) hk_166 (by rw [hn_166]; rfl) rfl (Nat.le_of_ble_eq_true rfl) rfl
theorem r_218_40 (ls : List Value) (r : Nat) (b0 : Int32) (b1 : Int32) (b2 : Int32) (ws : ai_W) : ai_Run 218 40 ls [.int b2, .int b1, .int b0, .ref r] ws = (ai_Call 183 [.ref r, .int b0, .int b1, .int b2] ws).bind fun q => ai_Run 218 43 ls (q.1.toList ++ []) q.2 := R_callV hc_218 dX11_rises_40 hv_218 (w := 1088) rfl (Nat.le_of_ble_eq_true rfl) hk_183 (by rw [hn_183]; rfl) rfl (Nat.le_of_ble_eq_true rfl) rfl
theorem r_218_43 (ls st : List Value) (a : Int32) (ws : ai_W) : ai_Run 218 43 ls (.int a :: st) ws = if a = 0 then ai_Run 218 46 ls st ws else ai_Run 218 55 ls st ws := R_if_ne hc_218 dX11_rises_43 rfl rfl
theorem r_218_46 (l1 l2 l3 : Value) (a : Nat) (st : List Value) (ws : ai_W) : ai_Run 218 46 [.ref a, l1, l2, l3] st ws = ai_Run 218 47 [.ref a, l1, l2, l3] (.ref a :: st) ws := R_aload_n hc_218 dX11_rises_46 rfl rfl
theorem r_218_47 (l0 l2 l3 : Value) (a : Int32) (st : List Value) (ws : ai_W) : ai_Run 218 47 [l0, .int a, l2, l3] st ws = ai_Run 218 48 [l0, .int a, l2, l3] (.int a :: st) ws := R_iload_n hc_218 dX11_rises_47 rfl rfl
theorem r_218_48 (l0 l1 l3 : Value) (a : Int32) (st : List Value) (ws : ai_W) : ai_Run 218 48 [l0, l1, .int a, l3] st ws = ai_Run 218 49 [l0, l1, .int a, l3] (.int a :: st) ws := R_iload_n hc_218 dX11_rises_48 rfl rfl
theorem r_218_49 (ls : List Value) (r : Nat) (b0 : Int32) (b1 : Int32) (ws : ai_W) : ai_Run 218 49 ls [.int b1, .int b0, .ref r] ws = (ai_Call 215 [.ref r, .int b0, .int b1] ws).bind fun q => ai_Run 218 52 ls (q.1.toList ++ []) q.2 := R_callV hc_218 dX11_rises_49 hv_218 (w := 1145) rfl (Nat.le_of_ble_eq_true rfl) hk_215 (by rw [hn_215]; rfl) rfl (Nat.le_of_ble_eq_true rfl) rfl
theorem r_218_52 (ls st : List Value) (a : Int32) (ws : ai_W) : ai_Run 218 52 ls (.int a :: st) ws = if a = 0 then ai_Run 218 58 ls st ws else ai_Run 218 55 ls st ws := R_if_eq hc_218 dX11_rises_52 rfl rfl
theorem r_218_55 (ls st : List Value) (ws : ai_W) : ai_Run 218 55 ls st ws = ai_Run 218 57 ls (.int (-3) :: st) ws := R_bipush hc_218 dX11_rises_55 (by decide) rfl
theorem r_218_57 (ls : List Value) (x : Int32) (ws : ai_W) : ai_Run 218 57 ls [.int x] ws = some (some (.int x), ws) := R_iret hc_218 dX11_rises_57 ht_218
theorem r_218_58 (l1 l2 l3 : Value) (a : Nat) (st : List Value) (ws : ai_W) : ai_Run 218 58 [.ref a, l1, l2, l3] st ws = ai_Run 218 59 [.ref a, l1, l2, l3] (.ref a :: st) ws := R_aload_n hc_218 dX11_rises_58 rfl rfl
theorem r_218_59 (l0 l2 l3 : Value) (a : Int32) (st : List Value) (ws : ai_W) : ai_Run 218 59 [l0, .int a, l2, l3] st ws = ai_Run 218 60 [l0, .int a, l2, l3] (.int a :: st) ws := R_iload_n hc_218 dX11_rises_59 rfl rfl
theorem r_218_60 (ls : List Value) (r : Nat) (b0 : Int32) (ws : ai_W) : ai_Run 218 60 ls [.int b0, .ref r] ws = (ai_Call 214 [.ref r, .int b0] ws).bind fun q => ai_Run 218 63 ls (q.1.toList ++ []) q.2 := R_callV hc_218 dX11_rises_60 hv_218 (w := 1149) rfl (Nat.le_of_ble_eq_true rfl) hk_214 (by rw [hn_214]; rfl) rfl (Nat.le_of_ble_eq_true rfl) rfl
theorem r_218_63 (l0 l1 l2 l3 : Value) (a : Int32) (st : List Value) (ws : ai_W) : ai_Run 218 63 [l0, l1, l2, l3] (.int a :: st) ws = ai_Run 218 64 [l0, l1, l2, .int a] st ws := R_istore_n hc_218 dX11_rises_63 (Nat.le_of_ble_eq_true rfl) rfl rfl
theorem r_218_64 (l1 l2 l3 : Value) (a : Nat) (st : List Value) (ws : ai_W) : ai_Run 218 64 [.ref a, l1, l2, l3] st ws = ai_Run 218 65 [.ref a, l1, l2, l3] (.ref a :: st) ws := R_aload_n hc_218 dX11_rises_64 rfl rfl
theorem r_218_65 (l0 l2 l3 : Value) (a : Int32) (st : List Value) (ws : ai_W) : ai_Run 218 65 [l0, .int a, l2, l3] st ws = ai_Run 218 66 [l0, .int a, l2, l3] (.int a :: st) ws := R_iload_n hc_218 dX11_rises_65 rfl rfl
theorem r_218_66 (l0 l1 l3 : Value) (a : Int32) (st : List Value) (ws : ai_W) : ai_Run 218 66 [l0, l1, .int a, l3] st ws = ai_Run 218 67 [l0, l1, .int a, l3] (.int a :: st) ws := R_iload_n hc_218 dX11_rises_66 rfl rfl
theorem r_218_67 (ls : List Value) (r : Nat) (b0 : Int32) (b1 : Int32) (ws : ai_W) : ai_Run 218 67 ls [.int b1, .int b0, .ref r] ws = (ai_Call 178 [.ref r, .int b0, .int b1] ws).bind fun q => ai_Run 218 70 ls (q.1.toList ++ []) q.2 := R_callV hc_218 dX11_rises_67 hv_218 (w := 1153) rfl (Nat.le_of_ble_eq_true rfl) hk_178 (by rw [hn_178]; rfl) rfl (Nat.le_of_ble_eq_true rfl) rfl
theorem r_218_70 (l0 l1 l3 : Value) (a : Int32) (st : List Value) (ws : ai_W) : ai_Run 218 70 [l0, l1, .int a, l3] st ws = ai_Run 218 71 [l0, l1, .int a, l3] (.int a :: st) ws := R_iload_n hc_218 dX11_rises_70 rfl rfl
theorem r_218_71 (l0 l1 l2 : Value) (a : Int32) (st : List Value) (ws : ai_W) : ai_Run 218 71 [l0, l1, l2, .int a] st ws = ai_Run 218 72 [l0, l1, l2, .int a] (.int a :: st) ws := R_iload_n hc_218 dX11_rises_71 rfl rfl
theorem r_218_72 (ls st : List Value) (a b : Int32) (ws : ai_W) : ai_Run 218 72 ls (.int b :: .int a :: st) ws = ai_Run 218 73 ls (.int (a - b) :: st) ws := R_isub hc_218 dX11_rises_72 rfl
theorem r_218_73 (ls : List Value) (x : Int32) (ws : ai_W) : ai_Run 218 73 ls [.int x] ws = some (some (.int x), ws) := R_iret hc_218 dX11_rises_73 ht_218
theorem dX11_strikes_0 : decode cX11_strikes 0 = .ok (.aload_n 0, 1) := by decide +kernel
theorem dX11_strikes_1 : decode cX11_strikes 1 = .ok (.iload_n 1, 1) := by decide +kernel
theorem dX11_strikes_2 : decode cX11_strikes 2 = .ok (.invokevirtual 63, 3) := by decide +kernel
theorem dX11_strikes_5 : decode cX11_strikes 5 = .ok (.ifCond .ne 5, 3) := by decide +kernel
theorem dX11_strikes_8 : decode cX11_strikes 8 = .ok (.iconst (-1), 1) := by decide +kernel
theorem dX11_strikes_9 : decode cX11_strikes 9 = .ok (.ireturn, 1) := by decide +kernel
theorem dX11_strikes_10 : decode cX11_strikes 10 = .ok (.aload_n 0, 1) := by decide +kernel
theorem dX11_strikes_11 : decode cX11_strikes 11 = .ok (.iload_n 1, 1) := by decide +kernel
theorem dX11_strikes_12 : decode cX11_strikes 12 = .ok (.iconst 0, 1) := by decide +kernel
theorem dX11_strikes_13 : decode cX11_strikes 13 = .ok (.invokevirtual 59, 3) := by decide +kernel
theorem dX11_strikes_16 : decode cX11_strikes 16 = .ok (.istore_n 2, 1) := by decide +kernel
theorem dX11_strikes_17 : decode cX11_strikes 17 = .ok (.aload_n 0, 1) := by decide +kernel
theorem dX11_strikes_18 : decode cX11_strikes 18 = .ok (.iload_n 2, 1) := by decide +kernel
theorem dX11_strikes_19 : decode cX11_strikes 19 = .ok (.ifCond .ne 7, 3) := by decide +kernel
theorem dX11_strikes_22 : decode cX11_strikes 22 = .ok (.iconst 1, 1) := by decide +kernel
theorem dX11_strikes_23 : decode cX11_strikes 23 = .ok (.goto 4, 3) := by decide +kernel
theorem dX11_strikes_26 : decode cX11_strikes 26 = .ok (.iconst 0, 1) := by decide +kernel
theorem dX11_strikes_27 : decode cX11_strikes 27 = .ok (.iconst 4, 1) := by decide +kernel
theorem dX11_strikes_28 : decode cX11_strikes 28 = .ok (.iconst 0, 1) := by decide +kernel
theorem dX11_strikes_29 : decode cX11_strikes 29 = .ok (.invokevirtual 70, 3) := by decide +kernel
theorem dX11_strikes_32 : decode cX11_strikes 32 = .ok (.ifCond .eq 6, 3) := by decide +kernel
theorem dX11_strikes_35 : decode cX11_strikes 35 = .ok (.bipush (-3), 2) := by decide +kernel
theorem dX11_strikes_37 : decode cX11_strikes 37 = .ok (.ireturn, 1) := by decide +kernel
theorem dX11_strikes_38 : decode cX11_strikes 38 = .ok (.aload_n 0, 1) := by decide +kernel
theorem dX11_strikes_39 : decode cX11_strikes 39 = .ok (.iload_n 1, 1) := by decide +kernel
theorem dX11_strikes_40 : decode cX11_strikes 40 = .ok (.invokevirtual 91, 3) := by decide +kernel
theorem dX11_strikes_43 : decode cX11_strikes 43 = .ok (.istore_n 3, 1) := by decide +kernel
theorem dX11_strikes_44 : decode cX11_strikes 44 = .ok (.aload_n 0, 1) := by decide +kernel
theorem dX11_strikes_45 : decode cX11_strikes 45 = .ok (.iload_n 1, 1) := by decide +kernel
theorem dX11_strikes_46 : decode cX11_strikes 46 = .ok (.invokevirtual 97, 3) := by decide +kernel
theorem dX11_strikes_49 : decode cX11_strikes 49 = .ok (.ifCond .eq 20, 3) := by decide +kernel
theorem dX11_strikes_52 : decode cX11_strikes 52 = .ok (.aload_n 0, 1) := by decide +kernel
theorem dX11_strikes_53 : decode cX11_strikes 53 = .ok (.iload_n 1, 1) := by decide +kernel
theorem dX11_strikes_54 : decode cX11_strikes 54 = .ok (.bipush 7, 2) := by decide +kernel
theorem dX11_strikes_56 : decode cX11_strikes 56 = .ok (.aload_n 0, 1) := by decide +kernel
theorem dX11_strikes_57 : decode cX11_strikes 57 = .ok (.iload_n 1, 1) := by decide +kernel
theorem dX11_strikes_58 : decode cX11_strikes 58 = .ok (.invokevirtual 66, 3) := by decide +kernel
theorem dX11_strikes_61 : decode cX11_strikes 61 = .ok (.iadd, 1) := by decide +kernel
theorem dX11_strikes_62 : decode cX11_strikes 62 = .ok (.iconst 1, 1) := by decide +kernel
theorem dX11_strikes_63 : decode cX11_strikes 63 = .ok (.isub, 1) := by decide +kernel
theorem dX11_strikes_64 : decode cX11_strikes 64 = .ok (.bipush (-4), 2) := by decide +kernel
theorem dX11_strikes_66 : decode cX11_strikes 66 = .ok (.invokevirtual 74, 3) := by decide +kernel
theorem dX11_strikes_69 : decode cX11_strikes 69 = .ok (.aload_n 0, 1) := by decide +kernel
theorem dX11_strikes_70 : decode cX11_strikes 70 = .ok (.iload_n 1, 1) := by decide +kernel
theorem dX11_strikes_71 : decode cX11_strikes 71 = .ok (.iconst 1, 1) := by decide +kernel
theorem dX11_strikes_72 : decode cX11_strikes 72 = .ok (.iload_n 2, 1) := by decide +kernel
theorem dX11_strikes_73 : decode cX11_strikes 73 = .ok (.iadd, 1) := by decide +kernel
theorem dX11_strikes_74 : decode cX11_strikes 74 = .ok (.iconst 1, 1) := by decide +kernel
theorem dX11_strikes_75 : decode cX11_strikes 75 = .ok (.isub, 1) := by decide +kernel
theorem dX11_strikes_76 : decode cX11_strikes 76 = .ok (.iconst 0, 1) := by decide +kernel
theorem dX11_strikes_77 : decode cX11_strikes 77 = .ok (.invokevirtual 74, 3) := by decide +kernel
theorem dX11_strikes_80 : decode cX11_strikes 80 = .ok (.aload_n 0, 1) := by decide +kernel
theorem dX11_strikes_81 : decode cX11_strikes 81 = .ok (.iload_n 1, 1) := by decide +kernel
theorem dX11_strikes_82 : decode cX11_strikes 82 = .ok (.iconst 0, 1) := by decide +kernel
theorem dX11_strikes_83 : decode cX11_strikes 83 = .ok (.iload_n 2, 1) := by decide +kernel
theorem dX11_strikes_84 : decode cX11_strikes 84 = .ok (.iconst 1, 1) := by decide +kernel
theorem dX11_strikes_85 : decode cX11_strikes 85 = .ok (.isub, 1) := by decide +kernel
theorem dX11_strikes_86 : decode cX11_strikes 86 = .ok (.invokevirtual 74, 3) := by decide +kernel
theorem dX11_strikes_89 : decode cX11_strikes 89 = .ok (.iload_n 3, 1) := by decide +kernel
theorem dX11_strikes_90 : decode cX11_strikes 90 = .ok (.ireturn, 1) := by decide +kernel
theorem e_219 (r : Nat) (a0 : Int32) (ws : ai_W) : ai_Call 219 [.ref r, .int a0] ws = if ai_isob ws r 11 = true then ai_Run 219 0 [.ref r, .int a0, .null, .null] [] ws else none := R_entV hk_219 ⟨⟨rfl, rfl⟩, Nat.le_of_ble_eq_true rfl⟩ rfl
theorem r_219_0 (l1 l2 l3 : Value) (a : Nat) (st : List Value) (ws : ai_W) : ai_Run 219 0 [.ref a, l1, l2, l3] st ws = ai_Run 219 1 [.ref a, l1, l2, l3] (.ref a :: st) ws := R_aload_n hc_219 dX11_strikes_0 rfl rfl
theorem r_219_1 (l0 l2 l3 : Value) (a : Int32) (st : List Value) (ws : ai_W) : ai_Run 219 1 [l0, .int a, l2, l3] st ws = ai_Run 219 2 [l0, .int a, l2, l3] (.int a :: st) ws := R_iload_n hc_219 dX11_strikes_1 rfl rfl
theorem r_219_2 (ls : List Value) (r : Nat) (b0 : Int32) (ws : ai_W) : ai_Run 219 2 ls [.int b0, .ref r] ws = (ai_Call 200 [.ref r, .int b0] ws).bind fun q => ai_Run 219 5 ls (q.1.toList ++ []) q.2 := R_callV hc_219 dX11_strikes_2 hv_219 (w := 1123) rfl (Nat.le_of_ble_eq_true rfl) hk_200 (by rw [hn_200]; rfl) rfl (Nat.le_of_ble_eq_true rfl) rfl
theorem r_219_5 (ls st : List Value) (a : Int32) (ws : ai_W) : ai_Run 219 5 ls (.int a :: st) ws = if a = 0 then ai_Run 219 8 ls st ws else ai_Run 219 10 ls st ws := R_if_ne hc_219 dX11_strikes_5 rfl rfl
theorem r_219_8 (ls st : List Value) (ws : ai_W) : ai_Run 219 8 ls st ws = ai_Run 219 9 ls (.int (-1) :: st) ws := R_iconst hc_219 dX11_strikes_8 (by decide) rfl
theorem r_219_9 (ls : List Value) (x : Int32) (ws : ai_W) : ai_Run 219 9 ls [.int x] ws = some (some (.int x), ws) := R_iret hc_219 dX11_strikes_9 ht_219
theorem r_219_10 (l1 l2 l3 : Value) (a : Nat) (st : List Value) (ws : ai_W) : ai_Run 219 10 [.ref a, l1, l2, l3] st ws = ai_Run 219 11 [.ref a, l1, l2, l3] (.ref a :: st) ws := R_aload_n hc_219 dX11_strikes_10 rfl rfl
theorem r_219_11 (l0 l2 l3 : Value) (a : Int32) (st : List Value) (ws : ai_W) : ai_Run 219 11 [l0, .int a, l2, l3] st ws = ai_Run 219 12 [l0, .int a, l2, l3] (.int a :: st) ws := R_iload_n hc_219 dX11_strikes_11 rfl rfl
theorem r_219_12 (ls st : List Value) (ws : ai_W) : ai_Run 219 12 ls st ws = ai_Run 219 13 ls (.int 0 :: st) ws := R_iconst hc_219 dX11_strikes_12 (by decide) rfl
theorem r_219_13 (ls : List Value) (r : Nat) (b0 : Int32) (b1 : Int32) (ws : ai_W) : ai_Run 219 13 ls [.int b1, .int b0, .ref r] ws = (ai_Call 165 [.ref r, .int b0, .int b1] ws).bind fun q => ai_Run 219 16 ls (q.1.toList ++ []) q.2 := R_callV hc_219 dX11_strikes_13 hv_219 (w := 1137) rfl (Nat.le_of_ble_eq_true rfl) hk_165 (by rw [hn_165]; rfl) rfl (Nat.le_of_ble_eq_true rfl) rfl
theorem r_219_16 (l0 l1 l2 l3 : Value) (a : Int32) (st : List Value) (ws : ai_W) : ai_Run 219 16 [l0, l1, l2, l3] (.int a :: st) ws = ai_Run 219 17 [l0, l1, .int a, l3] st ws := R_istore_n hc_219 dX11_strikes_16 (Nat.le_of_ble_eq_true rfl) rfl rfl
theorem r_219_17 (l1 l2 l3 : Value) (a : Nat) (st : List Value) (ws : ai_W) : ai_Run 219 17 [.ref a, l1, l2, l3] st ws = ai_Run 219 18 [.ref a, l1, l2, l3] (.ref a :: st) ws := R_aload_n hc_219 dX11_strikes_17 rfl rfl
theorem r_219_18 (l0 l1 l3 : Value) (a : Int32) (st : List Value) (ws : ai_W) : ai_Run 219 18 [l0, l1, .int a, l3] st ws = ai_Run 219 19 [l0, l1, .int a, l3] (.int a :: st) ws := R_iload_n hc_219 dX11_strikes_18 rfl rfl
theorem r_219_19 (ls st : List Value) (a : Int32) (ws : ai_W) : ai_Run 219 19 ls (.int a :: st) ws = if a = 0 then ai_Run 219 22 ls st ws else ai_Run 219 26 ls st ws := R_if_ne hc_219 dX11_strikes_19 rfl rfl
theorem r_219_22 (ls st : List Value) (ws : ai_W) : ai_Run 219 22 ls st ws = ai_Run 219 23 ls (.int 1 :: st) ws := R_iconst hc_219 dX11_strikes_22 (by decide) rfl
theorem r_219_23 (ls st : List Value) (ws : ai_W) : ai_Run 219 23 ls st ws = ai_Run 219 27 ls st ws := R_goto hc_219 dX11_strikes_23 rfl
theorem r_219_26 (ls st : List Value) (ws : ai_W) : ai_Run 219 26 ls st ws = ai_Run 219 27 ls (.int 0 :: st) ws := R_iconst hc_219 dX11_strikes_26 (by decide) rfl
theorem r_219_27 (ls st : List Value) (ws : ai_W) : ai_Run 219 27 ls st ws = ai_Run 219 28 ls (.int 4 :: st) ws := R_iconst hc_219 dX11_strikes_27 (by decide) rfl
theorem r_219_28 (ls st : List Value) (ws : ai_W) : ai_Run 219 28 ls st ws = ai_Run 219 29 ls (.int 0 :: st) ws := R_iconst hc_219 dX11_strikes_28 (by decide) rfl
theorem r_219_29 (ls : List Value) (r : Nat) (b0 : Int32) (b1 : Int32) (b2 : Int32) (ws : ai_W) : ai_Run 219 29 ls [.int b2, .int b1, .int b0, .ref r] ws = (ai_Call 183 [.ref r, .int b0, .int b1, .int b2] ws).bind fun q => ai_Run 219 32 ls (q.1.toList ++ []) q.2 := R_callV hc_219 dX11_strikes_29 hv_219 (w := 1088) rfl (Nat.le_of_ble_eq_true rfl) hk_183 (by rw [hn_183]; rfl) rfl (Nat.le_of_ble_eq_true rfl) rfl
theorem r_219_32 (ls st : List Value) (a : Int32) (ws : ai_W) : ai_Run 219 32 ls (.int a :: st) ws = if a = 0 then ai_Run 219 38 ls st ws else ai_Run 219 35 ls st ws := R_if_eq hc_219 dX11_strikes_32 rfl rfl
theorem r_219_35 (ls st : List Value) (ws : ai_W) : ai_Run 219 35 ls st ws = ai_Run 219 37 ls (.int (-3) :: st) ws := R_bipush hc_219 dX11_strikes_35 (by decide) rfl
theorem r_219_37 (ls : List Value) (x : Int32) (ws : ai_W) : ai_Run 219 37 ls [.int x] ws = some (some (.int x), ws) := R_iret hc_219 dX11_strikes_37 ht_219
theorem r_219_38 (l1 l2 l3 : Value) (a : Nat) (st : List Value) (ws : ai_W) : ai_Run 219 38 [.ref a, l1, l2, l3] st ws = ai_Run 219 39 [.ref a, l1, l2, l3] (.ref a :: st) ws := R_aload_n hc_219 dX11_strikes_38 rfl rfl
theorem r_219_39 (l0 l2 l3 : Value) (a : Int32) (st : List Value) (ws : ai_W) : ai_Run 219 39 [l0, .int a, l2, l3] st ws = ai_Run 219 40 [l0, .int a, l2, l3] (.int a :: st) ws := R_iload_n hc_219 dX11_strikes_39 rfl rfl
theorem r_219_40 (ls : List Value) (r : Nat) (b0 : Int32) (ws : ai_W) : ai_Run 219 40 ls [.int b0, .ref r] ws = (ai_Call 214 [.ref r, .int b0] ws).bind fun q => ai_Run 219 43 ls (q.1.toList ++ []) q.2 := R_callV hc_219 dX11_strikes_40 hv_219 (w := 1149) rfl (Nat.le_of_ble_eq_true rfl) hk_214 (by rw [hn_214]; rfl) rfl (Nat.le_of_ble_eq_true rfl) rfl
theorem r_219_43 (l0 l1 l2 l3 : Value) (a : Int32) (st : List Value) (ws : ai_W) : ai_Run 219 43 [l0, l1, l2, l3] (.int a :: st) ws = ai_Run 219 44 [l0, l1, l2, .int a] st ws := R_istore_n hc_219 dX11_strikes_43 (Nat.le_of_ble_eq_true rfl) rfl rfl
theorem r_219_44 (l1 l2 l3 : Value) (a : Nat) (st : List Value) (ws : ai_W) : ai_Run 219 44 [.ref a, l1, l2, l3] st ws = ai_Run 219 45 [.ref a, l1, l2, l3] (.ref a :: st) ws := R_aload_n hc_219 dX11_strikes_44 rfl rfl
theorem r_219_45 (l0 l2 l3 : Value) (a : Int32) (st : List Value) (ws : ai_W) : ai_Run 219 45 [l0, .int a, l2, l3] st ws = ai_Run 219 46 [l0, .int a, l2, l3] (.int a :: st) ws := R_iload_n hc_219 dX11_strikes_45 rfl rfl
theorem r_219_46 (ls : List Value) (r : Nat) (b0 : Int32) (ws : ai_W) : ai_Run 219 46 ls [.int b0, .ref r] ws = (ai_Call 213 [.ref r, .int b0] ws).bind fun q => ai_Run 219 49 ls (q.1.toList ++ []) q.2 := R_callV hc_219 dX11_strikes_46 hv_219 (w := 1133) rfl (Nat.le_of_ble_eq_true rfl) hk_213 (by rw [hn_213]; rfl) rfl (Nat.le_of_ble_eq_true rfl) rfl
theorem r_219_49 (ls st : List Value) (a : Int32) (ws : ai_W) : ai_Run 219 49 ls (.int a :: st) ws = if a = 0 then ai_Run 219 69 ls st ws else ai_Run 219 52 ls st ws := R_if_eq hc_219 dX11_strikes_49 rfl rfl
theorem r_219_52 (l1 l2 l3 : Value) (a : Nat) (st : List Value) (ws : ai_W) : ai_Run 219 52 [.ref a, l1, l2, l3] st ws = ai_Run 219 53 [.ref a, l1, l2, l3] (.ref a :: st) ws := R_aload_n hc_219 dX11_strikes_52 rfl rfl
theorem r_219_53 (l0 l2 l3 : Value) (a : Int32) (st : List Value) (ws : ai_W) : ai_Run 219 53 [l0, .int a, l2, l3] st ws = ai_Run 219 54 [l0, .int a, l2, l3] (.int a :: st) ws := R_iload_n hc_219 dX11_strikes_53 rfl rfl
theorem r_219_54 (ls st : List Value) (ws : ai_W) : ai_Run 219 54 ls st ws = ai_Run 219 56 ls (.int 7 :: st) ws := R_bipush hc_219 dX11_strikes_54 (by decide) rfl
theorem r_219_56 (l1 l2 l3 : Value) (a : Nat) (st : List Value) (ws : ai_W) : ai_Run 219 56 [.ref a, l1, l2, l3] st ws = ai_Run 219 57 [.ref a, l1, l2, l3] (.ref a :: st) ws := R_aload_n hc_219 dX11_strikes_56 rfl rfl
theorem r_219_57 (l0 l2 l3 : Value) (a : Int32) (st : List Value) (ws : ai_W) : ai_Run 219 57 [l0, .int a, l2, l3] st ws = ai_Run 219 58 [l0, .int a, l2, l3] (.int a :: st) ws := R_iload_n hc_219 dX11_strikes_57 rfl rfl
theorem r_219_58 (ls : List Value) (r : Nat) (b0 : Int32) (s0 s1 s2 : Value) (ws : ai_W) : ai_Run 219 58 ls [.int b0, .ref r, s0, s1, s2] ws = (ai_Call 166 [.ref r, .int b0] ws).bind fun q => ai_Run 219 61 ls (q.1.toList ++ [s0, s1, s2]) q.2 := R_callV hc_219 dX11_strikes_58 hv_219 (w := 1141) rfl (Nat.le_of_ble_eq_true rfl) hk_166 (by rw [hn_166]; rfl) rfl (Nat.le_of_ble_eq_true rfl) rfl
theorem r_219_61 (ls st : List Value) (a b : Int32) (ws : ai_W) : ai_Run 219 61 ls (.int b :: .int a :: st) ws = ai_Run 219 62 ls (.int (a + b) :: st) ws := R_iadd hc_219 dX11_strikes_61 rfl
theorem r_219_62 (ls st : List Value) (ws : ai_W) : ai_Run 219 62 ls st ws = ai_Run 219 63 ls (.int 1 :: st) ws := R_iconst hc_219 dX11_strikes_62 (by decide) rfl
theorem r_219_63 (ls st : List Value) (a b : Int32) (ws : ai_W) : ai_Run 219 63 ls (.int b :: .int a :: st) ws = ai_Run 219 64 ls (.int (a - b) :: st) ws := R_isub hc_219 dX11_strikes_63 rfl
theorem r_219_64 (ls st : List Value) (ws : ai_W) : ai_Run 219 64 ls st ws = ai_Run 219 66 ls (.int (-4) :: st) ws := R_bipush hc_219 dX11_strikes_64 (by decide) rfl
theorem r_219_66 (ls : List Value) (r : Nat) (b0 : Int32) (b1 : Int32) (b2 : Int32) (ws : ai_W) : ai_Run 219 66 ls [.int b2, .int b1, .int b0, .ref r] ws = (ai_Call 177 [.ref r, .int b0, .int b1, .int b2] ws).bind fun q => ai_Run 219 69 ls (q.1.toList ++ []) q.2 := R_callV hc_219 dX11_strikes_66 hv_219 (w := 1092) rfl (Nat.le_of_ble_eq_true rfl) hk_177 (by rw [hn_177]; rfl) rfl (Nat.le_of_ble_eq_true rfl) rfl
theorem r_219_69 (l1 l2 l3 : Value) (a : Nat) (st : List Value) (ws : ai_W) : ai_Run 219 69 [.ref a, l1, l2, l3] st ws = ai_Run 219 70 [.ref a, l1, l2, l3] (.ref a :: st) ws := R_aload_n hc_219 dX11_strikes_69 rfl rfl
theorem r_219_70 (l0 l2 l3 : Value) (a : Int32) (st : List Value) (ws : ai_W) : ai_Run 219 70 [l0, .int a, l2, l3] st ws = ai_Run 219 71 [l0, .int a, l2, l3] (.int a :: st) ws := R_iload_n hc_219 dX11_strikes_70 rfl rfl
theorem r_219_71 (ls st : List Value) (ws : ai_W) : ai_Run 219 71 ls st ws = ai_Run 219 72 ls (.int 1 :: st) ws := R_iconst hc_219 dX11_strikes_71 (by decide) rfl
theorem r_219_72 (l0 l1 l3 : Value) (a : Int32) (st : List Value) (ws : ai_W) : ai_Run 219 72 [l0, l1, .int a, l3] st ws = ai_Run 219 73 [l0, l1, .int a, l3] (.int a :: st) ws := R_iload_n hc_219 dX11_strikes_72 rfl rfl
theorem r_219_73 (ls st : List Value) (a b : Int32) (ws : ai_W) : ai_Run 219 73 ls (.int b :: .int a :: st) ws = ai_Run 219 74 ls (.int (a + b) :: st) ws := R_iadd hc_219 dX11_strikes_73 rfl
theorem r_219_74 (ls st : List Value) (ws : ai_W) : ai_Run 219 74 ls st ws = ai_Run 219 75 ls (.int 1 :: st) ws := R_iconst hc_219 dX11_strikes_74 (by decide) rfl
theorem r_219_75 (ls st : List Value) (a b : Int32) (ws : ai_W) : ai_Run 219 75 ls (.int b :: .int a :: st) ws = ai_Run 219 76 ls (.int (a - b) :: st) ws := R_isub hc_219 dX11_strikes_75 rfl
theorem r_219_76 (ls st : List Value) (ws : ai_W) : ai_Run 219 76 ls st ws = ai_Run 219 77 ls (.int 0 :: st) ws := R_iconst hc_219 dX11_strikes_76 (by decide) rfl
theorem r_219_77 (ls : List Value) (r : Nat) (b0 : Int32) (b1 : Int32) (b2 : Int32) (ws : ai_W) : ai_Run 219 77 ls [.int b2, .int b1, .int b0, .ref r] ws = (ai_Call 177 [.ref r, .int b0, .int b1, .int b2] ws).bind fun q => ai_Run 219 80 ls (q.1.toList ++ []) q.2 := R_callV hc_219 dX11_strikes_77 hv_219 (w := 1092) rfl (Nat.le_of_ble_eq_true rfl) hk_177 (by rw [hn_177]; rfl) rfl (Nat.le_of_ble_eq_true rfl) rfl
theorem r_219_80 (l1 l2 l3 : Value) (a : Nat) (st : List Value) (ws : ai_W) : ai_Run 219 80 [.ref a, l1, l2, l3] st ws = ai_Run 219 81 [.ref a, l1, l2, l3] (.ref a :: st) ws := R_aload_n hc_219 dX11_strikes_80 rfl rfl
theorem r_219_81 (l0 l2 l3 : Value) (a : Int32) (st : List Value) (ws : ai_W) : ai_Run 219 81 [l0, .int a, l2, l3] st ws = ai_Run 219 82 [l0, .int a, l2, l3] (.int a :: st) ws := R_iload_n hc_219 dX11_strikes_81 rfl rfl
theorem r_219_82 (ls st : List Value) (ws : ai_W) : ai_Run 219 82 ls st ws = ai_Run 219 83 ls (.int 0 :: st) ws := R_iconst hc_219 dX11_strikes_82 (by decide) rfl
theorem r_219_83 (l0 l1 l3 : Value) (a : Int32) (st : List Value) (ws : ai_W) : ai_Run 219 83 [l0, l1, .int a, l3] st ws = ai_Run 219 84 [l0, l1, .int a, l3] (.int a :: st) ws := R_iload_n hc_219 dX11_strikes_83 rfl rfl
theorem r_219_84 (ls st : List Value) (ws : ai_W) : ai_Run 219 84 ls st ws = ai_Run 219 85 ls (.int 1 :: st) ws := R_iconst hc_219 dX11_strikes_84 (by decide) rfl
theorem r_219_85 (ls st : List Value) (a b : Int32) (ws : ai_W) : ai_Run 219 85 ls (.int b :: .int a :: st) ws = ai_Run 219 86 ls (.int (a - b) :: st) ws := R_isub hc_219 dX11_strikes_85 rfl
theorem r_219_86 (ls : List Value) (r : Nat) (b0 : Int32) (b1 : Int32) (b2 : Int32) (ws : ai_W) : ai_Run 219 86 ls [.int b2, .int b1, .int b0, .ref r] ws = (ai_Call 177 [.ref r, .int b0, .int b1, .int b2] ws).bind fun q => ai_Run 219 89 ls (q.1.toList ++ []) q.2 := R_callV hc_219 dX11_strikes_86 hv_219 (w := 1092) rfl (Nat.le_of_ble_eq_true rfl) hk_177 (by rw [hn_177]; rfl) rfl (Nat.le_of_ble_eq_true rfl) rfl
theorem r_219_89 (l0 l1 l2 : Value) (a : Int32) (st : List Value) (ws : ai_W) : ai_Run 219 89 [l0, l1, l2, .int a] st ws = ai_Run 219 90 [l0, l1, l2, .int a] (.int a :: st) ws := R_iload_n hc_219 dX11_strikes_89 rfl rfl
theorem r_219_90 (ls : List Value) (x : Int32) (ws : ai_W) : ai_Run 219 90 ls [.int x] ws = some (some (.int x), ws) := R_iret hc_219 dX11_strikes_90 ht_219
theorem dX11_writes_0 : decode cX11_writes 0 = .ok (.aload_n 0, 1) := by decide +kernel
theorem dX11_writes_1 : decode cX11_writes 1 = .ok (.iload_n 2, 1) := by decide +kernel
theorem dX11_writes_2 : decode cX11_writes 2 = .ok (.invokevirtual 117, 3) := by decide +kernel
theorem dX11_writes_5 : decode cX11_writes 5 = .ok (.ifCond .ne 5, 3) := by decide +kernel
theorem dX11_writes_8 : decode cX11_writes 8 = .ok (.iconst (-1), 1) := by decide +kernel
theorem dX11_writes_9 : decode cX11_writes 9 = .ok (.ireturn, 1) := by decide +kernel
theorem dX11_writes_10 : decode cX11_writes 10 = .ok (.iload_n 1, 1) := by decide +kernel
theorem dX11_writes_11 : decode cX11_writes 11 = .ok (.invokestatic 94, 3) := by decide +kernel
theorem dX11_writes_14 : decode cX11_writes 14 = .ok (.ifCond .ne 6, 3) := by decide +kernel
theorem dX11_writes_17 : decode cX11_writes 17 = .ok (.bipush (-2), 2) := by decide +kernel
theorem dX11_writes_19 : decode cX11_writes 19 = .ok (.ireturn, 1) := by decide +kernel
theorem dX11_writes_20 : decode cX11_writes 20 = .ok (.aload_n 0, 1) := by decide +kernel
theorem dX11_writes_21 : decode cX11_writes 21 = .ok (.getfield 9, 3) := by decide +kernel
theorem dX11_writes_24 : decode cX11_writes 24 = .ok (.iconst 3, 1) := by decide +kernel
theorem dX11_writes_25 : decode cX11_writes 25 = .ok (.iload_n 1, 1) := by decide +kernel
theorem dX11_writes_26 : decode cX11_writes 26 = .ok (.iadd, 1) := by decide +kernel
theorem dX11_writes_27 : decode cX11_writes 27 = .ok (.iaload, 1) := by decide +kernel
theorem dX11_writes_28 : decode cX11_writes 28 = .ok (.istore_n 3, 1) := by decide +kernel
theorem dX11_writes_29 : decode cX11_writes 29 = .ok (.aload_n 0, 1) := by decide +kernel
theorem dX11_writes_30 : decode cX11_writes 30 = .ok (.iload_n 3, 1) := by decide +kernel
theorem dX11_writes_31 : decode cX11_writes 31 = .ok (.iload_n 2, 1) := by decide +kernel
theorem dX11_writes_32 : decode cX11_writes 32 = .ok (.if_icmp .ne 7, 3) := by decide +kernel
theorem dX11_writes_35 : decode cX11_writes 35 = .ok (.iconst 1, 1) := by decide +kernel
theorem dX11_writes_36 : decode cX11_writes 36 = .ok (.goto 4, 3) := by decide +kernel
theorem dX11_writes_39 : decode cX11_writes 39 = .ok (.iconst 0, 1) := by decide +kernel
theorem dX11_writes_40 : decode cX11_writes 40 = .ok (.iconst 5, 1) := by decide +kernel
theorem dX11_writes_41 : decode cX11_writes 41 = .ok (.iload_n 2, 1) := by decide +kernel
theorem dX11_writes_42 : decode cX11_writes 42 = .ok (.invokevirtual 70, 3) := by decide +kernel
theorem dX11_writes_45 : decode cX11_writes 45 = .ok (.ifCond .eq 6, 3) := by decide +kernel
theorem dX11_writes_48 : decode cX11_writes 48 = .ok (.bipush (-3), 2) := by decide +kernel
theorem dX11_writes_50 : decode cX11_writes 50 = .ok (.ireturn, 1) := by decide +kernel
theorem dX11_writes_51 : decode cX11_writes 51 = .ok (.aload_n 0, 1) := by decide +kernel
theorem dX11_writes_52 : decode cX11_writes 52 = .ok (.getfield 9, 3) := by decide +kernel
theorem dX11_writes_55 : decode cX11_writes 55 = .ok (.iconst 3, 1) := by decide +kernel
theorem dX11_writes_56 : decode cX11_writes 56 = .ok (.iload_n 1, 1) := by decide +kernel
theorem dX11_writes_57 : decode cX11_writes 57 = .ok (.iadd, 1) := by decide +kernel
theorem dX11_writes_58 : decode cX11_writes 58 = .ok (.iload_n 2, 1) := by decide +kernel
theorem dX11_writes_59 : decode cX11_writes 59 = .ok (.iastore, 1) := by decide +kernel
theorem dX11_writes_60 : decode cX11_writes 60 = .ok (.iload_n 3, 1) := by decide +kernel
theorem dX11_writes_61 : decode cX11_writes 61 = .ok (.ireturn, 1) := by decide +kernel
theorem e_220 (r : Nat) (a0 : Int32) (a1 : Int32) (ws : ai_W) : ai_Call 220 [.ref r, .int a0, .int a1] ws = if ai_isob ws r 11 = true then ai_Run 220 0 [.ref r, .int a0, .int a1, .null] [] ws else none := R_entV hk_220 ⟨⟨rfl, rfl⟩, Nat.le_of_ble_eq_true rfl⟩ rfl
theorem r_220_0 (l1 l2 l3 : Value) (a : Nat) (st : List Value) (ws : ai_W) : ai_Run 220 0 [.ref a, l1, l2, l3] st ws = ai_Run 220 1 [.ref a, l1, l2, l3] (.ref a :: st) ws := R_aload_n hc_220 dX11_writes_0 rfl rfl
theorem r_220_1 (l0 l1 l3 : Value) (a : Int32) (st : List Value) (ws : ai_W) : ai_Run 220 1 [l0, l1, .int a, l3] st ws = ai_Run 220 2 [l0, l1, .int a, l3] (.int a :: st) ws := R_iload_n hc_220 dX11_writes_1 rfl rfl
theorem r_220_2 (ls : List Value) (r : Nat) (b0 : Int32) (ws : ai_W) : ai_Run 220 2 ls [.int b0, .ref r] ws = (ai_Call 189 [.ref r, .int b0] ws).bind fun q => ai_Run 220 5 ls (q.1.toList ++ []) q.2 := R_callV hc_220 dX11_writes_2 hv_220 (w := 1181) rfl (Nat.le_of_ble_eq_true rfl) hk_189 (by rw [hn_189]; rfl) rfl (Nat.le_of_ble_eq_true rfl) rfl
theorem r_220_5 (ls st : List Value) (a : Int32) (ws : ai_W) : ai_Run 220 5 ls (.int a :: st) ws = if a = 0 then ai_Run 220 8 ls st ws else ai_Run 220 10 ls st ws := R_if_ne hc_220 dX11_writes_5 rfl rfl
theorem r_220_8 (ls st : List Value) (ws : ai_W) : ai_Run 220 8 ls st ws = ai_Run 220 9 ls (.int (-1) :: st) ws := R_iconst hc_220 dX11_writes_8 (by decide) rfl
theorem r_220_9 (ls : List Value) (x : Int32) (ws : ai_W) : ai_Run 220 9 ls [.int x] ws = some (some (.int x), ws) := R_iret hc_220 dX11_writes_9 ht_220
theorem r_220_10 (l0 l2 l3 : Value) (a : Int32) (st : List Value) (ws : ai_W) : ai_Run 220 10 [l0, .int a, l2, l3] st ws = ai_Run 220 11 [l0, .int a, l2, l3] (.int a :: st) ws := R_iload_n hc_220 dX11_writes_10 rfl rfl
theorem r_220_11 (ls : List Value) (b0 : Int32) (ws : ai_W) : ai_Run 220 11 ls [.int b0] ws = (ai_Call 207 [.int b0] ws).bind fun q => ai_Run 220 14 ls (q.1.toList ++ []) q.2 := R_callS hc_220 dX11_writes_11 hv_220 (w := 1130) rfl (Nat.le_of_ble_eq_true rfl) hk_207 (by rw [hn_207]; rfl) rfl (Nat.le_of_ble_eq_true rfl) rfl
theorem r_220_14 (ls st : List Value) (a : Int32) (ws : ai_W) : ai_Run 220 14 ls (.int a :: st) ws = if a = 0 then ai_Run 220 17 ls st ws else ai_Run 220 20 ls st ws := R_if_ne hc_220 dX11_writes_14 rfl rfl
theorem r_220_17 (ls st : List Value) (ws : ai_W) : ai_Run 220 17 ls st ws = ai_Run 220 19 ls (.int (-2) :: st) ws := R_bipush hc_220 dX11_writes_17 (by decide) rfl
theorem r_220_19 (ls : List Value) (x : Int32) (ws : ai_W) : ai_Run 220 19 ls [.int x] ws = some (some (.int x), ws) := R_iret hc_220 dX11_writes_19 ht_220
theorem r_220_20 (l1 l2 l3 : Value) (a : Nat) (st : List Value) (ws : ai_W) : ai_Run 220 20 [.ref a, l1, l2, l3] st ws = ai_Run 220 21 [.ref a, l1, l2, l3] (.ref a :: st) ws := R_aload_n hc_220 dX11_writes_20 rfl rfl
theorem r_220_21 (ls st : List Value) (a : Nat) (ws : ai_W) : ai_Run 220 21 ls (.ref a :: st) ws = (ai_fget ws a 11 0).bind fun q => ai_Run 220 24 ls (q :: st) ws := R_getf hc_220 dX11_writes_21 hv_220 (w := 1024) rfl rfl
theorem r_220_24 (ls st : List Value) (ws : ai_W) : ai_Run 220 24 ls st ws = ai_Run 220 25 ls (.int 3 :: st) ws := R_iconst hc_220 dX11_writes_24 (by decide) rfl
theorem r_220_25 (l0 l2 l3 : Value) (a : Int32) (st : List Value) (ws : ai_W) : ai_Run 220 25 [l0, .int a, l2, l3] st ws = ai_Run 220 26 [l0, .int a, l2, l3] (.int a :: st) ws := R_iload_n hc_220 dX11_writes_25 rfl rfl
theorem r_220_26 (ls st : List Value) (a b : Int32) (ws : ai_W) : ai_Run 220 26 ls (.int b :: .int a :: st) ws = ai_Run 220 27 ls (.int (a + b) :: st) ws := R_iadd hc_220 dX11_writes_26 rfl
theorem r_220_27 (ls st : List Value) (a : Nat) (i : Int32) (ws : ai_W) : ai_Run 220 27 ls (.int i :: .ref a :: st) ws = (ai_aget ws a i).bind fun q => ai_Run 220 28 ls (.int q :: st) ws := R_iaload hc_220 dX11_writes_27 rfl
theorem r_220_28 (l0 l1 l2 l3 : Value) (a : Int32) (st : List Value) (ws : ai_W) : ai_Run 220 28 [l0, l1, l2, l3] (.int a :: st) ws = ai_Run 220 29 [l0, l1, l2, .int a] st ws := R_istore_n hc_220 dX11_writes_28 (Nat.le_of_ble_eq_true rfl) rfl rfl
theorem r_220_29 (l1 l2 l3 : Value) (a : Nat) (st : List Value) (ws : ai_W) : ai_Run 220 29 [.ref a, l1, l2, l3] st ws = ai_Run 220 30 [.ref a, l1, l2, l3] (.ref a :: st) ws := R_aload_n hc_220 dX11_writes_29 rfl rfl
theorem r_220_30 (l0 l1 l2 : Value) (a : Int32) (st : List Value) (ws : ai_W) : ai_Run 220 30 [l0, l1, l2, .int a] st ws = ai_Run 220 31 [l0, l1, l2, .int a] (.int a :: st) ws := R_iload_n hc_220 dX11_writes_30 rfl rfl
theorem r_220_31 (l0 l1 l3 : Value) (a : Int32) (st : List Value) (ws : ai_W) : ai_Run 220 31 [l0, l1, .int a, l3] st ws = ai_Run 220 32 [l0, l1, .int a, l3] (.int a :: st) ws := R_iload_n hc_220 dX11_writes_31 rfl rfl
theorem r_220_32 (ls st : List Value) (a b : Int32) (ws : ai_W) : ai_Run 220 32 ls (.int b :: .int a :: st) ws = if a = b then ai_Run 220 35 ls st ws else ai_Run 220 39 ls st ws := R_cmp_ne hc_220 dX11_writes_32 rfl rfl
theorem r_220_35 (ls st : List Value) (ws : ai_W) : ai_Run 220 35 ls st ws = ai_Run 220 36 ls (.int 1 :: st) ws := R_iconst hc_220 dX11_writes_35 (by decide) rfl
theorem r_220_36 (ls st : List Value) (ws : ai_W) : ai_Run 220 36 ls st ws = ai_Run 220 40 ls st ws := R_goto hc_220 dX11_writes_36 rfl
theorem r_220_39 (ls st : List Value) (ws : ai_W) : ai_Run 220 39 ls st ws = ai_Run 220 40 ls (.int 0 :: st) ws := R_iconst hc_220 dX11_writes_39 (by decide) rfl
theorem r_220_40 (ls st : List Value) (ws : ai_W) : ai_Run 220 40 ls st ws = ai_Run 220 41 ls (.int 5 :: st) ws := R_iconst hc_220 dX11_writes_40 (by decide) rfl
theorem r_220_41 (l0 l1 l3 : Value) (a : Int32) (st : List Value) (ws : ai_W) : ai_Run 220 41 [l0, l1, .int a, l3] st ws = ai_Run 220 42 [l0, l1, .int a, l3] (.int a :: st) ws := R_iload_n hc_220 dX11_writes_41 rfl rfl
theorem r_220_42 (ls : List Value) (r : Nat) (b0 : Int32) (b1 : Int32) (b2 : Int32) (ws : ai_W) : ai_Run 220 42 ls [.int b2, .int b1, .int b0, .ref r] ws = (ai_Call 183 [.ref r, .int b0, .int b1, .int b2] ws).bind fun q => ai_Run 220 45 ls (q.1.toList ++ []) q.2 := R_callV hc_220 dX11_writes_42 hv_220 (w := 1088) rfl (Nat.le_of_ble_eq_true rfl) hk_183 (by rw [hn_183]; rfl) rfl (Nat.le_of_ble_eq_true rfl) rfl
theorem r_220_45 (ls st : List Value) (a : Int32) (ws : ai_W) : ai_Run 220 45 ls (.int a :: st) ws = if a = 0 then ai_Run 220 51 ls st ws else ai_Run 220 48 ls st ws := R_if_eq hc_220 dX11_writes_45 rfl rfl
theorem r_220_48 (ls st : List Value) (ws : ai_W) : ai_Run 220 48 ls st ws = ai_Run 220 50 ls (.int (-3) :: st) ws := R_bipush hc_220 dX11_writes_48 (by decide) rfl
theorem r_220_50 (ls : List Value) (x : Int32) (ws : ai_W) : ai_Run 220 50 ls [.int x] ws = some (some (.int x), ws) := R_iret hc_220 dX11_writes_50 ht_220
theorem r_220_51 (l1 l2 l3 : Value) (a : Nat) (st : List Value) (ws : ai_W) : ai_Run 220 51 [.ref a, l1, l2, l3] st ws = ai_Run 220 52 [.ref a, l1, l2, l3] (.ref a :: st) ws := R_aload_n hc_220 dX11_writes_51 rfl rfl
theorem r_220_52 (ls st : List Value) (a : Nat) (ws : ai_W) : ai_Run 220 52 ls (.ref a :: st) ws = (ai_fget ws a 11 0).bind fun q => ai_Run 220 55 ls (q :: st) ws := R_getf hc_220 dX11_writes_52 hv_220 (w := 1024) rfl rfl
theorem r_220_55 (ls st : List Value) (ws : ai_W) : ai_Run 220 55 ls st ws = ai_Run 220 56 ls (.int 3 :: st) ws := R_iconst hc_220 dX11_writes_55 (by decide) rfl
theorem r_220_56 (l0 l2 l3 : Value) (a : Int32) (st : List Value) (ws : ai_W) : ai_Run 220 56 [l0, .int a, l2, l3] st ws = ai_Run 220 57 [l0, .int a, l2, l3] (.int a :: st) ws := R_iload_n hc_220 dX11_writes_56 rfl rfl
theorem r_220_57 (ls st : List Value) (a b : Int32) (ws : ai_W) : ai_Run 220 57 ls (.int b :: .int a :: st) ws = ai_Run 220 58 ls (.int (a + b) :: st) ws := R_iadd hc_220 dX11_writes_57 rfl
theorem r_220_58 (l0 l1 l3 : Value) (a : Int32) (st : List Value) (ws : ai_W) : ai_Run 220 58 [l0, l1, .int a, l3] st ws = ai_Run 220 59 [l0, l1, .int a, l3] (.int a :: st) ws := R_iload_n hc_220 dX11_writes_58 rfl rfl
theorem r_220_59 (ls st : List Value) (a : Nat) (i x : Int32) (ws : ai_W) : ai_Run 220 59 ls (.int x :: .int i :: .ref a :: st) ws = (ai_aset ws a i x).bind fun ws => ai_Run 220 60 ls st ws := R_iastore hc_220 dX11_writes_59 rfl
theorem r_220_60 (l0 l1 l2 : Value) (a : Int32) (st : List Value) (ws : ai_W) : ai_Run 220 60 [l0, l1, l2, .int a] st ws = ai_Run 220 61 [l0, l1, l2, .int a] (.int a :: st) ws := R_iload_n hc_220 dX11_writes_60 rfl rfl
theorem r_220_61 (ls : List Value) (x : Int32) (ws : ai_W) : ai_Run 220 61 ls [.int x] ws = some (some (.int x), ws) := R_iret hc_220 dX11_writes_61 ht_220
theorem dX11_swears_0 : decode cX11_swears 0 = .ok (.aload_n 0, 1) := by decide +kernel
theorem dX11_swears_1 : decode cX11_swears 1 = .ok (.iload_n 1, 1) := by decide +kernel
theorem dX11_swears_2 : decode cX11_swears 2 = .ok (.invokevirtual 117, 3) := by decide +kernel
theorem dX11_swears_5 : decode cX11_swears 5 = .ok (.ifCond .ne 5, 3) := by decide +kernel
theorem dX11_swears_8 : decode cX11_swears 8 = .ok (.iconst (-1), 1) := by decide +kernel
theorem dX11_swears_9 : decode cX11_swears 9 = .ok (.ireturn, 1) := by decide +kernel
theorem dX11_swears_10 : decode cX11_swears 10 = .ok (.iload_n 2, 1) := by decide +kernel
theorem dX11_swears_11 : decode cX11_swears 11 = .ok (.iconst 0, 1) := by decide +kernel
theorem dX11_swears_12 : decode cX11_swears 12 = .ok (.iconst 1, 1) := by decide +kernel
theorem dX11_swears_13 : decode cX11_swears 13 = .ok (.invokestatic 55, 3) := by decide +kernel
theorem dX11_swears_16 : decode cX11_swears 16 = .ok (.ifCond .ne 6, 3) := by decide +kernel
theorem dX11_swears_19 : decode cX11_swears 19 = .ok (.bipush (-2), 2) := by decide +kernel
theorem dX11_swears_21 : decode cX11_swears 21 = .ok (.ireturn, 1) := by decide +kernel
theorem dX11_swears_22 : decode cX11_swears 22 = .ok (.aload_n 0, 1) := by decide +kernel
theorem dX11_swears_23 : decode cX11_swears 23 = .ok (.aload_n 0, 1) := by decide +kernel
theorem dX11_swears_24 : decode cX11_swears 24 = .ok (.getfield 9, 3) := by decide +kernel
theorem dX11_swears_27 : decode cX11_swears 27 = .ok (.bipush 34, 2) := by decide +kernel
theorem dX11_swears_29 : decode cX11_swears 29 = .ok (.iload_n 1, 1) := by decide +kernel
theorem dX11_swears_30 : decode cX11_swears 30 = .ok (.iadd, 1) := by decide +kernel
theorem dX11_swears_31 : decode cX11_swears 31 = .ok (.iaload, 1) := by decide +kernel
theorem dX11_swears_32 : decode cX11_swears 32 = .ok (.iload_n 2, 1) := by decide +kernel
theorem dX11_swears_33 : decode cX11_swears 33 = .ok (.if_icmp .ne 7, 3) := by decide +kernel
theorem dX11_swears_36 : decode cX11_swears 36 = .ok (.iconst 1, 1) := by decide +kernel
theorem dX11_swears_37 : decode cX11_swears 37 = .ok (.goto 4, 3) := by decide +kernel
theorem dX11_swears_40 : decode cX11_swears 40 = .ok (.iconst 0, 1) := by decide +kernel
theorem dX11_swears_41 : decode cX11_swears 41 = .ok (.iconst 5, 1) := by decide +kernel
theorem dX11_swears_42 : decode cX11_swears 42 = .ok (.iload_n 2, 1) := by decide +kernel
theorem dX11_swears_43 : decode cX11_swears 43 = .ok (.invokevirtual 70, 3) := by decide +kernel
theorem dX11_swears_46 : decode cX11_swears 46 = .ok (.ifCond .eq 6, 3) := by decide +kernel
theorem dX11_swears_49 : decode cX11_swears 49 = .ok (.bipush (-3), 2) := by decide +kernel
theorem dX11_swears_51 : decode cX11_swears 51 = .ok (.ireturn, 1) := by decide +kernel
theorem dX11_swears_52 : decode cX11_swears 52 = .ok (.aload_n 0, 1) := by decide +kernel
theorem dX11_swears_53 : decode cX11_swears 53 = .ok (.getfield 9, 3) := by decide +kernel
theorem dX11_swears_56 : decode cX11_swears 56 = .ok (.bipush 34, 2) := by decide +kernel
theorem dX11_swears_58 : decode cX11_swears 58 = .ok (.iload_n 1, 1) := by decide +kernel
theorem dX11_swears_59 : decode cX11_swears 59 = .ok (.iadd, 1) := by decide +kernel
theorem dX11_swears_60 : decode cX11_swears 60 = .ok (.iload_n 2, 1) := by decide +kernel
theorem dX11_swears_61 : decode cX11_swears 61 = .ok (.iastore, 1) := by decide +kernel
theorem dX11_swears_62 : decode cX11_swears 62 = .ok (.aload_n 0, 1) := by decide +kernel
theorem dX11_swears_63 : decode cX11_swears 63 = .ok (.invokevirtual 123, 3) := by decide +kernel
theorem dX11_swears_66 : decode cX11_swears 66 = .ok (.ireturn, 1) := by decide +kernel
theorem e_221 (r : Nat) (a0 : Int32) (a1 : Int32) (ws : ai_W) : ai_Call 221 [.ref r, .int a0, .int a1] ws = if ai_isob ws r 11 = true then ai_Run 221 0 [.ref r, .int a0, .int a1] [] ws else none := R_entV hk_221 ⟨⟨rfl, rfl⟩, Nat.le_of_ble_eq_true rfl⟩ rfl
theorem r_221_0 (l1 l2 : Value) (a : Nat) (st : List Value) (ws : ai_W) : ai_Run 221 0 [.ref a, l1, l2] st ws = ai_Run 221 1 [.ref a, l1, l2] (.ref a :: st) ws := R_aload_n hc_221 dX11_swears_0 rfl rfl
theorem r_221_1 (l0 l2 : Value) (a : Int32) (st : List Value) (ws : ai_W) : ai_Run 221 1 [l0, .int a, l2] st ws = ai_Run 221 2 [l0, .int a, l2] (.int a :: st) ws := R_iload_n hc_221 dX11_swears_1 rfl rfl
theorem r_221_2 (ls : List Value) (r : Nat) (b0 : Int32) (ws : ai_W) : ai_Run 221 2 ls [.int b0, .ref r] ws = (ai_Call 189 [.ref r, .int b0] ws).bind fun q => ai_Run 221 5 ls (q.1.toList ++ []) q.2 := R_callV hc_221 dX11_swears_2 hv_221 (w := 1181) rfl (Nat.le_of_ble_eq_true rfl) hk_189 (by rw [hn_189]; rfl) rfl (Nat.le_of_ble_eq_true rfl) rfl
theorem r_221_5 (ls st : List Value) (a : Int32) (ws : ai_W) : ai_Run 221 5 ls (.int a :: st) ws = if a = 0 then ai_Run 221 8 ls st ws else ai_Run 221 10 ls st ws := R_if_ne hc_221 dX11_swears_5 rfl rfl
theorem r_221_8 (ls st : List Value) (ws : ai_W) : ai_Run 221 8 ls st ws = ai_Run 221 9 ls (.int (-1) :: st) ws := R_iconst hc_221 dX11_swears_8 (by decide) rfl
theorem r_221_9 (ls : List Value) (x : Int32) (ws : ai_W) : ai_Run 221 9 ls [.int x] ws = some (some (.int x), ws) := R_iret hc_221 dX11_swears_9 ht_221
theorem r_221_10 (l0 l1 : Value) (a : Int32) (st : List Value) (ws : ai_W) : ai_Run 221 10 [l0, l1, .int a] st ws = ai_Run 221 11 [l0, l1, .int a] (.int a :: st) ws := R_iload_n hc_221 dX11_swears_10 rfl rfl
theorem r_221_11 (ls st : List Value) (ws : ai_W) : ai_Run 221 11 ls st ws = ai_Run 221 12 ls (.int 0 :: st) ws := R_iconst hc_221 dX11_swears_11 (by decide) rfl
theorem r_221_12 (ls st : List Value) (ws : ai_W) : ai_Run 221 12 ls st ws = ai_Run 221 13 ls (.int 1 :: st) ws := R_iconst hc_221 dX11_swears_12 (by decide) rfl
theorem r_221_13 (ls : List Value) (b0 : Int32) (b1 : Int32) (b2 : Int32) (ws : ai_W) : ai_Run 221 13 ls [.int b2, .int b1, .int b0] ws = (ai_Call 179 [.int b0, .int b1, .int b2] ws).bind fun q => ai_Run 221 16 ls (q.1.toList ++ []) q.2 := R_callS hc_221 dX11_swears_13 hv_221 (w := 1127) rfl (Nat.le_of_ble_eq_true rfl) hk_179 (by rw [hn_179]; rfl) rfl (Nat.le_of_ble_eq_true rfl) rfl
theorem r_221_16 (ls st : List Value) (a : Int32) (ws : ai_W) : ai_Run 221 16 ls (.int a :: st) ws = if a = 0 then ai_Run 221 19 ls st ws else ai_Run 221 22 ls st ws := R_if_ne hc_221 dX11_swears_16 rfl rfl
theorem r_221_19 (ls st : List Value) (ws : ai_W) : ai_Run 221 19 ls st ws = ai_Run 221 21 ls (.int (-2) :: st) ws := R_bipush hc_221 dX11_swears_19 (by decide) rfl
theorem r_221_21 (ls : List Value) (x : Int32) (ws : ai_W) : ai_Run 221 21 ls [.int x] ws = some (some (.int x), ws) := R_iret hc_221 dX11_swears_21 ht_221
theorem r_221_22 (l1 l2 : Value) (a : Nat) (st : List Value) (ws : ai_W) : ai_Run 221 22 [.ref a, l1, l2] st ws = ai_Run 221 23 [.ref a, l1, l2] (.ref a :: st) ws := R_aload_n hc_221 dX11_swears_22 rfl rfl
theorem r_221_23 (l1 l2 : Value) (a : Nat) (st : List Value) (ws : ai_W) : ai_Run 221 23 [.ref a, l1, l2] st ws = ai_Run 221 24 [.ref a, l1, l2] (.ref a :: st) ws := R_aload_n hc_221 dX11_swears_23 rfl rfl
theorem r_221_24 (ls st : List Value) (a : Nat) (ws : ai_W) : ai_Run 221 24 ls (.ref a :: st) ws = (ai_fget ws a 11 0).bind fun q => ai_Run 221 27 ls (q :: st) ws := R_getf hc_221 dX11_swears_24 hv_221 (w := 1024) rfl rfl
theorem r_221_27 (ls st : List Value) (ws : ai_W) : ai_Run 221 27 ls st ws = ai_Run 221 29 ls (.int 34 :: st) ws := R_bipush hc_221 dX11_swears_27 (by decide) rfl
theorem r_221_29 (l0 l2 : Value) (a : Int32) (st : List Value) (ws : ai_W) : ai_Run 221 29 [l0, .int a, l2] st ws = ai_Run 221 30 [l0, .int a, l2] (.int a :: st) ws := R_iload_n hc_221 dX11_swears_29 rfl rfl
theorem r_221_30 (ls st : List Value) (a b : Int32) (ws : ai_W) : ai_Run 221 30 ls (.int b :: .int a :: st) ws = ai_Run 221 31 ls (.int (a + b) :: st) ws := R_iadd hc_221 dX11_swears_30 rfl
theorem r_221_31 (ls st : List Value) (a : Nat) (i : Int32) (ws : ai_W) : ai_Run 221 31 ls (.int i :: .ref a :: st) ws = (ai_aget ws a i).bind fun q => ai_Run 221 32 ls (.int q :: st) ws := R_iaload hc_221 dX11_swears_31 rfl
theorem r_221_32 (l0 l1 : Value) (a : Int32) (st : List Value) (ws : ai_W) : ai_Run 221 32 [l0, l1, .int a] st ws = ai_Run 221 33 [l0, l1, .int a] (.int a :: st) ws := R_iload_n hc_221 dX11_swears_32 rfl rfl
theorem r_221_33 (ls st : List Value) (a b : Int32) (ws : ai_W) : ai_Run 221 33 ls (.int b :: .int a :: st) ws = if a = b then ai_Run 221 36 ls st ws else ai_Run 221 40 ls st ws := R_cmp_ne hc_221 dX11_swears_33 rfl rfl
theorem r_221_36 (ls st : List Value) (ws : ai_W) : ai_Run 221 36 ls st ws = ai_Run 221 37 ls (.int 1 :: st) ws := R_iconst hc_221 dX11_swears_36 (by decide) rfl
theorem r_221_37 (ls st : List Value) (ws : ai_W) : ai_Run 221 37 ls st ws = ai_Run 221 41 ls st ws := R_goto hc_221 dX11_swears_37 rfl
theorem r_221_40 (ls st : List Value) (ws : ai_W) : ai_Run 221 40 ls st ws = ai_Run 221 41 ls (.int 0 :: st) ws := R_iconst hc_221 dX11_swears_40 (by decide) rfl
theorem r_221_41 (ls st : List Value) (ws : ai_W) : ai_Run 221 41 ls st ws = ai_Run 221 42 ls (.int 5 :: st) ws := R_iconst hc_221 dX11_swears_41 (by decide) rfl
theorem r_221_42 (l0 l1 : Value) (a : Int32) (st : List Value) (ws : ai_W) : ai_Run 221 42 [l0, l1, .int a] st ws = ai_Run 221 43 [l0, l1, .int a] (.int a :: st) ws := R_iload_n hc_221 dX11_swears_42 rfl rfl
theorem r_221_43 (ls : List Value) (r : Nat) (b0 : Int32) (b1 : Int32) (b2 : Int32) (ws : ai_W) : ai_Run 221 43 ls [.int b2, .int b1, .int b0, .ref r] ws = (ai_Call 183 [.ref r, .int b0, .int b1, .int b2] ws).bind fun q => ai_Run 221 46 ls (q.1.toList ++ []) q.2 := R_callV hc_221 dX11_swears_43 hv_221 (w := 1088) rfl (Nat.le_of_ble_eq_true rfl) hk_183 (by rw [hn_183]; rfl) rfl (Nat.le_of_ble_eq_true rfl) rfl
theorem r_221_46 (ls st : List Value) (a : Int32) (ws : ai_W) : ai_Run 221 46 ls (.int a :: st) ws = if a = 0 then ai_Run 221 52 ls st ws else ai_Run 221 49 ls st ws := R_if_eq hc_221 dX11_swears_46 rfl rfl
theorem r_221_49 (ls st : List Value) (ws : ai_W) : ai_Run 221 49 ls st ws = ai_Run 221 51 ls (.int (-3) :: st) ws := R_bipush hc_221 dX11_swears_49 (by decide) rfl
theorem r_221_51 (ls : List Value) (x : Int32) (ws : ai_W) : ai_Run 221 51 ls [.int x] ws = some (some (.int x), ws) := R_iret hc_221 dX11_swears_51 ht_221
theorem r_221_52 (l1 l2 : Value) (a : Nat) (st : List Value) (ws : ai_W) : ai_Run 221 52 [.ref a, l1, l2] st ws = ai_Run 221 53 [.ref a, l1, l2] (.ref a :: st) ws := R_aload_n hc_221 dX11_swears_52 rfl rfl
theorem r_221_53 (ls st : List Value) (a : Nat) (ws : ai_W) : ai_Run 221 53 ls (.ref a :: st) ws = (ai_fget ws a 11 0).bind fun q => ai_Run 221 56 ls (q :: st) ws := R_getf hc_221 dX11_swears_53 hv_221 (w := 1024) rfl rfl
theorem r_221_56 (ls st : List Value) (ws : ai_W) : ai_Run 221 56 ls st ws = ai_Run 221 58 ls (.int 34 :: st) ws := R_bipush hc_221 dX11_swears_56 (by decide) rfl
theorem r_221_58 (l0 l2 : Value) (a : Int32) (st : List Value) (ws : ai_W) : ai_Run 221 58 [l0, .int a, l2] st ws = ai_Run 221 59 [l0, .int a, l2] (.int a :: st) ws := R_iload_n hc_221 dX11_swears_58 rfl rfl
theorem r_221_59 (ls st : List Value) (a b : Int32) (ws : ai_W) : ai_Run 221 59 ls (.int b :: .int a :: st) ws = ai_Run 221 60 ls (.int (a + b) :: st) ws := R_iadd hc_221 dX11_swears_59 rfl
theorem r_221_60 (l0 l1 : Value) (a : Int32) (st : List Value) (ws : ai_W) : ai_Run 221 60 [l0, l1, .int a] st ws = ai_Run 221 61 [l0, l1, .int a] (.int a :: st) ws := R_iload_n hc_221 dX11_swears_60 rfl rfl
theorem r_221_61 (ls st : List Value) (a : Nat) (i x : Int32) (ws : ai_W) : ai_Run 221 61 ls (.int x :: .int i :: .ref a :: st) ws = (ai_aset ws a i x).bind fun ws => ai_Run 221 62 ls st ws := R_iastore hc_221 dX11_swears_61 rfl
theorem r_221_62 (l1 l2 : Value) (a : Nat) (st : List Value) (ws : ai_W) : ai_Run 221 62 [.ref a, l1, l2] st ws = ai_Run 221 63 [.ref a, l1, l2] (.ref a :: st) ws := R_aload_n hc_221 dX11_swears_62 rfl rfl
theorem r_221_63 (ls : List Value) (r : Nat) (ws : ai_W) : ai_Run 221 63 ls [.ref r] ws = (ai_Call 175 [.ref r] ws).bind fun q => ai_Run 221 66 ls (q.1.toList ++ []) q.2 := R_callV hc_221 dX11_swears_63 hv_221 (w := 1193) rfl (Nat.le_of_ble_eq_true rfl) hk_175 (by rw [hn_175]; rfl) rfl (Nat.le_of_ble_eq_true rfl) rfl
theorem r_221_66 (ls : List Value) (x : Int32) (ws : ai_W) : ai_Run 221 66 ls [.int x] ws = some (some (.int x), ws) := R_iret hc_221 dX11_swears_66 ht_221
theorem dX11_tellsMotive_0 : decode cX11_tellsMotive 0 = .ok (.aload_n 0, 1) := by decide +kernel
theorem dX11_tellsMotive_1 : decode cX11_tellsMotive 1 = .ok (.iload_n 1, 1) := by decide +kernel
theorem dX11_tellsMotive_2 : decode cX11_tellsMotive 2 = .ok (.invokevirtual 63, 3) := by decide +kernel
theorem dX11_tellsMotive_5 : decode cX11_tellsMotive 5 = .ok (.ifCond .eq 11, 3) := by decide +kernel
theorem dX11_tellsMotive_8 : decode cX11_tellsMotive 8 = .ok (.aload_n 0, 1) := by decide +kernel
theorem dX11_tellsMotive_9 : decode cX11_tellsMotive 9 = .ok (.iload_n 2, 1) := by decide +kernel
theorem dX11_tellsMotive_10 : decode cX11_tellsMotive 10 = .ok (.invokevirtual 63, 3) := by decide +kernel
theorem dX11_tellsMotive_13 : decode cX11_tellsMotive 13 = .ok (.ifCond .ne 5, 3) := by decide +kernel
theorem dX11_tellsMotive_16 : decode cX11_tellsMotive 16 = .ok (.iconst (-1), 1) := by decide +kernel
theorem dX11_tellsMotive_17 : decode cX11_tellsMotive 17 = .ok (.ireturn, 1) := by decide +kernel
theorem dX11_tellsMotive_18 : decode cX11_tellsMotive 18 = .ok (.iload_n 3, 1) := by decide +kernel
theorem dX11_tellsMotive_19 : decode cX11_tellsMotive 19 = .ok (.iconst 0, 1) := by decide +kernel
theorem dX11_tellsMotive_20 : decode cX11_tellsMotive 20 = .ok (.bipush 9, 2) := by decide +kernel
theorem dX11_tellsMotive_22 : decode cX11_tellsMotive 22 = .ok (.invokestatic 55, 3) := by decide +kernel
theorem dX11_tellsMotive_25 : decode cX11_tellsMotive 25 = .ok (.ifCond .ne 6, 3) := by decide +kernel
theorem dX11_tellsMotive_28 : decode cX11_tellsMotive 28 = .ok (.bipush (-2), 2) := by decide +kernel
theorem dX11_tellsMotive_30 : decode cX11_tellsMotive 30 = .ok (.ireturn, 1) := by decide +kernel
theorem dX11_tellsMotive_31 : decode cX11_tellsMotive 31 = .ok (.aload_n 0, 1) := by decide +kernel
theorem dX11_tellsMotive_32 : decode cX11_tellsMotive 32 = .ok (.iload_n 1, 1) := by decide +kernel
theorem dX11_tellsMotive_33 : decode cX11_tellsMotive 33 = .ok (.iload_n 2, 1) := by decide +kernel
theorem dX11_tellsMotive_34 : decode cX11_tellsMotive 34 = .ok (.invokevirtual 129, 3) := by decide +kernel
theorem dX11_tellsMotive_37 : decode cX11_tellsMotive 37 = .ok (.istore 4, 2) := by decide +kernel
theorem dX11_tellsMotive_39 : decode cX11_tellsMotive 39 = .ok (.aload_n 0, 1) := by decide +kernel
theorem dX11_tellsMotive_40 : decode cX11_tellsMotive 40 = .ok (.iload_n 1, 1) := by decide +kernel
theorem dX11_tellsMotive_41 : decode cX11_tellsMotive 41 = .ok (.iload_n 2, 1) := by decide +kernel
theorem dX11_tellsMotive_42 : decode cX11_tellsMotive 42 = .ok (.if_icmp .ne 7, 3) := by decide +kernel
theorem dX11_tellsMotive_45 : decode cX11_tellsMotive 45 = .ok (.iconst 1, 1) := by decide +kernel
theorem dX11_tellsMotive_46 : decode cX11_tellsMotive 46 = .ok (.goto 4, 3) := by decide +kernel
theorem dX11_tellsMotive_49 : decode cX11_tellsMotive 49 = .ok (.iconst 0, 1) := by decide +kernel
theorem dX11_tellsMotive_50 : decode cX11_tellsMotive 50 = .ok (.bipush 6, 2) := by decide +kernel
theorem dX11_tellsMotive_52 : decode cX11_tellsMotive 52 = .ok (.iload_n 1, 1) := by decide +kernel
theorem dX11_tellsMotive_53 : decode cX11_tellsMotive 53 = .ok (.invokevirtual 70, 3) := by decide +kernel
theorem dX11_tellsMotive_56 : decode cX11_tellsMotive 56 = .ok (.ifCond .ne 23, 3) := by decide +kernel
theorem dX11_tellsMotive_59 : decode cX11_tellsMotive 59 = .ok (.aload_n 0, 1) := by decide +kernel
theorem dX11_tellsMotive_60 : decode cX11_tellsMotive 60 = .ok (.iload 4, 2) := by decide +kernel
theorem dX11_tellsMotive_62 : decode cX11_tellsMotive 62 = .ok (.iload_n 3, 1) := by decide +kernel
theorem dX11_tellsMotive_63 : decode cX11_tellsMotive 63 = .ok (.if_icmp .ne 7, 3) := by decide +kernel
theorem dX11_tellsMotive_66 : decode cX11_tellsMotive 66 = .ok (.iconst 1, 1) := by decide +kernel
theorem dX11_tellsMotive_67 : decode cX11_tellsMotive 67 = .ok (.goto 4, 3) := by decide +kernel
theorem dX11_tellsMotive_70 : decode cX11_tellsMotive 70 = .ok (.iconst 0, 1) := by decide +kernel
theorem dX11_tellsMotive_71 : decode cX11_tellsMotive 71 = .ok (.iconst 5, 1) := by decide +kernel
theorem dX11_tellsMotive_72 : decode cX11_tellsMotive 72 = .ok (.iload_n 3, 1) := by decide +kernel
theorem dX11_tellsMotive_73 : decode cX11_tellsMotive 73 = .ok (.invokevirtual 70, 3) := by decide +kernel
theorem dX11_tellsMotive_76 : decode cX11_tellsMotive 76 = .ok (.ifCond .eq 6, 3) := by decide +kernel
theorem dX11_tellsMotive_79 : decode cX11_tellsMotive 79 = .ok (.bipush (-3), 2) := by decide +kernel
theorem dX11_tellsMotive_81 : decode cX11_tellsMotive 81 = .ok (.ireturn, 1) := by decide +kernel
theorem dX11_tellsMotive_82 : decode cX11_tellsMotive 82 = .ok (.aload_n 0, 1) := by decide +kernel
theorem dX11_tellsMotive_83 : decode cX11_tellsMotive 83 = .ok (.getfield 9, 3) := by decide +kernel
theorem dX11_tellsMotive_86 : decode cX11_tellsMotive 86 = .ok (.bipush 45, 2) := by decide +kernel
theorem dX11_tellsMotive_88 : decode cX11_tellsMotive 88 = .ok (.bipush 8, 2) := by decide +kernel
theorem dX11_tellsMotive_90 : decode cX11_tellsMotive 90 = .ok (.iload_n 1, 1) := by decide +kernel
theorem dX11_tellsMotive_91 : decode cX11_tellsMotive 91 = .ok (.imul, 1) := by decide +kernel
theorem dX11_tellsMotive_92 : decode cX11_tellsMotive 92 = .ok (.iadd, 1) := by decide +kernel
theorem dX11_tellsMotive_93 : decode cX11_tellsMotive 93 = .ok (.iload_n 2, 1) := by decide +kernel
theorem dX11_tellsMotive_94 : decode cX11_tellsMotive 94 = .ok (.iadd, 1) := by decide +kernel
theorem dX11_tellsMotive_95 : decode cX11_tellsMotive 95 = .ok (.iload_n 3, 1) := by decide +kernel
theorem dX11_tellsMotive_96 : decode cX11_tellsMotive 96 = .ok (.iastore, 1) := by decide +kernel
theorem dX11_tellsMotive_97 : decode cX11_tellsMotive 97 = .ok (.iload 4, 2) := by decide +kernel
theorem dX11_tellsMotive_99 : decode cX11_tellsMotive 99 = .ok (.ireturn, 1) := by decide +kernel
theorem e_222 (r : Nat) (a0 : Int32) (a1 : Int32) (a2 : Int32) (ws : ai_W) : ai_Call 222 [.ref r, .int a0, .int a1, .int a2] ws = if ai_isob ws r 11 = true then ai_Run 222 0 [.ref r, .int a0, .int a1, .int a2, .null] [] ws else none := R_entV hk_222 ⟨⟨rfl, rfl⟩, Nat.le_of_ble_eq_true rfl⟩ rfl
theorem r_222_0 (l1 l2 l3 l4 : Value) (a : Nat) (st : List Value) (ws : ai_W) : ai_Run 222 0 [.ref a, l1, l2, l3, l4] st ws = ai_Run 222 1 [.ref a, l1, l2, l3, l4] (.ref a :: st) ws := R_aload_n hc_222 dX11_tellsMotive_0 rfl rfl
theorem r_222_1 (l0 l2 l3 l4 : Value) (a : Int32) (st : List Value) (ws : ai_W) : ai_Run 222 1 [l0, .int a, l2, l3, l4] st ws = ai_Run 222 2 [l0, .int a, l2, l3, l4] (.int a :: st) ws := R_iload_n hc_222 dX11_tellsMotive_1 rfl rfl
theorem r_222_2 (ls : List Value) (r : Nat) (b0 : Int32) (ws : ai_W) : ai_Run 222 2 ls [.int b0, .ref r] ws = (ai_Call 200 [.ref r, .int b0] ws).bind fun q => ai_Run 222 5 ls (q.1.toList ++ []) q.2 := R_callV hc_222 dX11_tellsMotive_2 hv_222 (w := 1123) rfl (Nat.le_of_ble_eq_true rfl) hk_200 (by rw [hn_200]; rfl) rfl (Nat.le_of_ble_eq_true rfl) rfl
theorem r_222_5 (ls st : List Value) (a : Int32) (ws : ai_W) : ai_Run 222 5 ls (.int a :: st) ws = if a = 0 then ai_Run 222 16 ls st ws else ai_Run 222 8 ls st ws := R_if_eq hc_222 dX11_tellsMotive_5 rfl rfl
theorem r_222_8 (l1 l2 l3 l4 : Value) (a : Nat) (st : List Value) (ws : ai_W) : ai_Run 222 8 [.ref a, l1, l2, l3, l4] st ws = ai_Run 222 9 [.ref a, l1, l2, l3, l4] (.ref a :: st) ws := R_aload_n hc_222 dX11_tellsMotive_8 rfl rfl
theorem r_222_9 (l0 l1 l3 l4 : Value) (a : Int32) (st : List Value) (ws : ai_W) : ai_Run 222 9 [l0, l1, .int a, l3, l4] st ws = ai_Run 222 10 [l0, l1, .int a, l3, l4] (.int a :: st) ws := R_iload_n hc_222 dX11_tellsMotive_9 rfl rfl
theorem r_222_10 (ls : List Value) (r : Nat) (b0 : Int32) (ws : ai_W) : ai_Run 222 10 ls [.int b0, .ref r] ws = (ai_Call 200 [.ref r, .int b0] ws).bind fun q => ai_Run 222 13 ls (q.1.toList ++ []) q.2 := R_callV hc_222 dX11_tellsMotive_10 hv_222 (w := 1123) rfl (Nat.le_of_ble_eq_true rfl) hk_200 (by rw [hn_200]; rfl) rfl (Nat.le_of_ble_eq_true rfl) rfl
theorem r_222_13 (ls st : List Value) (a : Int32) (ws : ai_W) : ai_Run 222 13 ls (.int a :: st) ws = if a = 0 then ai_Run 222 16 ls st ws else ai_Run 222 18 ls st ws := R_if_ne hc_222 dX11_tellsMotive_13 rfl rfl
theorem r_222_16 (ls st : List Value) (ws : ai_W) : ai_Run 222 16 ls st ws = ai_Run 222 17 ls (.int (-1) :: st) ws := R_iconst hc_222 dX11_tellsMotive_16 (by decide) rfl
theorem r_222_17 (ls : List Value) (x : Int32) (ws : ai_W) : ai_Run 222 17 ls [.int x] ws = some (some (.int x), ws) := R_iret hc_222 dX11_tellsMotive_17 ht_222
theorem r_222_18 (l0 l1 l2 l4 : Value) (a : Int32) (st : List Value) (ws : ai_W) : ai_Run 222 18 [l0, l1, l2, .int a, l4] st ws = ai_Run 222 19 [l0, l1, l2, .int a, l4] (.int a :: st) ws := R_iload_n hc_222 dX11_tellsMotive_18 rfl rfl
theorem r_222_19 (ls st : List Value) (ws : ai_W) : ai_Run 222 19 ls st ws = ai_Run 222 20 ls (.int 0 :: st) ws := R_iconst hc_222 dX11_tellsMotive_19 (by decide) rfl
theorem r_222_20 (ls st : List Value) (ws : ai_W) : ai_Run 222 20 ls st ws = ai_Run 222 22 ls (.int 9 :: st) ws := R_bipush hc_222 dX11_tellsMotive_20 (by decide) rfl
theorem r_222_22 (ls : List Value) (b0 : Int32) (b1 : Int32) (b2 : Int32) (ws : ai_W) : ai_Run 222 22 ls [.int b2, .int b1, .int b0] ws = (ai_Call 179 [.int b0, .int b1, .int b2] ws).bind fun q => ai_Run 222 25 ls (q.1.toList ++ []) q.2 := R_callS hc_222 dX11_tellsMotive_22 hv_222 (w := 1127) rfl (Nat.le_of_ble_eq_true rfl) hk_179 (by rw [hn_179]; rfl) rfl (Nat.le_of_ble_eq_true rfl) rfl
theorem r_222_25 (ls st : List Value) (a : Int32) (ws : ai_W) : ai_Run 222 25 ls (.int a :: st) ws = if a = 0 then ai_Run 222 28 ls st ws else ai_Run 222 31 ls st ws := R_if_ne hc_222 dX11_tellsMotive_25 rfl rfl
theorem r_222_28 (ls st : List Value) (ws : ai_W) : ai_Run 222 28 ls st ws = ai_Run 222 30 ls (.int (-2) :: st) ws := R_bipush hc_222 dX11_tellsMotive_28 (by decide) rfl
theorem r_222_30 (ls : List Value) (x : Int32) (ws : ai_W) : ai_Run 222 30 ls [.int x] ws = some (some (.int x), ws) := R_iret hc_222 dX11_tellsMotive_30 ht_222
theorem r_222_31 (l1 l2 l3 l4 : Value) (a : Nat) (st : List Value) (ws : ai_W) : ai_Run 222 31 [.ref a, l1, l2, l3, l4] st ws = ai_Run 222 32 [.ref a, l1, l2, l3, l4] (.ref a :: st) ws := R_aload_n hc_222 dX11_tellsMotive_31 rfl rfl
theorem r_222_32 (l0 l2 l3 l4 : Value) (a : Int32) (st : List Value) (ws : ai_W) : ai_Run 222 32 [l0, .int a, l2, l3, l4] st ws = ai_Run 222 33 [l0, .int a, l2, l3, l4] (.int a :: st) ws := R_iload_n hc_222 dX11_tellsMotive_32 rfl rfl
theorem r_222_33 (l0 l1 l3 l4 : Value) (a : Int32) (st : List Value) (ws : ai_W) : ai_Run 222 33 [l0, l1, .int a, l3, l4] st ws = ai_Run 222 34 [l0, l1, .int a, l3, l4] (.int a :: st) ws := R_iload_n hc_222 dX11_tellsMotive_33 rfl rfl
theorem r_222_34 (ls : List Value) (r : Nat) (b0 : Int32) (b1 : Int32) (ws : ai_W) : ai_Run 222 34 ls [.int b1, .int b0, .ref r] ws = (ai_Call 194 [.ref r, .int b0, .int b1] ws).bind fun q => ai_Run 222 37 ls (q.1.toList ++ []) q.2 := R_callV hc_222 dX11_tellsMotive_34 hv_222 (w := 1205) rfl (Nat.le_of_ble_eq_true rfl) hk_194 (by rw [hn_194]; rfl) rfl (Nat.le_of_ble_eq_true rfl) rfl
theorem r_222_37 (l0 l1 l2 l3 l4 : Value) (a : Int32) (st : List Value) (ws : ai_W) : ai_Run 222 37 [l0, l1, l2, l3, l4] (.int a :: st) ws = ai_Run 222 39 [l0, l1, l2, l3, .int a] st ws := R_istore hc_222 dX11_tellsMotive_37 (Nat.le_of_ble_eq_true rfl) rfl rfl
theorem r_222_39 (l1 l2 l3 l4 : Value) (a : Nat) (st : List Value) (ws : ai_W) : ai_Run 222 39 [.ref a, l1, l2, l3, l4] st ws = ai_Run 222 40 [.ref a, l1, l2, l3, l4] (.ref a :: st) ws := R_aload_n hc_222 dX11_tellsMotive_39 rfl rfl
theorem r_222_40 (l0 l2 l3 l4 : Value) (a : Int32) (st : List Value) (ws : ai_W) : ai_Run 222 40 [l0, .int a, l2, l3, l4] st ws = ai_Run 222 41 [l0, .int a, l2, l3, l4] (.int a :: st) ws := R_iload_n hc_222 dX11_tellsMotive_40 rfl rfl
theorem r_222_41 (l0 l1 l3 l4 : Value) (a : Int32) (st : List Value) (ws : ai_W) : ai_Run 222 41 [l0, l1, .int a, l3, l4] st ws = ai_Run 222 42 [l0, l1, .int a, l3, l4] (.int a :: st) ws := R_iload_n hc_222 dX11_tellsMotive_41 rfl rfl
theorem r_222_42 (ls st : List Value) (a b : Int32) (ws : ai_W) : ai_Run 222 42 ls (.int b :: .int a :: st) ws = if a = b then ai_Run 222 45 ls st ws else ai_Run 222 49 ls st ws := R_cmp_ne hc_222 dX11_tellsMotive_42 rfl rfl
theorem r_222_45 (ls st : List Value) (ws : ai_W) : ai_Run 222 45 ls st ws = ai_Run 222 46 ls (.int 1 :: st) ws := R_iconst hc_222 dX11_tellsMotive_45 (by decide) rfl
theorem r_222_46 (ls st : List Value) (ws : ai_W) : ai_Run 222 46 ls st ws = ai_Run 222 50 ls st ws := R_goto hc_222 dX11_tellsMotive_46 rfl
theorem r_222_49 (ls st : List Value) (ws : ai_W) : ai_Run 222 49 ls st ws = ai_Run 222 50 ls (.int 0 :: st) ws := R_iconst hc_222 dX11_tellsMotive_49 (by decide) rfl
theorem r_222_50 (ls st : List Value) (ws : ai_W) : ai_Run 222 50 ls st ws = ai_Run 222 52 ls (.int 6 :: st) ws := R_bipush hc_222 dX11_tellsMotive_50 (by decide) rfl
theorem r_222_52 (l0 l2 l3 l4 : Value) (a : Int32) (st : List Value) (ws : ai_W) : ai_Run 222 52 [l0, .int a, l2, l3, l4] st ws = ai_Run 222 53 [l0, .int a, l2, l3, l4] (.int a :: st) ws := R_iload_n hc_222 dX11_tellsMotive_52 rfl rfl
theorem r_222_53 (ls : List Value) (r : Nat) (b0 : Int32) (b1 : Int32) (b2 : Int32) (ws : ai_W) : ai_Run 222 53 ls [.int b2, .int b1, .int b0, .ref r] ws = (ai_Call 183 [.ref r, .int b0, .int b1, .int b2] ws).bind fun q => ai_Run 222 56 ls (q.1.toList ++ []) q.2 := R_callV hc_222 dX11_tellsMotive_53 hv_222 (w := 1088) rfl (Nat.le_of_ble_eq_true rfl) hk_183 (by rw [hn_183]; rfl) rfl (Nat.le_of_ble_eq_true rfl) rfl
theorem r_222_56 (ls st : List Value) (a : Int32) (ws : ai_W) : ai_Run 222 56 ls (.int a :: st) ws = if a = 0 then ai_Run 222 59 ls st ws else ai_Run 222 79 ls st ws := R_if_ne hc_222 dX11_tellsMotive_56 rfl rfl
theorem r_222_59 (l1 l2 l3 l4 : Value) (a : Nat) (st : List Value) (ws : ai_W) : ai_Run 222 59 [.ref a, l1, l2, l3, l4] st ws = ai_Run 222 60 [.ref a, l1, l2, l3, l4] (.ref a :: st) ws := R_aload_n hc_222 dX11_tellsMotive_59 rfl rfl
theorem r_222_60 (l0 l1 l2 l3 : Value) (a : Int32) (st : List Value) (ws : ai_W) : ai_Run 222 60 [l0, l1, l2, l3, .int a] st ws = ai_Run 222 62 [l0, l1, l2, l3, .int a] (.int a :: st) ws := R_iload hc_222 dX11_tellsMotive_60 rfl rfl
theorem r_222_62 (l0 l1 l2 l4 : Value) (a : Int32) (st : List Value) (ws : ai_W) : ai_Run 222 62 [l0, l1, l2, .int a, l4] st ws = ai_Run 222 63 [l0, l1, l2, .int a, l4] (.int a :: st) ws := R_iload_n hc_222 dX11_tellsMotive_62 rfl rfl
theorem r_222_63 (ls st : List Value) (a b : Int32) (ws : ai_W) : ai_Run 222 63 ls (.int b :: .int a :: st) ws = if a = b then ai_Run 222 66 ls st ws else ai_Run 222 70 ls st ws := R_cmp_ne hc_222 dX11_tellsMotive_63 rfl rfl
theorem r_222_66 (ls st : List Value) (ws : ai_W) : ai_Run 222 66 ls st ws = ai_Run 222 67 ls (.int 1 :: st) ws := R_iconst hc_222 dX11_tellsMotive_66 (by decide) rfl
theorem r_222_67 (ls st : List Value) (ws : ai_W) : ai_Run 222 67 ls st ws = ai_Run 222 71 ls st ws := R_goto hc_222 dX11_tellsMotive_67 rfl
theorem r_222_70 (ls st : List Value) (ws : ai_W) : ai_Run 222 70 ls st ws = ai_Run 222 71 ls (.int 0 :: st) ws := R_iconst hc_222 dX11_tellsMotive_70 (by decide) rfl
theorem r_222_71 (ls st : List Value) (ws : ai_W) : ai_Run 222 71 ls st ws = ai_Run 222 72 ls (.int 5 :: st) ws := R_iconst hc_222 dX11_tellsMotive_71 (by decide) rfl
theorem r_222_72 (l0 l1 l2 l4 : Value) (a : Int32) (st : List Value) (ws : ai_W) : ai_Run 222 72 [l0, l1, l2, .int a, l4] st ws = ai_Run 222 73 [l0, l1, l2, .int a, l4] (.int a :: st) ws := R_iload_n hc_222 dX11_tellsMotive_72 rfl rfl
theorem r_222_73 (ls : List Value) (r : Nat) (b0 : Int32) (b1 : Int32) (b2 : Int32) (ws : ai_W) : ai_Run 222 73 ls [.int b2, .int b1, .int b0, .ref r] ws = (ai_Call 183 [.ref r, .int b0, .int b1, .int b2] ws).bind fun q => ai_Run 222 76 ls (q.1.toList ++ []) q.2 := R_callV hc_222 dX11_tellsMotive_73 hv_222 (w := 1088) rfl (Nat.le_of_ble_eq_true rfl) hk_183 (by rw [hn_183]; rfl) rfl (Nat.le_of_ble_eq_true rfl) rfl
theorem r_222_76 (ls st : List Value) (a : Int32) (ws : ai_W) : ai_Run 222 76 ls (.int a :: st) ws = if a = 0 then ai_Run 222 82 ls st ws else ai_Run 222 79 ls st ws := R_if_eq hc_222 dX11_tellsMotive_76 rfl rfl
theorem r_222_79 (ls st : List Value) (ws : ai_W) : ai_Run 222 79 ls st ws = ai_Run 222 81 ls (.int (-3) :: st) ws := R_bipush hc_222 dX11_tellsMotive_79 (by decide) rfl
theorem r_222_81 (ls : List Value) (x : Int32) (ws : ai_W) : ai_Run 222 81 ls [.int x] ws = some (some (.int x), ws) := R_iret hc_222 dX11_tellsMotive_81 ht_222
theorem r_222_82 (l1 l2 l3 l4 : Value) (a : Nat) (st : List Value) (ws : ai_W) : ai_Run 222 82 [.ref a, l1, l2, l3, l4] st ws = ai_Run 222 83 [.ref a, l1, l2, l3, l4] (.ref a :: st) ws := R_aload_n hc_222 dX11_tellsMotive_82 rfl rfl
theorem r_222_83 (ls st : List Value) (a : Nat) (ws : ai_W) : ai_Run 222 83 ls (.ref a :: st) ws = (ai_fget ws a 11 0).bind fun q => ai_Run 222 86 ls (q :: st) ws := R_getf hc_222 dX11_tellsMotive_83 hv_222 (w := 1024) rfl rfl
theorem r_222_86 (ls st : List Value) (ws : ai_W) : ai_Run 222 86 ls st ws = ai_Run 222 88 ls (.int 45 :: st) ws := R_bipush hc_222 dX11_tellsMotive_86 (by decide) rfl
theorem r_222_88 (ls st : List Value) (ws : ai_W) : ai_Run 222 88 ls st ws = ai_Run 222 90 ls (.int 8 :: st) ws := R_bipush hc_222 dX11_tellsMotive_88 (by decide) rfl
theorem r_222_90 (l0 l2 l3 l4 : Value) (a : Int32) (st : List Value) (ws : ai_W) : ai_Run 222 90 [l0, .int a, l2, l3, l4] st ws = ai_Run 222 91 [l0, .int a, l2, l3, l4] (.int a :: st) ws := R_iload_n hc_222 dX11_tellsMotive_90 rfl rfl
theorem r_222_91 (ls st : List Value) (a b : Int32) (ws : ai_W) : ai_Run 222 91 ls (.int b :: .int a :: st) ws = ai_Run 222 92 ls (.int (a * b) :: st) ws := R_imul hc_222 dX11_tellsMotive_91 rfl
theorem r_222_92 (ls st : List Value) (a b : Int32) (ws : ai_W) : ai_Run 222 92 ls (.int b :: .int a :: st) ws = ai_Run 222 93 ls (.int (a + b) :: st) ws := R_iadd hc_222 dX11_tellsMotive_92 rfl
theorem r_222_93 (l0 l1 l3 l4 : Value) (a : Int32) (st : List Value) (ws : ai_W) : ai_Run 222 93 [l0, l1, .int a, l3, l4] st ws = ai_Run 222 94 [l0, l1, .int a, l3, l4] (.int a :: st) ws := R_iload_n hc_222 dX11_tellsMotive_93 rfl rfl
theorem r_222_94 (ls st : List Value) (a b : Int32) (ws : ai_W) : ai_Run 222 94 ls (.int b :: .int a :: st) ws = ai_Run 222 95 ls (.int (a + b) :: st) ws := R_iadd hc_222 dX11_tellsMotive_94 rfl
theorem r_222_95 (l0 l1 l2 l4 : Value) (a : Int32) (st : List Value) (ws : ai_W) : ai_Run 222 95 [l0, l1, l2, .int a, l4] st ws = ai_Run 222 96 [l0, l1, l2, .int a, l4] (.int a :: st) ws := R_iload_n hc_222 dX11_tellsMotive_95 rfl rfl
theorem r_222_96 (ls st : List Value) (a : Nat) (i x : Int32) (ws : ai_W) : ai_Run 222 96 ls (.int x :: .int i :: .ref a :: st) ws = (ai_aset ws a i x).bind fun ws => ai_Run 222 97 ls st ws := R_iastore hc_222 dX11_tellsMotive_96 rfl
theorem r_222_97 (l0 l1 l2 l3 : Value) (a : Int32) (st : List Value) (ws : ai_W) : ai_Run 222 97 [l0, l1, l2, l3, .int a] st ws = ai_Run 222 99 [l0, l1, l2, l3, .int a] (.int a :: st) ws := R_iload hc_222 dX11_tellsMotive_97 rfl rfl
theorem r_222_99 (ls : List Value) (x : Int32) (ws : ai_W) : ai_Run 222 99 ls [.int x] ws = some (some (.int x), ws) := R_iret hc_222 dX11_tellsMotive_99 ht_222
theorem dX11_isSeat_0 : decode cX11_isSeat 0 = .ok (.iload_n 0, 1) := by decide +kernel
theorem dX11_isSeat_1 : decode cX11_isSeat 1 = .ok (.iconst 0, 1) := by decide +kernel
theorem dX11_isSeat_2 : decode cX11_isSeat 2 = .ok (.bipush 6, 2) := by decide +kernel
theorem dX11_isSeat_4 : decode cX11_isSeat 4 = .ok (.invokestatic 55, 3) := by decide +kernel
theorem dX11_isSeat_7 : decode cX11_isSeat 7 = .ok (.ireturn, 1) := by decide +kernel
theorem e_223 (a0 : Int32) (ws : ai_W) : ai_Call 223 [.int a0] ws = ai_Run 223 0 [.int a0] [] ws := R_entS hk_223 ⟨⟨rfl, rfl⟩, Nat.le_of_ble_eq_true rfl⟩ rfl
theorem r_223_0 (a : Int32) (st : List Value) (ws : ai_W) : ai_Run 223 0 [.int a] st ws = ai_Run 223 1 [.int a] (.int a :: st) ws := R_iload_n hc_223 dX11_isSeat_0 rfl rfl
theorem r_223_1 (ls st : List Value) (ws : ai_W) : ai_Run 223 1 ls st ws = ai_Run 223 2 ls (.int 0 :: st) ws := R_iconst hc_223 dX11_isSeat_1 (by decide) rfl
theorem r_223_2 (ls st : List Value) (ws : ai_W) : ai_Run 223 2 ls st ws = ai_Run 223 4 ls (.int 6 :: st) ws := R_bipush hc_223 dX11_isSeat_2 (by decide) rfl
theorem r_223_4 (ls : List Value) (b0 : Int32) (b1 : Int32) (b2 : Int32) (ws : ai_W) : ai_Run 223 4 ls [.int b2, .int b1, .int b0] ws = (ai_Call 179 [.int b0, .int b1, .int b2] ws).bind fun q => ai_Run 223 7 ls (q.1.toList ++ []) q.2 := R_callS hc_223 dX11_isSeat_4 hv_223 (w := 1127) rfl (Nat.le_of_ble_eq_true rfl) hk_179 (by rw [hn_179]; rfl) rfl (Nat.le_of_ble_eq_true rfl) rfl
theorem r_223_7 (ls : List Value) (x : Int32) (ws : ai_W) : ai_Run 223 7 ls [.int x] ws = if ai_pb x = true then some (some (.int x), ws) else none := R_zret hc_223 dX11_isSeat_7 ht_223
theorem dX11_lets_0 : decode cX11_lets 0 = .ok (.iload_n 1, 1) := by decide +kernel
theorem dX11_lets_1 : decode cX11_lets 1 = .ok (.invokestatic 136, 3) := by decide +kernel
theorem dX11_lets_4 : decode cX11_lets 4 = .ok (.ifCond .ne 5, 3) := by decide +kernel
theorem dX11_lets_7 : decode cX11_lets 7 = .ok (.iconst (-1), 1) := by decide +kernel
theorem dX11_lets_8 : decode cX11_lets 8 = .ok (.ireturn, 1) := by decide +kernel
theorem dX11_lets_9 : decode cX11_lets 9 = .ok (.aload_n 0, 1) := by decide +kernel
theorem dX11_lets_10 : decode cX11_lets 10 = .ok (.aload_n 0, 1) := by decide +kernel
theorem dX11_lets_11 : decode cX11_lets 11 = .ok (.getfield 9, 3) := by decide +kernel
theorem dX11_lets_14 : decode cX11_lets 14 = .ok (.bipush 38, 2) := by decide +kernel
theorem dX11_lets_16 : decode cX11_lets 16 = .ok (.iload_n 1, 1) := by decide +kernel
theorem dX11_lets_17 : decode cX11_lets 17 = .ok (.iadd, 1) := by decide +kernel
theorem dX11_lets_18 : decode cX11_lets 18 = .ok (.iaload, 1) := by decide +kernel
theorem dX11_lets_19 : decode cX11_lets 19 = .ok (.ifCond .ne 7, 3) := by decide +kernel
theorem dX11_lets_22 : decode cX11_lets 22 = .ok (.iconst 1, 1) := by decide +kernel
theorem dX11_lets_23 : decode cX11_lets 23 = .ok (.goto 4, 3) := by decide +kernel
theorem dX11_lets_26 : decode cX11_lets 26 = .ok (.iconst 0, 1) := by decide +kernel
theorem dX11_lets_27 : decode cX11_lets 27 = .ok (.bipush 7, 2) := by decide +kernel
theorem dX11_lets_29 : decode cX11_lets 29 = .ok (.iload_n 1, 1) := by decide +kernel
theorem dX11_lets_30 : decode cX11_lets 30 = .ok (.invokevirtual 70, 3) := by decide +kernel
theorem dX11_lets_33 : decode cX11_lets 33 = .ok (.ifCond .eq 6, 3) := by decide +kernel
theorem dX11_lets_36 : decode cX11_lets 36 = .ok (.bipush (-3), 2) := by decide +kernel
theorem dX11_lets_38 : decode cX11_lets 38 = .ok (.ireturn, 1) := by decide +kernel
theorem dX11_lets_39 : decode cX11_lets 39 = .ok (.aload_n 0, 1) := by decide +kernel
theorem dX11_lets_40 : decode cX11_lets 40 = .ok (.getfield 9, 3) := by decide +kernel
theorem dX11_lets_43 : decode cX11_lets 43 = .ok (.bipush 38, 2) := by decide +kernel
theorem dX11_lets_45 : decode cX11_lets 45 = .ok (.iload_n 1, 1) := by decide +kernel
theorem dX11_lets_46 : decode cX11_lets 46 = .ok (.iadd, 1) := by decide +kernel
theorem dX11_lets_47 : decode cX11_lets 47 = .ok (.iconst 0, 1) := by decide +kernel
theorem dX11_lets_48 : decode cX11_lets 48 = .ok (.iastore, 1) := by decide +kernel
theorem dX11_lets_49 : decode cX11_lets 49 = .ok (.aload_n 0, 1) := by decide +kernel
theorem dX11_lets_50 : decode cX11_lets 50 = .ok (.invokevirtual 139, 3) := by decide +kernel
theorem dX11_lets_53 : decode cX11_lets 53 = .ok (.ireturn, 1) := by decide +kernel
theorem e_224 (r : Nat) (a0 : Int32) (ws : ai_W) : ai_Call 224 [.ref r, .int a0] ws = if ai_isob ws r 11 = true then ai_Run 224 0 [.ref r, .int a0] [] ws else none := R_entV hk_224 ⟨⟨rfl, rfl⟩, Nat.le_of_ble_eq_true rfl⟩ rfl
theorem r_224_0 (l0 : Value) (a : Int32) (st : List Value) (ws : ai_W) : ai_Run 224 0 [l0, .int a] st ws = ai_Run 224 1 [l0, .int a] (.int a :: st) ws := R_iload_n hc_224 dX11_lets_0 rfl rfl
theorem r_224_1 (ls : List Value) (b0 : Int32) (ws : ai_W) : ai_Run 224 1 ls [.int b0] ws = (ai_Call 223 [.int b0] ws).bind fun q => ai_Run 224 4 ls (q.1.toList ++ []) q.2 := R_callS hc_224 dX11_lets_1 hv_224 (w := 1217) rfl (Nat.le_of_ble_eq_true rfl) hk_223 (by rw [hn_223]; rfl) rfl (Nat.le_of_ble_eq_true rfl) rfl
theorem r_224_4 (ls st : List Value) (a : Int32) (ws : ai_W) : ai_Run 224 4 ls (.int a :: st) ws = if a = 0 then ai_Run 224 7 ls st ws else ai_Run 224 9 ls st ws := R_if_ne hc_224 dX11_lets_4 rfl rfl
theorem r_224_7 (ls st : List Value) (ws : ai_W) : ai_Run 224 7 ls st ws = ai_Run 224 8 ls (.int (-1) :: st) ws := R_iconst hc_224 dX11_lets_7 (by decide) rfl
theorem r_224_8 (ls : List Value) (x : Int32) (ws : ai_W) : ai_Run 224 8 ls [.int x] ws = some (some (.int x), ws) := R_iret hc_224 dX11_lets_8 ht_224
theorem r_224_9 (l1 : Value) (a : Nat) (st : List Value) (ws : ai_W) : ai_Run 224 9 [.ref a, l1] st ws = ai_Run 224 10 [.ref a, l1] (.ref a :: st) ws := R_aload_n hc_224 dX11_lets_9 rfl rfl
theorem r_224_10 (l1 : Value) (a : Nat) (st : List Value) (ws : ai_W) : ai_Run 224 10 [.ref a, l1] st ws = ai_Run 224 11 [.ref a, l1] (.ref a :: st) ws := R_aload_n hc_224 dX11_lets_10 rfl rfl
theorem r_224_11 (ls st : List Value) (a : Nat) (ws : ai_W) : ai_Run 224 11 ls (.ref a :: st) ws = (ai_fget ws a 11 0).bind fun q => ai_Run 224 14 ls (q :: st) ws := R_getf hc_224 dX11_lets_11 hv_224 (w := 1024) rfl rfl
theorem r_224_14 (ls st : List Value) (ws : ai_W) : ai_Run 224 14 ls st ws = ai_Run 224 16 ls (.int 38 :: st) ws := R_bipush hc_224 dX11_lets_14 (by decide) rfl
theorem r_224_16 (l0 : Value) (a : Int32) (st : List Value) (ws : ai_W) : ai_Run 224 16 [l0, .int a] st ws = ai_Run 224 17 [l0, .int a] (.int a :: st) ws := R_iload_n hc_224 dX11_lets_16 rfl rfl
theorem r_224_17 (ls st : List Value) (a b : Int32) (ws : ai_W) : ai_Run 224 17 ls (.int b :: .int a :: st) ws = ai_Run 224 18 ls (.int (a + b) :: st) ws := R_iadd hc_224 dX11_lets_17 rfl
theorem r_224_18 (ls st : List Value) (a : Nat) (i : Int32) (ws : ai_W) : ai_Run 224 18 ls (.int i :: .ref a :: st) ws = (ai_aget ws a i).bind fun q => ai_Run 224 19 ls (.int q :: st) ws := R_iaload hc_224 dX11_lets_18 rfl
theorem r_224_19 (ls st : List Value) (a : Int32) (ws : ai_W) : ai_Run 224 19 ls (.int a :: st) ws = if a = 0 then ai_Run 224 22 ls st ws else ai_Run 224 26 ls st ws := R_if_ne hc_224 dX11_lets_19 rfl rfl
theorem r_224_22 (ls st : List Value) (ws : ai_W) : ai_Run 224 22 ls st ws = ai_Run 224 23 ls (.int 1 :: st) ws := R_iconst hc_224 dX11_lets_22 (by decide) rfl
theorem r_224_23 (ls st : List Value) (ws : ai_W) : ai_Run 224 23 ls st ws = ai_Run 224 27 ls st ws := R_goto hc_224 dX11_lets_23 rfl
theorem r_224_26 (ls st : List Value) (ws : ai_W) : ai_Run 224 26 ls st ws = ai_Run 224 27 ls (.int 0 :: st) ws := R_iconst hc_224 dX11_lets_26 (by decide) rfl
theorem r_224_27 (ls st : List Value) (ws : ai_W) : ai_Run 224 27 ls st ws = ai_Run 224 29 ls (.int 7 :: st) ws := R_bipush hc_224 dX11_lets_27 (by decide) rfl
theorem r_224_29 (l0 : Value) (a : Int32) (st : List Value) (ws : ai_W) : ai_Run 224 29 [l0, .int a] st ws = ai_Run 224 30 [l0, .int a] (.int a :: st) ws := R_iload_n hc_224 dX11_lets_29 rfl rfl
theorem r_224_30 (ls : List Value) (r : Nat) (b0 : Int32) (b1 : Int32) (b2 : Int32) (ws : ai_W) : ai_Run 224 30 ls [.int b2, .int b1, .int b0, .ref r] ws = (ai_Call 183 [.ref r, .int b0, .int b1, .int b2] ws).bind fun q => ai_Run 224 33 ls (q.1.toList ++ []) q.2 := R_callV hc_224 dX11_lets_30 hv_224 (w := 1088) rfl (Nat.le_of_ble_eq_true rfl) hk_183 (by rw [hn_183]; rfl) rfl (Nat.le_of_ble_eq_true rfl) rfl
theorem r_224_33 (ls st : List Value) (a : Int32) (ws : ai_W) : ai_Run 224 33 ls (.int a :: st) ws = if a = 0 then ai_Run 224 39 ls st ws else ai_Run 224 36 ls st ws := R_if_eq hc_224 dX11_lets_33 rfl rfl
theorem r_224_36 (ls st : List Value) (ws : ai_W) : ai_Run 224 36 ls st ws = ai_Run 224 38 ls (.int (-3) :: st) ws := R_bipush hc_224 dX11_lets_36 (by decide) rfl
theorem r_224_38 (ls : List Value) (x : Int32) (ws : ai_W) : ai_Run 224 38 ls [.int x] ws = some (some (.int x), ws) := R_iret hc_224 dX11_lets_38 ht_224
theorem r_224_39 (l1 : Value) (a : Nat) (st : List Value) (ws : ai_W) : ai_Run 224 39 [.ref a, l1] st ws = ai_Run 224 40 [.ref a, l1] (.ref a :: st) ws := R_aload_n hc_224 dX11_lets_39 rfl rfl
theorem r_224_40 (ls st : List Value) (a : Nat) (ws : ai_W) : ai_Run 224 40 ls (.ref a :: st) ws = (ai_fget ws a 11 0).bind fun q => ai_Run 224 43 ls (q :: st) ws := R_getf hc_224 dX11_lets_40 hv_224 (w := 1024) rfl rfl
theorem r_224_43 (ls st : List Value) (ws : ai_W) : ai_Run 224 43 ls st ws = ai_Run 224 45 ls (.int 38 :: st) ws := R_bipush hc_224 dX11_lets_43 (by decide) rfl
theorem r_224_45 (l0 : Value) (a : Int32) (st : List Value) (ws : ai_W) : ai_Run 224 45 [l0, .int a] st ws = ai_Run 224 46 [l0, .int a] (.int a :: st) ws := R_iload_n hc_224 dX11_lets_45 rfl rfl
theorem r_224_46 (ls st : List Value) (a b : Int32) (ws : ai_W) : ai_Run 224 46 ls (.int b :: .int a :: st) ws = ai_Run 224 47 ls (.int (a + b) :: st) ws := R_iadd hc_224 dX11_lets_46 rfl
theorem r_224_47 (ls st : List Value) (ws : ai_W) : ai_Run 224 47 ls st ws = ai_Run 224 48 ls (.int 0 :: st) ws := R_iconst hc_224 dX11_lets_47 (by decide) rfl
theorem r_224_48 (ls st : List Value) (a : Nat) (i x : Int32) (ws : ai_W) : ai_Run 224 48 ls (.int x :: .int i :: .ref a :: st) ws = (ai_aset ws a i x).bind fun ws => ai_Run 224 49 ls st ws := R_iastore hc_224 dX11_lets_48 rfl
theorem r_224_49 (l1 : Value) (a : Nat) (st : List Value) (ws : ai_W) : ai_Run 224 49 [.ref a, l1] st ws = ai_Run 224 50 [.ref a, l1] (.ref a :: st) ws := R_aload_n hc_224 dX11_lets_49 rfl rfl
theorem r_224_50 (ls : List Value) (r : Nat) (ws : ai_W) : ai_Run 224 50 ls [.ref r] ws = (ai_Call 173 [.ref r] ws).bind fun q => ai_Run 224 53 ls (q.1.toList ++ []) q.2 := R_callV hc_224 dX11_lets_50 hv_224 (w := 1220) rfl (Nat.le_of_ble_eq_true rfl) hk_173 (by rw [hn_173]; rfl) rfl (Nat.le_of_ble_eq_true rfl) rfl
theorem r_224_53 (ls : List Value) (x : Int32) (ws : ai_W) : ai_Run 224 53 ls [.int x] ws = some (some (.int x), ws) := R_iret hc_224 dX11_lets_53 ht_224
theorem dX11_seats_0 : decode cX11_seats 0 = .ok (.iload_n 1, 1) := by decide +kernel
theorem dX11_seats_1 : decode cX11_seats 1 = .ok (.invokestatic 136, 3) := by decide +kernel
theorem dX11_seats_4 : decode cX11_seats 4 = .ok (.ifCond .ne 5, 3) := by decide +kernel
theorem dX11_seats_7 : decode cX11_seats 7 = .ok (.iconst (-1), 1) := by decide +kernel
theorem dX11_seats_8 : decode cX11_seats 8 = .ok (.ireturn, 1) := by decide +kernel
theorem dX11_seats_9 : decode cX11_seats 9 = .ok (.iload_n 2, 1) := by decide +kernel
theorem dX11_seats_10 : decode cX11_seats 10 = .ok (.iconst 1, 1) := by decide +kernel
theorem dX11_seats_11 : decode cX11_seats 11 = .ok (.bipush 9, 2) := by decide +kernel
theorem dX11_seats_13 : decode cX11_seats 13 = .ok (.invokestatic 55, 3) := by decide +kernel
theorem dX11_seats_16 : decode cX11_seats 16 = .ok (.ifCond .ne 6, 3) := by decide +kernel
theorem dX11_seats_19 : decode cX11_seats 19 = .ok (.bipush (-2), 2) := by decide +kernel
theorem dX11_seats_21 : decode cX11_seats 21 = .ok (.ireturn, 1) := by decide +kernel
theorem dX11_seats_22 : decode cX11_seats 22 = .ok (.aload_n 0, 1) := by decide +kernel
theorem dX11_seats_23 : decode cX11_seats 23 = .ok (.aload_n 0, 1) := by decide +kernel
theorem dX11_seats_24 : decode cX11_seats 24 = .ok (.getfield 9, 3) := by decide +kernel
theorem dX11_seats_27 : decode cX11_seats 27 = .ok (.bipush 38, 2) := by decide +kernel
theorem dX11_seats_29 : decode cX11_seats 29 = .ok (.iload_n 1, 1) := by decide +kernel
theorem dX11_seats_30 : decode cX11_seats 30 = .ok (.iadd, 1) := by decide +kernel
theorem dX11_seats_31 : decode cX11_seats 31 = .ok (.iaload, 1) := by decide +kernel
theorem dX11_seats_32 : decode cX11_seats 32 = .ok (.ifCond .le 7, 3) := by decide +kernel
theorem dX11_seats_35 : decode cX11_seats 35 = .ok (.iconst 1, 1) := by decide +kernel
theorem dX11_seats_36 : decode cX11_seats 36 = .ok (.goto 4, 3) := by decide +kernel
theorem dX11_seats_39 : decode cX11_seats 39 = .ok (.iconst 0, 1) := by decide +kernel
theorem dX11_seats_40 : decode cX11_seats 40 = .ok (.bipush 7, 2) := by decide +kernel
theorem dX11_seats_42 : decode cX11_seats 42 = .ok (.iload_n 1, 1) := by decide +kernel
theorem dX11_seats_43 : decode cX11_seats 43 = .ok (.invokevirtual 70, 3) := by decide +kernel
theorem dX11_seats_46 : decode cX11_seats 46 = .ok (.ifCond .eq 6, 3) := by decide +kernel
theorem dX11_seats_49 : decode cX11_seats 49 = .ok (.bipush (-3), 2) := by decide +kernel
theorem dX11_seats_51 : decode cX11_seats 51 = .ok (.ireturn, 1) := by decide +kernel
theorem dX11_seats_52 : decode cX11_seats 52 = .ok (.aload_n 0, 1) := by decide +kernel
theorem dX11_seats_53 : decode cX11_seats 53 = .ok (.getfield 9, 3) := by decide +kernel
theorem dX11_seats_56 : decode cX11_seats 56 = .ok (.bipush 38, 2) := by decide +kernel
theorem dX11_seats_58 : decode cX11_seats 58 = .ok (.iload_n 1, 1) := by decide +kernel
theorem dX11_seats_59 : decode cX11_seats 59 = .ok (.iadd, 1) := by decide +kernel
theorem dX11_seats_60 : decode cX11_seats 60 = .ok (.iload_n 2, 1) := by decide +kernel
theorem dX11_seats_61 : decode cX11_seats 61 = .ok (.iastore, 1) := by decide +kernel
theorem dX11_seats_62 : decode cX11_seats 62 = .ok (.aload_n 0, 1) := by decide +kernel
theorem dX11_seats_63 : decode cX11_seats 63 = .ok (.invokevirtual 139, 3) := by decide +kernel
theorem dX11_seats_66 : decode cX11_seats 66 = .ok (.ireturn, 1) := by decide +kernel
theorem e_225 (r : Nat) (a0 : Int32) (a1 : Int32) (ws : ai_W) : ai_Call 225 [.ref r, .int a0, .int a1] ws = if ai_isob ws r 11 = true then ai_Run 225 0 [.ref r, .int a0, .int a1] [] ws else none := R_entV hk_225 ⟨⟨rfl, rfl⟩, Nat.le_of_ble_eq_true rfl⟩ rfl
theorem r_225_0 (l0 l2 : Value) (a : Int32) (st : List Value) (ws : ai_W) : ai_Run 225 0 [l0, .int a, l2] st ws = ai_Run 225 1 [l0, .int a, l2] (.int a :: st) ws := R_iload_n hc_225 dX11_seats_0 rfl rfl
theorem r_225_1 (ls : List Value) (b0 : Int32) (ws : ai_W) : ai_Run 225 1 ls [.int b0] ws = (ai_Call 223 [.int b0] ws).bind fun q => ai_Run 225 4 ls (q.1.toList ++ []) q.2 := R_callS hc_225 dX11_seats_1 hv_225 (w := 1217) rfl (Nat.le_of_ble_eq_true rfl) hk_223 (by rw [hn_223]; rfl) rfl (Nat.le_of_ble_eq_true rfl) rfl
theorem r_225_4 (ls st : List Value) (a : Int32) (ws : ai_W) : ai_Run 225 4 ls (.int a :: st) ws = if a = 0 then ai_Run 225 7 ls st ws else ai_Run 225 9 ls st ws := R_if_ne hc_225 dX11_seats_4 rfl rfl
theorem r_225_7 (ls st : List Value) (ws : ai_W) : ai_Run 225 7 ls st ws = ai_Run 225 8 ls (.int (-1) :: st) ws := R_iconst hc_225 dX11_seats_7 (by decide) rfl
theorem r_225_8 (ls : List Value) (x : Int32) (ws : ai_W) : ai_Run 225 8 ls [.int x] ws = some (some (.int x), ws) := R_iret hc_225 dX11_seats_8 ht_225
theorem r_225_9 (l0 l1 : Value) (a : Int32) (st : List Value) (ws : ai_W) : ai_Run 225 9 [l0, l1, .int a] st ws = ai_Run 225 10 [l0, l1, .int a] (.int a :: st) ws := R_iload_n hc_225 dX11_seats_9 rfl rfl
theorem r_225_10 (ls st : List Value) (ws : ai_W) : ai_Run 225 10 ls st ws = ai_Run 225 11 ls (.int 1 :: st) ws := R_iconst hc_225 dX11_seats_10 (by decide) rfl
theorem r_225_11 (ls st : List Value) (ws : ai_W) : ai_Run 225 11 ls st ws = ai_Run 225 13 ls (.int 9 :: st) ws := R_bipush hc_225 dX11_seats_11 (by decide) rfl
theorem r_225_13 (ls : List Value) (b0 : Int32) (b1 : Int32) (b2 : Int32) (ws : ai_W) : ai_Run 225 13 ls [.int b2, .int b1, .int b0] ws = (ai_Call 179 [.int b0, .int b1, .int b2] ws).bind fun q => ai_Run 225 16 ls (q.1.toList ++ []) q.2 := R_callS hc_225 dX11_seats_13 hv_225 (w := 1127) rfl (Nat.le_of_ble_eq_true rfl) hk_179 (by rw [hn_179]; rfl) rfl (Nat.le_of_ble_eq_true rfl) rfl
theorem r_225_16 (ls st : List Value) (a : Int32) (ws : ai_W) : ai_Run 225 16 ls (.int a :: st) ws = if a = 0 then ai_Run 225 19 ls st ws else ai_Run 225 22 ls st ws := R_if_ne hc_225 dX11_seats_16 rfl rfl
theorem r_225_19 (ls st : List Value) (ws : ai_W) : ai_Run 225 19 ls st ws = ai_Run 225 21 ls (.int (-2) :: st) ws := R_bipush hc_225 dX11_seats_19 (by decide) rfl
theorem r_225_21 (ls : List Value) (x : Int32) (ws : ai_W) : ai_Run 225 21 ls [.int x] ws = some (some (.int x), ws) := R_iret hc_225 dX11_seats_21 ht_225
theorem r_225_22 (l1 l2 : Value) (a : Nat) (st : List Value) (ws : ai_W) : ai_Run 225 22 [.ref a, l1, l2] st ws = ai_Run 225 23 [.ref a, l1, l2] (.ref a :: st) ws := R_aload_n hc_225 dX11_seats_22 rfl rfl
theorem r_225_23 (l1 l2 : Value) (a : Nat) (st : List Value) (ws : ai_W) : ai_Run 225 23 [.ref a, l1, l2] st ws = ai_Run 225 24 [.ref a, l1, l2] (.ref a :: st) ws := R_aload_n hc_225 dX11_seats_23 rfl rfl
theorem r_225_24 (ls st : List Value) (a : Nat) (ws : ai_W) : ai_Run 225 24 ls (.ref a :: st) ws = (ai_fget ws a 11 0).bind fun q => ai_Run 225 27 ls (q :: st) ws := R_getf hc_225 dX11_seats_24 hv_225 (w := 1024) rfl rfl
theorem r_225_27 (ls st : List Value) (ws : ai_W) : ai_Run 225 27 ls st ws = ai_Run 225 29 ls (.int 38 :: st) ws := R_bipush hc_225 dX11_seats_27 (by decide) rfl
theorem r_225_29 (l0 l2 : Value) (a : Int32) (st : List Value) (ws : ai_W) : ai_Run 225 29 [l0, .int a, l2] st ws = ai_Run 225 30 [l0, .int a, l2] (.int a :: st) ws := R_iload_n hc_225 dX11_seats_29 rfl rfl
theorem r_225_30 (ls st : List Value) (a b : Int32) (ws : ai_W) : ai_Run 225 30 ls (.int b :: .int a :: st) ws = ai_Run 225 31 ls (.int (a + b) :: st) ws := R_iadd hc_225 dX11_seats_30 rfl
theorem r_225_31 (ls st : List Value) (a : Nat) (i : Int32) (ws : ai_W) : ai_Run 225 31 ls (.int i :: .ref a :: st) ws = (ai_aget ws a i).bind fun q => ai_Run 225 32 ls (.int q :: st) ws := R_iaload hc_225 dX11_seats_31 rfl
theorem r_225_32 (ls st : List Value) (a : Int32) (ws : ai_W) : ai_Run 225 32 ls (.int a :: st) ws = if 0 < a then ai_Run 225 35 ls st ws else ai_Run 225 39 ls st ws := R_if_le hc_225 dX11_seats_32 rfl rfl
theorem r_225_35 (ls st : List Value) (ws : ai_W) : ai_Run 225 35 ls st ws = ai_Run 225 36 ls (.int 1 :: st) ws := R_iconst hc_225 dX11_seats_35 (by decide) rfl
theorem r_225_36 (ls st : List Value) (ws : ai_W) : ai_Run 225 36 ls st ws = ai_Run 225 40 ls st ws := R_goto hc_225 dX11_seats_36 rfl
theorem r_225_39 (ls st : List Value) (ws : ai_W) : ai_Run 225 39 ls st ws = ai_Run 225 40 ls (.int 0 :: st) ws := R_iconst hc_225 dX11_seats_39 (by decide) rfl
theorem r_225_40 (ls st : List Value) (ws : ai_W) : ai_Run 225 40 ls st ws = ai_Run 225 42 ls (.int 7 :: st) ws := R_bipush hc_225 dX11_seats_40 (by decide) rfl
theorem r_225_42 (l0 l2 : Value) (a : Int32) (st : List Value) (ws : ai_W) : ai_Run 225 42 [l0, .int a, l2] st ws = ai_Run 225 43 [l0, .int a, l2] (.int a :: st) ws := R_iload_n hc_225 dX11_seats_42 rfl rfl
theorem r_225_43 (ls : List Value) (r : Nat) (b0 : Int32) (b1 : Int32) (b2 : Int32) (ws : ai_W) : ai_Run 225 43 ls [.int b2, .int b1, .int b0, .ref r] ws = (ai_Call 183 [.ref r, .int b0, .int b1, .int b2] ws).bind fun q => ai_Run 225 46 ls (q.1.toList ++ []) q.2 := R_callV hc_225 dX11_seats_43 hv_225 (w := 1088) rfl (Nat.le_of_ble_eq_true rfl) hk_183 (by rw [hn_183]; rfl) rfl (Nat.le_of_ble_eq_true rfl) rfl
theorem r_225_46 (ls st : List Value) (a : Int32) (ws : ai_W) : ai_Run 225 46 ls (.int a :: st) ws = if a = 0 then ai_Run 225 52 ls st ws else ai_Run 225 49 ls st ws := R_if_eq hc_225 dX11_seats_46 rfl rfl
theorem r_225_49 (ls st : List Value) (ws : ai_W) : ai_Run 225 49 ls st ws = ai_Run 225 51 ls (.int (-3) :: st) ws := R_bipush hc_225 dX11_seats_49 (by decide) rfl
theorem r_225_51 (ls : List Value) (x : Int32) (ws : ai_W) : ai_Run 225 51 ls [.int x] ws = some (some (.int x), ws) := R_iret hc_225 dX11_seats_51 ht_225
theorem r_225_52 (l1 l2 : Value) (a : Nat) (st : List Value) (ws : ai_W) : ai_Run 225 52 [.ref a, l1, l2] st ws = ai_Run 225 53 [.ref a, l1, l2] (.ref a :: st) ws := R_aload_n hc_225 dX11_seats_52 rfl rfl
theorem r_225_53 (ls st : List Value) (a : Nat) (ws : ai_W) : ai_Run 225 53 ls (.ref a :: st) ws = (ai_fget ws a 11 0).bind fun q => ai_Run 225 56 ls (q :: st) ws := R_getf hc_225 dX11_seats_53 hv_225 (w := 1024) rfl rfl
theorem r_225_56 (ls st : List Value) (ws : ai_W) : ai_Run 225 56 ls st ws = ai_Run 225 58 ls (.int 38 :: st) ws := R_bipush hc_225 dX11_seats_56 (by decide) rfl
theorem r_225_58 (l0 l2 : Value) (a : Int32) (st : List Value) (ws : ai_W) : ai_Run 225 58 [l0, .int a, l2] st ws = ai_Run 225 59 [l0, .int a, l2] (.int a :: st) ws := R_iload_n hc_225 dX11_seats_58 rfl rfl
theorem r_225_59 (ls st : List Value) (a b : Int32) (ws : ai_W) : ai_Run 225 59 ls (.int b :: .int a :: st) ws = ai_Run 225 60 ls (.int (a + b) :: st) ws := R_iadd hc_225 dX11_seats_59 rfl
theorem r_225_60 (l0 l1 : Value) (a : Int32) (st : List Value) (ws : ai_W) : ai_Run 225 60 [l0, l1, .int a] st ws = ai_Run 225 61 [l0, l1, .int a] (.int a :: st) ws := R_iload_n hc_225 dX11_seats_60 rfl rfl
theorem r_225_61 (ls st : List Value) (a : Nat) (i x : Int32) (ws : ai_W) : ai_Run 225 61 ls (.int x :: .int i :: .ref a :: st) ws = (ai_aset ws a i x).bind fun ws => ai_Run 225 62 ls st ws := R_iastore hc_225 dX11_seats_61 rfl
theorem r_225_62 (l1 l2 : Value) (a : Nat) (st : List Value) (ws : ai_W) : ai_Run 225 62 [.ref a, l1, l2] st ws = ai_Run 225 63 [.ref a, l1, l2] (.ref a :: st) ws := R_aload_n hc_225 dX11_seats_62 rfl rfl
theorem r_225_63 (ls : List Value) (r : Nat) (ws : ai_W) : ai_Run 225 63 ls [.ref r] ws = (ai_Call 173 [.ref r] ws).bind fun q => ai_Run 225 66 ls (q.1.toList ++ []) q.2 := R_callV hc_225 dX11_seats_63 hv_225 (w := 1220) rfl (Nat.le_of_ble_eq_true rfl) hk_173 (by rw [hn_173]; rfl) rfl (Nat.le_of_ble_eq_true rfl) rfl
theorem r_225_66 (ls : List Value) (x : Int32) (ws : ai_W) : ai_Run 225 66 ls [.int x] ws = some (some (.int x), ws) := R_iret hc_225 dX11_seats_66 ht_225
theorem dX11_weight_0 : decode cX11_weight 0 = .ok (.aload_n 0, 1) := by decide +kernel
theorem dX11_weight_1 : decode cX11_weight 1 = .ok (.getfield 9, 3) := by decide +kernel
theorem dX11_weight_4 : decode cX11_weight 4 = .ok (.iconst 3, 1) := by decide +kernel
theorem dX11_weight_5 : decode cX11_weight 5 = .ok (.aload_n 0, 1) := by decide +kernel
theorem dX11_weight_6 : decode cX11_weight 6 = .ok (.iload_n 2, 1) := by decide +kernel
theorem dX11_weight_7 : decode cX11_weight 7 = .ok (.iload_n 3, 1) := by decide +kernel
theorem dX11_weight_8 : decode cX11_weight 8 = .ok (.invokevirtual 148, 3) := by decide +kernel
theorem dX11_weight_11 : decode cX11_weight 11 = .ok (.iadd, 1) := by decide +kernel
theorem dX11_weight_12 : decode cX11_weight 12 = .ok (.iaload, 1) := by decide +kernel
theorem dX11_weight_13 : decode cX11_weight 13 = .ok (.istore 4, 2) := by decide +kernel
theorem dX11_weight_15 : decode cX11_weight 15 = .ok (.aload_n 0, 1) := by decide +kernel
theorem dX11_weight_16 : decode cX11_weight 16 = .ok (.iload_n 1, 1) := by decide +kernel
theorem dX11_weight_17 : decode cX11_weight 17 = .ok (.iload_n 2, 1) := by decide +kernel
theorem dX11_weight_18 : decode cX11_weight 18 = .ok (.invokevirtual 129, 3) := by decide +kernel
theorem dX11_weight_21 : decode cX11_weight 21 = .ok (.iload 4, 2) := by decide +kernel
theorem dX11_weight_23 : decode cX11_weight 23 = .ok (.bipush (-4), 2) := by decide +kernel
theorem dX11_weight_25 : decode cX11_weight 25 = .ok (.if_icmp .eq 21, 3) := by decide +kernel
theorem dX11_weight_28 : decode cX11_weight 28 = .ok (.aload_n 0, 1) := by decide +kernel
theorem dX11_weight_29 : decode cX11_weight 29 = .ok (.getfield 9, 3) := by decide +kernel
theorem dX11_weight_32 : decode cX11_weight 32 = .ok (.bipush 34, 2) := by decide +kernel
theorem dX11_weight_34 : decode cX11_weight 34 = .ok (.iload 4, 2) := by decide +kernel
theorem dX11_weight_36 : decode cX11_weight 36 = .ok (.iadd, 1) := by decide +kernel
theorem dX11_weight_37 : decode cX11_weight 37 = .ok (.iaload, 1) := by decide +kernel
theorem dX11_weight_38 : decode cX11_weight 38 = .ok (.iconst 1, 1) := by decide +kernel
theorem dX11_weight_39 : decode cX11_weight 39 = .ok (.if_icmp .ne 7, 3) := by decide +kernel
theorem dX11_weight_42 : decode cX11_weight 42 = .ok (.iconst 2, 1) := by decide +kernel
theorem dX11_weight_43 : decode cX11_weight 43 = .ok (.goto 4, 3) := by decide +kernel
theorem dX11_weight_46 : decode cX11_weight 46 = .ok (.iconst 0, 1) := by decide +kernel
theorem dX11_weight_47 : decode cX11_weight 47 = .ok (.iadd, 1) := by decide +kernel
theorem dX11_weight_48 : decode cX11_weight 48 = .ok (.ireturn, 1) := by decide +kernel
theorem e_226 (r : Nat) (a0 : Int32) (a1 : Int32) (a2 : Int32) (ws : ai_W) : ai_Call 226 [.ref r, .int a0, .int a1, .int a2] ws = if ai_isob ws r 11 = true then ai_Run 226 0 [.ref r, .int a0, .int a1, .int a2, .null] [] ws else none := R_entV hk_226 ⟨⟨rfl, rfl⟩, Nat.le_of_ble_eq_true rfl⟩ rfl
theorem r_226_0 (l1 l2 l3 l4 : Value) (a : Nat) (st : List Value) (ws : ai_W) : ai_Run 226 0 [.ref a, l1, l2, l3, l4] st ws = ai_Run 226 1 [.ref a, l1, l2, l3, l4] (.ref a :: st) ws := R_aload_n hc_226 dX11_weight_0 rfl rfl
theorem r_226_1 (ls st : List Value) (a : Nat) (ws : ai_W) : ai_Run 226 1 ls (.ref a :: st) ws = (ai_fget ws a 11 0).bind fun q => ai_Run 226 4 ls (q :: st) ws := R_getf hc_226 dX11_weight_1 hv_226 (w := 1024) rfl rfl
theorem r_226_4 (ls st : List Value) (ws : ai_W) : ai_Run 226 4 ls st ws = ai_Run 226 5 ls (.int 3 :: st) ws := R_iconst hc_226 dX11_weight_4 (by decide) rfl
theorem r_226_5 (l1 l2 l3 l4 : Value) (a : Nat) (st : List Value) (ws : ai_W) : ai_Run 226 5 [.ref a, l1, l2, l3, l4] st ws = ai_Run 226 6 [.ref a, l1, l2, l3, l4] (.ref a :: st) ws := R_aload_n hc_226 dX11_weight_5 rfl rfl
theorem r_226_6 (l0 l1 l3 l4 : Value) (a : Int32) (st : List Value) (ws : ai_W) : ai_Run 226 6 [l0, l1, .int a, l3, l4] st ws = ai_Run 226 7 [l0, l1, .int a, l3, l4] (.int a :: st) ws := R_iload_n hc_226 dX11_weight_6 rfl rfl
theorem r_226_7 (l0 l1 l2 l4 : Value) (a : Int32) (st : List Value) (ws : ai_W) : ai_Run 226 7 [l0, l1, l2, .int a, l4] st ws = ai_Run 226 8 [l0, l1, l2, .int a, l4] (.int a :: st) ws := R_iload_n hc_226 dX11_weight_7 rfl rfl
theorem r_226_8 (ls : List Value) (r : Nat) (b0 : Int32) (b1 : Int32) (s0 s1 : Value) (ws : ai_W) : ai_Run 226 8 ls [.int b1, .int b0, .ref r, s0, s1] ws = (ai_Call 191 [.ref r, .int b0, .int b1] ws).bind fun q => ai_Run 226 11 ls (q.1.toList ++ [s0, s1]) q.2 := R_callV hc_226 dX11_weight_8 hv_226 (w := 1252) rfl (Nat.le_of_ble_eq_true rfl) hk_191 (by rw [hn_191]; rfl) rfl (Nat.le_of_ble_eq_true rfl) rfl
theorem r_226_11 (ls st : List Value) (a b : Int32) (ws : ai_W) : ai_Run 226 11 ls (.int b :: .int a :: st) ws = ai_Run 226 12 ls (.int (a + b) :: st) ws := R_iadd hc_226 dX11_weight_11 rfl
theorem r_226_12 (ls st : List Value) (a : Nat) (i : Int32) (ws : ai_W) : ai_Run 226 12 ls (.int i :: .ref a :: st) ws = (ai_aget ws a i).bind fun q => ai_Run 226 13 ls (.int q :: st) ws := R_iaload hc_226 dX11_weight_12 rfl
theorem r_226_13 (l0 l1 l2 l3 l4 : Value) (a : Int32) (st : List Value) (ws : ai_W) : ai_Run 226 13 [l0, l1, l2, l3, l4] (.int a :: st) ws = ai_Run 226 15 [l0, l1, l2, l3, .int a] st ws := R_istore hc_226 dX11_weight_13 (Nat.le_of_ble_eq_true rfl) rfl rfl
theorem r_226_15 (l1 l2 l3 l4 : Value) (a : Nat) (st : List Value) (ws : ai_W) : ai_Run 226 15 [.ref a, l1, l2, l3, l4] st ws = ai_Run 226 16 [.ref a, l1, l2, l3, l4] (.ref a :: st) ws := R_aload_n hc_226 dX11_weight_15 rfl rfl
theorem r_226_16 (l0 l2 l3 l4 : Value) (a : Int32) (st : List Value) (ws : ai_W) : ai_Run 226 16 [l0, .int a, l2, l3, l4] st ws = ai_Run 226 17 [l0, .int a, l2, l3, l4] (.int a :: st) ws := R_iload_n hc_226 dX11_weight_16 rfl rfl
theorem r_226_17 (l0 l1 l3 l4 : Value) (a : Int32) (st : List Value) (ws : ai_W) : ai_Run 226 17 [l0, l1, .int a, l3, l4] st ws = ai_Run 226 18 [l0, l1, .int a, l3, l4] (.int a :: st) ws := R_iload_n hc_226 dX11_weight_17 rfl rfl
theorem r_226_18 (ls : List Value) (r : Nat) (b0 : Int32) (b1 : Int32) (ws : ai_W) : ai_Run 226 18 ls [.int b1, .int b0, .ref r] ws = (ai_Call 194 [.ref r, .int b0, .int b1] ws).bind fun q => ai_Run 226 21 ls (q.1.toList ++ []) q.2 := R_callV hc_226 dX11_weight_18 hv_226 (w := 1205) rfl (Nat.le_of_ble_eq_true rfl) hk_194 (by rw [hn_194]; rfl) rfl (Nat.le_of_ble_eq_true rfl) rfl
theorem r_226_21 (l0 l1 l2 l3 : Value) (a : Int32) (st : List Value) (ws : ai_W) : ai_Run 226 21 [l0, l1, l2, l3, .int a] st ws = ai_Run 226 23 [l0, l1, l2, l3, .int a] (.int a :: st) ws := R_iload hc_226 dX11_weight_21 rfl rfl
theorem r_226_23 (ls st : List Value) (ws : ai_W) : ai_Run 226 23 ls st ws = ai_Run 226 25 ls (.int (-4) :: st) ws := R_bipush hc_226 dX11_weight_23 (by decide) rfl
theorem r_226_25 (ls st : List Value) (a b : Int32) (ws : ai_W) : ai_Run 226 25 ls (.int b :: .int a :: st) ws = if a = b then ai_Run 226 46 ls st ws else ai_Run 226 28 ls st ws := R_cmp_eq hc_226 dX11_weight_25 rfl rfl
theorem r_226_28 (l1 l2 l3 l4 : Value) (a : Nat) (st : List Value) (ws : ai_W) : ai_Run 226 28 [.ref a, l1, l2, l3, l4] st ws = ai_Run 226 29 [.ref a, l1, l2, l3, l4] (.ref a :: st) ws := R_aload_n hc_226 dX11_weight_28 rfl rfl
theorem r_226_29 (ls st : List Value) (a : Nat) (ws : ai_W) : ai_Run 226 29 ls (.ref a :: st) ws = (ai_fget ws a 11 0).bind fun q => ai_Run 226 32 ls (q :: st) ws := R_getf hc_226 dX11_weight_29 hv_226 (w := 1024) rfl rfl
theorem r_226_32 (ls st : List Value) (ws : ai_W) : ai_Run 226 32 ls st ws = ai_Run 226 34 ls (.int 34 :: st) ws := R_bipush hc_226 dX11_weight_32 (by decide) rfl
theorem r_226_34 (l0 l1 l2 l3 : Value) (a : Int32) (st : List Value) (ws : ai_W) : ai_Run 226 34 [l0, l1, l2, l3, .int a] st ws = ai_Run 226 36 [l0, l1, l2, l3, .int a] (.int a :: st) ws := R_iload hc_226 dX11_weight_34 rfl rfl
theorem r_226_36 (ls st : List Value) (a b : Int32) (ws : ai_W) : ai_Run 226 36 ls (.int b :: .int a :: st) ws = ai_Run 226 37 ls (.int (a + b) :: st) ws := R_iadd hc_226 dX11_weight_36 rfl
theorem r_226_37 (ls st : List Value) (a : Nat) (i : Int32) (ws : ai_W) : ai_Run 226 37 ls (.int i :: .ref a :: st) ws = (ai_aget ws a i).bind fun q => ai_Run 226 38 ls (.int q :: st) ws := R_iaload hc_226 dX11_weight_37 rfl
theorem r_226_38 (ls st : List Value) (ws : ai_W) : ai_Run 226 38 ls st ws = ai_Run 226 39 ls (.int 1 :: st) ws := R_iconst hc_226 dX11_weight_38 (by decide) rfl
theorem r_226_39 (ls st : List Value) (a b : Int32) (ws : ai_W) : ai_Run 226 39 ls (.int b :: .int a :: st) ws = if a = b then ai_Run 226 42 ls st ws else ai_Run 226 46 ls st ws := R_cmp_ne hc_226 dX11_weight_39 rfl rfl
theorem r_226_42 (ls st : List Value) (ws : ai_W) : ai_Run 226 42 ls st ws = ai_Run 226 43 ls (.int 2 :: st) ws := R_iconst hc_226 dX11_weight_42 (by decide) rfl
theorem r_226_43 (ls st : List Value) (ws : ai_W) : ai_Run 226 43 ls st ws = ai_Run 226 47 ls st ws := R_goto hc_226 dX11_weight_43 rfl
theorem r_226_46 (ls st : List Value) (ws : ai_W) : ai_Run 226 46 ls st ws = ai_Run 226 47 ls (.int 0 :: st) ws := R_iconst hc_226 dX11_weight_46 (by decide) rfl
theorem r_226_47 (ls st : List Value) (a b : Int32) (ws : ai_W) : ai_Run 226 47 ls (.int b :: .int a :: st) ws = ai_Run 226 48 ls (.int (a + b) :: st) ws := R_iadd hc_226 dX11_weight_47 rfl
theorem r_226_48 (ls : List Value) (x : Int32) (ws : ai_W) : ai_Run 226 48 ls [.int x] ws = some (some (.int x), ws) := R_iret hc_226 dX11_weight_48 ht_226
theorem dX11_guiltyMany_0 : decode cX11_guiltyMany 0 = .ok (.iconst 0, 1) := by decide +kernel
theorem dX11_guiltyMany_1 : decode cX11_guiltyMany 1 = .ok (.istore 4, 2) := by decide +kernel
theorem dX11_guiltyMany_3 : decode cX11_guiltyMany 3 = .ok (.iconst 0, 1) := by decide +kernel
theorem dX11_guiltyMany_4 : decode cX11_guiltyMany 4 = .ok (.istore 5, 2) := by decide +kernel
theorem dX11_guiltyMany_6 : decode cX11_guiltyMany 6 = .ok (.iload 5, 2) := by decide +kernel
theorem dX11_guiltyMany_8 : decode cX11_guiltyMany 8 = .ok (.bipush 7, 2) := by decide +kernel
theorem dX11_guiltyMany_10 : decode cX11_guiltyMany 10 = .ok (.if_icmp .ge 62, 3) := by decide +kernel
theorem dX11_guiltyMany_13 : decode cX11_guiltyMany 13 = .ok (.aload_n 0, 1) := by decide +kernel
theorem dX11_guiltyMany_14 : decode cX11_guiltyMany 14 = .ok (.iload_n 1, 1) := by decide +kernel
theorem dX11_guiltyMany_15 : decode cX11_guiltyMany 15 = .ok (.iload_n 2, 1) := by decide +kernel
theorem dX11_guiltyMany_16 : decode cX11_guiltyMany 16 = .ok (.iload_n 3, 1) := by decide +kernel
theorem dX11_guiltyMany_17 : decode cX11_guiltyMany 17 = .ok (.invokevirtual 154, 3) := by decide +kernel
theorem dX11_guiltyMany_20 : decode cX11_guiltyMany 20 = .ok (.ifCond .eq 52, 3) := by decide +kernel
theorem dX11_guiltyMany_23 : decode cX11_guiltyMany 23 = .ok (.iload 4, 2) := by decide +kernel
theorem dX11_guiltyMany_25 : decode cX11_guiltyMany 25 = .ok (.aload_n 0, 1) := by decide +kernel
theorem dX11_guiltyMany_26 : decode cX11_guiltyMany 26 = .ok (.getfield 9, 3) := by decide +kernel
theorem dX11_guiltyMany_29 : decode cX11_guiltyMany 29 = .ok (.bipush 38, 2) := by decide +kernel
theorem dX11_guiltyMany_31 : decode cX11_guiltyMany 31 = .ok (.iload 5, 2) := by decide +kernel
theorem dX11_guiltyMany_33 : decode cX11_guiltyMany 33 = .ok (.iadd, 1) := by decide +kernel
theorem dX11_guiltyMany_34 : decode cX11_guiltyMany 34 = .ok (.iaload, 1) := by decide +kernel
theorem dX11_guiltyMany_35 : decode cX11_guiltyMany 35 = .ok (.ifCond .le 27, 3) := by decide +kernel
theorem dX11_guiltyMany_38 : decode cX11_guiltyMany 38 = .ok (.aload_n 0, 1) := by decide +kernel
theorem dX11_guiltyMany_39 : decode cX11_guiltyMany 39 = .ok (.iload_n 1, 1) := by decide +kernel
theorem dX11_guiltyMany_40 : decode cX11_guiltyMany 40 = .ok (.iload_n 2, 1) := by decide +kernel
theorem dX11_guiltyMany_41 : decode cX11_guiltyMany 41 = .ok (.iload_n 3, 1) := by decide +kernel
theorem dX11_guiltyMany_42 : decode cX11_guiltyMany 42 = .ok (.invokevirtual 157, 3) := by decide +kernel
theorem dX11_guiltyMany_45 : decode cX11_guiltyMany 45 = .ok (.aload_n 0, 1) := by decide +kernel
theorem dX11_guiltyMany_46 : decode cX11_guiltyMany 46 = .ok (.getfield 9, 3) := by decide +kernel
theorem dX11_guiltyMany_49 : decode cX11_guiltyMany 49 = .ok (.bipush 38, 2) := by decide +kernel
theorem dX11_guiltyMany_51 : decode cX11_guiltyMany 51 = .ok (.iload 5, 2) := by decide +kernel
theorem dX11_guiltyMany_53 : decode cX11_guiltyMany 53 = .ok (.iadd, 1) := by decide +kernel
theorem dX11_guiltyMany_54 : decode cX11_guiltyMany 54 = .ok (.iaload, 1) := by decide +kernel
theorem dX11_guiltyMany_55 : decode cX11_guiltyMany 55 = .ok (.if_icmp .lt 7, 3) := by decide +kernel
theorem dX11_guiltyMany_58 : decode cX11_guiltyMany 58 = .ok (.iconst 1, 1) := by decide +kernel
theorem dX11_guiltyMany_59 : decode cX11_guiltyMany 59 = .ok (.goto 4, 3) := by decide +kernel
theorem dX11_guiltyMany_62 : decode cX11_guiltyMany 62 = .ok (.iconst 0, 1) := by decide +kernel
theorem dX11_guiltyMany_63 : decode cX11_guiltyMany 63 = .ok (.iadd, 1) := by decide +kernel
theorem dX11_guiltyMany_64 : decode cX11_guiltyMany 64 = .ok (.istore 4, 2) := by decide +kernel
theorem dX11_guiltyMany_66 : decode cX11_guiltyMany 66 = .ok (.iinc 5 1, 3) := by decide +kernel
theorem dX11_guiltyMany_69 : decode cX11_guiltyMany 69 = .ok (.goto (-63), 3) := by decide +kernel
theorem dX11_guiltyMany_72 : decode cX11_guiltyMany 72 = .ok (.iload 4, 2) := by decide +kernel
theorem dX11_guiltyMany_74 : decode cX11_guiltyMany 74 = .ok (.ireturn, 1) := by decide +kernel
theorem e_227 (r : Nat) (a0 : Int32) (a1 : Int32) (a2 : Int32) (ws : ai_W) : ai_Call 227 [.ref r, .int a0, .int a1, .int a2] ws = if ai_isob ws r 11 = true then ai_Run 227 0 [.ref r, .int a0, .int a1, .int a2, .null, .null] [] ws else none := R_entV hk_227 ⟨⟨rfl, rfl⟩, Nat.le_of_ble_eq_true rfl⟩ rfl
theorem r_227_0 (ls st : List Value) (ws : ai_W) : ai_Run 227 0 ls st ws = ai_Run 227 1 ls (.int 0 :: st) ws := R_iconst hc_227 dX11_guiltyMany_0 (by decide) rfl
theorem r_227_1 (l0 l1 l2 l3 l4 l5 : Value) (a : Int32) (st : List Value) (ws : ai_W) : ai_Run 227 1 [l0, l1, l2, l3, l4, l5] (.int a :: st) ws = ai_Run 227 3 [l0, l1, l2, l3, .int a, l5] st ws := R_istore hc_227 dX11_guiltyMany_1 (Nat.le_of_ble_eq_true rfl) rfl rfl
theorem r_227_3 (ls st : List Value) (ws : ai_W) : ai_Run 227 3 ls st ws = ai_Run 227 4 ls (.int 0 :: st) ws := R_iconst hc_227 dX11_guiltyMany_3 (by decide) rfl
theorem r_227_4 (l0 l1 l2 l3 l4 l5 : Value) (a : Int32) (st : List Value) (ws : ai_W) : ai_Run 227 4 [l0, l1, l2, l3, l4, l5] (.int a :: st) ws = ai_Run 227 6 [l0, l1, l2, l3, l4, .int a] st ws := R_istore hc_227 dX11_guiltyMany_4 (Nat.le_of_ble_eq_true rfl) rfl rfl
theorem r_227_6 (l0 l1 l2 l3 l4 : Value) (a : Int32) (st : List Value) (ws : ai_W) : ai_Run 227 6 [l0, l1, l2, l3, l4, .int a] st ws = ai_Run 227 8 [l0, l1, l2, l3, l4, .int a] (.int a :: st) ws := R_iload hc_227 dX11_guiltyMany_6 rfl rfl
theorem r_227_8 (ls st : List Value) (ws : ai_W) : ai_Run 227 8 ls st ws = ai_Run 227 10 ls (.int 7 :: st) ws := R_bipush hc_227 dX11_guiltyMany_8 (by decide) rfl
theorem r_227_10 (ls st : List Value) (a b : Int32) (ws : ai_W) : ai_Run 227 10 ls (.int b :: .int a :: st) ws = if a < b then ai_Run 227 13 ls st ws else ai_Run 227 72 ls st ws := R_cmp_ge hc_227 dX11_guiltyMany_10 rfl rfl
theorem r_227_13 (l1 l2 l3 l4 l5 : Value) (a : Nat) (st : List Value) (ws : ai_W) : ai_Run 227 13 [.ref a, l1, l2, l3, l4, l5] st ws = ai_Run 227 14 [.ref a, l1, l2, l3, l4, l5] (.ref a :: st) ws := R_aload_n hc_227 dX11_guiltyMany_13 rfl rfl
theorem r_227_14 (l0 l2 l3 l4 l5 : Value) (a : Int32) (st : List Value) (ws : ai_W) : ai_Run 227 14 [l0, .int a, l2, l3, l4, l5] st ws = ai_Run 227 15 [l0, .int a, l2, l3, l4, l5] (.int a :: st) ws := R_iload_n hc_227 dX11_guiltyMany_14 rfl rfl
theorem r_227_15 (l0 l1 l3 l4 l5 : Value) (a : Int32) (st : List Value) (ws : ai_W) : ai_Run 227 15 [l0, l1, .int a, l3, l4, l5] st ws = ai_Run 227 16 [l0, l1, .int a, l3, l4, l5] (.int a :: st) ws := R_iload_n hc_227 dX11_guiltyMany_15 rfl rfl
theorem r_227_16 (l0 l1 l2 l4 l5 : Value) (a : Int32) (st : List Value) (ws : ai_W) : ai_Run 227 16 [l0, l1, l2, .int a, l4, l5] st ws = ai_Run 227 17 [l0, l1, l2, .int a, l4, l5] (.int a :: st) ws := R_iload_n hc_227 dX11_guiltyMany_16 rfl rfl
theorem r_227_17 (ls : List Value) (r : Nat) (b0 : Int32) (b1 : Int32) (b2 : Int32) (ws : ai_W) : ai_Run 227 17 ls [.int b2, .int b1, .int b0, .ref r] ws = (ai_Call 196 [.ref r, .int b0, .int b1, .int b2] ws).bind fun q => ai_Run 227 20 ls (q.1.toList ++ []) q.2 := R_callV hc_227 dX11_guiltyMany_17 hv_227 (w := 1248) rfl (Nat.le_of_ble_eq_true rfl) hk_196 (by rw [hn_196]; rfl) rfl (Nat.le_of_ble_eq_true rfl) rfl
theorem r_227_20 (ls st : List Value) (a : Int32) (ws : ai_W) : ai_Run 227 20 ls (.int a :: st) ws = if a = 0 then ai_Run 227 72 ls st ws else ai_Run 227 23 ls st ws := R_if_eq hc_227 dX11_guiltyMany_20 rfl rfl
theorem r_227_23 (l0 l1 l2 l3 l5 : Value) (a : Int32) (st : List Value) (ws : ai_W) : ai_Run 227 23 [l0, l1, l2, l3, .int a, l5] st ws = ai_Run 227 25 [l0, l1, l2, l3, .int a, l5] (.int a :: st) ws := R_iload hc_227 dX11_guiltyMany_23 rfl rfl
theorem r_227_25 (l1 l2 l3 l4 l5 : Value) (a : Nat) (st : List Value) (ws : ai_W) : ai_Run 227 25 [.ref a, l1, l2, l3, l4, l5] st ws = ai_Run 227 26 [.ref a, l1, l2, l3, l4, l5] (.ref a :: st) ws := R_aload_n hc_227 dX11_guiltyMany_25 rfl rfl
theorem r_227_26 (ls st : List Value) (a : Nat) (ws : ai_W) : ai_Run 227 26 ls (.ref a :: st) ws = (ai_fget ws a 11 0).bind fun q => ai_Run 227 29 ls (q :: st) ws := R_getf hc_227 dX11_guiltyMany_26 hv_227 (w := 1024) rfl rfl
theorem r_227_29 (ls st : List Value) (ws : ai_W) : ai_Run 227 29 ls st ws = ai_Run 227 31 ls (.int 38 :: st) ws := R_bipush hc_227 dX11_guiltyMany_29 (by decide) rfl
theorem r_227_31 (l0 l1 l2 l3 l4 : Value) (a : Int32) (st : List Value) (ws : ai_W) : ai_Run 227 31 [l0, l1, l2, l3, l4, .int a] st ws = ai_Run 227 33 [l0, l1, l2, l3, l4, .int a] (.int a :: st) ws := R_iload hc_227 dX11_guiltyMany_31 rfl rfl
theorem r_227_33 (ls st : List Value) (a b : Int32) (ws : ai_W) : ai_Run 227 33 ls (.int b :: .int a :: st) ws = ai_Run 227 34 ls (.int (a + b) :: st) ws := R_iadd hc_227 dX11_guiltyMany_33 rfl
theorem r_227_34 (ls st : List Value) (a : Nat) (i : Int32) (ws : ai_W) : ai_Run 227 34 ls (.int i :: .ref a :: st) ws = (ai_aget ws a i).bind fun q => ai_Run 227 35 ls (.int q :: st) ws := R_iaload hc_227 dX11_guiltyMany_34 rfl
theorem r_227_35 (ls st : List Value) (a : Int32) (ws : ai_W) : ai_Run 227 35 ls (.int a :: st) ws = if 0 < a then ai_Run 227 38 ls st ws else ai_Run 227 62 ls st ws := R_if_le hc_227 dX11_guiltyMany_35 rfl rfl
theorem r_227_38 (l1 l2 l3 l4 l5 : Value) (a : Nat) (st : List Value) (ws : ai_W) : ai_Run 227 38 [.ref a, l1, l2, l3, l4, l5] st ws = ai_Run 227 39 [.ref a, l1, l2, l3, l4, l5] (.ref a :: st) ws := R_aload_n hc_227 dX11_guiltyMany_38 rfl rfl
theorem r_227_39 (l0 l2 l3 l4 l5 : Value) (a : Int32) (st : List Value) (ws : ai_W) : ai_Run 227 39 [l0, .int a, l2, l3, l4, l5] st ws = ai_Run 227 40 [l0, .int a, l2, l3, l4, l5] (.int a :: st) ws := R_iload_n hc_227 dX11_guiltyMany_39 rfl rfl
theorem r_227_40 (l0 l1 l3 l4 l5 : Value) (a : Int32) (st : List Value) (ws : ai_W) : ai_Run 227 40 [l0, l1, .int a, l3, l4, l5] st ws = ai_Run 227 41 [l0, l1, .int a, l3, l4, l5] (.int a :: st) ws := R_iload_n hc_227 dX11_guiltyMany_40 rfl rfl
theorem r_227_41 (l0 l1 l2 l4 l5 : Value) (a : Int32) (st : List Value) (ws : ai_W) : ai_Run 227 41 [l0, l1, l2, .int a, l4, l5] st ws = ai_Run 227 42 [l0, l1, l2, .int a, l4, l5] (.int a :: st) ws := R_iload_n hc_227 dX11_guiltyMany_41 rfl rfl
theorem r_227_42 (ls : List Value) (r : Nat) (b0 : Int32) (b1 : Int32) (b2 : Int32) (s0 : Value) (ws : ai_W) : ai_Run 227 42 ls [.int b2, .int b1, .int b0, .ref r, s0] ws = (ai_Call 226 [.ref r, .int b0, .int b1, .int b2] ws).bind fun q => ai_Run 227 45 ls (q.1.toList ++ [s0]) q.2 := R_callV hc_227 dX11_guiltyMany_42 hv_227 (w := 1268) rfl (Nat.le_of_ble_eq_true rfl) hk_226 (by rw [hn_226]; rfl) rfl (Nat.le_of_ble_eq_true rfl) rfl
theorem r_227_45 (l1 l2 l3 l4 l5 : Value) (a : Nat) (st : List Value) (ws : ai_W) : ai_Run 227 45 [.ref a, l1, l2, l3, l4, l5] st ws = ai_Run 227 46 [.ref a, l1, l2, l3, l4, l5] (.ref a :: st) ws := R_aload_n hc_227 dX11_guiltyMany_45 rfl rfl
theorem r_227_46 (ls st : List Value) (a : Nat) (ws : ai_W) : ai_Run 227 46 ls (.ref a :: st) ws = (ai_fget ws a 11 0).bind fun q => ai_Run 227 49 ls (q :: st) ws := R_getf hc_227 dX11_guiltyMany_46 hv_227 (w := 1024) rfl rfl
theorem r_227_49 (ls st : List Value) (ws : ai_W) : ai_Run 227 49 ls st ws = ai_Run 227 51 ls (.int 38 :: st) ws := R_bipush hc_227 dX11_guiltyMany_49 (by decide) rfl
theorem r_227_51 (l0 l1 l2 l3 l4 : Value) (a : Int32) (st : List Value) (ws : ai_W) : ai_Run 227 51 [l0, l1, l2, l3, l4, .int a] st ws = ai_Run 227 53 [l0, l1, l2, l3, l4, .int a] (.int a :: st) ws := R_iload hc_227 dX11_guiltyMany_51 rfl rfl
theorem r_227_53 (ls st : List Value) (a b : Int32) (ws : ai_W) : ai_Run 227 53 ls (.int b :: .int a :: st) ws = ai_Run 227 54 ls (.int (a + b) :: st) ws := R_iadd hc_227 dX11_guiltyMany_53 rfl
theorem r_227_54 (ls st : List Value) (a : Nat) (i : Int32) (ws : ai_W) : ai_Run 227 54 ls (.int i :: .ref a :: st) ws = (ai_aget ws a i).bind fun q => ai_Run 227 55 ls (.int q :: st) ws := R_iaload hc_227 dX11_guiltyMany_54 rfl
theorem r_227_55 (ls st : List Value) (a b : Int32) (ws : ai_W) : ai_Run 227 55 ls (.int b :: .int a :: st) ws = if a < b then ai_Run 227 62 ls st ws else ai_Run 227 58 ls st ws := R_cmp_lt hc_227 dX11_guiltyMany_55 rfl rfl
theorem r_227_58 (ls st : List Value) (ws : ai_W) : ai_Run 227 58 ls st ws = ai_Run 227 59 ls (.int 1 :: st) ws := R_iconst hc_227 dX11_guiltyMany_58 (by decide) rfl
theorem r_227_59 (ls st : List Value) (ws : ai_W) : ai_Run 227 59 ls st ws = ai_Run 227 63 ls st ws := R_goto hc_227 dX11_guiltyMany_59 rfl
theorem r_227_62 (ls st : List Value) (ws : ai_W) : ai_Run 227 62 ls st ws = ai_Run 227 63 ls (.int 0 :: st) ws := R_iconst hc_227 dX11_guiltyMany_62 (by decide) rfl
theorem r_227_63 (ls st : List Value) (a b : Int32) (ws : ai_W) : ai_Run 227 63 ls (.int b :: .int a :: st) ws = ai_Run 227 64 ls (.int (a + b) :: st) ws := R_iadd hc_227 dX11_guiltyMany_63 rfl
theorem r_227_64 (l0 l1 l2 l3 l4 l5 : Value) (a : Int32) (st : List Value) (ws : ai_W) : ai_Run 227 64 [l0, l1, l2, l3, l4, l5] (.int a :: st) ws = ai_Run 227 66 [l0, l1, l2, l3, .int a, l5] st ws := R_istore hc_227 dX11_guiltyMany_64 (Nat.le_of_ble_eq_true rfl) rfl rfl
theorem r_227_66 (l0 l1 l2 l3 l4 : Value) (a : Int32) (st : List Value) (ws : ai_W) : ai_Run 227 66 [l0, l1, l2, l3, l4, .int a] st ws = ai_Run 227 69 [l0, l1, l2, l3, l4, .int (a + 1)] st ws := R_iinc hc_227 dX11_guiltyMany_66 rfl (by decide) rfl rfl
theorem r_227_69 (ls st : List Value) (ws : ai_W) : ai_Run 227 69 ls st ws = ai_Run 227 6 ls st ws := R_goto hc_227 dX11_guiltyMany_69 rfl
theorem r_227_72 (l0 l1 l2 l3 l5 : Value) (a : Int32) (st : List Value) (ws : ai_W) : ai_Run 227 72 [l0, l1, l2, l3, .int a, l5] st ws = ai_Run 227 74 [l0, l1, l2, l3, .int a, l5] (.int a :: st) ws := R_iload hc_227 dX11_guiltyMany_72 rfl rfl
theorem r_227_74 (ls : List Value) (x : Int32) (ws : ai_W) : ai_Run 227 74 ls [.int x] ws = some (some (.int x), ws) := R_iret hc_227 dX11_guiltyMany_74 ht_227
theorem dX11_isFound_0 : decode cX11_isFound 0 = .ok (.iconst 2, 1) := by decide +kernel
theorem dX11_isFound_1 : decode cX11_isFound 1 = .ok (.aload_n 0, 1) := by decide +kernel
theorem dX11_isFound_2 : decode cX11_isFound 2 = .ok (.iload_n 1, 1) := by decide +kernel
theorem dX11_isFound_3 : decode cX11_isFound 3 = .ok (.iload_n 2, 1) := by decide +kernel
theorem dX11_isFound_4 : decode cX11_isFound 4 = .ok (.iload_n 3, 1) := by decide +kernel
theorem dX11_isFound_5 : decode cX11_isFound 5 = .ok (.invokevirtual 160, 3) := by decide +kernel
theorem dX11_isFound_8 : decode cX11_isFound 8 = .ok (.imul, 1) := by decide +kernel
theorem dX11_isFound_9 : decode cX11_isFound 9 = .ok (.aload_n 0, 1) := by decide +kernel
theorem dX11_isFound_10 : decode cX11_isFound 10 = .ok (.invokevirtual 139, 3) := by decide +kernel
theorem dX11_isFound_13 : decode cX11_isFound 13 = .ok (.if_icmp .le 7, 3) := by decide +kernel
theorem dX11_isFound_16 : decode cX11_isFound 16 = .ok (.iconst 1, 1) := by decide +kernel
theorem dX11_isFound_17 : decode cX11_isFound 17 = .ok (.goto 4, 3) := by decide +kernel
theorem dX11_isFound_20 : decode cX11_isFound 20 = .ok (.iconst 0, 1) := by decide +kernel
theorem dX11_isFound_21 : decode cX11_isFound 21 = .ok (.ireturn, 1) := by decide +kernel
theorem e_228 (r : Nat) (a0 : Int32) (a1 : Int32) (a2 : Int32) (ws : ai_W) : ai_Call 228 [.ref r, .int a0, .int a1, .int a2] ws = if ai_isob ws r 11 = true then ai_Run 228 0 [.ref r, .int a0, .int a1, .int a2] [] ws else none := R_entV hk_228 ⟨⟨rfl, rfl⟩, Nat.le_of_ble_eq_true rfl⟩ rfl
theorem r_228_0 (ls st : List Value) (ws : ai_W) : ai_Run 228 0 ls st ws = ai_Run 228 1 ls (.int 2 :: st) ws := R_iconst hc_228 dX11_isFound_0 (by decide) rfl
theorem r_228_1 (l1 l2 l3 : Value) (a : Nat) (st : List Value) (ws : ai_W) : ai_Run 228 1 [.ref a, l1, l2, l3] st ws = ai_Run 228 2 [.ref a, l1, l2, l3] (.ref a :: st) ws := R_aload_n hc_228 dX11_isFound_1 rfl rfl
theorem r_228_2 (l0 l2 l3 : Value) (a : Int32) (st : List Value) (ws : ai_W) : ai_Run 228 2 [l0, .int a, l2, l3] st ws = ai_Run 228 3 [l0, .int a, l2, l3] (.int a :: st) ws := R_iload_n hc_228 dX11_isFound_2 rfl rfl
theorem r_228_3 (l0 l1 l3 : Value) (a : Int32) (st : List Value) (ws : ai_W) : ai_Run 228 3 [l0, l1, .int a, l3] st ws = ai_Run 228 4 [l0, l1, .int a, l3] (.int a :: st) ws := R_iload_n hc_228 dX11_isFound_3 rfl rfl
theorem r_228_4 (l0 l1 l2 : Value) (a : Int32) (st : List Value) (ws : ai_W) : ai_Run 228 4 [l0, l1, l2, .int a] st ws = ai_Run 228 5 [l0, l1, l2, .int a] (.int a :: st) ws := R_iload_n hc_228 dX11_isFound_4 rfl rfl
theorem r_228_5 (ls : List Value) (r : Nat) (b0 : Int32) (b1 : Int32) (b2 : Int32) (s0 : Value) (ws : ai_W) : ai_Run 228 5 ls [.int b2, .int b1, .int b0, .ref r, s0] ws = (ai_Call 227 [.ref r, .int b0, .int b1, .int b2] ws).bind fun q => ai_Run 228 8 ls (q.1.toList ++ [s0]) q.2 := R_callV hc_228 dX11_isFound_5 hv_228 (w := 1264) rfl (Nat.le_of_ble_eq_true rfl) hk_227 (by rw [hn_227]; rfl) rfl (Nat.le_of_ble_eq_true rfl) rfl
theorem r_228_8 (ls st : List Value) (a b : Int32) (ws : ai_W) : ai_Run 228 8 ls (.int b :: .int a :: st) ws = ai_Run 228 9 ls (.int (a * b) :: st) ws := R_imul hc_228 dX11_isFound_8 rfl
theorem r_228_9 (l1 l2 l3 : Value) (a : Nat) (st : List Value) (ws : ai_W) : ai_Run 228 9 [.ref a, l1, l2, l3] st ws = ai_Run 228 10 [.ref a, l1, l2, l3] (.ref a :: st) ws := R_aload_n hc_228 dX11_isFound_9 rfl rfl
theorem r_228_10 (ls : List Value) (r : Nat) (s0 : Value) (ws : ai_W) : ai_Run 228 10 ls [.ref r, s0] ws = (ai_Call 173 [.ref r] ws).bind fun q => ai_Run 228 13 ls (q.1.toList ++ [s0]) q.2 := R_callV hc_228 dX11_isFound_10 hv_228 (w := 1220) rfl (Nat.le_of_ble_eq_true rfl) hk_173 (by rw [hn_173]; rfl) rfl (Nat.le_of_ble_eq_true rfl) rfl
theorem r_228_13 (ls st : List Value) (a b : Int32) (ws : ai_W) : ai_Run 228 13 ls (.int b :: .int a :: st) ws = if b < a then ai_Run 228 16 ls st ws else ai_Run 228 20 ls st ws := R_cmp_le hc_228 dX11_isFound_13 rfl rfl
theorem r_228_16 (ls st : List Value) (ws : ai_W) : ai_Run 228 16 ls st ws = ai_Run 228 17 ls (.int 1 :: st) ws := R_iconst hc_228 dX11_isFound_16 (by decide) rfl
theorem r_228_17 (ls st : List Value) (ws : ai_W) : ai_Run 228 17 ls st ws = ai_Run 228 21 ls st ws := R_goto hc_228 dX11_isFound_17 rfl
theorem r_228_20 (ls st : List Value) (ws : ai_W) : ai_Run 228 20 ls st ws = ai_Run 228 21 ls (.int 0 :: st) ws := R_iconst hc_228 dX11_isFound_20 (by decide) rfl
theorem r_228_21 (ls : List Value) (x : Int32) (ws : ai_W) : ai_Run 228 21 ls [.int x] ws = if ai_pb x = true then some (some (.int x), ws) else none := R_zret hc_228 dX11_isFound_21 ht_228
theorem dX11_tries_0 : decode cX11_tries 0 = .ok (.aload_n 0, 1) := by decide +kernel
theorem dX11_tries_1 : decode cX11_tries 1 = .ok (.iload_n 1, 1) := by decide +kernel
theorem dX11_tries_2 : decode cX11_tries 2 = .ok (.invokevirtual 63, 3) := by decide +kernel
theorem dX11_tries_5 : decode cX11_tries 5 = .ok (.ifCond .eq 12, 3) := by decide +kernel
theorem dX11_tries_8 : decode cX11_tries 8 = .ok (.aload_n 0, 1) := by decide +kernel
theorem dX11_tries_9 : decode cX11_tries 9 = .ok (.iload_n 2, 1) := by decide +kernel
theorem dX11_tries_10 : decode cX11_tries 10 = .ok (.iload_n 3, 1) := by decide +kernel
theorem dX11_tries_11 : decode cX11_tries 11 = .ok (.invokevirtual 163, 3) := by decide +kernel
theorem dX11_tries_14 : decode cX11_tries 14 = .ok (.ifCond .ne 5, 3) := by decide +kernel
theorem dX11_tries_17 : decode cX11_tries 17 = .ok (.iconst (-1), 1) := by decide +kernel
theorem dX11_tries_18 : decode cX11_tries 18 = .ok (.ireturn, 1) := by decide +kernel
theorem dX11_tries_19 : decode cX11_tries 19 = .ok (.aload_n 0, 1) := by decide +kernel
theorem dX11_tries_20 : decode cX11_tries 20 = .ok (.iload_n 2, 1) := by decide +kernel
theorem dX11_tries_21 : decode cX11_tries 21 = .ok (.iload_n 3, 1) := by decide +kernel
theorem dX11_tries_22 : decode cX11_tries 22 = .ok (.invokevirtual 166, 3) := by decide +kernel
theorem dX11_tries_25 : decode cX11_tries 25 = .ok (.istore 4, 2) := by decide +kernel
theorem dX11_tries_27 : decode cX11_tries 27 = .ok (.aload_n 0, 1) := by decide +kernel
theorem dX11_tries_28 : decode cX11_tries 28 = .ok (.iload_n 1, 1) := by decide +kernel
theorem dX11_tries_29 : decode cX11_tries 29 = .ok (.iload_n 2, 1) := by decide +kernel
theorem dX11_tries_30 : decode cX11_tries 30 = .ok (.if_icmp .ne 7, 3) := by decide +kernel
theorem dX11_tries_33 : decode cX11_tries 33 = .ok (.iconst 1, 1) := by decide +kernel
theorem dX11_tries_34 : decode cX11_tries 34 = .ok (.goto 4, 3) := by decide +kernel
theorem dX11_tries_37 : decode cX11_tries 37 = .ok (.iconst 0, 1) := by decide +kernel
theorem dX11_tries_38 : decode cX11_tries 38 = .ok (.bipush 6, 2) := by decide +kernel
theorem dX11_tries_40 : decode cX11_tries 40 = .ok (.iload_n 1, 1) := by decide +kernel
theorem dX11_tries_41 : decode cX11_tries 41 = .ok (.invokevirtual 70, 3) := by decide +kernel
theorem dX11_tries_44 : decode cX11_tries 44 = .ok (.ifCond .ne 26, 3) := by decide +kernel
theorem dX11_tries_47 : decode cX11_tries 47 = .ok (.aload_n 0, 1) := by decide +kernel
theorem dX11_tries_48 : decode cX11_tries 48 = .ok (.iload 4, 2) := by decide +kernel
theorem dX11_tries_50 : decode cX11_tries 50 = .ok (.bipush (-4), 2) := by decide +kernel
theorem dX11_tries_52 : decode cX11_tries 52 = .ok (.if_icmp .eq 7, 3) := by decide +kernel
theorem dX11_tries_55 : decode cX11_tries 55 = .ok (.iconst 1, 1) := by decide +kernel
theorem dX11_tries_56 : decode cX11_tries 56 = .ok (.goto 4, 3) := by decide +kernel
theorem dX11_tries_59 : decode cX11_tries 59 = .ok (.iconst 0, 1) := by decide +kernel
theorem dX11_tries_60 : decode cX11_tries 60 = .ok (.bipush 8, 2) := by decide +kernel
theorem dX11_tries_62 : decode cX11_tries 62 = .ok (.iload 4, 2) := by decide +kernel
theorem dX11_tries_64 : decode cX11_tries 64 = .ok (.invokevirtual 70, 3) := by decide +kernel
theorem dX11_tries_67 : decode cX11_tries 67 = .ok (.ifCond .eq 6, 3) := by decide +kernel
theorem dX11_tries_70 : decode cX11_tries 70 = .ok (.bipush (-3), 2) := by decide +kernel
theorem dX11_tries_72 : decode cX11_tries 72 = .ok (.ireturn, 1) := by decide +kernel
theorem dX11_tries_73 : decode cX11_tries 73 = .ok (.aload_n 0, 1) := by decide +kernel
theorem dX11_tries_74 : decode cX11_tries 74 = .ok (.aload_n 0, 1) := by decide +kernel
theorem dX11_tries_75 : decode cX11_tries 75 = .ok (.iload_n 1, 1) := by decide +kernel
theorem dX11_tries_76 : decode cX11_tries 76 = .ok (.iload_n 2, 1) := by decide +kernel
theorem dX11_tries_77 : decode cX11_tries 77 = .ok (.iload_n 3, 1) := by decide +kernel
theorem dX11_tries_78 : decode cX11_tries 78 = .ok (.invokevirtual 154, 3) := by decide +kernel
theorem dX11_tries_81 : decode cX11_tries 81 = .ok (.ifCond .ne 7, 3) := by decide +kernel
theorem dX11_tries_84 : decode cX11_tries 84 = .ok (.iconst 1, 1) := by decide +kernel
theorem dX11_tries_85 : decode cX11_tries 85 = .ok (.goto 4, 3) := by decide +kernel
theorem dX11_tries_88 : decode cX11_tries 88 = .ok (.iconst 0, 1) := by decide +kernel
theorem dX11_tries_89 : decode cX11_tries 89 = .ok (.bipush 9, 2) := by decide +kernel
theorem dX11_tries_91 : decode cX11_tries 91 = .ok (.aload_n 0, 1) := by decide +kernel
theorem dX11_tries_92 : decode cX11_tries 92 = .ok (.iload_n 2, 1) := by decide +kernel
theorem dX11_tries_93 : decode cX11_tries 93 = .ok (.iload_n 3, 1) := by decide +kernel
theorem dX11_tries_94 : decode cX11_tries 94 = .ok (.invokevirtual 148, 3) := by decide +kernel
theorem dX11_tries_97 : decode cX11_tries 97 = .ok (.invokevirtual 70, 3) := by decide +kernel
theorem dX11_tries_100 : decode cX11_tries 100 = .ok (.ifCond .ne 30, 3) := by decide +kernel
theorem dX11_tries_103 : decode cX11_tries 103 = .ok (.aload_n 0, 1) := by decide +kernel
theorem dX11_tries_104 : decode cX11_tries 104 = .ok (.aload_n 0, 1) := by decide +kernel
theorem dX11_tries_105 : decode cX11_tries 105 = .ok (.invokevirtual 139, 3) := by decide +kernel
theorem dX11_tries_108 : decode cX11_tries 108 = .ok (.ifCond .ne 7, 3) := by decide +kernel
theorem dX11_tries_111 : decode cX11_tries 111 = .ok (.iconst 1, 1) := by decide +kernel
theorem dX11_tries_112 : decode cX11_tries 112 = .ok (.goto 4, 3) := by decide +kernel
theorem dX11_tries_115 : decode cX11_tries 115 = .ok (.iconst 0, 1) := by decide +kernel
theorem dX11_tries_116 : decode cX11_tries 116 = .ok (.bipush 10, 2) := by decide +kernel
theorem dX11_tries_118 : decode cX11_tries 118 = .ok (.aload_n 0, 1) := by decide +kernel
theorem dX11_tries_119 : decode cX11_tries 119 = .ok (.getfield 9, 3) := by decide +kernel
theorem dX11_tries_122 : decode cX11_tries 122 = .ok (.iconst 2, 1) := by decide +kernel
theorem dX11_tries_123 : decode cX11_tries 123 = .ok (.iaload, 1) := by decide +kernel
theorem dX11_tries_124 : decode cX11_tries 124 = .ok (.invokevirtual 70, 3) := by decide +kernel
theorem dX11_tries_127 : decode cX11_tries 127 = .ok (.ifCond .eq 6, 3) := by decide +kernel
theorem dX11_tries_130 : decode cX11_tries 130 = .ok (.bipush (-3), 2) := by decide +kernel
theorem dX11_tries_132 : decode cX11_tries 132 = .ok (.ireturn, 1) := by decide +kernel
theorem dX11_tries_133 : decode cX11_tries 133 = .ok (.aload_n 0, 1) := by decide +kernel
theorem dX11_tries_134 : decode cX11_tries 134 = .ok (.getfield 9, 3) := by decide +kernel
theorem dX11_tries_137 : decode cX11_tries 137 = .ok (.iconst 2, 1) := by decide +kernel
theorem dX11_tries_138 : decode cX11_tries 138 = .ok (.dup2, 1) := by decide +kernel
theorem dX11_tries_139 : decode cX11_tries 139 = .ok (.iaload, 1) := by decide +kernel
theorem dX11_tries_140 : decode cX11_tries 140 = .ok (.iconst 1, 1) := by decide +kernel
theorem dX11_tries_141 : decode cX11_tries 141 = .ok (.iadd, 1) := by decide +kernel
theorem dX11_tries_142 : decode cX11_tries 142 = .ok (.iastore, 1) := by decide +kernel
theorem dX11_tries_143 : decode cX11_tries 143 = .ok (.aload_n 0, 1) := by decide +kernel
theorem dX11_tries_144 : decode cX11_tries 144 = .ok (.iload_n 1, 1) := by decide +kernel
theorem dX11_tries_145 : decode cX11_tries 145 = .ok (.iload_n 2, 1) := by decide +kernel
theorem dX11_tries_146 : decode cX11_tries 146 = .ok (.iload_n 3, 1) := by decide +kernel
theorem dX11_tries_147 : decode cX11_tries 147 = .ok (.invokevirtual 169, 3) := by decide +kernel
theorem dX11_tries_150 : decode cX11_tries 150 = .ok (.ifCond .eq 15, 3) := by decide +kernel
theorem dX11_tries_153 : decode cX11_tries 153 = .ok (.aload_n 0, 1) := by decide +kernel
theorem dX11_tries_154 : decode cX11_tries 154 = .ok (.iload_n 2, 1) := by decide +kernel
theorem dX11_tries_155 : decode cX11_tries 155 = .ok (.bipush 7, 2) := by decide +kernel
theorem dX11_tries_157 : decode cX11_tries 157 = .ok (.iload_n 3, 1) := by decide +kernel
theorem dX11_tries_158 : decode cX11_tries 158 = .ok (.iadd, 1) := by decide +kernel
theorem dX11_tries_159 : decode cX11_tries 159 = .ok (.iload_n 1, 1) := by decide +kernel
theorem dX11_tries_160 : decode cX11_tries 160 = .ok (.invokevirtual 74, 3) := by decide +kernel
theorem dX11_tries_163 : decode cX11_tries 163 = .ok (.iconst 1, 1) := by decide +kernel
theorem dX11_tries_164 : decode cX11_tries 164 = .ok (.ireturn, 1) := by decide +kernel
theorem dX11_tries_165 : decode cX11_tries 165 = .ok (.iconst 0, 1) := by decide +kernel
theorem dX11_tries_166 : decode cX11_tries 166 = .ok (.ireturn, 1) := by decide +kernel
theorem e_229 (r : Nat) (a0 : Int32) (a1 : Int32) (a2 : Int32) (ws : ai_W) : ai_Call 229 [.ref r, .int a0, .int a1, .int a2] ws = if ai_isob ws r 11 = true then ai_Run 229 0 [.ref r, .int a0, .int a1, .int a2, .null] [] ws else none := R_entV hk_229 ⟨⟨rfl, rfl⟩, Nat.le_of_ble_eq_true rfl⟩ rfl
theorem r_229_0 (l1 l2 l3 l4 : Value) (a : Nat) (st : List Value) (ws : ai_W) : ai_Run 229 0 [.ref a, l1, l2, l3, l4] st ws = ai_Run 229 1 [.ref a, l1, l2, l3, l4] (.ref a :: st) ws := R_aload_n hc_229 dX11_tries_0 rfl rfl
theorem r_229_1 (l0 l2 l3 l4 : Value) (a : Int32) (st : List Value) (ws : ai_W) : ai_Run 229 1 [l0, .int a, l2, l3, l4] st ws = ai_Run 229 2 [l0, .int a, l2, l3, l4] (.int a :: st) ws := R_iload_n hc_229 dX11_tries_1 rfl rfl
theorem r_229_2 (ls : List Value) (r : Nat) (b0 : Int32) (ws : ai_W) : ai_Run 229 2 ls [.int b0, .ref r] ws = (ai_Call 200 [.ref r, .int b0] ws).bind fun q => ai_Run 229 5 ls (q.1.toList ++ []) q.2 := R_callV hc_229 dX11_tries_2 hv_229 (w := 1123) rfl (Nat.le_of_ble_eq_true rfl) hk_200 (by rw [hn_200]; rfl) rfl (Nat.le_of_ble_eq_true rfl) rfl
theorem r_229_5 (ls st : List Value) (a : Int32) (ws : ai_W) : ai_Run 229 5 ls (.int a :: st) ws = if a = 0 then ai_Run 229 17 ls st ws else ai_Run 229 8 ls st ws := R_if_eq hc_229 dX11_tries_5 rfl rfl
theorem r_229_8 (l1 l2 l3 l4 : Value) (a : Nat) (st : List Value) (ws : ai_W) : ai_Run 229 8 [.ref a, l1, l2, l3, l4] st ws = ai_Run 229 9 [.ref a, l1, l2, l3, l4] (.ref a :: st) ws := R_aload_n hc_229 dX11_tries_8 rfl rfl
theorem r_229_9 (l0 l1 l3 l4 : Value) (a : Int32) (st : List Value) (ws : ai_W) : ai_Run 229 9 [l0, l1, .int a, l3, l4] st ws = ai_Run 229 10 [l0, l1, .int a, l3, l4] (.int a :: st) ws := R_iload_n hc_229 dX11_tries_9 rfl rfl
theorem r_229_10 (l0 l1 l2 l4 : Value) (a : Int32) (st : List Value) (ws : ai_W) : ai_Run 229 10 [l0, l1, l2, .int a, l4] st ws = ai_Run 229 11 [l0, l1, l2, .int a, l4] (.int a :: st) ws := R_iload_n hc_229 dX11_tries_10 rfl rfl
theorem r_229_11 (ls : List Value) (r : Nat) (b0 : Int32) (b1 : Int32) (ws : ai_W) : ai_Run 229 11 ls [.int b1, .int b0, .ref r] ws = (ai_Call 211 [.ref r, .int b0, .int b1] ws).bind fun q => ai_Run 229 14 ls (q.1.toList ++ []) q.2 := R_callV hc_229 dX11_tries_11 hv_229 (w := 1240) rfl (Nat.le_of_ble_eq_true rfl) hk_211 (by rw [hn_211]; rfl) rfl (Nat.le_of_ble_eq_true rfl) rfl
theorem r_229_14 (ls st : List Value) (a : Int32) (ws : ai_W) : ai_Run 229 14 ls (.int a :: st) ws = if a = 0 then ai_Run 229 17 ls st ws else ai_Run 229 19 ls st ws := R_if_ne hc_229 dX11_tries_14 rfl rfl
theorem r_229_17 (ls st : List Value) (ws : ai_W) : ai_Run 229 17 ls st ws = ai_Run 229 18 ls (.int (-1) :: st) ws := R_iconst hc_229 dX11_tries_17 (by decide) rfl
theorem r_229_18 (ls : List Value) (x : Int32) (ws : ai_W) : ai_Run 229 18 ls [.int x] ws = some (some (.int x), ws) := R_iret hc_229 dX11_tries_18 ht_229
theorem r_229_19 (l1 l2 l3 l4 : Value) (a : Nat) (st : List Value) (ws : ai_W) : ai_Run 229 19 [.ref a, l1, l2, l3, l4] st ws = ai_Run 229 20 [.ref a, l1, l2, l3, l4] (.ref a :: st) ws := R_aload_n hc_229 dX11_tries_19 rfl rfl
theorem r_229_20 (l0 l1 l3 l4 : Value) (a : Int32) (st : List Value) (ws : ai_W) : ai_Run 229 20 [l0, l1, .int a, l3, l4] st ws = ai_Run 229 21 [l0, l1, .int a, l3, l4] (.int a :: st) ws := R_iload_n hc_229 dX11_tries_20 rfl rfl
theorem r_229_21 (l0 l1 l2 l4 : Value) (a : Int32) (st : List Value) (ws : ai_W) : ai_Run 229 21 [l0, l1, l2, .int a, l4] st ws = ai_Run 229 22 [l0, l1, l2, .int a, l4] (.int a :: st) ws := R_iload_n hc_229 dX11_tries_21 rfl rfl
theorem r_229_22 (ls : List Value) (r : Nat) (b0 : Int32) (b1 : Int32) (ws : ai_W) : ai_Run 229 22 ls [.int b1, .int b0, .ref r] ws = (ai_Call 170 [.ref r, .int b0, .int b1] ws).bind fun q => ai_Run 229 25 ls (q.1.toList ++ []) q.2 := R_callV hc_229 dX11_tries_22 hv_229 (w := 1244) rfl (Nat.le_of_ble_eq_true rfl) hk_170 (by rw [hn_170]; rfl) rfl (Nat.le_of_ble_eq_true rfl) rfl
theorem r_229_25 (l0 l1 l2 l3 l4 : Value) (a : Int32) (st : List Value) (ws : ai_W) : ai_Run 229 25 [l0, l1, l2, l3, l4] (.int a :: st) ws = ai_Run 229 27 [l0, l1, l2, l3, .int a] st ws := R_istore hc_229 dX11_tries_25 (Nat.le_of_ble_eq_true rfl) rfl rfl
theorem r_229_27 (l1 l2 l3 l4 : Value) (a : Nat) (st : List Value) (ws : ai_W) : ai_Run 229 27 [.ref a, l1, l2, l3, l4] st ws = ai_Run 229 28 [.ref a, l1, l2, l3, l4] (.ref a :: st) ws := R_aload_n hc_229 dX11_tries_27 rfl rfl
theorem r_229_28 (l0 l2 l3 l4 : Value) (a : Int32) (st : List Value) (ws : ai_W) : ai_Run 229 28 [l0, .int a, l2, l3, l4] st ws = ai_Run 229 29 [l0, .int a, l2, l3, l4] (.int a :: st) ws := R_iload_n hc_229 dX11_tries_28 rfl rfl
theorem r_229_29 (l0 l1 l3 l4 : Value) (a : Int32) (st : List Value) (ws : ai_W) : ai_Run 229 29 [l0, l1, .int a, l3, l4] st ws = ai_Run 229 30 [l0, l1, .int a, l3, l4] (.int a :: st) ws := R_iload_n hc_229 dX11_tries_29 rfl rfl
theorem r_229_30 (ls st : List Value) (a b : Int32) (ws : ai_W) : ai_Run 229 30 ls (.int b :: .int a :: st) ws = if a = b then ai_Run 229 33 ls st ws else ai_Run 229 37 ls st ws := R_cmp_ne hc_229 dX11_tries_30 rfl rfl
theorem r_229_33 (ls st : List Value) (ws : ai_W) : ai_Run 229 33 ls st ws = ai_Run 229 34 ls (.int 1 :: st) ws := R_iconst hc_229 dX11_tries_33 (by decide) rfl
theorem r_229_34 (ls st : List Value) (ws : ai_W) : ai_Run 229 34 ls st ws = ai_Run 229 38 ls st ws := R_goto hc_229 dX11_tries_34 rfl
theorem r_229_37 (ls st : List Value) (ws : ai_W) : ai_Run 229 37 ls st ws = ai_Run 229 38 ls (.int 0 :: st) ws := R_iconst hc_229 dX11_tries_37 (by decide) rfl
theorem r_229_38 (ls st : List Value) (ws : ai_W) : ai_Run 229 38 ls st ws = ai_Run 229 40 ls (.int 6 :: st) ws := R_bipush hc_229 dX11_tries_38 (by decide) rfl
theorem r_229_40 (l0 l2 l3 l4 : Value) (a : Int32) (st : List Value) (ws : ai_W) : ai_Run 229 40 [l0, .int a, l2, l3, l4] st ws = ai_Run 229 41 [l0, .int a, l2, l3, l4] (.int a :: st) ws := R_iload_n hc_229 dX11_tries_40 rfl rfl
theorem r_229_41 (ls : List Value) (r : Nat) (b0 : Int32) (b1 : Int32) (b2 : Int32) (ws : ai_W) : ai_Run 229 41 ls [.int b2, .int b1, .int b0, .ref r] ws = (ai_Call 183 [.ref r, .int b0, .int b1, .int b2] ws).bind fun q => ai_Run 229 44 ls (q.1.toList ++ []) q.2 := R_callV hc_229 dX11_tries_41 hv_229 (w := 1088) rfl (Nat.le_of_ble_eq_true rfl) hk_183 (by rw [hn_183]; rfl) rfl (Nat.le_of_ble_eq_true rfl) rfl
theorem r_229_44 (ls st : List Value) (a : Int32) (ws : ai_W) : ai_Run 229 44 ls (.int a :: st) ws = if a = 0 then ai_Run 229 47 ls st ws else ai_Run 229 70 ls st ws := R_if_ne hc_229 dX11_tries_44 rfl rfl
theorem r_229_47 (l1 l2 l3 l4 : Value) (a : Nat) (st : List Value) (ws : ai_W) : ai_Run 229 47 [.ref a, l1, l2, l3, l4] st ws = ai_Run 229 48 [.ref a, l1, l2, l3, l4] (.ref a :: st) ws := R_aload_n hc_229 dX11_tries_47 rfl rfl
theorem r_229_48 (l0 l1 l2 l3 : Value) (a : Int32) (st : List Value) (ws : ai_W) : ai_Run 229 48 [l0, l1, l2, l3, .int a] st ws = ai_Run 229 50 [l0, l1, l2, l3, .int a] (.int a :: st) ws := R_iload hc_229 dX11_tries_48 rfl rfl
theorem r_229_50 (ls st : List Value) (ws : ai_W) : ai_Run 229 50 ls st ws = ai_Run 229 52 ls (.int (-4) :: st) ws := R_bipush hc_229 dX11_tries_50 (by decide) rfl
theorem r_229_52 (ls st : List Value) (a b : Int32) (ws : ai_W) : ai_Run 229 52 ls (.int b :: .int a :: st) ws = if a = b then ai_Run 229 59 ls st ws else ai_Run 229 55 ls st ws := R_cmp_eq hc_229 dX11_tries_52 rfl rfl
theorem r_229_55 (ls st : List Value) (ws : ai_W) : ai_Run 229 55 ls st ws = ai_Run 229 56 ls (.int 1 :: st) ws := R_iconst hc_229 dX11_tries_55 (by decide) rfl
theorem r_229_56 (ls st : List Value) (ws : ai_W) : ai_Run 229 56 ls st ws = ai_Run 229 60 ls st ws := R_goto hc_229 dX11_tries_56 rfl
theorem r_229_59 (ls st : List Value) (ws : ai_W) : ai_Run 229 59 ls st ws = ai_Run 229 60 ls (.int 0 :: st) ws := R_iconst hc_229 dX11_tries_59 (by decide) rfl
theorem r_229_60 (ls st : List Value) (ws : ai_W) : ai_Run 229 60 ls st ws = ai_Run 229 62 ls (.int 8 :: st) ws := R_bipush hc_229 dX11_tries_60 (by decide) rfl
theorem r_229_62 (l0 l1 l2 l3 : Value) (a : Int32) (st : List Value) (ws : ai_W) : ai_Run 229 62 [l0, l1, l2, l3, .int a] st ws = ai_Run 229 64 [l0, l1, l2, l3, .int a] (.int a :: st) ws := R_iload hc_229 dX11_tries_62 rfl rfl
theorem r_229_64 (ls : List Value) (r : Nat) (b0 : Int32) (b1 : Int32) (b2 : Int32) (ws : ai_W) : ai_Run 229 64 ls [.int b2, .int b1, .int b0, .ref r] ws = (ai_Call 183 [.ref r, .int b0, .int b1, .int b2] ws).bind fun q => ai_Run 229 67 ls (q.1.toList ++ []) q.2 := R_callV hc_229 dX11_tries_64 hv_229 (w := 1088) rfl (Nat.le_of_ble_eq_true rfl) hk_183 (by rw [hn_183]; rfl) rfl (Nat.le_of_ble_eq_true rfl) rfl
theorem r_229_67 (ls st : List Value) (a : Int32) (ws : ai_W) : ai_Run 229 67 ls (.int a :: st) ws = if a = 0 then ai_Run 229 73 ls st ws else ai_Run 229 70 ls st ws := R_if_eq hc_229 dX11_tries_67 rfl rfl
theorem r_229_70 (ls st : List Value) (ws : ai_W) : ai_Run 229 70 ls st ws = ai_Run 229 72 ls (.int (-3) :: st) ws := R_bipush hc_229 dX11_tries_70 (by decide) rfl
theorem r_229_72 (ls : List Value) (x : Int32) (ws : ai_W) : ai_Run 229 72 ls [.int x] ws = some (some (.int x), ws) := R_iret hc_229 dX11_tries_72 ht_229
theorem r_229_73 (l1 l2 l3 l4 : Value) (a : Nat) (st : List Value) (ws : ai_W) : ai_Run 229 73 [.ref a, l1, l2, l3, l4] st ws = ai_Run 229 74 [.ref a, l1, l2, l3, l4] (.ref a :: st) ws := R_aload_n hc_229 dX11_tries_73 rfl rfl
theorem r_229_74 (l1 l2 l3 l4 : Value) (a : Nat) (st : List Value) (ws : ai_W) : ai_Run 229 74 [.ref a, l1, l2, l3, l4] st ws = ai_Run 229 75 [.ref a, l1, l2, l3, l4] (.ref a :: st) ws := R_aload_n hc_229 dX11_tries_74 rfl rfl
theorem r_229_75 (l0 l2 l3 l4 : Value) (a : Int32) (st : List Value) (ws : ai_W) : ai_Run 229 75 [l0, .int a, l2, l3, l4] st ws = ai_Run 229 76 [l0, .int a, l2, l3, l4] (.int a :: st) ws := R_iload_n hc_229 dX11_tries_75 rfl rfl
theorem r_229_76 (l0 l1 l3 l4 : Value) (a : Int32) (st : List Value) (ws : ai_W) : ai_Run 229 76 [l0, l1, .int a, l3, l4] st ws = ai_Run 229 77 [l0, l1, .int a, l3, l4] (.int a :: st) ws := R_iload_n hc_229 dX11_tries_76 rfl rfl
theorem r_229_77 (l0 l1 l2 l4 : Value) (a : Int32) (st : List Value) (ws : ai_W) : ai_Run 229 77 [l0, l1, l2, .int a, l4] st ws = ai_Run 229 78 [l0, l1, l2, .int a, l4] (.int a :: st) ws := R_iload_n hc_229 dX11_tries_77 rfl rfl
theorem r_229_78 (ls : List Value) (r : Nat) (b0 : Int32) (b1 : Int32) (b2 : Int32) (s0 : Value) (ws : ai_W) : ai_Run 229 78 ls [.int b2, .int b1, .int b0, .ref r, s0] ws = (ai_Call 196 [.ref r, .int b0, .int b1, .int b2] ws).bind fun q => ai_Run 229 81 ls (q.1.toList ++ [s0]) q.2 := R_callV hc_229 dX11_tries_78 hv_229 (w := 1248) rfl (Nat.le_of_ble_eq_true rfl) hk_196 (by rw [hn_196]; rfl) rfl (Nat.le_of_ble_eq_true rfl) rfl
theorem r_229_81 (ls st : List Value) (a : Int32) (ws : ai_W) : ai_Run 229 81 ls (.int a :: st) ws = if a = 0 then ai_Run 229 84 ls st ws else ai_Run 229 88 ls st ws := R_if_ne hc_229 dX11_tries_81 rfl rfl
theorem r_229_84 (ls st : List Value) (ws : ai_W) : ai_Run 229 84 ls st ws = ai_Run 229 85 ls (.int 1 :: st) ws := R_iconst hc_229 dX11_tries_84 (by decide) rfl
theorem r_229_85 (ls st : List Value) (ws : ai_W) : ai_Run 229 85 ls st ws = ai_Run 229 89 ls st ws := R_goto hc_229 dX11_tries_85 rfl
theorem r_229_88 (ls st : List Value) (ws : ai_W) : ai_Run 229 88 ls st ws = ai_Run 229 89 ls (.int 0 :: st) ws := R_iconst hc_229 dX11_tries_88 (by decide) rfl
theorem r_229_89 (ls st : List Value) (ws : ai_W) : ai_Run 229 89 ls st ws = ai_Run 229 91 ls (.int 9 :: st) ws := R_bipush hc_229 dX11_tries_89 (by decide) rfl
theorem r_229_91 (l1 l2 l3 l4 : Value) (a : Nat) (st : List Value) (ws : ai_W) : ai_Run 229 91 [.ref a, l1, l2, l3, l4] st ws = ai_Run 229 92 [.ref a, l1, l2, l3, l4] (.ref a :: st) ws := R_aload_n hc_229 dX11_tries_91 rfl rfl
theorem r_229_92 (l0 l1 l3 l4 : Value) (a : Int32) (st : List Value) (ws : ai_W) : ai_Run 229 92 [l0, l1, .int a, l3, l4] st ws = ai_Run 229 93 [l0, l1, .int a, l3, l4] (.int a :: st) ws := R_iload_n hc_229 dX11_tries_92 rfl rfl
theorem r_229_93 (l0 l1 l2 l4 : Value) (a : Int32) (st : List Value) (ws : ai_W) : ai_Run 229 93 [l0, l1, l2, .int a, l4] st ws = ai_Run 229 94 [l0, l1, l2, .int a, l4] (.int a :: st) ws := R_iload_n hc_229 dX11_tries_93 rfl rfl
theorem r_229_94 (ls : List Value) (r : Nat) (b0 : Int32) (b1 : Int32) (s0 s1 s2 : Value) (ws : ai_W) : ai_Run 229 94 ls [.int b1, .int b0, .ref r, s0, s1, s2] ws = (ai_Call 191 [.ref r, .int b0, .int b1] ws).bind fun q => ai_Run 229 97 ls (q.1.toList ++ [s0, s1, s2]) q.2 := R_callV hc_229 dX11_tries_94 hv_229 (w := 1252) rfl (Nat.le_of_ble_eq_true rfl) hk_191 (by rw [hn_191]; rfl) rfl (Nat.le_of_ble_eq_true rfl) rfl
theorem r_229_97 (ls : List Value) (r : Nat) (b0 : Int32) (b1 : Int32) (b2 : Int32) (ws : ai_W) : ai_Run 229 97 ls [.int b2, .int b1, .int b0, .ref r] ws = (ai_Call 183 [.ref r, .int b0, .int b1, .int b2] ws).bind fun q => ai_Run 229 100 ls (q.1.toList ++ []) q.2 := R_callV hc_229 dX11_tries_97 hv_229 (w := 1088) rfl (Nat.le_of_ble_eq_true rfl) hk_183 (by rw [hn_183]; rfl) rfl (Nat.le_of_ble_eq_true rfl) rfl
theorem r_229_100 (ls st : List Value) (a : Int32) (ws : ai_W) : ai_Run 229 100 ls (.int a :: st) ws = if a = 0 then ai_Run 229 103 ls st ws else ai_Run 229 130 ls st ws := R_if_ne hc_229 dX11_tries_100 rfl rfl
theorem r_229_103 (l1 l2 l3 l4 : Value) (a : Nat) (st : List Value) (ws : ai_W) : ai_Run 229 103 [.ref a, l1, l2, l3, l4] st ws = ai_Run 229 104 [.ref a, l1, l2, l3, l4] (.ref a :: st) ws := R_aload_n hc_229 dX11_tries_103 rfl rfl
theorem r_229_104 (l1 l2 l3 l4 : Value) (a : Nat) (st : List Value) (ws : ai_W) : ai_Run 229 104 [.ref a, l1, l2, l3, l4] st ws = ai_Run 229 105 [.ref a, l1, l2, l3, l4] (.ref a :: st) ws := R_aload_n hc_229 dX11_tries_104 rfl rfl
theorem r_229_105 (ls : List Value) (r : Nat) (s0 : Value) (ws : ai_W) : ai_Run 229 105 ls [.ref r, s0] ws = (ai_Call 173 [.ref r] ws).bind fun q => ai_Run 229 108 ls (q.1.toList ++ [s0]) q.2 := R_callV hc_229 dX11_tries_105 hv_229 (w := 1220) rfl (Nat.le_of_ble_eq_true rfl) hk_173 (by rw [hn_173]; rfl) rfl (Nat.le_of_ble_eq_true rfl) rfl
theorem r_229_108 (ls st : List Value) (a : Int32) (ws : ai_W) : ai_Run 229 108 ls (.int a :: st) ws = if a = 0 then ai_Run 229 111 ls st ws else ai_Run 229 115 ls st ws := R_if_ne hc_229 dX11_tries_108 rfl rfl
theorem r_229_111 (ls st : List Value) (ws : ai_W) : ai_Run 229 111 ls st ws = ai_Run 229 112 ls (.int 1 :: st) ws := R_iconst hc_229 dX11_tries_111 (by decide) rfl
theorem r_229_112 (ls st : List Value) (ws : ai_W) : ai_Run 229 112 ls st ws = ai_Run 229 116 ls st ws := R_goto hc_229 dX11_tries_112 rfl
theorem r_229_115 (ls st : List Value) (ws : ai_W) : ai_Run 229 115 ls st ws = ai_Run 229 116 ls (.int 0 :: st) ws := R_iconst hc_229 dX11_tries_115 (by decide) rfl
theorem r_229_116 (ls st : List Value) (ws : ai_W) : ai_Run 229 116 ls st ws = ai_Run 229 118 ls (.int 10 :: st) ws := R_bipush hc_229 dX11_tries_116 (by decide) rfl
theorem r_229_118 (l1 l2 l3 l4 : Value) (a : Nat) (st : List Value) (ws : ai_W) : ai_Run 229 118 [.ref a, l1, l2, l3, l4] st ws = ai_Run 229 119 [.ref a, l1, l2, l3, l4] (.ref a :: st) ws := R_aload_n hc_229 dX11_tries_118 rfl rfl
theorem r_229_119 (ls st : List Value) (a : Nat) (ws : ai_W) : ai_Run 229 119 ls (.ref a :: st) ws = (ai_fget ws a 11 0).bind fun q => ai_Run 229 122 ls (q :: st) ws := R_getf hc_229 dX11_tries_119 hv_229 (w := 1024) rfl rfl
theorem r_229_122 (ls st : List Value) (ws : ai_W) : ai_Run 229 122 ls st ws = ai_Run 229 123 ls (.int 2 :: st) ws := R_iconst hc_229 dX11_tries_122 (by decide) rfl
theorem r_229_123 (ls st : List Value) (a : Nat) (i : Int32) (ws : ai_W) : ai_Run 229 123 ls (.int i :: .ref a :: st) ws = (ai_aget ws a i).bind fun q => ai_Run 229 124 ls (.int q :: st) ws := R_iaload hc_229 dX11_tries_123 rfl
theorem r_229_124 (ls : List Value) (r : Nat) (b0 : Int32) (b1 : Int32) (b2 : Int32) (ws : ai_W) : ai_Run 229 124 ls [.int b2, .int b1, .int b0, .ref r] ws = (ai_Call 183 [.ref r, .int b0, .int b1, .int b2] ws).bind fun q => ai_Run 229 127 ls (q.1.toList ++ []) q.2 := R_callV hc_229 dX11_tries_124 hv_229 (w := 1088) rfl (Nat.le_of_ble_eq_true rfl) hk_183 (by rw [hn_183]; rfl) rfl (Nat.le_of_ble_eq_true rfl) rfl
theorem r_229_127 (ls st : List Value) (a : Int32) (ws : ai_W) : ai_Run 229 127 ls (.int a :: st) ws = if a = 0 then ai_Run 229 133 ls st ws else ai_Run 229 130 ls st ws := R_if_eq hc_229 dX11_tries_127 rfl rfl
theorem r_229_130 (ls st : List Value) (ws : ai_W) : ai_Run 229 130 ls st ws = ai_Run 229 132 ls (.int (-3) :: st) ws := R_bipush hc_229 dX11_tries_130 (by decide) rfl
theorem r_229_132 (ls : List Value) (x : Int32) (ws : ai_W) : ai_Run 229 132 ls [.int x] ws = some (some (.int x), ws) := R_iret hc_229 dX11_tries_132 ht_229
theorem r_229_133 (l1 l2 l3 l4 : Value) (a : Nat) (st : List Value) (ws : ai_W) : ai_Run 229 133 [.ref a, l1, l2, l3, l4] st ws = ai_Run 229 134 [.ref a, l1, l2, l3, l4] (.ref a :: st) ws := R_aload_n hc_229 dX11_tries_133 rfl rfl
theorem r_229_134 (ls st : List Value) (a : Nat) (ws : ai_W) : ai_Run 229 134 ls (.ref a :: st) ws = (ai_fget ws a 11 0).bind fun q => ai_Run 229 137 ls (q :: st) ws := R_getf hc_229 dX11_tries_134 hv_229 (w := 1024) rfl rfl
theorem r_229_137 (ls st : List Value) (ws : ai_W) : ai_Run 229 137 ls st ws = ai_Run 229 138 ls (.int 2 :: st) ws := R_iconst hc_229 dX11_tries_137 (by decide) rfl
theorem r_229_138 (ls st : List Value) (a : Nat) (i : Int32) (ws : ai_W) : ai_Run 229 138 ls (.int i :: .ref a :: st) ws = ai_Run 229 139 ls (.int i :: .ref a :: .int i :: .ref a :: st) ws := R_dup2 hc_229 dX11_tries_138 rfl
theorem r_229_139 (ls st : List Value) (a : Nat) (i : Int32) (ws : ai_W) : ai_Run 229 139 ls (.int i :: .ref a :: st) ws = (ai_aget ws a i).bind fun q => ai_Run 229 140 ls (.int q :: st) ws := R_iaload hc_229 dX11_tries_139 rfl
theorem r_229_140 (ls st : List Value) (ws : ai_W) : ai_Run 229 140 ls st ws = ai_Run 229 141 ls (.int 1 :: st) ws := R_iconst hc_229 dX11_tries_140 (by decide) rfl
theorem r_229_141 (ls st : List Value) (a b : Int32) (ws : ai_W) : ai_Run 229 141 ls (.int b :: .int a :: st) ws = ai_Run 229 142 ls (.int (a + b) :: st) ws := R_iadd hc_229 dX11_tries_141 rfl
theorem r_229_142 (ls st : List Value) (a : Nat) (i x : Int32) (ws : ai_W) : ai_Run 229 142 ls (.int x :: .int i :: .ref a :: st) ws = (ai_aset ws a i x).bind fun ws => ai_Run 229 143 ls st ws := R_iastore hc_229 dX11_tries_142 rfl
theorem r_229_143 (l1 l2 l3 l4 : Value) (a : Nat) (st : List Value) (ws : ai_W) : ai_Run 229 143 [.ref a, l1, l2, l3, l4] st ws = ai_Run 229 144 [.ref a, l1, l2, l3, l4] (.ref a :: st) ws := R_aload_n hc_229 dX11_tries_143 rfl rfl
theorem r_229_144 (l0 l2 l3 l4 : Value) (a : Int32) (st : List Value) (ws : ai_W) : ai_Run 229 144 [l0, .int a, l2, l3, l4] st ws = ai_Run 229 145 [l0, .int a, l2, l3, l4] (.int a :: st) ws := R_iload_n hc_229 dX11_tries_144 rfl rfl
theorem r_229_145 (l0 l1 l3 l4 : Value) (a : Int32) (st : List Value) (ws : ai_W) : ai_Run 229 145 [l0, l1, .int a, l3, l4] st ws = ai_Run 229 146 [l0, l1, .int a, l3, l4] (.int a :: st) ws := R_iload_n hc_229 dX11_tries_145 rfl rfl
theorem r_229_146 (l0 l1 l2 l4 : Value) (a : Int32) (st : List Value) (ws : ai_W) : ai_Run 229 146 [l0, l1, l2, .int a, l4] st ws = ai_Run 229 147 [l0, l1, l2, .int a, l4] (.int a :: st) ws := R_iload_n hc_229 dX11_tries_146 rfl rfl
theorem r_229_147 (ls : List Value) (r : Nat) (b0 : Int32) (b1 : Int32) (b2 : Int32) (ws : ai_W) : ai_Run 229 147 ls [.int b2, .int b1, .int b0, .ref r] ws = (ai_Call 228 [.ref r, .int b0, .int b1, .int b2] ws).bind fun q => ai_Run 229 150 ls (q.1.toList ++ []) q.2 := R_callV hc_229 dX11_tries_147 hv_229 (w := 1260) rfl (Nat.le_of_ble_eq_true rfl) hk_228 (by rw [hn_228]; rfl) rfl (Nat.le_of_ble_eq_true rfl) rfl
theorem r_229_150 (ls st : List Value) (a : Int32) (ws : ai_W) : ai_Run 229 150 ls (.int a :: st) ws = if a = 0 then ai_Run 229 165 ls st ws else ai_Run 229 153 ls st ws := R_if_eq hc_229 dX11_tries_150 rfl rfl
theorem r_229_153 (l1 l2 l3 l4 : Value) (a : Nat) (st : List Value) (ws : ai_W) : ai_Run 229 153 [.ref a, l1, l2, l3, l4] st ws = ai_Run 229 154 [.ref a, l1, l2, l3, l4] (.ref a :: st) ws := R_aload_n hc_229 dX11_tries_153 rfl rfl
theorem r_229_154 (l0 l1 l3 l4 : Value) (a : Int32) (st : List Value) (ws : ai_W) : ai_Run 229 154 [l0, l1, .int a, l3, l4] st ws = ai_Run 229 155 [l0, l1, .int a, l3, l4] (.int a :: st) ws := R_iload_n hc_229 dX11_tries_154 rfl rfl
theorem r_229_155 (ls st : List Value) (ws : ai_W) : ai_Run 229 155 ls st ws = ai_Run 229 157 ls (.int 7 :: st) ws := R_bipush hc_229 dX11_tries_155 (by decide) rfl
theorem r_229_157 (l0 l1 l2 l4 : Value) (a : Int32) (st : List Value) (ws : ai_W) : ai_Run 229 157 [l0, l1, l2, .int a, l4] st ws = ai_Run 229 158 [l0, l1, l2, .int a, l4] (.int a :: st) ws := R_iload_n hc_229 dX11_tries_157 rfl rfl
theorem r_229_158 (ls st : List Value) (a b : Int32) (ws : ai_W) : ai_Run 229 158 ls (.int b :: .int a :: st) ws = ai_Run 229 159 ls (.int (a + b) :: st) ws := R_iadd hc_229 dX11_tries_158 rfl
theorem r_229_159 (l0 l2 l3 l4 : Value) (a : Int32) (st : List Value) (ws : ai_W) : ai_Run 229 159 [l0, .int a, l2, l3, l4] st ws = ai_Run 229 160 [l0, .int a, l2, l3, l4] (.int a :: st) ws := R_iload_n hc_229 dX11_tries_159 rfl rfl
theorem r_229_160 (ls : List Value) (r : Nat) (b0 : Int32) (b1 : Int32) (b2 : Int32) (ws : ai_W) : ai_Run 229 160 ls [.int b2, .int b1, .int b0, .ref r] ws = (ai_Call 177 [.ref r, .int b0, .int b1, .int b2] ws).bind fun q => ai_Run 229 163 ls (q.1.toList ++ []) q.2 := R_callV hc_229 dX11_tries_160 hv_229 (w := 1092) rfl (Nat.le_of_ble_eq_true rfl) hk_177 (by rw [hn_177]; rfl) rfl (Nat.le_of_ble_eq_true rfl) rfl
theorem r_229_163 (ls st : List Value) (ws : ai_W) : ai_Run 229 163 ls st ws = ai_Run 229 164 ls (.int 1 :: st) ws := R_iconst hc_229 dX11_tries_163 (by decide) rfl
theorem r_229_164 (ls : List Value) (x : Int32) (ws : ai_W) : ai_Run 229 164 ls [.int x] ws = some (some (.int x), ws) := R_iret hc_229 dX11_tries_164 ht_229
theorem r_229_165 (ls st : List Value) (ws : ai_W) : ai_Run 229 165 ls st ws = ai_Run 229 166 ls (.int 0 :: st) ws := R_iconst hc_229 dX11_tries_165 (by decide) rfl
theorem r_229_166 (ls : List Value) (x : Int32) (ws : ai_W) : ai_Run 229 166 ls [.int x] ws = some (some (.int x), ws) := R_iret hc_229 dX11_tries_166 ht_229
theorem dX11_does_0 : decode cX11_does 0 = .ok (.aload_n 0, 1) := by decide +kernel
theorem dX11_does_1 : decode cX11_does 1 = .ok (.getfield 32, 3) := by decide +kernel
theorem dX11_does_4 : decode cX11_does 4 = .ok (.iload_n 1, 1) := by decide +kernel
theorem dX11_does_5 : decode cX11_does 5 = .ok (.iconst 1, 1) := by decide +kernel
theorem dX11_does_6 : decode cX11_does 6 = .ok (.iadd, 1) := by decide +kernel
theorem dX11_does_7 : decode cX11_does 7 = .ok (.iaload, 1) := by decide +kernel
theorem dX11_does_8 : decode cX11_does 8 = .ok (.istore_n 2, 1) := by decide +kernel
theorem dX11_does_9 : decode cX11_does 9 = .ok (.aload_n 0, 1) := by decide +kernel
theorem dX11_does_10 : decode cX11_does 10 = .ok (.getfield 32, 3) := by decide +kernel
theorem dX11_does_13 : decode cX11_does 13 = .ok (.iload_n 1, 1) := by decide +kernel
theorem dX11_does_14 : decode cX11_does 14 = .ok (.iconst 2, 1) := by decide +kernel
theorem dX11_does_15 : decode cX11_does 15 = .ok (.iadd, 1) := by decide +kernel
theorem dX11_does_16 : decode cX11_does 16 = .ok (.iaload, 1) := by decide +kernel
theorem dX11_does_17 : decode cX11_does 17 = .ok (.istore_n 3, 1) := by decide +kernel
theorem dX11_does_18 : decode cX11_does 18 = .ok (.aload_n 0, 1) := by decide +kernel
theorem dX11_does_19 : decode cX11_does 19 = .ok (.getfield 32, 3) := by decide +kernel
theorem dX11_does_22 : decode cX11_does 22 = .ok (.iload_n 1, 1) := by decide +kernel
theorem dX11_does_23 : decode cX11_does 23 = .ok (.iconst 3, 1) := by decide +kernel
theorem dX11_does_24 : decode cX11_does 24 = .ok (.iadd, 1) := by decide +kernel
theorem dX11_does_25 : decode cX11_does 25 = .ok (.iaload, 1) := by decide +kernel
theorem dX11_does_26 : decode cX11_does 26 = .ok (.istore 4, 2) := by decide +kernel
theorem dX11_does_28 : decode cX11_does 28 = .ok (.aload_n 0, 1) := by decide +kernel
theorem dX11_does_29 : decode cX11_does 29 = .ok (.getfield 32, 3) := by decide +kernel
theorem dX11_does_32 : decode cX11_does 32 = .ok (.iload_n 1, 1) := by decide +kernel
theorem dX11_does_33 : decode cX11_does 33 = .ok (.iaload, 1) := by decide +kernel
theorem dX11_does_34 : decode cX11_does 34 = .ok (.tableswitch 184 97 120 #[115, 184, 110, 120, 184, 184, 184, 184, 184, 163, 184, 184, 154, 184, 147, 184, 184, 127, 184, 184, 184, 184, 140, 134], 110) := by decide +kernel
theorem dX11_does_144 : decode cX11_does 144 = .ok (.aload_n 0, 1) := by decide +kernel
theorem dX11_does_145 : decode cX11_does 145 = .ok (.invokevirtual 81, 3) := by decide +kernel
theorem dX11_does_148 : decode cX11_does 148 = .ok (.ireturn, 1) := by decide +kernel
theorem dX11_does_149 : decode cX11_does 149 = .ok (.aload_n 0, 1) := by decide +kernel
theorem dX11_does_150 : decode cX11_does 150 = .ok (.invokevirtual 88, 3) := by decide +kernel
theorem dX11_does_153 : decode cX11_does 153 = .ok (.ireturn, 1) := by decide +kernel
theorem dX11_does_154 : decode cX11_does 154 = .ok (.aload_n 0, 1) := by decide +kernel
theorem dX11_does_155 : decode cX11_does 155 = .ok (.iload_n 2, 1) := by decide +kernel
theorem dX11_does_156 : decode cX11_does 156 = .ok (.iload_n 3, 1) := by decide +kernel
theorem dX11_does_157 : decode cX11_does 157 = .ok (.invokevirtual 108, 3) := by decide +kernel
theorem dX11_does_160 : decode cX11_does 160 = .ok (.ireturn, 1) := by decide +kernel
theorem dX11_does_161 : decode cX11_does 161 = .ok (.aload_n 0, 1) := by decide +kernel
theorem dX11_does_162 : decode cX11_does 162 = .ok (.iload_n 2, 1) := by decide +kernel
theorem dX11_does_163 : decode cX11_does 163 = .ok (.iload_n 3, 1) := by decide +kernel
theorem dX11_does_164 : decode cX11_does 164 = .ok (.invokevirtual 111, 3) := by decide +kernel
theorem dX11_does_167 : decode cX11_does 167 = .ok (.ireturn, 1) := by decide +kernel
theorem dX11_does_168 : decode cX11_does 168 = .ok (.aload_n 0, 1) := by decide +kernel
theorem dX11_does_169 : decode cX11_does 169 = .ok (.iload_n 2, 1) := by decide +kernel
theorem dX11_does_170 : decode cX11_does 170 = .ok (.invokevirtual 114, 3) := by decide +kernel
theorem dX11_does_173 : decode cX11_does 173 = .ok (.ireturn, 1) := by decide +kernel
theorem dX11_does_174 : decode cX11_does 174 = .ok (.aload_n 0, 1) := by decide +kernel
theorem dX11_does_175 : decode cX11_does 175 = .ok (.iload_n 2, 1) := by decide +kernel
theorem dX11_does_176 : decode cX11_does 176 = .ok (.iload_n 3, 1) := by decide +kernel
theorem dX11_does_177 : decode cX11_does 177 = .ok (.invokevirtual 120, 3) := by decide +kernel
theorem dX11_does_180 : decode cX11_does 180 = .ok (.ireturn, 1) := by decide +kernel
theorem dX11_does_181 : decode cX11_does 181 = .ok (.aload_n 0, 1) := by decide +kernel
theorem dX11_does_182 : decode cX11_does 182 = .ok (.iload_n 2, 1) := by decide +kernel
theorem dX11_does_183 : decode cX11_does 183 = .ok (.iload_n 3, 1) := by decide +kernel
theorem dX11_does_184 : decode cX11_does 184 = .ok (.invokevirtual 126, 3) := by decide +kernel
theorem dX11_does_187 : decode cX11_does 187 = .ok (.ireturn, 1) := by decide +kernel
theorem dX11_does_188 : decode cX11_does 188 = .ok (.aload_n 0, 1) := by decide +kernel
theorem dX11_does_189 : decode cX11_does 189 = .ok (.iload_n 2, 1) := by decide +kernel
theorem dX11_does_190 : decode cX11_does 190 = .ok (.iload_n 3, 1) := by decide +kernel
theorem dX11_does_191 : decode cX11_does 191 = .ok (.iload 4, 2) := by decide +kernel
theorem dX11_does_193 : decode cX11_does 193 = .ok (.invokevirtual 132, 3) := by decide +kernel
theorem dX11_does_196 : decode cX11_does 196 = .ok (.ireturn, 1) := by decide +kernel
theorem dX11_does_197 : decode cX11_does 197 = .ok (.iload_n 3, 1) := by decide +kernel
theorem dX11_does_198 : decode cX11_does 198 = .ok (.bipush (-4), 2) := by decide +kernel
theorem dX11_does_200 : decode cX11_does 200 = .ok (.if_icmp .ne 11, 3) := by decide +kernel
theorem dX11_does_203 : decode cX11_does 203 = .ok (.aload_n 0, 1) := by decide +kernel
theorem dX11_does_204 : decode cX11_does 204 = .ok (.iload_n 2, 1) := by decide +kernel
theorem dX11_does_205 : decode cX11_does 205 = .ok (.invokevirtual 145, 3) := by decide +kernel
theorem dX11_does_208 : decode cX11_does 208 = .ok (.goto 9, 3) := by decide +kernel
theorem dX11_does_211 : decode cX11_does 211 = .ok (.aload_n 0, 1) := by decide +kernel
theorem dX11_does_212 : decode cX11_does 212 = .ok (.iload_n 2, 1) := by decide +kernel
theorem dX11_does_213 : decode cX11_does 213 = .ok (.iload_n 3, 1) := by decide +kernel
theorem dX11_does_214 : decode cX11_does 214 = .ok (.invokevirtual 142, 3) := by decide +kernel
theorem dX11_does_217 : decode cX11_does 217 = .ok (.ireturn, 1) := by decide +kernel
theorem dX11_does_218 : decode cX11_does 218 = .ok (.aload_n 0, 1) := by decide +kernel
theorem dX11_does_219 : decode cX11_does 219 = .ok (.iload_n 2, 1) := by decide +kernel
theorem dX11_does_220 : decode cX11_does 220 = .ok (.iload_n 3, 1) := by decide +kernel
theorem dX11_does_221 : decode cX11_does 221 = .ok (.iload 4, 2) := by decide +kernel
theorem dX11_does_223 : decode cX11_does 223 = .ok (.invokevirtual 172, 3) := by decide +kernel
theorem dX11_does_226 : decode cX11_does 226 = .ok (.ireturn, 1) := by decide +kernel
theorem e_230 (r : Nat) (a0 : Int32) (ws : ai_W) : ai_Call 230 [.ref r, .int a0] ws = if ai_isob ws r 11 = true then ai_Run 230 0 [.ref r, .int a0, .null, .null, .null] [] ws else none := R_entV hk_230 ⟨⟨rfl, rfl⟩, Nat.le_of_ble_eq_true rfl⟩ rfl
theorem r_230_0 (l1 l2 l3 l4 : Value) (a : Nat) (st : List Value) (ws : ai_W) : ai_Run 230 0 [.ref a, l1, l2, l3, l4] st ws = ai_Run 230 1 [.ref a, l1, l2, l3, l4] (.ref a :: st) ws := R_aload_n hc_230 dX11_does_0 rfl rfl
theorem r_230_1 (ls st : List Value) (a : Nat) (ws : ai_W) : ai_Run 230 1 ls (.ref a :: st) ws = (ai_fget ws a 11 12).bind fun q => ai_Run 230 4 ls (q :: st) ws := R_getf hc_230 dX11_does_1 hv_230 (w := 1036) rfl rfl
theorem r_230_4 (l0 l2 l3 l4 : Value) (a : Int32) (st : List Value) (ws : ai_W) : ai_Run 230 4 [l0, .int a, l2, l3, l4] st ws = ai_Run 230 5 [l0, .int a, l2, l3, l4] (.int a :: st) ws := R_iload_n hc_230 dX11_does_4 rfl rfl
theorem r_230_5 (ls st : List Value) (ws : ai_W) : ai_Run 230 5 ls st ws = ai_Run 230 6 ls (.int 1 :: st) ws := R_iconst hc_230 dX11_does_5 (by decide) rfl
theorem r_230_6 (ls st : List Value) (a b : Int32) (ws : ai_W) : ai_Run 230 6 ls (.int b :: .int a :: st) ws = ai_Run 230 7 ls (.int (a + b) :: st) ws := R_iadd hc_230 dX11_does_6 rfl
theorem r_230_7 (ls st : List Value) (a : Nat) (i : Int32) (ws : ai_W) : ai_Run 230 7 ls (.int i :: .ref a :: st) ws = (ai_aget ws a i).bind fun q => ai_Run 230 8 ls (.int q :: st) ws := R_iaload hc_230 dX11_does_7 rfl
theorem r_230_8 (l0 l1 l2 l3 l4 : Value) (a : Int32) (st : List Value) (ws : ai_W) : ai_Run 230 8 [l0, l1, l2, l3, l4] (.int a :: st) ws = ai_Run 230 9 [l0, l1, .int a, l3, l4] st ws := R_istore_n hc_230 dX11_does_8 (Nat.le_of_ble_eq_true rfl) rfl rfl
theorem r_230_9 (l1 l2 l3 l4 : Value) (a : Nat) (st : List Value) (ws : ai_W) : ai_Run 230 9 [.ref a, l1, l2, l3, l4] st ws = ai_Run 230 10 [.ref a, l1, l2, l3, l4] (.ref a :: st) ws := R_aload_n hc_230 dX11_does_9 rfl rfl
theorem r_230_10 (ls st : List Value) (a : Nat) (ws : ai_W) : ai_Run 230 10 ls (.ref a :: st) ws = (ai_fget ws a 11 12).bind fun q => ai_Run 230 13 ls (q :: st) ws := R_getf hc_230 dX11_does_10 hv_230 (w := 1036) rfl rfl
theorem r_230_13 (l0 l2 l3 l4 : Value) (a : Int32) (st : List Value) (ws : ai_W) : ai_Run 230 13 [l0, .int a, l2, l3, l4] st ws = ai_Run 230 14 [l0, .int a, l2, l3, l4] (.int a :: st) ws := R_iload_n hc_230 dX11_does_13 rfl rfl
theorem r_230_14 (ls st : List Value) (ws : ai_W) : ai_Run 230 14 ls st ws = ai_Run 230 15 ls (.int 2 :: st) ws := R_iconst hc_230 dX11_does_14 (by decide) rfl
theorem r_230_15 (ls st : List Value) (a b : Int32) (ws : ai_W) : ai_Run 230 15 ls (.int b :: .int a :: st) ws = ai_Run 230 16 ls (.int (a + b) :: st) ws := R_iadd hc_230 dX11_does_15 rfl
theorem r_230_16 (ls st : List Value) (a : Nat) (i : Int32) (ws : ai_W) : ai_Run 230 16 ls (.int i :: .ref a :: st) ws = (ai_aget ws a i).bind fun q => ai_Run 230 17 ls (.int q :: st) ws := R_iaload hc_230 dX11_does_16 rfl
theorem r_230_17 (l0 l1 l2 l3 l4 : Value) (a : Int32) (st : List Value) (ws : ai_W) : ai_Run 230 17 [l0, l1, l2, l3, l4] (.int a :: st) ws = ai_Run 230 18 [l0, l1, l2, .int a, l4] st ws := R_istore_n hc_230 dX11_does_17 (Nat.le_of_ble_eq_true rfl) rfl rfl
theorem r_230_18 (l1 l2 l3 l4 : Value) (a : Nat) (st : List Value) (ws : ai_W) : ai_Run 230 18 [.ref a, l1, l2, l3, l4] st ws = ai_Run 230 19 [.ref a, l1, l2, l3, l4] (.ref a :: st) ws := R_aload_n hc_230 dX11_does_18 rfl rfl
theorem r_230_19 (ls st : List Value) (a : Nat) (ws : ai_W) : ai_Run 230 19 ls (.ref a :: st) ws = (ai_fget ws a 11 12).bind fun q => ai_Run 230 22 ls (q :: st) ws := R_getf hc_230 dX11_does_19 hv_230 (w := 1036) rfl rfl
theorem r_230_22 (l0 l2 l3 l4 : Value) (a : Int32) (st : List Value) (ws : ai_W) : ai_Run 230 22 [l0, .int a, l2, l3, l4] st ws = ai_Run 230 23 [l0, .int a, l2, l3, l4] (.int a :: st) ws := R_iload_n hc_230 dX11_does_22 rfl rfl
theorem r_230_23 (ls st : List Value) (ws : ai_W) : ai_Run 230 23 ls st ws = ai_Run 230 24 ls (.int 3 :: st) ws := R_iconst hc_230 dX11_does_23 (by decide) rfl
theorem r_230_24 (ls st : List Value) (a b : Int32) (ws : ai_W) : ai_Run 230 24 ls (.int b :: .int a :: st) ws = ai_Run 230 25 ls (.int (a + b) :: st) ws := R_iadd hc_230 dX11_does_24 rfl
theorem r_230_25 (ls st : List Value) (a : Nat) (i : Int32) (ws : ai_W) : ai_Run 230 25 ls (.int i :: .ref a :: st) ws = (ai_aget ws a i).bind fun q => ai_Run 230 26 ls (.int q :: st) ws := R_iaload hc_230 dX11_does_25 rfl
theorem r_230_26 (l0 l1 l2 l3 l4 : Value) (a : Int32) (st : List Value) (ws : ai_W) : ai_Run 230 26 [l0, l1, l2, l3, l4] (.int a :: st) ws = ai_Run 230 28 [l0, l1, l2, l3, .int a] st ws := R_istore hc_230 dX11_does_26 (Nat.le_of_ble_eq_true rfl) rfl rfl
theorem r_230_28 (l1 l2 l3 l4 : Value) (a : Nat) (st : List Value) (ws : ai_W) : ai_Run 230 28 [.ref a, l1, l2, l3, l4] st ws = ai_Run 230 29 [.ref a, l1, l2, l3, l4] (.ref a :: st) ws := R_aload_n hc_230 dX11_does_28 rfl rfl
theorem r_230_29 (ls st : List Value) (a : Nat) (ws : ai_W) : ai_Run 230 29 ls (.ref a :: st) ws = (ai_fget ws a 11 12).bind fun q => ai_Run 230 32 ls (q :: st) ws := R_getf hc_230 dX11_does_29 hv_230 (w := 1036) rfl rfl
theorem r_230_32 (l0 l2 l3 l4 : Value) (a : Int32) (st : List Value) (ws : ai_W) : ai_Run 230 32 [l0, .int a, l2, l3, l4] st ws = ai_Run 230 33 [l0, .int a, l2, l3, l4] (.int a :: st) ws := R_iload_n hc_230 dX11_does_32 rfl rfl
theorem r_230_33 (ls st : List Value) (a : Nat) (i : Int32) (ws : ai_W) : ai_Run 230 33 ls (.int i :: .ref a :: st) ws = (ai_aget ws a i).bind fun q => ai_Run 230 34 ls (.int q :: st) ws := R_iaload hc_230 dX11_does_33 rfl
theorem r_230_34 (ls st : List Value) (x : Int32) (ws : ai_W) : ai_Run 230 34 ls (.int x :: st) ws = if x = 97 then ai_Run 230 149 ls st ws else if x = 99 then ai_Run 230 144 ls st ws else if x = 100 then ai_Run 230 154 ls st ws else if x = 106 then ai_Run 230 197 ls st ws else if x = 109 then ai_Run 230 188 ls st ws else if x = 111 then ai_Run 230 181 ls st ws else if x = 114 then ai_Run 230 161 ls st ws else if x = 119 then ai_Run 230 174 ls st ws else if x = 120 then ai_Run 230 168 ls st ws else ai_Run 230 218 ls st ws := by
  by_cases h97 : x = 97
  · subst h97; rw [if_pos rfl]; exact R_switch hc_230 dX11_does_34 (by decide +kernel)
  rw [if_neg h97]
  by_cases h99 : x = 99
  · subst h99; rw [if_pos rfl]; exact R_switch hc_230 dX11_does_34 (by decide +kernel)
  rw [if_neg h99]
  by_cases h100 : x = 100
  · subst h100; rw [if_pos rfl]; exact R_switch hc_230 dX11_does_34 (by decide +kernel)
  rw [if_neg h100]
  by_cases h106 : x = 106
  · subst h106; rw [if_pos rfl]; exact R_switch hc_230 dX11_does_34 (by decide +kernel)
  rw [if_neg h106]
  by_cases h109 : x = 109
  · subst h109; rw [if_pos rfl]; exact R_switch hc_230 dX11_does_34 (by decide +kernel)
  rw [if_neg h109]
  by_cases h111 : x = 111
  · subst h111; rw [if_pos rfl]; exact R_switch hc_230 dX11_does_34 (by decide +kernel)
  rw [if_neg h111]
  by_cases h114 : x = 114
  · subst h114; rw [if_pos rfl]; exact R_switch hc_230 dX11_does_34 (by decide +kernel)
  rw [if_neg h114]
  by_cases h119 : x = 119
  · subst h119; rw [if_pos rfl]; exact R_switch hc_230 dX11_does_34 (by decide +kernel)
  rw [if_neg h119]
  by_cases h120 : x = 120
  · subst h120; rw [if_pos rfl]; exact R_switch hc_230 dX11_does_34 (by decide +kernel)
  rw [if_neg h120]
  by_cases h98 : x = 98
  · subst h98; exact R_switch hc_230 dX11_does_34 (by decide +kernel)
  by_cases h101 : x = 101
  · subst h101; exact R_switch hc_230 dX11_does_34 (by decide +kernel)
  by_cases h102 : x = 102
  · subst h102; exact R_switch hc_230 dX11_does_34 (by decide +kernel)
  by_cases h103 : x = 103
  · subst h103; exact R_switch hc_230 dX11_does_34 (by decide +kernel)
  by_cases h104 : x = 104
  · subst h104; exact R_switch hc_230 dX11_does_34 (by decide +kernel)
  by_cases h105 : x = 105
  · subst h105; exact R_switch hc_230 dX11_does_34 (by decide +kernel)
  by_cases h107 : x = 107
  · subst h107; exact R_switch hc_230 dX11_does_34 (by decide +kernel)
  by_cases h108 : x = 108
  · subst h108; exact R_switch hc_230 dX11_does_34 (by decide +kernel)
  by_cases h110 : x = 110
  · subst h110; exact R_switch hc_230 dX11_does_34 (by decide +kernel)
  by_cases h112 : x = 112
  · subst h112; exact R_switch hc_230 dX11_does_34 (by decide +kernel)
  by_cases h113 : x = 113
  · subst h113; exact R_switch hc_230 dX11_does_34 (by decide +kernel)
  by_cases h115 : x = 115
  · subst h115; exact R_switch hc_230 dX11_does_34 (by decide +kernel)
  by_cases h116 : x = 116
  · subst h116; exact R_switch hc_230 dX11_does_34 (by decide +kernel)
  by_cases h117 : x = 117
  · subst h117; exact R_switch hc_230 dX11_does_34 (by decide +kernel)
  by_cases h118 : x = 118
  · subst h118; exact R_switch hc_230 dX11_does_34 (by decide +kernel)
  have q97 : x.toInt ≠ 97 := fun e => h97 (Int32.toInt_inj.mp e)
  have q98 : x.toInt ≠ 98 := fun e => h98 (Int32.toInt_inj.mp e)
  have q99 : x.toInt ≠ 99 := fun e => h99 (Int32.toInt_inj.mp e)
  have q100 : x.toInt ≠ 100 := fun e => h100 (Int32.toInt_inj.mp e)
  have q101 : x.toInt ≠ 101 := fun e => h101 (Int32.toInt_inj.mp e)
  have q102 : x.toInt ≠ 102 := fun e => h102 (Int32.toInt_inj.mp e)
  have q103 : x.toInt ≠ 103 := fun e => h103 (Int32.toInt_inj.mp e)
  have q104 : x.toInt ≠ 104 := fun e => h104 (Int32.toInt_inj.mp e)
  have q105 : x.toInt ≠ 105 := fun e => h105 (Int32.toInt_inj.mp e)
  have q106 : x.toInt ≠ 106 := fun e => h106 (Int32.toInt_inj.mp e)
  have q107 : x.toInt ≠ 107 := fun e => h107 (Int32.toInt_inj.mp e)
  have q108 : x.toInt ≠ 108 := fun e => h108 (Int32.toInt_inj.mp e)
  have q109 : x.toInt ≠ 109 := fun e => h109 (Int32.toInt_inj.mp e)
  have q110 : x.toInt ≠ 110 := fun e => h110 (Int32.toInt_inj.mp e)
  have q111 : x.toInt ≠ 111 := fun e => h111 (Int32.toInt_inj.mp e)
  have q112 : x.toInt ≠ 112 := fun e => h112 (Int32.toInt_inj.mp e)
  have q113 : x.toInt ≠ 113 := fun e => h113 (Int32.toInt_inj.mp e)
  have q114 : x.toInt ≠ 114 := fun e => h114 (Int32.toInt_inj.mp e)
  have q115 : x.toInt ≠ 115 := fun e => h115 (Int32.toInt_inj.mp e)
  have q116 : x.toInt ≠ 116 := fun e => h116 (Int32.toInt_inj.mp e)
  have q117 : x.toInt ≠ 117 := fun e => h117 (Int32.toInt_inj.mp e)
  have q118 : x.toInt ≠ 118 := fun e => h118 (Int32.toInt_inj.mp e)
  have q119 : x.toInt ≠ 119 := fun e => h119 (Int32.toInt_inj.mp e)
  have q120 : x.toInt ≠ 120 := fun e => h120 (Int32.toInt_inj.mp e)
  refine R_switch hc_230 dX11_does_34 (t := 218) ?_
  unfold ai_sw
  rw [if_pos (by omega)]
  rfl
theorem r_230_144 (l1 l2 l3 l4 : Value) (a : Nat) (st : List Value) (ws : ai_W) : ai_Run 230 144 [.ref a, l1, l2, l3, l4] st ws = ai_Run 230 145 [.ref a, l1, l2, l3, l4] (.ref a :: st) ws := R_aload_n hc_230 dX11_does_144 rfl rfl
theorem r_230_145 (ls : List Value) (r : Nat) (ws : ai_W) : ai_Run 230 145 ls [.ref r] ws = (ai_Call 198 [.ref r] ws).bind fun q => ai_Run 230 148 ls (q.1.toList ++ []) q.2 := R_callV hc_230 dX11_does_145 hv_230 (w := 1084) rfl (Nat.le_of_ble_eq_true rfl) hk_198 (by rw [hn_198]; rfl) rfl (Nat.le_of_ble_eq_true rfl) rfl
theorem r_230_148 (ls : List Value) (x : Int32) (ws : ai_W) : ai_Run 230 148 ls [.int x] ws = some (some (.int x), ws) := R_iret hc_230 dX11_does_148 ht_230
theorem r_230_149 (l1 l2 l3 l4 : Value) (a : Nat) (st : List Value) (ws : ai_W) : ai_Run 230 149 [.ref a, l1, l2, l3, l4] st ws = ai_Run 230 150 [.ref a, l1, l2, l3, l4] (.ref a :: st) ws := R_aload_n hc_230 dX11_does_149 rfl rfl
theorem r_230_150 (ls : List Value) (r : Nat) (ws : ai_W) : ai_Run 230 150 ls [.ref r] ws = (ai_Call 184 [.ref r] ws).bind fun q => ai_Run 230 153 ls (q.1.toList ++ []) q.2 := R_callV hc_230 dX11_does_150 hv_230 (w := 1111) rfl (Nat.le_of_ble_eq_true rfl) hk_184 (by rw [hn_184]; rfl) rfl (Nat.le_of_ble_eq_true rfl) rfl
theorem r_230_153 (ls : List Value) (x : Int32) (ws : ai_W) : ai_Run 230 153 ls [.int x] ws = some (some (.int x), ws) := R_iret hc_230 dX11_does_153 ht_230
theorem r_230_154 (l1 l2 l3 l4 : Value) (a : Nat) (st : List Value) (ws : ai_W) : ai_Run 230 154 [.ref a, l1, l2, l3, l4] st ws = ai_Run 230 155 [.ref a, l1, l2, l3, l4] (.ref a :: st) ws := R_aload_n hc_230 dX11_does_154 rfl rfl
theorem r_230_155 (l0 l1 l3 l4 : Value) (a : Int32) (st : List Value) (ws : ai_W) : ai_Run 230 155 [l0, l1, .int a, l3, l4] st ws = ai_Run 230 156 [l0, l1, .int a, l3, l4] (.int a :: st) ws := R_iload_n hc_230 dX11_does_155 rfl rfl
theorem r_230_156 (l0 l1 l2 l4 : Value) (a : Int32) (st : List Value) (ws : ai_W) : ai_Run 230 156 [l0, l1, l2, .int a, l4] st ws = ai_Run 230 157 [l0, l1, l2, .int a, l4] (.int a :: st) ws := R_iload_n hc_230 dX11_does_156 rfl rfl
theorem r_230_157 (ls : List Value) (r : Nat) (b0 : Int32) (b1 : Int32) (ws : ai_W) : ai_Run 230 157 ls [.int b1, .int b0, .ref r] ws = (ai_Call 216 [.ref r, .int b0, .int b1] ws).bind fun q => ai_Run 230 160 ls (q.1.toList ++ []) q.2 := R_callV hc_230 dX11_does_157 hv_230 (w := 1119) rfl (Nat.le_of_ble_eq_true rfl) hk_216 (by rw [hn_216]; rfl) rfl (Nat.le_of_ble_eq_true rfl) rfl
theorem r_230_160 (ls : List Value) (x : Int32) (ws : ai_W) : ai_Run 230 160 ls [.int x] ws = some (some (.int x), ws) := R_iret hc_230 dX11_does_160 ht_230
theorem r_230_161 (l1 l2 l3 l4 : Value) (a : Nat) (st : List Value) (ws : ai_W) : ai_Run 230 161 [.ref a, l1, l2, l3, l4] st ws = ai_Run 230 162 [.ref a, l1, l2, l3, l4] (.ref a :: st) ws := R_aload_n hc_230 dX11_does_161 rfl rfl
theorem r_230_162 (l0 l1 l3 l4 : Value) (a : Int32) (st : List Value) (ws : ai_W) : ai_Run 230 162 [l0, l1, .int a, l3, l4] st ws = ai_Run 230 163 [l0, l1, .int a, l3, l4] (.int a :: st) ws := R_iload_n hc_230 dX11_does_162 rfl rfl
theorem r_230_163 (l0 l1 l2 l4 : Value) (a : Int32) (st : List Value) (ws : ai_W) : ai_Run 230 163 [l0, l1, l2, .int a, l4] st ws = ai_Run 230 164 [l0, l1, l2, .int a, l4] (.int a :: st) ws := R_iload_n hc_230 dX11_does_163 rfl rfl
theorem r_230_164 (ls : List Value) (r : Nat) (b0 : Int32) (b1 : Int32) (ws : ai_W) : ai_Run 230 164 ls [.int b1, .int b0, .ref r] ws = (ai_Call 218 [.ref r, .int b0, .int b1] ws).bind fun q => ai_Run 230 167 ls (q.1.toList ++ []) q.2 := R_callV hc_230 dX11_does_164 hv_230 (w := 1161) rfl (Nat.le_of_ble_eq_true rfl) hk_218 (by rw [hn_218]; rfl) rfl (Nat.le_of_ble_eq_true rfl) rfl
theorem r_230_167 (ls : List Value) (x : Int32) (ws : ai_W) : ai_Run 230 167 ls [.int x] ws = some (some (.int x), ws) := R_iret hc_230 dX11_does_167 ht_230
theorem r_230_168 (l1 l2 l3 l4 : Value) (a : Nat) (st : List Value) (ws : ai_W) : ai_Run 230 168 [.ref a, l1, l2, l3, l4] st ws = ai_Run 230 169 [.ref a, l1, l2, l3, l4] (.ref a :: st) ws := R_aload_n hc_230 dX11_does_168 rfl rfl
theorem r_230_169 (l0 l1 l3 l4 : Value) (a : Int32) (st : List Value) (ws : ai_W) : ai_Run 230 169 [l0, l1, .int a, l3, l4] st ws = ai_Run 230 170 [l0, l1, .int a, l3, l4] (.int a :: st) ws := R_iload_n hc_230 dX11_does_169 rfl rfl
theorem r_230_170 (ls : List Value) (r : Nat) (b0 : Int32) (ws : ai_W) : ai_Run 230 170 ls [.int b0, .ref r] ws = (ai_Call 219 [.ref r, .int b0] ws).bind fun q => ai_Run 230 173 ls (q.1.toList ++ []) q.2 := R_callV hc_230 dX11_does_170 hv_230 (w := 1169) rfl (Nat.le_of_ble_eq_true rfl) hk_219 (by rw [hn_219]; rfl) rfl (Nat.le_of_ble_eq_true rfl) rfl
theorem r_230_173 (ls : List Value) (x : Int32) (ws : ai_W) : ai_Run 230 173 ls [.int x] ws = some (some (.int x), ws) := R_iret hc_230 dX11_does_173 ht_230
theorem r_230_174 (l1 l2 l3 l4 : Value) (a : Nat) (st : List Value) (ws : ai_W) : ai_Run 230 174 [.ref a, l1, l2, l3, l4] st ws = ai_Run 230 175 [.ref a, l1, l2, l3, l4] (.ref a :: st) ws := R_aload_n hc_230 dX11_does_174 rfl rfl
theorem r_230_175 (l0 l1 l3 l4 : Value) (a : Int32) (st : List Value) (ws : ai_W) : ai_Run 230 175 [l0, l1, .int a, l3, l4] st ws = ai_Run 230 176 [l0, l1, .int a, l3, l4] (.int a :: st) ws := R_iload_n hc_230 dX11_does_175 rfl rfl
theorem r_230_176 (l0 l1 l2 l4 : Value) (a : Int32) (st : List Value) (ws : ai_W) : ai_Run 230 176 [l0, l1, l2, .int a, l4] st ws = ai_Run 230 177 [l0, l1, l2, .int a, l4] (.int a :: st) ws := R_iload_n hc_230 dX11_does_176 rfl rfl
theorem r_230_177 (ls : List Value) (r : Nat) (b0 : Int32) (b1 : Int32) (ws : ai_W) : ai_Run 230 177 ls [.int b1, .int b0, .ref r] ws = (ai_Call 220 [.ref r, .int b0, .int b1] ws).bind fun q => ai_Run 230 180 ls (q.1.toList ++ []) q.2 := R_callV hc_230 dX11_does_177 hv_230 (w := 1177) rfl (Nat.le_of_ble_eq_true rfl) hk_220 (by rw [hn_220]; rfl) rfl (Nat.le_of_ble_eq_true rfl) rfl
theorem r_230_180 (ls : List Value) (x : Int32) (ws : ai_W) : ai_Run 230 180 ls [.int x] ws = some (some (.int x), ws) := R_iret hc_230 dX11_does_180 ht_230
theorem r_230_181 (l1 l2 l3 l4 : Value) (a : Nat) (st : List Value) (ws : ai_W) : ai_Run 230 181 [.ref a, l1, l2, l3, l4] st ws = ai_Run 230 182 [.ref a, l1, l2, l3, l4] (.ref a :: st) ws := R_aload_n hc_230 dX11_does_181 rfl rfl
theorem r_230_182 (l0 l1 l3 l4 : Value) (a : Int32) (st : List Value) (ws : ai_W) : ai_Run 230 182 [l0, l1, .int a, l3, l4] st ws = ai_Run 230 183 [l0, l1, .int a, l3, l4] (.int a :: st) ws := R_iload_n hc_230 dX11_does_182 rfl rfl
theorem r_230_183 (l0 l1 l2 l4 : Value) (a : Int32) (st : List Value) (ws : ai_W) : ai_Run 230 183 [l0, l1, l2, .int a, l4] st ws = ai_Run 230 184 [l0, l1, l2, .int a, l4] (.int a :: st) ws := R_iload_n hc_230 dX11_does_183 rfl rfl
theorem r_230_184 (ls : List Value) (r : Nat) (b0 : Int32) (b1 : Int32) (ws : ai_W) : ai_Run 230 184 ls [.int b1, .int b0, .ref r] ws = (ai_Call 221 [.ref r, .int b0, .int b1] ws).bind fun q => ai_Run 230 187 ls (q.1.toList ++ []) q.2 := R_callV hc_230 dX11_does_184 hv_230 (w := 1189) rfl (Nat.le_of_ble_eq_true rfl) hk_221 (by rw [hn_221]; rfl) rfl (Nat.le_of_ble_eq_true rfl) rfl
theorem r_230_187 (ls : List Value) (x : Int32) (ws : ai_W) : ai_Run 230 187 ls [.int x] ws = some (some (.int x), ws) := R_iret hc_230 dX11_does_187 ht_230
theorem r_230_188 (l1 l2 l3 l4 : Value) (a : Nat) (st : List Value) (ws : ai_W) : ai_Run 230 188 [.ref a, l1, l2, l3, l4] st ws = ai_Run 230 189 [.ref a, l1, l2, l3, l4] (.ref a :: st) ws := R_aload_n hc_230 dX11_does_188 rfl rfl
theorem r_230_189 (l0 l1 l3 l4 : Value) (a : Int32) (st : List Value) (ws : ai_W) : ai_Run 230 189 [l0, l1, .int a, l3, l4] st ws = ai_Run 230 190 [l0, l1, .int a, l3, l4] (.int a :: st) ws := R_iload_n hc_230 dX11_does_189 rfl rfl
theorem r_230_190 (l0 l1 l2 l4 : Value) (a : Int32) (st : List Value) (ws : ai_W) : ai_Run 230 190 [l0, l1, l2, .int a, l4] st ws = ai_Run 230 191 [l0, l1, l2, .int a, l4] (.int a :: st) ws := R_iload_n hc_230 dX11_does_190 rfl rfl
theorem r_230_191 (l0 l1 l2 l3 : Value) (a : Int32) (st : List Value) (ws : ai_W) : ai_Run 230 191 [l0, l1, l2, l3, .int a] st ws = ai_Run 230 193 [l0, l1, l2, l3, .int a] (.int a :: st) ws := R_iload hc_230 dX11_does_191 rfl rfl
theorem r_230_193 (ls : List Value) (r : Nat) (b0 : Int32) (b1 : Int32) (b2 : Int32) (ws : ai_W) : ai_Run 230 193 ls [.int b2, .int b1, .int b0, .ref r] ws = (ai_Call 222 [.ref r, .int b0, .int b1, .int b2] ws).bind fun q => ai_Run 230 196 ls (q.1.toList ++ []) q.2 := R_callV hc_230 dX11_does_193 hv_230 (w := 1201) rfl (Nat.le_of_ble_eq_true rfl) hk_222 (by rw [hn_222]; rfl) rfl (Nat.le_of_ble_eq_true rfl) rfl
theorem r_230_196 (ls : List Value) (x : Int32) (ws : ai_W) : ai_Run 230 196 ls [.int x] ws = some (some (.int x), ws) := R_iret hc_230 dX11_does_196 ht_230
theorem r_230_197 (l0 l1 l2 l4 : Value) (a : Int32) (st : List Value) (ws : ai_W) : ai_Run 230 197 [l0, l1, l2, .int a, l4] st ws = ai_Run 230 198 [l0, l1, l2, .int a, l4] (.int a :: st) ws := R_iload_n hc_230 dX11_does_197 rfl rfl
theorem r_230_198 (ls st : List Value) (ws : ai_W) : ai_Run 230 198 ls st ws = ai_Run 230 200 ls (.int (-4) :: st) ws := R_bipush hc_230 dX11_does_198 (by decide) rfl
theorem r_230_200 (ls st : List Value) (a b : Int32) (ws : ai_W) : ai_Run 230 200 ls (.int b :: .int a :: st) ws = if a = b then ai_Run 230 203 ls st ws else ai_Run 230 211 ls st ws := R_cmp_ne hc_230 dX11_does_200 rfl rfl
theorem r_230_203 (l1 l2 l3 l4 : Value) (a : Nat) (st : List Value) (ws : ai_W) : ai_Run 230 203 [.ref a, l1, l2, l3, l4] st ws = ai_Run 230 204 [.ref a, l1, l2, l3, l4] (.ref a :: st) ws := R_aload_n hc_230 dX11_does_203 rfl rfl
theorem r_230_204 (l0 l1 l3 l4 : Value) (a : Int32) (st : List Value) (ws : ai_W) : ai_Run 230 204 [l0, l1, .int a, l3, l4] st ws = ai_Run 230 205 [l0, l1, .int a, l3, l4] (.int a :: st) ws := R_iload_n hc_230 dX11_does_204 rfl rfl
theorem r_230_205 (ls : List Value) (r : Nat) (b0 : Int32) (ws : ai_W) : ai_Run 230 205 ls [.int b0, .ref r] ws = (ai_Call 224 [.ref r, .int b0] ws).bind fun q => ai_Run 230 208 ls (q.1.toList ++ []) q.2 := R_callV hc_230 dX11_does_205 hv_230 (w := 1228) rfl (Nat.le_of_ble_eq_true rfl) hk_224 (by rw [hn_224]; rfl) rfl (Nat.le_of_ble_eq_true rfl) rfl
theorem r_230_208 (ls st : List Value) (ws : ai_W) : ai_Run 230 208 ls st ws = ai_Run 230 217 ls st ws := R_goto hc_230 dX11_does_208 rfl
theorem r_230_211 (l1 l2 l3 l4 : Value) (a : Nat) (st : List Value) (ws : ai_W) : ai_Run 230 211 [.ref a, l1, l2, l3, l4] st ws = ai_Run 230 212 [.ref a, l1, l2, l3, l4] (.ref a :: st) ws := R_aload_n hc_230 dX11_does_211 rfl rfl
theorem r_230_212 (l0 l1 l3 l4 : Value) (a : Int32) (st : List Value) (ws : ai_W) : ai_Run 230 212 [l0, l1, .int a, l3, l4] st ws = ai_Run 230 213 [l0, l1, .int a, l3, l4] (.int a :: st) ws := R_iload_n hc_230 dX11_does_212 rfl rfl
theorem r_230_213 (l0 l1 l2 l4 : Value) (a : Int32) (st : List Value) (ws : ai_W) : ai_Run 230 213 [l0, l1, l2, .int a, l4] st ws = ai_Run 230 214 [l0, l1, l2, .int a, l4] (.int a :: st) ws := R_iload_n hc_230 dX11_does_213 rfl rfl
theorem r_230_214 (ls : List Value) (r : Nat) (b0 : Int32) (b1 : Int32) (ws : ai_W) : ai_Run 230 214 ls [.int b1, .int b0, .ref r] ws = (ai_Call 225 [.ref r, .int b0, .int b1] ws).bind fun q => ai_Run 230 217 ls (q.1.toList ++ []) q.2 := R_callV hc_230 dX11_does_214 hv_230 (w := 1213) rfl (Nat.le_of_ble_eq_true rfl) hk_225 (by rw [hn_225]; rfl) rfl (Nat.le_of_ble_eq_true rfl) rfl
theorem r_230_217 (ls : List Value) (x : Int32) (ws : ai_W) : ai_Run 230 217 ls [.int x] ws = some (some (.int x), ws) := R_iret hc_230 dX11_does_217 ht_230
theorem r_230_218 (l1 l2 l3 l4 : Value) (a : Nat) (st : List Value) (ws : ai_W) : ai_Run 230 218 [.ref a, l1, l2, l3, l4] st ws = ai_Run 230 219 [.ref a, l1, l2, l3, l4] (.ref a :: st) ws := R_aload_n hc_230 dX11_does_218 rfl rfl
theorem r_230_219 (l0 l1 l3 l4 : Value) (a : Int32) (st : List Value) (ws : ai_W) : ai_Run 230 219 [l0, l1, .int a, l3, l4] st ws = ai_Run 230 220 [l0, l1, .int a, l3, l4] (.int a :: st) ws := R_iload_n hc_230 dX11_does_219 rfl rfl
theorem r_230_220 (l0 l1 l2 l4 : Value) (a : Int32) (st : List Value) (ws : ai_W) : ai_Run 230 220 [l0, l1, l2, .int a, l4] st ws = ai_Run 230 221 [l0, l1, l2, .int a, l4] (.int a :: st) ws := R_iload_n hc_230 dX11_does_220 rfl rfl
theorem r_230_221 (l0 l1 l2 l3 : Value) (a : Int32) (st : List Value) (ws : ai_W) : ai_Run 230 221 [l0, l1, l2, l3, .int a] st ws = ai_Run 230 223 [l0, l1, l2, l3, .int a] (.int a :: st) ws := R_iload hc_230 dX11_does_221 rfl rfl
theorem r_230_223 (ls : List Value) (r : Nat) (b0 : Int32) (b1 : Int32) (b2 : Int32) (ws : ai_W) : ai_Run 230 223 ls [.int b2, .int b1, .int b0, .ref r] ws = (ai_Call 229 [.ref r, .int b0, .int b1, .int b2] ws).bind fun q => ai_Run 230 226 ls (q.1.toList ++ []) q.2 := R_callV hc_230 dX11_does_223 hv_230 (w := 1236) rfl (Nat.le_of_ble_eq_true rfl) hk_229 (by rw [hn_229]; rfl) rfl (Nat.le_of_ble_eq_true rfl) rfl
theorem r_230_226 (ls : List Value) (x : Int32) (ws : ai_W) : ai_Run 230 226 ls [.int x] ws = some (some (.int x), ws) := R_iret hc_230 dX11_does_226 ht_230
theorem dX11_guilty_0 : decode cX11_guilty 0 = .ok (.aload_n 0, 1) := by decide +kernel
theorem dX11_guilty_1 : decode cX11_guilty 1 = .ok (.iload_n 1, 1) := by decide +kernel
theorem dX11_guilty_2 : decode cX11_guilty 2 = .ok (.invokevirtual 63, 3) := by decide +kernel
theorem dX11_guilty_5 : decode cX11_guilty 5 = .ok (.ifCond .eq 12, 3) := by decide +kernel
theorem dX11_guilty_8 : decode cX11_guilty 8 = .ok (.aload_n 0, 1) := by decide +kernel
theorem dX11_guilty_9 : decode cX11_guilty 9 = .ok (.iload_n 2, 1) := by decide +kernel
theorem dX11_guilty_10 : decode cX11_guilty 10 = .ok (.iload_n 3, 1) := by decide +kernel
theorem dX11_guilty_11 : decode cX11_guilty 11 = .ok (.invokevirtual 163, 3) := by decide +kernel
theorem dX11_guilty_14 : decode cX11_guilty 14 = .ok (.ifCond .ne 5, 3) := by decide +kernel
theorem dX11_guilty_17 : decode cX11_guilty 17 = .ok (.iconst (-1), 1) := by decide +kernel
theorem dX11_guilty_18 : decode cX11_guilty 18 = .ok (.ireturn, 1) := by decide +kernel
theorem dX11_guilty_19 : decode cX11_guilty 19 = .ok (.iload_n 1, 1) := by decide +kernel
theorem dX11_guilty_20 : decode cX11_guilty 20 = .ok (.iload_n 2, 1) := by decide +kernel
theorem dX11_guilty_21 : decode cX11_guilty 21 = .ok (.if_icmp .ne 8, 3) := by decide +kernel
theorem dX11_guilty_24 : decode cX11_guilty 24 = .ok (.bipush (-2), 2) := by decide +kernel
theorem dX11_guilty_26 : decode cX11_guilty 26 = .ok (.goto 10, 3) := by decide +kernel
theorem dX11_guilty_29 : decode cX11_guilty 29 = .ok (.aload_n 0, 1) := by decide +kernel
theorem dX11_guilty_30 : decode cX11_guilty 30 = .ok (.iload_n 1, 1) := by decide +kernel
theorem dX11_guilty_31 : decode cX11_guilty 31 = .ok (.iload_n 2, 1) := by decide +kernel
theorem dX11_guilty_32 : decode cX11_guilty 32 = .ok (.iload_n 3, 1) := by decide +kernel
theorem dX11_guilty_33 : decode cX11_guilty 33 = .ok (.invokevirtual 160, 3) := by decide +kernel
theorem dX11_guilty_36 : decode cX11_guilty 36 = .ok (.ireturn, 1) := by decide +kernel
theorem e_231 (r : Nat) (a0 : Int32) (a1 : Int32) (a2 : Int32) (ws : ai_W) : ai_Call 231 [.ref r, .int a0, .int a1, .int a2] ws = if ai_isob ws r 11 = true then ai_Run 231 0 [.ref r, .int a0, .int a1, .int a2] [] ws else none := R_entV hk_231 ⟨⟨rfl, rfl⟩, Nat.le_of_ble_eq_true rfl⟩ rfl
theorem r_231_0 (l1 l2 l3 : Value) (a : Nat) (st : List Value) (ws : ai_W) : ai_Run 231 0 [.ref a, l1, l2, l3] st ws = ai_Run 231 1 [.ref a, l1, l2, l3] (.ref a :: st) ws := R_aload_n hc_231 dX11_guilty_0 rfl rfl
theorem r_231_1 (l0 l2 l3 : Value) (a : Int32) (st : List Value) (ws : ai_W) : ai_Run 231 1 [l0, .int a, l2, l3] st ws = ai_Run 231 2 [l0, .int a, l2, l3] (.int a :: st) ws := R_iload_n hc_231 dX11_guilty_1 rfl rfl
theorem r_231_2 (ls : List Value) (r : Nat) (b0 : Int32) (ws : ai_W) : ai_Run 231 2 ls [.int b0, .ref r] ws = (ai_Call 200 [.ref r, .int b0] ws).bind fun q => ai_Run 231 5 ls (q.1.toList ++ []) q.2 := R_callV hc_231 dX11_guilty_2 hv_231 (w := 1123) rfl (Nat.le_of_ble_eq_true rfl) hk_200 (by rw [hn_200]; rfl) rfl (Nat.le_of_ble_eq_true rfl) rfl
theorem r_231_5 (ls st : List Value) (a : Int32) (ws : ai_W) : ai_Run 231 5 ls (.int a :: st) ws = if a = 0 then ai_Run 231 17 ls st ws else ai_Run 231 8 ls st ws := R_if_eq hc_231 dX11_guilty_5 rfl rfl
theorem r_231_8 (l1 l2 l3 : Value) (a : Nat) (st : List Value) (ws : ai_W) : ai_Run 231 8 [.ref a, l1, l2, l3] st ws = ai_Run 231 9 [.ref a, l1, l2, l3] (.ref a :: st) ws := R_aload_n hc_231 dX11_guilty_8 rfl rfl
theorem r_231_9 (l0 l1 l3 : Value) (a : Int32) (st : List Value) (ws : ai_W) : ai_Run 231 9 [l0, l1, .int a, l3] st ws = ai_Run 231 10 [l0, l1, .int a, l3] (.int a :: st) ws := R_iload_n hc_231 dX11_guilty_9 rfl rfl
theorem r_231_10 (l0 l1 l2 : Value) (a : Int32) (st : List Value) (ws : ai_W) : ai_Run 231 10 [l0, l1, l2, .int a] st ws = ai_Run 231 11 [l0, l1, l2, .int a] (.int a :: st) ws := R_iload_n hc_231 dX11_guilty_10 rfl rfl
theorem r_231_11 (ls : List Value) (r : Nat) (b0 : Int32) (b1 : Int32) (ws : ai_W) : ai_Run 231 11 ls [.int b1, .int b0, .ref r] ws = (ai_Call 211 [.ref r, .int b0, .int b1] ws).bind fun q => ai_Run 231 14 ls (q.1.toList ++ []) q.2 := R_callV hc_231 dX11_guilty_11 hv_231 (w := 1240) rfl (Nat.le_of_ble_eq_true rfl) hk_211 (by rw [hn_211]; rfl) rfl (Nat.le_of_ble_eq_true rfl) rfl
theorem r_231_14 (ls st : List Value) (a : Int32) (ws : ai_W) : ai_Run 231 14 ls (.int a :: st) ws = if a = 0 then ai_Run 231 17 ls st ws else ai_Run 231 19 ls st ws := R_if_ne hc_231 dX11_guilty_14 rfl rfl
theorem r_231_17 (ls st : List Value) (ws : ai_W) : ai_Run 231 17 ls st ws = ai_Run 231 18 ls (.int (-1) :: st) ws := R_iconst hc_231 dX11_guilty_17 (by decide) rfl
theorem r_231_18 (ls : List Value) (x : Int32) (ws : ai_W) : ai_Run 231 18 ls [.int x] ws = some (some (.int x), ws) := R_iret hc_231 dX11_guilty_18 ht_231
theorem r_231_19 (l0 l2 l3 : Value) (a : Int32) (st : List Value) (ws : ai_W) : ai_Run 231 19 [l0, .int a, l2, l3] st ws = ai_Run 231 20 [l0, .int a, l2, l3] (.int a :: st) ws := R_iload_n hc_231 dX11_guilty_19 rfl rfl
theorem r_231_20 (l0 l1 l3 : Value) (a : Int32) (st : List Value) (ws : ai_W) : ai_Run 231 20 [l0, l1, .int a, l3] st ws = ai_Run 231 21 [l0, l1, .int a, l3] (.int a :: st) ws := R_iload_n hc_231 dX11_guilty_20 rfl rfl
theorem r_231_21 (ls st : List Value) (a b : Int32) (ws : ai_W) : ai_Run 231 21 ls (.int b :: .int a :: st) ws = if a = b then ai_Run 231 24 ls st ws else ai_Run 231 29 ls st ws := R_cmp_ne hc_231 dX11_guilty_21 rfl rfl
theorem r_231_24 (ls st : List Value) (ws : ai_W) : ai_Run 231 24 ls st ws = ai_Run 231 26 ls (.int (-2) :: st) ws := R_bipush hc_231 dX11_guilty_24 (by decide) rfl
theorem r_231_26 (ls st : List Value) (ws : ai_W) : ai_Run 231 26 ls st ws = ai_Run 231 36 ls st ws := R_goto hc_231 dX11_guilty_26 rfl
theorem r_231_29 (l1 l2 l3 : Value) (a : Nat) (st : List Value) (ws : ai_W) : ai_Run 231 29 [.ref a, l1, l2, l3] st ws = ai_Run 231 30 [.ref a, l1, l2, l3] (.ref a :: st) ws := R_aload_n hc_231 dX11_guilty_29 rfl rfl
theorem r_231_30 (l0 l2 l3 : Value) (a : Int32) (st : List Value) (ws : ai_W) : ai_Run 231 30 [l0, .int a, l2, l3] st ws = ai_Run 231 31 [l0, .int a, l2, l3] (.int a :: st) ws := R_iload_n hc_231 dX11_guilty_30 rfl rfl
theorem r_231_31 (l0 l1 l3 : Value) (a : Int32) (st : List Value) (ws : ai_W) : ai_Run 231 31 [l0, l1, .int a, l3] st ws = ai_Run 231 32 [l0, l1, .int a, l3] (.int a :: st) ws := R_iload_n hc_231 dX11_guilty_31 rfl rfl
theorem r_231_32 (l0 l1 l2 : Value) (a : Int32) (st : List Value) (ws : ai_W) : ai_Run 231 32 [l0, l1, l2, .int a] st ws = ai_Run 231 33 [l0, l1, l2, .int a] (.int a :: st) ws := R_iload_n hc_231 dX11_guilty_32 rfl rfl
theorem r_231_33 (ls : List Value) (r : Nat) (b0 : Int32) (b1 : Int32) (b2 : Int32) (ws : ai_W) : ai_Run 231 33 ls [.int b2, .int b1, .int b0, .ref r] ws = (ai_Call 227 [.ref r, .int b0, .int b1, .int b2] ws).bind fun q => ai_Run 231 36 ls (q.1.toList ++ []) q.2 := R_callV hc_231 dX11_guilty_33 hv_231 (w := 1264) rfl (Nat.le_of_ble_eq_true rfl) hk_227 (by rw [hn_227]; rfl) rfl (Nat.le_of_ble_eq_true rfl) rfl
theorem r_231_36 (ls : List Value) (x : Int32) (ws : ai_W) : ai_Run 231 36 ls [.int x] ws = some (some (.int x), ws) := R_iret hc_231 dX11_guilty_36 ht_231
theorem dX11_isAhead_0 : decode cX11_isAhead 0 = .ok (.iconst 0, 1) := by decide +kernel
theorem dX11_isAhead_1 : decode cX11_isAhead 1 = .ok (.istore 4, 2) := by decide +kernel
theorem dX11_isAhead_3 : decode cX11_isAhead 3 = .ok (.iload_n 1, 1) := by decide +kernel
theorem dX11_isAhead_4 : decode cX11_isAhead 4 = .ok (.ifCond .ne 19, 3) := by decide +kernel
theorem dX11_isAhead_7 : decode cX11_isAhead 7 = .ok (.aload_n 0, 1) := by decide +kernel
theorem dX11_isAhead_8 : decode cX11_isAhead 8 = .ok (.iload_n 2, 1) := by decide +kernel
theorem dX11_isAhead_9 : decode cX11_isAhead 9 = .ok (.invokevirtual 66, 3) := by decide +kernel
theorem dX11_isAhead_12 : decode cX11_isAhead 12 = .ok (.aload_n 0, 1) := by decide +kernel
theorem dX11_isAhead_13 : decode cX11_isAhead 13 = .ok (.iload_n 3, 1) := by decide +kernel
theorem dX11_isAhead_14 : decode cX11_isAhead 14 = .ok (.invokevirtual 66, 3) := by decide +kernel
theorem dX11_isAhead_17 : decode cX11_isAhead 17 = .ok (.isub, 1) := by decide +kernel
theorem dX11_isAhead_18 : decode cX11_isAhead 18 = .ok (.istore 4, 2) := by decide +kernel
theorem dX11_isAhead_20 : decode cX11_isAhead 20 = .ok (.goto 60, 3) := by decide +kernel
theorem dX11_isAhead_23 : decode cX11_isAhead 23 = .ok (.iload_n 1, 1) := by decide +kernel
theorem dX11_isAhead_24 : decode cX11_isAhead 24 = .ok (.iconst 1, 1) := by decide +kernel
theorem dX11_isAhead_25 : decode cX11_isAhead 25 = .ok (.if_icmp .ne 19, 3) := by decide +kernel
theorem dX11_isAhead_28 : decode cX11_isAhead 28 = .ok (.aload_n 0, 1) := by decide +kernel
theorem dX11_isAhead_29 : decode cX11_isAhead 29 = .ok (.iload_n 3, 1) := by decide +kernel
theorem dX11_isAhead_30 : decode cX11_isAhead 30 = .ok (.invokevirtual 178, 3) := by decide +kernel
theorem dX11_isAhead_33 : decode cX11_isAhead 33 = .ok (.aload_n 0, 1) := by decide +kernel
theorem dX11_isAhead_34 : decode cX11_isAhead 34 = .ok (.iload_n 2, 1) := by decide +kernel
theorem dX11_isAhead_35 : decode cX11_isAhead 35 = .ok (.invokevirtual 178, 3) := by decide +kernel
theorem dX11_isAhead_38 : decode cX11_isAhead 38 = .ok (.isub, 1) := by decide +kernel
theorem dX11_isAhead_39 : decode cX11_isAhead 39 = .ok (.istore 4, 2) := by decide +kernel
theorem dX11_isAhead_41 : decode cX11_isAhead 41 = .ok (.goto 39, 3) := by decide +kernel
theorem dX11_isAhead_44 : decode cX11_isAhead 44 = .ok (.iload_n 1, 1) := by decide +kernel
theorem dX11_isAhead_45 : decode cX11_isAhead 45 = .ok (.iconst 2, 1) := by decide +kernel
theorem dX11_isAhead_46 : decode cX11_isAhead 46 = .ok (.if_icmp .ne 19, 3) := by decide +kernel
theorem dX11_isAhead_49 : decode cX11_isAhead 49 = .ok (.aload_n 0, 1) := by decide +kernel
theorem dX11_isAhead_50 : decode cX11_isAhead 50 = .ok (.iload_n 2, 1) := by decide +kernel
theorem dX11_isAhead_51 : decode cX11_isAhead 51 = .ok (.invokevirtual 184, 3) := by decide +kernel
theorem dX11_isAhead_54 : decode cX11_isAhead 54 = .ok (.aload_n 0, 1) := by decide +kernel
theorem dX11_isAhead_55 : decode cX11_isAhead 55 = .ok (.iload_n 3, 1) := by decide +kernel
theorem dX11_isAhead_56 : decode cX11_isAhead 56 = .ok (.invokevirtual 184, 3) := by decide +kernel
theorem dX11_isAhead_59 : decode cX11_isAhead 59 = .ok (.isub, 1) := by decide +kernel
theorem dX11_isAhead_60 : decode cX11_isAhead 60 = .ok (.istore 4, 2) := by decide +kernel
theorem dX11_isAhead_62 : decode cX11_isAhead 62 = .ok (.goto 18, 3) := by decide +kernel
theorem dX11_isAhead_65 : decode cX11_isAhead 65 = .ok (.aload_n 0, 1) := by decide +kernel
theorem dX11_isAhead_66 : decode cX11_isAhead 66 = .ok (.iload_n 2, 1) := by decide +kernel
theorem dX11_isAhead_67 : decode cX11_isAhead 67 = .ok (.iconst 0, 1) := by decide +kernel
theorem dX11_isAhead_68 : decode cX11_isAhead 68 = .ok (.invokevirtual 197, 3) := by decide +kernel
theorem dX11_isAhead_71 : decode cX11_isAhead 71 = .ok (.aload_n 0, 1) := by decide +kernel
theorem dX11_isAhead_72 : decode cX11_isAhead 72 = .ok (.iload_n 3, 1) := by decide +kernel
theorem dX11_isAhead_73 : decode cX11_isAhead 73 = .ok (.iconst 0, 1) := by decide +kernel
theorem dX11_isAhead_74 : decode cX11_isAhead 74 = .ok (.invokevirtual 197, 3) := by decide +kernel
theorem dX11_isAhead_77 : decode cX11_isAhead 77 = .ok (.isub, 1) := by decide +kernel
theorem dX11_isAhead_78 : decode cX11_isAhead 78 = .ok (.istore 4, 2) := by decide +kernel
theorem dX11_isAhead_80 : decode cX11_isAhead 80 = .ok (.iload 4, 2) := by decide +kernel
theorem dX11_isAhead_82 : decode cX11_isAhead 82 = .ok (.ifCond .eq 16, 3) := by decide +kernel
theorem dX11_isAhead_85 : decode cX11_isAhead 85 = .ok (.iload 4, 2) := by decide +kernel
theorem dX11_isAhead_87 : decode cX11_isAhead 87 = .ok (.ifCond .le 7, 3) := by decide +kernel
theorem dX11_isAhead_90 : decode cX11_isAhead 90 = .ok (.iconst 1, 1) := by decide +kernel
theorem dX11_isAhead_91 : decode cX11_isAhead 91 = .ok (.goto 17, 3) := by decide +kernel
theorem dX11_isAhead_94 : decode cX11_isAhead 94 = .ok (.iconst 0, 1) := by decide +kernel
theorem dX11_isAhead_95 : decode cX11_isAhead 95 = .ok (.goto 13, 3) := by decide +kernel
theorem dX11_isAhead_98 : decode cX11_isAhead 98 = .ok (.iload_n 2, 1) := by decide +kernel
theorem dX11_isAhead_99 : decode cX11_isAhead 99 = .ok (.iload_n 3, 1) := by decide +kernel
theorem dX11_isAhead_100 : decode cX11_isAhead 100 = .ok (.if_icmp .ge 7, 3) := by decide +kernel
theorem dX11_isAhead_103 : decode cX11_isAhead 103 = .ok (.iconst 1, 1) := by decide +kernel
theorem dX11_isAhead_104 : decode cX11_isAhead 104 = .ok (.goto 4, 3) := by decide +kernel
theorem dX11_isAhead_107 : decode cX11_isAhead 107 = .ok (.iconst 0, 1) := by decide +kernel
theorem dX11_isAhead_108 : decode cX11_isAhead 108 = .ok (.ireturn, 1) := by decide +kernel
theorem e_232 (r : Nat) (a0 : Int32) (a1 : Int32) (a2 : Int32) (ws : ai_W) : ai_Call 232 [.ref r, .int a0, .int a1, .int a2] ws = if ai_isob ws r 11 = true then ai_Run 232 0 [.ref r, .int a0, .int a1, .int a2, .null] [] ws else none := R_entV hk_232 ⟨⟨rfl, rfl⟩, Nat.le_of_ble_eq_true rfl⟩ rfl
theorem r_232_0 (ls st : List Value) (ws : ai_W) : ai_Run 232 0 ls st ws = ai_Run 232 1 ls (.int 0 :: st) ws := R_iconst hc_232 dX11_isAhead_0 (by decide) rfl
theorem r_232_1 (l0 l1 l2 l3 l4 : Value) (a : Int32) (st : List Value) (ws : ai_W) : ai_Run 232 1 [l0, l1, l2, l3, l4] (.int a :: st) ws = ai_Run 232 3 [l0, l1, l2, l3, .int a] st ws := R_istore hc_232 dX11_isAhead_1 (Nat.le_of_ble_eq_true rfl) rfl rfl
theorem r_232_3 (l0 l2 l3 l4 : Value) (a : Int32) (st : List Value) (ws : ai_W) : ai_Run 232 3 [l0, .int a, l2, l3, l4] st ws = ai_Run 232 4 [l0, .int a, l2, l3, l4] (.int a :: st) ws := R_iload_n hc_232 dX11_isAhead_3 rfl rfl
theorem r_232_4 (ls st : List Value) (a : Int32) (ws : ai_W) : ai_Run 232 4 ls (.int a :: st) ws = if a = 0 then ai_Run 232 7 ls st ws else ai_Run 232 23 ls st ws := R_if_ne hc_232 dX11_isAhead_4 rfl rfl
theorem r_232_7 (l1 l2 l3 l4 : Value) (a : Nat) (st : List Value) (ws : ai_W) : ai_Run 232 7 [.ref a, l1, l2, l3, l4] st ws = ai_Run 232 8 [.ref a, l1, l2, l3, l4] (.ref a :: st) ws := R_aload_n hc_232 dX11_isAhead_7 rfl rfl
theorem r_232_8 (l0 l1 l3 l4 : Value) (a : Int32) (st : List Value) (ws : ai_W) : ai_Run 232 8 [l0, l1, .int a, l3, l4] st ws = ai_Run 232 9 [l0, l1, .int a, l3, l4] (.int a :: st) ws := R_iload_n hc_232 dX11_isAhead_8 rfl rfl
theorem r_232_9 (ls : List Value) (r : Nat) (b0 : Int32) (ws : ai_W) : ai_Run 232 9 ls [.int b0, .ref r] ws = (ai_Call 166 [.ref r, .int b0] ws).bind fun q => ai_Run 232 12 ls (q.1.toList ++ []) q.2 := R_callV hc_232 dX11_isAhead_9 hv_232 (w := 1141) rfl (Nat.le_of_ble_eq_true rfl) hk_166 (by rw [hn_166]; rfl) rfl (Nat.le_of_ble_eq_true rfl) rfl
theorem r_232_12 (l1 l2 l3 l4 : Value) (a : Nat) (st : List Value) (ws : ai_W) : ai_Run 232 12 [.ref a, l1, l2, l3, l4] st ws = ai_Run 232 13 [.ref a, l1, l2, l3, l4] (.ref a :: st) ws := R_aload_n hc_232 dX11_isAhead_12 rfl rfl
theorem r_232_13 (l0 l1 l2 l4 : Value) (a : Int32) (st : List Value) (ws : ai_W) : ai_Run 232 13 [l0, l1, l2, .int a, l4] st ws = ai_Run 232 14 [l0, l1, l2, .int a, l4] (.int a :: st) ws := R_iload_n hc_232 dX11_isAhead_13 rfl rfl
theorem r_232_14 (ls : List Value) (r : Nat) (b0 : Int32) (s0 : Value) (ws : ai_W) : ai_Run 232 14 ls [.int b0, .ref r, s0] ws = (ai_Call 166 [.ref r, .int b0] ws).bind fun q => ai_Run 232 17 ls (q.1.toList ++ [s0]) q.2 := R_callV hc_232 dX11_isAhead_14 hv_232 (w := 1141) rfl (Nat.le_of_ble_eq_true rfl) hk_166 (by rw [hn_166]; rfl) rfl (Nat.le_of_ble_eq_true rfl) rfl
theorem r_232_17 (ls st : List Value) (a b : Int32) (ws : ai_W) : ai_Run 232 17 ls (.int b :: .int a :: st) ws = ai_Run 232 18 ls (.int (a - b) :: st) ws := R_isub hc_232 dX11_isAhead_17 rfl
theorem r_232_18 (l0 l1 l2 l3 l4 : Value) (a : Int32) (st : List Value) (ws : ai_W) : ai_Run 232 18 [l0, l1, l2, l3, l4] (.int a :: st) ws = ai_Run 232 20 [l0, l1, l2, l3, .int a] st ws := R_istore hc_232 dX11_isAhead_18 (Nat.le_of_ble_eq_true rfl) rfl rfl
theorem r_232_20 (ls st : List Value) (ws : ai_W) : ai_Run 232 20 ls st ws = ai_Run 232 80 ls st ws := R_goto hc_232 dX11_isAhead_20 rfl
theorem r_232_23 (l0 l2 l3 l4 : Value) (a : Int32) (st : List Value) (ws : ai_W) : ai_Run 232 23 [l0, .int a, l2, l3, l4] st ws = ai_Run 232 24 [l0, .int a, l2, l3, l4] (.int a :: st) ws := R_iload_n hc_232 dX11_isAhead_23 rfl rfl
theorem r_232_24 (ls st : List Value) (ws : ai_W) : ai_Run 232 24 ls st ws = ai_Run 232 25 ls (.int 1 :: st) ws := R_iconst hc_232 dX11_isAhead_24 (by decide) rfl
theorem r_232_25 (ls st : List Value) (a b : Int32) (ws : ai_W) : ai_Run 232 25 ls (.int b :: .int a :: st) ws = if a = b then ai_Run 232 28 ls st ws else ai_Run 232 44 ls st ws := R_cmp_ne hc_232 dX11_isAhead_25 rfl rfl
theorem r_232_28 (l1 l2 l3 l4 : Value) (a : Nat) (st : List Value) (ws : ai_W) : ai_Run 232 28 [.ref a, l1, l2, l3, l4] st ws = ai_Run 232 29 [.ref a, l1, l2, l3, l4] (.ref a :: st) ws := R_aload_n hc_232 dX11_isAhead_28 rfl rfl
theorem r_232_29 (l0 l1 l2 l4 : Value) (a : Int32) (st : List Value) (ws : ai_W) : ai_Run 232 29 [l0, l1, l2, .int a, l4] st ws = ai_Run 232 30 [l0, l1, l2, .int a, l4] (.int a :: st) ws := R_iload_n hc_232 dX11_isAhead_29 rfl rfl
theorem r_232_30 (ls : List Value) (r : Nat) (b0 : Int32) (ws : ai_W) : ai_Run 232 30 ls [.int b0, .ref r] ws = (ai_Call 201 [.ref r, .int b0] ws).bind fun q => ai_Run 232 33 ls (q.1.toList ++ []) q.2 := R_callV hc_232 dX11_isAhead_30 hv_232 (w := 1288) rfl (Nat.le_of_ble_eq_true rfl) hk_201 (by rw [hn_201]; rfl) rfl (Nat.le_of_ble_eq_true rfl) rfl
theorem r_232_33 (l1 l2 l3 l4 : Value) (a : Nat) (st : List Value) (ws : ai_W) : ai_Run 232 33 [.ref a, l1, l2, l3, l4] st ws = ai_Run 232 34 [.ref a, l1, l2, l3, l4] (.ref a :: st) ws := R_aload_n hc_232 dX11_isAhead_33 rfl rfl
theorem r_232_34 (l0 l1 l3 l4 : Value) (a : Int32) (st : List Value) (ws : ai_W) : ai_Run 232 34 [l0, l1, .int a, l3, l4] st ws = ai_Run 232 35 [l0, l1, .int a, l3, l4] (.int a :: st) ws := R_iload_n hc_232 dX11_isAhead_34 rfl rfl
theorem r_232_35 (ls : List Value) (r : Nat) (b0 : Int32) (s0 : Value) (ws : ai_W) : ai_Run 232 35 ls [.int b0, .ref r, s0] ws = (ai_Call 201 [.ref r, .int b0] ws).bind fun q => ai_Run 232 38 ls (q.1.toList ++ [s0]) q.2 := R_callV hc_232 dX11_isAhead_35 hv_232 (w := 1288) rfl (Nat.le_of_ble_eq_true rfl) hk_201 (by rw [hn_201]; rfl) rfl (Nat.le_of_ble_eq_true rfl) rfl
theorem r_232_38 (ls st : List Value) (a b : Int32) (ws : ai_W) : ai_Run 232 38 ls (.int b :: .int a :: st) ws = ai_Run 232 39 ls (.int (a - b) :: st) ws := R_isub hc_232 dX11_isAhead_38 rfl
theorem r_232_39 (l0 l1 l2 l3 l4 : Value) (a : Int32) (st : List Value) (ws : ai_W) : ai_Run 232 39 [l0, l1, l2, l3, l4] (.int a :: st) ws = ai_Run 232 41 [l0, l1, l2, l3, .int a] st ws := R_istore hc_232 dX11_isAhead_39 (Nat.le_of_ble_eq_true rfl) rfl rfl
theorem r_232_41 (ls st : List Value) (ws : ai_W) : ai_Run 232 41 ls st ws = ai_Run 232 80 ls st ws := R_goto hc_232 dX11_isAhead_41 rfl
theorem r_232_44 (l0 l2 l3 l4 : Value) (a : Int32) (st : List Value) (ws : ai_W) : ai_Run 232 44 [l0, .int a, l2, l3, l4] st ws = ai_Run 232 45 [l0, .int a, l2, l3, l4] (.int a :: st) ws := R_iload_n hc_232 dX11_isAhead_44 rfl rfl
theorem r_232_45 (ls st : List Value) (ws : ai_W) : ai_Run 232 45 ls st ws = ai_Run 232 46 ls (.int 2 :: st) ws := R_iconst hc_232 dX11_isAhead_45 (by decide) rfl
theorem r_232_46 (ls st : List Value) (a b : Int32) (ws : ai_W) : ai_Run 232 46 ls (.int b :: .int a :: st) ws = if a = b then ai_Run 232 49 ls st ws else ai_Run 232 65 ls st ws := R_cmp_ne hc_232 dX11_isAhead_46 rfl rfl
theorem r_232_49 (l1 l2 l3 l4 : Value) (a : Nat) (st : List Value) (ws : ai_W) : ai_Run 232 49 [.ref a, l1, l2, l3, l4] st ws = ai_Run 232 50 [.ref a, l1, l2, l3, l4] (.ref a :: st) ws := R_aload_n hc_232 dX11_isAhead_49 rfl rfl
theorem r_232_50 (l0 l1 l3 l4 : Value) (a : Int32) (st : List Value) (ws : ai_W) : ai_Run 232 50 [l0, l1, .int a, l3, l4] st ws = ai_Run 232 51 [l0, l1, .int a, l3, l4] (.int a :: st) ws := R_iload_n hc_232 dX11_isAhead_50 rfl rfl
theorem r_232_51 (ls : List Value) (r : Nat) (b0 : Int32) (ws : ai_W) : ai_Run 232 51 ls [.int b0, .ref r] ws = (ai_Call 202 [.ref r, .int b0] ws).bind fun q => ai_Run 232 54 ls (q.1.toList ++ []) q.2 := R_callV hc_232 dX11_isAhead_51 hv_232 (w := 1296) rfl (Nat.le_of_ble_eq_true rfl) hk_202 (by rw [hn_202]; rfl) rfl (Nat.le_of_ble_eq_true rfl) rfl
theorem r_232_54 (l1 l2 l3 l4 : Value) (a : Nat) (st : List Value) (ws : ai_W) : ai_Run 232 54 [.ref a, l1, l2, l3, l4] st ws = ai_Run 232 55 [.ref a, l1, l2, l3, l4] (.ref a :: st) ws := R_aload_n hc_232 dX11_isAhead_54 rfl rfl
theorem r_232_55 (l0 l1 l2 l4 : Value) (a : Int32) (st : List Value) (ws : ai_W) : ai_Run 232 55 [l0, l1, l2, .int a, l4] st ws = ai_Run 232 56 [l0, l1, l2, .int a, l4] (.int a :: st) ws := R_iload_n hc_232 dX11_isAhead_55 rfl rfl
theorem r_232_56 (ls : List Value) (r : Nat) (b0 : Int32) (s0 : Value) (ws : ai_W) : ai_Run 232 56 ls [.int b0, .ref r, s0] ws = (ai_Call 202 [.ref r, .int b0] ws).bind fun q => ai_Run 232 59 ls (q.1.toList ++ [s0]) q.2 := R_callV hc_232 dX11_isAhead_56 hv_232 (w := 1296) rfl (Nat.le_of_ble_eq_true rfl) hk_202 (by rw [hn_202]; rfl) rfl (Nat.le_of_ble_eq_true rfl) rfl
theorem r_232_59 (ls st : List Value) (a b : Int32) (ws : ai_W) : ai_Run 232 59 ls (.int b :: .int a :: st) ws = ai_Run 232 60 ls (.int (a - b) :: st) ws := R_isub hc_232 dX11_isAhead_59 rfl
theorem r_232_60 (l0 l1 l2 l3 l4 : Value) (a : Int32) (st : List Value) (ws : ai_W) : ai_Run 232 60 [l0, l1, l2, l3, l4] (.int a :: st) ws = ai_Run 232 62 [l0, l1, l2, l3, .int a] st ws := R_istore hc_232 dX11_isAhead_60 (Nat.le_of_ble_eq_true rfl) rfl rfl
theorem r_232_62 (ls st : List Value) (ws : ai_W) : ai_Run 232 62 ls st ws = ai_Run 232 80 ls st ws := R_goto hc_232 dX11_isAhead_62 rfl
theorem r_232_65 (l1 l2 l3 l4 : Value) (a : Nat) (st : List Value) (ws : ai_W) : ai_Run 232 65 [.ref a, l1, l2, l3, l4] st ws = ai_Run 232 66 [.ref a, l1, l2, l3, l4] (.ref a :: st) ws := R_aload_n hc_232 dX11_isAhead_65 rfl rfl
theorem r_232_66 (l0 l1 l3 l4 : Value) (a : Int32) (st : List Value) (ws : ai_W) : ai_Run 232 66 [l0, l1, .int a, l3, l4] st ws = ai_Run 232 67 [l0, l1, .int a, l3, l4] (.int a :: st) ws := R_iload_n hc_232 dX11_isAhead_66 rfl rfl
theorem r_232_67 (ls st : List Value) (ws : ai_W) : ai_Run 232 67 ls st ws = ai_Run 232 68 ls (.int 0 :: st) ws := R_iconst hc_232 dX11_isAhead_67 (by decide) rfl
theorem r_232_68 (ls : List Value) (r : Nat) (b0 : Int32) (b1 : Int32) (ws : ai_W) : ai_Run 232 68 ls [.int b1, .int b0, .ref r] ws = (ai_Call 192 [.ref r, .int b0, .int b1] ws).bind fun q => ai_Run 232 71 ls (q.1.toList ++ []) q.2 := R_callV hc_232 dX11_isAhead_68 hv_232 (w := 1320) rfl (Nat.le_of_ble_eq_true rfl) hk_192 (by rw [hn_192]; rfl) rfl (Nat.le_of_ble_eq_true rfl) rfl
theorem r_232_71 (l1 l2 l3 l4 : Value) (a : Nat) (st : List Value) (ws : ai_W) : ai_Run 232 71 [.ref a, l1, l2, l3, l4] st ws = ai_Run 232 72 [.ref a, l1, l2, l3, l4] (.ref a :: st) ws := R_aload_n hc_232 dX11_isAhead_71 rfl rfl
theorem r_232_72 (l0 l1 l2 l4 : Value) (a : Int32) (st : List Value) (ws : ai_W) : ai_Run 232 72 [l0, l1, l2, .int a, l4] st ws = ai_Run 232 73 [l0, l1, l2, .int a, l4] (.int a :: st) ws := R_iload_n hc_232 dX11_isAhead_72 rfl rfl
theorem r_232_73 (ls st : List Value) (ws : ai_W) : ai_Run 232 73 ls st ws = ai_Run 232 74 ls (.int 0 :: st) ws := R_iconst hc_232 dX11_isAhead_73 (by decide) rfl
theorem r_232_74 (ls : List Value) (r : Nat) (b0 : Int32) (b1 : Int32) (s0 : Value) (ws : ai_W) : ai_Run 232 74 ls [.int b1, .int b0, .ref r, s0] ws = (ai_Call 192 [.ref r, .int b0, .int b1] ws).bind fun q => ai_Run 232 77 ls (q.1.toList ++ [s0]) q.2 := R_callV hc_232 dX11_isAhead_74 hv_232 (w := 1320) rfl (Nat.le_of_ble_eq_true rfl) hk_192 (by rw [hn_192]; rfl) rfl (Nat.le_of_ble_eq_true rfl) rfl
theorem r_232_77 (ls st : List Value) (a b : Int32) (ws : ai_W) : ai_Run 232 77 ls (.int b :: .int a :: st) ws = ai_Run 232 78 ls (.int (a - b) :: st) ws := R_isub hc_232 dX11_isAhead_77 rfl
theorem r_232_78 (l0 l1 l2 l3 l4 : Value) (a : Int32) (st : List Value) (ws : ai_W) : ai_Run 232 78 [l0, l1, l2, l3, l4] (.int a :: st) ws = ai_Run 232 80 [l0, l1, l2, l3, .int a] st ws := R_istore hc_232 dX11_isAhead_78 (Nat.le_of_ble_eq_true rfl) rfl rfl
theorem r_232_80 (l0 l1 l2 l3 : Value) (a : Int32) (st : List Value) (ws : ai_W) : ai_Run 232 80 [l0, l1, l2, l3, .int a] st ws = ai_Run 232 82 [l0, l1, l2, l3, .int a] (.int a :: st) ws := R_iload hc_232 dX11_isAhead_80 rfl rfl
theorem r_232_82 (ls st : List Value) (a : Int32) (ws : ai_W) : ai_Run 232 82 ls (.int a :: st) ws = if a = 0 then ai_Run 232 98 ls st ws else ai_Run 232 85 ls st ws := R_if_eq hc_232 dX11_isAhead_82 rfl rfl
theorem r_232_85 (l0 l1 l2 l3 : Value) (a : Int32) (st : List Value) (ws : ai_W) : ai_Run 232 85 [l0, l1, l2, l3, .int a] st ws = ai_Run 232 87 [l0, l1, l2, l3, .int a] (.int a :: st) ws := R_iload hc_232 dX11_isAhead_85 rfl rfl
theorem r_232_87 (ls st : List Value) (a : Int32) (ws : ai_W) : ai_Run 232 87 ls (.int a :: st) ws = if 0 < a then ai_Run 232 90 ls st ws else ai_Run 232 94 ls st ws := R_if_le hc_232 dX11_isAhead_87 rfl rfl
theorem r_232_90 (ls st : List Value) (ws : ai_W) : ai_Run 232 90 ls st ws = ai_Run 232 91 ls (.int 1 :: st) ws := R_iconst hc_232 dX11_isAhead_90 (by decide) rfl
theorem r_232_91 (ls st : List Value) (ws : ai_W) : ai_Run 232 91 ls st ws = ai_Run 232 108 ls st ws := R_goto hc_232 dX11_isAhead_91 rfl
theorem r_232_94 (ls st : List Value) (ws : ai_W) : ai_Run 232 94 ls st ws = ai_Run 232 95 ls (.int 0 :: st) ws := R_iconst hc_232 dX11_isAhead_94 (by decide) rfl
theorem r_232_95 (ls st : List Value) (ws : ai_W) : ai_Run 232 95 ls st ws = ai_Run 232 108 ls st ws := R_goto hc_232 dX11_isAhead_95 rfl
theorem r_232_98 (l0 l1 l3 l4 : Value) (a : Int32) (st : List Value) (ws : ai_W) : ai_Run 232 98 [l0, l1, .int a, l3, l4] st ws = ai_Run 232 99 [l0, l1, .int a, l3, l4] (.int a :: st) ws := R_iload_n hc_232 dX11_isAhead_98 rfl rfl
theorem r_232_99 (l0 l1 l2 l4 : Value) (a : Int32) (st : List Value) (ws : ai_W) : ai_Run 232 99 [l0, l1, l2, .int a, l4] st ws = ai_Run 232 100 [l0, l1, l2, .int a, l4] (.int a :: st) ws := R_iload_n hc_232 dX11_isAhead_99 rfl rfl
theorem r_232_100 (ls st : List Value) (a b : Int32) (ws : ai_W) : ai_Run 232 100 ls (.int b :: .int a :: st) ws = if a < b then ai_Run 232 103 ls st ws else ai_Run 232 107 ls st ws := R_cmp_ge hc_232 dX11_isAhead_100 rfl rfl
theorem r_232_103 (ls st : List Value) (ws : ai_W) : ai_Run 232 103 ls st ws = ai_Run 232 104 ls (.int 1 :: st) ws := R_iconst hc_232 dX11_isAhead_103 (by decide) rfl
theorem r_232_104 (ls st : List Value) (ws : ai_W) : ai_Run 232 104 ls st ws = ai_Run 232 108 ls st ws := R_goto hc_232 dX11_isAhead_104 rfl
theorem r_232_107 (ls st : List Value) (ws : ai_W) : ai_Run 232 107 ls st ws = ai_Run 232 108 ls (.int 0 :: st) ws := R_iconst hc_232 dX11_isAhead_107 (by decide) rfl
theorem r_232_108 (ls : List Value) (x : Int32) (ws : ai_W) : ai_Run 232 108 ls [.int x] ws = if ai_pb x = true then some (some (.int x), ws) else none := R_zret hc_232 dX11_isAhead_108 ht_232
theorem dX11_signHere_0 : decode cX11_signHere 0 = .ok (.aload_n 0, 1) := by decide +kernel
theorem dX11_signHere_1 : decode cX11_signHere 1 = .ok (.getfield 228, 3) := by decide +kernel
theorem dX11_signHere_4 : decode cX11_signHere 4 = .ok (.aload_n 0, 1) := by decide +kernel
theorem dX11_signHere_5 : decode cX11_signHere 5 = .ok (.getfield 225, 3) := by decide +kernel
theorem dX11_signHere_8 : decode cX11_signHere 8 = .ok (.if_icmp .ge 15, 3) := by decide +kernel
theorem dX11_signHere_11 : decode cX11_signHere 11 = .ok (.aload_n 0, 1) := by decide +kernel
theorem dX11_signHere_12 : decode cX11_signHere 12 = .ok (.getfield 29, 3) := by decide +kernel
theorem dX11_signHere_15 : decode cX11_signHere 15 = .ok (.aload_n 0, 1) := by decide +kernel
theorem dX11_signHere_16 : decode cX11_signHere 16 = .ok (.getfield 228, 3) := by decide +kernel
theorem dX11_signHere_19 : decode cX11_signHere 19 = .ok (.iaload, 1) := by decide +kernel
theorem dX11_signHere_20 : decode cX11_signHere 20 = .ok (.goto 4, 3) := by decide +kernel
theorem dX11_signHere_23 : decode cX11_signHere 23 = .ok (.iconst (-1), 1) := by decide +kernel
theorem dX11_signHere_24 : decode cX11_signHere 24 = .ok (.ireturn, 1) := by decide +kernel
theorem e_233 (r : Nat)  (ws : ai_W) : ai_Call 233 [.ref r] ws = if ai_isob ws r 11 = true then ai_Run 233 0 [.ref r] [] ws else none := R_entV hk_233 ⟨⟨rfl, rfl⟩, Nat.le_of_ble_eq_true rfl⟩ rfl
theorem r_233_0 (a : Nat) (st : List Value) (ws : ai_W) : ai_Run 233 0 [.ref a] st ws = ai_Run 233 1 [.ref a] (.ref a :: st) ws := R_aload_n hc_233 dX11_signHere_0 rfl rfl
theorem r_233_1 (ls st : List Value) (a : Nat) (ws : ai_W) : ai_Run 233 1 ls (.ref a :: st) ws = (ai_fget ws a 11 14).bind fun q => ai_Run 233 4 ls (q :: st) ws := R_getf hc_233 dX11_signHere_1 hv_233 (w := 1038) rfl rfl
theorem r_233_4 (a : Nat) (st : List Value) (ws : ai_W) : ai_Run 233 4 [.ref a] st ws = ai_Run 233 5 [.ref a] (.ref a :: st) ws := R_aload_n hc_233 dX11_signHere_4 rfl rfl
theorem r_233_5 (ls st : List Value) (a : Nat) (ws : ai_W) : ai_Run 233 5 ls (.ref a :: st) ws = (ai_fget ws a 11 13).bind fun q => ai_Run 233 8 ls (q :: st) ws := R_getf hc_233 dX11_signHere_5 hv_233 (w := 1037) rfl rfl
theorem r_233_8 (ls st : List Value) (a b : Int32) (ws : ai_W) : ai_Run 233 8 ls (.int b :: .int a :: st) ws = if a < b then ai_Run 233 11 ls st ws else ai_Run 233 23 ls st ws := R_cmp_ge hc_233 dX11_signHere_8 rfl rfl
theorem r_233_11 (a : Nat) (st : List Value) (ws : ai_W) : ai_Run 233 11 [.ref a] st ws = ai_Run 233 12 [.ref a] (.ref a :: st) ws := R_aload_n hc_233 dX11_signHere_11 rfl rfl
theorem r_233_12 (ls st : List Value) (a : Nat) (ws : ai_W) : ai_Run 233 12 ls (.ref a :: st) ws = (ai_fget ws a 11 11).bind fun q => ai_Run 233 15 ls (q :: st) ws := R_getf hc_233 dX11_signHere_12 hv_233 (w := 1035) rfl rfl
theorem r_233_15 (a : Nat) (st : List Value) (ws : ai_W) : ai_Run 233 15 [.ref a] st ws = ai_Run 233 16 [.ref a] (.ref a :: st) ws := R_aload_n hc_233 dX11_signHere_15 rfl rfl
theorem r_233_16 (ls st : List Value) (a : Nat) (ws : ai_W) : ai_Run 233 16 ls (.ref a :: st) ws = (ai_fget ws a 11 14).bind fun q => ai_Run 233 19 ls (q :: st) ws := R_getf hc_233 dX11_signHere_16 hv_233 (w := 1038) rfl rfl
theorem r_233_19 (ls st : List Value) (a : Nat) (i : Int32) (ws : ai_W) : ai_Run 233 19 ls (.int i :: .ref a :: st) ws = (ai_aget ws a i).bind fun q => ai_Run 233 20 ls (.int q :: st) ws := R_iaload hc_233 dX11_signHere_19 rfl
theorem r_233_20 (ls st : List Value) (ws : ai_W) : ai_Run 233 20 ls st ws = ai_Run 233 24 ls st ws := R_goto hc_233 dX11_signHere_20 rfl
theorem r_233_23 (ls st : List Value) (ws : ai_W) : ai_Run 233 23 ls st ws = ai_Run 233 24 ls (.int (-1) :: st) ws := R_iconst hc_233 dX11_signHere_23 (by decide) rfl
theorem r_233_24 (ls : List Value) (x : Int32) (ws : ai_W) : ai_Run 233 24 ls [.int x] ws = some (some (.int x), ws) := R_iret hc_233 dX11_signHere_24 ht_233
theorem dX11_isHere_0 : decode cX11_isHere 0 = .ok (.aload_n 0, 1) := by decide +kernel
theorem dX11_isHere_1 : decode cX11_isHere 1 = .ok (.invokevirtual 231, 3) := by decide +kernel
theorem dX11_isHere_4 : decode cX11_isHere 4 = .ok (.iload_n 1, 1) := by decide +kernel
theorem dX11_isHere_5 : decode cX11_isHere 5 = .ok (.if_icmp .ne 7, 3) := by decide +kernel
theorem dX11_isHere_8 : decode cX11_isHere 8 = .ok (.iconst 1, 1) := by decide +kernel
theorem dX11_isHere_9 : decode cX11_isHere 9 = .ok (.goto 4, 3) := by decide +kernel
theorem dX11_isHere_12 : decode cX11_isHere 12 = .ok (.iconst 0, 1) := by decide +kernel
theorem dX11_isHere_13 : decode cX11_isHere 13 = .ok (.istore_n 2, 1) := by decide +kernel
theorem dX11_isHere_14 : decode cX11_isHere 14 = .ok (.aload_n 0, 1) := by decide +kernel
theorem dX11_isHere_15 : decode cX11_isHere 15 = .ok (.dup, 1) := by decide +kernel
theorem dX11_isHere_16 : decode cX11_isHere 16 = .ok (.getfield 228, 3) := by decide +kernel
theorem dX11_isHere_19 : decode cX11_isHere 19 = .ok (.iload_n 2, 1) := by decide +kernel
theorem dX11_isHere_20 : decode cX11_isHere 20 = .ok (.ifCond .eq 7, 3) := by decide +kernel
theorem dX11_isHere_23 : decode cX11_isHere 23 = .ok (.iconst 1, 1) := by decide +kernel
theorem dX11_isHere_24 : decode cX11_isHere 24 = .ok (.goto 4, 3) := by decide +kernel
theorem dX11_isHere_27 : decode cX11_isHere 27 = .ok (.iconst 0, 1) := by decide +kernel
theorem dX11_isHere_28 : decode cX11_isHere 28 = .ok (.iadd, 1) := by decide +kernel
theorem dX11_isHere_29 : decode cX11_isHere 29 = .ok (.putfield 228, 3) := by decide +kernel
theorem dX11_isHere_32 : decode cX11_isHere 32 = .ok (.iload_n 2, 1) := by decide +kernel
theorem dX11_isHere_33 : decode cX11_isHere 33 = .ok (.ireturn, 1) := by decide +kernel
theorem e_234 (r : Nat) (a0 : Int32) (ws : ai_W) : ai_Call 234 [.ref r, .int a0] ws = if ai_isob ws r 11 = true then ai_Run 234 0 [.ref r, .int a0, .null] [] ws else none := R_entV hk_234 ⟨⟨rfl, rfl⟩, Nat.le_of_ble_eq_true rfl⟩ rfl
theorem r_234_0 (l1 l2 : Value) (a : Nat) (st : List Value) (ws : ai_W) : ai_Run 234 0 [.ref a, l1, l2] st ws = ai_Run 234 1 [.ref a, l1, l2] (.ref a :: st) ws := R_aload_n hc_234 dX11_isHere_0 rfl rfl
theorem r_234_1 (ls : List Value) (r : Nat) (ws : ai_W) : ai_Run 234 1 ls [.ref r] ws = (ai_Call 233 [.ref r] ws).bind fun q => ai_Run 234 4 ls (q.1.toList ++ []) q.2 := R_callV hc_234 dX11_isHere_1 hv_234 (w := 1406) rfl (Nat.le_of_ble_eq_true rfl) hk_233 (by rw [hn_233]; rfl) rfl (Nat.le_of_ble_eq_true rfl) rfl
theorem r_234_4 (l0 l2 : Value) (a : Int32) (st : List Value) (ws : ai_W) : ai_Run 234 4 [l0, .int a, l2] st ws = ai_Run 234 5 [l0, .int a, l2] (.int a :: st) ws := R_iload_n hc_234 dX11_isHere_4 rfl rfl
theorem r_234_5 (ls st : List Value) (a b : Int32) (ws : ai_W) : ai_Run 234 5 ls (.int b :: .int a :: st) ws = if a = b then ai_Run 234 8 ls st ws else ai_Run 234 12 ls st ws := R_cmp_ne hc_234 dX11_isHere_5 rfl rfl
theorem r_234_8 (ls st : List Value) (ws : ai_W) : ai_Run 234 8 ls st ws = ai_Run 234 9 ls (.int 1 :: st) ws := R_iconst hc_234 dX11_isHere_8 (by decide) rfl
theorem r_234_9 (ls st : List Value) (ws : ai_W) : ai_Run 234 9 ls st ws = ai_Run 234 13 ls st ws := R_goto hc_234 dX11_isHere_9 rfl
theorem r_234_12 (ls st : List Value) (ws : ai_W) : ai_Run 234 12 ls st ws = ai_Run 234 13 ls (.int 0 :: st) ws := R_iconst hc_234 dX11_isHere_12 (by decide) rfl
theorem r_234_13 (l0 l1 l2 : Value) (a : Int32) (st : List Value) (ws : ai_W) : ai_Run 234 13 [l0, l1, l2] (.int a :: st) ws = ai_Run 234 14 [l0, l1, .int a] st ws := R_istore_n hc_234 dX11_isHere_13 (Nat.le_of_ble_eq_true rfl) rfl rfl
theorem r_234_14 (l1 l2 : Value) (a : Nat) (st : List Value) (ws : ai_W) : ai_Run 234 14 [.ref a, l1, l2] st ws = ai_Run 234 15 [.ref a, l1, l2] (.ref a :: st) ws := R_aload_n hc_234 dX11_isHere_14 rfl rfl
theorem r_234_15 (ls st : List Value) (a : Nat) (ws : ai_W) : ai_Run 234 15 ls (.ref a :: st) ws = ai_Run 234 16 ls (.ref a :: .ref a :: st) ws := R_dup hc_234 dX11_isHere_15 rfl
theorem r_234_16 (ls st : List Value) (a : Nat) (ws : ai_W) : ai_Run 234 16 ls (.ref a :: st) ws = (ai_fget ws a 11 14).bind fun q => ai_Run 234 19 ls (q :: st) ws := R_getf hc_234 dX11_isHere_16 hv_234 (w := 1038) rfl rfl
theorem r_234_19 (l0 l1 : Value) (a : Int32) (st : List Value) (ws : ai_W) : ai_Run 234 19 [l0, l1, .int a] st ws = ai_Run 234 20 [l0, l1, .int a] (.int a :: st) ws := R_iload_n hc_234 dX11_isHere_19 rfl rfl
theorem r_234_20 (ls st : List Value) (a : Int32) (ws : ai_W) : ai_Run 234 20 ls (.int a :: st) ws = if a = 0 then ai_Run 234 27 ls st ws else ai_Run 234 23 ls st ws := R_if_eq hc_234 dX11_isHere_20 rfl rfl
theorem r_234_23 (ls st : List Value) (ws : ai_W) : ai_Run 234 23 ls st ws = ai_Run 234 24 ls (.int 1 :: st) ws := R_iconst hc_234 dX11_isHere_23 (by decide) rfl
theorem r_234_24 (ls st : List Value) (ws : ai_W) : ai_Run 234 24 ls st ws = ai_Run 234 28 ls st ws := R_goto hc_234 dX11_isHere_24 rfl
theorem r_234_27 (ls st : List Value) (ws : ai_W) : ai_Run 234 27 ls st ws = ai_Run 234 28 ls (.int 0 :: st) ws := R_iconst hc_234 dX11_isHere_27 (by decide) rfl
theorem r_234_28 (ls st : List Value) (a b : Int32) (ws : ai_W) : ai_Run 234 28 ls (.int b :: .int a :: st) ws = ai_Run 234 29 ls (.int (a + b) :: st) ws := R_iadd hc_234 dX11_isHere_28 rfl
theorem r_234_29 (ls st : List Value) (a : Nat) (x : Value) (ws : ai_W) : ai_Run 234 29 ls (x :: .ref a :: st) ws = (ai_fput ws a 11 14 x).bind fun ws => ai_Run 234 32 ls st ws := R_putf hc_234 dX11_isHere_29 hv_234 (w := 1038) rfl rfl rfl
theorem r_234_32 (l0 l1 : Value) (a : Int32) (st : List Value) (ws : ai_W) : ai_Run 234 32 [l0, l1, .int a] st ws = ai_Run 234 33 [l0, l1, .int a] (.int a :: st) ws := R_iload_n hc_234 dX11_isHere_32 rfl rfl
theorem r_234_33 (ls : List Value) (x : Int32) (ws : ai_W) : ai_Run 234 33 ls [.int x] ws = if ai_pb x = true then some (some (.int x), ws) else none := R_zret hc_234 dX11_isHere_33 ht_234
theorem dX11_isKind_0 : decode cX11_isKind 0 = .ok (.iload_n 0, 1) := by decide +kernel
theorem dX11_isKind_1 : decode cX11_isKind 1 = .ok (.bipush 99, 2) := by decide +kernel
theorem dX11_isKind_3 : decode cX11_isKind 3 = .ok (.if_icmp .eq 57, 3) := by decide +kernel
theorem dX11_isKind_6 : decode cX11_isKind 6 = .ok (.iload_n 0, 1) := by decide +kernel
theorem dX11_isKind_7 : decode cX11_isKind 7 = .ok (.bipush 97, 2) := by decide +kernel
theorem dX11_isKind_9 : decode cX11_isKind 9 = .ok (.if_icmp .eq 51, 3) := by decide +kernel
theorem dX11_isKind_12 : decode cX11_isKind 12 = .ok (.iload_n 0, 1) := by decide +kernel
theorem dX11_isKind_13 : decode cX11_isKind 13 = .ok (.bipush 100, 2) := by decide +kernel
theorem dX11_isKind_15 : decode cX11_isKind 15 = .ok (.if_icmp .eq 45, 3) := by decide +kernel
theorem dX11_isKind_18 : decode cX11_isKind 18 = .ok (.iload_n 0, 1) := by decide +kernel
theorem dX11_isKind_19 : decode cX11_isKind 19 = .ok (.bipush 114, 2) := by decide +kernel
theorem dX11_isKind_21 : decode cX11_isKind 21 = .ok (.if_icmp .eq 39, 3) := by decide +kernel
theorem dX11_isKind_24 : decode cX11_isKind 24 = .ok (.iload_n 0, 1) := by decide +kernel
theorem dX11_isKind_25 : decode cX11_isKind 25 = .ok (.bipush 120, 2) := by decide +kernel
theorem dX11_isKind_27 : decode cX11_isKind 27 = .ok (.if_icmp .eq 33, 3) := by decide +kernel
theorem dX11_isKind_30 : decode cX11_isKind 30 = .ok (.iload_n 0, 1) := by decide +kernel
theorem dX11_isKind_31 : decode cX11_isKind 31 = .ok (.bipush 119, 2) := by decide +kernel
theorem dX11_isKind_33 : decode cX11_isKind 33 = .ok (.if_icmp .eq 27, 3) := by decide +kernel
theorem dX11_isKind_36 : decode cX11_isKind 36 = .ok (.iload_n 0, 1) := by decide +kernel
theorem dX11_isKind_37 : decode cX11_isKind 37 = .ok (.bipush 111, 2) := by decide +kernel
theorem dX11_isKind_39 : decode cX11_isKind 39 = .ok (.if_icmp .eq 21, 3) := by decide +kernel
theorem dX11_isKind_42 : decode cX11_isKind 42 = .ok (.iload_n 0, 1) := by decide +kernel
theorem dX11_isKind_43 : decode cX11_isKind 43 = .ok (.bipush 109, 2) := by decide +kernel
theorem dX11_isKind_45 : decode cX11_isKind 45 = .ok (.if_icmp .eq 15, 3) := by decide +kernel
theorem dX11_isKind_48 : decode cX11_isKind 48 = .ok (.iload_n 0, 1) := by decide +kernel
theorem dX11_isKind_49 : decode cX11_isKind 49 = .ok (.bipush 106, 2) := by decide +kernel
theorem dX11_isKind_51 : decode cX11_isKind 51 = .ok (.if_icmp .eq 9, 3) := by decide +kernel
theorem dX11_isKind_54 : decode cX11_isKind 54 = .ok (.iload_n 0, 1) := by decide +kernel
theorem dX11_isKind_55 : decode cX11_isKind 55 = .ok (.bipush 116, 2) := by decide +kernel
theorem dX11_isKind_57 : decode cX11_isKind 57 = .ok (.if_icmp .ne 7, 3) := by decide +kernel
theorem dX11_isKind_60 : decode cX11_isKind 60 = .ok (.iconst 1, 1) := by decide +kernel
theorem dX11_isKind_61 : decode cX11_isKind 61 = .ok (.goto 4, 3) := by decide +kernel
theorem dX11_isKind_64 : decode cX11_isKind 64 = .ok (.iconst 0, 1) := by decide +kernel
theorem dX11_isKind_65 : decode cX11_isKind 65 = .ok (.ireturn, 1) := by decide +kernel
theorem e_235 (a0 : Int32) (ws : ai_W) : ai_Call 235 [.int a0] ws = ai_Run 235 0 [.int a0] [] ws := R_entS hk_235 ⟨⟨rfl, rfl⟩, Nat.le_of_ble_eq_true rfl⟩ rfl
theorem r_235_0 (a : Int32) (st : List Value) (ws : ai_W) : ai_Run 235 0 [.int a] st ws = ai_Run 235 1 [.int a] (.int a :: st) ws := R_iload_n hc_235 dX11_isKind_0 rfl rfl
theorem r_235_1 (ls st : List Value) (ws : ai_W) : ai_Run 235 1 ls st ws = ai_Run 235 3 ls (.int 99 :: st) ws := R_bipush hc_235 dX11_isKind_1 (by decide) rfl
theorem r_235_3 (ls st : List Value) (a b : Int32) (ws : ai_W) : ai_Run 235 3 ls (.int b :: .int a :: st) ws = if a = b then ai_Run 235 60 ls st ws else ai_Run 235 6 ls st ws := R_cmp_eq hc_235 dX11_isKind_3 rfl rfl
theorem r_235_6 (a : Int32) (st : List Value) (ws : ai_W) : ai_Run 235 6 [.int a] st ws = ai_Run 235 7 [.int a] (.int a :: st) ws := R_iload_n hc_235 dX11_isKind_6 rfl rfl
theorem r_235_7 (ls st : List Value) (ws : ai_W) : ai_Run 235 7 ls st ws = ai_Run 235 9 ls (.int 97 :: st) ws := R_bipush hc_235 dX11_isKind_7 (by decide) rfl
theorem r_235_9 (ls st : List Value) (a b : Int32) (ws : ai_W) : ai_Run 235 9 ls (.int b :: .int a :: st) ws = if a = b then ai_Run 235 60 ls st ws else ai_Run 235 12 ls st ws := R_cmp_eq hc_235 dX11_isKind_9 rfl rfl
theorem r_235_12 (a : Int32) (st : List Value) (ws : ai_W) : ai_Run 235 12 [.int a] st ws = ai_Run 235 13 [.int a] (.int a :: st) ws := R_iload_n hc_235 dX11_isKind_12 rfl rfl
theorem r_235_13 (ls st : List Value) (ws : ai_W) : ai_Run 235 13 ls st ws = ai_Run 235 15 ls (.int 100 :: st) ws := R_bipush hc_235 dX11_isKind_13 (by decide) rfl
theorem r_235_15 (ls st : List Value) (a b : Int32) (ws : ai_W) : ai_Run 235 15 ls (.int b :: .int a :: st) ws = if a = b then ai_Run 235 60 ls st ws else ai_Run 235 18 ls st ws := R_cmp_eq hc_235 dX11_isKind_15 rfl rfl
theorem r_235_18 (a : Int32) (st : List Value) (ws : ai_W) : ai_Run 235 18 [.int a] st ws = ai_Run 235 19 [.int a] (.int a :: st) ws := R_iload_n hc_235 dX11_isKind_18 rfl rfl
theorem r_235_19 (ls st : List Value) (ws : ai_W) : ai_Run 235 19 ls st ws = ai_Run 235 21 ls (.int 114 :: st) ws := R_bipush hc_235 dX11_isKind_19 (by decide) rfl
theorem r_235_21 (ls st : List Value) (a b : Int32) (ws : ai_W) : ai_Run 235 21 ls (.int b :: .int a :: st) ws = if a = b then ai_Run 235 60 ls st ws else ai_Run 235 24 ls st ws := R_cmp_eq hc_235 dX11_isKind_21 rfl rfl
theorem r_235_24 (a : Int32) (st : List Value) (ws : ai_W) : ai_Run 235 24 [.int a] st ws = ai_Run 235 25 [.int a] (.int a :: st) ws := R_iload_n hc_235 dX11_isKind_24 rfl rfl
theorem r_235_25 (ls st : List Value) (ws : ai_W) : ai_Run 235 25 ls st ws = ai_Run 235 27 ls (.int 120 :: st) ws := R_bipush hc_235 dX11_isKind_25 (by decide) rfl
theorem r_235_27 (ls st : List Value) (a b : Int32) (ws : ai_W) : ai_Run 235 27 ls (.int b :: .int a :: st) ws = if a = b then ai_Run 235 60 ls st ws else ai_Run 235 30 ls st ws := R_cmp_eq hc_235 dX11_isKind_27 rfl rfl
theorem r_235_30 (a : Int32) (st : List Value) (ws : ai_W) : ai_Run 235 30 [.int a] st ws = ai_Run 235 31 [.int a] (.int a :: st) ws := R_iload_n hc_235 dX11_isKind_30 rfl rfl
theorem r_235_31 (ls st : List Value) (ws : ai_W) : ai_Run 235 31 ls st ws = ai_Run 235 33 ls (.int 119 :: st) ws := R_bipush hc_235 dX11_isKind_31 (by decide) rfl
theorem r_235_33 (ls st : List Value) (a b : Int32) (ws : ai_W) : ai_Run 235 33 ls (.int b :: .int a :: st) ws = if a = b then ai_Run 235 60 ls st ws else ai_Run 235 36 ls st ws := R_cmp_eq hc_235 dX11_isKind_33 rfl rfl
theorem r_235_36 (a : Int32) (st : List Value) (ws : ai_W) : ai_Run 235 36 [.int a] st ws = ai_Run 235 37 [.int a] (.int a :: st) ws := R_iload_n hc_235 dX11_isKind_36 rfl rfl
theorem r_235_37 (ls st : List Value) (ws : ai_W) : ai_Run 235 37 ls st ws = ai_Run 235 39 ls (.int 111 :: st) ws := R_bipush hc_235 dX11_isKind_37 (by decide) rfl
theorem r_235_39 (ls st : List Value) (a b : Int32) (ws : ai_W) : ai_Run 235 39 ls (.int b :: .int a :: st) ws = if a = b then ai_Run 235 60 ls st ws else ai_Run 235 42 ls st ws := R_cmp_eq hc_235 dX11_isKind_39 rfl rfl
theorem r_235_42 (a : Int32) (st : List Value) (ws : ai_W) : ai_Run 235 42 [.int a] st ws = ai_Run 235 43 [.int a] (.int a :: st) ws := R_iload_n hc_235 dX11_isKind_42 rfl rfl
theorem r_235_43 (ls st : List Value) (ws : ai_W) : ai_Run 235 43 ls st ws = ai_Run 235 45 ls (.int 109 :: st) ws := R_bipush hc_235 dX11_isKind_43 (by decide) rfl
theorem r_235_45 (ls st : List Value) (a b : Int32) (ws : ai_W) : ai_Run 235 45 ls (.int b :: .int a :: st) ws = if a = b then ai_Run 235 60 ls st ws else ai_Run 235 48 ls st ws := R_cmp_eq hc_235 dX11_isKind_45 rfl rfl
theorem r_235_48 (a : Int32) (st : List Value) (ws : ai_W) : ai_Run 235 48 [.int a] st ws = ai_Run 235 49 [.int a] (.int a :: st) ws := R_iload_n hc_235 dX11_isKind_48 rfl rfl
theorem r_235_49 (ls st : List Value) (ws : ai_W) : ai_Run 235 49 ls st ws = ai_Run 235 51 ls (.int 106 :: st) ws := R_bipush hc_235 dX11_isKind_49 (by decide) rfl
theorem r_235_51 (ls st : List Value) (a b : Int32) (ws : ai_W) : ai_Run 235 51 ls (.int b :: .int a :: st) ws = if a = b then ai_Run 235 60 ls st ws else ai_Run 235 54 ls st ws := R_cmp_eq hc_235 dX11_isKind_51 rfl rfl
theorem r_235_54 (a : Int32) (st : List Value) (ws : ai_W) : ai_Run 235 54 [.int a] st ws = ai_Run 235 55 [.int a] (.int a :: st) ws := R_iload_n hc_235 dX11_isKind_54 rfl rfl
theorem r_235_55 (ls st : List Value) (ws : ai_W) : ai_Run 235 55 ls st ws = ai_Run 235 57 ls (.int 116 :: st) ws := R_bipush hc_235 dX11_isKind_55 (by decide) rfl
theorem r_235_57 (ls st : List Value) (a b : Int32) (ws : ai_W) : ai_Run 235 57 ls (.int b :: .int a :: st) ws = if a = b then ai_Run 235 60 ls st ws else ai_Run 235 64 ls st ws := R_cmp_ne hc_235 dX11_isKind_57 rfl rfl
theorem r_235_60 (ls st : List Value) (ws : ai_W) : ai_Run 235 60 ls st ws = ai_Run 235 61 ls (.int 1 :: st) ws := R_iconst hc_235 dX11_isKind_60 (by decide) rfl
theorem r_235_61 (ls st : List Value) (ws : ai_W) : ai_Run 235 61 ls st ws = ai_Run 235 65 ls st ws := R_goto hc_235 dX11_isKind_61 rfl
theorem r_235_64 (ls st : List Value) (ws : ai_W) : ai_Run 235 64 ls st ws = ai_Run 235 65 ls (.int 0 :: st) ws := R_iconst hc_235 dX11_isKind_64 (by decide) rfl
theorem r_235_65 (ls : List Value) (x : Int32) (ws : ai_W) : ai_Run 235 65 ls [.int x] ws = if ai_pb x = true then some (some (.int x), ws) else none := R_zret hc_235 dX11_isKind_65 ht_235
theorem dX11_isNumber_0 : decode cX11_isNumber 0 = .ok (.iconst 0, 1) := by decide +kernel
theorem dX11_isNumber_1 : decode cX11_isNumber 1 = .ok (.istore_n 3, 1) := by decide +kernel
theorem dX11_isNumber_2 : decode cX11_isNumber 2 = .ok (.iconst 0, 1) := by decide +kernel
theorem dX11_isNumber_3 : decode cX11_isNumber 3 = .ok (.istore 4, 2) := by decide +kernel
theorem dX11_isNumber_5 : decode cX11_isNumber 5 = .ok (.iload 4, 2) := by decide +kernel
theorem dX11_isNumber_7 : decode cX11_isNumber 7 = .ok (.iload_n 1, 1) := by decide +kernel
theorem dX11_isNumber_8 : decode cX11_isNumber 8 = .ok (.if_icmp .ge 46, 3) := by decide +kernel
theorem dX11_isNumber_11 : decode cX11_isNumber 11 = .ok (.aload_n 0, 1) := by decide +kernel
theorem dX11_isNumber_12 : decode cX11_isNumber 12 = .ok (.invokevirtual 231, 3) := by decide +kernel
theorem dX11_isNumber_15 : decode cX11_isNumber 15 = .ok (.bipush 48, 2) := by decide +kernel
theorem dX11_isNumber_17 : decode cX11_isNumber 17 = .ok (.bipush 57, 2) := by decide +kernel
theorem dX11_isNumber_19 : decode cX11_isNumber 19 = .ok (.invokestatic 55, 3) := by decide +kernel
theorem dX11_isNumber_22 : decode cX11_isNumber 22 = .ok (.ifCond .eq 32, 3) := by decide +kernel
theorem dX11_isNumber_25 : decode cX11_isNumber 25 = .ok (.bipush 10, 2) := by decide +kernel
theorem dX11_isNumber_27 : decode cX11_isNumber 27 = .ok (.iload_n 3, 1) := by decide +kernel
theorem dX11_isNumber_28 : decode cX11_isNumber 28 = .ok (.imul, 1) := by decide +kernel
theorem dX11_isNumber_29 : decode cX11_isNumber 29 = .ok (.aload_n 0, 1) := by decide +kernel
theorem dX11_isNumber_30 : decode cX11_isNumber 30 = .ok (.invokevirtual 231, 3) := by decide +kernel
theorem dX11_isNumber_33 : decode cX11_isNumber 33 = .ok (.iadd, 1) := by decide +kernel
theorem dX11_isNumber_34 : decode cX11_isNumber 34 = .ok (.bipush 48, 2) := by decide +kernel
theorem dX11_isNumber_36 : decode cX11_isNumber 36 = .ok (.isub, 1) := by decide +kernel
theorem dX11_isNumber_37 : decode cX11_isNumber 37 = .ok (.istore_n 3, 1) := by decide +kernel
theorem dX11_isNumber_38 : decode cX11_isNumber 38 = .ok (.aload_n 0, 1) := by decide +kernel
theorem dX11_isNumber_39 : decode cX11_isNumber 39 = .ok (.dup, 1) := by decide +kernel
theorem dX11_isNumber_40 : decode cX11_isNumber 40 = .ok (.getfield 228, 3) := by decide +kernel
theorem dX11_isNumber_43 : decode cX11_isNumber 43 = .ok (.iconst 1, 1) := by decide +kernel
theorem dX11_isNumber_44 : decode cX11_isNumber 44 = .ok (.iadd, 1) := by decide +kernel
theorem dX11_isNumber_45 : decode cX11_isNumber 45 = .ok (.putfield 228, 3) := by decide +kernel
theorem dX11_isNumber_48 : decode cX11_isNumber 48 = .ok (.iinc 4 1, 3) := by decide +kernel
theorem dX11_isNumber_51 : decode cX11_isNumber 51 = .ok (.goto (-46), 3) := by decide +kernel
theorem dX11_isNumber_54 : decode cX11_isNumber 54 = .ok (.aload_n 0, 1) := by decide +kernel
theorem dX11_isNumber_55 : decode cX11_isNumber 55 = .ok (.getfield 32, 3) := by decide +kernel
theorem dX11_isNumber_58 : decode cX11_isNumber 58 = .ok (.iload_n 2, 1) := by decide +kernel
theorem dX11_isNumber_59 : decode cX11_isNumber 59 = .ok (.iload_n 3, 1) := by decide +kernel
theorem dX11_isNumber_60 : decode cX11_isNumber 60 = .ok (.iastore, 1) := by decide +kernel
theorem dX11_isNumber_61 : decode cX11_isNumber 61 = .ok (.iload 4, 2) := by decide +kernel
theorem dX11_isNumber_63 : decode cX11_isNumber 63 = .ok (.ifCond .le 7, 3) := by decide +kernel
theorem dX11_isNumber_66 : decode cX11_isNumber 66 = .ok (.iconst 1, 1) := by decide +kernel
theorem dX11_isNumber_67 : decode cX11_isNumber 67 = .ok (.goto 4, 3) := by decide +kernel
theorem dX11_isNumber_70 : decode cX11_isNumber 70 = .ok (.iconst 0, 1) := by decide +kernel
theorem dX11_isNumber_71 : decode cX11_isNumber 71 = .ok (.ireturn, 1) := by decide +kernel
theorem e_236 (r : Nat) (a0 : Int32) (a1 : Int32) (ws : ai_W) : ai_Call 236 [.ref r, .int a0, .int a1] ws = if ai_isob ws r 11 = true then ai_Run 236 0 [.ref r, .int a0, .int a1, .null, .null] [] ws else none := R_entV hk_236 ⟨⟨rfl, rfl⟩, Nat.le_of_ble_eq_true rfl⟩ rfl
theorem r_236_0 (ls st : List Value) (ws : ai_W) : ai_Run 236 0 ls st ws = ai_Run 236 1 ls (.int 0 :: st) ws := R_iconst hc_236 dX11_isNumber_0 (by decide) rfl
theorem r_236_1 (l0 l1 l2 l3 l4 : Value) (a : Int32) (st : List Value) (ws : ai_W) : ai_Run 236 1 [l0, l1, l2, l3, l4] (.int a :: st) ws = ai_Run 236 2 [l0, l1, l2, .int a, l4] st ws := R_istore_n hc_236 dX11_isNumber_1 (Nat.le_of_ble_eq_true rfl) rfl rfl
theorem r_236_2 (ls st : List Value) (ws : ai_W) : ai_Run 236 2 ls st ws = ai_Run 236 3 ls (.int 0 :: st) ws := R_iconst hc_236 dX11_isNumber_2 (by decide) rfl
theorem r_236_3 (l0 l1 l2 l3 l4 : Value) (a : Int32) (st : List Value) (ws : ai_W) : ai_Run 236 3 [l0, l1, l2, l3, l4] (.int a :: st) ws = ai_Run 236 5 [l0, l1, l2, l3, .int a] st ws := R_istore hc_236 dX11_isNumber_3 (Nat.le_of_ble_eq_true rfl) rfl rfl
theorem r_236_5 (l0 l1 l2 l3 : Value) (a : Int32) (st : List Value) (ws : ai_W) : ai_Run 236 5 [l0, l1, l2, l3, .int a] st ws = ai_Run 236 7 [l0, l1, l2, l3, .int a] (.int a :: st) ws := R_iload hc_236 dX11_isNumber_5 rfl rfl
theorem r_236_7 (l0 l2 l3 l4 : Value) (a : Int32) (st : List Value) (ws : ai_W) : ai_Run 236 7 [l0, .int a, l2, l3, l4] st ws = ai_Run 236 8 [l0, .int a, l2, l3, l4] (.int a :: st) ws := R_iload_n hc_236 dX11_isNumber_7 rfl rfl
theorem r_236_8 (ls st : List Value) (a b : Int32) (ws : ai_W) : ai_Run 236 8 ls (.int b :: .int a :: st) ws = if a < b then ai_Run 236 11 ls st ws else ai_Run 236 54 ls st ws := R_cmp_ge hc_236 dX11_isNumber_8 rfl rfl
theorem r_236_11 (l1 l2 l3 l4 : Value) (a : Nat) (st : List Value) (ws : ai_W) : ai_Run 236 11 [.ref a, l1, l2, l3, l4] st ws = ai_Run 236 12 [.ref a, l1, l2, l3, l4] (.ref a :: st) ws := R_aload_n hc_236 dX11_isNumber_11 rfl rfl
theorem r_236_12 (ls : List Value) (r : Nat) (ws : ai_W) : ai_Run 236 12 ls [.ref r] ws = (ai_Call 233 [.ref r] ws).bind fun q => ai_Run 236 15 ls (q.1.toList ++ []) q.2 := R_callV hc_236 dX11_isNumber_12 hv_236 (w := 1406) rfl (Nat.le_of_ble_eq_true rfl) hk_233 (by rw [hn_233]; rfl) rfl (Nat.le_of_ble_eq_true rfl) rfl
theorem r_236_15 (ls st : List Value) (ws : ai_W) : ai_Run 236 15 ls st ws = ai_Run 236 17 ls (.int 48 :: st) ws := R_bipush hc_236 dX11_isNumber_15 (by decide) rfl
theorem r_236_17 (ls st : List Value) (ws : ai_W) : ai_Run 236 17 ls st ws = ai_Run 236 19 ls (.int 57 :: st) ws := R_bipush hc_236 dX11_isNumber_17 (by decide) rfl
theorem r_236_19 (ls : List Value) (b0 : Int32) (b1 : Int32) (b2 : Int32) (ws : ai_W) : ai_Run 236 19 ls [.int b2, .int b1, .int b0] ws = (ai_Call 179 [.int b0, .int b1, .int b2] ws).bind fun q => ai_Run 236 22 ls (q.1.toList ++ []) q.2 := R_callS hc_236 dX11_isNumber_19 hv_236 (w := 1127) rfl (Nat.le_of_ble_eq_true rfl) hk_179 (by rw [hn_179]; rfl) rfl (Nat.le_of_ble_eq_true rfl) rfl
theorem r_236_22 (ls st : List Value) (a : Int32) (ws : ai_W) : ai_Run 236 22 ls (.int a :: st) ws = if a = 0 then ai_Run 236 54 ls st ws else ai_Run 236 25 ls st ws := R_if_eq hc_236 dX11_isNumber_22 rfl rfl
theorem r_236_25 (ls st : List Value) (ws : ai_W) : ai_Run 236 25 ls st ws = ai_Run 236 27 ls (.int 10 :: st) ws := R_bipush hc_236 dX11_isNumber_25 (by decide) rfl
theorem r_236_27 (l0 l1 l2 l4 : Value) (a : Int32) (st : List Value) (ws : ai_W) : ai_Run 236 27 [l0, l1, l2, .int a, l4] st ws = ai_Run 236 28 [l0, l1, l2, .int a, l4] (.int a :: st) ws := R_iload_n hc_236 dX11_isNumber_27 rfl rfl
theorem r_236_28 (ls st : List Value) (a b : Int32) (ws : ai_W) : ai_Run 236 28 ls (.int b :: .int a :: st) ws = ai_Run 236 29 ls (.int (a * b) :: st) ws := R_imul hc_236 dX11_isNumber_28 rfl
theorem r_236_29 (l1 l2 l3 l4 : Value) (a : Nat) (st : List Value) (ws : ai_W) : ai_Run 236 29 [.ref a, l1, l2, l3, l4] st ws = ai_Run 236 30 [.ref a, l1, l2, l3, l4] (.ref a :: st) ws := R_aload_n hc_236 dX11_isNumber_29 rfl rfl
theorem r_236_30 (ls : List Value) (r : Nat) (s0 : Value) (ws : ai_W) : ai_Run 236 30 ls [.ref r, s0] ws = (ai_Call 233 [.ref r] ws).bind fun q => ai_Run 236 33 ls (q.1.toList ++ [s0]) q.2 := R_callV hc_236 dX11_isNumber_30 hv_236 (w := 1406) rfl (Nat.le_of_ble_eq_true rfl) hk_233 (by rw [hn_233]; rfl) rfl (Nat.le_of_ble_eq_true rfl) rfl
theorem r_236_33 (ls st : List Value) (a b : Int32) (ws : ai_W) : ai_Run 236 33 ls (.int b :: .int a :: st) ws = ai_Run 236 34 ls (.int (a + b) :: st) ws := R_iadd hc_236 dX11_isNumber_33 rfl
theorem r_236_34 (ls st : List Value) (ws : ai_W) : ai_Run 236 34 ls st ws = ai_Run 236 36 ls (.int 48 :: st) ws := R_bipush hc_236 dX11_isNumber_34 (by decide) rfl
theorem r_236_36 (ls st : List Value) (a b : Int32) (ws : ai_W) : ai_Run 236 36 ls (.int b :: .int a :: st) ws = ai_Run 236 37 ls (.int (a - b) :: st) ws := R_isub hc_236 dX11_isNumber_36 rfl
theorem r_236_37 (l0 l1 l2 l3 l4 : Value) (a : Int32) (st : List Value) (ws : ai_W) : ai_Run 236 37 [l0, l1, l2, l3, l4] (.int a :: st) ws = ai_Run 236 38 [l0, l1, l2, .int a, l4] st ws := R_istore_n hc_236 dX11_isNumber_37 (Nat.le_of_ble_eq_true rfl) rfl rfl
theorem r_236_38 (l1 l2 l3 l4 : Value) (a : Nat) (st : List Value) (ws : ai_W) : ai_Run 236 38 [.ref a, l1, l2, l3, l4] st ws = ai_Run 236 39 [.ref a, l1, l2, l3, l4] (.ref a :: st) ws := R_aload_n hc_236 dX11_isNumber_38 rfl rfl
theorem r_236_39 (ls st : List Value) (a : Nat) (ws : ai_W) : ai_Run 236 39 ls (.ref a :: st) ws = ai_Run 236 40 ls (.ref a :: .ref a :: st) ws := R_dup hc_236 dX11_isNumber_39 rfl
theorem r_236_40 (ls st : List Value) (a : Nat) (ws : ai_W) : ai_Run 236 40 ls (.ref a :: st) ws = (ai_fget ws a 11 14).bind fun q => ai_Run 236 43 ls (q :: st) ws := R_getf hc_236 dX11_isNumber_40 hv_236 (w := 1038) rfl rfl
theorem r_236_43 (ls st : List Value) (ws : ai_W) : ai_Run 236 43 ls st ws = ai_Run 236 44 ls (.int 1 :: st) ws := R_iconst hc_236 dX11_isNumber_43 (by decide) rfl
theorem r_236_44 (ls st : List Value) (a b : Int32) (ws : ai_W) : ai_Run 236 44 ls (.int b :: .int a :: st) ws = ai_Run 236 45 ls (.int (a + b) :: st) ws := R_iadd hc_236 dX11_isNumber_44 rfl
theorem r_236_45 (ls st : List Value) (a : Nat) (x : Value) (ws : ai_W) : ai_Run 236 45 ls (x :: .ref a :: st) ws = (ai_fput ws a 11 14 x).bind fun ws => ai_Run 236 48 ls st ws := R_putf hc_236 dX11_isNumber_45 hv_236 (w := 1038) rfl rfl rfl
theorem r_236_48 (l0 l1 l2 l3 : Value) (a : Int32) (st : List Value) (ws : ai_W) : ai_Run 236 48 [l0, l1, l2, l3, .int a] st ws = ai_Run 236 51 [l0, l1, l2, l3, .int (a + 1)] st ws := R_iinc hc_236 dX11_isNumber_48 rfl (by decide) rfl rfl
theorem r_236_51 (ls st : List Value) (ws : ai_W) : ai_Run 236 51 ls st ws = ai_Run 236 5 ls st ws := R_goto hc_236 dX11_isNumber_51 rfl
theorem r_236_54 (l1 l2 l3 l4 : Value) (a : Nat) (st : List Value) (ws : ai_W) : ai_Run 236 54 [.ref a, l1, l2, l3, l4] st ws = ai_Run 236 55 [.ref a, l1, l2, l3, l4] (.ref a :: st) ws := R_aload_n hc_236 dX11_isNumber_54 rfl rfl
theorem r_236_55 (ls st : List Value) (a : Nat) (ws : ai_W) : ai_Run 236 55 ls (.ref a :: st) ws = (ai_fget ws a 11 12).bind fun q => ai_Run 236 58 ls (q :: st) ws := R_getf hc_236 dX11_isNumber_55 hv_236 (w := 1036) rfl rfl
theorem r_236_58 (l0 l1 l3 l4 : Value) (a : Int32) (st : List Value) (ws : ai_W) : ai_Run 236 58 [l0, l1, .int a, l3, l4] st ws = ai_Run 236 59 [l0, l1, .int a, l3, l4] (.int a :: st) ws := R_iload_n hc_236 dX11_isNumber_58 rfl rfl
theorem r_236_59 (l0 l1 l2 l4 : Value) (a : Int32) (st : List Value) (ws : ai_W) : ai_Run 236 59 [l0, l1, l2, .int a, l4] st ws = ai_Run 236 60 [l0, l1, l2, .int a, l4] (.int a :: st) ws := R_iload_n hc_236 dX11_isNumber_59 rfl rfl
theorem r_236_60 (ls st : List Value) (a : Nat) (i x : Int32) (ws : ai_W) : ai_Run 236 60 ls (.int x :: .int i :: .ref a :: st) ws = (ai_aset ws a i x).bind fun ws => ai_Run 236 61 ls st ws := R_iastore hc_236 dX11_isNumber_60 rfl
theorem r_236_61 (l0 l1 l2 l3 : Value) (a : Int32) (st : List Value) (ws : ai_W) : ai_Run 236 61 [l0, l1, l2, l3, .int a] st ws = ai_Run 236 63 [l0, l1, l2, l3, .int a] (.int a :: st) ws := R_iload hc_236 dX11_isNumber_61 rfl rfl
theorem r_236_63 (ls st : List Value) (a : Int32) (ws : ai_W) : ai_Run 236 63 ls (.int a :: st) ws = if 0 < a then ai_Run 236 66 ls st ws else ai_Run 236 70 ls st ws := R_if_le hc_236 dX11_isNumber_63 rfl rfl
theorem r_236_66 (ls st : List Value) (ws : ai_W) : ai_Run 236 66 ls st ws = ai_Run 236 67 ls (.int 1 :: st) ws := R_iconst hc_236 dX11_isNumber_66 (by decide) rfl
theorem r_236_67 (ls st : List Value) (ws : ai_W) : ai_Run 236 67 ls st ws = ai_Run 236 71 ls st ws := R_goto hc_236 dX11_isNumber_67 rfl
theorem r_236_70 (ls st : List Value) (ws : ai_W) : ai_Run 236 70 ls st ws = ai_Run 236 71 ls (.int 0 :: st) ws := R_iconst hc_236 dX11_isNumber_70 (by decide) rfl
theorem r_236_71 (ls : List Value) (x : Int32) (ws : ai_W) : ai_Run 236 71 ls [.int x] ws = if ai_pb x = true then some (some (.int x), ws) else none := R_zret hc_236 dX11_isNumber_71 ht_236
theorem dX11_isOath_0 : decode cX11_isOath 0 = .ok (.aload_n 0, 1) := by decide +kernel
theorem dX11_isOath_1 : decode cX11_isOath 1 = .ok (.getfield 32, 3) := by decide +kernel
theorem dX11_isOath_4 : decode cX11_isOath 4 = .ok (.iload_n 1, 1) := by decide +kernel
theorem dX11_isOath_5 : decode cX11_isOath 5 = .ok (.aload_n 0, 1) := by decide +kernel
theorem dX11_isOath_6 : decode cX11_isOath 6 = .ok (.invokevirtual 231, 3) := by decide +kernel
theorem dX11_isOath_9 : decode cX11_isOath 9 = .ok (.bipush 43, 2) := by decide +kernel
theorem dX11_isOath_11 : decode cX11_isOath 11 = .ok (.if_icmp .ne 7, 3) := by decide +kernel
theorem dX11_isOath_14 : decode cX11_isOath 14 = .ok (.iconst 1, 1) := by decide +kernel
theorem dX11_isOath_15 : decode cX11_isOath 15 = .ok (.goto 4, 3) := by decide +kernel
theorem dX11_isOath_18 : decode cX11_isOath 18 = .ok (.iconst 0, 1) := by decide +kernel
theorem dX11_isOath_19 : decode cX11_isOath 19 = .ok (.iastore, 1) := by decide +kernel
theorem dX11_isOath_20 : decode cX11_isOath 20 = .ok (.aload_n 0, 1) := by decide +kernel
theorem dX11_isOath_21 : decode cX11_isOath 21 = .ok (.bipush 43, 2) := by decide +kernel
theorem dX11_isOath_23 : decode cX11_isOath 23 = .ok (.invokevirtual 234, 3) := by decide +kernel
theorem dX11_isOath_26 : decode cX11_isOath 26 = .ok (.ifCond .ne 12, 3) := by decide +kernel
theorem dX11_isOath_29 : decode cX11_isOath 29 = .ok (.aload_n 0, 1) := by decide +kernel
theorem dX11_isOath_30 : decode cX11_isOath 30 = .ok (.bipush 45, 2) := by decide +kernel
theorem dX11_isOath_32 : decode cX11_isOath 32 = .ok (.invokevirtual 234, 3) := by decide +kernel
theorem dX11_isOath_35 : decode cX11_isOath 35 = .ok (.ifCond .eq 7, 3) := by decide +kernel
theorem dX11_isOath_38 : decode cX11_isOath 38 = .ok (.iconst 1, 1) := by decide +kernel
theorem dX11_isOath_39 : decode cX11_isOath 39 = .ok (.goto 4, 3) := by decide +kernel
theorem dX11_isOath_42 : decode cX11_isOath 42 = .ok (.iconst 0, 1) := by decide +kernel
theorem dX11_isOath_43 : decode cX11_isOath 43 = .ok (.ireturn, 1) := by decide +kernel
theorem e_237 (r : Nat) (a0 : Int32) (ws : ai_W) : ai_Call 237 [.ref r, .int a0] ws = if ai_isob ws r 11 = true then ai_Run 237 0 [.ref r, .int a0] [] ws else none := R_entV hk_237 ⟨⟨rfl, rfl⟩, Nat.le_of_ble_eq_true rfl⟩ rfl
theorem r_237_0 (l1 : Value) (a : Nat) (st : List Value) (ws : ai_W) : ai_Run 237 0 [.ref a, l1] st ws = ai_Run 237 1 [.ref a, l1] (.ref a :: st) ws := R_aload_n hc_237 dX11_isOath_0 rfl rfl
theorem r_237_1 (ls st : List Value) (a : Nat) (ws : ai_W) : ai_Run 237 1 ls (.ref a :: st) ws = (ai_fget ws a 11 12).bind fun q => ai_Run 237 4 ls (q :: st) ws := R_getf hc_237 dX11_isOath_1 hv_237 (w := 1036) rfl rfl
theorem r_237_4 (l0 : Value) (a : Int32) (st : List Value) (ws : ai_W) : ai_Run 237 4 [l0, .int a] st ws = ai_Run 237 5 [l0, .int a] (.int a :: st) ws := R_iload_n hc_237 dX11_isOath_4 rfl rfl
theorem r_237_5 (l1 : Value) (a : Nat) (st : List Value) (ws : ai_W) : ai_Run 237 5 [.ref a, l1] st ws = ai_Run 237 6 [.ref a, l1] (.ref a :: st) ws := R_aload_n hc_237 dX11_isOath_5 rfl rfl
theorem r_237_6 (ls : List Value) (r : Nat) (s0 s1 : Value) (ws : ai_W) : ai_Run 237 6 ls [.ref r, s0, s1] ws = (ai_Call 233 [.ref r] ws).bind fun q => ai_Run 237 9 ls (q.1.toList ++ [s0, s1]) q.2 := R_callV hc_237 dX11_isOath_6 hv_237 (w := 1406) rfl (Nat.le_of_ble_eq_true rfl) hk_233 (by rw [hn_233]; rfl) rfl (Nat.le_of_ble_eq_true rfl) rfl
theorem r_237_9 (ls st : List Value) (ws : ai_W) : ai_Run 237 9 ls st ws = ai_Run 237 11 ls (.int 43 :: st) ws := R_bipush hc_237 dX11_isOath_9 (by decide) rfl
theorem r_237_11 (ls st : List Value) (a b : Int32) (ws : ai_W) : ai_Run 237 11 ls (.int b :: .int a :: st) ws = if a = b then ai_Run 237 14 ls st ws else ai_Run 237 18 ls st ws := R_cmp_ne hc_237 dX11_isOath_11 rfl rfl
theorem r_237_14 (ls st : List Value) (ws : ai_W) : ai_Run 237 14 ls st ws = ai_Run 237 15 ls (.int 1 :: st) ws := R_iconst hc_237 dX11_isOath_14 (by decide) rfl
theorem r_237_15 (ls st : List Value) (ws : ai_W) : ai_Run 237 15 ls st ws = ai_Run 237 19 ls st ws := R_goto hc_237 dX11_isOath_15 rfl
theorem r_237_18 (ls st : List Value) (ws : ai_W) : ai_Run 237 18 ls st ws = ai_Run 237 19 ls (.int 0 :: st) ws := R_iconst hc_237 dX11_isOath_18 (by decide) rfl
theorem r_237_19 (ls st : List Value) (a : Nat) (i x : Int32) (ws : ai_W) : ai_Run 237 19 ls (.int x :: .int i :: .ref a :: st) ws = (ai_aset ws a i x).bind fun ws => ai_Run 237 20 ls st ws := R_iastore hc_237 dX11_isOath_19 rfl
theorem r_237_20 (l1 : Value) (a : Nat) (st : List Value) (ws : ai_W) : ai_Run 237 20 [.ref a, l1] st ws = ai_Run 237 21 [.ref a, l1] (.ref a :: st) ws := R_aload_n hc_237 dX11_isOath_20 rfl rfl
theorem r_237_21 (ls st : List Value) (ws : ai_W) : ai_Run 237 21 ls st ws = ai_Run 237 23 ls (.int 43 :: st) ws := R_bipush hc_237 dX11_isOath_21 (by decide) rfl
theorem r_237_23 (ls : List Value) (r : Nat) (b0 : Int32) (ws : ai_W) : ai_Run 237 23 ls [.int b0, .ref r] ws = (ai_Call 234 [.ref r, .int b0] ws).bind fun q => ai_Run 237 26 ls (q.1.toList ++ []) q.2 := R_callV hc_237 dX11_isOath_23 hv_237 (w := 1417) rfl (Nat.le_of_ble_eq_true rfl) hk_234 (by rw [hn_234]; rfl) rfl (Nat.le_of_ble_eq_true rfl) rfl
theorem r_237_26 (ls st : List Value) (a : Int32) (ws : ai_W) : ai_Run 237 26 ls (.int a :: st) ws = if a = 0 then ai_Run 237 29 ls st ws else ai_Run 237 38 ls st ws := R_if_ne hc_237 dX11_isOath_26 rfl rfl
theorem r_237_29 (l1 : Value) (a : Nat) (st : List Value) (ws : ai_W) : ai_Run 237 29 [.ref a, l1] st ws = ai_Run 237 30 [.ref a, l1] (.ref a :: st) ws := R_aload_n hc_237 dX11_isOath_29 rfl rfl
theorem r_237_30 (ls st : List Value) (ws : ai_W) : ai_Run 237 30 ls st ws = ai_Run 237 32 ls (.int 45 :: st) ws := R_bipush hc_237 dX11_isOath_30 (by decide) rfl
theorem r_237_32 (ls : List Value) (r : Nat) (b0 : Int32) (ws : ai_W) : ai_Run 237 32 ls [.int b0, .ref r] ws = (ai_Call 234 [.ref r, .int b0] ws).bind fun q => ai_Run 237 35 ls (q.1.toList ++ []) q.2 := R_callV hc_237 dX11_isOath_32 hv_237 (w := 1417) rfl (Nat.le_of_ble_eq_true rfl) hk_234 (by rw [hn_234]; rfl) rfl (Nat.le_of_ble_eq_true rfl) rfl
theorem r_237_35 (ls st : List Value) (a : Int32) (ws : ai_W) : ai_Run 237 35 ls (.int a :: st) ws = if a = 0 then ai_Run 237 42 ls st ws else ai_Run 237 38 ls st ws := R_if_eq hc_237 dX11_isOath_35 rfl rfl
theorem r_237_38 (ls st : List Value) (ws : ai_W) : ai_Run 237 38 ls st ws = ai_Run 237 39 ls (.int 1 :: st) ws := R_iconst hc_237 dX11_isOath_38 (by decide) rfl
theorem r_237_39 (ls st : List Value) (ws : ai_W) : ai_Run 237 39 ls st ws = ai_Run 237 43 ls st ws := R_goto hc_237 dX11_isOath_39 rfl
theorem r_237_42 (ls st : List Value) (ws : ai_W) : ai_Run 237 42 ls st ws = ai_Run 237 43 ls (.int 0 :: st) ws := R_iconst hc_237 dX11_isOath_42 (by decide) rfl
theorem r_237_43 (ls : List Value) (x : Int32) (ws : ai_W) : ai_Run 237 43 ls [.int x] ws = if ai_pb x = true then some (some (.int x), ws) else none := R_zret hc_237 dX11_isOath_43 ht_237
theorem dX11_isReader_0 : decode cX11_isReader 0 = .ok (.aload_n 0, 1) := by decide +kernel
theorem dX11_isReader_1 : decode cX11_isReader 1 = .ok (.getfield 32, 3) := by decide +kernel
theorem dX11_isReader_4 : decode cX11_isReader 4 = .ok (.iload_n 1, 1) := by decide +kernel
theorem dX11_isReader_5 : decode cX11_isReader 5 = .ok (.bipush (-4), 2) := by decide +kernel
theorem dX11_isReader_7 : decode cX11_isReader 7 = .ok (.iastore, 1) := by decide +kernel
theorem dX11_isReader_8 : decode cX11_isReader 8 = .ok (.aload_n 0, 1) := by decide +kernel
theorem dX11_isReader_9 : decode cX11_isReader 9 = .ok (.bipush 45, 2) := by decide +kernel
theorem dX11_isReader_11 : decode cX11_isReader 11 = .ok (.invokevirtual 234, 3) := by decide +kernel
theorem dX11_isReader_14 : decode cX11_isReader 14 = .ok (.ifCond .ne 21, 3) := by decide +kernel
theorem dX11_isReader_17 : decode cX11_isReader 17 = .ok (.aload_n 0, 1) := by decide +kernel
theorem dX11_isReader_18 : decode cX11_isReader 18 = .ok (.bipush 61, 2) := by decide +kernel
theorem dX11_isReader_20 : decode cX11_isReader 20 = .ok (.invokevirtual 234, 3) := by decide +kernel
theorem dX11_isReader_23 : decode cX11_isReader 23 = .ok (.ifCond .eq 16, 3) := by decide +kernel
theorem dX11_isReader_26 : decode cX11_isReader 26 = .ok (.aload_n 0, 1) := by decide +kernel
theorem dX11_isReader_27 : decode cX11_isReader 27 = .ok (.iconst 1, 1) := by decide +kernel
theorem dX11_isReader_28 : decode cX11_isReader 28 = .ok (.iload_n 1, 1) := by decide +kernel
theorem dX11_isReader_29 : decode cX11_isReader 29 = .ok (.invokevirtual 237, 3) := by decide +kernel
theorem dX11_isReader_32 : decode cX11_isReader 32 = .ok (.ifCond .eq 7, 3) := by decide +kernel
theorem dX11_isReader_35 : decode cX11_isReader 35 = .ok (.iconst 1, 1) := by decide +kernel
theorem dX11_isReader_36 : decode cX11_isReader 36 = .ok (.goto 4, 3) := by decide +kernel
theorem dX11_isReader_39 : decode cX11_isReader 39 = .ok (.iconst 0, 1) := by decide +kernel
theorem dX11_isReader_40 : decode cX11_isReader 40 = .ok (.ireturn, 1) := by decide +kernel
theorem e_238 (r : Nat) (a0 : Int32) (ws : ai_W) : ai_Call 238 [.ref r, .int a0] ws = if ai_isob ws r 11 = true then ai_Run 238 0 [.ref r, .int a0] [] ws else none := R_entV hk_238 ⟨⟨rfl, rfl⟩, Nat.le_of_ble_eq_true rfl⟩ rfl
theorem r_238_0 (l1 : Value) (a : Nat) (st : List Value) (ws : ai_W) : ai_Run 238 0 [.ref a, l1] st ws = ai_Run 238 1 [.ref a, l1] (.ref a :: st) ws := R_aload_n hc_238 dX11_isReader_0 rfl rfl
theorem r_238_1 (ls st : List Value) (a : Nat) (ws : ai_W) : ai_Run 238 1 ls (.ref a :: st) ws = (ai_fget ws a 11 12).bind fun q => ai_Run 238 4 ls (q :: st) ws := R_getf hc_238 dX11_isReader_1 hv_238 (w := 1036) rfl rfl
theorem r_238_4 (l0 : Value) (a : Int32) (st : List Value) (ws : ai_W) : ai_Run 238 4 [l0, .int a] st ws = ai_Run 238 5 [l0, .int a] (.int a :: st) ws := R_iload_n hc_238 dX11_isReader_4 rfl rfl
theorem r_238_5 (ls st : List Value) (ws : ai_W) : ai_Run 238 5 ls st ws = ai_Run 238 7 ls (.int (-4) :: st) ws := R_bipush hc_238 dX11_isReader_5 (by decide) rfl
theorem r_238_7 (ls st : List Value) (a : Nat) (i x : Int32) (ws : ai_W) : ai_Run 238 7 ls (.int x :: .int i :: .ref a :: st) ws = (ai_aset ws a i x).bind fun ws => ai_Run 238 8 ls st ws := R_iastore hc_238 dX11_isReader_7 rfl
theorem r_238_8 (l1 : Value) (a : Nat) (st : List Value) (ws : ai_W) : ai_Run 238 8 [.ref a, l1] st ws = ai_Run 238 9 [.ref a, l1] (.ref a :: st) ws := R_aload_n hc_238 dX11_isReader_8 rfl rfl
theorem r_238_9 (ls st : List Value) (ws : ai_W) : ai_Run 238 9 ls st ws = ai_Run 238 11 ls (.int 45 :: st) ws := R_bipush hc_238 dX11_isReader_9 (by decide) rfl
theorem r_238_11 (ls : List Value) (r : Nat) (b0 : Int32) (ws : ai_W) : ai_Run 238 11 ls [.int b0, .ref r] ws = (ai_Call 234 [.ref r, .int b0] ws).bind fun q => ai_Run 238 14 ls (q.1.toList ++ []) q.2 := R_callV hc_238 dX11_isReader_11 hv_238 (w := 1417) rfl (Nat.le_of_ble_eq_true rfl) hk_234 (by rw [hn_234]; rfl) rfl (Nat.le_of_ble_eq_true rfl) rfl
theorem r_238_14 (ls st : List Value) (a : Int32) (ws : ai_W) : ai_Run 238 14 ls (.int a :: st) ws = if a = 0 then ai_Run 238 17 ls st ws else ai_Run 238 35 ls st ws := R_if_ne hc_238 dX11_isReader_14 rfl rfl
theorem r_238_17 (l1 : Value) (a : Nat) (st : List Value) (ws : ai_W) : ai_Run 238 17 [.ref a, l1] st ws = ai_Run 238 18 [.ref a, l1] (.ref a :: st) ws := R_aload_n hc_238 dX11_isReader_17 rfl rfl
theorem r_238_18 (ls st : List Value) (ws : ai_W) : ai_Run 238 18 ls st ws = ai_Run 238 20 ls (.int 61 :: st) ws := R_bipush hc_238 dX11_isReader_18 (by decide) rfl
theorem r_238_20 (ls : List Value) (r : Nat) (b0 : Int32) (ws : ai_W) : ai_Run 238 20 ls [.int b0, .ref r] ws = (ai_Call 234 [.ref r, .int b0] ws).bind fun q => ai_Run 238 23 ls (q.1.toList ++ []) q.2 := R_callV hc_238 dX11_isReader_20 hv_238 (w := 1417) rfl (Nat.le_of_ble_eq_true rfl) hk_234 (by rw [hn_234]; rfl) rfl (Nat.le_of_ble_eq_true rfl) rfl
theorem r_238_23 (ls st : List Value) (a : Int32) (ws : ai_W) : ai_Run 238 23 ls (.int a :: st) ws = if a = 0 then ai_Run 238 39 ls st ws else ai_Run 238 26 ls st ws := R_if_eq hc_238 dX11_isReader_23 rfl rfl
theorem r_238_26 (l1 : Value) (a : Nat) (st : List Value) (ws : ai_W) : ai_Run 238 26 [.ref a, l1] st ws = ai_Run 238 27 [.ref a, l1] (.ref a :: st) ws := R_aload_n hc_238 dX11_isReader_26 rfl rfl
theorem r_238_27 (ls st : List Value) (ws : ai_W) : ai_Run 238 27 ls st ws = ai_Run 238 28 ls (.int 1 :: st) ws := R_iconst hc_238 dX11_isReader_27 (by decide) rfl
theorem r_238_28 (l0 : Value) (a : Int32) (st : List Value) (ws : ai_W) : ai_Run 238 28 [l0, .int a] st ws = ai_Run 238 29 [l0, .int a] (.int a :: st) ws := R_iload_n hc_238 dX11_isReader_28 rfl rfl
theorem r_238_29 (ls : List Value) (r : Nat) (b0 : Int32) (b1 : Int32) (ws : ai_W) : ai_Run 238 29 ls [.int b1, .int b0, .ref r] ws = (ai_Call 236 [.ref r, .int b0, .int b1] ws).bind fun q => ai_Run 238 32 ls (q.1.toList ++ []) q.2 := R_callV hc_238 dX11_isReader_29 hv_238 (w := 1413) rfl (Nat.le_of_ble_eq_true rfl) hk_236 (by rw [hn_236]; rfl) rfl (Nat.le_of_ble_eq_true rfl) rfl
theorem r_238_32 (ls st : List Value) (a : Int32) (ws : ai_W) : ai_Run 238 32 ls (.int a :: st) ws = if a = 0 then ai_Run 238 39 ls st ws else ai_Run 238 35 ls st ws := R_if_eq hc_238 dX11_isReader_32 rfl rfl
theorem r_238_35 (ls st : List Value) (ws : ai_W) : ai_Run 238 35 ls st ws = ai_Run 238 36 ls (.int 1 :: st) ws := R_iconst hc_238 dX11_isReader_35 (by decide) rfl
theorem r_238_36 (ls st : List Value) (ws : ai_W) : ai_Run 238 36 ls st ws = ai_Run 238 40 ls st ws := R_goto hc_238 dX11_isReader_36 rfl
theorem r_238_39 (ls st : List Value) (ws : ai_W) : ai_Run 238 39 ls st ws = ai_Run 238 40 ls (.int 0 :: st) ws := R_iconst hc_238 dX11_isReader_39 (by decide) rfl
theorem r_238_40 (ls : List Value) (x : Int32) (ws : ai_W) : ai_Run 238 40 ls [.int x] ws = if ai_pb x = true then some (some (.int x), ws) else none := R_zret hc_238 dX11_isReader_40 ht_238
theorem dX11_readsCommand_0 : decode cX11_readsCommand 0 = .ok (.iconst 4, 1) := by decide +kernel
theorem dX11_readsCommand_1 : decode cX11_readsCommand 1 = .ok (.aload_n 0, 1) := by decide +kernel
theorem dX11_readsCommand_2 : decode cX11_readsCommand 2 = .ok (.getfield 240, 3) := by decide +kernel
theorem dX11_readsCommand_5 : decode cX11_readsCommand 5 = .ok (.imul, 1) := by decide +kernel
theorem dX11_readsCommand_6 : decode cX11_readsCommand 6 = .ok (.istore_n 1, 1) := by decide +kernel
theorem dX11_readsCommand_7 : decode cX11_readsCommand 7 = .ok (.aload_n 0, 1) := by decide +kernel
theorem dX11_readsCommand_8 : decode cX11_readsCommand 8 = .ok (.invokevirtual 231, 3) := by decide +kernel
theorem dX11_readsCommand_11 : decode cX11_readsCommand 11 = .ok (.istore_n 2, 1) := by decide +kernel
theorem dX11_readsCommand_12 : decode cX11_readsCommand 12 = .ok (.iload_n 2, 1) := by decide +kernel
theorem dX11_readsCommand_13 : decode cX11_readsCommand 13 = .ok (.invokestatic 243, 3) := by decide +kernel
theorem dX11_readsCommand_16 : decode cX11_readsCommand 16 = .ok (.ifCond .ne 5, 3) := by decide +kernel
theorem dX11_readsCommand_19 : decode cX11_readsCommand 19 = .ok (.iconst 0, 1) := by decide +kernel
theorem dX11_readsCommand_20 : decode cX11_readsCommand 20 = .ok (.ireturn, 1) := by decide +kernel
theorem dX11_readsCommand_21 : decode cX11_readsCommand 21 = .ok (.aload_n 0, 1) := by decide +kernel
theorem dX11_readsCommand_22 : decode cX11_readsCommand 22 = .ok (.getfield 32, 3) := by decide +kernel
theorem dX11_readsCommand_25 : decode cX11_readsCommand 25 = .ok (.iload_n 1, 1) := by decide +kernel
theorem dX11_readsCommand_26 : decode cX11_readsCommand 26 = .ok (.iload_n 2, 1) := by decide +kernel
theorem dX11_readsCommand_27 : decode cX11_readsCommand 27 = .ok (.iastore, 1) := by decide +kernel
theorem dX11_readsCommand_28 : decode cX11_readsCommand 28 = .ok (.aload_n 0, 1) := by decide +kernel
theorem dX11_readsCommand_29 : decode cX11_readsCommand 29 = .ok (.dup, 1) := by decide +kernel
theorem dX11_readsCommand_30 : decode cX11_readsCommand 30 = .ok (.getfield 228, 3) := by decide +kernel
theorem dX11_readsCommand_33 : decode cX11_readsCommand 33 = .ok (.iconst 1, 1) := by decide +kernel
theorem dX11_readsCommand_34 : decode cX11_readsCommand 34 = .ok (.iadd, 1) := by decide +kernel
theorem dX11_readsCommand_35 : decode cX11_readsCommand 35 = .ok (.putfield 228, 3) := by decide +kernel
theorem dX11_readsCommand_38 : decode cX11_readsCommand 38 = .ok (.aload_n 0, 1) := by decide +kernel
theorem dX11_readsCommand_39 : decode cX11_readsCommand 39 = .ok (.dup, 1) := by decide +kernel
theorem dX11_readsCommand_40 : decode cX11_readsCommand 40 = .ok (.getfield 240, 3) := by decide +kernel
theorem dX11_readsCommand_43 : decode cX11_readsCommand 43 = .ok (.iconst 1, 1) := by decide +kernel
theorem dX11_readsCommand_44 : decode cX11_readsCommand 44 = .ok (.iadd, 1) := by decide +kernel
theorem dX11_readsCommand_45 : decode cX11_readsCommand 45 = .ok (.putfield 240, 3) := by decide +kernel
theorem dX11_readsCommand_48 : decode cX11_readsCommand 48 = .ok (.iload_n 2, 1) := by decide +kernel
theorem dX11_readsCommand_49 : decode cX11_readsCommand 49 = .ok (.tableswitch 298 97 120 #[111, 298, 111, 113, 298, 298, 298, 298, 298, 271, 298, 298, 223, 298, 196, 298, 298, 113, 298, 298, 298, 298, 159, 150], 111) := by decide +kernel
theorem dX11_readsCommand_160 : decode cX11_readsCommand 160 = .ok (.iconst 1, 1) := by decide +kernel
theorem dX11_readsCommand_161 : decode cX11_readsCommand 161 = .ok (.ireturn, 1) := by decide +kernel
theorem dX11_readsCommand_162 : decode cX11_readsCommand 162 = .ok (.aload_n 0, 1) := by decide +kernel
theorem dX11_readsCommand_163 : decode cX11_readsCommand 163 = .ok (.iconst 1, 1) := by decide +kernel
theorem dX11_readsCommand_164 : decode cX11_readsCommand 164 = .ok (.iload_n 1, 1) := by decide +kernel
theorem dX11_readsCommand_165 : decode cX11_readsCommand 165 = .ok (.iconst 1, 1) := by decide +kernel
theorem dX11_readsCommand_166 : decode cX11_readsCommand 166 = .ok (.iadd, 1) := by decide +kernel
theorem dX11_readsCommand_167 : decode cX11_readsCommand 167 = .ok (.invokevirtual 237, 3) := by decide +kernel
theorem dX11_readsCommand_170 : decode cX11_readsCommand 170 = .ok (.ifCond .eq 27, 3) := by decide +kernel
theorem dX11_readsCommand_173 : decode cX11_readsCommand 173 = .ok (.aload_n 0, 1) := by decide +kernel
theorem dX11_readsCommand_174 : decode cX11_readsCommand 174 = .ok (.bipush 64, 2) := by decide +kernel
theorem dX11_readsCommand_176 : decode cX11_readsCommand 176 = .ok (.invokevirtual 234, 3) := by decide +kernel
theorem dX11_readsCommand_179 : decode cX11_readsCommand 179 = .ok (.ifCond .eq 18, 3) := by decide +kernel
theorem dX11_readsCommand_182 : decode cX11_readsCommand 182 = .ok (.aload_n 0, 1) := by decide +kernel
theorem dX11_readsCommand_183 : decode cX11_readsCommand 183 = .ok (.iconst 2, 1) := by decide +kernel
theorem dX11_readsCommand_184 : decode cX11_readsCommand 184 = .ok (.iload_n 1, 1) := by decide +kernel
theorem dX11_readsCommand_185 : decode cX11_readsCommand 185 = .ok (.iconst 2, 1) := by decide +kernel
theorem dX11_readsCommand_186 : decode cX11_readsCommand 186 = .ok (.iadd, 1) := by decide +kernel
theorem dX11_readsCommand_187 : decode cX11_readsCommand 187 = .ok (.invokevirtual 237, 3) := by decide +kernel
theorem dX11_readsCommand_190 : decode cX11_readsCommand 190 = .ok (.ifCond .eq 7, 3) := by decide +kernel
theorem dX11_readsCommand_193 : decode cX11_readsCommand 193 = .ok (.iconst 1, 1) := by decide +kernel
theorem dX11_readsCommand_194 : decode cX11_readsCommand 194 = .ok (.goto 4, 3) := by decide +kernel
theorem dX11_readsCommand_197 : decode cX11_readsCommand 197 = .ok (.iconst 0, 1) := by decide +kernel
theorem dX11_readsCommand_198 : decode cX11_readsCommand 198 = .ok (.ireturn, 1) := by decide +kernel
theorem dX11_readsCommand_199 : decode cX11_readsCommand 199 = .ok (.aload_n 0, 1) := by decide +kernel
theorem dX11_readsCommand_200 : decode cX11_readsCommand 200 = .ok (.iconst 1, 1) := by decide +kernel
theorem dX11_readsCommand_201 : decode cX11_readsCommand 201 = .ok (.iload_n 1, 1) := by decide +kernel
theorem dX11_readsCommand_202 : decode cX11_readsCommand 202 = .ok (.iconst 1, 1) := by decide +kernel
theorem dX11_readsCommand_203 : decode cX11_readsCommand 203 = .ok (.iadd, 1) := by decide +kernel
theorem dX11_readsCommand_204 : decode cX11_readsCommand 204 = .ok (.invokevirtual 237, 3) := by decide +kernel
theorem dX11_readsCommand_207 : decode cX11_readsCommand 207 = .ok (.ireturn, 1) := by decide +kernel
theorem dX11_readsCommand_208 : decode cX11_readsCommand 208 = .ok (.aload_n 0, 1) := by decide +kernel
theorem dX11_readsCommand_209 : decode cX11_readsCommand 209 = .ok (.iconst 2, 1) := by decide +kernel
theorem dX11_readsCommand_210 : decode cX11_readsCommand 210 = .ok (.iload_n 1, 1) := by decide +kernel
theorem dX11_readsCommand_211 : decode cX11_readsCommand 211 = .ok (.iconst 1, 1) := by decide +kernel
theorem dX11_readsCommand_212 : decode cX11_readsCommand 212 = .ok (.iadd, 1) := by decide +kernel
theorem dX11_readsCommand_213 : decode cX11_readsCommand 213 = .ok (.invokevirtual 237, 3) := by decide +kernel
theorem dX11_readsCommand_216 : decode cX11_readsCommand 216 = .ok (.ifCond .eq 27, 3) := by decide +kernel
theorem dX11_readsCommand_219 : decode cX11_readsCommand 219 = .ok (.aload_n 0, 1) := by decide +kernel
theorem dX11_readsCommand_220 : decode cX11_readsCommand 220 = .ok (.bipush 64, 2) := by decide +kernel
theorem dX11_readsCommand_222 : decode cX11_readsCommand 222 = .ok (.invokevirtual 234, 3) := by decide +kernel
theorem dX11_readsCommand_225 : decode cX11_readsCommand 225 = .ok (.ifCond .eq 18, 3) := by decide +kernel
theorem dX11_readsCommand_228 : decode cX11_readsCommand 228 = .ok (.aload_n 0, 1) := by decide +kernel
theorem dX11_readsCommand_229 : decode cX11_readsCommand 229 = .ok (.iconst 1, 1) := by decide +kernel
theorem dX11_readsCommand_230 : decode cX11_readsCommand 230 = .ok (.iload_n 1, 1) := by decide +kernel
theorem dX11_readsCommand_231 : decode cX11_readsCommand 231 = .ok (.iconst 2, 1) := by decide +kernel
theorem dX11_readsCommand_232 : decode cX11_readsCommand 232 = .ok (.iadd, 1) := by decide +kernel
theorem dX11_readsCommand_233 : decode cX11_readsCommand 233 = .ok (.invokevirtual 237, 3) := by decide +kernel
theorem dX11_readsCommand_236 : decode cX11_readsCommand 236 = .ok (.ifCond .eq 7, 3) := by decide +kernel
theorem dX11_readsCommand_239 : decode cX11_readsCommand 239 = .ok (.iconst 1, 1) := by decide +kernel
theorem dX11_readsCommand_240 : decode cX11_readsCommand 240 = .ok (.goto 4, 3) := by decide +kernel
theorem dX11_readsCommand_243 : decode cX11_readsCommand 243 = .ok (.iconst 0, 1) := by decide +kernel
theorem dX11_readsCommand_244 : decode cX11_readsCommand 244 = .ok (.ireturn, 1) := by decide +kernel
theorem dX11_readsCommand_245 : decode cX11_readsCommand 245 = .ok (.aload_n 0, 1) := by decide +kernel
theorem dX11_readsCommand_246 : decode cX11_readsCommand 246 = .ok (.iconst 1, 1) := by decide +kernel
theorem dX11_readsCommand_247 : decode cX11_readsCommand 247 = .ok (.iload_n 1, 1) := by decide +kernel
theorem dX11_readsCommand_248 : decode cX11_readsCommand 248 = .ok (.iconst 1, 1) := by decide +kernel
theorem dX11_readsCommand_249 : decode cX11_readsCommand 249 = .ok (.iadd, 1) := by decide +kernel
theorem dX11_readsCommand_250 : decode cX11_readsCommand 250 = .ok (.invokevirtual 237, 3) := by decide +kernel
theorem dX11_readsCommand_253 : decode cX11_readsCommand 253 = .ok (.ifCond .eq 17, 3) := by decide +kernel
theorem dX11_readsCommand_256 : decode cX11_readsCommand 256 = .ok (.aload_n 0, 1) := by decide +kernel
theorem dX11_readsCommand_257 : decode cX11_readsCommand 257 = .ok (.iload_n 1, 1) := by decide +kernel
theorem dX11_readsCommand_258 : decode cX11_readsCommand 258 = .ok (.iconst 2, 1) := by decide +kernel
theorem dX11_readsCommand_259 : decode cX11_readsCommand 259 = .ok (.iadd, 1) := by decide +kernel
theorem dX11_readsCommand_260 : decode cX11_readsCommand 260 = .ok (.invokevirtual 246, 3) := by decide +kernel
theorem dX11_readsCommand_263 : decode cX11_readsCommand 263 = .ok (.ifCond .eq 7, 3) := by decide +kernel
theorem dX11_readsCommand_266 : decode cX11_readsCommand 266 = .ok (.iconst 1, 1) := by decide +kernel
theorem dX11_readsCommand_267 : decode cX11_readsCommand 267 = .ok (.goto 4, 3) := by decide +kernel
theorem dX11_readsCommand_270 : decode cX11_readsCommand 270 = .ok (.iconst 0, 1) := by decide +kernel
theorem dX11_readsCommand_271 : decode cX11_readsCommand 271 = .ok (.ireturn, 1) := by decide +kernel
theorem dX11_readsCommand_272 : decode cX11_readsCommand 272 = .ok (.aload_n 0, 1) := by decide +kernel
theorem dX11_readsCommand_273 : decode cX11_readsCommand 273 = .ok (.iconst 1, 1) := by decide +kernel
theorem dX11_readsCommand_274 : decode cX11_readsCommand 274 = .ok (.iload_n 1, 1) := by decide +kernel
theorem dX11_readsCommand_275 : decode cX11_readsCommand 275 = .ok (.iconst 1, 1) := by decide +kernel
theorem dX11_readsCommand_276 : decode cX11_readsCommand 276 = .ok (.iadd, 1) := by decide +kernel
theorem dX11_readsCommand_277 : decode cX11_readsCommand 277 = .ok (.invokevirtual 237, 3) := by decide +kernel
theorem dX11_readsCommand_280 : decode cX11_readsCommand 280 = .ok (.ifCond .eq 38, 3) := by decide +kernel
theorem dX11_readsCommand_283 : decode cX11_readsCommand 283 = .ok (.aload_n 0, 1) := by decide +kernel
theorem dX11_readsCommand_284 : decode cX11_readsCommand 284 = .ok (.iconst 1, 1) := by decide +kernel
theorem dX11_readsCommand_285 : decode cX11_readsCommand 285 = .ok (.iload_n 1, 1) := by decide +kernel
theorem dX11_readsCommand_286 : decode cX11_readsCommand 286 = .ok (.iconst 2, 1) := by decide +kernel
theorem dX11_readsCommand_287 : decode cX11_readsCommand 287 = .ok (.iadd, 1) := by decide +kernel
theorem dX11_readsCommand_288 : decode cX11_readsCommand 288 = .ok (.invokevirtual 237, 3) := by decide +kernel
theorem dX11_readsCommand_291 : decode cX11_readsCommand 291 = .ok (.ifCond .eq 27, 3) := by decide +kernel
theorem dX11_readsCommand_294 : decode cX11_readsCommand 294 = .ok (.aload_n 0, 1) := by decide +kernel
theorem dX11_readsCommand_295 : decode cX11_readsCommand 295 = .ok (.bipush 61, 2) := by decide +kernel
theorem dX11_readsCommand_297 : decode cX11_readsCommand 297 = .ok (.invokevirtual 234, 3) := by decide +kernel
theorem dX11_readsCommand_300 : decode cX11_readsCommand 300 = .ok (.ifCond .eq 18, 3) := by decide +kernel
theorem dX11_readsCommand_303 : decode cX11_readsCommand 303 = .ok (.aload_n 0, 1) := by decide +kernel
theorem dX11_readsCommand_304 : decode cX11_readsCommand 304 = .ok (.iconst 1, 1) := by decide +kernel
theorem dX11_readsCommand_305 : decode cX11_readsCommand 305 = .ok (.iload_n 1, 1) := by decide +kernel
theorem dX11_readsCommand_306 : decode cX11_readsCommand 306 = .ok (.iconst 3, 1) := by decide +kernel
theorem dX11_readsCommand_307 : decode cX11_readsCommand 307 = .ok (.iadd, 1) := by decide +kernel
theorem dX11_readsCommand_308 : decode cX11_readsCommand 308 = .ok (.invokevirtual 237, 3) := by decide +kernel
theorem dX11_readsCommand_311 : decode cX11_readsCommand 311 = .ok (.ifCond .eq 7, 3) := by decide +kernel
theorem dX11_readsCommand_314 : decode cX11_readsCommand 314 = .ok (.iconst 1, 1) := by decide +kernel
theorem dX11_readsCommand_315 : decode cX11_readsCommand 315 = .ok (.goto 4, 3) := by decide +kernel
theorem dX11_readsCommand_318 : decode cX11_readsCommand 318 = .ok (.iconst 0, 1) := by decide +kernel
theorem dX11_readsCommand_319 : decode cX11_readsCommand 319 = .ok (.ireturn, 1) := by decide +kernel
theorem dX11_readsCommand_320 : decode cX11_readsCommand 320 = .ok (.aload_n 0, 1) := by decide +kernel
theorem dX11_readsCommand_321 : decode cX11_readsCommand 321 = .ok (.iconst 1, 1) := by decide +kernel
theorem dX11_readsCommand_322 : decode cX11_readsCommand 322 = .ok (.iload_n 1, 1) := by decide +kernel
theorem dX11_readsCommand_323 : decode cX11_readsCommand 323 = .ok (.iconst 1, 1) := by decide +kernel
theorem dX11_readsCommand_324 : decode cX11_readsCommand 324 = .ok (.iadd, 1) := by decide +kernel
theorem dX11_readsCommand_325 : decode cX11_readsCommand 325 = .ok (.invokevirtual 237, 3) := by decide +kernel
theorem dX11_readsCommand_328 : decode cX11_readsCommand 328 = .ok (.ifCond .eq 17, 3) := by decide +kernel
theorem dX11_readsCommand_331 : decode cX11_readsCommand 331 = .ok (.aload_n 0, 1) := by decide +kernel
theorem dX11_readsCommand_332 : decode cX11_readsCommand 332 = .ok (.iload_n 1, 1) := by decide +kernel
theorem dX11_readsCommand_333 : decode cX11_readsCommand 333 = .ok (.iconst 2, 1) := by decide +kernel
theorem dX11_readsCommand_334 : decode cX11_readsCommand 334 = .ok (.iadd, 1) := by decide +kernel
theorem dX11_readsCommand_335 : decode cX11_readsCommand 335 = .ok (.invokevirtual 249, 3) := by decide +kernel
theorem dX11_readsCommand_338 : decode cX11_readsCommand 338 = .ok (.ifCond .eq 7, 3) := by decide +kernel
theorem dX11_readsCommand_341 : decode cX11_readsCommand 341 = .ok (.iconst 1, 1) := by decide +kernel
theorem dX11_readsCommand_342 : decode cX11_readsCommand 342 = .ok (.goto 4, 3) := by decide +kernel
theorem dX11_readsCommand_345 : decode cX11_readsCommand 345 = .ok (.iconst 0, 1) := by decide +kernel
theorem dX11_readsCommand_346 : decode cX11_readsCommand 346 = .ok (.ireturn, 1) := by decide +kernel
theorem dX11_readsCommand_347 : decode cX11_readsCommand 347 = .ok (.aload_n 0, 1) := by decide +kernel
theorem dX11_readsCommand_348 : decode cX11_readsCommand 348 = .ok (.iconst 1, 1) := by decide +kernel
theorem dX11_readsCommand_349 : decode cX11_readsCommand 349 = .ok (.iload_n 1, 1) := by decide +kernel
theorem dX11_readsCommand_350 : decode cX11_readsCommand 350 = .ok (.iconst 1, 1) := by decide +kernel
theorem dX11_readsCommand_351 : decode cX11_readsCommand 351 = .ok (.iadd, 1) := by decide +kernel
theorem dX11_readsCommand_352 : decode cX11_readsCommand 352 = .ok (.invokevirtual 237, 3) := by decide +kernel
theorem dX11_readsCommand_355 : decode cX11_readsCommand 355 = .ok (.ifCond .eq 29, 3) := by decide +kernel
theorem dX11_readsCommand_358 : decode cX11_readsCommand 358 = .ok (.aload_n 0, 1) := by decide +kernel
theorem dX11_readsCommand_359 : decode cX11_readsCommand 359 = .ok (.iconst 1, 1) := by decide +kernel
theorem dX11_readsCommand_360 : decode cX11_readsCommand 360 = .ok (.iload_n 1, 1) := by decide +kernel
theorem dX11_readsCommand_361 : decode cX11_readsCommand 361 = .ok (.iconst 2, 1) := by decide +kernel
theorem dX11_readsCommand_362 : decode cX11_readsCommand 362 = .ok (.iadd, 1) := by decide +kernel
theorem dX11_readsCommand_363 : decode cX11_readsCommand 363 = .ok (.invokevirtual 237, 3) := by decide +kernel
theorem dX11_readsCommand_366 : decode cX11_readsCommand 366 = .ok (.ifCond .eq 18, 3) := by decide +kernel
theorem dX11_readsCommand_369 : decode cX11_readsCommand 369 = .ok (.aload_n 0, 1) := by decide +kernel
theorem dX11_readsCommand_370 : decode cX11_readsCommand 370 = .ok (.iconst 1, 1) := by decide +kernel
theorem dX11_readsCommand_371 : decode cX11_readsCommand 371 = .ok (.iload_n 1, 1) := by decide +kernel
theorem dX11_readsCommand_372 : decode cX11_readsCommand 372 = .ok (.iconst 3, 1) := by decide +kernel
theorem dX11_readsCommand_373 : decode cX11_readsCommand 373 = .ok (.iadd, 1) := by decide +kernel
theorem dX11_readsCommand_374 : decode cX11_readsCommand 374 = .ok (.invokevirtual 237, 3) := by decide +kernel
theorem dX11_readsCommand_377 : decode cX11_readsCommand 377 = .ok (.ifCond .eq 7, 3) := by decide +kernel
theorem dX11_readsCommand_380 : decode cX11_readsCommand 380 = .ok (.iconst 1, 1) := by decide +kernel
theorem dX11_readsCommand_381 : decode cX11_readsCommand 381 = .ok (.goto 4, 3) := by decide +kernel
theorem dX11_readsCommand_384 : decode cX11_readsCommand 384 = .ok (.iconst 0, 1) := by decide +kernel
theorem dX11_readsCommand_385 : decode cX11_readsCommand 385 = .ok (.ireturn, 1) := by decide +kernel
theorem e_239 (r : Nat)  (ws : ai_W) : ai_Call 239 [.ref r] ws = if ai_isob ws r 11 = true then ai_Run 239 0 [.ref r, .null, .null] [] ws else none := R_entV hk_239 ⟨⟨rfl, rfl⟩, Nat.le_of_ble_eq_true rfl⟩ rfl
theorem r_239_0 (ls st : List Value) (ws : ai_W) : ai_Run 239 0 ls st ws = ai_Run 239 1 ls (.int 4 :: st) ws := R_iconst hc_239 dX11_readsCommand_0 (by decide) rfl
theorem r_239_1 (l1 l2 : Value) (a : Nat) (st : List Value) (ws : ai_W) : ai_Run 239 1 [.ref a, l1, l2] st ws = ai_Run 239 2 [.ref a, l1, l2] (.ref a :: st) ws := R_aload_n hc_239 dX11_readsCommand_1 rfl rfl
theorem r_239_2 (ls st : List Value) (a : Nat) (ws : ai_W) : ai_Run 239 2 ls (.ref a :: st) ws = (ai_fget ws a 11 15).bind fun q => ai_Run 239 5 ls (q :: st) ws := R_getf hc_239 dX11_readsCommand_2 hv_239 (w := 1039) rfl rfl
theorem r_239_5 (ls st : List Value) (a b : Int32) (ws : ai_W) : ai_Run 239 5 ls (.int b :: .int a :: st) ws = ai_Run 239 6 ls (.int (a * b) :: st) ws := R_imul hc_239 dX11_readsCommand_5 rfl
theorem r_239_6 (l0 l1 l2 : Value) (a : Int32) (st : List Value) (ws : ai_W) : ai_Run 239 6 [l0, l1, l2] (.int a :: st) ws = ai_Run 239 7 [l0, .int a, l2] st ws := R_istore_n hc_239 dX11_readsCommand_6 (Nat.le_of_ble_eq_true rfl) rfl rfl
theorem r_239_7 (l1 l2 : Value) (a : Nat) (st : List Value) (ws : ai_W) : ai_Run 239 7 [.ref a, l1, l2] st ws = ai_Run 239 8 [.ref a, l1, l2] (.ref a :: st) ws := R_aload_n hc_239 dX11_readsCommand_7 rfl rfl
theorem r_239_8 (ls : List Value) (r : Nat) (ws : ai_W) : ai_Run 239 8 ls [.ref r] ws = (ai_Call 233 [.ref r] ws).bind fun q => ai_Run 239 11 ls (q.1.toList ++ []) q.2 := R_callV hc_239 dX11_readsCommand_8 hv_239 (w := 1406) rfl (Nat.le_of_ble_eq_true rfl) hk_233 (by rw [hn_233]; rfl) rfl (Nat.le_of_ble_eq_true rfl) rfl
theorem r_239_11 (l0 l1 l2 : Value) (a : Int32) (st : List Value) (ws : ai_W) : ai_Run 239 11 [l0, l1, l2] (.int a :: st) ws = ai_Run 239 12 [l0, l1, .int a] st ws := R_istore_n hc_239 dX11_readsCommand_11 (Nat.le_of_ble_eq_true rfl) rfl rfl
theorem r_239_12 (l0 l1 : Value) (a : Int32) (st : List Value) (ws : ai_W) : ai_Run 239 12 [l0, l1, .int a] st ws = ai_Run 239 13 [l0, l1, .int a] (.int a :: st) ws := R_iload_n hc_239 dX11_readsCommand_12 rfl rfl
theorem r_239_13 (ls : List Value) (b0 : Int32) (ws : ai_W) : ai_Run 239 13 ls [.int b0] ws = (ai_Call 235 [.int b0] ws).bind fun q => ai_Run 239 16 ls (q.1.toList ++ []) q.2 := R_callS hc_239 dX11_readsCommand_13 hv_239 (w := 1410) rfl (Nat.le_of_ble_eq_true rfl) hk_235 (by rw [hn_235]; rfl) rfl (Nat.le_of_ble_eq_true rfl) rfl
theorem r_239_16 (ls st : List Value) (a : Int32) (ws : ai_W) : ai_Run 239 16 ls (.int a :: st) ws = if a = 0 then ai_Run 239 19 ls st ws else ai_Run 239 21 ls st ws := R_if_ne hc_239 dX11_readsCommand_16 rfl rfl
theorem r_239_19 (ls st : List Value) (ws : ai_W) : ai_Run 239 19 ls st ws = ai_Run 239 20 ls (.int 0 :: st) ws := R_iconst hc_239 dX11_readsCommand_19 (by decide) rfl
theorem r_239_20 (ls : List Value) (x : Int32) (ws : ai_W) : ai_Run 239 20 ls [.int x] ws = if ai_pb x = true then some (some (.int x), ws) else none := R_zret hc_239 dX11_readsCommand_20 ht_239
theorem r_239_21 (l1 l2 : Value) (a : Nat) (st : List Value) (ws : ai_W) : ai_Run 239 21 [.ref a, l1, l2] st ws = ai_Run 239 22 [.ref a, l1, l2] (.ref a :: st) ws := R_aload_n hc_239 dX11_readsCommand_21 rfl rfl
theorem r_239_22 (ls st : List Value) (a : Nat) (ws : ai_W) : ai_Run 239 22 ls (.ref a :: st) ws = (ai_fget ws a 11 12).bind fun q => ai_Run 239 25 ls (q :: st) ws := R_getf hc_239 dX11_readsCommand_22 hv_239 (w := 1036) rfl rfl
theorem r_239_25 (l0 l2 : Value) (a : Int32) (st : List Value) (ws : ai_W) : ai_Run 239 25 [l0, .int a, l2] st ws = ai_Run 239 26 [l0, .int a, l2] (.int a :: st) ws := R_iload_n hc_239 dX11_readsCommand_25 rfl rfl
theorem r_239_26 (l0 l1 : Value) (a : Int32) (st : List Value) (ws : ai_W) : ai_Run 239 26 [l0, l1, .int a] st ws = ai_Run 239 27 [l0, l1, .int a] (.int a :: st) ws := R_iload_n hc_239 dX11_readsCommand_26 rfl rfl
theorem r_239_27 (ls st : List Value) (a : Nat) (i x : Int32) (ws : ai_W) : ai_Run 239 27 ls (.int x :: .int i :: .ref a :: st) ws = (ai_aset ws a i x).bind fun ws => ai_Run 239 28 ls st ws := R_iastore hc_239 dX11_readsCommand_27 rfl
theorem r_239_28 (l1 l2 : Value) (a : Nat) (st : List Value) (ws : ai_W) : ai_Run 239 28 [.ref a, l1, l2] st ws = ai_Run 239 29 [.ref a, l1, l2] (.ref a :: st) ws := R_aload_n hc_239 dX11_readsCommand_28 rfl rfl
theorem r_239_29 (ls st : List Value) (a : Nat) (ws : ai_W) : ai_Run 239 29 ls (.ref a :: st) ws = ai_Run 239 30 ls (.ref a :: .ref a :: st) ws := R_dup hc_239 dX11_readsCommand_29 rfl
theorem r_239_30 (ls st : List Value) (a : Nat) (ws : ai_W) : ai_Run 239 30 ls (.ref a :: st) ws = (ai_fget ws a 11 14).bind fun q => ai_Run 239 33 ls (q :: st) ws := R_getf hc_239 dX11_readsCommand_30 hv_239 (w := 1038) rfl rfl
theorem r_239_33 (ls st : List Value) (ws : ai_W) : ai_Run 239 33 ls st ws = ai_Run 239 34 ls (.int 1 :: st) ws := R_iconst hc_239 dX11_readsCommand_33 (by decide) rfl
theorem r_239_34 (ls st : List Value) (a b : Int32) (ws : ai_W) : ai_Run 239 34 ls (.int b :: .int a :: st) ws = ai_Run 239 35 ls (.int (a + b) :: st) ws := R_iadd hc_239 dX11_readsCommand_34 rfl
theorem r_239_35 (ls st : List Value) (a : Nat) (x : Value) (ws : ai_W) : ai_Run 239 35 ls (x :: .ref a :: st) ws = (ai_fput ws a 11 14 x).bind fun ws => ai_Run 239 38 ls st ws := R_putf hc_239 dX11_readsCommand_35 hv_239 (w := 1038) rfl rfl rfl
theorem r_239_38 (l1 l2 : Value) (a : Nat) (st : List Value) (ws : ai_W) : ai_Run 239 38 [.ref a, l1, l2] st ws = ai_Run 239 39 [.ref a, l1, l2] (.ref a :: st) ws := R_aload_n hc_239 dX11_readsCommand_38 rfl rfl
theorem r_239_39 (ls st : List Value) (a : Nat) (ws : ai_W) : ai_Run 239 39 ls (.ref a :: st) ws = ai_Run 239 40 ls (.ref a :: .ref a :: st) ws := R_dup hc_239 dX11_readsCommand_39 rfl
theorem r_239_40 (ls st : List Value) (a : Nat) (ws : ai_W) : ai_Run 239 40 ls (.ref a :: st) ws = (ai_fget ws a 11 15).bind fun q => ai_Run 239 43 ls (q :: st) ws := R_getf hc_239 dX11_readsCommand_40 hv_239 (w := 1039) rfl rfl
theorem r_239_43 (ls st : List Value) (ws : ai_W) : ai_Run 239 43 ls st ws = ai_Run 239 44 ls (.int 1 :: st) ws := R_iconst hc_239 dX11_readsCommand_43 (by decide) rfl
theorem r_239_44 (ls st : List Value) (a b : Int32) (ws : ai_W) : ai_Run 239 44 ls (.int b :: .int a :: st) ws = ai_Run 239 45 ls (.int (a + b) :: st) ws := R_iadd hc_239 dX11_readsCommand_44 rfl
theorem r_239_45 (ls st : List Value) (a : Nat) (x : Value) (ws : ai_W) : ai_Run 239 45 ls (x :: .ref a :: st) ws = (ai_fput ws a 11 15 x).bind fun ws => ai_Run 239 48 ls st ws := R_putf hc_239 dX11_readsCommand_45 hv_239 (w := 1039) rfl rfl rfl
theorem r_239_48 (l0 l1 : Value) (a : Int32) (st : List Value) (ws : ai_W) : ai_Run 239 48 [l0, l1, .int a] st ws = ai_Run 239 49 [l0, l1, .int a] (.int a :: st) ws := R_iload_n hc_239 dX11_readsCommand_48 rfl rfl
theorem r_239_49 (ls st : List Value) (x : Int32) (ws : ai_W) : ai_Run 239 49 ls (.int x :: st) ws = if x = 97 then ai_Run 239 160 ls st ws else if x = 99 then ai_Run 239 160 ls st ws else if x = 100 then ai_Run 239 162 ls st ws else if x = 106 then ai_Run 239 320 ls st ws else if x = 109 then ai_Run 239 272 ls st ws else if x = 111 then ai_Run 239 245 ls st ws else if x = 114 then ai_Run 239 162 ls st ws else if x = 119 then ai_Run 239 208 ls st ws else if x = 120 then ai_Run 239 199 ls st ws else ai_Run 239 347 ls st ws := by
  by_cases h97 : x = 97
  · subst h97; rw [if_pos rfl]; exact R_switch hc_239 dX11_readsCommand_49 (by decide +kernel)
  rw [if_neg h97]
  by_cases h99 : x = 99
  · subst h99; rw [if_pos rfl]; exact R_switch hc_239 dX11_readsCommand_49 (by decide +kernel)
  rw [if_neg h99]
  by_cases h100 : x = 100
  · subst h100; rw [if_pos rfl]; exact R_switch hc_239 dX11_readsCommand_49 (by decide +kernel)
  rw [if_neg h100]
  by_cases h106 : x = 106
  · subst h106; rw [if_pos rfl]; exact R_switch hc_239 dX11_readsCommand_49 (by decide +kernel)
  rw [if_neg h106]
  by_cases h109 : x = 109
  · subst h109; rw [if_pos rfl]; exact R_switch hc_239 dX11_readsCommand_49 (by decide +kernel)
  rw [if_neg h109]
  by_cases h111 : x = 111
  · subst h111; rw [if_pos rfl]; exact R_switch hc_239 dX11_readsCommand_49 (by decide +kernel)
  rw [if_neg h111]
  by_cases h114 : x = 114
  · subst h114; rw [if_pos rfl]; exact R_switch hc_239 dX11_readsCommand_49 (by decide +kernel)
  rw [if_neg h114]
  by_cases h119 : x = 119
  · subst h119; rw [if_pos rfl]; exact R_switch hc_239 dX11_readsCommand_49 (by decide +kernel)
  rw [if_neg h119]
  by_cases h120 : x = 120
  · subst h120; rw [if_pos rfl]; exact R_switch hc_239 dX11_readsCommand_49 (by decide +kernel)
  rw [if_neg h120]
  by_cases h98 : x = 98
  · subst h98; exact R_switch hc_239 dX11_readsCommand_49 (by decide +kernel)
  by_cases h101 : x = 101
  · subst h101; exact R_switch hc_239 dX11_readsCommand_49 (by decide +kernel)
  by_cases h102 : x = 102
  · subst h102; exact R_switch hc_239 dX11_readsCommand_49 (by decide +kernel)
  by_cases h103 : x = 103
  · subst h103; exact R_switch hc_239 dX11_readsCommand_49 (by decide +kernel)
  by_cases h104 : x = 104
  · subst h104; exact R_switch hc_239 dX11_readsCommand_49 (by decide +kernel)
  by_cases h105 : x = 105
  · subst h105; exact R_switch hc_239 dX11_readsCommand_49 (by decide +kernel)
  by_cases h107 : x = 107
  · subst h107; exact R_switch hc_239 dX11_readsCommand_49 (by decide +kernel)
  by_cases h108 : x = 108
  · subst h108; exact R_switch hc_239 dX11_readsCommand_49 (by decide +kernel)
  by_cases h110 : x = 110
  · subst h110; exact R_switch hc_239 dX11_readsCommand_49 (by decide +kernel)
  by_cases h112 : x = 112
  · subst h112; exact R_switch hc_239 dX11_readsCommand_49 (by decide +kernel)
  by_cases h113 : x = 113
  · subst h113; exact R_switch hc_239 dX11_readsCommand_49 (by decide +kernel)
  by_cases h115 : x = 115
  · subst h115; exact R_switch hc_239 dX11_readsCommand_49 (by decide +kernel)
  by_cases h116 : x = 116
  · subst h116; exact R_switch hc_239 dX11_readsCommand_49 (by decide +kernel)
  by_cases h117 : x = 117
  · subst h117; exact R_switch hc_239 dX11_readsCommand_49 (by decide +kernel)
  by_cases h118 : x = 118
  · subst h118; exact R_switch hc_239 dX11_readsCommand_49 (by decide +kernel)
  have q97 : x.toInt ≠ 97 := fun e => h97 (Int32.toInt_inj.mp e)
  have q98 : x.toInt ≠ 98 := fun e => h98 (Int32.toInt_inj.mp e)
  have q99 : x.toInt ≠ 99 := fun e => h99 (Int32.toInt_inj.mp e)
  have q100 : x.toInt ≠ 100 := fun e => h100 (Int32.toInt_inj.mp e)
  have q101 : x.toInt ≠ 101 := fun e => h101 (Int32.toInt_inj.mp e)
  have q102 : x.toInt ≠ 102 := fun e => h102 (Int32.toInt_inj.mp e)
  have q103 : x.toInt ≠ 103 := fun e => h103 (Int32.toInt_inj.mp e)
  have q104 : x.toInt ≠ 104 := fun e => h104 (Int32.toInt_inj.mp e)
  have q105 : x.toInt ≠ 105 := fun e => h105 (Int32.toInt_inj.mp e)
  have q106 : x.toInt ≠ 106 := fun e => h106 (Int32.toInt_inj.mp e)
  have q107 : x.toInt ≠ 107 := fun e => h107 (Int32.toInt_inj.mp e)
  have q108 : x.toInt ≠ 108 := fun e => h108 (Int32.toInt_inj.mp e)
  have q109 : x.toInt ≠ 109 := fun e => h109 (Int32.toInt_inj.mp e)
  have q110 : x.toInt ≠ 110 := fun e => h110 (Int32.toInt_inj.mp e)
  have q111 : x.toInt ≠ 111 := fun e => h111 (Int32.toInt_inj.mp e)
  have q112 : x.toInt ≠ 112 := fun e => h112 (Int32.toInt_inj.mp e)
  have q113 : x.toInt ≠ 113 := fun e => h113 (Int32.toInt_inj.mp e)
  have q114 : x.toInt ≠ 114 := fun e => h114 (Int32.toInt_inj.mp e)
  have q115 : x.toInt ≠ 115 := fun e => h115 (Int32.toInt_inj.mp e)
  have q116 : x.toInt ≠ 116 := fun e => h116 (Int32.toInt_inj.mp e)
  have q117 : x.toInt ≠ 117 := fun e => h117 (Int32.toInt_inj.mp e)
  have q118 : x.toInt ≠ 118 := fun e => h118 (Int32.toInt_inj.mp e)
  have q119 : x.toInt ≠ 119 := fun e => h119 (Int32.toInt_inj.mp e)
  have q120 : x.toInt ≠ 120 := fun e => h120 (Int32.toInt_inj.mp e)
  refine R_switch hc_239 dX11_readsCommand_49 (t := 347) ?_
  unfold ai_sw
  rw [if_pos (by omega)]
  rfl
theorem r_239_160 (ls st : List Value) (ws : ai_W) : ai_Run 239 160 ls st ws = ai_Run 239 161 ls (.int 1 :: st) ws := R_iconst hc_239 dX11_readsCommand_160 (by decide) rfl
theorem r_239_161 (ls : List Value) (x : Int32) (ws : ai_W) : ai_Run 239 161 ls [.int x] ws = if ai_pb x = true then some (some (.int x), ws) else none := R_zret hc_239 dX11_readsCommand_161 ht_239
theorem r_239_162 (l1 l2 : Value) (a : Nat) (st : List Value) (ws : ai_W) : ai_Run 239 162 [.ref a, l1, l2] st ws = ai_Run 239 163 [.ref a, l1, l2] (.ref a :: st) ws := R_aload_n hc_239 dX11_readsCommand_162 rfl rfl
theorem r_239_163 (ls st : List Value) (ws : ai_W) : ai_Run 239 163 ls st ws = ai_Run 239 164 ls (.int 1 :: st) ws := R_iconst hc_239 dX11_readsCommand_163 (by decide) rfl
theorem r_239_164 (l0 l2 : Value) (a : Int32) (st : List Value) (ws : ai_W) : ai_Run 239 164 [l0, .int a, l2] st ws = ai_Run 239 165 [l0, .int a, l2] (.int a :: st) ws := R_iload_n hc_239 dX11_readsCommand_164 rfl rfl
theorem r_239_165 (ls st : List Value) (ws : ai_W) : ai_Run 239 165 ls st ws = ai_Run 239 166 ls (.int 1 :: st) ws := R_iconst hc_239 dX11_readsCommand_165 (by decide) rfl
theorem r_239_166 (ls st : List Value) (a b : Int32) (ws : ai_W) : ai_Run 239 166 ls (.int b :: .int a :: st) ws = ai_Run 239 167 ls (.int (a + b) :: st) ws := R_iadd hc_239 dX11_readsCommand_166 rfl
theorem r_239_167 (ls : List Value) (r : Nat) (b0 : Int32) (b1 : Int32) (ws : ai_W) : ai_Run 239 167 ls [.int b1, .int b0, .ref r] ws = (ai_Call 236 [.ref r, .int b0, .int b1] ws).bind fun q => ai_Run 239 170 ls (q.1.toList ++ []) q.2 := R_callV hc_239 dX11_readsCommand_167 hv_239 (w := 1413) rfl (Nat.le_of_ble_eq_true rfl) hk_236 (by rw [hn_236]; rfl) rfl (Nat.le_of_ble_eq_true rfl) rfl
theorem r_239_170 (ls st : List Value) (a : Int32) (ws : ai_W) : ai_Run 239 170 ls (.int a :: st) ws = if a = 0 then ai_Run 239 197 ls st ws else ai_Run 239 173 ls st ws := R_if_eq hc_239 dX11_readsCommand_170 rfl rfl
theorem r_239_173 (l1 l2 : Value) (a : Nat) (st : List Value) (ws : ai_W) : ai_Run 239 173 [.ref a, l1, l2] st ws = ai_Run 239 174 [.ref a, l1, l2] (.ref a :: st) ws := R_aload_n hc_239 dX11_readsCommand_173 rfl rfl
theorem r_239_174 (ls st : List Value) (ws : ai_W) : ai_Run 239 174 ls st ws = ai_Run 239 176 ls (.int 64 :: st) ws := R_bipush hc_239 dX11_readsCommand_174 (by decide) rfl
theorem r_239_176 (ls : List Value) (r : Nat) (b0 : Int32) (ws : ai_W) : ai_Run 239 176 ls [.int b0, .ref r] ws = (ai_Call 234 [.ref r, .int b0] ws).bind fun q => ai_Run 239 179 ls (q.1.toList ++ []) q.2 := R_callV hc_239 dX11_readsCommand_176 hv_239 (w := 1417) rfl (Nat.le_of_ble_eq_true rfl) hk_234 (by rw [hn_234]; rfl) rfl (Nat.le_of_ble_eq_true rfl) rfl
theorem r_239_179 (ls st : List Value) (a : Int32) (ws : ai_W) : ai_Run 239 179 ls (.int a :: st) ws = if a = 0 then ai_Run 239 197 ls st ws else ai_Run 239 182 ls st ws := R_if_eq hc_239 dX11_readsCommand_179 rfl rfl
theorem r_239_182 (l1 l2 : Value) (a : Nat) (st : List Value) (ws : ai_W) : ai_Run 239 182 [.ref a, l1, l2] st ws = ai_Run 239 183 [.ref a, l1, l2] (.ref a :: st) ws := R_aload_n hc_239 dX11_readsCommand_182 rfl rfl
theorem r_239_183 (ls st : List Value) (ws : ai_W) : ai_Run 239 183 ls st ws = ai_Run 239 184 ls (.int 2 :: st) ws := R_iconst hc_239 dX11_readsCommand_183 (by decide) rfl
theorem r_239_184 (l0 l2 : Value) (a : Int32) (st : List Value) (ws : ai_W) : ai_Run 239 184 [l0, .int a, l2] st ws = ai_Run 239 185 [l0, .int a, l2] (.int a :: st) ws := R_iload_n hc_239 dX11_readsCommand_184 rfl rfl
theorem r_239_185 (ls st : List Value) (ws : ai_W) : ai_Run 239 185 ls st ws = ai_Run 239 186 ls (.int 2 :: st) ws := R_iconst hc_239 dX11_readsCommand_185 (by decide) rfl
theorem r_239_186 (ls st : List Value) (a b : Int32) (ws : ai_W) : ai_Run 239 186 ls (.int b :: .int a :: st) ws = ai_Run 239 187 ls (.int (a + b) :: st) ws := R_iadd hc_239 dX11_readsCommand_186 rfl
theorem r_239_187 (ls : List Value) (r : Nat) (b0 : Int32) (b1 : Int32) (ws : ai_W) : ai_Run 239 187 ls [.int b1, .int b0, .ref r] ws = (ai_Call 236 [.ref r, .int b0, .int b1] ws).bind fun q => ai_Run 239 190 ls (q.1.toList ++ []) q.2 := R_callV hc_239 dX11_readsCommand_187 hv_239 (w := 1413) rfl (Nat.le_of_ble_eq_true rfl) hk_236 (by rw [hn_236]; rfl) rfl (Nat.le_of_ble_eq_true rfl) rfl
theorem r_239_190 (ls st : List Value) (a : Int32) (ws : ai_W) : ai_Run 239 190 ls (.int a :: st) ws = if a = 0 then ai_Run 239 197 ls st ws else ai_Run 239 193 ls st ws := R_if_eq hc_239 dX11_readsCommand_190 rfl rfl
theorem r_239_193 (ls st : List Value) (ws : ai_W) : ai_Run 239 193 ls st ws = ai_Run 239 194 ls (.int 1 :: st) ws := R_iconst hc_239 dX11_readsCommand_193 (by decide) rfl
theorem r_239_194 (ls st : List Value) (ws : ai_W) : ai_Run 239 194 ls st ws = ai_Run 239 198 ls st ws := R_goto hc_239 dX11_readsCommand_194 rfl
theorem r_239_197 (ls st : List Value) (ws : ai_W) : ai_Run 239 197 ls st ws = ai_Run 239 198 ls (.int 0 :: st) ws := R_iconst hc_239 dX11_readsCommand_197 (by decide) rfl
theorem r_239_198 (ls : List Value) (x : Int32) (ws : ai_W) : ai_Run 239 198 ls [.int x] ws = if ai_pb x = true then some (some (.int x), ws) else none := R_zret hc_239 dX11_readsCommand_198 ht_239
theorem r_239_199 (l1 l2 : Value) (a : Nat) (st : List Value) (ws : ai_W) : ai_Run 239 199 [.ref a, l1, l2] st ws = ai_Run 239 200 [.ref a, l1, l2] (.ref a :: st) ws := R_aload_n hc_239 dX11_readsCommand_199 rfl rfl
theorem r_239_200 (ls st : List Value) (ws : ai_W) : ai_Run 239 200 ls st ws = ai_Run 239 201 ls (.int 1 :: st) ws := R_iconst hc_239 dX11_readsCommand_200 (by decide) rfl
theorem r_239_201 (l0 l2 : Value) (a : Int32) (st : List Value) (ws : ai_W) : ai_Run 239 201 [l0, .int a, l2] st ws = ai_Run 239 202 [l0, .int a, l2] (.int a :: st) ws := R_iload_n hc_239 dX11_readsCommand_201 rfl rfl
theorem r_239_202 (ls st : List Value) (ws : ai_W) : ai_Run 239 202 ls st ws = ai_Run 239 203 ls (.int 1 :: st) ws := R_iconst hc_239 dX11_readsCommand_202 (by decide) rfl
theorem r_239_203 (ls st : List Value) (a b : Int32) (ws : ai_W) : ai_Run 239 203 ls (.int b :: .int a :: st) ws = ai_Run 239 204 ls (.int (a + b) :: st) ws := R_iadd hc_239 dX11_readsCommand_203 rfl
theorem r_239_204 (ls : List Value) (r : Nat) (b0 : Int32) (b1 : Int32) (ws : ai_W) : ai_Run 239 204 ls [.int b1, .int b0, .ref r] ws = (ai_Call 236 [.ref r, .int b0, .int b1] ws).bind fun q => ai_Run 239 207 ls (q.1.toList ++ []) q.2 := R_callV hc_239 dX11_readsCommand_204 hv_239 (w := 1413) rfl (Nat.le_of_ble_eq_true rfl) hk_236 (by rw [hn_236]; rfl) rfl (Nat.le_of_ble_eq_true rfl) rfl
theorem r_239_207 (ls : List Value) (x : Int32) (ws : ai_W) : ai_Run 239 207 ls [.int x] ws = if ai_pb x = true then some (some (.int x), ws) else none := R_zret hc_239 dX11_readsCommand_207 ht_239
theorem r_239_208 (l1 l2 : Value) (a : Nat) (st : List Value) (ws : ai_W) : ai_Run 239 208 [.ref a, l1, l2] st ws = ai_Run 239 209 [.ref a, l1, l2] (.ref a :: st) ws := R_aload_n hc_239 dX11_readsCommand_208 rfl rfl
theorem r_239_209 (ls st : List Value) (ws : ai_W) : ai_Run 239 209 ls st ws = ai_Run 239 210 ls (.int 2 :: st) ws := R_iconst hc_239 dX11_readsCommand_209 (by decide) rfl
theorem r_239_210 (l0 l2 : Value) (a : Int32) (st : List Value) (ws : ai_W) : ai_Run 239 210 [l0, .int a, l2] st ws = ai_Run 239 211 [l0, .int a, l2] (.int a :: st) ws := R_iload_n hc_239 dX11_readsCommand_210 rfl rfl
theorem r_239_211 (ls st : List Value) (ws : ai_W) : ai_Run 239 211 ls st ws = ai_Run 239 212 ls (.int 1 :: st) ws := R_iconst hc_239 dX11_readsCommand_211 (by decide) rfl
theorem r_239_212 (ls st : List Value) (a b : Int32) (ws : ai_W) : ai_Run 239 212 ls (.int b :: .int a :: st) ws = ai_Run 239 213 ls (.int (a + b) :: st) ws := R_iadd hc_239 dX11_readsCommand_212 rfl
theorem r_239_213 (ls : List Value) (r : Nat) (b0 : Int32) (b1 : Int32) (ws : ai_W) : ai_Run 239 213 ls [.int b1, .int b0, .ref r] ws = (ai_Call 236 [.ref r, .int b0, .int b1] ws).bind fun q => ai_Run 239 216 ls (q.1.toList ++ []) q.2 := R_callV hc_239 dX11_readsCommand_213 hv_239 (w := 1413) rfl (Nat.le_of_ble_eq_true rfl) hk_236 (by rw [hn_236]; rfl) rfl (Nat.le_of_ble_eq_true rfl) rfl
theorem r_239_216 (ls st : List Value) (a : Int32) (ws : ai_W) : ai_Run 239 216 ls (.int a :: st) ws = if a = 0 then ai_Run 239 243 ls st ws else ai_Run 239 219 ls st ws := R_if_eq hc_239 dX11_readsCommand_216 rfl rfl
theorem r_239_219 (l1 l2 : Value) (a : Nat) (st : List Value) (ws : ai_W) : ai_Run 239 219 [.ref a, l1, l2] st ws = ai_Run 239 220 [.ref a, l1, l2] (.ref a :: st) ws := R_aload_n hc_239 dX11_readsCommand_219 rfl rfl
theorem r_239_220 (ls st : List Value) (ws : ai_W) : ai_Run 239 220 ls st ws = ai_Run 239 222 ls (.int 64 :: st) ws := R_bipush hc_239 dX11_readsCommand_220 (by decide) rfl
theorem r_239_222 (ls : List Value) (r : Nat) (b0 : Int32) (ws : ai_W) : ai_Run 239 222 ls [.int b0, .ref r] ws = (ai_Call 234 [.ref r, .int b0] ws).bind fun q => ai_Run 239 225 ls (q.1.toList ++ []) q.2 := R_callV hc_239 dX11_readsCommand_222 hv_239 (w := 1417) rfl (Nat.le_of_ble_eq_true rfl) hk_234 (by rw [hn_234]; rfl) rfl (Nat.le_of_ble_eq_true rfl) rfl
theorem r_239_225 (ls st : List Value) (a : Int32) (ws : ai_W) : ai_Run 239 225 ls (.int a :: st) ws = if a = 0 then ai_Run 239 243 ls st ws else ai_Run 239 228 ls st ws := R_if_eq hc_239 dX11_readsCommand_225 rfl rfl
theorem r_239_228 (l1 l2 : Value) (a : Nat) (st : List Value) (ws : ai_W) : ai_Run 239 228 [.ref a, l1, l2] st ws = ai_Run 239 229 [.ref a, l1, l2] (.ref a :: st) ws := R_aload_n hc_239 dX11_readsCommand_228 rfl rfl
theorem r_239_229 (ls st : List Value) (ws : ai_W) : ai_Run 239 229 ls st ws = ai_Run 239 230 ls (.int 1 :: st) ws := R_iconst hc_239 dX11_readsCommand_229 (by decide) rfl
theorem r_239_230 (l0 l2 : Value) (a : Int32) (st : List Value) (ws : ai_W) : ai_Run 239 230 [l0, .int a, l2] st ws = ai_Run 239 231 [l0, .int a, l2] (.int a :: st) ws := R_iload_n hc_239 dX11_readsCommand_230 rfl rfl
theorem r_239_231 (ls st : List Value) (ws : ai_W) : ai_Run 239 231 ls st ws = ai_Run 239 232 ls (.int 2 :: st) ws := R_iconst hc_239 dX11_readsCommand_231 (by decide) rfl
theorem r_239_232 (ls st : List Value) (a b : Int32) (ws : ai_W) : ai_Run 239 232 ls (.int b :: .int a :: st) ws = ai_Run 239 233 ls (.int (a + b) :: st) ws := R_iadd hc_239 dX11_readsCommand_232 rfl
theorem r_239_233 (ls : List Value) (r : Nat) (b0 : Int32) (b1 : Int32) (ws : ai_W) : ai_Run 239 233 ls [.int b1, .int b0, .ref r] ws = (ai_Call 236 [.ref r, .int b0, .int b1] ws).bind fun q => ai_Run 239 236 ls (q.1.toList ++ []) q.2 := R_callV hc_239 dX11_readsCommand_233 hv_239 (w := 1413) rfl (Nat.le_of_ble_eq_true rfl) hk_236 (by rw [hn_236]; rfl) rfl (Nat.le_of_ble_eq_true rfl) rfl
theorem r_239_236 (ls st : List Value) (a : Int32) (ws : ai_W) : ai_Run 239 236 ls (.int a :: st) ws = if a = 0 then ai_Run 239 243 ls st ws else ai_Run 239 239 ls st ws := R_if_eq hc_239 dX11_readsCommand_236 rfl rfl
theorem r_239_239 (ls st : List Value) (ws : ai_W) : ai_Run 239 239 ls st ws = ai_Run 239 240 ls (.int 1 :: st) ws := R_iconst hc_239 dX11_readsCommand_239 (by decide) rfl
theorem r_239_240 (ls st : List Value) (ws : ai_W) : ai_Run 239 240 ls st ws = ai_Run 239 244 ls st ws := R_goto hc_239 dX11_readsCommand_240 rfl
theorem r_239_243 (ls st : List Value) (ws : ai_W) : ai_Run 239 243 ls st ws = ai_Run 239 244 ls (.int 0 :: st) ws := R_iconst hc_239 dX11_readsCommand_243 (by decide) rfl
theorem r_239_244 (ls : List Value) (x : Int32) (ws : ai_W) : ai_Run 239 244 ls [.int x] ws = if ai_pb x = true then some (some (.int x), ws) else none := R_zret hc_239 dX11_readsCommand_244 ht_239
theorem r_239_245 (l1 l2 : Value) (a : Nat) (st : List Value) (ws : ai_W) : ai_Run 239 245 [.ref a, l1, l2] st ws = ai_Run 239 246 [.ref a, l1, l2] (.ref a :: st) ws := R_aload_n hc_239 dX11_readsCommand_245 rfl rfl
theorem r_239_246 (ls st : List Value) (ws : ai_W) : ai_Run 239 246 ls st ws = ai_Run 239 247 ls (.int 1 :: st) ws := R_iconst hc_239 dX11_readsCommand_246 (by decide) rfl
theorem r_239_247 (l0 l2 : Value) (a : Int32) (st : List Value) (ws : ai_W) : ai_Run 239 247 [l0, .int a, l2] st ws = ai_Run 239 248 [l0, .int a, l2] (.int a :: st) ws := R_iload_n hc_239 dX11_readsCommand_247 rfl rfl
theorem r_239_248 (ls st : List Value) (ws : ai_W) : ai_Run 239 248 ls st ws = ai_Run 239 249 ls (.int 1 :: st) ws := R_iconst hc_239 dX11_readsCommand_248 (by decide) rfl
theorem r_239_249 (ls st : List Value) (a b : Int32) (ws : ai_W) : ai_Run 239 249 ls (.int b :: .int a :: st) ws = ai_Run 239 250 ls (.int (a + b) :: st) ws := R_iadd hc_239 dX11_readsCommand_249 rfl
theorem r_239_250 (ls : List Value) (r : Nat) (b0 : Int32) (b1 : Int32) (ws : ai_W) : ai_Run 239 250 ls [.int b1, .int b0, .ref r] ws = (ai_Call 236 [.ref r, .int b0, .int b1] ws).bind fun q => ai_Run 239 253 ls (q.1.toList ++ []) q.2 := R_callV hc_239 dX11_readsCommand_250 hv_239 (w := 1413) rfl (Nat.le_of_ble_eq_true rfl) hk_236 (by rw [hn_236]; rfl) rfl (Nat.le_of_ble_eq_true rfl) rfl
theorem r_239_253 (ls st : List Value) (a : Int32) (ws : ai_W) : ai_Run 239 253 ls (.int a :: st) ws = if a = 0 then ai_Run 239 270 ls st ws else ai_Run 239 256 ls st ws := R_if_eq hc_239 dX11_readsCommand_253 rfl rfl
theorem r_239_256 (l1 l2 : Value) (a : Nat) (st : List Value) (ws : ai_W) : ai_Run 239 256 [.ref a, l1, l2] st ws = ai_Run 239 257 [.ref a, l1, l2] (.ref a :: st) ws := R_aload_n hc_239 dX11_readsCommand_256 rfl rfl
theorem r_239_257 (l0 l2 : Value) (a : Int32) (st : List Value) (ws : ai_W) : ai_Run 239 257 [l0, .int a, l2] st ws = ai_Run 239 258 [l0, .int a, l2] (.int a :: st) ws := R_iload_n hc_239 dX11_readsCommand_257 rfl rfl
theorem r_239_258 (ls st : List Value) (ws : ai_W) : ai_Run 239 258 ls st ws = ai_Run 239 259 ls (.int 2 :: st) ws := R_iconst hc_239 dX11_readsCommand_258 (by decide) rfl
theorem r_239_259 (ls st : List Value) (a b : Int32) (ws : ai_W) : ai_Run 239 259 ls (.int b :: .int a :: st) ws = ai_Run 239 260 ls (.int (a + b) :: st) ws := R_iadd hc_239 dX11_readsCommand_259 rfl
theorem r_239_260 (ls : List Value) (r : Nat) (b0 : Int32) (ws : ai_W) : ai_Run 239 260 ls [.int b0, .ref r] ws = (ai_Call 237 [.ref r, .int b0] ws).bind fun q => ai_Run 239 263 ls (q.1.toList ++ []) q.2 := R_callV hc_239 dX11_readsCommand_260 hv_239 (w := 1421) rfl (Nat.le_of_ble_eq_true rfl) hk_237 (by rw [hn_237]; rfl) rfl (Nat.le_of_ble_eq_true rfl) rfl
theorem r_239_263 (ls st : List Value) (a : Int32) (ws : ai_W) : ai_Run 239 263 ls (.int a :: st) ws = if a = 0 then ai_Run 239 270 ls st ws else ai_Run 239 266 ls st ws := R_if_eq hc_239 dX11_readsCommand_263 rfl rfl
theorem r_239_266 (ls st : List Value) (ws : ai_W) : ai_Run 239 266 ls st ws = ai_Run 239 267 ls (.int 1 :: st) ws := R_iconst hc_239 dX11_readsCommand_266 (by decide) rfl
theorem r_239_267 (ls st : List Value) (ws : ai_W) : ai_Run 239 267 ls st ws = ai_Run 239 271 ls st ws := R_goto hc_239 dX11_readsCommand_267 rfl
theorem r_239_270 (ls st : List Value) (ws : ai_W) : ai_Run 239 270 ls st ws = ai_Run 239 271 ls (.int 0 :: st) ws := R_iconst hc_239 dX11_readsCommand_270 (by decide) rfl
theorem r_239_271 (ls : List Value) (x : Int32) (ws : ai_W) : ai_Run 239 271 ls [.int x] ws = if ai_pb x = true then some (some (.int x), ws) else none := R_zret hc_239 dX11_readsCommand_271 ht_239
theorem r_239_272 (l1 l2 : Value) (a : Nat) (st : List Value) (ws : ai_W) : ai_Run 239 272 [.ref a, l1, l2] st ws = ai_Run 239 273 [.ref a, l1, l2] (.ref a :: st) ws := R_aload_n hc_239 dX11_readsCommand_272 rfl rfl
theorem r_239_273 (ls st : List Value) (ws : ai_W) : ai_Run 239 273 ls st ws = ai_Run 239 274 ls (.int 1 :: st) ws := R_iconst hc_239 dX11_readsCommand_273 (by decide) rfl
theorem r_239_274 (l0 l2 : Value) (a : Int32) (st : List Value) (ws : ai_W) : ai_Run 239 274 [l0, .int a, l2] st ws = ai_Run 239 275 [l0, .int a, l2] (.int a :: st) ws := R_iload_n hc_239 dX11_readsCommand_274 rfl rfl
theorem r_239_275 (ls st : List Value) (ws : ai_W) : ai_Run 239 275 ls st ws = ai_Run 239 276 ls (.int 1 :: st) ws := R_iconst hc_239 dX11_readsCommand_275 (by decide) rfl
theorem r_239_276 (ls st : List Value) (a b : Int32) (ws : ai_W) : ai_Run 239 276 ls (.int b :: .int a :: st) ws = ai_Run 239 277 ls (.int (a + b) :: st) ws := R_iadd hc_239 dX11_readsCommand_276 rfl
theorem r_239_277 (ls : List Value) (r : Nat) (b0 : Int32) (b1 : Int32) (ws : ai_W) : ai_Run 239 277 ls [.int b1, .int b0, .ref r] ws = (ai_Call 236 [.ref r, .int b0, .int b1] ws).bind fun q => ai_Run 239 280 ls (q.1.toList ++ []) q.2 := R_callV hc_239 dX11_readsCommand_277 hv_239 (w := 1413) rfl (Nat.le_of_ble_eq_true rfl) hk_236 (by rw [hn_236]; rfl) rfl (Nat.le_of_ble_eq_true rfl) rfl
theorem r_239_280 (ls st : List Value) (a : Int32) (ws : ai_W) : ai_Run 239 280 ls (.int a :: st) ws = if a = 0 then ai_Run 239 318 ls st ws else ai_Run 239 283 ls st ws := R_if_eq hc_239 dX11_readsCommand_280 rfl rfl
theorem r_239_283 (l1 l2 : Value) (a : Nat) (st : List Value) (ws : ai_W) : ai_Run 239 283 [.ref a, l1, l2] st ws = ai_Run 239 284 [.ref a, l1, l2] (.ref a :: st) ws := R_aload_n hc_239 dX11_readsCommand_283 rfl rfl
theorem r_239_284 (ls st : List Value) (ws : ai_W) : ai_Run 239 284 ls st ws = ai_Run 239 285 ls (.int 1 :: st) ws := R_iconst hc_239 dX11_readsCommand_284 (by decide) rfl
theorem r_239_285 (l0 l2 : Value) (a : Int32) (st : List Value) (ws : ai_W) : ai_Run 239 285 [l0, .int a, l2] st ws = ai_Run 239 286 [l0, .int a, l2] (.int a :: st) ws := R_iload_n hc_239 dX11_readsCommand_285 rfl rfl
theorem r_239_286 (ls st : List Value) (ws : ai_W) : ai_Run 239 286 ls st ws = ai_Run 239 287 ls (.int 2 :: st) ws := R_iconst hc_239 dX11_readsCommand_286 (by decide) rfl
theorem r_239_287 (ls st : List Value) (a b : Int32) (ws : ai_W) : ai_Run 239 287 ls (.int b :: .int a :: st) ws = ai_Run 239 288 ls (.int (a + b) :: st) ws := R_iadd hc_239 dX11_readsCommand_287 rfl
theorem r_239_288 (ls : List Value) (r : Nat) (b0 : Int32) (b1 : Int32) (ws : ai_W) : ai_Run 239 288 ls [.int b1, .int b0, .ref r] ws = (ai_Call 236 [.ref r, .int b0, .int b1] ws).bind fun q => ai_Run 239 291 ls (q.1.toList ++ []) q.2 := R_callV hc_239 dX11_readsCommand_288 hv_239 (w := 1413) rfl (Nat.le_of_ble_eq_true rfl) hk_236 (by rw [hn_236]; rfl) rfl (Nat.le_of_ble_eq_true rfl) rfl
theorem r_239_291 (ls st : List Value) (a : Int32) (ws : ai_W) : ai_Run 239 291 ls (.int a :: st) ws = if a = 0 then ai_Run 239 318 ls st ws else ai_Run 239 294 ls st ws := R_if_eq hc_239 dX11_readsCommand_291 rfl rfl
theorem r_239_294 (l1 l2 : Value) (a : Nat) (st : List Value) (ws : ai_W) : ai_Run 239 294 [.ref a, l1, l2] st ws = ai_Run 239 295 [.ref a, l1, l2] (.ref a :: st) ws := R_aload_n hc_239 dX11_readsCommand_294 rfl rfl
theorem r_239_295 (ls st : List Value) (ws : ai_W) : ai_Run 239 295 ls st ws = ai_Run 239 297 ls (.int 61 :: st) ws := R_bipush hc_239 dX11_readsCommand_295 (by decide) rfl
theorem r_239_297 (ls : List Value) (r : Nat) (b0 : Int32) (ws : ai_W) : ai_Run 239 297 ls [.int b0, .ref r] ws = (ai_Call 234 [.ref r, .int b0] ws).bind fun q => ai_Run 239 300 ls (q.1.toList ++ []) q.2 := R_callV hc_239 dX11_readsCommand_297 hv_239 (w := 1417) rfl (Nat.le_of_ble_eq_true rfl) hk_234 (by rw [hn_234]; rfl) rfl (Nat.le_of_ble_eq_true rfl) rfl
theorem r_239_300 (ls st : List Value) (a : Int32) (ws : ai_W) : ai_Run 239 300 ls (.int a :: st) ws = if a = 0 then ai_Run 239 318 ls st ws else ai_Run 239 303 ls st ws := R_if_eq hc_239 dX11_readsCommand_300 rfl rfl
theorem r_239_303 (l1 l2 : Value) (a : Nat) (st : List Value) (ws : ai_W) : ai_Run 239 303 [.ref a, l1, l2] st ws = ai_Run 239 304 [.ref a, l1, l2] (.ref a :: st) ws := R_aload_n hc_239 dX11_readsCommand_303 rfl rfl
theorem r_239_304 (ls st : List Value) (ws : ai_W) : ai_Run 239 304 ls st ws = ai_Run 239 305 ls (.int 1 :: st) ws := R_iconst hc_239 dX11_readsCommand_304 (by decide) rfl
theorem r_239_305 (l0 l2 : Value) (a : Int32) (st : List Value) (ws : ai_W) : ai_Run 239 305 [l0, .int a, l2] st ws = ai_Run 239 306 [l0, .int a, l2] (.int a :: st) ws := R_iload_n hc_239 dX11_readsCommand_305 rfl rfl
theorem r_239_306 (ls st : List Value) (ws : ai_W) : ai_Run 239 306 ls st ws = ai_Run 239 307 ls (.int 3 :: st) ws := R_iconst hc_239 dX11_readsCommand_306 (by decide) rfl
theorem r_239_307 (ls st : List Value) (a b : Int32) (ws : ai_W) : ai_Run 239 307 ls (.int b :: .int a :: st) ws = ai_Run 239 308 ls (.int (a + b) :: st) ws := R_iadd hc_239 dX11_readsCommand_307 rfl
theorem r_239_308 (ls : List Value) (r : Nat) (b0 : Int32) (b1 : Int32) (ws : ai_W) : ai_Run 239 308 ls [.int b1, .int b0, .ref r] ws = (ai_Call 236 [.ref r, .int b0, .int b1] ws).bind fun q => ai_Run 239 311 ls (q.1.toList ++ []) q.2 := R_callV hc_239 dX11_readsCommand_308 hv_239 (w := 1413) rfl (Nat.le_of_ble_eq_true rfl) hk_236 (by rw [hn_236]; rfl) rfl (Nat.le_of_ble_eq_true rfl) rfl
theorem r_239_311 (ls st : List Value) (a : Int32) (ws : ai_W) : ai_Run 239 311 ls (.int a :: st) ws = if a = 0 then ai_Run 239 318 ls st ws else ai_Run 239 314 ls st ws := R_if_eq hc_239 dX11_readsCommand_311 rfl rfl
theorem r_239_314 (ls st : List Value) (ws : ai_W) : ai_Run 239 314 ls st ws = ai_Run 239 315 ls (.int 1 :: st) ws := R_iconst hc_239 dX11_readsCommand_314 (by decide) rfl
theorem r_239_315 (ls st : List Value) (ws : ai_W) : ai_Run 239 315 ls st ws = ai_Run 239 319 ls st ws := R_goto hc_239 dX11_readsCommand_315 rfl
theorem r_239_318 (ls st : List Value) (ws : ai_W) : ai_Run 239 318 ls st ws = ai_Run 239 319 ls (.int 0 :: st) ws := R_iconst hc_239 dX11_readsCommand_318 (by decide) rfl
theorem r_239_319 (ls : List Value) (x : Int32) (ws : ai_W) : ai_Run 239 319 ls [.int x] ws = if ai_pb x = true then some (some (.int x), ws) else none := R_zret hc_239 dX11_readsCommand_319 ht_239
theorem r_239_320 (l1 l2 : Value) (a : Nat) (st : List Value) (ws : ai_W) : ai_Run 239 320 [.ref a, l1, l2] st ws = ai_Run 239 321 [.ref a, l1, l2] (.ref a :: st) ws := R_aload_n hc_239 dX11_readsCommand_320 rfl rfl
theorem r_239_321 (ls st : List Value) (ws : ai_W) : ai_Run 239 321 ls st ws = ai_Run 239 322 ls (.int 1 :: st) ws := R_iconst hc_239 dX11_readsCommand_321 (by decide) rfl
theorem r_239_322 (l0 l2 : Value) (a : Int32) (st : List Value) (ws : ai_W) : ai_Run 239 322 [l0, .int a, l2] st ws = ai_Run 239 323 [l0, .int a, l2] (.int a :: st) ws := R_iload_n hc_239 dX11_readsCommand_322 rfl rfl
theorem r_239_323 (ls st : List Value) (ws : ai_W) : ai_Run 239 323 ls st ws = ai_Run 239 324 ls (.int 1 :: st) ws := R_iconst hc_239 dX11_readsCommand_323 (by decide) rfl
theorem r_239_324 (ls st : List Value) (a b : Int32) (ws : ai_W) : ai_Run 239 324 ls (.int b :: .int a :: st) ws = ai_Run 239 325 ls (.int (a + b) :: st) ws := R_iadd hc_239 dX11_readsCommand_324 rfl
theorem r_239_325 (ls : List Value) (r : Nat) (b0 : Int32) (b1 : Int32) (ws : ai_W) : ai_Run 239 325 ls [.int b1, .int b0, .ref r] ws = (ai_Call 236 [.ref r, .int b0, .int b1] ws).bind fun q => ai_Run 239 328 ls (q.1.toList ++ []) q.2 := R_callV hc_239 dX11_readsCommand_325 hv_239 (w := 1413) rfl (Nat.le_of_ble_eq_true rfl) hk_236 (by rw [hn_236]; rfl) rfl (Nat.le_of_ble_eq_true rfl) rfl
theorem r_239_328 (ls st : List Value) (a : Int32) (ws : ai_W) : ai_Run 239 328 ls (.int a :: st) ws = if a = 0 then ai_Run 239 345 ls st ws else ai_Run 239 331 ls st ws := R_if_eq hc_239 dX11_readsCommand_328 rfl rfl
theorem r_239_331 (l1 l2 : Value) (a : Nat) (st : List Value) (ws : ai_W) : ai_Run 239 331 [.ref a, l1, l2] st ws = ai_Run 239 332 [.ref a, l1, l2] (.ref a :: st) ws := R_aload_n hc_239 dX11_readsCommand_331 rfl rfl
theorem r_239_332 (l0 l2 : Value) (a : Int32) (st : List Value) (ws : ai_W) : ai_Run 239 332 [l0, .int a, l2] st ws = ai_Run 239 333 [l0, .int a, l2] (.int a :: st) ws := R_iload_n hc_239 dX11_readsCommand_332 rfl rfl
theorem r_239_333 (ls st : List Value) (ws : ai_W) : ai_Run 239 333 ls st ws = ai_Run 239 334 ls (.int 2 :: st) ws := R_iconst hc_239 dX11_readsCommand_333 (by decide) rfl
theorem r_239_334 (ls st : List Value) (a b : Int32) (ws : ai_W) : ai_Run 239 334 ls (.int b :: .int a :: st) ws = ai_Run 239 335 ls (.int (a + b) :: st) ws := R_iadd hc_239 dX11_readsCommand_334 rfl
theorem r_239_335 (ls : List Value) (r : Nat) (b0 : Int32) (ws : ai_W) : ai_Run 239 335 ls [.int b0, .ref r] ws = (ai_Call 238 [.ref r, .int b0] ws).bind fun q => ai_Run 239 338 ls (q.1.toList ++ []) q.2 := R_callV hc_239 dX11_readsCommand_335 hv_239 (w := 1425) rfl (Nat.le_of_ble_eq_true rfl) hk_238 (by rw [hn_238]; rfl) rfl (Nat.le_of_ble_eq_true rfl) rfl
theorem r_239_338 (ls st : List Value) (a : Int32) (ws : ai_W) : ai_Run 239 338 ls (.int a :: st) ws = if a = 0 then ai_Run 239 345 ls st ws else ai_Run 239 341 ls st ws := R_if_eq hc_239 dX11_readsCommand_338 rfl rfl
theorem r_239_341 (ls st : List Value) (ws : ai_W) : ai_Run 239 341 ls st ws = ai_Run 239 342 ls (.int 1 :: st) ws := R_iconst hc_239 dX11_readsCommand_341 (by decide) rfl
theorem r_239_342 (ls st : List Value) (ws : ai_W) : ai_Run 239 342 ls st ws = ai_Run 239 346 ls st ws := R_goto hc_239 dX11_readsCommand_342 rfl
theorem r_239_345 (ls st : List Value) (ws : ai_W) : ai_Run 239 345 ls st ws = ai_Run 239 346 ls (.int 0 :: st) ws := R_iconst hc_239 dX11_readsCommand_345 (by decide) rfl
theorem r_239_346 (ls : List Value) (x : Int32) (ws : ai_W) : ai_Run 239 346 ls [.int x] ws = if ai_pb x = true then some (some (.int x), ws) else none := R_zret hc_239 dX11_readsCommand_346 ht_239
theorem r_239_347 (l1 l2 : Value) (a : Nat) (st : List Value) (ws : ai_W) : ai_Run 239 347 [.ref a, l1, l2] st ws = ai_Run 239 348 [.ref a, l1, l2] (.ref a :: st) ws := R_aload_n hc_239 dX11_readsCommand_347 rfl rfl
theorem r_239_348 (ls st : List Value) (ws : ai_W) : ai_Run 239 348 ls st ws = ai_Run 239 349 ls (.int 1 :: st) ws := R_iconst hc_239 dX11_readsCommand_348 (by decide) rfl
theorem r_239_349 (l0 l2 : Value) (a : Int32) (st : List Value) (ws : ai_W) : ai_Run 239 349 [l0, .int a, l2] st ws = ai_Run 239 350 [l0, .int a, l2] (.int a :: st) ws := R_iload_n hc_239 dX11_readsCommand_349 rfl rfl
theorem r_239_350 (ls st : List Value) (ws : ai_W) : ai_Run 239 350 ls st ws = ai_Run 239 351 ls (.int 1 :: st) ws := R_iconst hc_239 dX11_readsCommand_350 (by decide) rfl
theorem r_239_351 (ls st : List Value) (a b : Int32) (ws : ai_W) : ai_Run 239 351 ls (.int b :: .int a :: st) ws = ai_Run 239 352 ls (.int (a + b) :: st) ws := R_iadd hc_239 dX11_readsCommand_351 rfl
theorem r_239_352 (ls : List Value) (r : Nat) (b0 : Int32) (b1 : Int32) (ws : ai_W) : ai_Run 239 352 ls [.int b1, .int b0, .ref r] ws = (ai_Call 236 [.ref r, .int b0, .int b1] ws).bind fun q => ai_Run 239 355 ls (q.1.toList ++ []) q.2 := R_callV hc_239 dX11_readsCommand_352 hv_239 (w := 1413) rfl (Nat.le_of_ble_eq_true rfl) hk_236 (by rw [hn_236]; rfl) rfl (Nat.le_of_ble_eq_true rfl) rfl
theorem r_239_355 (ls st : List Value) (a : Int32) (ws : ai_W) : ai_Run 239 355 ls (.int a :: st) ws = if a = 0 then ai_Run 239 384 ls st ws else ai_Run 239 358 ls st ws := R_if_eq hc_239 dX11_readsCommand_355 rfl rfl
theorem r_239_358 (l1 l2 : Value) (a : Nat) (st : List Value) (ws : ai_W) : ai_Run 239 358 [.ref a, l1, l2] st ws = ai_Run 239 359 [.ref a, l1, l2] (.ref a :: st) ws := R_aload_n hc_239 dX11_readsCommand_358 rfl rfl
theorem r_239_359 (ls st : List Value) (ws : ai_W) : ai_Run 239 359 ls st ws = ai_Run 239 360 ls (.int 1 :: st) ws := R_iconst hc_239 dX11_readsCommand_359 (by decide) rfl
theorem r_239_360 (l0 l2 : Value) (a : Int32) (st : List Value) (ws : ai_W) : ai_Run 239 360 [l0, .int a, l2] st ws = ai_Run 239 361 [l0, .int a, l2] (.int a :: st) ws := R_iload_n hc_239 dX11_readsCommand_360 rfl rfl
theorem r_239_361 (ls st : List Value) (ws : ai_W) : ai_Run 239 361 ls st ws = ai_Run 239 362 ls (.int 2 :: st) ws := R_iconst hc_239 dX11_readsCommand_361 (by decide) rfl
theorem r_239_362 (ls st : List Value) (a b : Int32) (ws : ai_W) : ai_Run 239 362 ls (.int b :: .int a :: st) ws = ai_Run 239 363 ls (.int (a + b) :: st) ws := R_iadd hc_239 dX11_readsCommand_362 rfl
theorem r_239_363 (ls : List Value) (r : Nat) (b0 : Int32) (b1 : Int32) (ws : ai_W) : ai_Run 239 363 ls [.int b1, .int b0, .ref r] ws = (ai_Call 236 [.ref r, .int b0, .int b1] ws).bind fun q => ai_Run 239 366 ls (q.1.toList ++ []) q.2 := R_callV hc_239 dX11_readsCommand_363 hv_239 (w := 1413) rfl (Nat.le_of_ble_eq_true rfl) hk_236 (by rw [hn_236]; rfl) rfl (Nat.le_of_ble_eq_true rfl) rfl
theorem r_239_366 (ls st : List Value) (a : Int32) (ws : ai_W) : ai_Run 239 366 ls (.int a :: st) ws = if a = 0 then ai_Run 239 384 ls st ws else ai_Run 239 369 ls st ws := R_if_eq hc_239 dX11_readsCommand_366 rfl rfl
theorem r_239_369 (l1 l2 : Value) (a : Nat) (st : List Value) (ws : ai_W) : ai_Run 239 369 [.ref a, l1, l2] st ws = ai_Run 239 370 [.ref a, l1, l2] (.ref a :: st) ws := R_aload_n hc_239 dX11_readsCommand_369 rfl rfl
theorem r_239_370 (ls st : List Value) (ws : ai_W) : ai_Run 239 370 ls st ws = ai_Run 239 371 ls (.int 1 :: st) ws := R_iconst hc_239 dX11_readsCommand_370 (by decide) rfl
theorem r_239_371 (l0 l2 : Value) (a : Int32) (st : List Value) (ws : ai_W) : ai_Run 239 371 [l0, .int a, l2] st ws = ai_Run 239 372 [l0, .int a, l2] (.int a :: st) ws := R_iload_n hc_239 dX11_readsCommand_371 rfl rfl
theorem r_239_372 (ls st : List Value) (ws : ai_W) : ai_Run 239 372 ls st ws = ai_Run 239 373 ls (.int 3 :: st) ws := R_iconst hc_239 dX11_readsCommand_372 (by decide) rfl
theorem r_239_373 (ls st : List Value) (a b : Int32) (ws : ai_W) : ai_Run 239 373 ls (.int b :: .int a :: st) ws = ai_Run 239 374 ls (.int (a + b) :: st) ws := R_iadd hc_239 dX11_readsCommand_373 rfl
theorem r_239_374 (ls : List Value) (r : Nat) (b0 : Int32) (b1 : Int32) (ws : ai_W) : ai_Run 239 374 ls [.int b1, .int b0, .ref r] ws = (ai_Call 236 [.ref r, .int b0, .int b1] ws).bind fun q => ai_Run 239 377 ls (q.1.toList ++ []) q.2 := R_callV hc_239 dX11_readsCommand_374 hv_239 (w := 1413) rfl (Nat.le_of_ble_eq_true rfl) hk_236 (by rw [hn_236]; rfl) rfl (Nat.le_of_ble_eq_true rfl) rfl
theorem r_239_377 (ls st : List Value) (a : Int32) (ws : ai_W) : ai_Run 239 377 ls (.int a :: st) ws = if a = 0 then ai_Run 239 384 ls st ws else ai_Run 239 380 ls st ws := R_if_eq hc_239 dX11_readsCommand_377 rfl rfl
theorem r_239_380 (ls st : List Value) (ws : ai_W) : ai_Run 239 380 ls st ws = ai_Run 239 381 ls (.int 1 :: st) ws := R_iconst hc_239 dX11_readsCommand_380 (by decide) rfl
theorem r_239_381 (ls st : List Value) (ws : ai_W) : ai_Run 239 381 ls st ws = ai_Run 239 385 ls st ws := R_goto hc_239 dX11_readsCommand_381 rfl
theorem r_239_384 (ls st : List Value) (ws : ai_W) : ai_Run 239 384 ls st ws = ai_Run 239 385 ls (.int 0 :: st) ws := R_iconst hc_239 dX11_readsCommand_384 (by decide) rfl
theorem r_239_385 (ls : List Value) (x : Int32) (ws : ai_W) : ai_Run 239 385 ls [.int x] ws = if ai_pb x = true then some (some (.int x), ws) else none := R_zret hc_239 dX11_readsCommand_385 ht_239
theorem dX11_isText_0 : decode cX11_isText 0 = .ok (.aload_n 0, 1) := by decide +kernel
theorem dX11_isText_1 : decode cX11_isText 1 = .ok (.iconst 0, 1) := by decide +kernel
theorem dX11_isText_2 : decode cX11_isText 2 = .ok (.putfield 228, 3) := by decide +kernel
theorem dX11_isText_5 : decode cX11_isText 5 = .ok (.aload_n 0, 1) := by decide +kernel
theorem dX11_isText_6 : decode cX11_isText 6 = .ok (.iconst 0, 1) := by decide +kernel
theorem dX11_isText_7 : decode cX11_isText 7 = .ok (.putfield 240, 3) := by decide +kernel
theorem dX11_isText_10 : decode cX11_isText 10 = .ok (.aload_n 0, 1) := by decide +kernel
theorem dX11_isText_11 : decode cX11_isText 11 = .ok (.invokevirtual 252, 3) := by decide +kernel
theorem dX11_isText_14 : decode cX11_isText 14 = .ok (.istore_n 1, 1) := by decide +kernel
theorem dX11_isText_15 : decode cX11_isText 15 = .ok (.iload_n 1, 1) := by decide +kernel
theorem dX11_isText_16 : decode cX11_isText 16 = .ok (.ifCond .eq 20, 3) := by decide +kernel
theorem dX11_isText_19 : decode cX11_isText 19 = .ok (.aload_n 0, 1) := by decide +kernel
theorem dX11_isText_20 : decode cX11_isText 20 = .ok (.bipush 59, 2) := by decide +kernel
theorem dX11_isText_22 : decode cX11_isText 22 = .ok (.invokevirtual 234, 3) := by decide +kernel
theorem dX11_isText_25 : decode cX11_isText 25 = .ok (.ifCond .eq 11, 3) := by decide +kernel
theorem dX11_isText_28 : decode cX11_isText 28 = .ok (.aload_n 0, 1) := by decide +kernel
theorem dX11_isText_29 : decode cX11_isText 29 = .ok (.invokevirtual 252, 3) := by decide +kernel
theorem dX11_isText_32 : decode cX11_isText 32 = .ok (.istore_n 1, 1) := by decide +kernel
theorem dX11_isText_33 : decode cX11_isText 33 = .ok (.goto (-18), 3) := by decide +kernel
theorem dX11_isText_36 : decode cX11_isText 36 = .ok (.iload_n 1, 1) := by decide +kernel
theorem dX11_isText_37 : decode cX11_isText 37 = .ok (.ifCond .eq 18, 3) := by decide +kernel
theorem dX11_isText_40 : decode cX11_isText 40 = .ok (.aload_n 0, 1) := by decide +kernel
theorem dX11_isText_41 : decode cX11_isText 41 = .ok (.getfield 228, 3) := by decide +kernel
theorem dX11_isText_44 : decode cX11_isText 44 = .ok (.aload_n 0, 1) := by decide +kernel
theorem dX11_isText_45 : decode cX11_isText 45 = .ok (.getfield 225, 3) := by decide +kernel
theorem dX11_isText_48 : decode cX11_isText 48 = .ok (.if_icmp .ne 7, 3) := by decide +kernel
theorem dX11_isText_51 : decode cX11_isText 51 = .ok (.iconst 1, 1) := by decide +kernel
theorem dX11_isText_52 : decode cX11_isText 52 = .ok (.goto 4, 3) := by decide +kernel
theorem dX11_isText_55 : decode cX11_isText 55 = .ok (.iconst 0, 1) := by decide +kernel
theorem dX11_isText_56 : decode cX11_isText 56 = .ok (.ireturn, 1) := by decide +kernel
theorem e_240 (r : Nat)  (ws : ai_W) : ai_Call 240 [.ref r] ws = if ai_isob ws r 11 = true then ai_Run 240 0 [.ref r, .null] [] ws else none := R_entV hk_240 ⟨⟨rfl, rfl⟩, Nat.le_of_ble_eq_true rfl⟩ rfl
theorem r_240_0 (l1 : Value) (a : Nat) (st : List Value) (ws : ai_W) : ai_Run 240 0 [.ref a, l1] st ws = ai_Run 240 1 [.ref a, l1] (.ref a :: st) ws := R_aload_n hc_240 dX11_isText_0 rfl rfl
theorem r_240_1 (ls st : List Value) (ws : ai_W) : ai_Run 240 1 ls st ws = ai_Run 240 2 ls (.int 0 :: st) ws := R_iconst hc_240 dX11_isText_1 (by decide) rfl
theorem r_240_2 (ls st : List Value) (a : Nat) (x : Value) (ws : ai_W) : ai_Run 240 2 ls (x :: .ref a :: st) ws = (ai_fput ws a 11 14 x).bind fun ws => ai_Run 240 5 ls st ws := R_putf hc_240 dX11_isText_2 hv_240 (w := 1038) rfl rfl rfl
theorem r_240_5 (l1 : Value) (a : Nat) (st : List Value) (ws : ai_W) : ai_Run 240 5 [.ref a, l1] st ws = ai_Run 240 6 [.ref a, l1] (.ref a :: st) ws := R_aload_n hc_240 dX11_isText_5 rfl rfl
theorem r_240_6 (ls st : List Value) (ws : ai_W) : ai_Run 240 6 ls st ws = ai_Run 240 7 ls (.int 0 :: st) ws := R_iconst hc_240 dX11_isText_6 (by decide) rfl
theorem r_240_7 (ls st : List Value) (a : Nat) (x : Value) (ws : ai_W) : ai_Run 240 7 ls (x :: .ref a :: st) ws = (ai_fput ws a 11 15 x).bind fun ws => ai_Run 240 10 ls st ws := R_putf hc_240 dX11_isText_7 hv_240 (w := 1039) rfl rfl rfl
theorem r_240_10 (l1 : Value) (a : Nat) (st : List Value) (ws : ai_W) : ai_Run 240 10 [.ref a, l1] st ws = ai_Run 240 11 [.ref a, l1] (.ref a :: st) ws := R_aload_n hc_240 dX11_isText_10 rfl rfl
theorem r_240_11 (ls : List Value) (r : Nat) (ws : ai_W) : ai_Run 240 11 ls [.ref r] ws = (ai_Call 239 [.ref r] ws).bind fun q => ai_Run 240 14 ls (q.1.toList ++ []) q.2 := R_callV hc_240 dX11_isText_11 hv_240 (w := 1402) rfl (Nat.le_of_ble_eq_true rfl) hk_239 (by rw [hn_239]; rfl) rfl (Nat.le_of_ble_eq_true rfl) rfl
theorem r_240_14 (l0 l1 : Value) (a : Int32) (st : List Value) (ws : ai_W) : ai_Run 240 14 [l0, l1] (.int a :: st) ws = ai_Run 240 15 [l0, .int a] st ws := R_istore_n hc_240 dX11_isText_14 (Nat.le_of_ble_eq_true rfl) rfl rfl
theorem r_240_15 (l0 : Value) (a : Int32) (st : List Value) (ws : ai_W) : ai_Run 240 15 [l0, .int a] st ws = ai_Run 240 16 [l0, .int a] (.int a :: st) ws := R_iload_n hc_240 dX11_isText_15 rfl rfl
theorem r_240_16 (ls st : List Value) (a : Int32) (ws : ai_W) : ai_Run 240 16 ls (.int a :: st) ws = if a = 0 then ai_Run 240 36 ls st ws else ai_Run 240 19 ls st ws := R_if_eq hc_240 dX11_isText_16 rfl rfl
theorem r_240_19 (l1 : Value) (a : Nat) (st : List Value) (ws : ai_W) : ai_Run 240 19 [.ref a, l1] st ws = ai_Run 240 20 [.ref a, l1] (.ref a :: st) ws := R_aload_n hc_240 dX11_isText_19 rfl rfl
theorem r_240_20 (ls st : List Value) (ws : ai_W) : ai_Run 240 20 ls st ws = ai_Run 240 22 ls (.int 59 :: st) ws := R_bipush hc_240 dX11_isText_20 (by decide) rfl
theorem r_240_22 (ls : List Value) (r : Nat) (b0 : Int32) (ws : ai_W) : ai_Run 240 22 ls [.int b0, .ref r] ws = (ai_Call 234 [.ref r, .int b0] ws).bind fun q => ai_Run 240 25 ls (q.1.toList ++ []) q.2 := R_callV hc_240 dX11_isText_22 hv_240 (w := 1417) rfl (Nat.le_of_ble_eq_true rfl) hk_234 (by rw [hn_234]; rfl) rfl (Nat.le_of_ble_eq_true rfl) rfl
theorem r_240_25 (ls st : List Value) (a : Int32) (ws : ai_W) : ai_Run 240 25 ls (.int a :: st) ws = if a = 0 then ai_Run 240 36 ls st ws else ai_Run 240 28 ls st ws := R_if_eq hc_240 dX11_isText_25 rfl rfl
theorem r_240_28 (l1 : Value) (a : Nat) (st : List Value) (ws : ai_W) : ai_Run 240 28 [.ref a, l1] st ws = ai_Run 240 29 [.ref a, l1] (.ref a :: st) ws := R_aload_n hc_240 dX11_isText_28 rfl rfl
theorem r_240_29 (ls : List Value) (r : Nat) (ws : ai_W) : ai_Run 240 29 ls [.ref r] ws = (ai_Call 239 [.ref r] ws).bind fun q => ai_Run 240 32 ls (q.1.toList ++ []) q.2 := R_callV hc_240 dX11_isText_29 hv_240 (w := 1402) rfl (Nat.le_of_ble_eq_true rfl) hk_239 (by rw [hn_239]; rfl) rfl (Nat.le_of_ble_eq_true rfl) rfl
theorem r_240_32 (l0 l1 : Value) (a : Int32) (st : List Value) (ws : ai_W) : ai_Run 240 32 [l0, l1] (.int a :: st) ws = ai_Run 240 33 [l0, .int a] st ws := R_istore_n hc_240 dX11_isText_32 (Nat.le_of_ble_eq_true rfl) rfl rfl
theorem r_240_33 (ls st : List Value) (ws : ai_W) : ai_Run 240 33 ls st ws = ai_Run 240 15 ls st ws := R_goto hc_240 dX11_isText_33 rfl
theorem r_240_36 (l0 : Value) (a : Int32) (st : List Value) (ws : ai_W) : ai_Run 240 36 [l0, .int a] st ws = ai_Run 240 37 [l0, .int a] (.int a :: st) ws := R_iload_n hc_240 dX11_isText_36 rfl rfl
theorem r_240_37 (ls st : List Value) (a : Int32) (ws : ai_W) : ai_Run 240 37 ls (.int a :: st) ws = if a = 0 then ai_Run 240 55 ls st ws else ai_Run 240 40 ls st ws := R_if_eq hc_240 dX11_isText_37 rfl rfl
theorem r_240_40 (l1 : Value) (a : Nat) (st : List Value) (ws : ai_W) : ai_Run 240 40 [.ref a, l1] st ws = ai_Run 240 41 [.ref a, l1] (.ref a :: st) ws := R_aload_n hc_240 dX11_isText_40 rfl rfl
theorem r_240_41 (ls st : List Value) (a : Nat) (ws : ai_W) : ai_Run 240 41 ls (.ref a :: st) ws = (ai_fget ws a 11 14).bind fun q => ai_Run 240 44 ls (q :: st) ws := R_getf hc_240 dX11_isText_41 hv_240 (w := 1038) rfl rfl
theorem r_240_44 (l1 : Value) (a : Nat) (st : List Value) (ws : ai_W) : ai_Run 240 44 [.ref a, l1] st ws = ai_Run 240 45 [.ref a, l1] (.ref a :: st) ws := R_aload_n hc_240 dX11_isText_44 rfl rfl
theorem r_240_45 (ls st : List Value) (a : Nat) (ws : ai_W) : ai_Run 240 45 ls (.ref a :: st) ws = (ai_fget ws a 11 13).bind fun q => ai_Run 240 48 ls (q :: st) ws := R_getf hc_240 dX11_isText_45 hv_240 (w := 1037) rfl rfl
theorem r_240_48 (ls st : List Value) (a b : Int32) (ws : ai_W) : ai_Run 240 48 ls (.int b :: .int a :: st) ws = if a = b then ai_Run 240 51 ls st ws else ai_Run 240 55 ls st ws := R_cmp_ne hc_240 dX11_isText_48 rfl rfl
theorem r_240_51 (ls st : List Value) (ws : ai_W) : ai_Run 240 51 ls st ws = ai_Run 240 52 ls (.int 1 :: st) ws := R_iconst hc_240 dX11_isText_51 (by decide) rfl
theorem r_240_52 (ls st : List Value) (ws : ai_W) : ai_Run 240 52 ls st ws = ai_Run 240 56 ls st ws := R_goto hc_240 dX11_isText_52 rfl
theorem r_240_55 (ls st : List Value) (ws : ai_W) : ai_Run 240 55 ls st ws = ai_Run 240 56 ls (.int 0 :: st) ws := R_iconst hc_240 dX11_isText_55 (by decide) rfl
theorem r_240_56 (ls : List Value) (x : Int32) (ws : ai_W) : ai_Run 240 56 ls [.int x] ws = if ai_pb x = true then some (some (.int x), ws) else none := R_zret hc_240 dX11_isText_56 ht_240
theorem dX11_isWell_0 : decode cX11_isWell 0 = .ok (.iconst 1, 1) := by decide +kernel
theorem dX11_isWell_1 : decode cX11_isWell 1 = .ok (.istore_n 1, 1) := by decide +kernel
theorem dX11_isWell_2 : decode cX11_isWell 2 = .ok (.iconst 0, 1) := by decide +kernel
theorem dX11_isWell_3 : decode cX11_isWell 3 = .ok (.istore_n 2, 1) := by decide +kernel
theorem dX11_isWell_4 : decode cX11_isWell 4 = .ok (.iload_n 2, 1) := by decide +kernel
theorem dX11_isWell_5 : decode cX11_isWell 5 = .ok (.aload_n 0, 1) := by decide +kernel
theorem dX11_isWell_6 : decode cX11_isWell 6 = .ok (.getfield 9, 3) := by decide +kernel
theorem dX11_isWell_9 : decode cX11_isWell 9 = .ok (.iconst 0, 1) := by decide +kernel
theorem dX11_isWell_10 : decode cX11_isWell 10 = .ok (.iaload, 1) := by decide +kernel
theorem dX11_isWell_11 : decode cX11_isWell 11 = .ok (.if_icmp .ge 56, 3) := by decide +kernel
theorem dX11_isWell_14 : decode cX11_isWell 14 = .ok (.iconst 1, 1) := by decide +kernel
theorem dX11_isWell_15 : decode cX11_isWell 15 = .ok (.istore_n 3, 1) := by decide +kernel
theorem dX11_isWell_16 : decode cX11_isWell 16 = .ok (.iload_n 3, 1) := by decide +kernel
theorem dX11_isWell_17 : decode cX11_isWell 17 = .ok (.aload_n 0, 1) := by decide +kernel
theorem dX11_isWell_18 : decode cX11_isWell 18 = .ok (.iload_n 2, 1) := by decide +kernel
theorem dX11_isWell_19 : decode cX11_isWell 19 = .ok (.iconst 0, 1) := by decide +kernel
theorem dX11_isWell_20 : decode cX11_isWell 20 = .ok (.invokevirtual 59, 3) := by decide +kernel
theorem dX11_isWell_23 : decode cX11_isWell 23 = .ok (.if_icmp .ge 38, 3) := by decide +kernel
theorem dX11_isWell_26 : decode cX11_isWell 26 = .ok (.iload_n 1, 1) := by decide +kernel
theorem dX11_isWell_27 : decode cX11_isWell 27 = .ok (.aload_n 0, 1) := by decide +kernel
theorem dX11_isWell_28 : decode cX11_isWell 28 = .ok (.iload_n 2, 1) := by decide +kernel
theorem dX11_isWell_29 : decode cX11_isWell 29 = .ok (.iconst 1, 1) := by decide +kernel
theorem dX11_isWell_30 : decode cX11_isWell 30 = .ok (.iload_n 3, 1) := by decide +kernel
theorem dX11_isWell_31 : decode cX11_isWell 31 = .ok (.iadd, 1) := by decide +kernel
theorem dX11_isWell_32 : decode cX11_isWell 32 = .ok (.invokevirtual 59, 3) := by decide +kernel
theorem dX11_isWell_35 : decode cX11_isWell 35 = .ok (.aload_n 0, 1) := by decide +kernel
theorem dX11_isWell_36 : decode cX11_isWell 36 = .ok (.iload_n 2, 1) := by decide +kernel
theorem dX11_isWell_37 : decode cX11_isWell 37 = .ok (.iconst 1, 1) := by decide +kernel
theorem dX11_isWell_38 : decode cX11_isWell 38 = .ok (.iload_n 3, 1) := by decide +kernel
theorem dX11_isWell_39 : decode cX11_isWell 39 = .ok (.iadd, 1) := by decide +kernel
theorem dX11_isWell_40 : decode cX11_isWell 40 = .ok (.iconst 1, 1) := by decide +kernel
theorem dX11_isWell_41 : decode cX11_isWell 41 = .ok (.isub, 1) := by decide +kernel
theorem dX11_isWell_42 : decode cX11_isWell 42 = .ok (.invokevirtual 59, 3) := by decide +kernel
theorem dX11_isWell_45 : decode cX11_isWell 45 = .ok (.if_icmp .le 7, 3) := by decide +kernel
theorem dX11_isWell_48 : decode cX11_isWell 48 = .ok (.iconst 1, 1) := by decide +kernel
theorem dX11_isWell_49 : decode cX11_isWell 49 = .ok (.goto 4, 3) := by decide +kernel
theorem dX11_isWell_52 : decode cX11_isWell 52 = .ok (.iconst 0, 1) := by decide +kernel
theorem dX11_isWell_53 : decode cX11_isWell 53 = .ok (.iand, 1) := by decide +kernel
theorem dX11_isWell_54 : decode cX11_isWell 54 = .ok (.istore_n 1, 1) := by decide +kernel
theorem dX11_isWell_55 : decode cX11_isWell 55 = .ok (.iinc 3 1, 3) := by decide +kernel
theorem dX11_isWell_58 : decode cX11_isWell 58 = .ok (.goto (-42), 3) := by decide +kernel
theorem dX11_isWell_61 : decode cX11_isWell 61 = .ok (.iinc 2 1, 3) := by decide +kernel
theorem dX11_isWell_64 : decode cX11_isWell 64 = .ok (.goto (-60), 3) := by decide +kernel
theorem dX11_isWell_67 : decode cX11_isWell 67 = .ok (.iload_n 1, 1) := by decide +kernel
theorem dX11_isWell_68 : decode cX11_isWell 68 = .ok (.ifCond .eq 7, 3) := by decide +kernel
theorem dX11_isWell_71 : decode cX11_isWell 71 = .ok (.iconst 1, 1) := by decide +kernel
theorem dX11_isWell_72 : decode cX11_isWell 72 = .ok (.goto 4, 3) := by decide +kernel
theorem dX11_isWell_75 : decode cX11_isWell 75 = .ok (.iconst 0, 1) := by decide +kernel
theorem dX11_isWell_76 : decode cX11_isWell 76 = .ok (.ireturn, 1) := by decide +kernel
theorem e_241 (r : Nat)  (ws : ai_W) : ai_Call 241 [.ref r] ws = if ai_isob ws r 11 = true then ai_Run 241 0 [.ref r, .null, .null, .null] [] ws else none := R_entV hk_241 ⟨⟨rfl, rfl⟩, Nat.le_of_ble_eq_true rfl⟩ rfl
theorem r_241_0 (ls st : List Value) (ws : ai_W) : ai_Run 241 0 ls st ws = ai_Run 241 1 ls (.int 1 :: st) ws := R_iconst hc_241 dX11_isWell_0 (by decide) rfl
theorem r_241_1 (l0 l1 l2 l3 : Value) (a : Int32) (st : List Value) (ws : ai_W) : ai_Run 241 1 [l0, l1, l2, l3] (.int a :: st) ws = ai_Run 241 2 [l0, .int a, l2, l3] st ws := R_istore_n hc_241 dX11_isWell_1 (Nat.le_of_ble_eq_true rfl) rfl rfl
theorem r_241_2 (ls st : List Value) (ws : ai_W) : ai_Run 241 2 ls st ws = ai_Run 241 3 ls (.int 0 :: st) ws := R_iconst hc_241 dX11_isWell_2 (by decide) rfl
theorem r_241_3 (l0 l1 l2 l3 : Value) (a : Int32) (st : List Value) (ws : ai_W) : ai_Run 241 3 [l0, l1, l2, l3] (.int a :: st) ws = ai_Run 241 4 [l0, l1, .int a, l3] st ws := R_istore_n hc_241 dX11_isWell_3 (Nat.le_of_ble_eq_true rfl) rfl rfl
theorem r_241_4 (l0 l1 l3 : Value) (a : Int32) (st : List Value) (ws : ai_W) : ai_Run 241 4 [l0, l1, .int a, l3] st ws = ai_Run 241 5 [l0, l1, .int a, l3] (.int a :: st) ws := R_iload_n hc_241 dX11_isWell_4 rfl rfl
theorem r_241_5 (l1 l2 l3 : Value) (a : Nat) (st : List Value) (ws : ai_W) : ai_Run 241 5 [.ref a, l1, l2, l3] st ws = ai_Run 241 6 [.ref a, l1, l2, l3] (.ref a :: st) ws := R_aload_n hc_241 dX11_isWell_5 rfl rfl
theorem r_241_6 (ls st : List Value) (a : Nat) (ws : ai_W) : ai_Run 241 6 ls (.ref a :: st) ws = (ai_fget ws a 11 0).bind fun q => ai_Run 241 9 ls (q :: st) ws := R_getf hc_241 dX11_isWell_6 hv_241 (w := 1024) rfl rfl
theorem r_241_9 (ls st : List Value) (ws : ai_W) : ai_Run 241 9 ls st ws = ai_Run 241 10 ls (.int 0 :: st) ws := R_iconst hc_241 dX11_isWell_9 (by decide) rfl
theorem r_241_10 (ls st : List Value) (a : Nat) (i : Int32) (ws : ai_W) : ai_Run 241 10 ls (.int i :: .ref a :: st) ws = (ai_aget ws a i).bind fun q => ai_Run 241 11 ls (.int q :: st) ws := R_iaload hc_241 dX11_isWell_10 rfl
theorem r_241_11 (ls st : List Value) (a b : Int32) (ws : ai_W) : ai_Run 241 11 ls (.int b :: .int a :: st) ws = if a < b then ai_Run 241 14 ls st ws else ai_Run 241 67 ls st ws := R_cmp_ge hc_241 dX11_isWell_11 rfl rfl
theorem r_241_14 (ls st : List Value) (ws : ai_W) : ai_Run 241 14 ls st ws = ai_Run 241 15 ls (.int 1 :: st) ws := R_iconst hc_241 dX11_isWell_14 (by decide) rfl
theorem r_241_15 (l0 l1 l2 l3 : Value) (a : Int32) (st : List Value) (ws : ai_W) : ai_Run 241 15 [l0, l1, l2, l3] (.int a :: st) ws = ai_Run 241 16 [l0, l1, l2, .int a] st ws := R_istore_n hc_241 dX11_isWell_15 (Nat.le_of_ble_eq_true rfl) rfl rfl
theorem r_241_16 (l0 l1 l2 : Value) (a : Int32) (st : List Value) (ws : ai_W) : ai_Run 241 16 [l0, l1, l2, .int a] st ws = ai_Run 241 17 [l0, l1, l2, .int a] (.int a :: st) ws := R_iload_n hc_241 dX11_isWell_16 rfl rfl
theorem r_241_17 (l1 l2 l3 : Value) (a : Nat) (st : List Value) (ws : ai_W) : ai_Run 241 17 [.ref a, l1, l2, l3] st ws = ai_Run 241 18 [.ref a, l1, l2, l3] (.ref a :: st) ws := R_aload_n hc_241 dX11_isWell_17 rfl rfl
theorem r_241_18 (l0 l1 l3 : Value) (a : Int32) (st : List Value) (ws : ai_W) : ai_Run 241 18 [l0, l1, .int a, l3] st ws = ai_Run 241 19 [l0, l1, .int a, l3] (.int a :: st) ws := R_iload_n hc_241 dX11_isWell_18 rfl rfl
theorem r_241_19 (ls st : List Value) (ws : ai_W) : ai_Run 241 19 ls st ws = ai_Run 241 20 ls (.int 0 :: st) ws := R_iconst hc_241 dX11_isWell_19 (by decide) rfl
theorem r_241_20 (ls : List Value) (r : Nat) (b0 : Int32) (b1 : Int32) (s0 : Value) (ws : ai_W) : ai_Run 241 20 ls [.int b1, .int b0, .ref r, s0] ws = (ai_Call 165 [.ref r, .int b0, .int b1] ws).bind fun q => ai_Run 241 23 ls (q.1.toList ++ [s0]) q.2 := R_callV hc_241 dX11_isWell_20 hv_241 (w := 1137) rfl (Nat.le_of_ble_eq_true rfl) hk_165 (by rw [hn_165]; rfl) rfl (Nat.le_of_ble_eq_true rfl) rfl
theorem r_241_23 (ls st : List Value) (a b : Int32) (ws : ai_W) : ai_Run 241 23 ls (.int b :: .int a :: st) ws = if a < b then ai_Run 241 26 ls st ws else ai_Run 241 61 ls st ws := R_cmp_ge hc_241 dX11_isWell_23 rfl rfl
theorem r_241_26 (l0 l2 l3 : Value) (a : Int32) (st : List Value) (ws : ai_W) : ai_Run 241 26 [l0, .int a, l2, l3] st ws = ai_Run 241 27 [l0, .int a, l2, l3] (.int a :: st) ws := R_iload_n hc_241 dX11_isWell_26 rfl rfl
theorem r_241_27 (l1 l2 l3 : Value) (a : Nat) (st : List Value) (ws : ai_W) : ai_Run 241 27 [.ref a, l1, l2, l3] st ws = ai_Run 241 28 [.ref a, l1, l2, l3] (.ref a :: st) ws := R_aload_n hc_241 dX11_isWell_27 rfl rfl
theorem r_241_28 (l0 l1 l3 : Value) (a : Int32) (st : List Value) (ws : ai_W) : ai_Run 241 28 [l0, l1, .int a, l3] st ws = ai_Run 241 29 [l0, l1, .int a, l3] (.int a :: st) ws := R_iload_n hc_241 dX11_isWell_28 rfl rfl
theorem r_241_29 (ls st : List Value) (ws : ai_W) : ai_Run 241 29 ls st ws = ai_Run 241 30 ls (.int 1 :: st) ws := R_iconst hc_241 dX11_isWell_29 (by decide) rfl
theorem r_241_30 (l0 l1 l2 : Value) (a : Int32) (st : List Value) (ws : ai_W) : ai_Run 241 30 [l0, l1, l2, .int a] st ws = ai_Run 241 31 [l0, l1, l2, .int a] (.int a :: st) ws := R_iload_n hc_241 dX11_isWell_30 rfl rfl
theorem r_241_31 (ls st : List Value) (a b : Int32) (ws : ai_W) : ai_Run 241 31 ls (.int b :: .int a :: st) ws = ai_Run 241 32 ls (.int (a + b) :: st) ws := R_iadd hc_241 dX11_isWell_31 rfl
theorem r_241_32 (ls : List Value) (r : Nat) (b0 : Int32) (b1 : Int32) (s0 : Value) (ws : ai_W) : ai_Run 241 32 ls [.int b1, .int b0, .ref r, s0] ws = (ai_Call 165 [.ref r, .int b0, .int b1] ws).bind fun q => ai_Run 241 35 ls (q.1.toList ++ [s0]) q.2 := R_callV hc_241 dX11_isWell_32 hv_241 (w := 1137) rfl (Nat.le_of_ble_eq_true rfl) hk_165 (by rw [hn_165]; rfl) rfl (Nat.le_of_ble_eq_true rfl) rfl
theorem r_241_35 (l1 l2 l3 : Value) (a : Nat) (st : List Value) (ws : ai_W) : ai_Run 241 35 [.ref a, l1, l2, l3] st ws = ai_Run 241 36 [.ref a, l1, l2, l3] (.ref a :: st) ws := R_aload_n hc_241 dX11_isWell_35 rfl rfl
theorem r_241_36 (l0 l1 l3 : Value) (a : Int32) (st : List Value) (ws : ai_W) : ai_Run 241 36 [l0, l1, .int a, l3] st ws = ai_Run 241 37 [l0, l1, .int a, l3] (.int a :: st) ws := R_iload_n hc_241 dX11_isWell_36 rfl rfl
theorem r_241_37 (ls st : List Value) (ws : ai_W) : ai_Run 241 37 ls st ws = ai_Run 241 38 ls (.int 1 :: st) ws := R_iconst hc_241 dX11_isWell_37 (by decide) rfl
theorem r_241_38 (l0 l1 l2 : Value) (a : Int32) (st : List Value) (ws : ai_W) : ai_Run 241 38 [l0, l1, l2, .int a] st ws = ai_Run 241 39 [l0, l1, l2, .int a] (.int a :: st) ws := R_iload_n hc_241 dX11_isWell_38 rfl rfl
theorem r_241_39 (ls st : List Value) (a b : Int32) (ws : ai_W) : ai_Run 241 39 ls (.int b :: .int a :: st) ws = ai_Run 241 40 ls (.int (a + b) :: st) ws := R_iadd hc_241 dX11_isWell_39 rfl
theorem r_241_40 (ls st : List Value) (ws : ai_W) : ai_Run 241 40 ls st ws = ai_Run 241 41 ls (.int 1 :: st) ws := R_iconst hc_241 dX11_isWell_40 (by decide) rfl
theorem r_241_41 (ls st : List Value) (a b : Int32) (ws : ai_W) : ai_Run 241 41 ls (.int b :: .int a :: st) ws = ai_Run 241 42 ls (.int (a - b) :: st) ws := R_isub hc_241 dX11_isWell_41 rfl
theorem r_241_42 (ls : List Value) (r : Nat) (b0 : Int32) (b1 : Int32) (s0 s1 : Value) (ws : ai_W) : ai_Run 241 42 ls [.int b1, .int b0, .ref r, s0, s1] ws = (ai_Call 165 [.ref r, .int b0, .int b1] ws).bind fun q => ai_Run 241 45 ls (q.1.toList ++ [s0, s1]) q.2 := R_callV hc_241 dX11_isWell_42 hv_241 (w := 1137) rfl (Nat.le_of_ble_eq_true rfl) hk_165 (by rw [hn_165]; rfl) rfl (Nat.le_of_ble_eq_true rfl) rfl
theorem r_241_45 (ls st : List Value) (a b : Int32) (ws : ai_W) : ai_Run 241 45 ls (.int b :: .int a :: st) ws = if b < a then ai_Run 241 48 ls st ws else ai_Run 241 52 ls st ws := R_cmp_le hc_241 dX11_isWell_45 rfl rfl
theorem r_241_48 (ls st : List Value) (ws : ai_W) : ai_Run 241 48 ls st ws = ai_Run 241 49 ls (.int 1 :: st) ws := R_iconst hc_241 dX11_isWell_48 (by decide) rfl
theorem r_241_49 (ls st : List Value) (ws : ai_W) : ai_Run 241 49 ls st ws = ai_Run 241 53 ls st ws := R_goto hc_241 dX11_isWell_49 rfl
theorem r_241_52 (ls st : List Value) (ws : ai_W) : ai_Run 241 52 ls st ws = ai_Run 241 53 ls (.int 0 :: st) ws := R_iconst hc_241 dX11_isWell_52 (by decide) rfl
theorem r_241_53 (ls st : List Value) (a b : Int32) (ws : ai_W) : ai_Run 241 53 ls (.int b :: .int a :: st) ws = ai_Run 241 54 ls (.int (a &&& b) :: st) ws := R_iand hc_241 dX11_isWell_53 rfl
theorem r_241_54 (l0 l1 l2 l3 : Value) (a : Int32) (st : List Value) (ws : ai_W) : ai_Run 241 54 [l0, l1, l2, l3] (.int a :: st) ws = ai_Run 241 55 [l0, .int a, l2, l3] st ws := R_istore_n hc_241 dX11_isWell_54 (Nat.le_of_ble_eq_true rfl) rfl rfl
theorem r_241_55 (l0 l1 l2 : Value) (a : Int32) (st : List Value) (ws : ai_W) : ai_Run 241 55 [l0, l1, l2, .int a] st ws = ai_Run 241 58 [l0, l1, l2, .int (a + 1)] st ws := R_iinc hc_241 dX11_isWell_55 rfl (by decide) rfl rfl
theorem r_241_58 (ls st : List Value) (ws : ai_W) : ai_Run 241 58 ls st ws = ai_Run 241 16 ls st ws := R_goto hc_241 dX11_isWell_58 rfl
theorem r_241_61 (l0 l1 l3 : Value) (a : Int32) (st : List Value) (ws : ai_W) : ai_Run 241 61 [l0, l1, .int a, l3] st ws = ai_Run 241 64 [l0, l1, .int (a + 1), l3] st ws := R_iinc hc_241 dX11_isWell_61 rfl (by decide) rfl rfl
theorem r_241_64 (ls st : List Value) (ws : ai_W) : ai_Run 241 64 ls st ws = ai_Run 241 4 ls st ws := R_goto hc_241 dX11_isWell_64 rfl
theorem r_241_67 (l0 l2 l3 : Value) (a : Int32) (st : List Value) (ws : ai_W) : ai_Run 241 67 [l0, .int a, l2, l3] st ws = ai_Run 241 68 [l0, .int a, l2, l3] (.int a :: st) ws := R_iload_n hc_241 dX11_isWell_67 rfl rfl
theorem r_241_68 (ls st : List Value) (a : Int32) (ws : ai_W) : ai_Run 241 68 ls (.int a :: st) ws = if a = 0 then ai_Run 241 75 ls st ws else ai_Run 241 71 ls st ws := R_if_eq hc_241 dX11_isWell_68 rfl rfl
theorem r_241_71 (ls st : List Value) (ws : ai_W) : ai_Run 241 71 ls st ws = ai_Run 241 72 ls (.int 1 :: st) ws := R_iconst hc_241 dX11_isWell_71 (by decide) rfl
theorem r_241_72 (ls st : List Value) (ws : ai_W) : ai_Run 241 72 ls st ws = ai_Run 241 76 ls st ws := R_goto hc_241 dX11_isWell_72 rfl
theorem r_241_75 (ls st : List Value) (ws : ai_W) : ai_Run 241 75 ls st ws = ai_Run 241 76 ls (.int 0 :: st) ws := R_iconst hc_241 dX11_isWell_75 (by decide) rfl
theorem r_241_76 (ls : List Value) (x : Int32) (ws : ai_W) : ai_Run 241 76 ls [.int x] ws = some (some (.int x), ws) := R_iret hc_241 dX11_isWell_76 ht_241
theorem dX11_leave_0 : decode cX11_leave 0 = .ok (.aload_n 0, 1) := by decide +kernel
theorem dX11_leave_1 : decode cX11_leave 1 = .ok (.invokevirtual 78, 3) := by decide +kernel
theorem dX11_leave_4 : decode cX11_leave 4 = .ok (.aload_n 0, 1) := by decide +kernel
theorem dX11_leave_5 : decode cX11_leave 5 = .ok (.aload_n 0, 1) := by decide +kernel
theorem dX11_leave_6 : decode cX11_leave 6 = .ok (.iload_n 1, 1) := by decide +kernel
theorem dX11_leave_7 : decode cX11_leave 7 = .ok (.invokevirtual 145, 3) := by decide +kernel
theorem dX11_leave_10 : decode cX11_leave 10 = .ok (.invokevirtual 85, 3) := by decide +kernel
theorem dX11_leave_13 : decode cX11_leave 13 = .ok (.ireturn, 1) := by decide +kernel
theorem e_242 (r : Nat) (a0 : Int32) (ws : ai_W) : ai_Call 242 [.ref r, .int a0] ws = if ai_isob ws r 11 = true then ai_Run 242 0 [.ref r, .int a0] [] ws else none := R_entV hk_242 ⟨⟨rfl, rfl⟩, Nat.le_of_ble_eq_true rfl⟩ rfl
theorem r_242_0 (l1 : Value) (a : Nat) (st : List Value) (ws : ai_W) : ai_Run 242 0 [.ref a, l1] st ws = ai_Run 242 1 [.ref a, l1] (.ref a :: st) ws := R_aload_n hc_242 dX11_leave_0 rfl rfl
theorem r_242_1 (ls : List Value) (r : Nat) (ws : ai_W) : ai_Run 242 1 ls [.ref r] ws = (ai_Call 182 [.ref r] ws).bind fun q => ai_Run 242 4 ls (q.1.toList ++ []) q.2 := R_callV hc_242 dX11_leave_1 hv_242 (w := 1077) rfl (Nat.le_of_ble_eq_true rfl) hk_182 (by rw [hn_182]; rfl) rfl (Nat.le_of_ble_eq_true rfl) rfl
theorem r_242_4 (l1 : Value) (a : Nat) (st : List Value) (ws : ai_W) : ai_Run 242 4 [.ref a, l1] st ws = ai_Run 242 5 [.ref a, l1] (.ref a :: st) ws := R_aload_n hc_242 dX11_leave_4 rfl rfl
theorem r_242_5 (l1 : Value) (a : Nat) (st : List Value) (ws : ai_W) : ai_Run 242 5 [.ref a, l1] st ws = ai_Run 242 6 [.ref a, l1] (.ref a :: st) ws := R_aload_n hc_242 dX11_leave_5 rfl rfl
theorem r_242_6 (l0 : Value) (a : Int32) (st : List Value) (ws : ai_W) : ai_Run 242 6 [l0, .int a] st ws = ai_Run 242 7 [l0, .int a] (.int a :: st) ws := R_iload_n hc_242 dX11_leave_6 rfl rfl
theorem r_242_7 (ls : List Value) (r : Nat) (b0 : Int32) (s0 : Value) (ws : ai_W) : ai_Run 242 7 ls [.int b0, .ref r, s0] ws = (ai_Call 224 [.ref r, .int b0] ws).bind fun q => ai_Run 242 10 ls (q.1.toList ++ [s0]) q.2 := R_callV hc_242 dX11_leave_7 hv_242 (w := 1228) rfl (Nat.le_of_ble_eq_true rfl) hk_224 (by rw [hn_224]; rfl) rfl (Nat.le_of_ble_eq_true rfl) rfl
theorem r_242_10 (ls : List Value) (r : Nat) (b0 : Int32) (ws : ai_W) : ai_Run 242 10 ls [.int b0, .ref r] ws = (ai_Call 187 [.ref r, .int b0] ws).bind fun q => ai_Run 242 13 ls (q.1.toList ++ []) q.2 := R_callV hc_242 dX11_leave_10 hv_242 (w := 1096) rfl (Nat.le_of_ble_eq_true rfl) hk_187 (by rw [hn_187]; rfl) rfl (Nat.le_of_ble_eq_true rfl) rfl
theorem r_242_13 (ls : List Value) (x : Int32) (ws : ai_W) : ai_Run 242 13 ls [.int x] ws = some (some (.int x), ws) := R_iret hc_242 dX11_leave_13 ht_242
theorem dX11_motive_0 : decode cX11_motive 0 = .ok (.aload_n 0, 1) := by decide +kernel
theorem dX11_motive_1 : decode cX11_motive 1 = .ok (.invokevirtual 78, 3) := by decide +kernel
theorem dX11_motive_4 : decode cX11_motive 4 = .ok (.aload_n 0, 1) := by decide +kernel
theorem dX11_motive_5 : decode cX11_motive 5 = .ok (.aload_n 0, 1) := by decide +kernel
theorem dX11_motive_6 : decode cX11_motive 6 = .ok (.iload_n 1, 1) := by decide +kernel
theorem dX11_motive_7 : decode cX11_motive 7 = .ok (.iload_n 2, 1) := by decide +kernel
theorem dX11_motive_8 : decode cX11_motive 8 = .ok (.iload_n 3, 1) := by decide +kernel
theorem dX11_motive_9 : decode cX11_motive 9 = .ok (.invokevirtual 132, 3) := by decide +kernel
theorem dX11_motive_12 : decode cX11_motive 12 = .ok (.invokevirtual 85, 3) := by decide +kernel
theorem dX11_motive_15 : decode cX11_motive 15 = .ok (.ireturn, 1) := by decide +kernel
theorem e_243 (r : Nat) (a0 : Int32) (a1 : Int32) (a2 : Int32) (ws : ai_W) : ai_Call 243 [.ref r, .int a0, .int a1, .int a2] ws = if ai_isob ws r 11 = true then ai_Run 243 0 [.ref r, .int a0, .int a1, .int a2] [] ws else none := R_entV hk_243 ⟨⟨rfl, rfl⟩, Nat.le_of_ble_eq_true rfl⟩ rfl
theorem r_243_0 (l1 l2 l3 : Value) (a : Nat) (st : List Value) (ws : ai_W) : ai_Run 243 0 [.ref a, l1, l2, l3] st ws = ai_Run 243 1 [.ref a, l1, l2, l3] (.ref a :: st) ws := R_aload_n hc_243 dX11_motive_0 rfl rfl
theorem r_243_1 (ls : List Value) (r : Nat) (ws : ai_W) : ai_Run 243 1 ls [.ref r] ws = (ai_Call 182 [.ref r] ws).bind fun q => ai_Run 243 4 ls (q.1.toList ++ []) q.2 := R_callV hc_243 dX11_motive_1 hv_243 (w := 1077) rfl (Nat.le_of_ble_eq_true rfl) hk_182 (by rw [hn_182]; rfl) rfl (Nat.le_of_ble_eq_true rfl) rfl
theorem r_243_4 (l1 l2 l3 : Value) (a : Nat) (st : List Value) (ws : ai_W) : ai_Run 243 4 [.ref a, l1, l2, l3] st ws = ai_Run 243 5 [.ref a, l1, l2, l3] (.ref a :: st) ws := R_aload_n hc_243 dX11_motive_4 rfl rfl
theorem r_243_5 (l1 l2 l3 : Value) (a : Nat) (st : List Value) (ws : ai_W) : ai_Run 243 5 [.ref a, l1, l2, l3] st ws = ai_Run 243 6 [.ref a, l1, l2, l3] (.ref a :: st) ws := R_aload_n hc_243 dX11_motive_5 rfl rfl
theorem r_243_6 (l0 l2 l3 : Value) (a : Int32) (st : List Value) (ws : ai_W) : ai_Run 243 6 [l0, .int a, l2, l3] st ws = ai_Run 243 7 [l0, .int a, l2, l3] (.int a :: st) ws := R_iload_n hc_243 dX11_motive_6 rfl rfl
theorem r_243_7 (l0 l1 l3 : Value) (a : Int32) (st : List Value) (ws : ai_W) : ai_Run 243 7 [l0, l1, .int a, l3] st ws = ai_Run 243 8 [l0, l1, .int a, l3] (.int a :: st) ws := R_iload_n hc_243 dX11_motive_7 rfl rfl
theorem r_243_8 (l0 l1 l2 : Value) (a : Int32) (st : List Value) (ws : ai_W) : ai_Run 243 8 [l0, l1, l2, .int a] st ws = ai_Run 243 9 [l0, l1, l2, .int a] (.int a :: st) ws := R_iload_n hc_243 dX11_motive_8 rfl rfl
theorem r_243_9 (ls : List Value) (r : Nat) (b0 : Int32) (b1 : Int32) (b2 : Int32) (s0 : Value) (ws : ai_W) : ai_Run 243 9 ls [.int b2, .int b1, .int b0, .ref r, s0] ws = (ai_Call 222 [.ref r, .int b0, .int b1, .int b2] ws).bind fun q => ai_Run 243 12 ls (q.1.toList ++ [s0]) q.2 := R_callV hc_243 dX11_motive_9 hv_243 (w := 1201) rfl (Nat.le_of_ble_eq_true rfl) hk_222 (by rw [hn_222]; rfl) rfl (Nat.le_of_ble_eq_true rfl) rfl
theorem r_243_12 (ls : List Value) (r : Nat) (b0 : Int32) (ws : ai_W) : ai_Run 243 12 ls [.int b0, .ref r] ws = (ai_Call 187 [.ref r, .int b0] ws).bind fun q => ai_Run 243 15 ls (q.1.toList ++ []) q.2 := R_callV hc_243 dX11_motive_12 hv_243 (w := 1096) rfl (Nat.le_of_ble_eq_true rfl) hk_187 (by rw [hn_187]; rfl) rfl (Nat.le_of_ble_eq_true rfl) rfl
theorem r_243_15 (ls : List Value) (x : Int32) (ws : ai_W) : ai_Run 243 15 ls [.int x] ws = some (some (.int x), ws) := R_iret hc_243 dX11_motive_15 ht_243
theorem dX11_puts_0 : decode cX11_puts 0 = .ok (.aload_n 0, 1) := by decide +kernel
theorem dX11_puts_1 : decode cX11_puts 1 = .ok (.getfield 26, 3) := by decide +kernel
theorem dX11_puts_4 : decode cX11_puts 4 = .ok (.aload_n 0, 1) := by decide +kernel
theorem dX11_puts_5 : decode cX11_puts 5 = .ok (.getfield 215, 3) := by decide +kernel
theorem dX11_puts_8 : decode cX11_puts 8 = .ok (.iload_n 1, 1) := by decide +kernel
theorem dX11_puts_9 : decode cX11_puts 9 = .ok (.iastore, 1) := by decide +kernel
theorem dX11_puts_10 : decode cX11_puts 10 = .ok (.aload_n 0, 1) := by decide +kernel
theorem dX11_puts_11 : decode cX11_puts 11 = .ok (.dup, 1) := by decide +kernel
theorem dX11_puts_12 : decode cX11_puts 12 = .ok (.getfield 215, 3) := by decide +kernel
theorem dX11_puts_15 : decode cX11_puts 15 = .ok (.iconst 1, 1) := by decide +kernel
theorem dX11_puts_16 : decode cX11_puts 16 = .ok (.iadd, 1) := by decide +kernel
theorem dX11_puts_17 : decode cX11_puts 17 = .ok (.putfield 215, 3) := by decide +kernel
theorem dX11_puts_20 : decode cX11_puts 20 = .ok (.return_, 1) := by decide +kernel
theorem e_244 (r : Nat) (a0 : Int32) (ws : ai_W) : ai_Call 244 [.ref r, .int a0] ws = if ai_isob ws r 11 = true then ai_Run 244 0 [.ref r, .int a0] [] ws else none := R_entV hk_244 ⟨⟨rfl, rfl⟩, Nat.le_of_ble_eq_true rfl⟩ rfl
theorem r_244_0 (l1 : Value) (a : Nat) (st : List Value) (ws : ai_W) : ai_Run 244 0 [.ref a, l1] st ws = ai_Run 244 1 [.ref a, l1] (.ref a :: st) ws := R_aload_n hc_244 dX11_puts_0 rfl rfl
theorem r_244_1 (ls st : List Value) (a : Nat) (ws : ai_W) : ai_Run 244 1 ls (.ref a :: st) ws = (ai_fget ws a 11 9).bind fun q => ai_Run 244 4 ls (q :: st) ws := R_getf hc_244 dX11_puts_1 hv_244 (w := 1033) rfl rfl
theorem r_244_4 (l1 : Value) (a : Nat) (st : List Value) (ws : ai_W) : ai_Run 244 4 [.ref a, l1] st ws = ai_Run 244 5 [.ref a, l1] (.ref a :: st) ws := R_aload_n hc_244 dX11_puts_4 rfl rfl
theorem r_244_5 (ls st : List Value) (a : Nat) (ws : ai_W) : ai_Run 244 5 ls (.ref a :: st) ws = (ai_fget ws a 11 10).bind fun q => ai_Run 244 8 ls (q :: st) ws := R_getf hc_244 dX11_puts_5 hv_244 (w := 1034) rfl rfl
theorem r_244_8 (l0 : Value) (a : Int32) (st : List Value) (ws : ai_W) : ai_Run 244 8 [l0, .int a] st ws = ai_Run 244 9 [l0, .int a] (.int a :: st) ws := R_iload_n hc_244 dX11_puts_8 rfl rfl
theorem r_244_9 (ls st : List Value) (a : Nat) (i x : Int32) (ws : ai_W) : ai_Run 244 9 ls (.int x :: .int i :: .ref a :: st) ws = (ai_aset ws a i x).bind fun ws => ai_Run 244 10 ls st ws := R_iastore hc_244 dX11_puts_9 rfl
theorem r_244_10 (l1 : Value) (a : Nat) (st : List Value) (ws : ai_W) : ai_Run 244 10 [.ref a, l1] st ws = ai_Run 244 11 [.ref a, l1] (.ref a :: st) ws := R_aload_n hc_244 dX11_puts_10 rfl rfl
theorem r_244_11 (ls st : List Value) (a : Nat) (ws : ai_W) : ai_Run 244 11 ls (.ref a :: st) ws = ai_Run 244 12 ls (.ref a :: .ref a :: st) ws := R_dup hc_244 dX11_puts_11 rfl
theorem r_244_12 (ls st : List Value) (a : Nat) (ws : ai_W) : ai_Run 244 12 ls (.ref a :: st) ws = (ai_fget ws a 11 10).bind fun q => ai_Run 244 15 ls (q :: st) ws := R_getf hc_244 dX11_puts_12 hv_244 (w := 1034) rfl rfl
theorem r_244_15 (ls st : List Value) (ws : ai_W) : ai_Run 244 15 ls st ws = ai_Run 244 16 ls (.int 1 :: st) ws := R_iconst hc_244 dX11_puts_15 (by decide) rfl
theorem r_244_16 (ls st : List Value) (a b : Int32) (ws : ai_W) : ai_Run 244 16 ls (.int b :: .int a :: st) ws = ai_Run 244 17 ls (.int (a + b) :: st) ws := R_iadd hc_244 dX11_puts_16 rfl
theorem r_244_17 (ls st : List Value) (a : Nat) (x : Value) (ws : ai_W) : ai_Run 244 17 ls (x :: .ref a :: st) ws = (ai_fput ws a 11 10 x).bind fun ws => ai_Run 244 20 ls st ws := R_putf hc_244 dX11_puts_17 hv_244 (w := 1034) rfl rfl rfl
theorem r_244_20 (ls : List Value) (ws : ai_W) : ai_Run 244 20 ls [] ws = some (none, ws) := R_vret hc_244 dX11_puts_20 ht_244
theorem dX11_number_0 : decode cX11_number 0 = .ok (.iload_n 1, 1) := by decide +kernel
theorem dX11_number_1 : decode cX11_number 1 = .ok (.bipush 10, 2) := by decide +kernel
theorem dX11_number_3 : decode cX11_number 3 = .ok (.if_icmp .lt 11, 3) := by decide +kernel
theorem dX11_number_6 : decode cX11_number 6 = .ok (.aload_n 0, 1) := by decide +kernel
theorem dX11_number_7 : decode cX11_number 7 = .ok (.iload_n 1, 1) := by decide +kernel
theorem dX11_number_8 : decode cX11_number 8 = .ok (.bipush 10, 2) := by decide +kernel
theorem dX11_number_10 : decode cX11_number 10 = .ok (.idiv, 1) := by decide +kernel
theorem dX11_number_11 : decode cX11_number 11 = .ok (.invokevirtual 218, 3) := by decide +kernel
theorem dX11_number_14 : decode cX11_number 14 = .ok (.aload_n 0, 1) := by decide +kernel
theorem dX11_number_15 : decode cX11_number 15 = .ok (.bipush 48, 2) := by decide +kernel
theorem dX11_number_17 : decode cX11_number 17 = .ok (.iload_n 1, 1) := by decide +kernel
theorem dX11_number_18 : decode cX11_number 18 = .ok (.bipush 10, 2) := by decide +kernel
theorem dX11_number_20 : decode cX11_number 20 = .ok (.irem, 1) := by decide +kernel
theorem dX11_number_21 : decode cX11_number 21 = .ok (.iadd, 1) := by decide +kernel
theorem dX11_number_22 : decode cX11_number 22 = .ok (.invokevirtual 222, 3) := by decide +kernel
theorem dX11_number_25 : decode cX11_number 25 = .ok (.return_, 1) := by decide +kernel
theorem e_245 (r : Nat) (a0 : Int32) (ws : ai_W) : ai_Call 245 [.ref r, .int a0] ws = if ai_isob ws r 11 = true then ai_Run 245 0 [.ref r, .int a0] [] ws else none := R_entV hk_245 ⟨⟨rfl, rfl⟩, Nat.le_of_ble_eq_true rfl⟩ rfl
theorem r_245_0 (l0 : Value) (a : Int32) (st : List Value) (ws : ai_W) : ai_Run 245 0 [l0, .int a] st ws = ai_Run 245 1 [l0, .int a] (.int a :: st) ws := R_iload_n hc_245 dX11_number_0 rfl rfl
theorem r_245_1 (ls st : List Value) (ws : ai_W) : ai_Run 245 1 ls st ws = ai_Run 245 3 ls (.int 10 :: st) ws := R_bipush hc_245 dX11_number_1 (by decide) rfl
theorem r_245_3 (ls st : List Value) (a b : Int32) (ws : ai_W) : ai_Run 245 3 ls (.int b :: .int a :: st) ws = if a < b then ai_Run 245 14 ls st ws else ai_Run 245 6 ls st ws := R_cmp_lt hc_245 dX11_number_3 rfl rfl
theorem r_245_6 (l1 : Value) (a : Nat) (st : List Value) (ws : ai_W) : ai_Run 245 6 [.ref a, l1] st ws = ai_Run 245 7 [.ref a, l1] (.ref a :: st) ws := R_aload_n hc_245 dX11_number_6 rfl rfl
theorem r_245_7 (l0 : Value) (a : Int32) (st : List Value) (ws : ai_W) : ai_Run 245 7 [l0, .int a] st ws = ai_Run 245 8 [l0, .int a] (.int a :: st) ws := R_iload_n hc_245 dX11_number_7 rfl rfl
theorem r_245_8 (ls st : List Value) (ws : ai_W) : ai_Run 245 8 ls st ws = ai_Run 245 10 ls (.int 10 :: st) ws := R_bipush hc_245 dX11_number_8 (by decide) rfl
theorem r_245_10 (ls st : List Value) (a : Int32) (ws : ai_W) : ai_Run 245 10 ls (.int 10 :: .int a :: st) ws = ai_Run 245 11 ls (.int (a / 10) :: st) ws := R_idiv hc_245 dX11_number_10 (by decide) rfl
theorem r_245_14 (l1 : Value) (a : Nat) (st : List Value) (ws : ai_W) : ai_Run 245 14 [.ref a, l1] st ws = ai_Run 245 15 [.ref a, l1] (.ref a :: st) ws := R_aload_n hc_245 dX11_number_14 rfl rfl
theorem r_245_15 (ls st : List Value) (ws : ai_W) : ai_Run 245 15 ls st ws = ai_Run 245 17 ls (.int 48 :: st) ws := R_bipush hc_245 dX11_number_15 (by decide) rfl
theorem r_245_17 (l0 : Value) (a : Int32) (st : List Value) (ws : ai_W) : ai_Run 245 17 [l0, .int a] st ws = ai_Run 245 18 [l0, .int a] (.int a :: st) ws := R_iload_n hc_245 dX11_number_17 rfl rfl
theorem r_245_18 (ls st : List Value) (ws : ai_W) : ai_Run 245 18 ls st ws = ai_Run 245 20 ls (.int 10 :: st) ws := R_bipush hc_245 dX11_number_18 (by decide) rfl
theorem r_245_20 (ls st : List Value) (a : Int32) (ws : ai_W) : ai_Run 245 20 ls (.int 10 :: .int a :: st) ws = ai_Run 245 21 ls (.int (a - a / 10 * 10) :: st) ws := R_irem hc_245 dX11_number_20 (by decide) rfl
theorem r_245_21 (ls st : List Value) (a b : Int32) (ws : ai_W) : ai_Run 245 21 ls (.int b :: .int a :: st) ws = ai_Run 245 22 ls (.int (a + b) :: st) ws := R_iadd hc_245 dX11_number_21 rfl
theorem r_245_22 (ls : List Value) (r : Nat) (b0 : Int32) (ws : ai_W) : ai_Run 245 22 ls [.int b0, .ref r] ws = (ai_Call 244 [.ref r, .int b0] ws).bind fun q => ai_Run 245 25 ls (q.1.toList ++ []) q.2 := R_callV hc_245 dX11_number_22 hv_245 (w := 1374) rfl (Nat.le_of_ble_eq_true rfl) hk_244 (by rw [hn_244]; rfl) rfl (Nat.le_of_ble_eq_true rfl) rfl
theorem r_245_25 (ls : List Value) (ws : ai_W) : ai_Run 245 25 ls [] ws = some (none, ws) := R_vret hc_245 dX11_number_25 ht_245
theorem e_246 (r : Nat) (a0 : Int32) (ws : ai_W) : ai_Call 246 [.ref r, .int a0] ws = if ai_isob ws r 11 = true then ai_Run 246 0 [.ref r, .int a0] [] ws else none := R_entV hk_246 ⟨⟨rfl, rfl⟩, Nat.le_of_ble_eq_true rfl⟩ rfl
theorem r_246_0 (l0 : Value) (a : Int32) (st : List Value) (ws : ai_W) : ai_Run 246 0 [l0, .int a] st ws = ai_Run 246 1 [l0, .int a] (.int a :: st) ws := R_iload_n hc_246 dX11_number_0 rfl rfl
theorem r_246_1 (ls st : List Value) (ws : ai_W) : ai_Run 246 1 ls st ws = ai_Run 246 3 ls (.int 10 :: st) ws := R_bipush hc_246 dX11_number_1 (by decide) rfl
theorem r_246_3 (ls st : List Value) (a b : Int32) (ws : ai_W) : ai_Run 246 3 ls (.int b :: .int a :: st) ws = if a < b then ai_Run 246 14 ls st ws else ai_Run 246 6 ls st ws := R_cmp_lt hc_246 dX11_number_3 rfl rfl
theorem r_246_6 (l1 : Value) (a : Nat) (st : List Value) (ws : ai_W) : ai_Run 246 6 [.ref a, l1] st ws = ai_Run 246 7 [.ref a, l1] (.ref a :: st) ws := R_aload_n hc_246 dX11_number_6 rfl rfl
theorem r_246_7 (l0 : Value) (a : Int32) (st : List Value) (ws : ai_W) : ai_Run 246 7 [l0, .int a] st ws = ai_Run 246 8 [l0, .int a] (.int a :: st) ws := R_iload_n hc_246 dX11_number_7 rfl rfl
theorem r_246_8 (ls st : List Value) (ws : ai_W) : ai_Run 246 8 ls st ws = ai_Run 246 10 ls (.int 10 :: st) ws := R_bipush hc_246 dX11_number_8 (by decide) rfl
theorem r_246_10 (ls st : List Value) (a : Int32) (ws : ai_W) : ai_Run 246 10 ls (.int 10 :: .int a :: st) ws = ai_Run 246 11 ls (.int (a / 10) :: st) ws := R_idiv hc_246 dX11_number_10 (by decide) rfl
theorem r_246_11 (ls : List Value) (r : Nat) (b0 : Int32) (ws : ai_W) : ai_Run 246 11 ls [.int b0, .ref r] ws = (ai_Call 245 [.ref r, .int b0] ws).bind fun q => ai_Run 246 14 ls (q.1.toList ++ []) q.2 := R_callV hc_246 dX11_number_11 hv_246 (w := 1370) rfl (Nat.le_of_ble_eq_true rfl) hk_245 (by rw [hn_245]; rfl) rfl (Nat.le_of_ble_eq_true rfl) rfl
theorem r_246_14 (l1 : Value) (a : Nat) (st : List Value) (ws : ai_W) : ai_Run 246 14 [.ref a, l1] st ws = ai_Run 246 15 [.ref a, l1] (.ref a :: st) ws := R_aload_n hc_246 dX11_number_14 rfl rfl
theorem r_246_15 (ls st : List Value) (ws : ai_W) : ai_Run 246 15 ls st ws = ai_Run 246 17 ls (.int 48 :: st) ws := R_bipush hc_246 dX11_number_15 (by decide) rfl
theorem r_246_17 (l0 : Value) (a : Int32) (st : List Value) (ws : ai_W) : ai_Run 246 17 [l0, .int a] st ws = ai_Run 246 18 [l0, .int a] (.int a :: st) ws := R_iload_n hc_246 dX11_number_17 rfl rfl
theorem r_246_18 (ls st : List Value) (ws : ai_W) : ai_Run 246 18 ls st ws = ai_Run 246 20 ls (.int 10 :: st) ws := R_bipush hc_246 dX11_number_18 (by decide) rfl
theorem r_246_20 (ls st : List Value) (a : Int32) (ws : ai_W) : ai_Run 246 20 ls (.int 10 :: .int a :: st) ws = ai_Run 246 21 ls (.int (a - a / 10 * 10) :: st) ws := R_irem hc_246 dX11_number_20 (by decide) rfl
theorem r_246_21 (ls st : List Value) (a b : Int32) (ws : ai_W) : ai_Run 246 21 ls (.int b :: .int a :: st) ws = ai_Run 246 22 ls (.int (a + b) :: st) ws := R_iadd hc_246 dX11_number_21 rfl
theorem r_246_22 (ls : List Value) (r : Nat) (b0 : Int32) (ws : ai_W) : ai_Run 246 22 ls [.int b0, .ref r] ws = (ai_Call 244 [.ref r, .int b0] ws).bind fun q => ai_Run 246 25 ls (q.1.toList ++ []) q.2 := R_callV hc_246 dX11_number_22 hv_246 (w := 1374) rfl (Nat.le_of_ble_eq_true rfl) hk_244 (by rw [hn_244]; rfl) rfl (Nat.le_of_ble_eq_true rfl) rfl
theorem r_246_25 (ls : List Value) (ws : ai_W) : ai_Run 246 25 ls [] ws = some (none, ws) := R_vret hc_246 dX11_number_25 ht_246
theorem dX11_pages_0 : decode cX11_pages 0 = .ok (.aload_n 0, 1) := by decide +kernel
theorem dX11_pages_1 : decode cX11_pages 1 = .ok (.iload_n 1, 1) := by decide +kernel
theorem dX11_pages_2 : decode cX11_pages 2 = .ok (.invokevirtual 63, 3) := by decide +kernel
theorem dX11_pages_5 : decode cX11_pages 5 = .ok (.ifCond .eq 20, 3) := by decide +kernel
theorem dX11_pages_8 : decode cX11_pages 8 = .ok (.aload_n 0, 1) := by decide +kernel
theorem dX11_pages_9 : decode cX11_pages 9 = .ok (.iload_n 2, 1) := by decide +kernel
theorem dX11_pages_10 : decode cX11_pages 10 = .ok (.invokevirtual 63, 3) := by decide +kernel
theorem dX11_pages_13 : decode cX11_pages 13 = .ok (.ifCond .eq 12, 3) := by decide +kernel
theorem dX11_pages_16 : decode cX11_pages 16 = .ok (.aload_n 0, 1) := by decide +kernel
theorem dX11_pages_17 : decode cX11_pages 17 = .ok (.iload_n 1, 1) := by decide +kernel
theorem dX11_pages_18 : decode cX11_pages 18 = .ok (.iload_n 2, 1) := by decide +kernel
theorem dX11_pages_19 : decode cX11_pages 19 = .ok (.invokevirtual 129, 3) := by decide +kernel
theorem dX11_pages_22 : decode cX11_pages 22 = .ok (.goto 4, 3) := by decide +kernel
theorem dX11_pages_25 : decode cX11_pages 25 = .ok (.iconst (-1), 1) := by decide +kernel
theorem dX11_pages_26 : decode cX11_pages 26 = .ok (.ireturn, 1) := by decide +kernel
theorem e_247 (r : Nat) (a0 : Int32) (a1 : Int32) (ws : ai_W) : ai_Call 247 [.ref r, .int a0, .int a1] ws = if ai_isob ws r 11 = true then ai_Run 247 0 [.ref r, .int a0, .int a1] [] ws else none := R_entV hk_247 ⟨⟨rfl, rfl⟩, Nat.le_of_ble_eq_true rfl⟩ rfl
theorem r_247_0 (l1 l2 : Value) (a : Nat) (st : List Value) (ws : ai_W) : ai_Run 247 0 [.ref a, l1, l2] st ws = ai_Run 247 1 [.ref a, l1, l2] (.ref a :: st) ws := R_aload_n hc_247 dX11_pages_0 rfl rfl
theorem r_247_1 (l0 l2 : Value) (a : Int32) (st : List Value) (ws : ai_W) : ai_Run 247 1 [l0, .int a, l2] st ws = ai_Run 247 2 [l0, .int a, l2] (.int a :: st) ws := R_iload_n hc_247 dX11_pages_1 rfl rfl
theorem r_247_2 (ls : List Value) (r : Nat) (b0 : Int32) (ws : ai_W) : ai_Run 247 2 ls [.int b0, .ref r] ws = (ai_Call 200 [.ref r, .int b0] ws).bind fun q => ai_Run 247 5 ls (q.1.toList ++ []) q.2 := R_callV hc_247 dX11_pages_2 hv_247 (w := 1123) rfl (Nat.le_of_ble_eq_true rfl) hk_200 (by rw [hn_200]; rfl) rfl (Nat.le_of_ble_eq_true rfl) rfl
theorem r_247_5 (ls st : List Value) (a : Int32) (ws : ai_W) : ai_Run 247 5 ls (.int a :: st) ws = if a = 0 then ai_Run 247 25 ls st ws else ai_Run 247 8 ls st ws := R_if_eq hc_247 dX11_pages_5 rfl rfl
theorem r_247_8 (l1 l2 : Value) (a : Nat) (st : List Value) (ws : ai_W) : ai_Run 247 8 [.ref a, l1, l2] st ws = ai_Run 247 9 [.ref a, l1, l2] (.ref a :: st) ws := R_aload_n hc_247 dX11_pages_8 rfl rfl
theorem r_247_9 (l0 l1 : Value) (a : Int32) (st : List Value) (ws : ai_W) : ai_Run 247 9 [l0, l1, .int a] st ws = ai_Run 247 10 [l0, l1, .int a] (.int a :: st) ws := R_iload_n hc_247 dX11_pages_9 rfl rfl
theorem r_247_10 (ls : List Value) (r : Nat) (b0 : Int32) (ws : ai_W) : ai_Run 247 10 ls [.int b0, .ref r] ws = (ai_Call 200 [.ref r, .int b0] ws).bind fun q => ai_Run 247 13 ls (q.1.toList ++ []) q.2 := R_callV hc_247 dX11_pages_10 hv_247 (w := 1123) rfl (Nat.le_of_ble_eq_true rfl) hk_200 (by rw [hn_200]; rfl) rfl (Nat.le_of_ble_eq_true rfl) rfl
theorem r_247_13 (ls st : List Value) (a : Int32) (ws : ai_W) : ai_Run 247 13 ls (.int a :: st) ws = if a = 0 then ai_Run 247 25 ls st ws else ai_Run 247 16 ls st ws := R_if_eq hc_247 dX11_pages_13 rfl rfl
theorem r_247_16 (l1 l2 : Value) (a : Nat) (st : List Value) (ws : ai_W) : ai_Run 247 16 [.ref a, l1, l2] st ws = ai_Run 247 17 [.ref a, l1, l2] (.ref a :: st) ws := R_aload_n hc_247 dX11_pages_16 rfl rfl
theorem r_247_17 (l0 l2 : Value) (a : Int32) (st : List Value) (ws : ai_W) : ai_Run 247 17 [l0, .int a, l2] st ws = ai_Run 247 18 [l0, .int a, l2] (.int a :: st) ws := R_iload_n hc_247 dX11_pages_17 rfl rfl
theorem r_247_18 (l0 l1 : Value) (a : Int32) (st : List Value) (ws : ai_W) : ai_Run 247 18 [l0, l1, .int a] st ws = ai_Run 247 19 [l0, l1, .int a] (.int a :: st) ws := R_iload_n hc_247 dX11_pages_18 rfl rfl
theorem r_247_19 (ls : List Value) (r : Nat) (b0 : Int32) (b1 : Int32) (ws : ai_W) : ai_Run 247 19 ls [.int b1, .int b0, .ref r] ws = (ai_Call 194 [.ref r, .int b0, .int b1] ws).bind fun q => ai_Run 247 22 ls (q.1.toList ++ []) q.2 := R_callV hc_247 dX11_pages_19 hv_247 (w := 1205) rfl (Nat.le_of_ble_eq_true rfl) hk_194 (by rw [hn_194]; rfl) rfl (Nat.le_of_ble_eq_true rfl) rfl
theorem r_247_22 (ls st : List Value) (ws : ai_W) : ai_Run 247 22 ls st ws = ai_Run 247 26 ls st ws := R_goto hc_247 dX11_pages_22 rfl
theorem r_247_25 (ls st : List Value) (ws : ai_W) : ai_Run 247 25 ls st ws = ai_Run 247 26 ls (.int (-1) :: st) ws := R_iconst hc_247 dX11_pages_25 (by decide) rfl
theorem r_247_26 (ls : List Value) (x : Int32) (ws : ai_W) : ai_Run 247 26 ls [.int x] ws = some (some (.int x), ws) := R_iret hc_247 dX11_pages_26 ht_247
theorem dX11_ranked_0 : decode cX11_ranked 0 = .ok (.iload_n 1, 1) := by decide +kernel
theorem dX11_ranked_1 : decode cX11_ranked 1 = .ok (.iconst 0, 1) := by decide +kernel
theorem dX11_ranked_2 : decode cX11_ranked 2 = .ok (.iconst 3, 1) := by decide +kernel
theorem dX11_ranked_3 : decode cX11_ranked 3 = .ok (.invokestatic 55, 3) := by decide +kernel
theorem dX11_ranked_6 : decode cX11_ranked 6 = .ok (.ifCond .ne 6, 3) := by decide +kernel
theorem dX11_ranked_9 : decode cX11_ranked 9 = .ok (.bipush (-2), 2) := by decide +kernel
theorem dX11_ranked_11 : decode cX11_ranked 11 = .ok (.ireturn, 1) := by decide +kernel
theorem dX11_ranked_12 : decode cX11_ranked 12 = .ok (.iload_n 1, 1) := by decide +kernel
theorem dX11_ranked_13 : decode cX11_ranked 13 = .ok (.iconst 3, 1) := by decide +kernel
theorem dX11_ranked_14 : decode cX11_ranked 14 = .ok (.if_icmp .ne 12, 3) := by decide +kernel
theorem dX11_ranked_17 : decode cX11_ranked 17 = .ok (.aload_n 0, 1) := by decide +kernel
theorem dX11_ranked_18 : decode cX11_ranked 18 = .ok (.getfield 9, 3) := by decide +kernel
theorem dX11_ranked_21 : decode cX11_ranked 21 = .ok (.iconst 1, 1) := by decide +kernel
theorem dX11_ranked_22 : decode cX11_ranked 22 = .ok (.iaload, 1) := by decide +kernel
theorem dX11_ranked_23 : decode cX11_ranked 23 = .ok (.goto 9, 3) := by decide +kernel
theorem dX11_ranked_26 : decode cX11_ranked 26 = .ok (.aload_n 0, 1) := by decide +kernel
theorem dX11_ranked_27 : decode cX11_ranked 27 = .ok (.getfield 9, 3) := by decide +kernel
theorem dX11_ranked_30 : decode cX11_ranked 30 = .ok (.iconst 0, 1) := by decide +kernel
theorem dX11_ranked_31 : decode cX11_ranked 31 = .ok (.iaload, 1) := by decide +kernel
theorem dX11_ranked_32 : decode cX11_ranked 32 = .ok (.istore_n 3, 1) := by decide +kernel
theorem dX11_ranked_33 : decode cX11_ranked 33 = .ok (.iconst 0, 1) := by decide +kernel
theorem dX11_ranked_34 : decode cX11_ranked 34 = .ok (.istore 4, 2) := by decide +kernel
theorem dX11_ranked_36 : decode cX11_ranked 36 = .ok (.iload 4, 2) := by decide +kernel
theorem dX11_ranked_38 : decode cX11_ranked 38 = .ok (.iload_n 3, 1) := by decide +kernel
theorem dX11_ranked_39 : decode cX11_ranked 39 = .ok (.if_icmp .ge 65, 3) := by decide +kernel
theorem dX11_ranked_42 : decode cX11_ranked 42 = .ok (.iconst 0, 1) := by decide +kernel
theorem dX11_ranked_43 : decode cX11_ranked 43 = .ok (.istore 5, 2) := by decide +kernel
theorem dX11_ranked_45 : decode cX11_ranked 45 = .ok (.iconst 0, 1) := by decide +kernel
theorem dX11_ranked_46 : decode cX11_ranked 46 = .ok (.istore 6, 2) := by decide +kernel
theorem dX11_ranked_48 : decode cX11_ranked 48 = .ok (.iload 6, 2) := by decide +kernel
theorem dX11_ranked_50 : decode cX11_ranked 50 = .ok (.iload_n 3, 1) := by decide +kernel
theorem dX11_ranked_51 : decode cX11_ranked 51 = .ok (.if_icmp .ge 38, 3) := by decide +kernel
theorem dX11_ranked_54 : decode cX11_ranked 54 = .ok (.iload 5, 2) := by decide +kernel
theorem dX11_ranked_56 : decode cX11_ranked 56 = .ok (.iload 6, 2) := by decide +kernel
theorem dX11_ranked_58 : decode cX11_ranked 58 = .ok (.iload 4, 2) := by decide +kernel
theorem dX11_ranked_60 : decode cX11_ranked 60 = .ok (.if_icmp .eq 19, 3) := by decide +kernel
theorem dX11_ranked_63 : decode cX11_ranked 63 = .ok (.aload_n 0, 1) := by decide +kernel
theorem dX11_ranked_64 : decode cX11_ranked 64 = .ok (.iload_n 1, 1) := by decide +kernel
theorem dX11_ranked_65 : decode cX11_ranked 65 = .ok (.iload 6, 2) := by decide +kernel
theorem dX11_ranked_67 : decode cX11_ranked 67 = .ok (.iload 4, 2) := by decide +kernel
theorem dX11_ranked_69 : decode cX11_ranked 69 = .ok (.invokevirtual 212, 3) := by decide +kernel
theorem dX11_ranked_72 : decode cX11_ranked 72 = .ok (.ifCond .eq 7, 3) := by decide +kernel
theorem dX11_ranked_75 : decode cX11_ranked 75 = .ok (.iconst 1, 1) := by decide +kernel
theorem dX11_ranked_76 : decode cX11_ranked 76 = .ok (.goto 4, 3) := by decide +kernel
theorem dX11_ranked_79 : decode cX11_ranked 79 = .ok (.iconst 0, 1) := by decide +kernel
theorem dX11_ranked_80 : decode cX11_ranked 80 = .ok (.iadd, 1) := by decide +kernel
theorem dX11_ranked_81 : decode cX11_ranked 81 = .ok (.istore 5, 2) := by decide +kernel
theorem dX11_ranked_83 : decode cX11_ranked 83 = .ok (.iinc 6 1, 3) := by decide +kernel
theorem dX11_ranked_86 : decode cX11_ranked 86 = .ok (.goto (-38), 3) := by decide +kernel
theorem dX11_ranked_89 : decode cX11_ranked 89 = .ok (.iload 5, 2) := by decide +kernel
theorem dX11_ranked_91 : decode cX11_ranked 91 = .ok (.iload_n 2, 1) := by decide +kernel
theorem dX11_ranked_92 : decode cX11_ranked 92 = .ok (.if_icmp .ne 6, 3) := by decide +kernel
theorem dX11_ranked_95 : decode cX11_ranked 95 = .ok (.iload 4, 2) := by decide +kernel
theorem dX11_ranked_97 : decode cX11_ranked 97 = .ok (.ireturn, 1) := by decide +kernel
theorem dX11_ranked_98 : decode cX11_ranked 98 = .ok (.iinc 4 1, 3) := by decide +kernel
theorem dX11_ranked_101 : decode cX11_ranked 101 = .ok (.goto (-65), 3) := by decide +kernel
theorem dX11_ranked_104 : decode cX11_ranked 104 = .ok (.iconst (-1), 1) := by decide +kernel
theorem dX11_ranked_105 : decode cX11_ranked 105 = .ok (.ireturn, 1) := by decide +kernel
theorem e_248 (r : Nat) (a0 : Int32) (a1 : Int32) (ws : ai_W) : ai_Call 248 [.ref r, .int a0, .int a1] ws = if ai_isob ws r 11 = true then ai_Run 248 0 [.ref r, .int a0, .int a1, .null, .null, .null, .null] [] ws else none := R_entV hk_248 ⟨⟨rfl, rfl⟩, Nat.le_of_ble_eq_true rfl⟩ rfl
theorem r_248_0 (l0 l2 l3 l4 l5 l6 : Value) (a : Int32) (st : List Value) (ws : ai_W) : ai_Run 248 0 [l0, .int a, l2, l3, l4, l5, l6] st ws = ai_Run 248 1 [l0, .int a, l2, l3, l4, l5, l6] (.int a :: st) ws := R_iload_n hc_248 dX11_ranked_0 rfl rfl
theorem r_248_1 (ls st : List Value) (ws : ai_W) : ai_Run 248 1 ls st ws = ai_Run 248 2 ls (.int 0 :: st) ws := R_iconst hc_248 dX11_ranked_1 (by decide) rfl
theorem r_248_2 (ls st : List Value) (ws : ai_W) : ai_Run 248 2 ls st ws = ai_Run 248 3 ls (.int 3 :: st) ws := R_iconst hc_248 dX11_ranked_2 (by decide) rfl
theorem r_248_3 (ls : List Value) (b0 : Int32) (b1 : Int32) (b2 : Int32) (ws : ai_W) : ai_Run 248 3 ls [.int b2, .int b1, .int b0] ws = (ai_Call 179 [.int b0, .int b1, .int b2] ws).bind fun q => ai_Run 248 6 ls (q.1.toList ++ []) q.2 := R_callS hc_248 dX11_ranked_3 hv_248 (w := 1127) rfl (Nat.le_of_ble_eq_true rfl) hk_179 (by rw [hn_179]; rfl) rfl (Nat.le_of_ble_eq_true rfl) rfl
theorem r_248_6 (ls st : List Value) (a : Int32) (ws : ai_W) : ai_Run 248 6 ls (.int a :: st) ws = if a = 0 then ai_Run 248 9 ls st ws else ai_Run 248 12 ls st ws := R_if_ne hc_248 dX11_ranked_6 rfl rfl
theorem r_248_9 (ls st : List Value) (ws : ai_W) : ai_Run 248 9 ls st ws = ai_Run 248 11 ls (.int (-2) :: st) ws := R_bipush hc_248 dX11_ranked_9 (by decide) rfl
theorem r_248_11 (ls : List Value) (x : Int32) (ws : ai_W) : ai_Run 248 11 ls [.int x] ws = some (some (.int x), ws) := R_iret hc_248 dX11_ranked_11 ht_248
theorem r_248_12 (l0 l2 l3 l4 l5 l6 : Value) (a : Int32) (st : List Value) (ws : ai_W) : ai_Run 248 12 [l0, .int a, l2, l3, l4, l5, l6] st ws = ai_Run 248 13 [l0, .int a, l2, l3, l4, l5, l6] (.int a :: st) ws := R_iload_n hc_248 dX11_ranked_12 rfl rfl
theorem r_248_13 (ls st : List Value) (ws : ai_W) : ai_Run 248 13 ls st ws = ai_Run 248 14 ls (.int 3 :: st) ws := R_iconst hc_248 dX11_ranked_13 (by decide) rfl
theorem r_248_14 (ls st : List Value) (a b : Int32) (ws : ai_W) : ai_Run 248 14 ls (.int b :: .int a :: st) ws = if a = b then ai_Run 248 17 ls st ws else ai_Run 248 26 ls st ws := R_cmp_ne hc_248 dX11_ranked_14 rfl rfl
theorem r_248_17 (l1 l2 l3 l4 l5 l6 : Value) (a : Nat) (st : List Value) (ws : ai_W) : ai_Run 248 17 [.ref a, l1, l2, l3, l4, l5, l6] st ws = ai_Run 248 18 [.ref a, l1, l2, l3, l4, l5, l6] (.ref a :: st) ws := R_aload_n hc_248 dX11_ranked_17 rfl rfl
theorem r_248_18 (ls st : List Value) (a : Nat) (ws : ai_W) : ai_Run 248 18 ls (.ref a :: st) ws = (ai_fget ws a 11 0).bind fun q => ai_Run 248 21 ls (q :: st) ws := R_getf hc_248 dX11_ranked_18 hv_248 (w := 1024) rfl rfl
theorem r_248_21 (ls st : List Value) (ws : ai_W) : ai_Run 248 21 ls st ws = ai_Run 248 22 ls (.int 1 :: st) ws := R_iconst hc_248 dX11_ranked_21 (by decide) rfl
theorem r_248_22 (ls st : List Value) (a : Nat) (i : Int32) (ws : ai_W) : ai_Run 248 22 ls (.int i :: .ref a :: st) ws = (ai_aget ws a i).bind fun q => ai_Run 248 23 ls (.int q :: st) ws := R_iaload hc_248 dX11_ranked_22 rfl
theorem r_248_23 (ls st : List Value) (ws : ai_W) : ai_Run 248 23 ls st ws = ai_Run 248 32 ls st ws := R_goto hc_248 dX11_ranked_23 rfl
theorem r_248_26 (l1 l2 l3 l4 l5 l6 : Value) (a : Nat) (st : List Value) (ws : ai_W) : ai_Run 248 26 [.ref a, l1, l2, l3, l4, l5, l6] st ws = ai_Run 248 27 [.ref a, l1, l2, l3, l4, l5, l6] (.ref a :: st) ws := R_aload_n hc_248 dX11_ranked_26 rfl rfl
theorem r_248_27 (ls st : List Value) (a : Nat) (ws : ai_W) : ai_Run 248 27 ls (.ref a :: st) ws = (ai_fget ws a 11 0).bind fun q => ai_Run 248 30 ls (q :: st) ws := R_getf hc_248 dX11_ranked_27 hv_248 (w := 1024) rfl rfl
theorem r_248_30 (ls st : List Value) (ws : ai_W) : ai_Run 248 30 ls st ws = ai_Run 248 31 ls (.int 0 :: st) ws := R_iconst hc_248 dX11_ranked_30 (by decide) rfl
theorem r_248_31 (ls st : List Value) (a : Nat) (i : Int32) (ws : ai_W) : ai_Run 248 31 ls (.int i :: .ref a :: st) ws = (ai_aget ws a i).bind fun q => ai_Run 248 32 ls (.int q :: st) ws := R_iaload hc_248 dX11_ranked_31 rfl
theorem r_248_32 (l0 l1 l2 l3 l4 l5 l6 : Value) (a : Int32) (st : List Value) (ws : ai_W) : ai_Run 248 32 [l0, l1, l2, l3, l4, l5, l6] (.int a :: st) ws = ai_Run 248 33 [l0, l1, l2, .int a, l4, l5, l6] st ws := R_istore_n hc_248 dX11_ranked_32 (Nat.le_of_ble_eq_true rfl) rfl rfl
theorem r_248_33 (ls st : List Value) (ws : ai_W) : ai_Run 248 33 ls st ws = ai_Run 248 34 ls (.int 0 :: st) ws := R_iconst hc_248 dX11_ranked_33 (by decide) rfl
theorem r_248_34 (l0 l1 l2 l3 l4 l5 l6 : Value) (a : Int32) (st : List Value) (ws : ai_W) : ai_Run 248 34 [l0, l1, l2, l3, l4, l5, l6] (.int a :: st) ws = ai_Run 248 36 [l0, l1, l2, l3, .int a, l5, l6] st ws := R_istore hc_248 dX11_ranked_34 (Nat.le_of_ble_eq_true rfl) rfl rfl
theorem r_248_36 (l0 l1 l2 l3 l5 l6 : Value) (a : Int32) (st : List Value) (ws : ai_W) : ai_Run 248 36 [l0, l1, l2, l3, .int a, l5, l6] st ws = ai_Run 248 38 [l0, l1, l2, l3, .int a, l5, l6] (.int a :: st) ws := R_iload hc_248 dX11_ranked_36 rfl rfl
theorem r_248_38 (l0 l1 l2 l4 l5 l6 : Value) (a : Int32) (st : List Value) (ws : ai_W) : ai_Run 248 38 [l0, l1, l2, .int a, l4, l5, l6] st ws = ai_Run 248 39 [l0, l1, l2, .int a, l4, l5, l6] (.int a :: st) ws := R_iload_n hc_248 dX11_ranked_38 rfl rfl
theorem r_248_39 (ls st : List Value) (a b : Int32) (ws : ai_W) : ai_Run 248 39 ls (.int b :: .int a :: st) ws = if a < b then ai_Run 248 42 ls st ws else ai_Run 248 104 ls st ws := R_cmp_ge hc_248 dX11_ranked_39 rfl rfl
theorem r_248_42 (ls st : List Value) (ws : ai_W) : ai_Run 248 42 ls st ws = ai_Run 248 43 ls (.int 0 :: st) ws := R_iconst hc_248 dX11_ranked_42 (by decide) rfl
theorem r_248_43 (l0 l1 l2 l3 l4 l5 l6 : Value) (a : Int32) (st : List Value) (ws : ai_W) : ai_Run 248 43 [l0, l1, l2, l3, l4, l5, l6] (.int a :: st) ws = ai_Run 248 45 [l0, l1, l2, l3, l4, .int a, l6] st ws := R_istore hc_248 dX11_ranked_43 (Nat.le_of_ble_eq_true rfl) rfl rfl
theorem r_248_45 (ls st : List Value) (ws : ai_W) : ai_Run 248 45 ls st ws = ai_Run 248 46 ls (.int 0 :: st) ws := R_iconst hc_248 dX11_ranked_45 (by decide) rfl
theorem r_248_46 (l0 l1 l2 l3 l4 l5 l6 : Value) (a : Int32) (st : List Value) (ws : ai_W) : ai_Run 248 46 [l0, l1, l2, l3, l4, l5, l6] (.int a :: st) ws = ai_Run 248 48 [l0, l1, l2, l3, l4, l5, .int a] st ws := R_istore hc_248 dX11_ranked_46 (Nat.le_of_ble_eq_true rfl) rfl rfl
theorem r_248_48 (l0 l1 l2 l3 l4 l5 : Value) (a : Int32) (st : List Value) (ws : ai_W) : ai_Run 248 48 [l0, l1, l2, l3, l4, l5, .int a] st ws = ai_Run 248 50 [l0, l1, l2, l3, l4, l5, .int a] (.int a :: st) ws := R_iload hc_248 dX11_ranked_48 rfl rfl
theorem r_248_50 (l0 l1 l2 l4 l5 l6 : Value) (a : Int32) (st : List Value) (ws : ai_W) : ai_Run 248 50 [l0, l1, l2, .int a, l4, l5, l6] st ws = ai_Run 248 51 [l0, l1, l2, .int a, l4, l5, l6] (.int a :: st) ws := R_iload_n hc_248 dX11_ranked_50 rfl rfl
theorem r_248_51 (ls st : List Value) (a b : Int32) (ws : ai_W) : ai_Run 248 51 ls (.int b :: .int a :: st) ws = if a < b then ai_Run 248 54 ls st ws else ai_Run 248 89 ls st ws := R_cmp_ge hc_248 dX11_ranked_51 rfl rfl
theorem r_248_54 (l0 l1 l2 l3 l4 l6 : Value) (a : Int32) (st : List Value) (ws : ai_W) : ai_Run 248 54 [l0, l1, l2, l3, l4, .int a, l6] st ws = ai_Run 248 56 [l0, l1, l2, l3, l4, .int a, l6] (.int a :: st) ws := R_iload hc_248 dX11_ranked_54 rfl rfl
theorem r_248_56 (l0 l1 l2 l3 l4 l5 : Value) (a : Int32) (st : List Value) (ws : ai_W) : ai_Run 248 56 [l0, l1, l2, l3, l4, l5, .int a] st ws = ai_Run 248 58 [l0, l1, l2, l3, l4, l5, .int a] (.int a :: st) ws := R_iload hc_248 dX11_ranked_56 rfl rfl
theorem r_248_58 (l0 l1 l2 l3 l5 l6 : Value) (a : Int32) (st : List Value) (ws : ai_W) : ai_Run 248 58 [l0, l1, l2, l3, .int a, l5, l6] st ws = ai_Run 248 60 [l0, l1, l2, l3, .int a, l5, l6] (.int a :: st) ws := R_iload hc_248 dX11_ranked_58 rfl rfl
theorem r_248_60 (ls st : List Value) (a b : Int32) (ws : ai_W) : ai_Run 248 60 ls (.int b :: .int a :: st) ws = if a = b then ai_Run 248 79 ls st ws else ai_Run 248 63 ls st ws := R_cmp_eq hc_248 dX11_ranked_60 rfl rfl
theorem r_248_63 (l1 l2 l3 l4 l5 l6 : Value) (a : Nat) (st : List Value) (ws : ai_W) : ai_Run 248 63 [.ref a, l1, l2, l3, l4, l5, l6] st ws = ai_Run 248 64 [.ref a, l1, l2, l3, l4, l5, l6] (.ref a :: st) ws := R_aload_n hc_248 dX11_ranked_63 rfl rfl
theorem r_248_64 (l0 l2 l3 l4 l5 l6 : Value) (a : Int32) (st : List Value) (ws : ai_W) : ai_Run 248 64 [l0, .int a, l2, l3, l4, l5, l6] st ws = ai_Run 248 65 [l0, .int a, l2, l3, l4, l5, l6] (.int a :: st) ws := R_iload_n hc_248 dX11_ranked_64 rfl rfl
theorem r_248_65 (l0 l1 l2 l3 l4 l5 : Value) (a : Int32) (st : List Value) (ws : ai_W) : ai_Run 248 65 [l0, l1, l2, l3, l4, l5, .int a] st ws = ai_Run 248 67 [l0, l1, l2, l3, l4, l5, .int a] (.int a :: st) ws := R_iload hc_248 dX11_ranked_65 rfl rfl
theorem r_248_67 (l0 l1 l2 l3 l5 l6 : Value) (a : Int32) (st : List Value) (ws : ai_W) : ai_Run 248 67 [l0, l1, l2, l3, .int a, l5, l6] st ws = ai_Run 248 69 [l0, l1, l2, l3, .int a, l5, l6] (.int a :: st) ws := R_iload hc_248 dX11_ranked_67 rfl rfl
theorem r_248_69 (ls : List Value) (r : Nat) (b0 : Int32) (b1 : Int32) (b2 : Int32) (s0 : Value) (ws : ai_W) : ai_Run 248 69 ls [.int b2, .int b1, .int b0, .ref r, s0] ws = (ai_Call 232 [.ref r, .int b0, .int b1, .int b2] ws).bind fun q => ai_Run 248 72 ls (q.1.toList ++ [s0]) q.2 := R_callV hc_248 dX11_ranked_69 hv_248 (w := 1362) rfl (Nat.le_of_ble_eq_true rfl) hk_232 (by rw [hn_232]; rfl) rfl (Nat.le_of_ble_eq_true rfl) rfl
theorem r_248_72 (ls st : List Value) (a : Int32) (ws : ai_W) : ai_Run 248 72 ls (.int a :: st) ws = if a = 0 then ai_Run 248 79 ls st ws else ai_Run 248 75 ls st ws := R_if_eq hc_248 dX11_ranked_72 rfl rfl
theorem r_248_75 (ls st : List Value) (ws : ai_W) : ai_Run 248 75 ls st ws = ai_Run 248 76 ls (.int 1 :: st) ws := R_iconst hc_248 dX11_ranked_75 (by decide) rfl
theorem r_248_76 (ls st : List Value) (ws : ai_W) : ai_Run 248 76 ls st ws = ai_Run 248 80 ls st ws := R_goto hc_248 dX11_ranked_76 rfl
theorem r_248_79 (ls st : List Value) (ws : ai_W) : ai_Run 248 79 ls st ws = ai_Run 248 80 ls (.int 0 :: st) ws := R_iconst hc_248 dX11_ranked_79 (by decide) rfl
theorem r_248_80 (ls st : List Value) (a b : Int32) (ws : ai_W) : ai_Run 248 80 ls (.int b :: .int a :: st) ws = ai_Run 248 81 ls (.int (a + b) :: st) ws := R_iadd hc_248 dX11_ranked_80 rfl
theorem r_248_81 (l0 l1 l2 l3 l4 l5 l6 : Value) (a : Int32) (st : List Value) (ws : ai_W) : ai_Run 248 81 [l0, l1, l2, l3, l4, l5, l6] (.int a :: st) ws = ai_Run 248 83 [l0, l1, l2, l3, l4, .int a, l6] st ws := R_istore hc_248 dX11_ranked_81 (Nat.le_of_ble_eq_true rfl) rfl rfl
theorem r_248_83 (l0 l1 l2 l3 l4 l5 : Value) (a : Int32) (st : List Value) (ws : ai_W) : ai_Run 248 83 [l0, l1, l2, l3, l4, l5, .int a] st ws = ai_Run 248 86 [l0, l1, l2, l3, l4, l5, .int (a + 1)] st ws := R_iinc hc_248 dX11_ranked_83 rfl (by decide) rfl rfl
theorem r_248_86 (ls st : List Value) (ws : ai_W) : ai_Run 248 86 ls st ws = ai_Run 248 48 ls st ws := R_goto hc_248 dX11_ranked_86 rfl
theorem r_248_89 (l0 l1 l2 l3 l4 l6 : Value) (a : Int32) (st : List Value) (ws : ai_W) : ai_Run 248 89 [l0, l1, l2, l3, l4, .int a, l6] st ws = ai_Run 248 91 [l0, l1, l2, l3, l4, .int a, l6] (.int a :: st) ws := R_iload hc_248 dX11_ranked_89 rfl rfl
theorem r_248_91 (l0 l1 l3 l4 l5 l6 : Value) (a : Int32) (st : List Value) (ws : ai_W) : ai_Run 248 91 [l0, l1, .int a, l3, l4, l5, l6] st ws = ai_Run 248 92 [l0, l1, .int a, l3, l4, l5, l6] (.int a :: st) ws := R_iload_n hc_248 dX11_ranked_91 rfl rfl
theorem r_248_92 (ls st : List Value) (a b : Int32) (ws : ai_W) : ai_Run 248 92 ls (.int b :: .int a :: st) ws = if a = b then ai_Run 248 95 ls st ws else ai_Run 248 98 ls st ws := R_cmp_ne hc_248 dX11_ranked_92 rfl rfl
theorem r_248_95 (l0 l1 l2 l3 l5 l6 : Value) (a : Int32) (st : List Value) (ws : ai_W) : ai_Run 248 95 [l0, l1, l2, l3, .int a, l5, l6] st ws = ai_Run 248 97 [l0, l1, l2, l3, .int a, l5, l6] (.int a :: st) ws := R_iload hc_248 dX11_ranked_95 rfl rfl
theorem r_248_97 (ls : List Value) (x : Int32) (ws : ai_W) : ai_Run 248 97 ls [.int x] ws = some (some (.int x), ws) := R_iret hc_248 dX11_ranked_97 ht_248
theorem r_248_98 (l0 l1 l2 l3 l5 l6 : Value) (a : Int32) (st : List Value) (ws : ai_W) : ai_Run 248 98 [l0, l1, l2, l3, .int a, l5, l6] st ws = ai_Run 248 101 [l0, l1, l2, l3, .int (a + 1), l5, l6] st ws := R_iinc hc_248 dX11_ranked_98 rfl (by decide) rfl rfl
theorem r_248_101 (ls st : List Value) (ws : ai_W) : ai_Run 248 101 ls st ws = ai_Run 248 36 ls st ws := R_goto hc_248 dX11_ranked_101 rfl
theorem r_248_104 (ls st : List Value) (ws : ai_W) : ai_Run 248 104 ls st ws = ai_Run 248 105 ls (.int (-1) :: st) ws := R_iconst hc_248 dX11_ranked_104 (by decide) rfl
theorem r_248_105 (ls : List Value) (x : Int32) (ws : ai_W) : ai_Run 248 105 ls [.int x] ws = some (some (.int x), ws) := R_iret hc_248 dX11_ranked_105 ht_248
theorem dX11_read_0 : decode cX11_read 0 = .ok (.aload_n 0, 1) := by decide +kernel
theorem dX11_read_1 : decode cX11_read 1 = .ok (.invokevirtual 256, 3) := by decide +kernel
theorem dX11_read_4 : decode cX11_read 4 = .ok (.istore_n 1, 1) := by decide +kernel
theorem dX11_read_5 : decode cX11_read 5 = .ok (.aload_n 0, 1) := by decide +kernel
theorem dX11_read_6 : decode cX11_read 6 = .ok (.iconst 0, 1) := by decide +kernel
theorem dX11_read_7 : decode cX11_read 7 = .ok (.putfield 225, 3) := by decide +kernel
theorem dX11_read_10 : decode cX11_read 10 = .ok (.iload_n 1, 1) := by decide +kernel
theorem dX11_read_11 : decode cX11_read 11 = .ok (.ifCond .ne 11, 3) := by decide +kernel
theorem dX11_read_14 : decode cX11_read 14 = .ok (.bipush (-100), 2) := by decide +kernel
theorem dX11_read_16 : decode cX11_read 16 = .ok (.aload_n 0, 1) := by decide +kernel
theorem dX11_read_17 : decode cX11_read 17 = .ok (.getfield 228, 3) := by decide +kernel
theorem dX11_read_20 : decode cX11_read 20 = .ok (.isub, 1) := by decide +kernel
theorem dX11_read_21 : decode cX11_read 21 = .ok (.ireturn, 1) := by decide +kernel
theorem dX11_read_22 : decode cX11_read 22 = .ok (.aload_n 0, 1) := by decide +kernel
theorem dX11_read_23 : decode cX11_read 23 = .ok (.invokevirtual 78, 3) := by decide +kernel
theorem dX11_read_26 : decode cX11_read 26 = .ok (.iconst 0, 1) := by decide +kernel
theorem dX11_read_27 : decode cX11_read 27 = .ok (.istore_n 2, 1) := by decide +kernel
theorem dX11_read_28 : decode cX11_read 28 = .ok (.iload_n 2, 1) := by decide +kernel
theorem dX11_read_29 : decode cX11_read 29 = .ok (.aload_n 0, 1) := by decide +kernel
theorem dX11_read_30 : decode cX11_read 30 = .ok (.getfield 240, 3) := by decide +kernel
theorem dX11_read_33 : decode cX11_read 33 = .ok (.if_icmp .ge 69, 3) := by decide +kernel
theorem dX11_read_36 : decode cX11_read 36 = .ok (.aload_n 0, 1) := by decide +kernel
theorem dX11_read_37 : decode cX11_read 37 = .ok (.iconst 4, 1) := by decide +kernel
theorem dX11_read_38 : decode cX11_read 38 = .ok (.iload_n 2, 1) := by decide +kernel
theorem dX11_read_39 : decode cX11_read 39 = .ok (.imul, 1) := by decide +kernel
theorem dX11_read_40 : decode cX11_read 40 = .ok (.invokevirtual 259, 3) := by decide +kernel
theorem dX11_read_43 : decode cX11_read 43 = .ok (.istore_n 3, 1) := by decide +kernel
theorem dX11_read_44 : decode cX11_read 44 = .ok (.iload_n 3, 1) := by decide +kernel
theorem dX11_read_45 : decode cX11_read 45 = .ok (.invokestatic 42, 3) := by decide +kernel
theorem dX11_read_48 : decode cX11_read 48 = .ok (.ifCond .eq 48, 3) := by decide +kernel
theorem dX11_read_51 : decode cX11_read 51 = .ok (.aload_n 0, 1) := by decide +kernel
theorem dX11_read_52 : decode cX11_read 52 = .ok (.iload_n 3, 1) := by decide +kernel
theorem dX11_read_53 : decode cX11_read 53 = .ok (.bipush (-3), 2) := by decide +kernel
theorem dX11_read_55 : decode cX11_read 55 = .ok (.if_icmp .ne 7, 3) := by decide +kernel
theorem dX11_read_58 : decode cX11_read 58 = .ok (.iload_n 2, 1) := by decide +kernel
theorem dX11_read_59 : decode cX11_read 59 = .ok (.goto 7, 3) := by decide +kernel
theorem dX11_read_62 : decode cX11_read 62 = .ok (.aload_n 0, 1) := by decide +kernel
theorem dX11_read_63 : decode cX11_read 63 = .ok (.getfield 22, 3) := by decide +kernel
theorem dX11_read_66 : decode cX11_read 66 = .ok (.putfield 22, 3) := by decide +kernel
theorem dX11_read_69 : decode cX11_read 69 = .ok (.aload_n 0, 1) := by decide +kernel
theorem dX11_read_70 : decode cX11_read 70 = .ok (.getfield 13, 3) := by decide +kernel
theorem dX11_read_73 : decode cX11_read 73 = .ok (.iconst 0, 1) := by decide +kernel
theorem dX11_read_74 : decode cX11_read 74 = .ok (.aload_n 0, 1) := by decide +kernel
theorem dX11_read_75 : decode cX11_read 75 = .ok (.getfield 9, 3) := by decide +kernel
theorem dX11_read_78 : decode cX11_read 78 = .ok (.iconst 0, 1) := by decide +kernel
theorem dX11_read_79 : decode cX11_read 79 = .ok (.invokestatic 35, 3) := by decide +kernel
theorem dX11_read_82 : decode cX11_read 82 = .ok (.iload_n 3, 1) := by decide +kernel
theorem dX11_read_83 : decode cX11_read 83 = .ok (.bipush (-3), 2) := by decide +kernel
theorem dX11_read_85 : decode cX11_read 85 = .ok (.if_icmp .ne 8, 3) := by decide +kernel
theorem dX11_read_88 : decode cX11_read 88 = .ok (.bipush (-3), 2) := by decide +kernel
theorem dX11_read_90 : decode cX11_read 90 = .ok (.goto 5, 3) := by decide +kernel
theorem dX11_read_93 : decode cX11_read 93 = .ok (.bipush (-2), 2) := by decide +kernel
theorem dX11_read_95 : decode cX11_read 95 = .ok (.ireturn, 1) := by decide +kernel
theorem dX11_read_96 : decode cX11_read 96 = .ok (.iinc 2 1, 3) := by decide +kernel
theorem dX11_read_99 : decode cX11_read 99 = .ok (.goto (-71), 3) := by decide +kernel
theorem dX11_read_102 : decode cX11_read 102 = .ok (.aload_n 0, 1) := by decide +kernel
theorem dX11_read_103 : decode cX11_read 103 = .ok (.aload_n 0, 1) := by decide +kernel
theorem dX11_read_104 : decode cX11_read 104 = .ok (.getfield 240, 3) := by decide +kernel
theorem dX11_read_107 : decode cX11_read 107 = .ok (.invokevirtual 85, 3) := by decide +kernel
theorem dX11_read_110 : decode cX11_read 110 = .ok (.ireturn, 1) := by decide +kernel
theorem e_249 (r : Nat)  (ws : ai_W) : ai_Call 249 [.ref r] ws = if ai_isob ws r 11 = true then ai_Run 249 0 [.ref r, .null, .null, .null] [] ws else none := R_entV hk_249 ⟨⟨rfl, rfl⟩, Nat.le_of_ble_eq_true rfl⟩ rfl
theorem r_249_0 (l1 l2 l3 : Value) (a : Nat) (st : List Value) (ws : ai_W) : ai_Run 249 0 [.ref a, l1, l2, l3] st ws = ai_Run 249 1 [.ref a, l1, l2, l3] (.ref a :: st) ws := R_aload_n hc_249 dX11_read_0 rfl rfl
theorem r_249_1 (ls : List Value) (r : Nat) (ws : ai_W) : ai_Run 249 1 ls [.ref r] ws = (ai_Call 240 [.ref r] ws).bind fun q => ai_Run 249 4 ls (q.1.toList ++ []) q.2 := R_callV hc_249 dX11_read_1 hv_249 (w := 1398) rfl (Nat.le_of_ble_eq_true rfl) hk_240 (by rw [hn_240]; rfl) rfl (Nat.le_of_ble_eq_true rfl) rfl
theorem r_249_4 (l0 l1 l2 l3 : Value) (a : Int32) (st : List Value) (ws : ai_W) : ai_Run 249 4 [l0, l1, l2, l3] (.int a :: st) ws = ai_Run 249 5 [l0, .int a, l2, l3] st ws := R_istore_n hc_249 dX11_read_4 (Nat.le_of_ble_eq_true rfl) rfl rfl
theorem r_249_5 (l1 l2 l3 : Value) (a : Nat) (st : List Value) (ws : ai_W) : ai_Run 249 5 [.ref a, l1, l2, l3] st ws = ai_Run 249 6 [.ref a, l1, l2, l3] (.ref a :: st) ws := R_aload_n hc_249 dX11_read_5 rfl rfl
theorem r_249_6 (ls st : List Value) (ws : ai_W) : ai_Run 249 6 ls st ws = ai_Run 249 7 ls (.int 0 :: st) ws := R_iconst hc_249 dX11_read_6 (by decide) rfl
theorem r_249_7 (ls st : List Value) (a : Nat) (x : Value) (ws : ai_W) : ai_Run 249 7 ls (x :: .ref a :: st) ws = (ai_fput ws a 11 13 x).bind fun ws => ai_Run 249 10 ls st ws := R_putf hc_249 dX11_read_7 hv_249 (w := 1037) rfl rfl rfl
theorem r_249_10 (l0 l2 l3 : Value) (a : Int32) (st : List Value) (ws : ai_W) : ai_Run 249 10 [l0, .int a, l2, l3] st ws = ai_Run 249 11 [l0, .int a, l2, l3] (.int a :: st) ws := R_iload_n hc_249 dX11_read_10 rfl rfl
theorem r_249_11 (ls st : List Value) (a : Int32) (ws : ai_W) : ai_Run 249 11 ls (.int a :: st) ws = if a = 0 then ai_Run 249 14 ls st ws else ai_Run 249 22 ls st ws := R_if_ne hc_249 dX11_read_11 rfl rfl
theorem r_249_14 (ls st : List Value) (ws : ai_W) : ai_Run 249 14 ls st ws = ai_Run 249 16 ls (.int (-100) :: st) ws := R_bipush hc_249 dX11_read_14 (by decide) rfl
theorem r_249_16 (l1 l2 l3 : Value) (a : Nat) (st : List Value) (ws : ai_W) : ai_Run 249 16 [.ref a, l1, l2, l3] st ws = ai_Run 249 17 [.ref a, l1, l2, l3] (.ref a :: st) ws := R_aload_n hc_249 dX11_read_16 rfl rfl
theorem r_249_17 (ls st : List Value) (a : Nat) (ws : ai_W) : ai_Run 249 17 ls (.ref a :: st) ws = (ai_fget ws a 11 14).bind fun q => ai_Run 249 20 ls (q :: st) ws := R_getf hc_249 dX11_read_17 hv_249 (w := 1038) rfl rfl
theorem r_249_20 (ls st : List Value) (a b : Int32) (ws : ai_W) : ai_Run 249 20 ls (.int b :: .int a :: st) ws = ai_Run 249 21 ls (.int (a - b) :: st) ws := R_isub hc_249 dX11_read_20 rfl
theorem r_249_21 (ls : List Value) (x : Int32) (ws : ai_W) : ai_Run 249 21 ls [.int x] ws = some (some (.int x), ws) := R_iret hc_249 dX11_read_21 ht_249
theorem r_249_22 (l1 l2 l3 : Value) (a : Nat) (st : List Value) (ws : ai_W) : ai_Run 249 22 [.ref a, l1, l2, l3] st ws = ai_Run 249 23 [.ref a, l1, l2, l3] (.ref a :: st) ws := R_aload_n hc_249 dX11_read_22 rfl rfl
theorem r_249_23 (ls : List Value) (r : Nat) (ws : ai_W) : ai_Run 249 23 ls [.ref r] ws = (ai_Call 182 [.ref r] ws).bind fun q => ai_Run 249 26 ls (q.1.toList ++ []) q.2 := R_callV hc_249 dX11_read_23 hv_249 (w := 1077) rfl (Nat.le_of_ble_eq_true rfl) hk_182 (by rw [hn_182]; rfl) rfl (Nat.le_of_ble_eq_true rfl) rfl
theorem r_249_26 (ls st : List Value) (ws : ai_W) : ai_Run 249 26 ls st ws = ai_Run 249 27 ls (.int 0 :: st) ws := R_iconst hc_249 dX11_read_26 (by decide) rfl
theorem r_249_27 (l0 l1 l2 l3 : Value) (a : Int32) (st : List Value) (ws : ai_W) : ai_Run 249 27 [l0, l1, l2, l3] (.int a :: st) ws = ai_Run 249 28 [l0, l1, .int a, l3] st ws := R_istore_n hc_249 dX11_read_27 (Nat.le_of_ble_eq_true rfl) rfl rfl
theorem r_249_28 (l0 l1 l3 : Value) (a : Int32) (st : List Value) (ws : ai_W) : ai_Run 249 28 [l0, l1, .int a, l3] st ws = ai_Run 249 29 [l0, l1, .int a, l3] (.int a :: st) ws := R_iload_n hc_249 dX11_read_28 rfl rfl
theorem r_249_29 (l1 l2 l3 : Value) (a : Nat) (st : List Value) (ws : ai_W) : ai_Run 249 29 [.ref a, l1, l2, l3] st ws = ai_Run 249 30 [.ref a, l1, l2, l3] (.ref a :: st) ws := R_aload_n hc_249 dX11_read_29 rfl rfl
theorem r_249_30 (ls st : List Value) (a : Nat) (ws : ai_W) : ai_Run 249 30 ls (.ref a :: st) ws = (ai_fget ws a 11 15).bind fun q => ai_Run 249 33 ls (q :: st) ws := R_getf hc_249 dX11_read_30 hv_249 (w := 1039) rfl rfl
theorem r_249_33 (ls st : List Value) (a b : Int32) (ws : ai_W) : ai_Run 249 33 ls (.int b :: .int a :: st) ws = if a < b then ai_Run 249 36 ls st ws else ai_Run 249 102 ls st ws := R_cmp_ge hc_249 dX11_read_33 rfl rfl
theorem r_249_36 (l1 l2 l3 : Value) (a : Nat) (st : List Value) (ws : ai_W) : ai_Run 249 36 [.ref a, l1, l2, l3] st ws = ai_Run 249 37 [.ref a, l1, l2, l3] (.ref a :: st) ws := R_aload_n hc_249 dX11_read_36 rfl rfl
theorem r_249_37 (ls st : List Value) (ws : ai_W) : ai_Run 249 37 ls st ws = ai_Run 249 38 ls (.int 4 :: st) ws := R_iconst hc_249 dX11_read_37 (by decide) rfl
theorem r_249_38 (l0 l1 l3 : Value) (a : Int32) (st : List Value) (ws : ai_W) : ai_Run 249 38 [l0, l1, .int a, l3] st ws = ai_Run 249 39 [l0, l1, .int a, l3] (.int a :: st) ws := R_iload_n hc_249 dX11_read_38 rfl rfl
theorem r_249_39 (ls st : List Value) (a b : Int32) (ws : ai_W) : ai_Run 249 39 ls (.int b :: .int a :: st) ws = ai_Run 249 40 ls (.int (a * b) :: st) ws := R_imul hc_249 dX11_read_39 rfl
theorem r_249_40 (ls : List Value) (r : Nat) (b0 : Int32) (ws : ai_W) : ai_Run 249 40 ls [.int b0, .ref r] ws = (ai_Call 230 [.ref r, .int b0] ws).bind fun q => ai_Run 249 43 ls (q.1.toList ++ []) q.2 := R_callV hc_249 dX11_read_40 hv_249 (w := 1429) rfl (Nat.le_of_ble_eq_true rfl) hk_230 (by rw [hn_230]; rfl) rfl (Nat.le_of_ble_eq_true rfl) rfl
theorem r_249_43 (l0 l1 l2 l3 : Value) (a : Int32) (st : List Value) (ws : ai_W) : ai_Run 249 43 [l0, l1, l2, l3] (.int a :: st) ws = ai_Run 249 44 [l0, l1, l2, .int a] st ws := R_istore_n hc_249 dX11_read_43 (Nat.le_of_ble_eq_true rfl) rfl rfl
theorem r_249_44 (l0 l1 l2 : Value) (a : Int32) (st : List Value) (ws : ai_W) : ai_Run 249 44 [l0, l1, l2, .int a] st ws = ai_Run 249 45 [l0, l1, l2, .int a] (.int a :: st) ws := R_iload_n hc_249 dX11_read_44 rfl rfl
theorem r_249_45 (ls : List Value) (b0 : Int32) (ws : ai_W) : ai_Run 249 45 ls [.int b0] ws = (ai_Call 185 [.int b0] ws).bind fun q => ai_Run 249 48 ls (q.1.toList ++ []) q.2 := R_callS hc_249 dX11_read_45 hv_249 (w := 1100) rfl (Nat.le_of_ble_eq_true rfl) hk_185 (by rw [hn_185]; rfl) rfl (Nat.le_of_ble_eq_true rfl) rfl
theorem r_249_48 (ls st : List Value) (a : Int32) (ws : ai_W) : ai_Run 249 48 ls (.int a :: st) ws = if a = 0 then ai_Run 249 96 ls st ws else ai_Run 249 51 ls st ws := R_if_eq hc_249 dX11_read_48 rfl rfl
theorem r_249_51 (l1 l2 l3 : Value) (a : Nat) (st : List Value) (ws : ai_W) : ai_Run 249 51 [.ref a, l1, l2, l3] st ws = ai_Run 249 52 [.ref a, l1, l2, l3] (.ref a :: st) ws := R_aload_n hc_249 dX11_read_51 rfl rfl
theorem r_249_52 (l0 l1 l2 : Value) (a : Int32) (st : List Value) (ws : ai_W) : ai_Run 249 52 [l0, l1, l2, .int a] st ws = ai_Run 249 53 [l0, l1, l2, .int a] (.int a :: st) ws := R_iload_n hc_249 dX11_read_52 rfl rfl
theorem r_249_53 (ls st : List Value) (ws : ai_W) : ai_Run 249 53 ls st ws = ai_Run 249 55 ls (.int (-3) :: st) ws := R_bipush hc_249 dX11_read_53 (by decide) rfl
theorem r_249_55 (ls st : List Value) (a b : Int32) (ws : ai_W) : ai_Run 249 55 ls (.int b :: .int a :: st) ws = if a = b then ai_Run 249 58 ls st ws else ai_Run 249 62 ls st ws := R_cmp_ne hc_249 dX11_read_55 rfl rfl
theorem r_249_58 (l0 l1 l3 : Value) (a : Int32) (st : List Value) (ws : ai_W) : ai_Run 249 58 [l0, l1, .int a, l3] st ws = ai_Run 249 59 [l0, l1, .int a, l3] (.int a :: st) ws := R_iload_n hc_249 dX11_read_58 rfl rfl
theorem r_249_59 (ls st : List Value) (ws : ai_W) : ai_Run 249 59 ls st ws = ai_Run 249 66 ls st ws := R_goto hc_249 dX11_read_59 rfl
theorem r_249_62 (l1 l2 l3 : Value) (a : Nat) (st : List Value) (ws : ai_W) : ai_Run 249 62 [.ref a, l1, l2, l3] st ws = ai_Run 249 63 [.ref a, l1, l2, l3] (.ref a :: st) ws := R_aload_n hc_249 dX11_read_62 rfl rfl
theorem r_249_63 (ls st : List Value) (a : Nat) (ws : ai_W) : ai_Run 249 63 ls (.ref a :: st) ws = (ai_fget ws a 11 7).bind fun q => ai_Run 249 66 ls (q :: st) ws := R_getf hc_249 dX11_read_63 hv_249 (w := 1031) rfl rfl
theorem r_249_66 (ls st : List Value) (a : Nat) (x : Value) (ws : ai_W) : ai_Run 249 66 ls (x :: .ref a :: st) ws = (ai_fput ws a 11 7 x).bind fun ws => ai_Run 249 69 ls st ws := R_putf hc_249 dX11_read_66 hv_249 (w := 1031) rfl rfl rfl
theorem r_249_69 (l1 l2 l3 : Value) (a : Nat) (st : List Value) (ws : ai_W) : ai_Run 249 69 [.ref a, l1, l2, l3] st ws = ai_Run 249 70 [.ref a, l1, l2, l3] (.ref a :: st) ws := R_aload_n hc_249 dX11_read_69 rfl rfl
theorem r_249_70 (ls st : List Value) (a : Nat) (ws : ai_W) : ai_Run 249 70 ls (.ref a :: st) ws = (ai_fget ws a 11 1).bind fun q => ai_Run 249 73 ls (q :: st) ws := R_getf hc_249 dX11_read_70 hv_249 (w := 1025) rfl rfl
theorem r_249_73 (ls st : List Value) (ws : ai_W) : ai_Run 249 73 ls st ws = ai_Run 249 74 ls (.int 0 :: st) ws := R_iconst hc_249 dX11_read_73 (by decide) rfl
theorem r_249_74 (l1 l2 l3 : Value) (a : Nat) (st : List Value) (ws : ai_W) : ai_Run 249 74 [.ref a, l1, l2, l3] st ws = ai_Run 249 75 [.ref a, l1, l2, l3] (.ref a :: st) ws := R_aload_n hc_249 dX11_read_74 rfl rfl
theorem r_249_75 (ls st : List Value) (a : Nat) (ws : ai_W) : ai_Run 249 75 ls (.ref a :: st) ws = (ai_fget ws a 11 0).bind fun q => ai_Run 249 78 ls (q :: st) ws := R_getf hc_249 dX11_read_75 hv_249 (w := 1024) rfl rfl
theorem r_249_78 (ls st : List Value) (ws : ai_W) : ai_Run 249 78 ls st ws = ai_Run 249 79 ls (.int 0 :: st) ws := R_iconst hc_249 dX11_read_78 (by decide) rfl
theorem r_249_79 (ls : List Value) (b0 : Nat) (b1 : Int32) (b2 : Nat) (b3 : Int32) (ws : ai_W) : ai_Run 249 79 ls [.int b3, .ref b2, .int b1, .ref b0] ws = (ai_Call 181 [.ref b0, .int b1, .ref b2, .int b3] ws).bind fun q => ai_Run 249 82 ls (q.1.toList ++ []) q.2 := R_callS hc_249 dX11_read_79 hv_249 (w := 1081) rfl (Nat.le_of_ble_eq_true rfl) hk_181 (by rw [hn_181]; rfl) rfl (Nat.le_of_ble_eq_true rfl) rfl
theorem r_249_82 (l0 l1 l2 : Value) (a : Int32) (st : List Value) (ws : ai_W) : ai_Run 249 82 [l0, l1, l2, .int a] st ws = ai_Run 249 83 [l0, l1, l2, .int a] (.int a :: st) ws := R_iload_n hc_249 dX11_read_82 rfl rfl
theorem r_249_83 (ls st : List Value) (ws : ai_W) : ai_Run 249 83 ls st ws = ai_Run 249 85 ls (.int (-3) :: st) ws := R_bipush hc_249 dX11_read_83 (by decide) rfl
theorem r_249_85 (ls st : List Value) (a b : Int32) (ws : ai_W) : ai_Run 249 85 ls (.int b :: .int a :: st) ws = if a = b then ai_Run 249 88 ls st ws else ai_Run 249 93 ls st ws := R_cmp_ne hc_249 dX11_read_85 rfl rfl
theorem r_249_88 (ls st : List Value) (ws : ai_W) : ai_Run 249 88 ls st ws = ai_Run 249 90 ls (.int (-3) :: st) ws := R_bipush hc_249 dX11_read_88 (by decide) rfl
theorem r_249_90 (ls st : List Value) (ws : ai_W) : ai_Run 249 90 ls st ws = ai_Run 249 95 ls st ws := R_goto hc_249 dX11_read_90 rfl
theorem r_249_93 (ls st : List Value) (ws : ai_W) : ai_Run 249 93 ls st ws = ai_Run 249 95 ls (.int (-2) :: st) ws := R_bipush hc_249 dX11_read_93 (by decide) rfl
theorem r_249_95 (ls : List Value) (x : Int32) (ws : ai_W) : ai_Run 249 95 ls [.int x] ws = some (some (.int x), ws) := R_iret hc_249 dX11_read_95 ht_249
theorem r_249_96 (l0 l1 l3 : Value) (a : Int32) (st : List Value) (ws : ai_W) : ai_Run 249 96 [l0, l1, .int a, l3] st ws = ai_Run 249 99 [l0, l1, .int (a + 1), l3] st ws := R_iinc hc_249 dX11_read_96 rfl (by decide) rfl rfl
theorem r_249_99 (ls st : List Value) (ws : ai_W) : ai_Run 249 99 ls st ws = ai_Run 249 28 ls st ws := R_goto hc_249 dX11_read_99 rfl
theorem r_249_102 (l1 l2 l3 : Value) (a : Nat) (st : List Value) (ws : ai_W) : ai_Run 249 102 [.ref a, l1, l2, l3] st ws = ai_Run 249 103 [.ref a, l1, l2, l3] (.ref a :: st) ws := R_aload_n hc_249 dX11_read_102 rfl rfl
theorem r_249_103 (l1 l2 l3 : Value) (a : Nat) (st : List Value) (ws : ai_W) : ai_Run 249 103 [.ref a, l1, l2, l3] st ws = ai_Run 249 104 [.ref a, l1, l2, l3] (.ref a :: st) ws := R_aload_n hc_249 dX11_read_103 rfl rfl
theorem r_249_104 (ls st : List Value) (a : Nat) (ws : ai_W) : ai_Run 249 104 ls (.ref a :: st) ws = (ai_fget ws a 11 15).bind fun q => ai_Run 249 107 ls (q :: st) ws := R_getf hc_249 dX11_read_104 hv_249 (w := 1039) rfl rfl
theorem r_249_107 (ls : List Value) (r : Nat) (b0 : Int32) (ws : ai_W) : ai_Run 249 107 ls [.int b0, .ref r] ws = (ai_Call 187 [.ref r, .int b0] ws).bind fun q => ai_Run 249 110 ls (q.1.toList ++ []) q.2 := R_callV hc_249 dX11_read_107 hv_249 (w := 1096) rfl (Nat.le_of_ble_eq_true rfl) hk_187 (by rw [hn_187]; rfl) rfl (Nat.le_of_ble_eq_true rfl) rfl
theorem r_249_110 (ls : List Value) (x : Int32) (ws : ai_W) : ai_Run 249 110 ls [.int x] ws = some (some (.int x), ws) := R_iret hc_249 dX11_read_110 ht_249
theorem dX11_refusal_0 : decode cX11_refusal 0 = .ok (.iload_n 1, 1) := by decide +kernel
theorem dX11_refusal_1 : decode cX11_refusal 1 = .ok (.iconst 0, 1) := by decide +kernel
theorem dX11_refusal_2 : decode cX11_refusal 2 = .ok (.iconst 2, 1) := by decide +kernel
theorem dX11_refusal_3 : decode cX11_refusal 3 = .ok (.invokestatic 55, 3) := by decide +kernel
theorem dX11_refusal_6 : decode cX11_refusal 6 = .ok (.ifCond .ne 6, 3) := by decide +kernel
theorem dX11_refusal_9 : decode cX11_refusal 9 = .ok (.bipush (-2), 2) := by decide +kernel
theorem dX11_refusal_11 : decode cX11_refusal 11 = .ok (.ireturn, 1) := by decide +kernel
theorem dX11_refusal_12 : decode cX11_refusal 12 = .ok (.aload_n 0, 1) := by decide +kernel
theorem dX11_refusal_13 : decode cX11_refusal 13 = .ok (.getfield 49, 3) := by decide +kernel
theorem dX11_refusal_16 : decode cX11_refusal 16 = .ok (.ifCond .ne 8, 3) := by decide +kernel
theorem dX11_refusal_19 : decode cX11_refusal 19 = .ok (.bipush (-4), 2) := by decide +kernel
theorem dX11_refusal_21 : decode cX11_refusal 21 = .ok (.goto 30, 3) := by decide +kernel
theorem dX11_refusal_24 : decode cX11_refusal 24 = .ok (.iload_n 1, 1) := by decide +kernel
theorem dX11_refusal_25 : decode cX11_refusal 25 = .ok (.ifCond .ne 10, 3) := by decide +kernel
theorem dX11_refusal_28 : decode cX11_refusal 28 = .ok (.aload_n 0, 1) := by decide +kernel
theorem dX11_refusal_29 : decode cX11_refusal 29 = .ok (.getfield 49, 3) := by decide +kernel
theorem dX11_refusal_32 : decode cX11_refusal 32 = .ok (.goto 19, 3) := by decide +kernel
theorem dX11_refusal_35 : decode cX11_refusal 35 = .ok (.iload_n 1, 1) := by decide +kernel
theorem dX11_refusal_36 : decode cX11_refusal 36 = .ok (.iconst 1, 1) := by decide +kernel
theorem dX11_refusal_37 : decode cX11_refusal 37 = .ok (.if_icmp .ne 10, 3) := by decide +kernel
theorem dX11_refusal_40 : decode cX11_refusal 40 = .ok (.aload_n 0, 1) := by decide +kernel
theorem dX11_refusal_41 : decode cX11_refusal 41 = .ok (.getfield 52, 3) := by decide +kernel
theorem dX11_refusal_44 : decode cX11_refusal 44 = .ok (.goto 7, 3) := by decide +kernel
theorem dX11_refusal_47 : decode cX11_refusal 47 = .ok (.aload_n 0, 1) := by decide +kernel
theorem dX11_refusal_48 : decode cX11_refusal 48 = .ok (.getfield 22, 3) := by decide +kernel
theorem dX11_refusal_51 : decode cX11_refusal 51 = .ok (.ireturn, 1) := by decide +kernel
theorem e_250 (r : Nat) (a0 : Int32) (ws : ai_W) : ai_Call 250 [.ref r, .int a0] ws = if ai_isob ws r 11 = true then ai_Run 250 0 [.ref r, .int a0] [] ws else none := R_entV hk_250 ⟨⟨rfl, rfl⟩, Nat.le_of_ble_eq_true rfl⟩ rfl
theorem r_250_0 (l0 : Value) (a : Int32) (st : List Value) (ws : ai_W) : ai_Run 250 0 [l0, .int a] st ws = ai_Run 250 1 [l0, .int a] (.int a :: st) ws := R_iload_n hc_250 dX11_refusal_0 rfl rfl
theorem r_250_1 (ls st : List Value) (ws : ai_W) : ai_Run 250 1 ls st ws = ai_Run 250 2 ls (.int 0 :: st) ws := R_iconst hc_250 dX11_refusal_1 (by decide) rfl
theorem r_250_2 (ls st : List Value) (ws : ai_W) : ai_Run 250 2 ls st ws = ai_Run 250 3 ls (.int 2 :: st) ws := R_iconst hc_250 dX11_refusal_2 (by decide) rfl
theorem r_250_3 (ls : List Value) (b0 : Int32) (b1 : Int32) (b2 : Int32) (ws : ai_W) : ai_Run 250 3 ls [.int b2, .int b1, .int b0] ws = (ai_Call 179 [.int b0, .int b1, .int b2] ws).bind fun q => ai_Run 250 6 ls (q.1.toList ++ []) q.2 := R_callS hc_250 dX11_refusal_3 hv_250 (w := 1127) rfl (Nat.le_of_ble_eq_true rfl) hk_179 (by rw [hn_179]; rfl) rfl (Nat.le_of_ble_eq_true rfl) rfl
theorem r_250_6 (ls st : List Value) (a : Int32) (ws : ai_W) : ai_Run 250 6 ls (.int a :: st) ws = if a = 0 then ai_Run 250 9 ls st ws else ai_Run 250 12 ls st ws := R_if_ne hc_250 dX11_refusal_6 rfl rfl
theorem r_250_9 (ls st : List Value) (ws : ai_W) : ai_Run 250 9 ls st ws = ai_Run 250 11 ls (.int (-2) :: st) ws := R_bipush hc_250 dX11_refusal_9 (by decide) rfl
theorem r_250_11 (ls : List Value) (x : Int32) (ws : ai_W) : ai_Run 250 11 ls [.int x] ws = some (some (.int x), ws) := R_iret hc_250 dX11_refusal_11 ht_250
theorem r_250_12 (l1 : Value) (a : Nat) (st : List Value) (ws : ai_W) : ai_Run 250 12 [.ref a, l1] st ws = ai_Run 250 13 [.ref a, l1] (.ref a :: st) ws := R_aload_n hc_250 dX11_refusal_12 rfl rfl
theorem r_250_13 (ls st : List Value) (a : Nat) (ws : ai_W) : ai_Run 250 13 ls (.ref a :: st) ws = (ai_fget ws a 11 5).bind fun q => ai_Run 250 16 ls (q :: st) ws := R_getf hc_250 dX11_refusal_13 hv_250 (w := 1029) rfl rfl
theorem r_250_16 (ls st : List Value) (a : Int32) (ws : ai_W) : ai_Run 250 16 ls (.int a :: st) ws = if a = 0 then ai_Run 250 19 ls st ws else ai_Run 250 24 ls st ws := R_if_ne hc_250 dX11_refusal_16 rfl rfl
theorem r_250_19 (ls st : List Value) (ws : ai_W) : ai_Run 250 19 ls st ws = ai_Run 250 21 ls (.int (-4) :: st) ws := R_bipush hc_250 dX11_refusal_19 (by decide) rfl
theorem r_250_21 (ls st : List Value) (ws : ai_W) : ai_Run 250 21 ls st ws = ai_Run 250 51 ls st ws := R_goto hc_250 dX11_refusal_21 rfl
theorem r_250_24 (l0 : Value) (a : Int32) (st : List Value) (ws : ai_W) : ai_Run 250 24 [l0, .int a] st ws = ai_Run 250 25 [l0, .int a] (.int a :: st) ws := R_iload_n hc_250 dX11_refusal_24 rfl rfl
theorem r_250_25 (ls st : List Value) (a : Int32) (ws : ai_W) : ai_Run 250 25 ls (.int a :: st) ws = if a = 0 then ai_Run 250 28 ls st ws else ai_Run 250 35 ls st ws := R_if_ne hc_250 dX11_refusal_25 rfl rfl
theorem r_250_28 (l1 : Value) (a : Nat) (st : List Value) (ws : ai_W) : ai_Run 250 28 [.ref a, l1] st ws = ai_Run 250 29 [.ref a, l1] (.ref a :: st) ws := R_aload_n hc_250 dX11_refusal_28 rfl rfl
theorem r_250_29 (ls st : List Value) (a : Nat) (ws : ai_W) : ai_Run 250 29 ls (.ref a :: st) ws = (ai_fget ws a 11 5).bind fun q => ai_Run 250 32 ls (q :: st) ws := R_getf hc_250 dX11_refusal_29 hv_250 (w := 1029) rfl rfl
theorem r_250_32 (ls st : List Value) (ws : ai_W) : ai_Run 250 32 ls st ws = ai_Run 250 51 ls st ws := R_goto hc_250 dX11_refusal_32 rfl
theorem r_250_35 (l0 : Value) (a : Int32) (st : List Value) (ws : ai_W) : ai_Run 250 35 [l0, .int a] st ws = ai_Run 250 36 [l0, .int a] (.int a :: st) ws := R_iload_n hc_250 dX11_refusal_35 rfl rfl
theorem r_250_36 (ls st : List Value) (ws : ai_W) : ai_Run 250 36 ls st ws = ai_Run 250 37 ls (.int 1 :: st) ws := R_iconst hc_250 dX11_refusal_36 (by decide) rfl
theorem r_250_37 (ls st : List Value) (a b : Int32) (ws : ai_W) : ai_Run 250 37 ls (.int b :: .int a :: st) ws = if a = b then ai_Run 250 40 ls st ws else ai_Run 250 47 ls st ws := R_cmp_ne hc_250 dX11_refusal_37 rfl rfl
theorem r_250_40 (l1 : Value) (a : Nat) (st : List Value) (ws : ai_W) : ai_Run 250 40 [.ref a, l1] st ws = ai_Run 250 41 [.ref a, l1] (.ref a :: st) ws := R_aload_n hc_250 dX11_refusal_40 rfl rfl
theorem r_250_41 (ls st : List Value) (a : Nat) (ws : ai_W) : ai_Run 250 41 ls (.ref a :: st) ws = (ai_fget ws a 11 6).bind fun q => ai_Run 250 44 ls (q :: st) ws := R_getf hc_250 dX11_refusal_41 hv_250 (w := 1030) rfl rfl
theorem r_250_44 (ls st : List Value) (ws : ai_W) : ai_Run 250 44 ls st ws = ai_Run 250 51 ls st ws := R_goto hc_250 dX11_refusal_44 rfl
theorem r_250_47 (l1 : Value) (a : Nat) (st : List Value) (ws : ai_W) : ai_Run 250 47 [.ref a, l1] st ws = ai_Run 250 48 [.ref a, l1] (.ref a :: st) ws := R_aload_n hc_250 dX11_refusal_47 rfl rfl
theorem r_250_48 (ls st : List Value) (a : Nat) (ws : ai_W) : ai_Run 250 48 ls (.ref a :: st) ws = (ai_fget ws a 11 7).bind fun q => ai_Run 250 51 ls (q :: st) ws := R_getf hc_250 dX11_refusal_48 hv_250 (w := 1031) rfl rfl
theorem r_250_51 (ls : List Value) (x : Int32) (ws : ai_W) : ai_Run 250 51 ls [.int x] ws = some (some (.int x), ws) := R_iret hc_250 dX11_refusal_51 ht_250
theorem dX11_restore_0 : decode cX11_restore 0 = .ok (.aload_n 0, 1) := by decide +kernel
theorem dX11_restore_1 : decode cX11_restore 1 = .ok (.getfield 280, 3) := by decide +kernel
theorem dX11_restore_4 : decode cX11_restore 4 = .ok (.ifCond .ne 6, 3) := by decide +kernel
theorem dX11_restore_7 : decode cX11_restore 7 = .ok (.bipush (-4), 2) := by decide +kernel
theorem dX11_restore_9 : decode cX11_restore 9 = .ok (.ireturn, 1) := by decide +kernel
theorem dX11_restore_10 : decode cX11_restore 10 = .ok (.aload_n 0, 1) := by decide +kernel
theorem dX11_restore_11 : decode cX11_restore 11 = .ok (.getfield 16, 3) := by decide +kernel
theorem dX11_restore_14 : decode cX11_restore 14 = .ok (.iconst 0, 1) := by decide +kernel
theorem dX11_restore_15 : decode cX11_restore 15 = .ok (.aload_n 0, 1) := by decide +kernel
theorem dX11_restore_16 : decode cX11_restore 16 = .ok (.getfield 9, 3) := by decide +kernel
theorem dX11_restore_19 : decode cX11_restore 19 = .ok (.iconst 0, 1) := by decide +kernel
theorem dX11_restore_20 : decode cX11_restore 20 = .ok (.invokestatic 35, 3) := by decide +kernel
theorem dX11_restore_23 : decode cX11_restore 23 = .ok (.aload_n 0, 1) := by decide +kernel
theorem dX11_restore_24 : decode cX11_restore 24 = .ok (.iconst 0, 1) := by decide +kernel
theorem dX11_restore_25 : decode cX11_restore 25 = .ok (.putfield 39, 3) := by decide +kernel
theorem dX11_restore_28 : decode cX11_restore 28 = .ok (.aload_n 0, 1) := by decide +kernel
theorem dX11_restore_29 : decode cX11_restore 29 = .ok (.getfield 9, 3) := by decide +kernel
theorem dX11_restore_32 : decode cX11_restore 32 = .ok (.iconst 0, 1) := by decide +kernel
theorem dX11_restore_33 : decode cX11_restore 33 = .ok (.iaload, 1) := by decide +kernel
theorem dX11_restore_34 : decode cX11_restore 34 = .ok (.ireturn, 1) := by decide +kernel
theorem e_251 (r : Nat)  (ws : ai_W) : ai_Call 251 [.ref r] ws = if ai_isob ws r 11 = true then ai_Run 251 0 [.ref r] [] ws else none := R_entV hk_251 ⟨⟨rfl, rfl⟩, Nat.le_of_ble_eq_true rfl⟩ rfl
theorem r_251_0 (a : Nat) (st : List Value) (ws : ai_W) : ai_Run 251 0 [.ref a] st ws = ai_Run 251 1 [.ref a] (.ref a :: st) ws := R_aload_n hc_251 dX11_restore_0 rfl rfl
theorem r_251_1 (ls st : List Value) (a : Nat) (ws : ai_W) : ai_Run 251 1 ls (.ref a :: st) ws = (ai_fget ws a 11 8).bind fun q => ai_Run 251 4 ls (q :: st) ws := R_getf hc_251 dX11_restore_1 hv_251 (w := 1032) rfl rfl
theorem r_251_4 (ls st : List Value) (a : Int32) (ws : ai_W) : ai_Run 251 4 ls (.int a :: st) ws = if a = 0 then ai_Run 251 7 ls st ws else ai_Run 251 10 ls st ws := R_if_ne hc_251 dX11_restore_4 rfl rfl
theorem r_251_7 (ls st : List Value) (ws : ai_W) : ai_Run 251 7 ls st ws = ai_Run 251 9 ls (.int (-4) :: st) ws := R_bipush hc_251 dX11_restore_7 (by decide) rfl
theorem r_251_9 (ls : List Value) (x : Int32) (ws : ai_W) : ai_Run 251 9 ls [.int x] ws = some (some (.int x), ws) := R_iret hc_251 dX11_restore_9 ht_251
theorem r_251_10 (a : Nat) (st : List Value) (ws : ai_W) : ai_Run 251 10 [.ref a] st ws = ai_Run 251 11 [.ref a] (.ref a :: st) ws := R_aload_n hc_251 dX11_restore_10 rfl rfl
theorem r_251_11 (ls st : List Value) (a : Nat) (ws : ai_W) : ai_Run 251 11 ls (.ref a :: st) ws = (ai_fget ws a 11 2).bind fun q => ai_Run 251 14 ls (q :: st) ws := R_getf hc_251 dX11_restore_11 hv_251 (w := 1026) rfl rfl
theorem r_251_14 (ls st : List Value) (ws : ai_W) : ai_Run 251 14 ls st ws = ai_Run 251 15 ls (.int 0 :: st) ws := R_iconst hc_251 dX11_restore_14 (by decide) rfl
theorem r_251_15 (a : Nat) (st : List Value) (ws : ai_W) : ai_Run 251 15 [.ref a] st ws = ai_Run 251 16 [.ref a] (.ref a :: st) ws := R_aload_n hc_251 dX11_restore_15 rfl rfl
theorem r_251_16 (ls st : List Value) (a : Nat) (ws : ai_W) : ai_Run 251 16 ls (.ref a :: st) ws = (ai_fget ws a 11 0).bind fun q => ai_Run 251 19 ls (q :: st) ws := R_getf hc_251 dX11_restore_16 hv_251 (w := 1024) rfl rfl
theorem r_251_19 (ls st : List Value) (ws : ai_W) : ai_Run 251 19 ls st ws = ai_Run 251 20 ls (.int 0 :: st) ws := R_iconst hc_251 dX11_restore_19 (by decide) rfl
theorem r_251_20 (ls : List Value) (b0 : Nat) (b1 : Int32) (b2 : Nat) (b3 : Int32) (ws : ai_W) : ai_Run 251 20 ls [.int b3, .ref b2, .int b1, .ref b0] ws = (ai_Call 181 [.ref b0, .int b1, .ref b2, .int b3] ws).bind fun q => ai_Run 251 23 ls (q.1.toList ++ []) q.2 := R_callS hc_251 dX11_restore_20 hv_251 (w := 1081) rfl (Nat.le_of_ble_eq_true rfl) hk_181 (by rw [hn_181]; rfl) rfl (Nat.le_of_ble_eq_true rfl) rfl
theorem r_251_23 (a : Nat) (st : List Value) (ws : ai_W) : ai_Run 251 23 [.ref a] st ws = ai_Run 251 24 [.ref a] (.ref a :: st) ws := R_aload_n hc_251 dX11_restore_23 rfl rfl
theorem r_251_24 (ls st : List Value) (ws : ai_W) : ai_Run 251 24 ls st ws = ai_Run 251 25 ls (.int 0 :: st) ws := R_iconst hc_251 dX11_restore_24 (by decide) rfl
theorem r_251_25 (ls st : List Value) (a : Nat) (x : Value) (ws : ai_W) : ai_Run 251 25 ls (x :: .ref a :: st) ws = (ai_fput ws a 11 4 x).bind fun ws => ai_Run 251 28 ls st ws := R_putf hc_251 dX11_restore_25 hv_251 (w := 1028) rfl rfl rfl
theorem r_251_28 (a : Nat) (st : List Value) (ws : ai_W) : ai_Run 251 28 [.ref a] st ws = ai_Run 251 29 [.ref a] (.ref a :: st) ws := R_aload_n hc_251 dX11_restore_28 rfl rfl
theorem r_251_29 (ls st : List Value) (a : Nat) (ws : ai_W) : ai_Run 251 29 ls (.ref a :: st) ws = (ai_fget ws a 11 0).bind fun q => ai_Run 251 32 ls (q :: st) ws := R_getf hc_251 dX11_restore_29 hv_251 (w := 1024) rfl rfl
theorem r_251_32 (ls st : List Value) (ws : ai_W) : ai_Run 251 32 ls st ws = ai_Run 251 33 ls (.int 0 :: st) ws := R_iconst hc_251 dX11_restore_32 (by decide) rfl
theorem r_251_33 (ls st : List Value) (a : Nat) (i : Int32) (ws : ai_W) : ai_Run 251 33 ls (.int i :: .ref a :: st) ws = (ai_aget ws a i).bind fun q => ai_Run 251 34 ls (.int q :: st) ws := R_iaload hc_251 dX11_restore_33 rfl
theorem r_251_34 (ls : List Value) (x : Int32) (ws : ai_W) : ai_Run 251 34 ls [.int x] ws = some (some (.int x), ws) := R_iret hc_251 dX11_restore_34 ht_251
theorem dX11_rise_0 : decode cX11_rise 0 = .ok (.aload_n 0, 1) := by decide +kernel
theorem dX11_rise_1 : decode cX11_rise 1 = .ok (.invokevirtual 78, 3) := by decide +kernel
theorem dX11_rise_4 : decode cX11_rise 4 = .ok (.aload_n 0, 1) := by decide +kernel
theorem dX11_rise_5 : decode cX11_rise 5 = .ok (.aload_n 0, 1) := by decide +kernel
theorem dX11_rise_6 : decode cX11_rise 6 = .ok (.iload_n 1, 1) := by decide +kernel
theorem dX11_rise_7 : decode cX11_rise 7 = .ok (.iload_n 2, 1) := by decide +kernel
theorem dX11_rise_8 : decode cX11_rise 8 = .ok (.invokevirtual 111, 3) := by decide +kernel
theorem dX11_rise_11 : decode cX11_rise 11 = .ok (.invokevirtual 85, 3) := by decide +kernel
theorem dX11_rise_14 : decode cX11_rise 14 = .ok (.ireturn, 1) := by decide +kernel
theorem e_252 (r : Nat) (a0 : Int32) (a1 : Int32) (ws : ai_W) : ai_Call 252 [.ref r, .int a0, .int a1] ws = if ai_isob ws r 11 = true then ai_Run 252 0 [.ref r, .int a0, .int a1] [] ws else none := R_entV hk_252 ⟨⟨rfl, rfl⟩, Nat.le_of_ble_eq_true rfl⟩ rfl
theorem r_252_0 (l1 l2 : Value) (a : Nat) (st : List Value) (ws : ai_W) : ai_Run 252 0 [.ref a, l1, l2] st ws = ai_Run 252 1 [.ref a, l1, l2] (.ref a :: st) ws := R_aload_n hc_252 dX11_rise_0 rfl rfl
theorem r_252_1 (ls : List Value) (r : Nat) (ws : ai_W) : ai_Run 252 1 ls [.ref r] ws = (ai_Call 182 [.ref r] ws).bind fun q => ai_Run 252 4 ls (q.1.toList ++ []) q.2 := R_callV hc_252 dX11_rise_1 hv_252 (w := 1077) rfl (Nat.le_of_ble_eq_true rfl) hk_182 (by rw [hn_182]; rfl) rfl (Nat.le_of_ble_eq_true rfl) rfl
theorem r_252_4 (l1 l2 : Value) (a : Nat) (st : List Value) (ws : ai_W) : ai_Run 252 4 [.ref a, l1, l2] st ws = ai_Run 252 5 [.ref a, l1, l2] (.ref a :: st) ws := R_aload_n hc_252 dX11_rise_4 rfl rfl
theorem r_252_5 (l1 l2 : Value) (a : Nat) (st : List Value) (ws : ai_W) : ai_Run 252 5 [.ref a, l1, l2] st ws = ai_Run 252 6 [.ref a, l1, l2] (.ref a :: st) ws := R_aload_n hc_252 dX11_rise_5 rfl rfl
theorem r_252_6 (l0 l2 : Value) (a : Int32) (st : List Value) (ws : ai_W) : ai_Run 252 6 [l0, .int a, l2] st ws = ai_Run 252 7 [l0, .int a, l2] (.int a :: st) ws := R_iload_n hc_252 dX11_rise_6 rfl rfl
theorem r_252_7 (l0 l1 : Value) (a : Int32) (st : List Value) (ws : ai_W) : ai_Run 252 7 [l0, l1, .int a] st ws = ai_Run 252 8 [l0, l1, .int a] (.int a :: st) ws := R_iload_n hc_252 dX11_rise_7 rfl rfl
theorem r_252_8 (ls : List Value) (r : Nat) (b0 : Int32) (b1 : Int32) (s0 : Value) (ws : ai_W) : ai_Run 252 8 ls [.int b1, .int b0, .ref r, s0] ws = (ai_Call 218 [.ref r, .int b0, .int b1] ws).bind fun q => ai_Run 252 11 ls (q.1.toList ++ [s0]) q.2 := R_callV hc_252 dX11_rise_8 hv_252 (w := 1161) rfl (Nat.le_of_ble_eq_true rfl) hk_218 (by rw [hn_218]; rfl) rfl (Nat.le_of_ble_eq_true rfl) rfl
theorem r_252_11 (ls : List Value) (r : Nat) (b0 : Int32) (ws : ai_W) : ai_Run 252 11 ls [.int b0, .ref r] ws = (ai_Call 187 [.ref r, .int b0] ws).bind fun q => ai_Run 252 14 ls (q.1.toList ++ []) q.2 := R_callV hc_252 dX11_rise_11 hv_252 (w := 1096) rfl (Nat.le_of_ble_eq_true rfl) hk_187 (by rw [hn_187]; rfl) rfl (Nat.le_of_ble_eq_true rfl) rfl
theorem r_252_14 (ls : List Value) (x : Int32) (ws : ai_W) : ai_Run 252 14 ls [.int x] ws = some (some (.int x), ws) := R_iret hc_252 dX11_rise_14 ht_252
theorem dX11_save_0 : decode cX11_save 0 = .ok (.aload_n 0, 1) := by decide +kernel
theorem dX11_save_1 : decode cX11_save 1 = .ok (.getfield 9, 3) := by decide +kernel
theorem dX11_save_4 : decode cX11_save 4 = .ok (.iconst 0, 1) := by decide +kernel
theorem dX11_save_5 : decode cX11_save 5 = .ok (.aload_n 0, 1) := by decide +kernel
theorem dX11_save_6 : decode cX11_save 6 = .ok (.getfield 16, 3) := by decide +kernel
theorem dX11_save_9 : decode cX11_save 9 = .ok (.iconst 0, 1) := by decide +kernel
theorem dX11_save_10 : decode cX11_save 10 = .ok (.invokestatic 35, 3) := by decide +kernel
theorem dX11_save_13 : decode cX11_save 13 = .ok (.aload_n 0, 1) := by decide +kernel
theorem dX11_save_14 : decode cX11_save 14 = .ok (.iconst 1, 1) := by decide +kernel
theorem dX11_save_15 : decode cX11_save 15 = .ok (.putfield 280, 3) := by decide +kernel
theorem dX11_save_18 : decode cX11_save 18 = .ok (.aload_n 0, 1) := by decide +kernel
theorem dX11_save_19 : decode cX11_save 19 = .ok (.getfield 9, 3) := by decide +kernel
theorem dX11_save_22 : decode cX11_save 22 = .ok (.iconst 0, 1) := by decide +kernel
theorem dX11_save_23 : decode cX11_save 23 = .ok (.iaload, 1) := by decide +kernel
theorem dX11_save_24 : decode cX11_save 24 = .ok (.ireturn, 1) := by decide +kernel
theorem e_253 (r : Nat)  (ws : ai_W) : ai_Call 253 [.ref r] ws = if ai_isob ws r 11 = true then ai_Run 253 0 [.ref r] [] ws else none := R_entV hk_253 ⟨⟨rfl, rfl⟩, Nat.le_of_ble_eq_true rfl⟩ rfl
theorem r_253_0 (a : Nat) (st : List Value) (ws : ai_W) : ai_Run 253 0 [.ref a] st ws = ai_Run 253 1 [.ref a] (.ref a :: st) ws := R_aload_n hc_253 dX11_save_0 rfl rfl
theorem r_253_1 (ls st : List Value) (a : Nat) (ws : ai_W) : ai_Run 253 1 ls (.ref a :: st) ws = (ai_fget ws a 11 0).bind fun q => ai_Run 253 4 ls (q :: st) ws := R_getf hc_253 dX11_save_1 hv_253 (w := 1024) rfl rfl
theorem r_253_4 (ls st : List Value) (ws : ai_W) : ai_Run 253 4 ls st ws = ai_Run 253 5 ls (.int 0 :: st) ws := R_iconst hc_253 dX11_save_4 (by decide) rfl
theorem r_253_5 (a : Nat) (st : List Value) (ws : ai_W) : ai_Run 253 5 [.ref a] st ws = ai_Run 253 6 [.ref a] (.ref a :: st) ws := R_aload_n hc_253 dX11_save_5 rfl rfl
theorem r_253_6 (ls st : List Value) (a : Nat) (ws : ai_W) : ai_Run 253 6 ls (.ref a :: st) ws = (ai_fget ws a 11 2).bind fun q => ai_Run 253 9 ls (q :: st) ws := R_getf hc_253 dX11_save_6 hv_253 (w := 1026) rfl rfl
theorem r_253_9 (ls st : List Value) (ws : ai_W) : ai_Run 253 9 ls st ws = ai_Run 253 10 ls (.int 0 :: st) ws := R_iconst hc_253 dX11_save_9 (by decide) rfl
theorem r_253_10 (ls : List Value) (b0 : Nat) (b1 : Int32) (b2 : Nat) (b3 : Int32) (ws : ai_W) : ai_Run 253 10 ls [.int b3, .ref b2, .int b1, .ref b0] ws = (ai_Call 181 [.ref b0, .int b1, .ref b2, .int b3] ws).bind fun q => ai_Run 253 13 ls (q.1.toList ++ []) q.2 := R_callS hc_253 dX11_save_10 hv_253 (w := 1081) rfl (Nat.le_of_ble_eq_true rfl) hk_181 (by rw [hn_181]; rfl) rfl (Nat.le_of_ble_eq_true rfl) rfl
theorem r_253_13 (a : Nat) (st : List Value) (ws : ai_W) : ai_Run 253 13 [.ref a] st ws = ai_Run 253 14 [.ref a] (.ref a :: st) ws := R_aload_n hc_253 dX11_save_13 rfl rfl
theorem r_253_14 (ls st : List Value) (ws : ai_W) : ai_Run 253 14 ls st ws = ai_Run 253 15 ls (.int 1 :: st) ws := R_iconst hc_253 dX11_save_14 (by decide) rfl
theorem r_253_15 (ls st : List Value) (a : Nat) (x : Value) (ws : ai_W) : ai_Run 253 15 ls (x :: .ref a :: st) ws = (ai_fput ws a 11 8 x).bind fun ws => ai_Run 253 18 ls st ws := R_putf hc_253 dX11_save_15 hv_253 (w := 1032) rfl rfl rfl
theorem r_253_18 (a : Nat) (st : List Value) (ws : ai_W) : ai_Run 253 18 [.ref a] st ws = ai_Run 253 19 [.ref a] (.ref a :: st) ws := R_aload_n hc_253 dX11_save_18 rfl rfl
theorem r_253_19 (ls st : List Value) (a : Nat) (ws : ai_W) : ai_Run 253 19 ls (.ref a :: st) ws = (ai_fget ws a 11 0).bind fun q => ai_Run 253 22 ls (q :: st) ws := R_getf hc_253 dX11_save_19 hv_253 (w := 1024) rfl rfl
theorem r_253_22 (ls st : List Value) (ws : ai_W) : ai_Run 253 22 ls st ws = ai_Run 253 23 ls (.int 0 :: st) ws := R_iconst hc_253 dX11_save_22 (by decide) rfl
theorem r_253_23 (ls st : List Value) (a : Nat) (i : Int32) (ws : ai_W) : ai_Run 253 23 ls (.int i :: .ref a :: st) ws = (ai_aget ws a i).bind fun q => ai_Run 253 24 ls (.int q :: st) ws := R_iaload hc_253 dX11_save_23 rfl
theorem r_253_24 (ls : List Value) (x : Int32) (ws : ai_W) : ai_Run 253 24 ls [.int x] ws = some (some (.int x), ws) := R_iret hc_253 dX11_save_24 ht_253
theorem dX11_seat_0 : decode cX11_seat 0 = .ok (.aload_n 0, 1) := by decide +kernel
theorem dX11_seat_1 : decode cX11_seat 1 = .ok (.invokevirtual 78, 3) := by decide +kernel
theorem dX11_seat_4 : decode cX11_seat 4 = .ok (.aload_n 0, 1) := by decide +kernel
theorem dX11_seat_5 : decode cX11_seat 5 = .ok (.aload_n 0, 1) := by decide +kernel
theorem dX11_seat_6 : decode cX11_seat 6 = .ok (.iload_n 1, 1) := by decide +kernel
theorem dX11_seat_7 : decode cX11_seat 7 = .ok (.iload_n 2, 1) := by decide +kernel
theorem dX11_seat_8 : decode cX11_seat 8 = .ok (.invokevirtual 142, 3) := by decide +kernel
theorem dX11_seat_11 : decode cX11_seat 11 = .ok (.invokevirtual 85, 3) := by decide +kernel
theorem dX11_seat_14 : decode cX11_seat 14 = .ok (.ireturn, 1) := by decide +kernel
theorem e_254 (r : Nat) (a0 : Int32) (a1 : Int32) (ws : ai_W) : ai_Call 254 [.ref r, .int a0, .int a1] ws = if ai_isob ws r 11 = true then ai_Run 254 0 [.ref r, .int a0, .int a1] [] ws else none := R_entV hk_254 ⟨⟨rfl, rfl⟩, Nat.le_of_ble_eq_true rfl⟩ rfl
theorem r_254_0 (l1 l2 : Value) (a : Nat) (st : List Value) (ws : ai_W) : ai_Run 254 0 [.ref a, l1, l2] st ws = ai_Run 254 1 [.ref a, l1, l2] (.ref a :: st) ws := R_aload_n hc_254 dX11_seat_0 rfl rfl
theorem r_254_1 (ls : List Value) (r : Nat) (ws : ai_W) : ai_Run 254 1 ls [.ref r] ws = (ai_Call 182 [.ref r] ws).bind fun q => ai_Run 254 4 ls (q.1.toList ++ []) q.2 := R_callV hc_254 dX11_seat_1 hv_254 (w := 1077) rfl (Nat.le_of_ble_eq_true rfl) hk_182 (by rw [hn_182]; rfl) rfl (Nat.le_of_ble_eq_true rfl) rfl
theorem r_254_4 (l1 l2 : Value) (a : Nat) (st : List Value) (ws : ai_W) : ai_Run 254 4 [.ref a, l1, l2] st ws = ai_Run 254 5 [.ref a, l1, l2] (.ref a :: st) ws := R_aload_n hc_254 dX11_seat_4 rfl rfl
theorem r_254_5 (l1 l2 : Value) (a : Nat) (st : List Value) (ws : ai_W) : ai_Run 254 5 [.ref a, l1, l2] st ws = ai_Run 254 6 [.ref a, l1, l2] (.ref a :: st) ws := R_aload_n hc_254 dX11_seat_5 rfl rfl
theorem r_254_6 (l0 l2 : Value) (a : Int32) (st : List Value) (ws : ai_W) : ai_Run 254 6 [l0, .int a, l2] st ws = ai_Run 254 7 [l0, .int a, l2] (.int a :: st) ws := R_iload_n hc_254 dX11_seat_6 rfl rfl
theorem r_254_7 (l0 l1 : Value) (a : Int32) (st : List Value) (ws : ai_W) : ai_Run 254 7 [l0, l1, .int a] st ws = ai_Run 254 8 [l0, l1, .int a] (.int a :: st) ws := R_iload_n hc_254 dX11_seat_7 rfl rfl
theorem r_254_8 (ls : List Value) (r : Nat) (b0 : Int32) (b1 : Int32) (s0 : Value) (ws : ai_W) : ai_Run 254 8 ls [.int b1, .int b0, .ref r, s0] ws = (ai_Call 225 [.ref r, .int b0, .int b1] ws).bind fun q => ai_Run 254 11 ls (q.1.toList ++ [s0]) q.2 := R_callV hc_254 dX11_seat_8 hv_254 (w := 1213) rfl (Nat.le_of_ble_eq_true rfl) hk_225 (by rw [hn_225]; rfl) rfl (Nat.le_of_ble_eq_true rfl) rfl
theorem r_254_11 (ls : List Value) (r : Nat) (b0 : Int32) (ws : ai_W) : ai_Run 254 11 ls [.int b0, .ref r] ws = (ai_Call 187 [.ref r, .int b0] ws).bind fun q => ai_Run 254 14 ls (q.1.toList ++ []) q.2 := R_callV hc_254 dX11_seat_11 hv_254 (w := 1096) rfl (Nat.le_of_ble_eq_true rfl) hk_187 (by rw [hn_187]; rfl) rfl (Nat.le_of_ble_eq_true rfl) rfl
theorem r_254_14 (ls : List Value) (x : Int32) (ws : ai_W) : ai_Run 254 14 ls [.int x] ws = some (some (.int x), ws) := R_iret hc_254 dX11_seat_14 ht_254
theorem dX11_share_0 : decode cX11_share 0 = .ok (.aload_n 0, 1) := by decide +kernel
theorem dX11_share_1 : decode cX11_share 1 = .ok (.invokevirtual 262, 3) := by decide +kernel
theorem dX11_share_4 : decode cX11_share 4 = .ok (.istore_n 1, 1) := by decide +kernel
theorem dX11_share_5 : decode cX11_share 5 = .ok (.iload_n 1, 1) := by decide +kernel
theorem dX11_share_6 : decode cX11_share 6 = .ok (.ifCond .ne 8, 3) := by decide +kernel
theorem dX11_share_9 : decode cX11_share 9 = .ok (.bipush (-4), 2) := by decide +kernel
theorem dX11_share_11 : decode cX11_share 11 = .ok (.goto 14, 3) := by decide +kernel
theorem dX11_share_14 : decode cX11_share 14 = .ok (.aload_n 0, 1) := by decide +kernel
theorem dX11_share_15 : decode cX11_share 15 = .ok (.invokevirtual 268, 3) := by decide +kernel
theorem dX11_share_18 : decode cX11_share 18 = .ok (.i2f, 1) := by decide +kernel
theorem dX11_share_19 : decode cX11_share 19 = .ok (.iload_n 1, 1) := by decide +kernel
theorem dX11_share_20 : decode cX11_share 20 = .ok (.i2f, 1) := by decide +kernel
theorem dX11_share_21 : decode cX11_share 21 = .ok (.fdiv, 1) := by decide +kernel
theorem dX11_share_22 : decode cX11_share 22 = .ok (.invokestatic 274, 3) := by decide +kernel
theorem dX11_share_25 : decode cX11_share 25 = .ok (.ireturn, 1) := by decide +kernel
theorem e_257 (r : Nat)  (ws : ai_W) : ai_Call 257 [.ref r] ws = if ai_isob ws r 11 = true then ai_Run 257 0 [.ref r, .null] [] ws else none := R_entV hk_257 ⟨⟨rfl, rfl⟩, Nat.le_of_ble_eq_true rfl⟩ rfl
theorem r_257_0 (l1 : Value) (a : Nat) (st : List Value) (ws : ai_W) : ai_Run 257 0 [.ref a, l1] st ws = ai_Run 257 1 [.ref a, l1] (.ref a :: st) ws := R_aload_n hc_257 dX11_share_0 rfl rfl
theorem r_257_1 (ls : List Value) (r : Nat) (ws : ai_W) : ai_Run 257 1 ls [.ref r] ws = (ai_Call 167 [.ref r] ws).bind fun q => ai_Run 257 4 ls (q.1.toList ++ []) q.2 := R_callV hc_257 dX11_share_1 hv_257 (w := 1441) rfl (Nat.le_of_ble_eq_true rfl) hk_167 (by rw [hn_167]; rfl) rfl (Nat.le_of_ble_eq_true rfl) rfl
theorem r_257_4 (l0 l1 : Value) (a : Int32) (st : List Value) (ws : ai_W) : ai_Run 257 4 [l0, l1] (.int a :: st) ws = ai_Run 257 5 [l0, .int a] st ws := R_istore_n hc_257 dX11_share_4 (Nat.le_of_ble_eq_true rfl) rfl rfl
theorem r_257_5 (l0 : Value) (a : Int32) (st : List Value) (ws : ai_W) : ai_Run 257 5 [l0, .int a] st ws = ai_Run 257 6 [l0, .int a] (.int a :: st) ws := R_iload_n hc_257 dX11_share_5 rfl rfl
theorem r_257_6 (ls st : List Value) (a : Int32) (ws : ai_W) : ai_Run 257 6 ls (.int a :: st) ws = if a = 0 then ai_Run 257 9 ls st ws else ai_Run 257 14 ls st ws := R_if_ne hc_257 dX11_share_6 rfl rfl
theorem r_257_9 (ls st : List Value) (ws : ai_W) : ai_Run 257 9 ls st ws = ai_Run 257 11 ls (.int (-4) :: st) ws := R_bipush hc_257 dX11_share_9 (by decide) rfl
theorem r_257_11 (ls st : List Value) (ws : ai_W) : ai_Run 257 11 ls st ws = ai_Run 257 25 ls st ws := R_goto hc_257 dX11_share_11 rfl
theorem r_257_14 (l1 : Value) (a : Nat) (st : List Value) (ws : ai_W) : ai_Run 257 14 [.ref a, l1] st ws = ai_Run 257 15 [.ref a, l1] (.ref a :: st) ws := R_aload_n hc_257 dX11_share_14 rfl rfl
theorem r_257_15 (ls : List Value) (r : Nat) (ws : ai_W) : ai_Run 257 15 ls [.ref r] ws = (ai_Call 172 [.ref r] ws).bind fun q => ai_Run 257 18 ls (q.1.toList ++ []) q.2 := R_callV hc_257 dX11_share_15 hv_257 (w := 1449) rfl (Nat.le_of_ble_eq_true rfl) hk_172 (by rw [hn_172]; rfl) rfl (Nat.le_of_ble_eq_true rfl) rfl
theorem r_257_18 (ls st : List Value) (a : Int32) (ws : ai_W) : ai_Run 257 18 ls (.int a :: st) ws = ai_Run 257 19 ls (.float (FP.i2f a) :: st) ws := R_i2f hc_257 dX11_share_18 rfl
theorem r_257_19 (l0 : Value) (a : Int32) (st : List Value) (ws : ai_W) : ai_Run 257 19 [l0, .int a] st ws = ai_Run 257 20 [l0, .int a] (.int a :: st) ws := R_iload_n hc_257 dX11_share_19 rfl rfl
theorem r_257_20 (ls st : List Value) (a : Int32) (ws : ai_W) : ai_Run 257 20 ls (.int a :: st) ws = ai_Run 257 21 ls (.float (FP.i2f a) :: st) ws := R_i2f hc_257 dX11_share_20 rfl
theorem r_257_21 (ls st : List Value) (a b : UInt32) (ws : ai_W) : ai_Run 257 21 ls (.float b :: .float a :: st) ws = if ai_fok (FP.fdiv a b) = true then ai_Run 257 22 ls (.float (FP.fdiv a b) :: st) ws else none := R_fb hc_257 dX11_share_21 (fun _ _ _ _ => rfl) rfl
theorem r_257_22 (ls : List Value) (b0 : UInt32) (ws : ai_W) : ai_Run 257 22 ls [.float b0] ws = (ai_Call 256 [.float b0] ws).bind fun q => ai_Run 257 25 ls (q.1.toList ++ []) q.2 := R_callS hc_257 dX11_share_22 hv_257 (w := 1465) rfl (Nat.le_of_ble_eq_true rfl) hk_256 (by rw [hn_256]; rfl) rfl (Nat.le_of_ble_eq_true rfl) rfl
theorem r_257_25 (ls : List Value) (x : Int32) (ws : ai_W) : ai_Run 257 25 ls [.int x] ws = some (some (.int x), ws) := R_iret hc_257 dX11_share_25 ht_257
theorem dX11_sign_0 : decode cX11_sign 0 = .ok (.iload_n 1, 1) := by decide +kernel
theorem dX11_sign_1 : decode cX11_sign 1 = .ok (.iconst 0, 1) := by decide +kernel
theorem dX11_sign_2 : decode cX11_sign 2 = .ok (.aload_n 0, 1) := by decide +kernel
theorem dX11_sign_3 : decode cX11_sign 3 = .ok (.getfield 215, 3) := by decide +kernel
theorem dX11_sign_6 : decode cX11_sign 6 = .ok (.iconst 1, 1) := by decide +kernel
theorem dX11_sign_7 : decode cX11_sign 7 = .ok (.isub, 1) := by decide +kernel
theorem dX11_sign_8 : decode cX11_sign 8 = .ok (.invokestatic 55, 3) := by decide +kernel
theorem dX11_sign_11 : decode cX11_sign 11 = .ok (.ifCond .eq 12, 3) := by decide +kernel
theorem dX11_sign_14 : decode cX11_sign 14 = .ok (.aload_n 0, 1) := by decide +kernel
theorem dX11_sign_15 : decode cX11_sign 15 = .ok (.getfield 26, 3) := by decide +kernel
theorem dX11_sign_18 : decode cX11_sign 18 = .ok (.iload_n 1, 1) := by decide +kernel
theorem dX11_sign_19 : decode cX11_sign 19 = .ok (.iaload, 1) := by decide +kernel
theorem dX11_sign_20 : decode cX11_sign 20 = .ok (.goto 4, 3) := by decide +kernel
theorem dX11_sign_23 : decode cX11_sign 23 = .ok (.iconst (-1), 1) := by decide +kernel
theorem dX11_sign_24 : decode cX11_sign 24 = .ok (.ireturn, 1) := by decide +kernel
theorem e_258 (r : Nat) (a0 : Int32) (ws : ai_W) : ai_Call 258 [.ref r, .int a0] ws = if ai_isob ws r 11 = true then ai_Run 258 0 [.ref r, .int a0] [] ws else none := R_entV hk_258 ⟨⟨rfl, rfl⟩, Nat.le_of_ble_eq_true rfl⟩ rfl
theorem r_258_0 (l0 : Value) (a : Int32) (st : List Value) (ws : ai_W) : ai_Run 258 0 [l0, .int a] st ws = ai_Run 258 1 [l0, .int a] (.int a :: st) ws := R_iload_n hc_258 dX11_sign_0 rfl rfl
theorem r_258_1 (ls st : List Value) (ws : ai_W) : ai_Run 258 1 ls st ws = ai_Run 258 2 ls (.int 0 :: st) ws := R_iconst hc_258 dX11_sign_1 (by decide) rfl
theorem r_258_2 (l1 : Value) (a : Nat) (st : List Value) (ws : ai_W) : ai_Run 258 2 [.ref a, l1] st ws = ai_Run 258 3 [.ref a, l1] (.ref a :: st) ws := R_aload_n hc_258 dX11_sign_2 rfl rfl
theorem r_258_3 (ls st : List Value) (a : Nat) (ws : ai_W) : ai_Run 258 3 ls (.ref a :: st) ws = (ai_fget ws a 11 10).bind fun q => ai_Run 258 6 ls (q :: st) ws := R_getf hc_258 dX11_sign_3 hv_258 (w := 1034) rfl rfl
theorem r_258_6 (ls st : List Value) (ws : ai_W) : ai_Run 258 6 ls st ws = ai_Run 258 7 ls (.int 1 :: st) ws := R_iconst hc_258 dX11_sign_6 (by decide) rfl
theorem r_258_7 (ls st : List Value) (a b : Int32) (ws : ai_W) : ai_Run 258 7 ls (.int b :: .int a :: st) ws = ai_Run 258 8 ls (.int (a - b) :: st) ws := R_isub hc_258 dX11_sign_7 rfl
theorem r_258_8 (ls : List Value) (b0 : Int32) (b1 : Int32) (b2 : Int32) (ws : ai_W) : ai_Run 258 8 ls [.int b2, .int b1, .int b0] ws = (ai_Call 179 [.int b0, .int b1, .int b2] ws).bind fun q => ai_Run 258 11 ls (q.1.toList ++ []) q.2 := R_callS hc_258 dX11_sign_8 hv_258 (w := 1127) rfl (Nat.le_of_ble_eq_true rfl) hk_179 (by rw [hn_179]; rfl) rfl (Nat.le_of_ble_eq_true rfl) rfl
theorem r_258_11 (ls st : List Value) (a : Int32) (ws : ai_W) : ai_Run 258 11 ls (.int a :: st) ws = if a = 0 then ai_Run 258 23 ls st ws else ai_Run 258 14 ls st ws := R_if_eq hc_258 dX11_sign_11 rfl rfl
theorem r_258_14 (l1 : Value) (a : Nat) (st : List Value) (ws : ai_W) : ai_Run 258 14 [.ref a, l1] st ws = ai_Run 258 15 [.ref a, l1] (.ref a :: st) ws := R_aload_n hc_258 dX11_sign_14 rfl rfl
theorem r_258_15 (ls st : List Value) (a : Nat) (ws : ai_W) : ai_Run 258 15 ls (.ref a :: st) ws = (ai_fget ws a 11 9).bind fun q => ai_Run 258 18 ls (q :: st) ws := R_getf hc_258 dX11_sign_15 hv_258 (w := 1033) rfl rfl
theorem r_258_18 (l0 : Value) (a : Int32) (st : List Value) (ws : ai_W) : ai_Run 258 18 [l0, .int a] st ws = ai_Run 258 19 [l0, .int a] (.int a :: st) ws := R_iload_n hc_258 dX11_sign_18 rfl rfl
theorem r_258_19 (ls st : List Value) (a : Nat) (i : Int32) (ws : ai_W) : ai_Run 258 19 ls (.int i :: .ref a :: st) ws = (ai_aget ws a i).bind fun q => ai_Run 258 20 ls (.int q :: st) ws := R_iaload hc_258 dX11_sign_19 rfl
theorem r_258_20 (ls st : List Value) (ws : ai_W) : ai_Run 258 20 ls st ws = ai_Run 258 24 ls st ws := R_goto hc_258 dX11_sign_20 rfl
theorem r_258_23 (ls st : List Value) (ws : ai_W) : ai_Run 258 23 ls st ws = ai_Run 258 24 ls (.int (-1) :: st) ws := R_iconst hc_258 dX11_sign_23 (by decide) rfl
theorem r_258_24 (ls : List Value) (x : Int32) (ws : ai_W) : ai_Run 258 24 ls [.int x] ws = some (some (.int x), ws) := R_iret hc_258 dX11_sign_24 ht_258
theorem dX11_strike_0 : decode cX11_strike 0 = .ok (.aload_n 0, 1) := by decide +kernel
theorem dX11_strike_1 : decode cX11_strike 1 = .ok (.invokevirtual 78, 3) := by decide +kernel
theorem dX11_strike_4 : decode cX11_strike 4 = .ok (.aload_n 0, 1) := by decide +kernel
theorem dX11_strike_5 : decode cX11_strike 5 = .ok (.aload_n 0, 1) := by decide +kernel
theorem dX11_strike_6 : decode cX11_strike 6 = .ok (.iload_n 1, 1) := by decide +kernel
theorem dX11_strike_7 : decode cX11_strike 7 = .ok (.invokevirtual 114, 3) := by decide +kernel
theorem dX11_strike_10 : decode cX11_strike 10 = .ok (.invokevirtual 85, 3) := by decide +kernel
theorem dX11_strike_13 : decode cX11_strike 13 = .ok (.ireturn, 1) := by decide +kernel
theorem e_259 (r : Nat) (a0 : Int32) (ws : ai_W) : ai_Call 259 [.ref r, .int a0] ws = if ai_isob ws r 11 = true then ai_Run 259 0 [.ref r, .int a0] [] ws else none := R_entV hk_259 ⟨⟨rfl, rfl⟩, Nat.le_of_ble_eq_true rfl⟩ rfl
theorem r_259_0 (l1 : Value) (a : Nat) (st : List Value) (ws : ai_W) : ai_Run 259 0 [.ref a, l1] st ws = ai_Run 259 1 [.ref a, l1] (.ref a :: st) ws := R_aload_n hc_259 dX11_strike_0 rfl rfl
theorem r_259_1 (ls : List Value) (r : Nat) (ws : ai_W) : ai_Run 259 1 ls [.ref r] ws = (ai_Call 182 [.ref r] ws).bind fun q => ai_Run 259 4 ls (q.1.toList ++ []) q.2 := R_callV hc_259 dX11_strike_1 hv_259 (w := 1077) rfl (Nat.le_of_ble_eq_true rfl) hk_182 (by rw [hn_182]; rfl) rfl (Nat.le_of_ble_eq_true rfl) rfl
theorem r_259_4 (l1 : Value) (a : Nat) (st : List Value) (ws : ai_W) : ai_Run 259 4 [.ref a, l1] st ws = ai_Run 259 5 [.ref a, l1] (.ref a :: st) ws := R_aload_n hc_259 dX11_strike_4 rfl rfl
theorem r_259_5 (l1 : Value) (a : Nat) (st : List Value) (ws : ai_W) : ai_Run 259 5 [.ref a, l1] st ws = ai_Run 259 6 [.ref a, l1] (.ref a :: st) ws := R_aload_n hc_259 dX11_strike_5 rfl rfl
theorem r_259_6 (l0 : Value) (a : Int32) (st : List Value) (ws : ai_W) : ai_Run 259 6 [l0, .int a] st ws = ai_Run 259 7 [l0, .int a] (.int a :: st) ws := R_iload_n hc_259 dX11_strike_6 rfl rfl
theorem r_259_7 (ls : List Value) (r : Nat) (b0 : Int32) (s0 : Value) (ws : ai_W) : ai_Run 259 7 ls [.int b0, .ref r, s0] ws = (ai_Call 219 [.ref r, .int b0] ws).bind fun q => ai_Run 259 10 ls (q.1.toList ++ [s0]) q.2 := R_callV hc_259 dX11_strike_7 hv_259 (w := 1169) rfl (Nat.le_of_ble_eq_true rfl) hk_219 (by rw [hn_219]; rfl) rfl (Nat.le_of_ble_eq_true rfl) rfl
theorem r_259_10 (ls : List Value) (r : Nat) (b0 : Int32) (ws : ai_W) : ai_Run 259 10 ls [.int b0, .ref r] ws = (ai_Call 187 [.ref r, .int b0] ws).bind fun q => ai_Run 259 13 ls (q.1.toList ++ []) q.2 := R_callV hc_259 dX11_strike_10 hv_259 (w := 1096) rfl (Nat.le_of_ble_eq_true rfl) hk_187 (by rw [hn_187]; rfl) rfl (Nat.le_of_ble_eq_true rfl) rfl
theorem r_259_13 (ls : List Value) (x : Int32) (ws : ai_W) : ai_Run 259 13 ls [.int x] ws = some (some (.int x), ws) := R_iret hc_259 dX11_strike_13 ht_259
theorem dX11_suspect_0 : decode cX11_suspect 0 = .ok (.aload_n 0, 1) := by decide +kernel
theorem dX11_suspect_1 : decode cX11_suspect 1 = .ok (.iload_n 1, 1) := by decide +kernel
theorem dX11_suspect_2 : decode cX11_suspect 2 = .ok (.iload_n 2, 1) := by decide +kernel
theorem dX11_suspect_3 : decode cX11_suspect 3 = .ok (.invokevirtual 163, 3) := by decide +kernel
theorem dX11_suspect_6 : decode cX11_suspect 6 = .ok (.ifCond .ne 5, 3) := by decide +kernel
theorem dX11_suspect_9 : decode cX11_suspect 9 = .ok (.iconst (-1), 1) := by decide +kernel
theorem dX11_suspect_10 : decode cX11_suspect 10 = .ok (.ireturn, 1) := by decide +kernel
theorem dX11_suspect_11 : decode cX11_suspect 11 = .ok (.bipush (-4), 2) := by decide +kernel
theorem dX11_suspect_13 : decode cX11_suspect 13 = .ok (.istore_n 3, 1) := by decide +kernel
theorem dX11_suspect_14 : decode cX11_suspect 14 = .ok (.iconst 0, 1) := by decide +kernel
theorem dX11_suspect_15 : decode cX11_suspect 15 = .ok (.istore 4, 2) := by decide +kernel
theorem dX11_suspect_17 : decode cX11_suspect 17 = .ok (.iload 4, 2) := by decide +kernel
theorem dX11_suspect_19 : decode cX11_suspect 19 = .ok (.aload_n 0, 1) := by decide +kernel
theorem dX11_suspect_20 : decode cX11_suspect 20 = .ok (.getfield 9, 3) := by decide +kernel
theorem dX11_suspect_23 : decode cX11_suspect 23 = .ok (.iconst 0, 1) := by decide +kernel
theorem dX11_suspect_24 : decode cX11_suspect 24 = .ok (.iaload, 1) := by decide +kernel
theorem dX11_suspect_25 : decode cX11_suspect 25 = .ok (.if_icmp .ge 61, 3) := by decide +kernel
theorem dX11_suspect_28 : decode cX11_suspect 28 = .ok (.aload_n 0, 1) := by decide +kernel
theorem dX11_suspect_29 : decode cX11_suspect 29 = .ok (.iload 4, 2) := by decide +kernel
theorem dX11_suspect_31 : decode cX11_suspect 31 = .ok (.iload_n 1, 1) := by decide +kernel
theorem dX11_suspect_32 : decode cX11_suspect 32 = .ok (.iload_n 2, 1) := by decide +kernel
theorem dX11_suspect_33 : decode cX11_suspect 33 = .ok (.invokevirtual 154, 3) := by decide +kernel
theorem dX11_suspect_36 : decode cX11_suspect 36 = .ok (.ifCond .eq 29, 3) := by decide +kernel
theorem dX11_suspect_39 : decode cX11_suspect 39 = .ok (.iload_n 3, 1) := by decide +kernel
theorem dX11_suspect_40 : decode cX11_suspect 40 = .ok (.bipush (-4), 2) := by decide +kernel
theorem dX11_suspect_42 : decode cX11_suspect 42 = .ok (.if_icmp .eq 19, 3) := by decide +kernel
theorem dX11_suspect_45 : decode cX11_suspect 45 = .ok (.aload_n 0, 1) := by decide +kernel
theorem dX11_suspect_46 : decode cX11_suspect 46 = .ok (.iload 4, 2) := by decide +kernel
theorem dX11_suspect_48 : decode cX11_suspect 48 = .ok (.iload_n 1, 1) := by decide +kernel
theorem dX11_suspect_49 : decode cX11_suspect 49 = .ok (.invokevirtual 129, 3) := by decide +kernel
theorem dX11_suspect_52 : decode cX11_suspect 52 = .ok (.aload_n 0, 1) := by decide +kernel
theorem dX11_suspect_53 : decode cX11_suspect 53 = .ok (.iload_n 3, 1) := by decide +kernel
theorem dX11_suspect_54 : decode cX11_suspect 54 = .ok (.iload_n 1, 1) := by decide +kernel
theorem dX11_suspect_55 : decode cX11_suspect 55 = .ok (.invokevirtual 129, 3) := by decide +kernel
theorem dX11_suspect_58 : decode cX11_suspect 58 = .ok (.if_icmp .le 7, 3) := by decide +kernel
theorem dX11_suspect_61 : decode cX11_suspect 61 = .ok (.iconst 1, 1) := by decide +kernel
theorem dX11_suspect_62 : decode cX11_suspect 62 = .ok (.goto 4, 3) := by decide +kernel
theorem dX11_suspect_65 : decode cX11_suspect 65 = .ok (.iconst 0, 1) := by decide +kernel
theorem dX11_suspect_66 : decode cX11_suspect 66 = .ok (.istore 5, 2) := by decide +kernel
theorem dX11_suspect_68 : decode cX11_suspect 68 = .ok (.iload 5, 2) := by decide +kernel
theorem dX11_suspect_70 : decode cX11_suspect 70 = .ok (.ifCond .eq 8, 3) := by decide +kernel
theorem dX11_suspect_73 : decode cX11_suspect 73 = .ok (.iload 4, 2) := by decide +kernel
theorem dX11_suspect_75 : decode cX11_suspect 75 = .ok (.goto 4, 3) := by decide +kernel
theorem dX11_suspect_78 : decode cX11_suspect 78 = .ok (.iload_n 3, 1) := by decide +kernel
theorem dX11_suspect_79 : decode cX11_suspect 79 = .ok (.istore_n 3, 1) := by decide +kernel
theorem dX11_suspect_80 : decode cX11_suspect 80 = .ok (.iinc 4 1, 3) := by decide +kernel
theorem dX11_suspect_83 : decode cX11_suspect 83 = .ok (.goto (-66), 3) := by decide +kernel
theorem dX11_suspect_86 : decode cX11_suspect 86 = .ok (.iload_n 3, 1) := by decide +kernel
theorem dX11_suspect_87 : decode cX11_suspect 87 = .ok (.ireturn, 1) := by decide +kernel
theorem e_260 (r : Nat) (a0 : Int32) (a1 : Int32) (ws : ai_W) : ai_Call 260 [.ref r, .int a0, .int a1] ws = if ai_isob ws r 11 = true then ai_Run 260 0 [.ref r, .int a0, .int a1, .null, .null, .null] [] ws else none := R_entV hk_260 ⟨⟨rfl, rfl⟩, Nat.le_of_ble_eq_true rfl⟩ rfl
theorem r_260_0 (l1 l2 l3 l4 l5 : Value) (a : Nat) (st : List Value) (ws : ai_W) : ai_Run 260 0 [.ref a, l1, l2, l3, l4, l5] st ws = ai_Run 260 1 [.ref a, l1, l2, l3, l4, l5] (.ref a :: st) ws := R_aload_n hc_260 dX11_suspect_0 rfl rfl
theorem r_260_1 (l0 l2 l3 l4 l5 : Value) (a : Int32) (st : List Value) (ws : ai_W) : ai_Run 260 1 [l0, .int a, l2, l3, l4, l5] st ws = ai_Run 260 2 [l0, .int a, l2, l3, l4, l5] (.int a :: st) ws := R_iload_n hc_260 dX11_suspect_1 rfl rfl
theorem r_260_2 (l0 l1 l3 l4 l5 : Value) (a : Int32) (st : List Value) (ws : ai_W) : ai_Run 260 2 [l0, l1, .int a, l3, l4, l5] st ws = ai_Run 260 3 [l0, l1, .int a, l3, l4, l5] (.int a :: st) ws := R_iload_n hc_260 dX11_suspect_2 rfl rfl
theorem r_260_3 (ls : List Value) (r : Nat) (b0 : Int32) (b1 : Int32) (ws : ai_W) : ai_Run 260 3 ls [.int b1, .int b0, .ref r] ws = (ai_Call 211 [.ref r, .int b0, .int b1] ws).bind fun q => ai_Run 260 6 ls (q.1.toList ++ []) q.2 := R_callV hc_260 dX11_suspect_3 hv_260 (w := 1240) rfl (Nat.le_of_ble_eq_true rfl) hk_211 (by rw [hn_211]; rfl) rfl (Nat.le_of_ble_eq_true rfl) rfl
theorem r_260_6 (ls st : List Value) (a : Int32) (ws : ai_W) : ai_Run 260 6 ls (.int a :: st) ws = if a = 0 then ai_Run 260 9 ls st ws else ai_Run 260 11 ls st ws := R_if_ne hc_260 dX11_suspect_6 rfl rfl
theorem r_260_9 (ls st : List Value) (ws : ai_W) : ai_Run 260 9 ls st ws = ai_Run 260 10 ls (.int (-1) :: st) ws := R_iconst hc_260 dX11_suspect_9 (by decide) rfl
theorem r_260_10 (ls : List Value) (x : Int32) (ws : ai_W) : ai_Run 260 10 ls [.int x] ws = some (some (.int x), ws) := R_iret hc_260 dX11_suspect_10 ht_260
theorem r_260_11 (ls st : List Value) (ws : ai_W) : ai_Run 260 11 ls st ws = ai_Run 260 13 ls (.int (-4) :: st) ws := R_bipush hc_260 dX11_suspect_11 (by decide) rfl
theorem r_260_13 (l0 l1 l2 l3 l4 l5 : Value) (a : Int32) (st : List Value) (ws : ai_W) : ai_Run 260 13 [l0, l1, l2, l3, l4, l5] (.int a :: st) ws = ai_Run 260 14 [l0, l1, l2, .int a, l4, l5] st ws := R_istore_n hc_260 dX11_suspect_13 (Nat.le_of_ble_eq_true rfl) rfl rfl
theorem r_260_14 (ls st : List Value) (ws : ai_W) : ai_Run 260 14 ls st ws = ai_Run 260 15 ls (.int 0 :: st) ws := R_iconst hc_260 dX11_suspect_14 (by decide) rfl
theorem r_260_15 (l0 l1 l2 l3 l4 l5 : Value) (a : Int32) (st : List Value) (ws : ai_W) : ai_Run 260 15 [l0, l1, l2, l3, l4, l5] (.int a :: st) ws = ai_Run 260 17 [l0, l1, l2, l3, .int a, l5] st ws := R_istore hc_260 dX11_suspect_15 (Nat.le_of_ble_eq_true rfl) rfl rfl
theorem r_260_17 (l0 l1 l2 l3 l5 : Value) (a : Int32) (st : List Value) (ws : ai_W) : ai_Run 260 17 [l0, l1, l2, l3, .int a, l5] st ws = ai_Run 260 19 [l0, l1, l2, l3, .int a, l5] (.int a :: st) ws := R_iload hc_260 dX11_suspect_17 rfl rfl
theorem r_260_19 (l1 l2 l3 l4 l5 : Value) (a : Nat) (st : List Value) (ws : ai_W) : ai_Run 260 19 [.ref a, l1, l2, l3, l4, l5] st ws = ai_Run 260 20 [.ref a, l1, l2, l3, l4, l5] (.ref a :: st) ws := R_aload_n hc_260 dX11_suspect_19 rfl rfl
theorem r_260_20 (ls st : List Value) (a : Nat) (ws : ai_W) : ai_Run 260 20 ls (.ref a :: st) ws = (ai_fget ws a 11 0).bind fun q => ai_Run 260 23 ls (q :: st) ws := R_getf hc_260 dX11_suspect_20 hv_260 (w := 1024) rfl rfl
theorem r_260_23 (ls st : List Value) (ws : ai_W) : ai_Run 260 23 ls st ws = ai_Run 260 24 ls (.int 0 :: st) ws := R_iconst hc_260 dX11_suspect_23 (by decide) rfl
theorem r_260_24 (ls st : List Value) (a : Nat) (i : Int32) (ws : ai_W) : ai_Run 260 24 ls (.int i :: .ref a :: st) ws = (ai_aget ws a i).bind fun q => ai_Run 260 25 ls (.int q :: st) ws := R_iaload hc_260 dX11_suspect_24 rfl
theorem r_260_25 (ls st : List Value) (a b : Int32) (ws : ai_W) : ai_Run 260 25 ls (.int b :: .int a :: st) ws = if a < b then ai_Run 260 28 ls st ws else ai_Run 260 86 ls st ws := R_cmp_ge hc_260 dX11_suspect_25 rfl rfl
theorem r_260_28 (l1 l2 l3 l4 l5 : Value) (a : Nat) (st : List Value) (ws : ai_W) : ai_Run 260 28 [.ref a, l1, l2, l3, l4, l5] st ws = ai_Run 260 29 [.ref a, l1, l2, l3, l4, l5] (.ref a :: st) ws := R_aload_n hc_260 dX11_suspect_28 rfl rfl
theorem r_260_29 (l0 l1 l2 l3 l5 : Value) (a : Int32) (st : List Value) (ws : ai_W) : ai_Run 260 29 [l0, l1, l2, l3, .int a, l5] st ws = ai_Run 260 31 [l0, l1, l2, l3, .int a, l5] (.int a :: st) ws := R_iload hc_260 dX11_suspect_29 rfl rfl
theorem r_260_31 (l0 l2 l3 l4 l5 : Value) (a : Int32) (st : List Value) (ws : ai_W) : ai_Run 260 31 [l0, .int a, l2, l3, l4, l5] st ws = ai_Run 260 32 [l0, .int a, l2, l3, l4, l5] (.int a :: st) ws := R_iload_n hc_260 dX11_suspect_31 rfl rfl
theorem r_260_32 (l0 l1 l3 l4 l5 : Value) (a : Int32) (st : List Value) (ws : ai_W) : ai_Run 260 32 [l0, l1, .int a, l3, l4, l5] st ws = ai_Run 260 33 [l0, l1, .int a, l3, l4, l5] (.int a :: st) ws := R_iload_n hc_260 dX11_suspect_32 rfl rfl
theorem r_260_33 (ls : List Value) (r : Nat) (b0 : Int32) (b1 : Int32) (b2 : Int32) (ws : ai_W) : ai_Run 260 33 ls [.int b2, .int b1, .int b0, .ref r] ws = (ai_Call 196 [.ref r, .int b0, .int b1, .int b2] ws).bind fun q => ai_Run 260 36 ls (q.1.toList ++ []) q.2 := R_callV hc_260 dX11_suspect_33 hv_260 (w := 1248) rfl (Nat.le_of_ble_eq_true rfl) hk_196 (by rw [hn_196]; rfl) rfl (Nat.le_of_ble_eq_true rfl) rfl
theorem r_260_36 (ls st : List Value) (a : Int32) (ws : ai_W) : ai_Run 260 36 ls (.int a :: st) ws = if a = 0 then ai_Run 260 65 ls st ws else ai_Run 260 39 ls st ws := R_if_eq hc_260 dX11_suspect_36 rfl rfl
theorem r_260_39 (l0 l1 l2 l4 l5 : Value) (a : Int32) (st : List Value) (ws : ai_W) : ai_Run 260 39 [l0, l1, l2, .int a, l4, l5] st ws = ai_Run 260 40 [l0, l1, l2, .int a, l4, l5] (.int a :: st) ws := R_iload_n hc_260 dX11_suspect_39 rfl rfl
theorem r_260_40 (ls st : List Value) (ws : ai_W) : ai_Run 260 40 ls st ws = ai_Run 260 42 ls (.int (-4) :: st) ws := R_bipush hc_260 dX11_suspect_40 (by decide) rfl
theorem r_260_42 (ls st : List Value) (a b : Int32) (ws : ai_W) : ai_Run 260 42 ls (.int b :: .int a :: st) ws = if a = b then ai_Run 260 61 ls st ws else ai_Run 260 45 ls st ws := R_cmp_eq hc_260 dX11_suspect_42 rfl rfl
theorem r_260_45 (l1 l2 l3 l4 l5 : Value) (a : Nat) (st : List Value) (ws : ai_W) : ai_Run 260 45 [.ref a, l1, l2, l3, l4, l5] st ws = ai_Run 260 46 [.ref a, l1, l2, l3, l4, l5] (.ref a :: st) ws := R_aload_n hc_260 dX11_suspect_45 rfl rfl
theorem r_260_46 (l0 l1 l2 l3 l5 : Value) (a : Int32) (st : List Value) (ws : ai_W) : ai_Run 260 46 [l0, l1, l2, l3, .int a, l5] st ws = ai_Run 260 48 [l0, l1, l2, l3, .int a, l5] (.int a :: st) ws := R_iload hc_260 dX11_suspect_46 rfl rfl
theorem r_260_48 (l0 l2 l3 l4 l5 : Value) (a : Int32) (st : List Value) (ws : ai_W) : ai_Run 260 48 [l0, .int a, l2, l3, l4, l5] st ws = ai_Run 260 49 [l0, .int a, l2, l3, l4, l5] (.int a :: st) ws := R_iload_n hc_260 dX11_suspect_48 rfl rfl
theorem r_260_49 (ls : List Value) (r : Nat) (b0 : Int32) (b1 : Int32) (ws : ai_W) : ai_Run 260 49 ls [.int b1, .int b0, .ref r] ws = (ai_Call 194 [.ref r, .int b0, .int b1] ws).bind fun q => ai_Run 260 52 ls (q.1.toList ++ []) q.2 := R_callV hc_260 dX11_suspect_49 hv_260 (w := 1205) rfl (Nat.le_of_ble_eq_true rfl) hk_194 (by rw [hn_194]; rfl) rfl (Nat.le_of_ble_eq_true rfl) rfl
theorem r_260_52 (l1 l2 l3 l4 l5 : Value) (a : Nat) (st : List Value) (ws : ai_W) : ai_Run 260 52 [.ref a, l1, l2, l3, l4, l5] st ws = ai_Run 260 53 [.ref a, l1, l2, l3, l4, l5] (.ref a :: st) ws := R_aload_n hc_260 dX11_suspect_52 rfl rfl
theorem r_260_53 (l0 l1 l2 l4 l5 : Value) (a : Int32) (st : List Value) (ws : ai_W) : ai_Run 260 53 [l0, l1, l2, .int a, l4, l5] st ws = ai_Run 260 54 [l0, l1, l2, .int a, l4, l5] (.int a :: st) ws := R_iload_n hc_260 dX11_suspect_53 rfl rfl
theorem r_260_54 (l0 l2 l3 l4 l5 : Value) (a : Int32) (st : List Value) (ws : ai_W) : ai_Run 260 54 [l0, .int a, l2, l3, l4, l5] st ws = ai_Run 260 55 [l0, .int a, l2, l3, l4, l5] (.int a :: st) ws := R_iload_n hc_260 dX11_suspect_54 rfl rfl
theorem r_260_55 (ls : List Value) (r : Nat) (b0 : Int32) (b1 : Int32) (s0 : Value) (ws : ai_W) : ai_Run 260 55 ls [.int b1, .int b0, .ref r, s0] ws = (ai_Call 194 [.ref r, .int b0, .int b1] ws).bind fun q => ai_Run 260 58 ls (q.1.toList ++ [s0]) q.2 := R_callV hc_260 dX11_suspect_55 hv_260 (w := 1205) rfl (Nat.le_of_ble_eq_true rfl) hk_194 (by rw [hn_194]; rfl) rfl (Nat.le_of_ble_eq_true rfl) rfl
theorem r_260_58 (ls st : List Value) (a b : Int32) (ws : ai_W) : ai_Run 260 58 ls (.int b :: .int a :: st) ws = if b < a then ai_Run 260 61 ls st ws else ai_Run 260 65 ls st ws := R_cmp_le hc_260 dX11_suspect_58 rfl rfl
theorem r_260_61 (ls st : List Value) (ws : ai_W) : ai_Run 260 61 ls st ws = ai_Run 260 62 ls (.int 1 :: st) ws := R_iconst hc_260 dX11_suspect_61 (by decide) rfl
theorem r_260_62 (ls st : List Value) (ws : ai_W) : ai_Run 260 62 ls st ws = ai_Run 260 66 ls st ws := R_goto hc_260 dX11_suspect_62 rfl
theorem r_260_65 (ls st : List Value) (ws : ai_W) : ai_Run 260 65 ls st ws = ai_Run 260 66 ls (.int 0 :: st) ws := R_iconst hc_260 dX11_suspect_65 (by decide) rfl
theorem r_260_66 (l0 l1 l2 l3 l4 l5 : Value) (a : Int32) (st : List Value) (ws : ai_W) : ai_Run 260 66 [l0, l1, l2, l3, l4, l5] (.int a :: st) ws = ai_Run 260 68 [l0, l1, l2, l3, l4, .int a] st ws := R_istore hc_260 dX11_suspect_66 (Nat.le_of_ble_eq_true rfl) rfl rfl
theorem r_260_68 (l0 l1 l2 l3 l4 : Value) (a : Int32) (st : List Value) (ws : ai_W) : ai_Run 260 68 [l0, l1, l2, l3, l4, .int a] st ws = ai_Run 260 70 [l0, l1, l2, l3, l4, .int a] (.int a :: st) ws := R_iload hc_260 dX11_suspect_68 rfl rfl
theorem r_260_70 (ls st : List Value) (a : Int32) (ws : ai_W) : ai_Run 260 70 ls (.int a :: st) ws = if a = 0 then ai_Run 260 78 ls st ws else ai_Run 260 73 ls st ws := R_if_eq hc_260 dX11_suspect_70 rfl rfl
theorem r_260_73 (l0 l1 l2 l3 l5 : Value) (a : Int32) (st : List Value) (ws : ai_W) : ai_Run 260 73 [l0, l1, l2, l3, .int a, l5] st ws = ai_Run 260 75 [l0, l1, l2, l3, .int a, l5] (.int a :: st) ws := R_iload hc_260 dX11_suspect_73 rfl rfl
theorem r_260_75 (ls st : List Value) (ws : ai_W) : ai_Run 260 75 ls st ws = ai_Run 260 79 ls st ws := R_goto hc_260 dX11_suspect_75 rfl
theorem r_260_78 (l0 l1 l2 l4 l5 : Value) (a : Int32) (st : List Value) (ws : ai_W) : ai_Run 260 78 [l0, l1, l2, .int a, l4, l5] st ws = ai_Run 260 79 [l0, l1, l2, .int a, l4, l5] (.int a :: st) ws := R_iload_n hc_260 dX11_suspect_78 rfl rfl
theorem r_260_79 (l0 l1 l2 l3 l4 l5 : Value) (a : Int32) (st : List Value) (ws : ai_W) : ai_Run 260 79 [l0, l1, l2, l3, l4, l5] (.int a :: st) ws = ai_Run 260 80 [l0, l1, l2, .int a, l4, l5] st ws := R_istore_n hc_260 dX11_suspect_79 (Nat.le_of_ble_eq_true rfl) rfl rfl
theorem r_260_80 (l0 l1 l2 l3 l5 : Value) (a : Int32) (st : List Value) (ws : ai_W) : ai_Run 260 80 [l0, l1, l2, l3, .int a, l5] st ws = ai_Run 260 83 [l0, l1, l2, l3, .int (a + 1), l5] st ws := R_iinc hc_260 dX11_suspect_80 rfl (by decide) rfl rfl
theorem r_260_83 (ls st : List Value) (ws : ai_W) : ai_Run 260 83 ls st ws = ai_Run 260 17 ls st ws := R_goto hc_260 dX11_suspect_83 rfl
theorem r_260_86 (l0 l1 l2 l4 l5 : Value) (a : Int32) (st : List Value) (ws : ai_W) : ai_Run 260 86 [l0, l1, l2, .int a, l4, l5] st ws = ai_Run 260 87 [l0, l1, l2, .int a, l4, l5] (.int a :: st) ws := R_iload_n hc_260 dX11_suspect_86 rfl rfl
theorem r_260_87 (ls : List Value) (x : Int32) (ws : ai_W) : ai_Run 260 87 ls [.int x] ws = some (some (.int x), ws) := R_iret hc_260 dX11_suspect_87 ht_260
theorem dX11_suspectAgain_0 : decode cX11_suspectAgain 0 = .ok (.aload_n 0, 1) := by decide +kernel
theorem dX11_suspectAgain_1 : decode cX11_suspectAgain 1 = .ok (.iload_n 1, 1) := by decide +kernel
theorem dX11_suspectAgain_2 : decode cX11_suspectAgain 2 = .ok (.iload_n 2, 1) := by decide +kernel
theorem dX11_suspectAgain_3 : decode cX11_suspectAgain 3 = .ok (.invokevirtual 209, 3) := by decide +kernel
theorem dX11_suspectAgain_6 : decode cX11_suspectAgain 6 = .ok (.ireturn, 1) := by decide +kernel
theorem e_261 (r : Nat) (a0 : Int32) (a1 : Int32) (ws : ai_W) : ai_Call 261 [.ref r, .int a0, .int a1] ws = if ai_isob ws r 11 = true then ai_Run 261 0 [.ref r, .int a0, .int a1] [] ws else none := R_entV hk_261 ⟨⟨rfl, rfl⟩, Nat.le_of_ble_eq_true rfl⟩ rfl
theorem r_261_0 (l1 l2 : Value) (a : Nat) (st : List Value) (ws : ai_W) : ai_Run 261 0 [.ref a, l1, l2] st ws = ai_Run 261 1 [.ref a, l1, l2] (.ref a :: st) ws := R_aload_n hc_261 dX11_suspectAgain_0 rfl rfl
theorem r_261_1 (l0 l2 : Value) (a : Int32) (st : List Value) (ws : ai_W) : ai_Run 261 1 [l0, .int a, l2] st ws = ai_Run 261 2 [l0, .int a, l2] (.int a :: st) ws := R_iload_n hc_261 dX11_suspectAgain_1 rfl rfl
theorem r_261_2 (l0 l1 : Value) (a : Int32) (st : List Value) (ws : ai_W) : ai_Run 261 2 [l0, l1, .int a] st ws = ai_Run 261 3 [l0, l1, .int a] (.int a :: st) ws := R_iload_n hc_261 dX11_suspectAgain_2 rfl rfl
theorem r_261_3 (ls : List Value) (r : Nat) (b0 : Int32) (b1 : Int32) (ws : ai_W) : ai_Run 261 3 ls [.int b1, .int b0, .ref r] ws = (ai_Call 260 [.ref r, .int b0, .int b1] ws).bind fun q => ai_Run 261 6 ls (q.1.toList ++ []) q.2 := R_callV hc_261 dX11_suspectAgain_3 hv_261 (w := 1357) rfl (Nat.le_of_ble_eq_true rfl) hk_260 (by rw [hn_260]; rfl) rfl (Nat.le_of_ble_eq_true rfl) rfl
theorem r_261_6 (ls : List Value) (x : Int32) (ws : ai_W) : ai_Run 261 6 ls [.int x] ws = some (some (.int x), ws) := R_iret hc_261 dX11_suspectAgain_6 ht_261
theorem dX11_swear_0 : decode cX11_swear 0 = .ok (.aload_n 0, 1) := by decide +kernel
theorem dX11_swear_1 : decode cX11_swear 1 = .ok (.invokevirtual 78, 3) := by decide +kernel
theorem dX11_swear_4 : decode cX11_swear 4 = .ok (.aload_n 0, 1) := by decide +kernel
theorem dX11_swear_5 : decode cX11_swear 5 = .ok (.aload_n 0, 1) := by decide +kernel
theorem dX11_swear_6 : decode cX11_swear 6 = .ok (.iload_n 1, 1) := by decide +kernel
theorem dX11_swear_7 : decode cX11_swear 7 = .ok (.iload_n 2, 1) := by decide +kernel
theorem dX11_swear_8 : decode cX11_swear 8 = .ok (.invokevirtual 126, 3) := by decide +kernel
theorem dX11_swear_11 : decode cX11_swear 11 = .ok (.invokevirtual 85, 3) := by decide +kernel
theorem dX11_swear_14 : decode cX11_swear 14 = .ok (.ireturn, 1) := by decide +kernel
theorem e_262 (r : Nat) (a0 : Int32) (a1 : Int32) (ws : ai_W) : ai_Call 262 [.ref r, .int a0, .int a1] ws = if ai_isob ws r 11 = true then ai_Run 262 0 [.ref r, .int a0, .int a1] [] ws else none := R_entV hk_262 ⟨⟨rfl, rfl⟩, Nat.le_of_ble_eq_true rfl⟩ rfl
theorem r_262_0 (l1 l2 : Value) (a : Nat) (st : List Value) (ws : ai_W) : ai_Run 262 0 [.ref a, l1, l2] st ws = ai_Run 262 1 [.ref a, l1, l2] (.ref a :: st) ws := R_aload_n hc_262 dX11_swear_0 rfl rfl
theorem r_262_1 (ls : List Value) (r : Nat) (ws : ai_W) : ai_Run 262 1 ls [.ref r] ws = (ai_Call 182 [.ref r] ws).bind fun q => ai_Run 262 4 ls (q.1.toList ++ []) q.2 := R_callV hc_262 dX11_swear_1 hv_262 (w := 1077) rfl (Nat.le_of_ble_eq_true rfl) hk_182 (by rw [hn_182]; rfl) rfl (Nat.le_of_ble_eq_true rfl) rfl
theorem r_262_4 (l1 l2 : Value) (a : Nat) (st : List Value) (ws : ai_W) : ai_Run 262 4 [.ref a, l1, l2] st ws = ai_Run 262 5 [.ref a, l1, l2] (.ref a :: st) ws := R_aload_n hc_262 dX11_swear_4 rfl rfl
theorem r_262_5 (l1 l2 : Value) (a : Nat) (st : List Value) (ws : ai_W) : ai_Run 262 5 [.ref a, l1, l2] st ws = ai_Run 262 6 [.ref a, l1, l2] (.ref a :: st) ws := R_aload_n hc_262 dX11_swear_5 rfl rfl
theorem r_262_6 (l0 l2 : Value) (a : Int32) (st : List Value) (ws : ai_W) : ai_Run 262 6 [l0, .int a, l2] st ws = ai_Run 262 7 [l0, .int a, l2] (.int a :: st) ws := R_iload_n hc_262 dX11_swear_6 rfl rfl
theorem r_262_7 (l0 l1 : Value) (a : Int32) (st : List Value) (ws : ai_W) : ai_Run 262 7 [l0, l1, .int a] st ws = ai_Run 262 8 [l0, l1, .int a] (.int a :: st) ws := R_iload_n hc_262 dX11_swear_7 rfl rfl
theorem r_262_8 (ls : List Value) (r : Nat) (b0 : Int32) (b1 : Int32) (s0 : Value) (ws : ai_W) : ai_Run 262 8 ls [.int b1, .int b0, .ref r, s0] ws = (ai_Call 221 [.ref r, .int b0, .int b1] ws).bind fun q => ai_Run 262 11 ls (q.1.toList ++ [s0]) q.2 := R_callV hc_262 dX11_swear_8 hv_262 (w := 1189) rfl (Nat.le_of_ble_eq_true rfl) hk_221 (by rw [hn_221]; rfl) rfl (Nat.le_of_ble_eq_true rfl) rfl
theorem r_262_11 (ls : List Value) (r : Nat) (b0 : Int32) (ws : ai_W) : ai_Run 262 11 ls [.int b0, .ref r] ws = (ai_Call 187 [.ref r, .int b0] ws).bind fun q => ai_Run 262 14 ls (q.1.toList ++ []) q.2 := R_callV hc_262 dX11_swear_11 hv_262 (w := 1096) rfl (Nat.le_of_ble_eq_true rfl) hk_187 (by rw [hn_187]; rfl) rfl (Nat.le_of_ble_eq_true rfl) rfl
theorem r_262_14 (ls : List Value) (x : Int32) (ws : ai_W) : ai_Run 262 14 ls [.int x] ws = some (some (.int x), ws) := R_iret hc_262 dX11_swear_14 ht_262
theorem dX11_tellChapter_0 : decode cX11_tellChapter 0 = .ok (.iload_n 1, 1) := by decide +kernel
theorem dX11_tellChapter_1 : decode cX11_tellChapter 1 = .ok (.invokestatic 94, 3) := by decide +kernel
theorem dX11_tellChapter_4 : decode cX11_tellChapter 4 = .ok (.ifCond .ne 6, 3) := by decide +kernel
theorem dX11_tellChapter_7 : decode cX11_tellChapter 7 = .ok (.bipush (-2), 2) := by decide +kernel
theorem dX11_tellChapter_9 : decode cX11_tellChapter 9 = .ok (.ireturn, 1) := by decide +kernel
theorem dX11_tellChapter_10 : decode cX11_tellChapter 10 = .ok (.aload_n 0, 1) := by decide +kernel
theorem dX11_tellChapter_11 : decode cX11_tellChapter 11 = .ok (.iconst 0, 1) := by decide +kernel
theorem dX11_tellChapter_12 : decode cX11_tellChapter 12 = .ok (.putfield 215, 3) := by decide +kernel
theorem dX11_tellChapter_15 : decode cX11_tellChapter 15 = .ok (.aload_n 0, 1) := by decide +kernel
theorem dX11_tellChapter_16 : decode cX11_tellChapter 16 = .ok (.iload_n 1, 1) := by decide +kernel
theorem dX11_tellChapter_17 : decode cX11_tellChapter 17 = .ok (.invokevirtual 218, 3) := by decide +kernel
theorem dX11_tellChapter_20 : decode cX11_tellChapter 20 = .ok (.aload_n 0, 1) := by decide +kernel
theorem dX11_tellChapter_21 : decode cX11_tellChapter 21 = .ok (.getfield 9, 3) := by decide +kernel
theorem dX11_tellChapter_24 : decode cX11_tellChapter 24 = .ok (.iconst 3, 1) := by decide +kernel
theorem dX11_tellChapter_25 : decode cX11_tellChapter 25 = .ok (.iload_n 1, 1) := by decide +kernel
theorem dX11_tellChapter_26 : decode cX11_tellChapter 26 = .ok (.iadd, 1) := by decide +kernel
theorem dX11_tellChapter_27 : decode cX11_tellChapter 27 = .ok (.iaload, 1) := by decide +kernel
theorem dX11_tellChapter_28 : decode cX11_tellChapter 28 = .ok (.istore_n 2, 1) := by decide +kernel
theorem dX11_tellChapter_29 : decode cX11_tellChapter 29 = .ok (.iload_n 2, 1) := by decide +kernel
theorem dX11_tellChapter_30 : decode cX11_tellChapter 30 = .ok (.bipush (-4), 2) := by decide +kernel
theorem dX11_tellChapter_32 : decode cX11_tellChapter 32 = .ok (.if_icmp .eq 33, 3) := by decide +kernel
theorem dX11_tellChapter_35 : decode cX11_tellChapter 35 = .ok (.aload_n 0, 1) := by decide +kernel
theorem dX11_tellChapter_36 : decode cX11_tellChapter 36 = .ok (.bipush 64, 2) := by decide +kernel
theorem dX11_tellChapter_38 : decode cX11_tellChapter 38 = .ok (.invokevirtual 222, 3) := by decide +kernel
theorem dX11_tellChapter_41 : decode cX11_tellChapter 41 = .ok (.aload_n 0, 1) := by decide +kernel
theorem dX11_tellChapter_42 : decode cX11_tellChapter 42 = .ok (.iload_n 2, 1) := by decide +kernel
theorem dX11_tellChapter_43 : decode cX11_tellChapter 43 = .ok (.invokevirtual 218, 3) := by decide +kernel
theorem dX11_tellChapter_46 : decode cX11_tellChapter 46 = .ok (.aload_n 0, 1) := by decide +kernel
theorem dX11_tellChapter_47 : decode cX11_tellChapter 47 = .ok (.getfield 9, 3) := by decide +kernel
theorem dX11_tellChapter_50 : decode cX11_tellChapter 50 = .ok (.bipush 34, 2) := by decide +kernel
theorem dX11_tellChapter_52 : decode cX11_tellChapter 52 = .ok (.iload_n 2, 1) := by decide +kernel
theorem dX11_tellChapter_53 : decode cX11_tellChapter 53 = .ok (.iadd, 1) := by decide +kernel
theorem dX11_tellChapter_54 : decode cX11_tellChapter 54 = .ok (.iaload, 1) := by decide +kernel
theorem dX11_tellChapter_55 : decode cX11_tellChapter 55 = .ok (.iconst 1, 1) := by decide +kernel
theorem dX11_tellChapter_56 : decode cX11_tellChapter 56 = .ok (.if_icmp .ne 9, 3) := by decide +kernel
theorem dX11_tellChapter_59 : decode cX11_tellChapter 59 = .ok (.aload_n 0, 1) := by decide +kernel
theorem dX11_tellChapter_60 : decode cX11_tellChapter 60 = .ok (.bipush 33, 2) := by decide +kernel
theorem dX11_tellChapter_62 : decode cX11_tellChapter 62 = .ok (.invokevirtual 222, 3) := by decide +kernel
theorem dX11_tellChapter_65 : decode cX11_tellChapter 65 = .ok (.aload_n 0, 1) := by decide +kernel
theorem dX11_tellChapter_66 : decode cX11_tellChapter 66 = .ok (.bipush 58, 2) := by decide +kernel
theorem dX11_tellChapter_68 : decode cX11_tellChapter 68 = .ok (.invokevirtual 222, 3) := by decide +kernel
theorem dX11_tellChapter_71 : decode cX11_tellChapter 71 = .ok (.iconst 1, 1) := by decide +kernel
theorem dX11_tellChapter_72 : decode cX11_tellChapter 72 = .ok (.istore_n 3, 1) := by decide +kernel
theorem dX11_tellChapter_73 : decode cX11_tellChapter 73 = .ok (.iconst 0, 1) := by decide +kernel
theorem dX11_tellChapter_74 : decode cX11_tellChapter 74 = .ok (.istore 4, 2) := by decide +kernel
theorem dX11_tellChapter_76 : decode cX11_tellChapter 76 = .ok (.iload 4, 2) := by decide +kernel
theorem dX11_tellChapter_78 : decode cX11_tellChapter 78 = .ok (.aload_n 0, 1) := by decide +kernel
theorem dX11_tellChapter_79 : decode cX11_tellChapter 79 = .ok (.getfield 9, 3) := by decide +kernel
theorem dX11_tellChapter_82 : decode cX11_tellChapter 82 = .ok (.iconst 0, 1) := by decide +kernel
theorem dX11_tellChapter_83 : decode cX11_tellChapter 83 = .ok (.iaload, 1) := by decide +kernel
theorem dX11_tellChapter_84 : decode cX11_tellChapter 84 = .ok (.if_icmp .ge 37, 3) := by decide +kernel
theorem dX11_tellChapter_87 : decode cX11_tellChapter 87 = .ok (.aload_n 0, 1) := by decide +kernel
theorem dX11_tellChapter_88 : decode cX11_tellChapter 88 = .ok (.iload 4, 2) := by decide +kernel
theorem dX11_tellChapter_90 : decode cX11_tellChapter 90 = .ok (.iload_n 1, 1) := by decide +kernel
theorem dX11_tellChapter_91 : decode cX11_tellChapter 91 = .ok (.invokevirtual 151, 3) := by decide +kernel
theorem dX11_tellChapter_94 : decode cX11_tellChapter 94 = .ok (.ifCond .eq 21, 3) := by decide +kernel
theorem dX11_tellChapter_97 : decode cX11_tellChapter 97 = .ok (.iload_n 3, 1) := by decide +kernel
theorem dX11_tellChapter_98 : decode cX11_tellChapter 98 = .ok (.ifCond .ne 9, 3) := by decide +kernel
theorem dX11_tellChapter_101 : decode cX11_tellChapter 101 = .ok (.aload_n 0, 1) := by decide +kernel
theorem dX11_tellChapter_102 : decode cX11_tellChapter 102 = .ok (.bipush 44, 2) := by decide +kernel
theorem dX11_tellChapter_104 : decode cX11_tellChapter 104 = .ok (.invokevirtual 222, 3) := by decide +kernel
theorem dX11_tellChapter_107 : decode cX11_tellChapter 107 = .ok (.iconst 0, 1) := by decide +kernel
theorem dX11_tellChapter_108 : decode cX11_tellChapter 108 = .ok (.istore_n 3, 1) := by decide +kernel
theorem dX11_tellChapter_109 : decode cX11_tellChapter 109 = .ok (.aload_n 0, 1) := by decide +kernel
theorem dX11_tellChapter_110 : decode cX11_tellChapter 110 = .ok (.iload 4, 2) := by decide +kernel
theorem dX11_tellChapter_112 : decode cX11_tellChapter 112 = .ok (.invokevirtual 218, 3) := by decide +kernel
theorem dX11_tellChapter_115 : decode cX11_tellChapter 115 = .ok (.iinc 4 1, 3) := by decide +kernel
theorem dX11_tellChapter_118 : decode cX11_tellChapter 118 = .ok (.goto (-42), 3) := by decide +kernel
theorem dX11_tellChapter_121 : decode cX11_tellChapter 121 = .ok (.aload_n 0, 1) := by decide +kernel
theorem dX11_tellChapter_122 : decode cX11_tellChapter 122 = .ok (.getfield 215, 3) := by decide +kernel
theorem dX11_tellChapter_125 : decode cX11_tellChapter 125 = .ok (.ireturn, 1) := by decide +kernel
theorem e_263 (r : Nat) (a0 : Int32) (ws : ai_W) : ai_Call 263 [.ref r, .int a0] ws = if ai_isob ws r 11 = true then ai_Run 263 0 [.ref r, .int a0, .null, .null, .null] [] ws else none := R_entV hk_263 ⟨⟨rfl, rfl⟩, Nat.le_of_ble_eq_true rfl⟩ rfl
theorem r_263_0 (l0 l2 l3 l4 : Value) (a : Int32) (st : List Value) (ws : ai_W) : ai_Run 263 0 [l0, .int a, l2, l3, l4] st ws = ai_Run 263 1 [l0, .int a, l2, l3, l4] (.int a :: st) ws := R_iload_n hc_263 dX11_tellChapter_0 rfl rfl
theorem r_263_1 (ls : List Value) (b0 : Int32) (ws : ai_W) : ai_Run 263 1 ls [.int b0] ws = (ai_Call 207 [.int b0] ws).bind fun q => ai_Run 263 4 ls (q.1.toList ++ []) q.2 := R_callS hc_263 dX11_tellChapter_1 hv_263 (w := 1130) rfl (Nat.le_of_ble_eq_true rfl) hk_207 (by rw [hn_207]; rfl) rfl (Nat.le_of_ble_eq_true rfl) rfl
theorem r_263_4 (ls st : List Value) (a : Int32) (ws : ai_W) : ai_Run 263 4 ls (.int a :: st) ws = if a = 0 then ai_Run 263 7 ls st ws else ai_Run 263 10 ls st ws := R_if_ne hc_263 dX11_tellChapter_4 rfl rfl
theorem r_263_7 (ls st : List Value) (ws : ai_W) : ai_Run 263 7 ls st ws = ai_Run 263 9 ls (.int (-2) :: st) ws := R_bipush hc_263 dX11_tellChapter_7 (by decide) rfl
theorem r_263_9 (ls : List Value) (x : Int32) (ws : ai_W) : ai_Run 263 9 ls [.int x] ws = some (some (.int x), ws) := R_iret hc_263 dX11_tellChapter_9 ht_263
theorem r_263_10 (l1 l2 l3 l4 : Value) (a : Nat) (st : List Value) (ws : ai_W) : ai_Run 263 10 [.ref a, l1, l2, l3, l4] st ws = ai_Run 263 11 [.ref a, l1, l2, l3, l4] (.ref a :: st) ws := R_aload_n hc_263 dX11_tellChapter_10 rfl rfl
theorem r_263_11 (ls st : List Value) (ws : ai_W) : ai_Run 263 11 ls st ws = ai_Run 263 12 ls (.int 0 :: st) ws := R_iconst hc_263 dX11_tellChapter_11 (by decide) rfl
theorem r_263_12 (ls st : List Value) (a : Nat) (x : Value) (ws : ai_W) : ai_Run 263 12 ls (x :: .ref a :: st) ws = (ai_fput ws a 11 10 x).bind fun ws => ai_Run 263 15 ls st ws := R_putf hc_263 dX11_tellChapter_12 hv_263 (w := 1034) rfl rfl rfl
theorem r_263_15 (l1 l2 l3 l4 : Value) (a : Nat) (st : List Value) (ws : ai_W) : ai_Run 263 15 [.ref a, l1, l2, l3, l4] st ws = ai_Run 263 16 [.ref a, l1, l2, l3, l4] (.ref a :: st) ws := R_aload_n hc_263 dX11_tellChapter_15 rfl rfl
theorem r_263_16 (l0 l2 l3 l4 : Value) (a : Int32) (st : List Value) (ws : ai_W) : ai_Run 263 16 [l0, .int a, l2, l3, l4] st ws = ai_Run 263 17 [l0, .int a, l2, l3, l4] (.int a :: st) ws := R_iload_n hc_263 dX11_tellChapter_16 rfl rfl
theorem r_263_17 (ls : List Value) (r : Nat) (b0 : Int32) (ws : ai_W) : ai_Run 263 17 ls [.int b0, .ref r] ws = (ai_Call 246 [.ref r, .int b0] ws).bind fun q => ai_Run 263 20 ls (q.1.toList ++ []) q.2 := R_callV hc_263 dX11_tellChapter_17 hv_263 (w := 1370) rfl (Nat.le_of_ble_eq_true rfl) hk_246 (by rw [hn_246]; rfl) rfl (Nat.le_of_ble_eq_true rfl) rfl
theorem r_263_20 (l1 l2 l3 l4 : Value) (a : Nat) (st : List Value) (ws : ai_W) : ai_Run 263 20 [.ref a, l1, l2, l3, l4] st ws = ai_Run 263 21 [.ref a, l1, l2, l3, l4] (.ref a :: st) ws := R_aload_n hc_263 dX11_tellChapter_20 rfl rfl
theorem r_263_21 (ls st : List Value) (a : Nat) (ws : ai_W) : ai_Run 263 21 ls (.ref a :: st) ws = (ai_fget ws a 11 0).bind fun q => ai_Run 263 24 ls (q :: st) ws := R_getf hc_263 dX11_tellChapter_21 hv_263 (w := 1024) rfl rfl
theorem r_263_24 (ls st : List Value) (ws : ai_W) : ai_Run 263 24 ls st ws = ai_Run 263 25 ls (.int 3 :: st) ws := R_iconst hc_263 dX11_tellChapter_24 (by decide) rfl
theorem r_263_25 (l0 l2 l3 l4 : Value) (a : Int32) (st : List Value) (ws : ai_W) : ai_Run 263 25 [l0, .int a, l2, l3, l4] st ws = ai_Run 263 26 [l0, .int a, l2, l3, l4] (.int a :: st) ws := R_iload_n hc_263 dX11_tellChapter_25 rfl rfl
theorem r_263_26 (ls st : List Value) (a b : Int32) (ws : ai_W) : ai_Run 263 26 ls (.int b :: .int a :: st) ws = ai_Run 263 27 ls (.int (a + b) :: st) ws := R_iadd hc_263 dX11_tellChapter_26 rfl
theorem r_263_27 (ls st : List Value) (a : Nat) (i : Int32) (ws : ai_W) : ai_Run 263 27 ls (.int i :: .ref a :: st) ws = (ai_aget ws a i).bind fun q => ai_Run 263 28 ls (.int q :: st) ws := R_iaload hc_263 dX11_tellChapter_27 rfl
theorem r_263_28 (l0 l1 l2 l3 l4 : Value) (a : Int32) (st : List Value) (ws : ai_W) : ai_Run 263 28 [l0, l1, l2, l3, l4] (.int a :: st) ws = ai_Run 263 29 [l0, l1, .int a, l3, l4] st ws := R_istore_n hc_263 dX11_tellChapter_28 (Nat.le_of_ble_eq_true rfl) rfl rfl
theorem r_263_29 (l0 l1 l3 l4 : Value) (a : Int32) (st : List Value) (ws : ai_W) : ai_Run 263 29 [l0, l1, .int a, l3, l4] st ws = ai_Run 263 30 [l0, l1, .int a, l3, l4] (.int a :: st) ws := R_iload_n hc_263 dX11_tellChapter_29 rfl rfl
theorem r_263_30 (ls st : List Value) (ws : ai_W) : ai_Run 263 30 ls st ws = ai_Run 263 32 ls (.int (-4) :: st) ws := R_bipush hc_263 dX11_tellChapter_30 (by decide) rfl
theorem r_263_32 (ls st : List Value) (a b : Int32) (ws : ai_W) : ai_Run 263 32 ls (.int b :: .int a :: st) ws = if a = b then ai_Run 263 65 ls st ws else ai_Run 263 35 ls st ws := R_cmp_eq hc_263 dX11_tellChapter_32 rfl rfl
theorem r_263_35 (l1 l2 l3 l4 : Value) (a : Nat) (st : List Value) (ws : ai_W) : ai_Run 263 35 [.ref a, l1, l2, l3, l4] st ws = ai_Run 263 36 [.ref a, l1, l2, l3, l4] (.ref a :: st) ws := R_aload_n hc_263 dX11_tellChapter_35 rfl rfl
theorem r_263_36 (ls st : List Value) (ws : ai_W) : ai_Run 263 36 ls st ws = ai_Run 263 38 ls (.int 64 :: st) ws := R_bipush hc_263 dX11_tellChapter_36 (by decide) rfl
theorem r_263_38 (ls : List Value) (r : Nat) (b0 : Int32) (ws : ai_W) : ai_Run 263 38 ls [.int b0, .ref r] ws = (ai_Call 244 [.ref r, .int b0] ws).bind fun q => ai_Run 263 41 ls (q.1.toList ++ []) q.2 := R_callV hc_263 dX11_tellChapter_38 hv_263 (w := 1374) rfl (Nat.le_of_ble_eq_true rfl) hk_244 (by rw [hn_244]; rfl) rfl (Nat.le_of_ble_eq_true rfl) rfl
theorem r_263_41 (l1 l2 l3 l4 : Value) (a : Nat) (st : List Value) (ws : ai_W) : ai_Run 263 41 [.ref a, l1, l2, l3, l4] st ws = ai_Run 263 42 [.ref a, l1, l2, l3, l4] (.ref a :: st) ws := R_aload_n hc_263 dX11_tellChapter_41 rfl rfl
theorem r_263_42 (l0 l1 l3 l4 : Value) (a : Int32) (st : List Value) (ws : ai_W) : ai_Run 263 42 [l0, l1, .int a, l3, l4] st ws = ai_Run 263 43 [l0, l1, .int a, l3, l4] (.int a :: st) ws := R_iload_n hc_263 dX11_tellChapter_42 rfl rfl
theorem r_263_43 (ls : List Value) (r : Nat) (b0 : Int32) (ws : ai_W) : ai_Run 263 43 ls [.int b0, .ref r] ws = (ai_Call 246 [.ref r, .int b0] ws).bind fun q => ai_Run 263 46 ls (q.1.toList ++ []) q.2 := R_callV hc_263 dX11_tellChapter_43 hv_263 (w := 1370) rfl (Nat.le_of_ble_eq_true rfl) hk_246 (by rw [hn_246]; rfl) rfl (Nat.le_of_ble_eq_true rfl) rfl
theorem r_263_46 (l1 l2 l3 l4 : Value) (a : Nat) (st : List Value) (ws : ai_W) : ai_Run 263 46 [.ref a, l1, l2, l3, l4] st ws = ai_Run 263 47 [.ref a, l1, l2, l3, l4] (.ref a :: st) ws := R_aload_n hc_263 dX11_tellChapter_46 rfl rfl
theorem r_263_47 (ls st : List Value) (a : Nat) (ws : ai_W) : ai_Run 263 47 ls (.ref a :: st) ws = (ai_fget ws a 11 0).bind fun q => ai_Run 263 50 ls (q :: st) ws := R_getf hc_263 dX11_tellChapter_47 hv_263 (w := 1024) rfl rfl
theorem r_263_50 (ls st : List Value) (ws : ai_W) : ai_Run 263 50 ls st ws = ai_Run 263 52 ls (.int 34 :: st) ws := R_bipush hc_263 dX11_tellChapter_50 (by decide) rfl
theorem r_263_52 (l0 l1 l3 l4 : Value) (a : Int32) (st : List Value) (ws : ai_W) : ai_Run 263 52 [l0, l1, .int a, l3, l4] st ws = ai_Run 263 53 [l0, l1, .int a, l3, l4] (.int a :: st) ws := R_iload_n hc_263 dX11_tellChapter_52 rfl rfl
theorem r_263_53 (ls st : List Value) (a b : Int32) (ws : ai_W) : ai_Run 263 53 ls (.int b :: .int a :: st) ws = ai_Run 263 54 ls (.int (a + b) :: st) ws := R_iadd hc_263 dX11_tellChapter_53 rfl
theorem r_263_54 (ls st : List Value) (a : Nat) (i : Int32) (ws : ai_W) : ai_Run 263 54 ls (.int i :: .ref a :: st) ws = (ai_aget ws a i).bind fun q => ai_Run 263 55 ls (.int q :: st) ws := R_iaload hc_263 dX11_tellChapter_54 rfl
theorem r_263_55 (ls st : List Value) (ws : ai_W) : ai_Run 263 55 ls st ws = ai_Run 263 56 ls (.int 1 :: st) ws := R_iconst hc_263 dX11_tellChapter_55 (by decide) rfl
theorem r_263_56 (ls st : List Value) (a b : Int32) (ws : ai_W) : ai_Run 263 56 ls (.int b :: .int a :: st) ws = if a = b then ai_Run 263 59 ls st ws else ai_Run 263 65 ls st ws := R_cmp_ne hc_263 dX11_tellChapter_56 rfl rfl
theorem r_263_59 (l1 l2 l3 l4 : Value) (a : Nat) (st : List Value) (ws : ai_W) : ai_Run 263 59 [.ref a, l1, l2, l3, l4] st ws = ai_Run 263 60 [.ref a, l1, l2, l3, l4] (.ref a :: st) ws := R_aload_n hc_263 dX11_tellChapter_59 rfl rfl
theorem r_263_60 (ls st : List Value) (ws : ai_W) : ai_Run 263 60 ls st ws = ai_Run 263 62 ls (.int 33 :: st) ws := R_bipush hc_263 dX11_tellChapter_60 (by decide) rfl
theorem r_263_62 (ls : List Value) (r : Nat) (b0 : Int32) (ws : ai_W) : ai_Run 263 62 ls [.int b0, .ref r] ws = (ai_Call 244 [.ref r, .int b0] ws).bind fun q => ai_Run 263 65 ls (q.1.toList ++ []) q.2 := R_callV hc_263 dX11_tellChapter_62 hv_263 (w := 1374) rfl (Nat.le_of_ble_eq_true rfl) hk_244 (by rw [hn_244]; rfl) rfl (Nat.le_of_ble_eq_true rfl) rfl
theorem r_263_65 (l1 l2 l3 l4 : Value) (a : Nat) (st : List Value) (ws : ai_W) : ai_Run 263 65 [.ref a, l1, l2, l3, l4] st ws = ai_Run 263 66 [.ref a, l1, l2, l3, l4] (.ref a :: st) ws := R_aload_n hc_263 dX11_tellChapter_65 rfl rfl
theorem r_263_66 (ls st : List Value) (ws : ai_W) : ai_Run 263 66 ls st ws = ai_Run 263 68 ls (.int 58 :: st) ws := R_bipush hc_263 dX11_tellChapter_66 (by decide) rfl
theorem r_263_68 (ls : List Value) (r : Nat) (b0 : Int32) (ws : ai_W) : ai_Run 263 68 ls [.int b0, .ref r] ws = (ai_Call 244 [.ref r, .int b0] ws).bind fun q => ai_Run 263 71 ls (q.1.toList ++ []) q.2 := R_callV hc_263 dX11_tellChapter_68 hv_263 (w := 1374) rfl (Nat.le_of_ble_eq_true rfl) hk_244 (by rw [hn_244]; rfl) rfl (Nat.le_of_ble_eq_true rfl) rfl
theorem r_263_71 (ls st : List Value) (ws : ai_W) : ai_Run 263 71 ls st ws = ai_Run 263 72 ls (.int 1 :: st) ws := R_iconst hc_263 dX11_tellChapter_71 (by decide) rfl
theorem r_263_72 (l0 l1 l2 l3 l4 : Value) (a : Int32) (st : List Value) (ws : ai_W) : ai_Run 263 72 [l0, l1, l2, l3, l4] (.int a :: st) ws = ai_Run 263 73 [l0, l1, l2, .int a, l4] st ws := R_istore_n hc_263 dX11_tellChapter_72 (Nat.le_of_ble_eq_true rfl) rfl rfl
theorem r_263_73 (ls st : List Value) (ws : ai_W) : ai_Run 263 73 ls st ws = ai_Run 263 74 ls (.int 0 :: st) ws := R_iconst hc_263 dX11_tellChapter_73 (by decide) rfl
theorem r_263_74 (l0 l1 l2 l3 l4 : Value) (a : Int32) (st : List Value) (ws : ai_W) : ai_Run 263 74 [l0, l1, l2, l3, l4] (.int a :: st) ws = ai_Run 263 76 [l0, l1, l2, l3, .int a] st ws := R_istore hc_263 dX11_tellChapter_74 (Nat.le_of_ble_eq_true rfl) rfl rfl
theorem r_263_76 (l0 l1 l2 l3 : Value) (a : Int32) (st : List Value) (ws : ai_W) : ai_Run 263 76 [l0, l1, l2, l3, .int a] st ws = ai_Run 263 78 [l0, l1, l2, l3, .int a] (.int a :: st) ws := R_iload hc_263 dX11_tellChapter_76 rfl rfl
theorem r_263_78 (l1 l2 l3 l4 : Value) (a : Nat) (st : List Value) (ws : ai_W) : ai_Run 263 78 [.ref a, l1, l2, l3, l4] st ws = ai_Run 263 79 [.ref a, l1, l2, l3, l4] (.ref a :: st) ws := R_aload_n hc_263 dX11_tellChapter_78 rfl rfl
theorem r_263_79 (ls st : List Value) (a : Nat) (ws : ai_W) : ai_Run 263 79 ls (.ref a :: st) ws = (ai_fget ws a 11 0).bind fun q => ai_Run 263 82 ls (q :: st) ws := R_getf hc_263 dX11_tellChapter_79 hv_263 (w := 1024) rfl rfl
theorem r_263_82 (ls st : List Value) (ws : ai_W) : ai_Run 263 82 ls st ws = ai_Run 263 83 ls (.int 0 :: st) ws := R_iconst hc_263 dX11_tellChapter_82 (by decide) rfl
theorem r_263_83 (ls st : List Value) (a : Nat) (i : Int32) (ws : ai_W) : ai_Run 263 83 ls (.int i :: .ref a :: st) ws = (ai_aget ws a i).bind fun q => ai_Run 263 84 ls (.int q :: st) ws := R_iaload hc_263 dX11_tellChapter_83 rfl
theorem r_263_84 (ls st : List Value) (a b : Int32) (ws : ai_W) : ai_Run 263 84 ls (.int b :: .int a :: st) ws = if a < b then ai_Run 263 87 ls st ws else ai_Run 263 121 ls st ws := R_cmp_ge hc_263 dX11_tellChapter_84 rfl rfl
theorem r_263_87 (l1 l2 l3 l4 : Value) (a : Nat) (st : List Value) (ws : ai_W) : ai_Run 263 87 [.ref a, l1, l2, l3, l4] st ws = ai_Run 263 88 [.ref a, l1, l2, l3, l4] (.ref a :: st) ws := R_aload_n hc_263 dX11_tellChapter_87 rfl rfl
theorem r_263_88 (l0 l1 l2 l3 : Value) (a : Int32) (st : List Value) (ws : ai_W) : ai_Run 263 88 [l0, l1, l2, l3, .int a] st ws = ai_Run 263 90 [l0, l1, l2, l3, .int a] (.int a :: st) ws := R_iload hc_263 dX11_tellChapter_88 rfl rfl
theorem r_263_90 (l0 l2 l3 l4 : Value) (a : Int32) (st : List Value) (ws : ai_W) : ai_Run 263 90 [l0, .int a, l2, l3, l4] st ws = ai_Run 263 91 [l0, .int a, l2, l3, l4] (.int a :: st) ws := R_iload_n hc_263 dX11_tellChapter_90 rfl rfl
theorem r_263_91 (ls : List Value) (r : Nat) (b0 : Int32) (b1 : Int32) (ws : ai_W) : ai_Run 263 91 ls [.int b1, .int b0, .ref r] ws = (ai_Call 195 [.ref r, .int b0, .int b1] ws).bind fun q => ai_Run 263 94 ls (q.1.toList ++ []) q.2 := R_callV hc_263 dX11_tellChapter_91 hv_263 (w := 1256) rfl (Nat.le_of_ble_eq_true rfl) hk_195 (by rw [hn_195]; rfl) rfl (Nat.le_of_ble_eq_true rfl) rfl
theorem r_263_94 (ls st : List Value) (a : Int32) (ws : ai_W) : ai_Run 263 94 ls (.int a :: st) ws = if a = 0 then ai_Run 263 115 ls st ws else ai_Run 263 97 ls st ws := R_if_eq hc_263 dX11_tellChapter_94 rfl rfl
theorem r_263_97 (l0 l1 l2 l4 : Value) (a : Int32) (st : List Value) (ws : ai_W) : ai_Run 263 97 [l0, l1, l2, .int a, l4] st ws = ai_Run 263 98 [l0, l1, l2, .int a, l4] (.int a :: st) ws := R_iload_n hc_263 dX11_tellChapter_97 rfl rfl
theorem r_263_98 (ls st : List Value) (a : Int32) (ws : ai_W) : ai_Run 263 98 ls (.int a :: st) ws = if a = 0 then ai_Run 263 101 ls st ws else ai_Run 263 107 ls st ws := R_if_ne hc_263 dX11_tellChapter_98 rfl rfl
theorem r_263_101 (l1 l2 l3 l4 : Value) (a : Nat) (st : List Value) (ws : ai_W) : ai_Run 263 101 [.ref a, l1, l2, l3, l4] st ws = ai_Run 263 102 [.ref a, l1, l2, l3, l4] (.ref a :: st) ws := R_aload_n hc_263 dX11_tellChapter_101 rfl rfl
theorem r_263_102 (ls st : List Value) (ws : ai_W) : ai_Run 263 102 ls st ws = ai_Run 263 104 ls (.int 44 :: st) ws := R_bipush hc_263 dX11_tellChapter_102 (by decide) rfl
theorem r_263_104 (ls : List Value) (r : Nat) (b0 : Int32) (ws : ai_W) : ai_Run 263 104 ls [.int b0, .ref r] ws = (ai_Call 244 [.ref r, .int b0] ws).bind fun q => ai_Run 263 107 ls (q.1.toList ++ []) q.2 := R_callV hc_263 dX11_tellChapter_104 hv_263 (w := 1374) rfl (Nat.le_of_ble_eq_true rfl) hk_244 (by rw [hn_244]; rfl) rfl (Nat.le_of_ble_eq_true rfl) rfl
theorem r_263_107 (ls st : List Value) (ws : ai_W) : ai_Run 263 107 ls st ws = ai_Run 263 108 ls (.int 0 :: st) ws := R_iconst hc_263 dX11_tellChapter_107 (by decide) rfl
theorem r_263_108 (l0 l1 l2 l3 l4 : Value) (a : Int32) (st : List Value) (ws : ai_W) : ai_Run 263 108 [l0, l1, l2, l3, l4] (.int a :: st) ws = ai_Run 263 109 [l0, l1, l2, .int a, l4] st ws := R_istore_n hc_263 dX11_tellChapter_108 (Nat.le_of_ble_eq_true rfl) rfl rfl
theorem r_263_109 (l1 l2 l3 l4 : Value) (a : Nat) (st : List Value) (ws : ai_W) : ai_Run 263 109 [.ref a, l1, l2, l3, l4] st ws = ai_Run 263 110 [.ref a, l1, l2, l3, l4] (.ref a :: st) ws := R_aload_n hc_263 dX11_tellChapter_109 rfl rfl
theorem r_263_110 (l0 l1 l2 l3 : Value) (a : Int32) (st : List Value) (ws : ai_W) : ai_Run 263 110 [l0, l1, l2, l3, .int a] st ws = ai_Run 263 112 [l0, l1, l2, l3, .int a] (.int a :: st) ws := R_iload hc_263 dX11_tellChapter_110 rfl rfl
theorem r_263_112 (ls : List Value) (r : Nat) (b0 : Int32) (ws : ai_W) : ai_Run 263 112 ls [.int b0, .ref r] ws = (ai_Call 246 [.ref r, .int b0] ws).bind fun q => ai_Run 263 115 ls (q.1.toList ++ []) q.2 := R_callV hc_263 dX11_tellChapter_112 hv_263 (w := 1370) rfl (Nat.le_of_ble_eq_true rfl) hk_246 (by rw [hn_246]; rfl) rfl (Nat.le_of_ble_eq_true rfl) rfl
theorem r_263_115 (l0 l1 l2 l3 : Value) (a : Int32) (st : List Value) (ws : ai_W) : ai_Run 263 115 [l0, l1, l2, l3, .int a] st ws = ai_Run 263 118 [l0, l1, l2, l3, .int (a + 1)] st ws := R_iinc hc_263 dX11_tellChapter_115 rfl (by decide) rfl rfl
theorem r_263_118 (ls st : List Value) (ws : ai_W) : ai_Run 263 118 ls st ws = ai_Run 263 76 ls st ws := R_goto hc_263 dX11_tellChapter_118 rfl
theorem r_263_121 (l1 l2 l3 l4 : Value) (a : Nat) (st : List Value) (ws : ai_W) : ai_Run 263 121 [.ref a, l1, l2, l3, l4] st ws = ai_Run 263 122 [.ref a, l1, l2, l3, l4] (.ref a :: st) ws := R_aload_n hc_263 dX11_tellChapter_121 rfl rfl
theorem r_263_122 (ls st : List Value) (a : Nat) (ws : ai_W) : ai_Run 263 122 ls (.ref a :: st) ws = (ai_fget ws a 11 10).bind fun q => ai_Run 263 125 ls (q :: st) ws := R_getf hc_263 dX11_tellChapter_122 hv_263 (w := 1034) rfl rfl
theorem r_263_125 (ls : List Value) (x : Int32) (ws : ai_W) : ai_Run 263 125 ls [.int x] ws = some (some (.int x), ws) := R_iret hc_263 dX11_tellChapter_125 ht_263
theorem dX11_tellCharacter_0 : decode cX11_tellCharacter 0 = .ok (.aload_n 0, 1) := by decide +kernel
theorem dX11_tellCharacter_1 : decode cX11_tellCharacter 1 = .ok (.iload_n 1, 1) := by decide +kernel
theorem dX11_tellCharacter_2 : decode cX11_tellCharacter 2 = .ok (.invokevirtual 63, 3) := by decide +kernel
theorem dX11_tellCharacter_5 : decode cX11_tellCharacter 5 = .ok (.ifCond .ne 5, 3) := by decide +kernel
theorem dX11_tellCharacter_8 : decode cX11_tellCharacter 8 = .ok (.iconst (-1), 1) := by decide +kernel
theorem dX11_tellCharacter_9 : decode cX11_tellCharacter 9 = .ok (.ireturn, 1) := by decide +kernel
theorem dX11_tellCharacter_10 : decode cX11_tellCharacter 10 = .ok (.aload_n 0, 1) := by decide +kernel
theorem dX11_tellCharacter_11 : decode cX11_tellCharacter 11 = .ok (.iconst 0, 1) := by decide +kernel
theorem dX11_tellCharacter_12 : decode cX11_tellCharacter 12 = .ok (.putfield 215, 3) := by decide +kernel
theorem dX11_tellCharacter_15 : decode cX11_tellCharacter 15 = .ok (.aload_n 0, 1) := by decide +kernel
theorem dX11_tellCharacter_16 : decode cX11_tellCharacter 16 = .ok (.iload_n 1, 1) := by decide +kernel
theorem dX11_tellCharacter_17 : decode cX11_tellCharacter 17 = .ok (.invokevirtual 218, 3) := by decide +kernel
theorem dX11_tellCharacter_20 : decode cX11_tellCharacter 20 = .ok (.aload_n 0, 1) := by decide +kernel
theorem dX11_tellCharacter_21 : decode cX11_tellCharacter 21 = .ok (.bipush 58, 2) := by decide +kernel
theorem dX11_tellCharacter_23 : decode cX11_tellCharacter 23 = .ok (.invokevirtual 222, 3) := by decide +kernel
theorem dX11_tellCharacter_26 : decode cX11_tellCharacter 26 = .ok (.iconst 0, 1) := by decide +kernel
theorem dX11_tellCharacter_27 : decode cX11_tellCharacter 27 = .ok (.istore_n 2, 1) := by decide +kernel
theorem dX11_tellCharacter_28 : decode cX11_tellCharacter 28 = .ok (.iload_n 2, 1) := by decide +kernel
theorem dX11_tellCharacter_29 : decode cX11_tellCharacter 29 = .ok (.aload_n 0, 1) := by decide +kernel
theorem dX11_tellCharacter_30 : decode cX11_tellCharacter 30 = .ok (.iload_n 1, 1) := by decide +kernel
theorem dX11_tellCharacter_31 : decode cX11_tellCharacter 31 = .ok (.iconst 0, 1) := by decide +kernel
theorem dX11_tellCharacter_32 : decode cX11_tellCharacter 32 = .ok (.invokevirtual 59, 3) := by decide +kernel
theorem dX11_tellCharacter_35 : decode cX11_tellCharacter 35 = .ok (.if_icmp .ge 75, 3) := by decide +kernel
theorem dX11_tellCharacter_38 : decode cX11_tellCharacter 38 = .ok (.aload_n 0, 1) := by decide +kernel
theorem dX11_tellCharacter_39 : decode cX11_tellCharacter 39 = .ok (.iload_n 2, 1) := by decide +kernel
theorem dX11_tellCharacter_40 : decode cX11_tellCharacter 40 = .ok (.iconst 2, 1) := by decide +kernel
theorem dX11_tellCharacter_41 : decode cX11_tellCharacter 41 = .ok (.irem, 1) := by decide +kernel
theorem dX11_tellCharacter_42 : decode cX11_tellCharacter 42 = .ok (.ifCond .ne 8, 3) := by decide +kernel
theorem dX11_tellCharacter_45 : decode cX11_tellCharacter 45 = .ok (.bipush 43, 2) := by decide +kernel
theorem dX11_tellCharacter_47 : decode cX11_tellCharacter 47 = .ok (.goto 5, 3) := by decide +kernel
theorem dX11_tellCharacter_50 : decode cX11_tellCharacter 50 = .ok (.bipush 94, 2) := by decide +kernel
theorem dX11_tellCharacter_52 : decode cX11_tellCharacter 52 = .ok (.invokevirtual 222, 3) := by decide +kernel
theorem dX11_tellCharacter_55 : decode cX11_tellCharacter 55 = .ok (.aload_n 0, 1) := by decide +kernel
theorem dX11_tellCharacter_56 : decode cX11_tellCharacter 56 = .ok (.aload_n 0, 1) := by decide +kernel
theorem dX11_tellCharacter_57 : decode cX11_tellCharacter 57 = .ok (.iload_n 1, 1) := by decide +kernel
theorem dX11_tellCharacter_58 : decode cX11_tellCharacter 58 = .ok (.iconst 1, 1) := by decide +kernel
theorem dX11_tellCharacter_59 : decode cX11_tellCharacter 59 = .ok (.iload_n 2, 1) := by decide +kernel
theorem dX11_tellCharacter_60 : decode cX11_tellCharacter 60 = .ok (.iadd, 1) := by decide +kernel
theorem dX11_tellCharacter_61 : decode cX11_tellCharacter 61 = .ok (.invokevirtual 59, 3) := by decide +kernel
theorem dX11_tellCharacter_64 : decode cX11_tellCharacter 64 = .ok (.invokevirtual 218, 3) := by decide +kernel
theorem dX11_tellCharacter_67 : decode cX11_tellCharacter 67 = .ok (.iload_n 2, 1) := by decide +kernel
theorem dX11_tellCharacter_68 : decode cX11_tellCharacter 68 = .ok (.iconst 2, 1) := by decide +kernel
theorem dX11_tellCharacter_69 : decode cX11_tellCharacter 69 = .ok (.irem, 1) := by decide +kernel
theorem dX11_tellCharacter_70 : decode cX11_tellCharacter 70 = .ok (.ifCond .ne 34, 3) := by decide +kernel
theorem dX11_tellCharacter_73 : decode cX11_tellCharacter 73 = .ok (.aload_n 0, 1) := by decide +kernel
theorem dX11_tellCharacter_74 : decode cX11_tellCharacter 74 = .ok (.iload_n 1, 1) := by decide +kernel
theorem dX11_tellCharacter_75 : decode cX11_tellCharacter 75 = .ok (.iload_n 2, 1) := by decide +kernel
theorem dX11_tellCharacter_76 : decode cX11_tellCharacter 76 = .ok (.iconst 2, 1) := by decide +kernel
theorem dX11_tellCharacter_77 : decode cX11_tellCharacter 77 = .ok (.idiv, 1) := by decide +kernel
theorem dX11_tellCharacter_78 : decode cX11_tellCharacter 78 = .ok (.invokevirtual 166, 3) := by decide +kernel
theorem dX11_tellCharacter_81 : decode cX11_tellCharacter 81 = .ok (.bipush (-4), 2) := by decide +kernel
theorem dX11_tellCharacter_83 : decode cX11_tellCharacter 83 = .ok (.if_icmp .eq 21, 3) := by decide +kernel
theorem dX11_tellCharacter_86 : decode cX11_tellCharacter 86 = .ok (.aload_n 0, 1) := by decide +kernel
theorem dX11_tellCharacter_87 : decode cX11_tellCharacter 87 = .ok (.bipush 61, 2) := by decide +kernel
theorem dX11_tellCharacter_89 : decode cX11_tellCharacter 89 = .ok (.invokevirtual 222, 3) := by decide +kernel
theorem dX11_tellCharacter_92 : decode cX11_tellCharacter 92 = .ok (.aload_n 0, 1) := by decide +kernel
theorem dX11_tellCharacter_93 : decode cX11_tellCharacter 93 = .ok (.aload_n 0, 1) := by decide +kernel
theorem dX11_tellCharacter_94 : decode cX11_tellCharacter 94 = .ok (.iload_n 1, 1) := by decide +kernel
theorem dX11_tellCharacter_95 : decode cX11_tellCharacter 95 = .ok (.iload_n 2, 1) := by decide +kernel
theorem dX11_tellCharacter_96 : decode cX11_tellCharacter 96 = .ok (.iconst 2, 1) := by decide +kernel
theorem dX11_tellCharacter_97 : decode cX11_tellCharacter 97 = .ok (.idiv, 1) := by decide +kernel
theorem dX11_tellCharacter_98 : decode cX11_tellCharacter 98 = .ok (.invokevirtual 166, 3) := by decide +kernel
theorem dX11_tellCharacter_101 : decode cX11_tellCharacter 101 = .ok (.invokevirtual 218, 3) := by decide +kernel
theorem dX11_tellCharacter_104 : decode cX11_tellCharacter 104 = .ok (.iinc 2 1, 3) := by decide +kernel
theorem dX11_tellCharacter_107 : decode cX11_tellCharacter 107 = .ok (.goto (-79), 3) := by decide +kernel
theorem dX11_tellCharacter_110 : decode cX11_tellCharacter 110 = .ok (.aload_n 0, 1) := by decide +kernel
theorem dX11_tellCharacter_111 : decode cX11_tellCharacter 111 = .ok (.getfield 215, 3) := by decide +kernel
theorem dX11_tellCharacter_114 : decode cX11_tellCharacter 114 = .ok (.ireturn, 1) := by decide +kernel
theorem e_264 (r : Nat) (a0 : Int32) (ws : ai_W) : ai_Call 264 [.ref r, .int a0] ws = if ai_isob ws r 11 = true then ai_Run 264 0 [.ref r, .int a0, .null] [] ws else none := R_entV hk_264 ⟨⟨rfl, rfl⟩, Nat.le_of_ble_eq_true rfl⟩ rfl
theorem r_264_0 (l1 l2 : Value) (a : Nat) (st : List Value) (ws : ai_W) : ai_Run 264 0 [.ref a, l1, l2] st ws = ai_Run 264 1 [.ref a, l1, l2] (.ref a :: st) ws := R_aload_n hc_264 dX11_tellCharacter_0 rfl rfl
theorem r_264_1 (l0 l2 : Value) (a : Int32) (st : List Value) (ws : ai_W) : ai_Run 264 1 [l0, .int a, l2] st ws = ai_Run 264 2 [l0, .int a, l2] (.int a :: st) ws := R_iload_n hc_264 dX11_tellCharacter_1 rfl rfl
theorem r_264_2 (ls : List Value) (r : Nat) (b0 : Int32) (ws : ai_W) : ai_Run 264 2 ls [.int b0, .ref r] ws = (ai_Call 200 [.ref r, .int b0] ws).bind fun q => ai_Run 264 5 ls (q.1.toList ++ []) q.2 := R_callV hc_264 dX11_tellCharacter_2 hv_264 (w := 1123) rfl (Nat.le_of_ble_eq_true rfl) hk_200 (by rw [hn_200]; rfl) rfl (Nat.le_of_ble_eq_true rfl) rfl
theorem r_264_5 (ls st : List Value) (a : Int32) (ws : ai_W) : ai_Run 264 5 ls (.int a :: st) ws = if a = 0 then ai_Run 264 8 ls st ws else ai_Run 264 10 ls st ws := R_if_ne hc_264 dX11_tellCharacter_5 rfl rfl
theorem r_264_8 (ls st : List Value) (ws : ai_W) : ai_Run 264 8 ls st ws = ai_Run 264 9 ls (.int (-1) :: st) ws := R_iconst hc_264 dX11_tellCharacter_8 (by decide) rfl
theorem r_264_9 (ls : List Value) (x : Int32) (ws : ai_W) : ai_Run 264 9 ls [.int x] ws = some (some (.int x), ws) := R_iret hc_264 dX11_tellCharacter_9 ht_264
theorem r_264_10 (l1 l2 : Value) (a : Nat) (st : List Value) (ws : ai_W) : ai_Run 264 10 [.ref a, l1, l2] st ws = ai_Run 264 11 [.ref a, l1, l2] (.ref a :: st) ws := R_aload_n hc_264 dX11_tellCharacter_10 rfl rfl
theorem r_264_11 (ls st : List Value) (ws : ai_W) : ai_Run 264 11 ls st ws = ai_Run 264 12 ls (.int 0 :: st) ws := R_iconst hc_264 dX11_tellCharacter_11 (by decide) rfl
theorem r_264_12 (ls st : List Value) (a : Nat) (x : Value) (ws : ai_W) : ai_Run 264 12 ls (x :: .ref a :: st) ws = (ai_fput ws a 11 10 x).bind fun ws => ai_Run 264 15 ls st ws := R_putf hc_264 dX11_tellCharacter_12 hv_264 (w := 1034) rfl rfl rfl
theorem r_264_15 (l1 l2 : Value) (a : Nat) (st : List Value) (ws : ai_W) : ai_Run 264 15 [.ref a, l1, l2] st ws = ai_Run 264 16 [.ref a, l1, l2] (.ref a :: st) ws := R_aload_n hc_264 dX11_tellCharacter_15 rfl rfl
theorem r_264_16 (l0 l2 : Value) (a : Int32) (st : List Value) (ws : ai_W) : ai_Run 264 16 [l0, .int a, l2] st ws = ai_Run 264 17 [l0, .int a, l2] (.int a :: st) ws := R_iload_n hc_264 dX11_tellCharacter_16 rfl rfl
theorem r_264_17 (ls : List Value) (r : Nat) (b0 : Int32) (ws : ai_W) : ai_Run 264 17 ls [.int b0, .ref r] ws = (ai_Call 246 [.ref r, .int b0] ws).bind fun q => ai_Run 264 20 ls (q.1.toList ++ []) q.2 := R_callV hc_264 dX11_tellCharacter_17 hv_264 (w := 1370) rfl (Nat.le_of_ble_eq_true rfl) hk_246 (by rw [hn_246]; rfl) rfl (Nat.le_of_ble_eq_true rfl) rfl
theorem r_264_20 (l1 l2 : Value) (a : Nat) (st : List Value) (ws : ai_W) : ai_Run 264 20 [.ref a, l1, l2] st ws = ai_Run 264 21 [.ref a, l1, l2] (.ref a :: st) ws := R_aload_n hc_264 dX11_tellCharacter_20 rfl rfl
theorem r_264_21 (ls st : List Value) (ws : ai_W) : ai_Run 264 21 ls st ws = ai_Run 264 23 ls (.int 58 :: st) ws := R_bipush hc_264 dX11_tellCharacter_21 (by decide) rfl
theorem r_264_23 (ls : List Value) (r : Nat) (b0 : Int32) (ws : ai_W) : ai_Run 264 23 ls [.int b0, .ref r] ws = (ai_Call 244 [.ref r, .int b0] ws).bind fun q => ai_Run 264 26 ls (q.1.toList ++ []) q.2 := R_callV hc_264 dX11_tellCharacter_23 hv_264 (w := 1374) rfl (Nat.le_of_ble_eq_true rfl) hk_244 (by rw [hn_244]; rfl) rfl (Nat.le_of_ble_eq_true rfl) rfl
theorem r_264_26 (ls st : List Value) (ws : ai_W) : ai_Run 264 26 ls st ws = ai_Run 264 27 ls (.int 0 :: st) ws := R_iconst hc_264 dX11_tellCharacter_26 (by decide) rfl
theorem r_264_27 (l0 l1 l2 : Value) (a : Int32) (st : List Value) (ws : ai_W) : ai_Run 264 27 [l0, l1, l2] (.int a :: st) ws = ai_Run 264 28 [l0, l1, .int a] st ws := R_istore_n hc_264 dX11_tellCharacter_27 (Nat.le_of_ble_eq_true rfl) rfl rfl
theorem r_264_28 (l0 l1 : Value) (a : Int32) (st : List Value) (ws : ai_W) : ai_Run 264 28 [l0, l1, .int a] st ws = ai_Run 264 29 [l0, l1, .int a] (.int a :: st) ws := R_iload_n hc_264 dX11_tellCharacter_28 rfl rfl
theorem r_264_29 (l1 l2 : Value) (a : Nat) (st : List Value) (ws : ai_W) : ai_Run 264 29 [.ref a, l1, l2] st ws = ai_Run 264 30 [.ref a, l1, l2] (.ref a :: st) ws := R_aload_n hc_264 dX11_tellCharacter_29 rfl rfl
theorem r_264_30 (l0 l2 : Value) (a : Int32) (st : List Value) (ws : ai_W) : ai_Run 264 30 [l0, .int a, l2] st ws = ai_Run 264 31 [l0, .int a, l2] (.int a :: st) ws := R_iload_n hc_264 dX11_tellCharacter_30 rfl rfl
theorem r_264_31 (ls st : List Value) (ws : ai_W) : ai_Run 264 31 ls st ws = ai_Run 264 32 ls (.int 0 :: st) ws := R_iconst hc_264 dX11_tellCharacter_31 (by decide) rfl
theorem r_264_32 (ls : List Value) (r : Nat) (b0 : Int32) (b1 : Int32) (s0 : Value) (ws : ai_W) : ai_Run 264 32 ls [.int b1, .int b0, .ref r, s0] ws = (ai_Call 165 [.ref r, .int b0, .int b1] ws).bind fun q => ai_Run 264 35 ls (q.1.toList ++ [s0]) q.2 := R_callV hc_264 dX11_tellCharacter_32 hv_264 (w := 1137) rfl (Nat.le_of_ble_eq_true rfl) hk_165 (by rw [hn_165]; rfl) rfl (Nat.le_of_ble_eq_true rfl) rfl
theorem r_264_35 (ls st : List Value) (a b : Int32) (ws : ai_W) : ai_Run 264 35 ls (.int b :: .int a :: st) ws = if a < b then ai_Run 264 38 ls st ws else ai_Run 264 110 ls st ws := R_cmp_ge hc_264 dX11_tellCharacter_35 rfl rfl
theorem r_264_38 (l1 l2 : Value) (a : Nat) (st : List Value) (ws : ai_W) : ai_Run 264 38 [.ref a, l1, l2] st ws = ai_Run 264 39 [.ref a, l1, l2] (.ref a :: st) ws := R_aload_n hc_264 dX11_tellCharacter_38 rfl rfl
theorem r_264_39 (l0 l1 : Value) (a : Int32) (st : List Value) (ws : ai_W) : ai_Run 264 39 [l0, l1, .int a] st ws = ai_Run 264 40 [l0, l1, .int a] (.int a :: st) ws := R_iload_n hc_264 dX11_tellCharacter_39 rfl rfl
theorem r_264_40 (ls st : List Value) (ws : ai_W) : ai_Run 264 40 ls st ws = ai_Run 264 41 ls (.int 2 :: st) ws := R_iconst hc_264 dX11_tellCharacter_40 (by decide) rfl
theorem r_264_41 (ls st : List Value) (a : Int32) (ws : ai_W) : ai_Run 264 41 ls (.int 2 :: .int a :: st) ws = ai_Run 264 42 ls (.int (a - a / 2 * 2) :: st) ws := R_irem hc_264 dX11_tellCharacter_41 (by decide) rfl
theorem r_264_42 (ls st : List Value) (a : Int32) (ws : ai_W) : ai_Run 264 42 ls (.int a :: st) ws = if a = 0 then ai_Run 264 45 ls st ws else ai_Run 264 50 ls st ws := R_if_ne hc_264 dX11_tellCharacter_42 rfl rfl
theorem r_264_45 (ls st : List Value) (ws : ai_W) : ai_Run 264 45 ls st ws = ai_Run 264 47 ls (.int 43 :: st) ws := R_bipush hc_264 dX11_tellCharacter_45 (by decide) rfl
theorem r_264_47 (ls st : List Value) (ws : ai_W) : ai_Run 264 47 ls st ws = ai_Run 264 52 ls st ws := R_goto hc_264 dX11_tellCharacter_47 rfl
theorem r_264_50 (ls st : List Value) (ws : ai_W) : ai_Run 264 50 ls st ws = ai_Run 264 52 ls (.int 94 :: st) ws := R_bipush hc_264 dX11_tellCharacter_50 (by decide) rfl
theorem r_264_52 (ls : List Value) (r : Nat) (b0 : Int32) (ws : ai_W) : ai_Run 264 52 ls [.int b0, .ref r] ws = (ai_Call 244 [.ref r, .int b0] ws).bind fun q => ai_Run 264 55 ls (q.1.toList ++ []) q.2 := R_callV hc_264 dX11_tellCharacter_52 hv_264 (w := 1374) rfl (Nat.le_of_ble_eq_true rfl) hk_244 (by rw [hn_244]; rfl) rfl (Nat.le_of_ble_eq_true rfl) rfl
theorem r_264_55 (l1 l2 : Value) (a : Nat) (st : List Value) (ws : ai_W) : ai_Run 264 55 [.ref a, l1, l2] st ws = ai_Run 264 56 [.ref a, l1, l2] (.ref a :: st) ws := R_aload_n hc_264 dX11_tellCharacter_55 rfl rfl
theorem r_264_56 (l1 l2 : Value) (a : Nat) (st : List Value) (ws : ai_W) : ai_Run 264 56 [.ref a, l1, l2] st ws = ai_Run 264 57 [.ref a, l1, l2] (.ref a :: st) ws := R_aload_n hc_264 dX11_tellCharacter_56 rfl rfl
theorem r_264_57 (l0 l2 : Value) (a : Int32) (st : List Value) (ws : ai_W) : ai_Run 264 57 [l0, .int a, l2] st ws = ai_Run 264 58 [l0, .int a, l2] (.int a :: st) ws := R_iload_n hc_264 dX11_tellCharacter_57 rfl rfl
theorem r_264_58 (ls st : List Value) (ws : ai_W) : ai_Run 264 58 ls st ws = ai_Run 264 59 ls (.int 1 :: st) ws := R_iconst hc_264 dX11_tellCharacter_58 (by decide) rfl
theorem r_264_59 (l0 l1 : Value) (a : Int32) (st : List Value) (ws : ai_W) : ai_Run 264 59 [l0, l1, .int a] st ws = ai_Run 264 60 [l0, l1, .int a] (.int a :: st) ws := R_iload_n hc_264 dX11_tellCharacter_59 rfl rfl
theorem r_264_60 (ls st : List Value) (a b : Int32) (ws : ai_W) : ai_Run 264 60 ls (.int b :: .int a :: st) ws = ai_Run 264 61 ls (.int (a + b) :: st) ws := R_iadd hc_264 dX11_tellCharacter_60 rfl
theorem r_264_61 (ls : List Value) (r : Nat) (b0 : Int32) (b1 : Int32) (s0 : Value) (ws : ai_W) : ai_Run 264 61 ls [.int b1, .int b0, .ref r, s0] ws = (ai_Call 165 [.ref r, .int b0, .int b1] ws).bind fun q => ai_Run 264 64 ls (q.1.toList ++ [s0]) q.2 := R_callV hc_264 dX11_tellCharacter_61 hv_264 (w := 1137) rfl (Nat.le_of_ble_eq_true rfl) hk_165 (by rw [hn_165]; rfl) rfl (Nat.le_of_ble_eq_true rfl) rfl
theorem r_264_64 (ls : List Value) (r : Nat) (b0 : Int32) (ws : ai_W) : ai_Run 264 64 ls [.int b0, .ref r] ws = (ai_Call 246 [.ref r, .int b0] ws).bind fun q => ai_Run 264 67 ls (q.1.toList ++ []) q.2 := R_callV hc_264 dX11_tellCharacter_64 hv_264 (w := 1370) rfl (Nat.le_of_ble_eq_true rfl) hk_246 (by rw [hn_246]; rfl) rfl (Nat.le_of_ble_eq_true rfl) rfl
theorem r_264_67 (l0 l1 : Value) (a : Int32) (st : List Value) (ws : ai_W) : ai_Run 264 67 [l0, l1, .int a] st ws = ai_Run 264 68 [l0, l1, .int a] (.int a :: st) ws := R_iload_n hc_264 dX11_tellCharacter_67 rfl rfl
theorem r_264_68 (ls st : List Value) (ws : ai_W) : ai_Run 264 68 ls st ws = ai_Run 264 69 ls (.int 2 :: st) ws := R_iconst hc_264 dX11_tellCharacter_68 (by decide) rfl
theorem r_264_69 (ls st : List Value) (a : Int32) (ws : ai_W) : ai_Run 264 69 ls (.int 2 :: .int a :: st) ws = ai_Run 264 70 ls (.int (a - a / 2 * 2) :: st) ws := R_irem hc_264 dX11_tellCharacter_69 (by decide) rfl
theorem r_264_70 (ls st : List Value) (a : Int32) (ws : ai_W) : ai_Run 264 70 ls (.int a :: st) ws = if a = 0 then ai_Run 264 73 ls st ws else ai_Run 264 104 ls st ws := R_if_ne hc_264 dX11_tellCharacter_70 rfl rfl
theorem r_264_73 (l1 l2 : Value) (a : Nat) (st : List Value) (ws : ai_W) : ai_Run 264 73 [.ref a, l1, l2] st ws = ai_Run 264 74 [.ref a, l1, l2] (.ref a :: st) ws := R_aload_n hc_264 dX11_tellCharacter_73 rfl rfl
theorem r_264_74 (l0 l2 : Value) (a : Int32) (st : List Value) (ws : ai_W) : ai_Run 264 74 [l0, .int a, l2] st ws = ai_Run 264 75 [l0, .int a, l2] (.int a :: st) ws := R_iload_n hc_264 dX11_tellCharacter_74 rfl rfl
theorem r_264_75 (l0 l1 : Value) (a : Int32) (st : List Value) (ws : ai_W) : ai_Run 264 75 [l0, l1, .int a] st ws = ai_Run 264 76 [l0, l1, .int a] (.int a :: st) ws := R_iload_n hc_264 dX11_tellCharacter_75 rfl rfl
theorem r_264_76 (ls st : List Value) (ws : ai_W) : ai_Run 264 76 ls st ws = ai_Run 264 77 ls (.int 2 :: st) ws := R_iconst hc_264 dX11_tellCharacter_76 (by decide) rfl
theorem r_264_77 (ls st : List Value) (a : Int32) (ws : ai_W) : ai_Run 264 77 ls (.int 2 :: .int a :: st) ws = ai_Run 264 78 ls (.int (a / 2) :: st) ws := R_idiv hc_264 dX11_tellCharacter_77 (by decide) rfl
theorem r_264_78 (ls : List Value) (r : Nat) (b0 : Int32) (b1 : Int32) (ws : ai_W) : ai_Run 264 78 ls [.int b1, .int b0, .ref r] ws = (ai_Call 170 [.ref r, .int b0, .int b1] ws).bind fun q => ai_Run 264 81 ls (q.1.toList ++ []) q.2 := R_callV hc_264 dX11_tellCharacter_78 hv_264 (w := 1244) rfl (Nat.le_of_ble_eq_true rfl) hk_170 (by rw [hn_170]; rfl) rfl (Nat.le_of_ble_eq_true rfl) rfl
theorem r_264_81 (ls st : List Value) (ws : ai_W) : ai_Run 264 81 ls st ws = ai_Run 264 83 ls (.int (-4) :: st) ws := R_bipush hc_264 dX11_tellCharacter_81 (by decide) rfl
theorem r_264_83 (ls st : List Value) (a b : Int32) (ws : ai_W) : ai_Run 264 83 ls (.int b :: .int a :: st) ws = if a = b then ai_Run 264 104 ls st ws else ai_Run 264 86 ls st ws := R_cmp_eq hc_264 dX11_tellCharacter_83 rfl rfl
theorem r_264_86 (l1 l2 : Value) (a : Nat) (st : List Value) (ws : ai_W) : ai_Run 264 86 [.ref a, l1, l2] st ws = ai_Run 264 87 [.ref a, l1, l2] (.ref a :: st) ws := R_aload_n hc_264 dX11_tellCharacter_86 rfl rfl
theorem r_264_87 (ls st : List Value) (ws : ai_W) : ai_Run 264 87 ls st ws = ai_Run 264 89 ls (.int 61 :: st) ws := R_bipush hc_264 dX11_tellCharacter_87 (by decide) rfl
theorem r_264_89 (ls : List Value) (r : Nat) (b0 : Int32) (ws : ai_W) : ai_Run 264 89 ls [.int b0, .ref r] ws = (ai_Call 244 [.ref r, .int b0] ws).bind fun q => ai_Run 264 92 ls (q.1.toList ++ []) q.2 := R_callV hc_264 dX11_tellCharacter_89 hv_264 (w := 1374) rfl (Nat.le_of_ble_eq_true rfl) hk_244 (by rw [hn_244]; rfl) rfl (Nat.le_of_ble_eq_true rfl) rfl
theorem r_264_92 (l1 l2 : Value) (a : Nat) (st : List Value) (ws : ai_W) : ai_Run 264 92 [.ref a, l1, l2] st ws = ai_Run 264 93 [.ref a, l1, l2] (.ref a :: st) ws := R_aload_n hc_264 dX11_tellCharacter_92 rfl rfl
theorem r_264_93 (l1 l2 : Value) (a : Nat) (st : List Value) (ws : ai_W) : ai_Run 264 93 [.ref a, l1, l2] st ws = ai_Run 264 94 [.ref a, l1, l2] (.ref a :: st) ws := R_aload_n hc_264 dX11_tellCharacter_93 rfl rfl
theorem r_264_94 (l0 l2 : Value) (a : Int32) (st : List Value) (ws : ai_W) : ai_Run 264 94 [l0, .int a, l2] st ws = ai_Run 264 95 [l0, .int a, l2] (.int a :: st) ws := R_iload_n hc_264 dX11_tellCharacter_94 rfl rfl
theorem r_264_95 (l0 l1 : Value) (a : Int32) (st : List Value) (ws : ai_W) : ai_Run 264 95 [l0, l1, .int a] st ws = ai_Run 264 96 [l0, l1, .int a] (.int a :: st) ws := R_iload_n hc_264 dX11_tellCharacter_95 rfl rfl
theorem r_264_96 (ls st : List Value) (ws : ai_W) : ai_Run 264 96 ls st ws = ai_Run 264 97 ls (.int 2 :: st) ws := R_iconst hc_264 dX11_tellCharacter_96 (by decide) rfl
theorem r_264_97 (ls st : List Value) (a : Int32) (ws : ai_W) : ai_Run 264 97 ls (.int 2 :: .int a :: st) ws = ai_Run 264 98 ls (.int (a / 2) :: st) ws := R_idiv hc_264 dX11_tellCharacter_97 (by decide) rfl
theorem r_264_98 (ls : List Value) (r : Nat) (b0 : Int32) (b1 : Int32) (s0 : Value) (ws : ai_W) : ai_Run 264 98 ls [.int b1, .int b0, .ref r, s0] ws = (ai_Call 170 [.ref r, .int b0, .int b1] ws).bind fun q => ai_Run 264 101 ls (q.1.toList ++ [s0]) q.2 := R_callV hc_264 dX11_tellCharacter_98 hv_264 (w := 1244) rfl (Nat.le_of_ble_eq_true rfl) hk_170 (by rw [hn_170]; rfl) rfl (Nat.le_of_ble_eq_true rfl) rfl
theorem r_264_101 (ls : List Value) (r : Nat) (b0 : Int32) (ws : ai_W) : ai_Run 264 101 ls [.int b0, .ref r] ws = (ai_Call 246 [.ref r, .int b0] ws).bind fun q => ai_Run 264 104 ls (q.1.toList ++ []) q.2 := R_callV hc_264 dX11_tellCharacter_101 hv_264 (w := 1370) rfl (Nat.le_of_ble_eq_true rfl) hk_246 (by rw [hn_246]; rfl) rfl (Nat.le_of_ble_eq_true rfl) rfl
theorem r_264_104 (l0 l1 : Value) (a : Int32) (st : List Value) (ws : ai_W) : ai_Run 264 104 [l0, l1, .int a] st ws = ai_Run 264 107 [l0, l1, .int (a + 1)] st ws := R_iinc hc_264 dX11_tellCharacter_104 rfl (by decide) rfl rfl
theorem r_264_107 (ls st : List Value) (ws : ai_W) : ai_Run 264 107 ls st ws = ai_Run 264 28 ls st ws := R_goto hc_264 dX11_tellCharacter_107 rfl
theorem r_264_110 (l1 l2 : Value) (a : Nat) (st : List Value) (ws : ai_W) : ai_Run 264 110 [.ref a, l1, l2] st ws = ai_Run 264 111 [.ref a, l1, l2] (.ref a :: st) ws := R_aload_n hc_264 dX11_tellCharacter_110 rfl rfl
theorem r_264_111 (ls st : List Value) (a : Nat) (ws : ai_W) : ai_Run 264 111 ls (.ref a :: st) ws = (ai_fget ws a 11 10).bind fun q => ai_Run 264 114 ls (q :: st) ws := R_getf hc_264 dX11_tellCharacter_111 hv_264 (w := 1034) rfl rfl
theorem r_264_114 (ls : List Value) (x : Int32) (ws : ai_W) : ai_Run 264 114 ls [.int x] ws = some (some (.int x), ws) := R_iret hc_264 dX11_tellCharacter_114 ht_264
theorem dX11_tellJury_0 : decode cX11_tellJury 0 = .ok (.aload_n 0, 1) := by decide +kernel
theorem dX11_tellJury_1 : decode cX11_tellJury 1 = .ok (.iconst 0, 1) := by decide +kernel
theorem dX11_tellJury_2 : decode cX11_tellJury 2 = .ok (.putfield 215, 3) := by decide +kernel
theorem dX11_tellJury_5 : decode cX11_tellJury 5 = .ok (.iconst 0, 1) := by decide +kernel
theorem dX11_tellJury_6 : decode cX11_tellJury 6 = .ok (.istore_n 1, 1) := by decide +kernel
theorem dX11_tellJury_7 : decode cX11_tellJury 7 = .ok (.iload_n 1, 1) := by decide +kernel
theorem dX11_tellJury_8 : decode cX11_tellJury 8 = .ok (.bipush 7, 2) := by decide +kernel
theorem dX11_tellJury_10 : decode cX11_tellJury 10 = .ok (.if_icmp .ge 42, 3) := by decide +kernel
theorem dX11_tellJury_13 : decode cX11_tellJury 13 = .ok (.aload_n 0, 1) := by decide +kernel
theorem dX11_tellJury_14 : decode cX11_tellJury 14 = .ok (.aload_n 0, 1) := by decide +kernel
theorem dX11_tellJury_15 : decode cX11_tellJury 15 = .ok (.getfield 9, 3) := by decide +kernel
theorem dX11_tellJury_18 : decode cX11_tellJury 18 = .ok (.bipush 38, 2) := by decide +kernel
theorem dX11_tellJury_20 : decode cX11_tellJury 20 = .ok (.iload_n 1, 1) := by decide +kernel
theorem dX11_tellJury_21 : decode cX11_tellJury 21 = .ok (.iadd, 1) := by decide +kernel
theorem dX11_tellJury_22 : decode cX11_tellJury 22 = .ok (.iaload, 1) := by decide +kernel
theorem dX11_tellJury_23 : decode cX11_tellJury 23 = .ok (.ifCond .ne 8, 3) := by decide +kernel
theorem dX11_tellJury_26 : decode cX11_tellJury 26 = .ok (.bipush 46, 2) := by decide +kernel
theorem dX11_tellJury_28 : decode cX11_tellJury 28 = .ok (.goto 15, 3) := by decide +kernel
theorem dX11_tellJury_31 : decode cX11_tellJury 31 = .ok (.bipush 48, 2) := by decide +kernel
theorem dX11_tellJury_33 : decode cX11_tellJury 33 = .ok (.aload_n 0, 1) := by decide +kernel
theorem dX11_tellJury_34 : decode cX11_tellJury 34 = .ok (.getfield 9, 3) := by decide +kernel
theorem dX11_tellJury_37 : decode cX11_tellJury 37 = .ok (.bipush 38, 2) := by decide +kernel
theorem dX11_tellJury_39 : decode cX11_tellJury 39 = .ok (.iload_n 1, 1) := by decide +kernel
theorem dX11_tellJury_40 : decode cX11_tellJury 40 = .ok (.iadd, 1) := by decide +kernel
theorem dX11_tellJury_41 : decode cX11_tellJury 41 = .ok (.iaload, 1) := by decide +kernel
theorem dX11_tellJury_42 : decode cX11_tellJury 42 = .ok (.iadd, 1) := by decide +kernel
theorem dX11_tellJury_43 : decode cX11_tellJury 43 = .ok (.invokevirtual 222, 3) := by decide +kernel
theorem dX11_tellJury_46 : decode cX11_tellJury 46 = .ok (.iinc 1 1, 3) := by decide +kernel
theorem dX11_tellJury_49 : decode cX11_tellJury 49 = .ok (.goto (-42), 3) := by decide +kernel
theorem dX11_tellJury_52 : decode cX11_tellJury 52 = .ok (.aload_n 0, 1) := by decide +kernel
theorem dX11_tellJury_53 : decode cX11_tellJury 53 = .ok (.getfield 215, 3) := by decide +kernel
theorem dX11_tellJury_56 : decode cX11_tellJury 56 = .ok (.ireturn, 1) := by decide +kernel
theorem e_265 (r : Nat)  (ws : ai_W) : ai_Call 265 [.ref r] ws = if ai_isob ws r 11 = true then ai_Run 265 0 [.ref r, .null] [] ws else none := R_entV hk_265 ⟨⟨rfl, rfl⟩, Nat.le_of_ble_eq_true rfl⟩ rfl
theorem r_265_0 (l1 : Value) (a : Nat) (st : List Value) (ws : ai_W) : ai_Run 265 0 [.ref a, l1] st ws = ai_Run 265 1 [.ref a, l1] (.ref a :: st) ws := R_aload_n hc_265 dX11_tellJury_0 rfl rfl
theorem r_265_1 (ls st : List Value) (ws : ai_W) : ai_Run 265 1 ls st ws = ai_Run 265 2 ls (.int 0 :: st) ws := R_iconst hc_265 dX11_tellJury_1 (by decide) rfl
theorem r_265_2 (ls st : List Value) (a : Nat) (x : Value) (ws : ai_W) : ai_Run 265 2 ls (x :: .ref a :: st) ws = (ai_fput ws a 11 10 x).bind fun ws => ai_Run 265 5 ls st ws := R_putf hc_265 dX11_tellJury_2 hv_265 (w := 1034) rfl rfl rfl
theorem r_265_5 (ls st : List Value) (ws : ai_W) : ai_Run 265 5 ls st ws = ai_Run 265 6 ls (.int 0 :: st) ws := R_iconst hc_265 dX11_tellJury_5 (by decide) rfl
theorem r_265_6 (l0 l1 : Value) (a : Int32) (st : List Value) (ws : ai_W) : ai_Run 265 6 [l0, l1] (.int a :: st) ws = ai_Run 265 7 [l0, .int a] st ws := R_istore_n hc_265 dX11_tellJury_6 (Nat.le_of_ble_eq_true rfl) rfl rfl
theorem r_265_7 (l0 : Value) (a : Int32) (st : List Value) (ws : ai_W) : ai_Run 265 7 [l0, .int a] st ws = ai_Run 265 8 [l0, .int a] (.int a :: st) ws := R_iload_n hc_265 dX11_tellJury_7 rfl rfl
theorem r_265_8 (ls st : List Value) (ws : ai_W) : ai_Run 265 8 ls st ws = ai_Run 265 10 ls (.int 7 :: st) ws := R_bipush hc_265 dX11_tellJury_8 (by decide) rfl
theorem r_265_10 (ls st : List Value) (a b : Int32) (ws : ai_W) : ai_Run 265 10 ls (.int b :: .int a :: st) ws = if a < b then ai_Run 265 13 ls st ws else ai_Run 265 52 ls st ws := R_cmp_ge hc_265 dX11_tellJury_10 rfl rfl
theorem r_265_13 (l1 : Value) (a : Nat) (st : List Value) (ws : ai_W) : ai_Run 265 13 [.ref a, l1] st ws = ai_Run 265 14 [.ref a, l1] (.ref a :: st) ws := R_aload_n hc_265 dX11_tellJury_13 rfl rfl
theorem r_265_14 (l1 : Value) (a : Nat) (st : List Value) (ws : ai_W) : ai_Run 265 14 [.ref a, l1] st ws = ai_Run 265 15 [.ref a, l1] (.ref a :: st) ws := R_aload_n hc_265 dX11_tellJury_14 rfl rfl
theorem r_265_15 (ls st : List Value) (a : Nat) (ws : ai_W) : ai_Run 265 15 ls (.ref a :: st) ws = (ai_fget ws a 11 0).bind fun q => ai_Run 265 18 ls (q :: st) ws := R_getf hc_265 dX11_tellJury_15 hv_265 (w := 1024) rfl rfl
theorem r_265_18 (ls st : List Value) (ws : ai_W) : ai_Run 265 18 ls st ws = ai_Run 265 20 ls (.int 38 :: st) ws := R_bipush hc_265 dX11_tellJury_18 (by decide) rfl
theorem r_265_20 (l0 : Value) (a : Int32) (st : List Value) (ws : ai_W) : ai_Run 265 20 [l0, .int a] st ws = ai_Run 265 21 [l0, .int a] (.int a :: st) ws := R_iload_n hc_265 dX11_tellJury_20 rfl rfl
theorem r_265_21 (ls st : List Value) (a b : Int32) (ws : ai_W) : ai_Run 265 21 ls (.int b :: .int a :: st) ws = ai_Run 265 22 ls (.int (a + b) :: st) ws := R_iadd hc_265 dX11_tellJury_21 rfl
theorem r_265_22 (ls st : List Value) (a : Nat) (i : Int32) (ws : ai_W) : ai_Run 265 22 ls (.int i :: .ref a :: st) ws = (ai_aget ws a i).bind fun q => ai_Run 265 23 ls (.int q :: st) ws := R_iaload hc_265 dX11_tellJury_22 rfl
theorem r_265_23 (ls st : List Value) (a : Int32) (ws : ai_W) : ai_Run 265 23 ls (.int a :: st) ws = if a = 0 then ai_Run 265 26 ls st ws else ai_Run 265 31 ls st ws := R_if_ne hc_265 dX11_tellJury_23 rfl rfl
theorem r_265_26 (ls st : List Value) (ws : ai_W) : ai_Run 265 26 ls st ws = ai_Run 265 28 ls (.int 46 :: st) ws := R_bipush hc_265 dX11_tellJury_26 (by decide) rfl
theorem r_265_28 (ls st : List Value) (ws : ai_W) : ai_Run 265 28 ls st ws = ai_Run 265 43 ls st ws := R_goto hc_265 dX11_tellJury_28 rfl
theorem r_265_31 (ls st : List Value) (ws : ai_W) : ai_Run 265 31 ls st ws = ai_Run 265 33 ls (.int 48 :: st) ws := R_bipush hc_265 dX11_tellJury_31 (by decide) rfl
theorem r_265_33 (l1 : Value) (a : Nat) (st : List Value) (ws : ai_W) : ai_Run 265 33 [.ref a, l1] st ws = ai_Run 265 34 [.ref a, l1] (.ref a :: st) ws := R_aload_n hc_265 dX11_tellJury_33 rfl rfl
theorem r_265_34 (ls st : List Value) (a : Nat) (ws : ai_W) : ai_Run 265 34 ls (.ref a :: st) ws = (ai_fget ws a 11 0).bind fun q => ai_Run 265 37 ls (q :: st) ws := R_getf hc_265 dX11_tellJury_34 hv_265 (w := 1024) rfl rfl
theorem r_265_37 (ls st : List Value) (ws : ai_W) : ai_Run 265 37 ls st ws = ai_Run 265 39 ls (.int 38 :: st) ws := R_bipush hc_265 dX11_tellJury_37 (by decide) rfl
theorem r_265_39 (l0 : Value) (a : Int32) (st : List Value) (ws : ai_W) : ai_Run 265 39 [l0, .int a] st ws = ai_Run 265 40 [l0, .int a] (.int a :: st) ws := R_iload_n hc_265 dX11_tellJury_39 rfl rfl
theorem r_265_40 (ls st : List Value) (a b : Int32) (ws : ai_W) : ai_Run 265 40 ls (.int b :: .int a :: st) ws = ai_Run 265 41 ls (.int (a + b) :: st) ws := R_iadd hc_265 dX11_tellJury_40 rfl
theorem r_265_41 (ls st : List Value) (a : Nat) (i : Int32) (ws : ai_W) : ai_Run 265 41 ls (.int i :: .ref a :: st) ws = (ai_aget ws a i).bind fun q => ai_Run 265 42 ls (.int q :: st) ws := R_iaload hc_265 dX11_tellJury_41 rfl
theorem r_265_42 (ls st : List Value) (a b : Int32) (ws : ai_W) : ai_Run 265 42 ls (.int b :: .int a :: st) ws = ai_Run 265 43 ls (.int (a + b) :: st) ws := R_iadd hc_265 dX11_tellJury_42 rfl
theorem r_265_43 (ls : List Value) (r : Nat) (b0 : Int32) (ws : ai_W) : ai_Run 265 43 ls [.int b0, .ref r] ws = (ai_Call 244 [.ref r, .int b0] ws).bind fun q => ai_Run 265 46 ls (q.1.toList ++ []) q.2 := R_callV hc_265 dX11_tellJury_43 hv_265 (w := 1374) rfl (Nat.le_of_ble_eq_true rfl) hk_244 (by rw [hn_244]; rfl) rfl (Nat.le_of_ble_eq_true rfl) rfl
theorem r_265_46 (l0 : Value) (a : Int32) (st : List Value) (ws : ai_W) : ai_Run 265 46 [l0, .int a] st ws = ai_Run 265 49 [l0, .int (a + 1)] st ws := R_iinc hc_265 dX11_tellJury_46 rfl (by decide) rfl rfl
theorem r_265_49 (ls st : List Value) (ws : ai_W) : ai_Run 265 49 ls st ws = ai_Run 265 7 ls st ws := R_goto hc_265 dX11_tellJury_49 rfl
theorem r_265_52 (l1 : Value) (a : Nat) (st : List Value) (ws : ai_W) : ai_Run 265 52 [.ref a, l1] st ws = ai_Run 265 53 [.ref a, l1] (.ref a :: st) ws := R_aload_n hc_265 dX11_tellJury_52 rfl rfl
theorem r_265_53 (ls st : List Value) (a : Nat) (ws : ai_W) : ai_Run 265 53 ls (.ref a :: st) ws = (ai_fget ws a 11 10).bind fun q => ai_Run 265 56 ls (q :: st) ws := R_getf hc_265 dX11_tellJury_53 hv_265 (w := 1034) rfl rfl
theorem r_265_56 (ls : List Value) (x : Int32) (ws : ai_W) : ai_Run 265 56 ls [.int x] ws = some (some (.int x), ws) := R_iret hc_265 dX11_tellJury_56 ht_265
theorem dX11_trial_0 : decode cX11_trial 0 = .ok (.aload_n 0, 1) := by decide +kernel
theorem dX11_trial_1 : decode cX11_trial 1 = .ok (.invokevirtual 78, 3) := by decide +kernel
theorem dX11_trial_4 : decode cX11_trial 4 = .ok (.aload_n 0, 1) := by decide +kernel
theorem dX11_trial_5 : decode cX11_trial 5 = .ok (.aload_n 0, 1) := by decide +kernel
theorem dX11_trial_6 : decode cX11_trial 6 = .ok (.iload_n 1, 1) := by decide +kernel
theorem dX11_trial_7 : decode cX11_trial 7 = .ok (.iload_n 2, 1) := by decide +kernel
theorem dX11_trial_8 : decode cX11_trial 8 = .ok (.iload_n 3, 1) := by decide +kernel
theorem dX11_trial_9 : decode cX11_trial 9 = .ok (.invokevirtual 172, 3) := by decide +kernel
theorem dX11_trial_12 : decode cX11_trial 12 = .ok (.invokevirtual 85, 3) := by decide +kernel
theorem dX11_trial_15 : decode cX11_trial 15 = .ok (.ireturn, 1) := by decide +kernel
theorem e_266 (r : Nat) (a0 : Int32) (a1 : Int32) (a2 : Int32) (ws : ai_W) : ai_Call 266 [.ref r, .int a0, .int a1, .int a2] ws = if ai_isob ws r 11 = true then ai_Run 266 0 [.ref r, .int a0, .int a1, .int a2] [] ws else none := R_entV hk_266 ⟨⟨rfl, rfl⟩, Nat.le_of_ble_eq_true rfl⟩ rfl
theorem r_266_0 (l1 l2 l3 : Value) (a : Nat) (st : List Value) (ws : ai_W) : ai_Run 266 0 [.ref a, l1, l2, l3] st ws = ai_Run 266 1 [.ref a, l1, l2, l3] (.ref a :: st) ws := R_aload_n hc_266 dX11_trial_0 rfl rfl
theorem r_266_1 (ls : List Value) (r : Nat) (ws : ai_W) : ai_Run 266 1 ls [.ref r] ws = (ai_Call 182 [.ref r] ws).bind fun q => ai_Run 266 4 ls (q.1.toList ++ []) q.2 := R_callV hc_266 dX11_trial_1 hv_266 (w := 1077) rfl (Nat.le_of_ble_eq_true rfl) hk_182 (by rw [hn_182]; rfl) rfl (Nat.le_of_ble_eq_true rfl) rfl
theorem r_266_4 (l1 l2 l3 : Value) (a : Nat) (st : List Value) (ws : ai_W) : ai_Run 266 4 [.ref a, l1, l2, l3] st ws = ai_Run 266 5 [.ref a, l1, l2, l3] (.ref a :: st) ws := R_aload_n hc_266 dX11_trial_4 rfl rfl
theorem r_266_5 (l1 l2 l3 : Value) (a : Nat) (st : List Value) (ws : ai_W) : ai_Run 266 5 [.ref a, l1, l2, l3] st ws = ai_Run 266 6 [.ref a, l1, l2, l3] (.ref a :: st) ws := R_aload_n hc_266 dX11_trial_5 rfl rfl
theorem r_266_6 (l0 l2 l3 : Value) (a : Int32) (st : List Value) (ws : ai_W) : ai_Run 266 6 [l0, .int a, l2, l3] st ws = ai_Run 266 7 [l0, .int a, l2, l3] (.int a :: st) ws := R_iload_n hc_266 dX11_trial_6 rfl rfl
theorem r_266_7 (l0 l1 l3 : Value) (a : Int32) (st : List Value) (ws : ai_W) : ai_Run 266 7 [l0, l1, .int a, l3] st ws = ai_Run 266 8 [l0, l1, .int a, l3] (.int a :: st) ws := R_iload_n hc_266 dX11_trial_7 rfl rfl
theorem r_266_8 (l0 l1 l2 : Value) (a : Int32) (st : List Value) (ws : ai_W) : ai_Run 266 8 [l0, l1, l2, .int a] st ws = ai_Run 266 9 [l0, l1, l2, .int a] (.int a :: st) ws := R_iload_n hc_266 dX11_trial_8 rfl rfl
theorem r_266_9 (ls : List Value) (r : Nat) (b0 : Int32) (b1 : Int32) (b2 : Int32) (s0 : Value) (ws : ai_W) : ai_Run 266 9 ls [.int b2, .int b1, .int b0, .ref r, s0] ws = (ai_Call 229 [.ref r, .int b0, .int b1, .int b2] ws).bind fun q => ai_Run 266 12 ls (q.1.toList ++ [s0]) q.2 := R_callV hc_266 dX11_trial_9 hv_266 (w := 1236) rfl (Nat.le_of_ble_eq_true rfl) hk_229 (by rw [hn_229]; rfl) rfl (Nat.le_of_ble_eq_true rfl) rfl
theorem r_266_12 (ls : List Value) (r : Nat) (b0 : Int32) (ws : ai_W) : ai_Run 266 12 ls [.int b0, .ref r] ws = (ai_Call 187 [.ref r, .int b0] ws).bind fun q => ai_Run 266 15 ls (q.1.toList ++ []) q.2 := R_callV hc_266 dX11_trial_12 hv_266 (w := 1096) rfl (Nat.le_of_ble_eq_true rfl) hk_187 (by rw [hn_187]; rfl) rfl (Nat.le_of_ble_eq_true rfl) rfl
theorem r_266_15 (ls : List Value) (x : Int32) (ws : ai_W) : ai_Run 266 15 ls [.int x] ws = some (some (.int x), ws) := R_iret hc_266 dX11_trial_15 ht_266
theorem dX11_undo_0 : decode cX11_undo 0 = .ok (.aload_n 0, 1) := by decide +kernel
theorem dX11_undo_1 : decode cX11_undo 1 = .ok (.getfield 39, 3) := by decide +kernel
theorem dX11_undo_4 : decode cX11_undo 4 = .ok (.ifCond .ne 6, 3) := by decide +kernel
theorem dX11_undo_7 : decode cX11_undo 7 = .ok (.bipush (-4), 2) := by decide +kernel
theorem dX11_undo_9 : decode cX11_undo 9 = .ok (.ireturn, 1) := by decide +kernel
theorem dX11_undo_10 : decode cX11_undo 10 = .ok (.aload_n 0, 1) := by decide +kernel
theorem dX11_undo_11 : decode cX11_undo 11 = .ok (.dup, 1) := by decide +kernel
theorem dX11_undo_12 : decode cX11_undo 12 = .ok (.getfield 39, 3) := by decide +kernel
theorem dX11_undo_15 : decode cX11_undo 15 = .ok (.iconst 1, 1) := by decide +kernel
theorem dX11_undo_16 : decode cX11_undo 16 = .ok (.isub, 1) := by decide +kernel
theorem dX11_undo_17 : decode cX11_undo 17 = .ok (.putfield 39, 3) := by decide +kernel
theorem dX11_undo_20 : decode cX11_undo 20 = .ok (.aload_n 0, 1) := by decide +kernel
theorem dX11_undo_21 : decode cX11_undo 21 = .ok (.getfield 19, 3) := by decide +kernel
theorem dX11_undo_24 : decode cX11_undo 24 = .ok (.sipush 189, 3) := by decide +kernel
theorem dX11_undo_27 : decode cX11_undo 27 = .ok (.aload_n 0, 1) := by decide +kernel
theorem dX11_undo_28 : decode cX11_undo 28 = .ok (.getfield 39, 3) := by decide +kernel
theorem dX11_undo_31 : decode cX11_undo 31 = .ok (.imul, 1) := by decide +kernel
theorem dX11_undo_32 : decode cX11_undo 32 = .ok (.aload_n 0, 1) := by decide +kernel
theorem dX11_undo_33 : decode cX11_undo 33 = .ok (.getfield 9, 3) := by decide +kernel
theorem dX11_undo_36 : decode cX11_undo 36 = .ok (.iconst 0, 1) := by decide +kernel
theorem dX11_undo_37 : decode cX11_undo 37 = .ok (.invokestatic 35, 3) := by decide +kernel
theorem dX11_undo_40 : decode cX11_undo 40 = .ok (.aload_n 0, 1) := by decide +kernel
theorem dX11_undo_41 : decode cX11_undo 41 = .ok (.getfield 39, 3) := by decide +kernel
theorem dX11_undo_44 : decode cX11_undo 44 = .ok (.ireturn, 1) := by decide +kernel
theorem e_267 (r : Nat)  (ws : ai_W) : ai_Call 267 [.ref r] ws = if ai_isob ws r 11 = true then ai_Run 267 0 [.ref r] [] ws else none := R_entV hk_267 ⟨⟨rfl, rfl⟩, Nat.le_of_ble_eq_true rfl⟩ rfl
theorem r_267_0 (a : Nat) (st : List Value) (ws : ai_W) : ai_Run 267 0 [.ref a] st ws = ai_Run 267 1 [.ref a] (.ref a :: st) ws := R_aload_n hc_267 dX11_undo_0 rfl rfl
theorem r_267_1 (ls st : List Value) (a : Nat) (ws : ai_W) : ai_Run 267 1 ls (.ref a :: st) ws = (ai_fget ws a 11 4).bind fun q => ai_Run 267 4 ls (q :: st) ws := R_getf hc_267 dX11_undo_1 hv_267 (w := 1028) rfl rfl
theorem r_267_4 (ls st : List Value) (a : Int32) (ws : ai_W) : ai_Run 267 4 ls (.int a :: st) ws = if a = 0 then ai_Run 267 7 ls st ws else ai_Run 267 10 ls st ws := R_if_ne hc_267 dX11_undo_4 rfl rfl
theorem r_267_7 (ls st : List Value) (ws : ai_W) : ai_Run 267 7 ls st ws = ai_Run 267 9 ls (.int (-4) :: st) ws := R_bipush hc_267 dX11_undo_7 (by decide) rfl
theorem r_267_9 (ls : List Value) (x : Int32) (ws : ai_W) : ai_Run 267 9 ls [.int x] ws = some (some (.int x), ws) := R_iret hc_267 dX11_undo_9 ht_267
theorem r_267_10 (a : Nat) (st : List Value) (ws : ai_W) : ai_Run 267 10 [.ref a] st ws = ai_Run 267 11 [.ref a] (.ref a :: st) ws := R_aload_n hc_267 dX11_undo_10 rfl rfl
theorem r_267_11 (ls st : List Value) (a : Nat) (ws : ai_W) : ai_Run 267 11 ls (.ref a :: st) ws = ai_Run 267 12 ls (.ref a :: .ref a :: st) ws := R_dup hc_267 dX11_undo_11 rfl
theorem r_267_12 (ls st : List Value) (a : Nat) (ws : ai_W) : ai_Run 267 12 ls (.ref a :: st) ws = (ai_fget ws a 11 4).bind fun q => ai_Run 267 15 ls (q :: st) ws := R_getf hc_267 dX11_undo_12 hv_267 (w := 1028) rfl rfl
theorem r_267_15 (ls st : List Value) (ws : ai_W) : ai_Run 267 15 ls st ws = ai_Run 267 16 ls (.int 1 :: st) ws := R_iconst hc_267 dX11_undo_15 (by decide) rfl
theorem r_267_16 (ls st : List Value) (a b : Int32) (ws : ai_W) : ai_Run 267 16 ls (.int b :: .int a :: st) ws = ai_Run 267 17 ls (.int (a - b) :: st) ws := R_isub hc_267 dX11_undo_16 rfl
theorem r_267_17 (ls st : List Value) (a : Nat) (x : Value) (ws : ai_W) : ai_Run 267 17 ls (x :: .ref a :: st) ws = (ai_fput ws a 11 4 x).bind fun ws => ai_Run 267 20 ls st ws := R_putf hc_267 dX11_undo_17 hv_267 (w := 1028) rfl rfl rfl
theorem r_267_20 (a : Nat) (st : List Value) (ws : ai_W) : ai_Run 267 20 [.ref a] st ws = ai_Run 267 21 [.ref a] (.ref a :: st) ws := R_aload_n hc_267 dX11_undo_20 rfl rfl
theorem r_267_21 (ls st : List Value) (a : Nat) (ws : ai_W) : ai_Run 267 21 ls (.ref a :: st) ws = (ai_fget ws a 11 3).bind fun q => ai_Run 267 24 ls (q :: st) ws := R_getf hc_267 dX11_undo_21 hv_267 (w := 1027) rfl rfl
theorem r_267_24 (ls st : List Value) (ws : ai_W) : ai_Run 267 24 ls st ws = ai_Run 267 27 ls (.int 189 :: st) ws := R_sipush hc_267 dX11_undo_24 (by decide) rfl
theorem r_267_27 (a : Nat) (st : List Value) (ws : ai_W) : ai_Run 267 27 [.ref a] st ws = ai_Run 267 28 [.ref a] (.ref a :: st) ws := R_aload_n hc_267 dX11_undo_27 rfl rfl
theorem r_267_28 (ls st : List Value) (a : Nat) (ws : ai_W) : ai_Run 267 28 ls (.ref a :: st) ws = (ai_fget ws a 11 4).bind fun q => ai_Run 267 31 ls (q :: st) ws := R_getf hc_267 dX11_undo_28 hv_267 (w := 1028) rfl rfl
theorem r_267_31 (ls st : List Value) (a b : Int32) (ws : ai_W) : ai_Run 267 31 ls (.int b :: .int a :: st) ws = ai_Run 267 32 ls (.int (a * b) :: st) ws := R_imul hc_267 dX11_undo_31 rfl
theorem r_267_32 (a : Nat) (st : List Value) (ws : ai_W) : ai_Run 267 32 [.ref a] st ws = ai_Run 267 33 [.ref a] (.ref a :: st) ws := R_aload_n hc_267 dX11_undo_32 rfl rfl
theorem r_267_33 (ls st : List Value) (a : Nat) (ws : ai_W) : ai_Run 267 33 ls (.ref a :: st) ws = (ai_fget ws a 11 0).bind fun q => ai_Run 267 36 ls (q :: st) ws := R_getf hc_267 dX11_undo_33 hv_267 (w := 1024) rfl rfl
theorem r_267_36 (ls st : List Value) (ws : ai_W) : ai_Run 267 36 ls st ws = ai_Run 267 37 ls (.int 0 :: st) ws := R_iconst hc_267 dX11_undo_36 (by decide) rfl
theorem r_267_37 (ls : List Value) (b0 : Nat) (b1 : Int32) (b2 : Nat) (b3 : Int32) (ws : ai_W) : ai_Run 267 37 ls [.int b3, .ref b2, .int b1, .ref b0] ws = (ai_Call 181 [.ref b0, .int b1, .ref b2, .int b3] ws).bind fun q => ai_Run 267 40 ls (q.1.toList ++ []) q.2 := R_callS hc_267 dX11_undo_37 hv_267 (w := 1081) rfl (Nat.le_of_ble_eq_true rfl) hk_181 (by rw [hn_181]; rfl) rfl (Nat.le_of_ble_eq_true rfl) rfl
theorem r_267_40 (a : Nat) (st : List Value) (ws : ai_W) : ai_Run 267 40 [.ref a] st ws = ai_Run 267 41 [.ref a] (.ref a :: st) ws := R_aload_n hc_267 dX11_undo_40 rfl rfl
theorem r_267_41 (ls st : List Value) (a : Nat) (ws : ai_W) : ai_Run 267 41 ls (.ref a :: st) ws = (ai_fget ws a 11 4).bind fun q => ai_Run 267 44 ls (q :: st) ws := R_getf hc_267 dX11_undo_41 hv_267 (w := 1028) rfl rfl
theorem r_267_44 (ls : List Value) (x : Int32) (ws : ai_W) : ai_Run 267 44 ls [.int x] ws = some (some (.int x), ws) := R_iret hc_267 dX11_undo_44 ht_267
theorem dX11_would_0 : decode cX11_would 0 = .ok (.iload_n 1, 1) := by decide +kernel
theorem dX11_would_1 : decode cX11_would 1 = .ok (.invokestatic 136, 3) := by decide +kernel
theorem dX11_would_4 : decode cX11_would 4 = .ok (.ifCond .eq 22, 3) := by decide +kernel
theorem dX11_would_7 : decode cX11_would 7 = .ok (.aload_n 0, 1) := by decide +kernel
theorem dX11_would_8 : decode cX11_would 8 = .ok (.iload_n 3, 1) := by decide +kernel
theorem dX11_would_9 : decode cX11_would 9 = .ok (.invokevirtual 63, 3) := by decide +kernel
theorem dX11_would_12 : decode cX11_would 12 = .ok (.ifCond .eq 14, 3) := by decide +kernel
theorem dX11_would_15 : decode cX11_would 15 = .ok (.aload_n 0, 1) := by decide +kernel
theorem dX11_would_16 : decode cX11_would 16 = .ok (.iload 4, 2) := by decide +kernel
theorem dX11_would_18 : decode cX11_would 18 = .ok (.iload 5, 2) := by decide +kernel
theorem dX11_would_20 : decode cX11_would 20 = .ok (.invokevirtual 163, 3) := by decide +kernel
theorem dX11_would_23 : decode cX11_would 23 = .ok (.ifCond .ne 5, 3) := by decide +kernel
theorem dX11_would_26 : decode cX11_would 26 = .ok (.iconst (-1), 1) := by decide +kernel
theorem dX11_would_27 : decode cX11_would 27 = .ok (.ireturn, 1) := by decide +kernel
theorem dX11_would_28 : decode cX11_would 28 = .ok (.iload_n 2, 1) := by decide +kernel
theorem dX11_would_29 : decode cX11_would 29 = .ok (.iconst 1, 1) := by decide +kernel
theorem dX11_would_30 : decode cX11_would 30 = .ok (.bipush 9, 2) := by decide +kernel
theorem dX11_would_32 : decode cX11_would 32 = .ok (.invokestatic 55, 3) := by decide +kernel
theorem dX11_would_35 : decode cX11_would 35 = .ok (.ifCond .eq 9, 3) := by decide +kernel
theorem dX11_would_38 : decode cX11_would 38 = .ok (.iload_n 3, 1) := by decide +kernel
theorem dX11_would_39 : decode cX11_would 39 = .ok (.iload 4, 2) := by decide +kernel
theorem dX11_would_41 : decode cX11_would 41 = .ok (.if_icmp .ne 6, 3) := by decide +kernel
theorem dX11_would_44 : decode cX11_would 44 = .ok (.bipush (-2), 2) := by decide +kernel
theorem dX11_would_46 : decode cX11_would 46 = .ok (.ireturn, 1) := by decide +kernel
theorem dX11_would_47 : decode cX11_would 47 = .ok (.aload_n 0, 1) := by decide +kernel
theorem dX11_would_48 : decode cX11_would 48 = .ok (.getfield 9, 3) := by decide +kernel
theorem dX11_would_51 : decode cX11_would 51 = .ok (.bipush 38, 2) := by decide +kernel
theorem dX11_would_53 : decode cX11_would 53 = .ok (.iload_n 1, 1) := by decide +kernel
theorem dX11_would_54 : decode cX11_would 54 = .ok (.iadd, 1) := by decide +kernel
theorem dX11_would_55 : decode cX11_would 55 = .ok (.iaload, 1) := by decide +kernel
theorem dX11_would_56 : decode cX11_would 56 = .ok (.istore 6, 2) := by decide +kernel
theorem dX11_would_58 : decode cX11_would 58 = .ok (.aload_n 0, 1) := by decide +kernel
theorem dX11_would_59 : decode cX11_would 59 = .ok (.getfield 9, 3) := by decide +kernel
theorem dX11_would_62 : decode cX11_would 62 = .ok (.bipush 38, 2) := by decide +kernel
theorem dX11_would_64 : decode cX11_would 64 = .ok (.iload_n 1, 1) := by decide +kernel
theorem dX11_would_65 : decode cX11_would 65 = .ok (.iadd, 1) := by decide +kernel
theorem dX11_would_66 : decode cX11_would 66 = .ok (.iload_n 2, 1) := by decide +kernel
theorem dX11_would_67 : decode cX11_would 67 = .ok (.iastore, 1) := by decide +kernel
theorem dX11_would_68 : decode cX11_would 68 = .ok (.aload_n 0, 1) := by decide +kernel
theorem dX11_would_69 : decode cX11_would 69 = .ok (.iload_n 3, 1) := by decide +kernel
theorem dX11_would_70 : decode cX11_would 70 = .ok (.iload 4, 2) := by decide +kernel
theorem dX11_would_72 : decode cX11_would 72 = .ok (.iload 5, 2) := by decide +kernel
theorem dX11_would_74 : decode cX11_would 74 = .ok (.invokevirtual 169, 3) := by decide +kernel
theorem dX11_would_77 : decode cX11_would 77 = .ok (.ifCond .eq 7, 3) := by decide +kernel
theorem dX11_would_80 : decode cX11_would 80 = .ok (.iconst 1, 1) := by decide +kernel
theorem dX11_would_81 : decode cX11_would 81 = .ok (.goto 4, 3) := by decide +kernel
theorem dX11_would_84 : decode cX11_would 84 = .ok (.iconst 0, 1) := by decide +kernel
theorem dX11_would_85 : decode cX11_would 85 = .ok (.istore 7, 2) := by decide +kernel
theorem dX11_would_87 : decode cX11_would 87 = .ok (.aload_n 0, 1) := by decide +kernel
theorem dX11_would_88 : decode cX11_would 88 = .ok (.getfield 9, 3) := by decide +kernel
theorem dX11_would_91 : decode cX11_would 91 = .ok (.bipush 38, 2) := by decide +kernel
theorem dX11_would_93 : decode cX11_would 93 = .ok (.iload_n 1, 1) := by decide +kernel
theorem dX11_would_94 : decode cX11_would 94 = .ok (.iadd, 1) := by decide +kernel
theorem dX11_would_95 : decode cX11_would 95 = .ok (.iload 6, 2) := by decide +kernel
theorem dX11_would_97 : decode cX11_would 97 = .ok (.iastore, 1) := by decide +kernel
theorem dX11_would_98 : decode cX11_would 98 = .ok (.iload 7, 2) := by decide +kernel
theorem dX11_would_100 : decode cX11_would 100 = .ok (.ireturn, 1) := by decide +kernel
theorem e_268 (r : Nat) (a0 : Int32) (a1 : Int32) (a2 : Int32) (a3 : Int32) (a4 : Int32) (ws : ai_W) : ai_Call 268 [.ref r, .int a0, .int a1, .int a2, .int a3, .int a4] ws = if ai_isob ws r 11 = true then ai_Run 268 0 [.ref r, .int a0, .int a1, .int a2, .int a3, .int a4, .null, .null] [] ws else none := R_entV hk_268 ⟨⟨rfl, rfl⟩, Nat.le_of_ble_eq_true rfl⟩ rfl
theorem r_268_0 (l0 l2 l3 l4 l5 l6 l7 : Value) (a : Int32) (st : List Value) (ws : ai_W) : ai_Run 268 0 [l0, .int a, l2, l3, l4, l5, l6, l7] st ws = ai_Run 268 1 [l0, .int a, l2, l3, l4, l5, l6, l7] (.int a :: st) ws := R_iload_n hc_268 dX11_would_0 rfl rfl
theorem r_268_1 (ls : List Value) (b0 : Int32) (ws : ai_W) : ai_Run 268 1 ls [.int b0] ws = (ai_Call 223 [.int b0] ws).bind fun q => ai_Run 268 4 ls (q.1.toList ++ []) q.2 := R_callS hc_268 dX11_would_1 hv_268 (w := 1217) rfl (Nat.le_of_ble_eq_true rfl) hk_223 (by rw [hn_223]; rfl) rfl (Nat.le_of_ble_eq_true rfl) rfl
theorem r_268_4 (ls st : List Value) (a : Int32) (ws : ai_W) : ai_Run 268 4 ls (.int a :: st) ws = if a = 0 then ai_Run 268 26 ls st ws else ai_Run 268 7 ls st ws := R_if_eq hc_268 dX11_would_4 rfl rfl
theorem r_268_7 (l1 l2 l3 l4 l5 l6 l7 : Value) (a : Nat) (st : List Value) (ws : ai_W) : ai_Run 268 7 [.ref a, l1, l2, l3, l4, l5, l6, l7] st ws = ai_Run 268 8 [.ref a, l1, l2, l3, l4, l5, l6, l7] (.ref a :: st) ws := R_aload_n hc_268 dX11_would_7 rfl rfl
theorem r_268_8 (l0 l1 l2 l4 l5 l6 l7 : Value) (a : Int32) (st : List Value) (ws : ai_W) : ai_Run 268 8 [l0, l1, l2, .int a, l4, l5, l6, l7] st ws = ai_Run 268 9 [l0, l1, l2, .int a, l4, l5, l6, l7] (.int a :: st) ws := R_iload_n hc_268 dX11_would_8 rfl rfl
theorem r_268_9 (ls : List Value) (r : Nat) (b0 : Int32) (ws : ai_W) : ai_Run 268 9 ls [.int b0, .ref r] ws = (ai_Call 200 [.ref r, .int b0] ws).bind fun q => ai_Run 268 12 ls (q.1.toList ++ []) q.2 := R_callV hc_268 dX11_would_9 hv_268 (w := 1123) rfl (Nat.le_of_ble_eq_true rfl) hk_200 (by rw [hn_200]; rfl) rfl (Nat.le_of_ble_eq_true rfl) rfl
theorem r_268_12 (ls st : List Value) (a : Int32) (ws : ai_W) : ai_Run 268 12 ls (.int a :: st) ws = if a = 0 then ai_Run 268 26 ls st ws else ai_Run 268 15 ls st ws := R_if_eq hc_268 dX11_would_12 rfl rfl
theorem r_268_15 (l1 l2 l3 l4 l5 l6 l7 : Value) (a : Nat) (st : List Value) (ws : ai_W) : ai_Run 268 15 [.ref a, l1, l2, l3, l4, l5, l6, l7] st ws = ai_Run 268 16 [.ref a, l1, l2, l3, l4, l5, l6, l7] (.ref a :: st) ws := R_aload_n hc_268 dX11_would_15 rfl rfl
theorem r_268_16 (l0 l1 l2 l3 l5 l6 l7 : Value) (a : Int32) (st : List Value) (ws : ai_W) : ai_Run 268 16 [l0, l1, l2, l3, .int a, l5, l6, l7] st ws = ai_Run 268 18 [l0, l1, l2, l3, .int a, l5, l6, l7] (.int a :: st) ws := R_iload hc_268 dX11_would_16 rfl rfl
theorem r_268_18 (l0 l1 l2 l3 l4 l6 l7 : Value) (a : Int32) (st : List Value) (ws : ai_W) : ai_Run 268 18 [l0, l1, l2, l3, l4, .int a, l6, l7] st ws = ai_Run 268 20 [l0, l1, l2, l3, l4, .int a, l6, l7] (.int a :: st) ws := R_iload hc_268 dX11_would_18 rfl rfl
theorem r_268_20 (ls : List Value) (r : Nat) (b0 : Int32) (b1 : Int32) (ws : ai_W) : ai_Run 268 20 ls [.int b1, .int b0, .ref r] ws = (ai_Call 211 [.ref r, .int b0, .int b1] ws).bind fun q => ai_Run 268 23 ls (q.1.toList ++ []) q.2 := R_callV hc_268 dX11_would_20 hv_268 (w := 1240) rfl (Nat.le_of_ble_eq_true rfl) hk_211 (by rw [hn_211]; rfl) rfl (Nat.le_of_ble_eq_true rfl) rfl
theorem r_268_23 (ls st : List Value) (a : Int32) (ws : ai_W) : ai_Run 268 23 ls (.int a :: st) ws = if a = 0 then ai_Run 268 26 ls st ws else ai_Run 268 28 ls st ws := R_if_ne hc_268 dX11_would_23 rfl rfl
theorem r_268_26 (ls st : List Value) (ws : ai_W) : ai_Run 268 26 ls st ws = ai_Run 268 27 ls (.int (-1) :: st) ws := R_iconst hc_268 dX11_would_26 (by decide) rfl
theorem r_268_27 (ls : List Value) (x : Int32) (ws : ai_W) : ai_Run 268 27 ls [.int x] ws = some (some (.int x), ws) := R_iret hc_268 dX11_would_27 ht_268
theorem r_268_28 (l0 l1 l3 l4 l5 l6 l7 : Value) (a : Int32) (st : List Value) (ws : ai_W) : ai_Run 268 28 [l0, l1, .int a, l3, l4, l5, l6, l7] st ws = ai_Run 268 29 [l0, l1, .int a, l3, l4, l5, l6, l7] (.int a :: st) ws := R_iload_n hc_268 dX11_would_28 rfl rfl
theorem r_268_29 (ls st : List Value) (ws : ai_W) : ai_Run 268 29 ls st ws = ai_Run 268 30 ls (.int 1 :: st) ws := R_iconst hc_268 dX11_would_29 (by decide) rfl
theorem r_268_30 (ls st : List Value) (ws : ai_W) : ai_Run 268 30 ls st ws = ai_Run 268 32 ls (.int 9 :: st) ws := R_bipush hc_268 dX11_would_30 (by decide) rfl
theorem r_268_32 (ls : List Value) (b0 : Int32) (b1 : Int32) (b2 : Int32) (ws : ai_W) : ai_Run 268 32 ls [.int b2, .int b1, .int b0] ws = (ai_Call 179 [.int b0, .int b1, .int b2] ws).bind fun q => ai_Run 268 35 ls (q.1.toList ++ []) q.2 := R_callS hc_268 dX11_would_32 hv_268 (w := 1127) rfl (Nat.le_of_ble_eq_true rfl) hk_179 (by rw [hn_179]; rfl) rfl (Nat.le_of_ble_eq_true rfl) rfl
theorem r_268_35 (ls st : List Value) (a : Int32) (ws : ai_W) : ai_Run 268 35 ls (.int a :: st) ws = if a = 0 then ai_Run 268 44 ls st ws else ai_Run 268 38 ls st ws := R_if_eq hc_268 dX11_would_35 rfl rfl
theorem r_268_38 (l0 l1 l2 l4 l5 l6 l7 : Value) (a : Int32) (st : List Value) (ws : ai_W) : ai_Run 268 38 [l0, l1, l2, .int a, l4, l5, l6, l7] st ws = ai_Run 268 39 [l0, l1, l2, .int a, l4, l5, l6, l7] (.int a :: st) ws := R_iload_n hc_268 dX11_would_38 rfl rfl
theorem r_268_39 (l0 l1 l2 l3 l5 l6 l7 : Value) (a : Int32) (st : List Value) (ws : ai_W) : ai_Run 268 39 [l0, l1, l2, l3, .int a, l5, l6, l7] st ws = ai_Run 268 41 [l0, l1, l2, l3, .int a, l5, l6, l7] (.int a :: st) ws := R_iload hc_268 dX11_would_39 rfl rfl
theorem r_268_41 (ls st : List Value) (a b : Int32) (ws : ai_W) : ai_Run 268 41 ls (.int b :: .int a :: st) ws = if a = b then ai_Run 268 44 ls st ws else ai_Run 268 47 ls st ws := R_cmp_ne hc_268 dX11_would_41 rfl rfl
theorem r_268_44 (ls st : List Value) (ws : ai_W) : ai_Run 268 44 ls st ws = ai_Run 268 46 ls (.int (-2) :: st) ws := R_bipush hc_268 dX11_would_44 (by decide) rfl
theorem r_268_46 (ls : List Value) (x : Int32) (ws : ai_W) : ai_Run 268 46 ls [.int x] ws = some (some (.int x), ws) := R_iret hc_268 dX11_would_46 ht_268
theorem r_268_47 (l1 l2 l3 l4 l5 l6 l7 : Value) (a : Nat) (st : List Value) (ws : ai_W) : ai_Run 268 47 [.ref a, l1, l2, l3, l4, l5, l6, l7] st ws = ai_Run 268 48 [.ref a, l1, l2, l3, l4, l5, l6, l7] (.ref a :: st) ws := R_aload_n hc_268 dX11_would_47 rfl rfl
theorem r_268_48 (ls st : List Value) (a : Nat) (ws : ai_W) : ai_Run 268 48 ls (.ref a :: st) ws = (ai_fget ws a 11 0).bind fun q => ai_Run 268 51 ls (q :: st) ws := R_getf hc_268 dX11_would_48 hv_268 (w := 1024) rfl rfl
theorem r_268_51 (ls st : List Value) (ws : ai_W) : ai_Run 268 51 ls st ws = ai_Run 268 53 ls (.int 38 :: st) ws := R_bipush hc_268 dX11_would_51 (by decide) rfl
theorem r_268_53 (l0 l2 l3 l4 l5 l6 l7 : Value) (a : Int32) (st : List Value) (ws : ai_W) : ai_Run 268 53 [l0, .int a, l2, l3, l4, l5, l6, l7] st ws = ai_Run 268 54 [l0, .int a, l2, l3, l4, l5, l6, l7] (.int a :: st) ws := R_iload_n hc_268 dX11_would_53 rfl rfl
theorem r_268_54 (ls st : List Value) (a b : Int32) (ws : ai_W) : ai_Run 268 54 ls (.int b :: .int a :: st) ws = ai_Run 268 55 ls (.int (a + b) :: st) ws := R_iadd hc_268 dX11_would_54 rfl
theorem r_268_55 (ls st : List Value) (a : Nat) (i : Int32) (ws : ai_W) : ai_Run 268 55 ls (.int i :: .ref a :: st) ws = (ai_aget ws a i).bind fun q => ai_Run 268 56 ls (.int q :: st) ws := R_iaload hc_268 dX11_would_55 rfl
theorem r_268_56 (l0 l1 l2 l3 l4 l5 l6 l7 : Value) (a : Int32) (st : List Value) (ws : ai_W) : ai_Run 268 56 [l0, l1, l2, l3, l4, l5, l6, l7] (.int a :: st) ws = ai_Run 268 58 [l0, l1, l2, l3, l4, l5, .int a, l7] st ws := R_istore hc_268 dX11_would_56 (Nat.le_of_ble_eq_true rfl) rfl rfl
theorem r_268_58 (l1 l2 l3 l4 l5 l6 l7 : Value) (a : Nat) (st : List Value) (ws : ai_W) : ai_Run 268 58 [.ref a, l1, l2, l3, l4, l5, l6, l7] st ws = ai_Run 268 59 [.ref a, l1, l2, l3, l4, l5, l6, l7] (.ref a :: st) ws := R_aload_n hc_268 dX11_would_58 rfl rfl
theorem r_268_59 (ls st : List Value) (a : Nat) (ws : ai_W) : ai_Run 268 59 ls (.ref a :: st) ws = (ai_fget ws a 11 0).bind fun q => ai_Run 268 62 ls (q :: st) ws := R_getf hc_268 dX11_would_59 hv_268 (w := 1024) rfl rfl
theorem r_268_62 (ls st : List Value) (ws : ai_W) : ai_Run 268 62 ls st ws = ai_Run 268 64 ls (.int 38 :: st) ws := R_bipush hc_268 dX11_would_62 (by decide) rfl
theorem r_268_64 (l0 l2 l3 l4 l5 l6 l7 : Value) (a : Int32) (st : List Value) (ws : ai_W) : ai_Run 268 64 [l0, .int a, l2, l3, l4, l5, l6, l7] st ws = ai_Run 268 65 [l0, .int a, l2, l3, l4, l5, l6, l7] (.int a :: st) ws := R_iload_n hc_268 dX11_would_64 rfl rfl
theorem r_268_65 (ls st : List Value) (a b : Int32) (ws : ai_W) : ai_Run 268 65 ls (.int b :: .int a :: st) ws = ai_Run 268 66 ls (.int (a + b) :: st) ws := R_iadd hc_268 dX11_would_65 rfl
theorem r_268_66 (l0 l1 l3 l4 l5 l6 l7 : Value) (a : Int32) (st : List Value) (ws : ai_W) : ai_Run 268 66 [l0, l1, .int a, l3, l4, l5, l6, l7] st ws = ai_Run 268 67 [l0, l1, .int a, l3, l4, l5, l6, l7] (.int a :: st) ws := R_iload_n hc_268 dX11_would_66 rfl rfl
theorem r_268_67 (ls st : List Value) (a : Nat) (i x : Int32) (ws : ai_W) : ai_Run 268 67 ls (.int x :: .int i :: .ref a :: st) ws = (ai_aset ws a i x).bind fun ws => ai_Run 268 68 ls st ws := R_iastore hc_268 dX11_would_67 rfl
theorem r_268_68 (l1 l2 l3 l4 l5 l6 l7 : Value) (a : Nat) (st : List Value) (ws : ai_W) : ai_Run 268 68 [.ref a, l1, l2, l3, l4, l5, l6, l7] st ws = ai_Run 268 69 [.ref a, l1, l2, l3, l4, l5, l6, l7] (.ref a :: st) ws := R_aload_n hc_268 dX11_would_68 rfl rfl
theorem r_268_69 (l0 l1 l2 l4 l5 l6 l7 : Value) (a : Int32) (st : List Value) (ws : ai_W) : ai_Run 268 69 [l0, l1, l2, .int a, l4, l5, l6, l7] st ws = ai_Run 268 70 [l0, l1, l2, .int a, l4, l5, l6, l7] (.int a :: st) ws := R_iload_n hc_268 dX11_would_69 rfl rfl
theorem r_268_70 (l0 l1 l2 l3 l5 l6 l7 : Value) (a : Int32) (st : List Value) (ws : ai_W) : ai_Run 268 70 [l0, l1, l2, l3, .int a, l5, l6, l7] st ws = ai_Run 268 72 [l0, l1, l2, l3, .int a, l5, l6, l7] (.int a :: st) ws := R_iload hc_268 dX11_would_70 rfl rfl
theorem r_268_72 (l0 l1 l2 l3 l4 l6 l7 : Value) (a : Int32) (st : List Value) (ws : ai_W) : ai_Run 268 72 [l0, l1, l2, l3, l4, .int a, l6, l7] st ws = ai_Run 268 74 [l0, l1, l2, l3, l4, .int a, l6, l7] (.int a :: st) ws := R_iload hc_268 dX11_would_72 rfl rfl
theorem r_268_74 (ls : List Value) (r : Nat) (b0 : Int32) (b1 : Int32) (b2 : Int32) (ws : ai_W) : ai_Run 268 74 ls [.int b2, .int b1, .int b0, .ref r] ws = (ai_Call 228 [.ref r, .int b0, .int b1, .int b2] ws).bind fun q => ai_Run 268 77 ls (q.1.toList ++ []) q.2 := R_callV hc_268 dX11_would_74 hv_268 (w := 1260) rfl (Nat.le_of_ble_eq_true rfl) hk_228 (by rw [hn_228]; rfl) rfl (Nat.le_of_ble_eq_true rfl) rfl
theorem r_268_77 (ls st : List Value) (a : Int32) (ws : ai_W) : ai_Run 268 77 ls (.int a :: st) ws = if a = 0 then ai_Run 268 84 ls st ws else ai_Run 268 80 ls st ws := R_if_eq hc_268 dX11_would_77 rfl rfl
theorem r_268_80 (ls st : List Value) (ws : ai_W) : ai_Run 268 80 ls st ws = ai_Run 268 81 ls (.int 1 :: st) ws := R_iconst hc_268 dX11_would_80 (by decide) rfl
theorem r_268_81 (ls st : List Value) (ws : ai_W) : ai_Run 268 81 ls st ws = ai_Run 268 85 ls st ws := R_goto hc_268 dX11_would_81 rfl
theorem r_268_84 (ls st : List Value) (ws : ai_W) : ai_Run 268 84 ls st ws = ai_Run 268 85 ls (.int 0 :: st) ws := R_iconst hc_268 dX11_would_84 (by decide) rfl
theorem r_268_85 (l0 l1 l2 l3 l4 l5 l6 l7 : Value) (a : Int32) (st : List Value) (ws : ai_W) : ai_Run 268 85 [l0, l1, l2, l3, l4, l5, l6, l7] (.int a :: st) ws = ai_Run 268 87 [l0, l1, l2, l3, l4, l5, l6, .int a] st ws := R_istore hc_268 dX11_would_85 (Nat.le_of_ble_eq_true rfl) rfl rfl
theorem r_268_87 (l1 l2 l3 l4 l5 l6 l7 : Value) (a : Nat) (st : List Value) (ws : ai_W) : ai_Run 268 87 [.ref a, l1, l2, l3, l4, l5, l6, l7] st ws = ai_Run 268 88 [.ref a, l1, l2, l3, l4, l5, l6, l7] (.ref a :: st) ws := R_aload_n hc_268 dX11_would_87 rfl rfl
theorem r_268_88 (ls st : List Value) (a : Nat) (ws : ai_W) : ai_Run 268 88 ls (.ref a :: st) ws = (ai_fget ws a 11 0).bind fun q => ai_Run 268 91 ls (q :: st) ws := R_getf hc_268 dX11_would_88 hv_268 (w := 1024) rfl rfl
theorem r_268_91 (ls st : List Value) (ws : ai_W) : ai_Run 268 91 ls st ws = ai_Run 268 93 ls (.int 38 :: st) ws := R_bipush hc_268 dX11_would_91 (by decide) rfl
theorem r_268_93 (l0 l2 l3 l4 l5 l6 l7 : Value) (a : Int32) (st : List Value) (ws : ai_W) : ai_Run 268 93 [l0, .int a, l2, l3, l4, l5, l6, l7] st ws = ai_Run 268 94 [l0, .int a, l2, l3, l4, l5, l6, l7] (.int a :: st) ws := R_iload_n hc_268 dX11_would_93 rfl rfl
theorem r_268_94 (ls st : List Value) (a b : Int32) (ws : ai_W) : ai_Run 268 94 ls (.int b :: .int a :: st) ws = ai_Run 268 95 ls (.int (a + b) :: st) ws := R_iadd hc_268 dX11_would_94 rfl
theorem r_268_95 (l0 l1 l2 l3 l4 l5 l7 : Value) (a : Int32) (st : List Value) (ws : ai_W) : ai_Run 268 95 [l0, l1, l2, l3, l4, l5, .int a, l7] st ws = ai_Run 268 97 [l0, l1, l2, l3, l4, l5, .int a, l7] (.int a :: st) ws := R_iload hc_268 dX11_would_95 rfl rfl
theorem r_268_97 (ls st : List Value) (a : Nat) (i x : Int32) (ws : ai_W) : ai_Run 268 97 ls (.int x :: .int i :: .ref a :: st) ws = (ai_aset ws a i x).bind fun ws => ai_Run 268 98 ls st ws := R_iastore hc_268 dX11_would_97 rfl
theorem r_268_98 (l0 l1 l2 l3 l4 l5 l6 : Value) (a : Int32) (st : List Value) (ws : ai_W) : ai_Run 268 98 [l0, l1, l2, l3, l4, l5, l6, .int a] st ws = ai_Run 268 100 [l0, l1, l2, l3, l4, l5, l6, .int a] (.int a :: st) ws := R_iload hc_268 dX11_would_98 rfl rfl
theorem r_268_100 (ls : List Value) (x : Int32) (ws : ai_W) : ai_Run 268 100 ls [.int x] ws = some (some (.int x), ws) := R_iret hc_268 dX11_would_100 ht_268
theorem dX11_write_0 : decode cX11_write 0 = .ok (.aload_n 0, 1) := by decide +kernel
theorem dX11_write_1 : decode cX11_write 1 = .ok (.invokevirtual 78, 3) := by decide +kernel
theorem dX11_write_4 : decode cX11_write 4 = .ok (.aload_n 0, 1) := by decide +kernel
theorem dX11_write_5 : decode cX11_write 5 = .ok (.aload_n 0, 1) := by decide +kernel
theorem dX11_write_6 : decode cX11_write 6 = .ok (.iload_n 1, 1) := by decide +kernel
theorem dX11_write_7 : decode cX11_write 7 = .ok (.iload_n 2, 1) := by decide +kernel
theorem dX11_write_8 : decode cX11_write 8 = .ok (.invokevirtual 120, 3) := by decide +kernel
theorem dX11_write_11 : decode cX11_write 11 = .ok (.invokevirtual 85, 3) := by decide +kernel
theorem dX11_write_14 : decode cX11_write 14 = .ok (.ireturn, 1) := by decide +kernel
theorem e_269 (r : Nat) (a0 : Int32) (a1 : Int32) (ws : ai_W) : ai_Call 269 [.ref r, .int a0, .int a1] ws = if ai_isob ws r 11 = true then ai_Run 269 0 [.ref r, .int a0, .int a1] [] ws else none := R_entV hk_269 ⟨⟨rfl, rfl⟩, Nat.le_of_ble_eq_true rfl⟩ rfl
theorem r_269_0 (l1 l2 : Value) (a : Nat) (st : List Value) (ws : ai_W) : ai_Run 269 0 [.ref a, l1, l2] st ws = ai_Run 269 1 [.ref a, l1, l2] (.ref a :: st) ws := R_aload_n hc_269 dX11_write_0 rfl rfl
theorem r_269_1 (ls : List Value) (r : Nat) (ws : ai_W) : ai_Run 269 1 ls [.ref r] ws = (ai_Call 182 [.ref r] ws).bind fun q => ai_Run 269 4 ls (q.1.toList ++ []) q.2 := R_callV hc_269 dX11_write_1 hv_269 (w := 1077) rfl (Nat.le_of_ble_eq_true rfl) hk_182 (by rw [hn_182]; rfl) rfl (Nat.le_of_ble_eq_true rfl) rfl
theorem r_269_4 (l1 l2 : Value) (a : Nat) (st : List Value) (ws : ai_W) : ai_Run 269 4 [.ref a, l1, l2] st ws = ai_Run 269 5 [.ref a, l1, l2] (.ref a :: st) ws := R_aload_n hc_269 dX11_write_4 rfl rfl
theorem r_269_5 (l1 l2 : Value) (a : Nat) (st : List Value) (ws : ai_W) : ai_Run 269 5 [.ref a, l1, l2] st ws = ai_Run 269 6 [.ref a, l1, l2] (.ref a :: st) ws := R_aload_n hc_269 dX11_write_5 rfl rfl
theorem r_269_6 (l0 l2 : Value) (a : Int32) (st : List Value) (ws : ai_W) : ai_Run 269 6 [l0, .int a, l2] st ws = ai_Run 269 7 [l0, .int a, l2] (.int a :: st) ws := R_iload_n hc_269 dX11_write_6 rfl rfl
theorem r_269_7 (l0 l1 : Value) (a : Int32) (st : List Value) (ws : ai_W) : ai_Run 269 7 [l0, l1, .int a] st ws = ai_Run 269 8 [l0, l1, .int a] (.int a :: st) ws := R_iload_n hc_269 dX11_write_7 rfl rfl
theorem r_269_8 (ls : List Value) (r : Nat) (b0 : Int32) (b1 : Int32) (s0 : Value) (ws : ai_W) : ai_Run 269 8 ls [.int b1, .int b0, .ref r, s0] ws = (ai_Call 220 [.ref r, .int b0, .int b1] ws).bind fun q => ai_Run 269 11 ls (q.1.toList ++ [s0]) q.2 := R_callV hc_269 dX11_write_8 hv_269 (w := 1177) rfl (Nat.le_of_ble_eq_true rfl) hk_220 (by rw [hn_220]; rfl) rfl (Nat.le_of_ble_eq_true rfl) rfl
theorem r_269_11 (ls : List Value) (r : Nat) (b0 : Int32) (ws : ai_W) : ai_Run 269 11 ls [.int b0, .ref r] ws = (ai_Call 187 [.ref r, .int b0] ws).bind fun q => ai_Run 269 14 ls (q.1.toList ++ []) q.2 := R_callV hc_269 dX11_write_11 hv_269 (w := 1096) rfl (Nat.le_of_ble_eq_true rfl) hk_187 (by rw [hn_187]; rfl) rfl (Nat.le_of_ble_eq_true rfl) rfl
theorem r_269_14 (ls : List Value) (x : Int32) (ws : ai_W) : ai_Run 269 14 ls [.int x] ws = some (some (.int x), ws) := R_iret hc_269 dX11_write_14 ht_269
