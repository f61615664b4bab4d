/-! rules: printed by gen2.py -/
theorem dJ9_max_7cf53_0 : decode cJ9_max_7cf53 0 = .ok (.iload_n 0, 1) := by decide +kernel
theorem dJ9_max_7cf53_1 : decode cJ9_max_7cf53 1 = .ok (.iload_n 1, 1) := by decide +kernel
theorem dJ9_max_7cf53_2 : decode cJ9_max_7cf53 2 = .ok (.if_icmp .lt 7, 3) := by decide +kernel
theorem dJ9_max_7cf53_5 : decode cJ9_max_7cf53 5 = .ok (.iload_n 0, 1) := by decide +kernel
theorem dJ9_max_7cf53_6 : decode cJ9_max_7cf53 6 = .ok (.goto 4, 3) := by decide +kernel
theorem dJ9_max_7cf53_9 : decode cJ9_max_7cf53 9 = .ok (.iload_n 1, 1) := by decide +kernel
theorem dJ9_max_7cf53_10 : decode cJ9_max_7cf53 10 = .ok (.ireturn, 1) := by decide +kernel
theorem e_0 (a0 : Int32) (a1 : Int32) (ws : ai_W) : ai_Call 0 [.int a0, .int a1] ws = ai_Run 0 0 [.int a0, .int a1] [] ws := R_entS hk_0 ⟨⟨rfl, rfl⟩, Nat.le_of_ble_eq_true rfl⟩ rfl
theorem r_0_0 (l1 : Value) (a : Int32) (st : List Value) (ws : ai_W) : ai_Run 0 0 [.int a, l1] st ws = ai_Run 0 1 [.int a, l1] (.int a :: st) ws := R_iload_n hc_0 dJ9_max_7cf53_0 rfl rfl
theorem r_0_1 (l0 : Value) (a : Int32) (st : List Value) (ws : ai_W) : ai_Run 0 1 [l0, .int a] st ws = ai_Run 0 2 [l0, .int a] (.int a :: st) ws := R_iload_n hc_0 dJ9_max_7cf53_1 rfl rfl
theorem r_0_2 (ls st : List Value) (a b : Int32) (ws : ai_W) : ai_Run 0 2 ls (.int b :: .int a :: st) ws = if a < b then ai_Run 0 9 ls st ws else ai_Run 0 5 ls st ws := R_cmp_lt hc_0 dJ9_max_7cf53_2 rfl rfl
theorem r_0_5 (l1 : Value) (a : Int32) (st : List Value) (ws : ai_W) : ai_Run 0 5 [.int a, l1] st ws = ai_Run 0 6 [.int a, l1] (.int a :: st) ws := R_iload_n hc_0 dJ9_max_7cf53_5 rfl rfl
theorem r_0_6 (ls st : List Value) (ws : ai_W) : ai_Run 0 6 ls st ws = ai_Run 0 10 ls st ws := R_goto hc_0 dJ9_max_7cf53_6 rfl
theorem r_0_9 (l0 : Value) (a : Int32) (st : List Value) (ws : ai_W) : ai_Run 0 9 [l0, .int a] st ws = ai_Run 0 10 [l0, .int a] (.int a :: st) ws := R_iload_n hc_0 dJ9_max_7cf53_9 rfl rfl
theorem r_0_10 (ls : List Value) (x : Int32) (ws : ai_W) : ai_Run 0 10 ls [.int x] ws = some (some (.int x), ws) := R_iret hc_0 dJ9_max_7cf53_10 ht_0
theorem dJ9_min_7cf53_0 : decode cJ9_min_7cf53 0 = .ok (.iload_n 0, 1) := by decide +kernel
theorem dJ9_min_7cf53_1 : decode cJ9_min_7cf53 1 = .ok (.iload_n 1, 1) := by decide +kernel
theorem dJ9_min_7cf53_2 : decode cJ9_min_7cf53 2 = .ok (.if_icmp .gt 7, 3) := by decide +kernel
theorem dJ9_min_7cf53_5 : decode cJ9_min_7cf53 5 = .ok (.iload_n 0, 1) := by decide +kernel
theorem dJ9_min_7cf53_6 : decode cJ9_min_7cf53 6 = .ok (.goto 4, 3) := by decide +kernel
theorem dJ9_min_7cf53_9 : decode cJ9_min_7cf53 9 = .ok (.iload_n 1, 1) := by decide +kernel
theorem dJ9_min_7cf53_10 : decode cJ9_min_7cf53 10 = .ok (.ireturn, 1) := by decide +kernel
theorem e_42 (a0 : Int32) (a1 : Int32) (ws : ai_W) : ai_Call 42 [.int a0, .int a1] ws = ai_Run 42 0 [.int a0, .int a1] [] ws := R_entS hk_42 ⟨⟨rfl, rfl⟩, Nat.le_of_ble_eq_true rfl⟩ rfl
theorem r_42_0 (l1 : Value) (a : Int32) (st : List Value) (ws : ai_W) : ai_Run 42 0 [.int a, l1] st ws = ai_Run 42 1 [.int a, l1] (.int a :: st) ws := R_iload_n hc_42 dJ9_min_7cf53_0 rfl rfl
theorem r_42_1 (l0 : Value) (a : Int32) (st : List Value) (ws : ai_W) : ai_Run 42 1 [l0, .int a] st ws = ai_Run 42 2 [l0, .int a] (.int a :: st) ws := R_iload_n hc_42 dJ9_min_7cf53_1 rfl rfl
theorem r_42_2 (ls st : List Value) (a b : Int32) (ws : ai_W) : ai_Run 42 2 ls (.int b :: .int a :: st) ws = if b < a then ai_Run 42 9 ls st ws else ai_Run 42 5 ls st ws := R_cmp_gt hc_42 dJ9_min_7cf53_2 rfl rfl
theorem r_42_5 (l1 : Value) (a : Int32) (st : List Value) (ws : ai_W) : ai_Run 42 5 [.int a, l1] st ws = ai_Run 42 6 [.int a, l1] (.int a :: st) ws := R_iload_n hc_42 dJ9_min_7cf53_5 rfl rfl
theorem r_42_6 (ls st : List Value) (ws : ai_W) : ai_Run 42 6 ls st ws = ai_Run 42 10 ls st ws := R_goto hc_42 dJ9_min_7cf53_6 rfl
theorem r_42_9 (l0 : Value) (a : Int32) (st : List Value) (ws : ai_W) : ai_Run 42 9 [l0, .int a] st ws = ai_Run 42 10 [l0, .int a] (.int a :: st) ws := R_iload_n hc_42 dJ9_min_7cf53_9 rfl rfl
theorem r_42_10 (ls : List Value) (x : Int32) (ws : ai_W) : ai_Run 42 10 ls [.int x] ws = some (some (.int x), ws) := R_iret hc_42 dJ9_min_7cf53_10 ht_42
theorem dJ6_bitCount_0f7a4_0 : decode cJ6_bitCount_0f7a4 0 = .ok (.iload_n 0, 1) := by decide +kernel
theorem dJ6_bitCount_0f7a4_1 : decode cJ6_bitCount_0f7a4 1 = .ok (.iload_n 0, 1) := by decide +kernel
theorem dJ6_bitCount_0f7a4_2 : decode cJ6_bitCount_0f7a4 2 = .ok (.iconst 1, 1) := by decide +kernel
theorem dJ6_bitCount_0f7a4_3 : decode cJ6_bitCount_0f7a4 3 = .ok (.iushr, 1) := by decide +kernel
theorem dJ6_bitCount_0f7a4_4 : decode cJ6_bitCount_0f7a4 4 = .ok (.ldc_w 265, 3) := by decide +kernel
theorem dJ6_bitCount_0f7a4_7 : decode cJ6_bitCount_0f7a4 7 = .ok (.iand, 1) := by decide +kernel
theorem dJ6_bitCount_0f7a4_8 : decode cJ6_bitCount_0f7a4 8 = .ok (.isub, 1) := by decide +kernel
theorem dJ6_bitCount_0f7a4_9 : decode cJ6_bitCount_0f7a4 9 = .ok (.istore_n 0, 1) := by decide +kernel
theorem dJ6_bitCount_0f7a4_10 : decode cJ6_bitCount_0f7a4 10 = .ok (.iload_n 0, 1) := by decide +kernel
theorem dJ6_bitCount_0f7a4_11 : decode cJ6_bitCount_0f7a4 11 = .ok (.ldc_w 266, 3) := by decide +kernel
theorem dJ6_bitCount_0f7a4_14 : decode cJ6_bitCount_0f7a4 14 = .ok (.iand, 1) := by decide +kernel
theorem dJ6_bitCount_0f7a4_15 : decode cJ6_bitCount_0f7a4 15 = .ok (.iload_n 0, 1) := by decide +kernel
theorem dJ6_bitCount_0f7a4_16 : decode cJ6_bitCount_0f7a4 16 = .ok (.iconst 2, 1) := by decide +kernel
theorem dJ6_bitCount_0f7a4_17 : decode cJ6_bitCount_0f7a4 17 = .ok (.iushr, 1) := by decide +kernel
theorem dJ6_bitCount_0f7a4_18 : decode cJ6_bitCount_0f7a4 18 = .ok (.ldc_w 266, 3) := by decide +kernel
theorem dJ6_bitCount_0f7a4_21 : decode cJ6_bitCount_0f7a4 21 = .ok (.iand, 1) := by decide +kernel
theorem dJ6_bitCount_0f7a4_22 : decode cJ6_bitCount_0f7a4 22 = .ok (.iadd, 1) := by decide +kernel
theorem dJ6_bitCount_0f7a4_23 : decode cJ6_bitCount_0f7a4 23 = .ok (.istore_n 0, 1) := by decide +kernel
theorem dJ6_bitCount_0f7a4_24 : decode cJ6_bitCount_0f7a4 24 = .ok (.iload_n 0, 1) := by decide +kernel
theorem dJ6_bitCount_0f7a4_25 : decode cJ6_bitCount_0f7a4 25 = .ok (.iload_n 0, 1) := by decide +kernel
theorem dJ6_bitCount_0f7a4_26 : decode cJ6_bitCount_0f7a4 26 = .ok (.iconst 4, 1) := by decide +kernel
theorem dJ6_bitCount_0f7a4_27 : decode cJ6_bitCount_0f7a4 27 = .ok (.iushr, 1) := by decide +kernel
theorem dJ6_bitCount_0f7a4_28 : decode cJ6_bitCount_0f7a4 28 = .ok (.iadd, 1) := by decide +kernel
theorem dJ6_bitCount_0f7a4_29 : decode cJ6_bitCount_0f7a4 29 = .ok (.ldc_w 267, 3) := by decide +kernel
theorem dJ6_bitCount_0f7a4_32 : decode cJ6_bitCount_0f7a4 32 = .ok (.iand, 1) := by decide +kernel
theorem dJ6_bitCount_0f7a4_33 : decode cJ6_bitCount_0f7a4 33 = .ok (.istore_n 0, 1) := by decide +kernel
theorem dJ6_bitCount_0f7a4_34 : decode cJ6_bitCount_0f7a4 34 = .ok (.iload_n 0, 1) := by decide +kernel
theorem dJ6_bitCount_0f7a4_35 : decode cJ6_bitCount_0f7a4 35 = .ok (.iload_n 0, 1) := by decide +kernel
theorem dJ6_bitCount_0f7a4_36 : decode cJ6_bitCount_0f7a4 36 = .ok (.bipush 8, 2) := by decide +kernel
theorem dJ6_bitCount_0f7a4_38 : decode cJ6_bitCount_0f7a4 38 = .ok (.iushr, 1) := by decide +kernel
theorem dJ6_bitCount_0f7a4_39 : decode cJ6_bitCount_0f7a4 39 = .ok (.iadd, 1) := by decide +kernel
theorem dJ6_bitCount_0f7a4_40 : decode cJ6_bitCount_0f7a4 40 = .ok (.istore_n 0, 1) := by decide +kernel
theorem dJ6_bitCount_0f7a4_41 : decode cJ6_bitCount_0f7a4 41 = .ok (.iload_n 0, 1) := by decide +kernel
theorem dJ6_bitCount_0f7a4_42 : decode cJ6_bitCount_0f7a4 42 = .ok (.iload_n 0, 1) := by decide +kernel
theorem dJ6_bitCount_0f7a4_43 : decode cJ6_bitCount_0f7a4 43 = .ok (.bipush 16, 2) := by decide +kernel
theorem dJ6_bitCount_0f7a4_45 : decode cJ6_bitCount_0f7a4 45 = .ok (.iushr, 1) := by decide +kernel
theorem dJ6_bitCount_0f7a4_46 : decode cJ6_bitCount_0f7a4 46 = .ok (.iadd, 1) := by decide +kernel
theorem dJ6_bitCount_0f7a4_47 : decode cJ6_bitCount_0f7a4 47 = .ok (.istore_n 0, 1) := by decide +kernel
theorem dJ6_bitCount_0f7a4_48 : decode cJ6_bitCount_0f7a4 48 = .ok (.iload_n 0, 1) := by decide +kernel
theorem dJ6_bitCount_0f7a4_49 : decode cJ6_bitCount_0f7a4 49 = .ok (.bipush 63, 2) := by decide +kernel
theorem dJ6_bitCount_0f7a4_51 : decode cJ6_bitCount_0f7a4 51 = .ok (.iand, 1) := by decide +kernel
theorem dJ6_bitCount_0f7a4_52 : decode cJ6_bitCount_0f7a4 52 = .ok (.ireturn, 1) := by decide +kernel
theorem e_100 (a0 : Int32) (ws : ai_W) : ai_Call 100 [.int a0] ws = ai_Run 100 0 [.int a0] [] ws := R_entS hk_100 ⟨⟨rfl, rfl⟩, Nat.le_of_ble_eq_true rfl⟩ rfl
theorem r_100_0 (a : Int32) (st : List Value) (ws : ai_W) : ai_Run 100 0 [.int a] st ws = ai_Run 100 1 [.int a] (.int a :: st) ws := R_iload_n hc_100 dJ6_bitCount_0f7a4_0 rfl rfl
theorem r_100_1 (a : Int32) (st : List Value) (ws : ai_W) : ai_Run 100 1 [.int a] st ws = ai_Run 100 2 [.int a] (.int a :: st) ws := R_iload_n hc_100 dJ6_bitCount_0f7a4_1 rfl rfl
theorem r_100_2 (ls st : List Value) (ws : ai_W) : ai_Run 100 2 ls st ws = ai_Run 100 3 ls (.int 1 :: st) ws := R_iconst hc_100 dJ6_bitCount_0f7a4_2 (by decide) rfl
theorem r_100_3 (ls st : List Value) (a b : Int32) (ws : ai_W) : ai_Run 100 3 ls (.int b :: .int a :: st) ws = ai_Run 100 4 ls (.int ((a.toUInt32 >>> (b.toUInt32 &&& Int32.toUInt32 31)).toInt32) :: st) ws := R_iushr hc_100 dJ6_bitCount_0f7a4_3 rfl
theorem r_100_4 (ls st : List Value) (ws : ai_W) : ai_Run 100 4 ls st ws = ai_Run 100 7 ls (.int 1431655765 :: st) ws := R_ldcwi hc_100 dJ6_bitCount_0f7a4_4 rfl rfl
theorem r_100_7 (ls st : List Value) (a b : Int32) (ws : ai_W) : ai_Run 100 7 ls (.int b :: .int a :: st) ws = ai_Run 100 8 ls (.int (a &&& b) :: st) ws := R_iand hc_100 dJ6_bitCount_0f7a4_7 rfl
theorem r_100_8 (ls st : List Value) (a b : Int32) (ws : ai_W) : ai_Run 100 8 ls (.int b :: .int a :: st) ws = ai_Run 100 9 ls (.int (a - b) :: st) ws := R_isub hc_100 dJ6_bitCount_0f7a4_8 rfl
theorem r_100_9 (l0 : Value) (a : Int32) (st : List Value) (ws : ai_W) : ai_Run 100 9 [l0] (.int a :: st) ws = ai_Run 100 10 [.int a] st ws := R_istore_n hc_100 dJ6_bitCount_0f7a4_9 (Nat.le_of_ble_eq_true rfl) rfl rfl
theorem r_100_10 (a : Int32) (st : List Value) (ws : ai_W) : ai_Run 100 10 [.int a] st ws = ai_Run 100 11 [.int a] (.int a :: st) ws := R_iload_n hc_100 dJ6_bitCount_0f7a4_10 rfl rfl
theorem r_100_11 (ls st : List Value) (ws : ai_W) : ai_Run 100 11 ls st ws = ai_Run 100 14 ls (.int 858993459 :: st) ws := R_ldcwi hc_100 dJ6_bitCount_0f7a4_11 rfl rfl
theorem r_100_14 (ls st : List Value) (a b : Int32) (ws : ai_W) : ai_Run 100 14 ls (.int b :: .int a :: st) ws = ai_Run 100 15 ls (.int (a &&& b) :: st) ws := R_iand hc_100 dJ6_bitCount_0f7a4_14 rfl
theorem r_100_15 (a : Int32) (st : List Value) (ws : ai_W) : ai_Run 100 15 [.int a] st ws = ai_Run 100 16 [.int a] (.int a :: st) ws := R_iload_n hc_100 dJ6_bitCount_0f7a4_15 rfl rfl
theorem r_100_16 (ls st : List Value) (ws : ai_W) : ai_Run 100 16 ls st ws = ai_Run 100 17 ls (.int 2 :: st) ws := R_iconst hc_100 dJ6_bitCount_0f7a4_16 (by decide) rfl
theorem r_100_17 (ls st : List Value) (a b : Int32) (ws : ai_W) : ai_Run 100 17 ls (.int b :: .int a :: st) ws = ai_Run 100 18 ls (.int ((a.toUInt32 >>> (b.toUInt32 &&& Int32.toUInt32 31)).toInt32) :: st) ws := R_iushr hc_100 dJ6_bitCount_0f7a4_17 rfl
theorem r_100_18 (ls st : List Value) (ws : ai_W) : ai_Run 100 18 ls st ws = ai_Run 100 21 ls (.int 858993459 :: st) ws := R_ldcwi hc_100 dJ6_bitCount_0f7a4_18 rfl rfl
theorem r_100_21 (ls st : List Value) (a b : Int32) (ws : ai_W) : ai_Run 100 21 ls (.int b :: .int a :: st) ws = ai_Run 100 22 ls (.int (a &&& b) :: st) ws := R_iand hc_100 dJ6_bitCount_0f7a4_21 rfl
theorem r_100_22 (ls st : List Value) (a b : Int32) (ws : ai_W) : ai_Run 100 22 ls (.int b :: .int a :: st) ws = ai_Run 100 23 ls (.int (a + b) :: st) ws := R_iadd hc_100 dJ6_bitCount_0f7a4_22 rfl
theorem r_100_23 (l0 : Value) (a : Int32) (st : List Value) (ws : ai_W) : ai_Run 100 23 [l0] (.int a :: st) ws = ai_Run 100 24 [.int a] st ws := R_istore_n hc_100 dJ6_bitCount_0f7a4_23 (Nat.le_of_ble_eq_true rfl) rfl rfl
theorem r_100_24 (a : Int32) (st : List Value) (ws : ai_W) : ai_Run 100 24 [.int a] st ws = ai_Run 100 25 [.int a] (.int a :: st) ws := R_iload_n hc_100 dJ6_bitCount_0f7a4_24 rfl rfl
theorem r_100_25 (a : Int32) (st : List Value) (ws : ai_W) : ai_Run 100 25 [.int a] st ws = ai_Run 100 26 [.int a] (.int a :: st) ws := R_iload_n hc_100 dJ6_bitCount_0f7a4_25 rfl rfl
theorem r_100_26 (ls st : List Value) (ws : ai_W) : ai_Run 100 26 ls st ws = ai_Run 100 27 ls (.int 4 :: st) ws := R_iconst hc_100 dJ6_bitCount_0f7a4_26 (by decide) rfl
theorem r_100_27 (ls st : List Value) (a b : Int32) (ws : ai_W) : ai_Run 100 27 ls (.int b :: .int a :: st) ws = ai_Run 100 28 ls (.int ((a.toUInt32 >>> (b.toUInt32 &&& Int32.toUInt32 31)).toInt32) :: st) ws := R_iushr hc_100 dJ6_bitCount_0f7a4_27 rfl
theorem r_100_28 (ls st : List Value) (a b : Int32) (ws : ai_W) : ai_Run 100 28 ls (.int b :: .int a :: st) ws = ai_Run 100 29 ls (.int (a + b) :: st) ws := R_iadd hc_100 dJ6_bitCount_0f7a4_28 rfl
theorem r_100_29 (ls st : List Value) (ws : ai_W) : ai_Run 100 29 ls st ws = ai_Run 100 32 ls (.int 252645135 :: st) ws := R_ldcwi hc_100 dJ6_bitCount_0f7a4_29 rfl rfl
theorem r_100_32 (ls st : List Value) (a b : Int32) (ws : ai_W) : ai_Run 100 32 ls (.int b :: .int a :: st) ws = ai_Run 100 33 ls (.int (a &&& b) :: st) ws := R_iand hc_100 dJ6_bitCount_0f7a4_32 rfl
theorem r_100_33 (l0 : Value) (a : Int32) (st : List Value) (ws : ai_W) : ai_Run 100 33 [l0] (.int a :: st) ws = ai_Run 100 34 [.int a] st ws := R_istore_n hc_100 dJ6_bitCount_0f7a4_33 (Nat.le_of_ble_eq_true rfl) rfl rfl
theorem r_100_34 (a : Int32) (st : List Value) (ws : ai_W) : ai_Run 100 34 [.int a] st ws = ai_Run 100 35 [.int a] (.int a :: st) ws := R_iload_n hc_100 dJ6_bitCount_0f7a4_34 rfl rfl
theorem r_100_35 (a : Int32) (st : List Value) (ws : ai_W) : ai_Run 100 35 [.int a] st ws = ai_Run 100 36 [.int a] (.int a :: st) ws := R_iload_n hc_100 dJ6_bitCount_0f7a4_35 rfl rfl
theorem r_100_36 (ls st : List Value) (ws : ai_W) : ai_Run 100 36 ls st ws = ai_Run 100 38 ls (.int 8 :: st) ws := R_bipush hc_100 dJ6_bitCount_0f7a4_36 (by decide) rfl
theorem r_100_38 (ls st : List Value) (a b : Int32) (ws : ai_W) : ai_Run 100 38 ls (.int b :: .int a :: st) ws = ai_Run 100 39 ls (.int ((a.toUInt32 >>> (b.toUInt32 &&& Int32.toUInt32 31)).toInt32) :: st) ws := R_iushr hc_100 dJ6_bitCount_0f7a4_38 rfl
theorem r_100_39 (ls st : List Value) (a b : Int32) (ws : ai_W) : ai_Run 100 39 ls (.int b :: .int a :: st) ws = ai_Run 100 40 ls (.int (a + b) :: st) ws := R_iadd hc_100 dJ6_bitCount_0f7a4_39 rfl
theorem r_100_40 (l0 : Value) (a : Int32) (st : List Value) (ws : ai_W) : ai_Run 100 40 [l0] (.int a :: st) ws = ai_Run 100 41 [.int a] st ws := R_istore_n hc_100 dJ6_bitCount_0f7a4_40 (Nat.le_of_ble_eq_true rfl) rfl rfl
theorem r_100_41 (a : Int32) (st : List Value) (ws : ai_W) : ai_Run 100 41 [.int a] st ws = ai_Run 100 42 [.int a] (.int a :: st) ws := R_iload_n hc_100 dJ6_bitCount_0f7a4_41 rfl rfl
theorem r_100_42 (a : Int32) (st : List Value) (ws : ai_W) : ai_Run 100 42 [.int a] st ws = ai_Run 100 43 [.int a] (.int a :: st) ws := R_iload_n hc_100 dJ6_bitCount_0f7a4_42 rfl rfl
theorem r_100_43 (ls st : List Value) (ws : ai_W) : ai_Run 100 43 ls st ws = ai_Run 100 45 ls (.int 16 :: st) ws := R_bipush hc_100 dJ6_bitCount_0f7a4_43 (by decide) rfl
theorem r_100_45 (ls st : List Value) (a b : Int32) (ws : ai_W) : ai_Run 100 45 ls (.int b :: .int a :: st) ws = ai_Run 100 46 ls (.int ((a.toUInt32 >>> (b.toUInt32 &&& Int32.toUInt32 31)).toInt32) :: st) ws := R_iushr hc_100 dJ6_bitCount_0f7a4_45 rfl
theorem r_100_46 (ls st : List Value) (a b : Int32) (ws : ai_W) : ai_Run 100 46 ls (.int b :: .int a :: st) ws = ai_Run 100 47 ls (.int (a + b) :: st) ws := R_iadd hc_100 dJ6_bitCount_0f7a4_46 rfl
theorem r_100_47 (l0 : Value) (a : Int32) (st : List Value) (ws : ai_W) : ai_Run 100 47 [l0] (.int a :: st) ws = ai_Run 100 48 [.int a] st ws := R_istore_n hc_100 dJ6_bitCount_0f7a4_47 (Nat.le_of_ble_eq_true rfl) rfl rfl
theorem r_100_48 (a : Int32) (st : List Value) (ws : ai_W) : ai_Run 100 48 [.int a] st ws = ai_Run 100 49 [.int a] (.int a :: st) ws := R_iload_n hc_100 dJ6_bitCount_0f7a4_48 rfl rfl
theorem r_100_49 (ls st : List Value) (ws : ai_W) : ai_Run 100 49 ls st ws = ai_Run 100 51 ls (.int 63 :: st) ws := R_bipush hc_100 dJ6_bitCount_0f7a4_49 (by decide) rfl
theorem r_100_51 (ls st : List Value) (a b : Int32) (ws : ai_W) : ai_Run 100 51 ls (.int b :: .int a :: st) ws = ai_Run 100 52 ls (.int (a &&& b) :: st) ws := R_iand hc_100 dJ6_bitCount_0f7a4_51 rfl
theorem r_100_52 (ls : List Value) (x : Int32) (ws : ai_W) : ai_Run 100 52 ls [.int x] ws = some (some (.int x), ws) := R_iret hc_100 dJ6_bitCount_0f7a4_52 ht_100
theorem dJ5_init_d00df_0 : decode cJ5_init_d00df 0 = .ok (.aload_n 0, 1) := by decide +kernel
theorem dJ5_init_d00df_1 : decode cJ5_init_d00df 1 = .ok (.invokespecial 3, 3) := by decide +kernel
theorem dJ5_init_d00df_4 : decode cJ5_init_d00df 4 = .ok (.getstatic 18, 3) := by decide +kernel
theorem dJ5_init_d00df_7 : decode cJ5_init_d00df 7 = .ok (.ifCond .eq 18, 3) := by decide +kernel
theorem dJ5_init_d00df_10 : decode cJ5_init_d00df 10 = .ok (.aload_n 0, 1) := by decide +kernel
theorem dJ5_init_d00df_11 : decode cJ5_init_d00df 11 = .ok (.iload_n 1, 1) := by decide +kernel
theorem dJ5_init_d00df_12 : decode cJ5_init_d00df 12 = .ok (.newarray .byte, 2) := by decide +kernel
theorem dJ5_init_d00df_14 : decode cJ5_init_d00df 14 = .ok (.putfield 15, 3) := by decide +kernel
theorem dJ5_init_d00df_17 : decode cJ5_init_d00df 17 = .ok (.aload_n 0, 1) := by decide +kernel
theorem dJ5_init_d00df_18 : decode cJ5_init_d00df 18 = .ok (.iconst 0, 1) := by decide +kernel
theorem dJ5_init_d00df_19 : decode cJ5_init_d00df 19 = .ok (.putfield 22, 3) := by decide +kernel
theorem dJ5_init_d00df_22 : decode cJ5_init_d00df 22 = .ok (.goto 16, 3) := by decide +kernel
theorem dJ5_init_d00df_25 : decode cJ5_init_d00df 25 = .ok (.aload_n 0, 1) := by decide +kernel
theorem dJ5_init_d00df_26 : decode cJ5_init_d00df 26 = .ok (.iload_n 1, 1) := by decide +kernel
theorem dJ5_init_d00df_38 : decode cJ5_init_d00df 38 = .ok (.return_, 1) := by decide +kernel
theorem e_168 (r : Nat) (a0 : Int32) (ws : ai_W) : ai_Call 168 [.ref r, .int a0] ws = if ai_isob ws r 11 = true then ai_Run 168 0 [.ref r, .int a0] [] ws else none := R_entI hk_168 ⟨⟨rfl, rfl⟩, Nat.le_of_ble_eq_true rfl⟩ rfl
theorem r_168_0 (l1 : Value) (a : Nat) (st : List Value) (ws : ai_W) : ai_Run 168 0 [.ref a, l1] st ws = ai_Run 168 1 [.ref a, l1] (.ref a :: st) ws := R_aload_n hc_168 dJ5_init_d00df_0 rfl rfl
theorem rx_168_0 (l1 : Value) {a : Nat} (hq : ¬ a = 23) (st : List Value) (ws : ai_W) : ai_Run 168 0 [.retAddr a, l1] st ws = ai_Run 168 1 [.retAddr a, l1] (.retAddr a :: st) ws := R_aload_nX hq hc_168 dJ5_init_d00df_0 rfl rfl
theorem r_168_1 (ls : List Value) (a : Nat) (ws : ai_W) : ai_Run 168 1 ls [.ref a] ws = ai_Run 168 4 ls [] ws := R_obj hc_168 dJ5_init_d00df_1 hv_168 (y2 := 0) (w := 763) rfl (Nat.le_of_ble_eq_true rfl) (ai_nat_of hf_168 ho_168 rfl) rfl
theorem r_168_4 (ls st : List Value) (ws : ai_W) : ai_Run 168 4 ls st ws = ai_Run 168 7 ls (.int 1 :: st) ws := R_gets hc_168 dJ5_init_d00df_4 (q := 0) (w := 764) rfl (Or.inl ⟨rfl, rfl⟩) rfl
theorem r_168_7 (ls st : List Value) (a : Int32) (ws : ai_W) : ai_Run 168 7 ls (.int a :: st) ws = if a = 0 then ai_Run 168 25 ls st ws else ai_Run 168 10 ls st ws := R_if_eq hc_168 dJ5_init_d00df_7 rfl rfl
theorem r_168_10 (l1 : Value) (a : Nat) (st : List Value) (ws : ai_W) : ai_Run 168 10 [.ref a, l1] st ws = ai_Run 168 11 [.ref a, l1] (.ref a :: st) ws := R_aload_n hc_168 dJ5_init_d00df_10 rfl rfl
theorem rx_168_10 (l1 : Value) {a : Nat} (hq : ¬ a = 23) (st : List Value) (ws : ai_W) : ai_Run 168 10 [.retAddr a, l1] st ws = ai_Run 168 11 [.retAddr a, l1] (.retAddr a :: st) ws := R_aload_nX hq hc_168 dJ5_init_d00df_10 rfl rfl
theorem r_168_11 (l0 : Value) (a : Int32) (st : List Value) (ws : ai_W) : ai_Run 168 11 [l0, .int a] st ws = ai_Run 168 12 [l0, .int a] (.int a :: st) ws := R_iload_n hc_168 dJ5_init_d00df_11 rfl rfl
theorem r_168_12 (ls st : List Value) (q : Int32) (ws : ai_W) : ai_Run 168 12 ls (.int q :: st) ws = if q < 0 ∨ 100000 < q.toNatClampNeg then none else ai_Run 168 14 ls (.ref ws.length :: st) (ws ++ [.inr (.inr (77, List.replicate q.toNatClampNeg (.int 0)))]) := R_newb hc_168 dJ5_init_d00df_12 rfl
theorem r_168_14 (ls st : List Value) (a : Nat) (x : Value) (ws : ai_W) : ai_Run 168 14 ls (x :: .ref a :: st) ws = (ai_fput ws a 11 0 x).bind fun ws => ai_Run 168 17 ls st ws := R_putF hc_168 dJ5_init_d00df_14 hv_168 (w := 773) rfl hk_168 rfl rfl
theorem r_168_17 (l1 : Value) (a : Nat) (st : List Value) (ws : ai_W) : ai_Run 168 17 [.ref a, l1] st ws = ai_Run 168 18 [.ref a, l1] (.ref a :: st) ws := R_aload_n hc_168 dJ5_init_d00df_17 rfl rfl
theorem rx_168_17 (l1 : Value) {a : Nat} (hq : ¬ a = 23) (st : List Value) (ws : ai_W) : ai_Run 168 17 [.retAddr a, l1] st ws = ai_Run 168 18 [.retAddr a, l1] (.retAddr a :: st) ws := R_aload_nX hq hc_168 dJ5_init_d00df_17 rfl rfl
theorem r_168_18 (ls st : List Value) (ws : ai_W) : ai_Run 168 18 ls st ws = ai_Run 168 19 ls (.int 0 :: st) ws := R_iconst hc_168 dJ5_init_d00df_18 (by decide) rfl
theorem r_168_19 (ls st : List Value) (a : Nat) (x : Value) (ws : ai_W) : ai_Run 168 19 ls (x :: .ref a :: st) ws = (ai_fput ws a 11 1 x).bind fun ws => ai_Run 168 22 ls st ws := R_putF hc_168 dJ5_init_d00df_19 hv_168 (w := 774) rfl hk_168 rfl rfl
theorem r_168_22 (ls st : List Value) (ws : ai_W) : ai_Run 168 22 ls st ws = ai_Run 168 38 ls st ws := R_goto hc_168 dJ5_init_d00df_22 rfl
theorem r_168_25 (l1 : Value) (a : Nat) (st : List Value) (ws : ai_W) : ai_Run 168 25 [.ref a, l1] st ws = ai_Run 168 26 [.ref a, l1] (.ref a :: st) ws := R_aload_n hc_168 dJ5_init_d00df_25 rfl rfl
theorem rx_168_25 (l1 : Value) {a : Nat} (hq : ¬ a = 23) (st : List Value) (ws : ai_W) : ai_Run 168 25 [.retAddr a, l1] st ws = ai_Run 168 26 [.retAddr a, l1] (.retAddr a :: st) ws := R_aload_nX hq hc_168 dJ5_init_d00df_25 rfl rfl
theorem r_168_26 (l0 : Value) (a : Int32) (st : List Value) (ws : ai_W) : ai_Run 168 26 [l0, .int a] st ws = ai_Run 168 27 [l0, .int a] (.int a :: st) ws := R_iload_n hc_168 dJ5_init_d00df_26 rfl rfl
theorem r_168_38 (ls : List Value) (ws : ai_W) : ai_Run 168 38 ls [] ws = some (none, ws) := R_vret hc_168 dJ5_init_d00df_38 ht_168
theorem dJ4_init_da8c8_0 : decode cJ4_init_da8c8 0 = .ok (.aload_n 0, 1) := by decide +kernel
theorem dJ4_init_da8c8_1 : decode cJ4_init_da8c8 1 = .ok (.bipush 16, 2) := by decide +kernel
theorem dJ4_init_da8c8_3 : decode cJ4_init_da8c8 3 = .ok (.invokespecial 1, 3) := by decide +kernel
theorem dJ4_init_da8c8_6 : decode cJ4_init_da8c8 6 = .ok (.return_, 1) := by decide +kernel
theorem e_169 (r : Nat)  (ws : ai_W) : ai_Call 169 [.ref r] ws = if ai_isob ws r 11 = true then ai_Run 169 0 [.ref r] [] ws else none := R_entI hk_169 ⟨⟨rfl, rfl⟩, Nat.le_of_ble_eq_true rfl⟩ rfl
theorem r_169_0 (a : Nat) (st : List Value) (ws : ai_W) : ai_Run 169 0 [.ref a] st ws = ai_Run 169 1 [.ref a] (.ref a :: st) ws := R_aload_n hc_169 dJ4_init_da8c8_0 rfl rfl
theorem rx_169_0 {a : Nat} (hq : ¬ a = 23) (st : List Value) (ws : ai_W) : ai_Run 169 0 [.retAddr a] st ws = ai_Run 169 1 [.retAddr a] (.retAddr a :: st) ws := R_aload_nX hq hc_169 dJ4_init_da8c8_0 rfl rfl
theorem r_169_1 (ls st : List Value) (ws : ai_W) : ai_Run 169 1 ls st ws = ai_Run 169 3 ls (.int 16 :: st) ws := R_bipush hc_169 dJ4_init_da8c8_1 (by decide) rfl
theorem r_169_3 (ls : List Value) (r : Value) (b0 : Int32) (ws : ai_W) : ai_Run 169 3 ls [.int b0, r] ws = (ai_Call 168 [r, .int b0] ws).bind fun q => ai_Run 169 6 ls (q.1.toList ++ []) q.2 := R_callI hc_169 dJ4_init_da8c8_3 hv_169 (w := 760) (Or.inl rfl) (ai_lt3 hf_168 hf_169 hL_168 ho_168 ho_169 rfl) hk_168 (by rw [hn_168]; rfl) rfl (Nat.le_of_ble_eq_true rfl) rfl
theorem r_169_6 (ls : List Value) (ws : ai_W) : ai_Run 169 6 ls [] ws = some (none, ws) := R_vret hc_169 dJ4_init_da8c8_6 ht_169
theorem dJ0_coder_7d493_0 : decode cJ0_coder_7d493 0 = .ok (.getstatic 38, 3) := by decide +kernel
theorem dJ0_coder_7d493_3 : decode cJ0_coder_7d493 3 = .ok (.ifCond .eq 10, 3) := by decide +kernel
theorem dJ0_coder_7d493_6 : decode cJ0_coder_7d493 6 = .ok (.aload_n 0, 1) := by decide +kernel
theorem dJ0_coder_7d493_7 : decode cJ0_coder_7d493 7 = .ok (.getfield 15, 3) := by decide +kernel
theorem dJ0_coder_7d493_10 : decode cJ0_coder_7d493 10 = .ok (.goto 4, 3) := by decide +kernel
theorem dJ0_coder_7d493_13 : decode cJ0_coder_7d493 13 = .ok (.iconst 1, 1) := by decide +kernel
theorem dJ0_coder_7d493_14 : decode cJ0_coder_7d493 14 = .ok (.ireturn, 1) := by decide +kernel
theorem e_170 (r : Nat)  (ws : ai_W) : ai_Call 170 [.ref r] ws = if ai_isob ws r 12 = true then ai_Run 170 0 [.ref r] [] ws else none := R_entV hk_170 ⟨⟨rfl, rfl⟩, Nat.le_of_ble_eq_true rfl⟩ rfl
theorem ex_170 {r : Nat} (h1 : 1 ≤ r) (h2 : r ≤ 10)  (ws : ai_W) : ai_Call 170 [.retAddr r] ws = ai_Run 170 0 [.retAddr r] [] ws := R_entX (by rw [hk_170]; decide) rfl ⟨⟨rfl, rfl⟩, Nat.le_of_ble_eq_true rfl⟩ rfl h1 h2
theorem r_170_0 (ls st : List Value) (ws : ai_W) : ai_Run 170 0 ls st ws = ai_Run 170 3 ls (.int 1 :: st) ws := R_gets hc_170 dJ0_coder_7d493_0 (q := 0) (w := 867) rfl (Or.inl ⟨rfl, rfl⟩) rfl
theorem r_170_3 (ls st : List Value) (a : Int32) (ws : ai_W) : ai_Run 170 3 ls (.int a :: st) ws = if a = 0 then ai_Run 170 13 ls st ws else ai_Run 170 6 ls st ws := R_if_eq hc_170 dJ0_coder_7d493_3 rfl rfl
theorem r_170_6 (a : Nat) (st : List Value) (ws : ai_W) : ai_Run 170 6 [.ref a] st ws = ai_Run 170 7 [.ref a] (.ref a :: st) ws := R_aload_n hc_170 dJ0_coder_7d493_6 rfl rfl
theorem rx_170_6 {a : Nat} (hq : ¬ a = 23) (st : List Value) (ws : ai_W) : ai_Run 170 6 [.retAddr a] st ws = ai_Run 170 7 [.retAddr a] (.retAddr a :: st) ws := R_aload_nX hq hc_170 dJ0_coder_7d493_6 rfl rfl
theorem r_170_7 (ls st : List Value) (a : Nat) (ws : ai_W) : ai_Run 170 7 ls (.ref a :: st) ws = (ai_fget ws a 12 1).bind fun q => ai_Run 170 10 ls (q :: st) ws := R_getf hc_170 dJ0_coder_7d493_7 hv_170 (w := 980) rfl rfl
theorem rx_170_7 (ls st : List Value) (a : Nat) (ws : ai_W) : ai_Run 170 7 ls (.retAddr a :: st) ws = (ai_xget a 12 1).bind fun q => ai_Run 170 10 ls (q :: st) ws := R_getfX hc_170 dJ0_coder_7d493_7 hv_170 (w := 980) rfl rfl
theorem r_170_10 (ls st : List Value) (ws : ai_W) : ai_Run 170 10 ls st ws = ai_Run 170 14 ls st ws := R_goto hc_170 dJ0_coder_7d493_10 rfl
theorem r_170_13 (ls st : List Value) (ws : ai_W) : ai_Run 170 13 ls st ws = ai_Run 170 14 ls (.int 1 :: st) ws := R_iconst hc_170 dJ0_coder_7d493_13 (by decide) rfl
theorem r_170_14 (ls : List Value) (x : Int32) (ws : ai_W) : ai_Run 170 14 ls [.int x] ws = if ai_pbyte x = true then some (some (.int x), ws) else none := R_bret hc_170 dJ0_coder_7d493_14 ht_170
theorem dJ0_length_8abf5_0 : decode cJ0_length_8abf5 0 = .ok (.aload_n 0, 1) := by decide +kernel
theorem dJ0_length_8abf5_1 : decode cJ0_length_8abf5 1 = .ok (.getfield 9, 3) := by decide +kernel
theorem dJ0_length_8abf5_4 : decode cJ0_length_8abf5 4 = .ok (.arraylength, 1) := by decide +kernel
theorem dJ0_length_8abf5_5 : decode cJ0_length_8abf5 5 = .ok (.aload_n 0, 1) := by decide +kernel
theorem dJ0_length_8abf5_6 : decode cJ0_length_8abf5 6 = .ok (.invokevirtual 335, 3) := by decide +kernel
theorem dJ0_length_8abf5_9 : decode cJ0_length_8abf5 9 = .ok (.ishr, 1) := by decide +kernel
theorem dJ0_length_8abf5_10 : decode cJ0_length_8abf5 10 = .ok (.ireturn, 1) := by decide +kernel
theorem e_171 (r : Nat)  (ws : ai_W) : ai_Call 171 [.ref r] ws = if ai_isob ws r 12 = true then ai_Run 171 0 [.ref r] [] ws else none := R_entV hk_171 ⟨⟨rfl, rfl⟩, Nat.le_of_ble_eq_true rfl⟩ rfl
theorem ex_171 {r : Nat} (h1 : 1 ≤ r) (h2 : r ≤ 10)  (ws : ai_W) : ai_Call 171 [.retAddr r] ws = ai_Run 171 0 [.retAddr r] [] ws := R_entX (by rw [hk_171]; decide) rfl ⟨⟨rfl, rfl⟩, Nat.le_of_ble_eq_true rfl⟩ rfl h1 h2
theorem r_171_0 (a : Nat) (st : List Value) (ws : ai_W) : ai_Run 171 0 [.ref a] st ws = ai_Run 171 1 [.ref a] (.ref a :: st) ws := R_aload_n hc_171 dJ0_length_8abf5_0 rfl rfl
theorem rx_171_0 {a : Nat} (hq : ¬ a = 23) (st : List Value) (ws : ai_W) : ai_Run 171 0 [.retAddr a] st ws = ai_Run 171 1 [.retAddr a] (.retAddr a :: st) ws := R_aload_nX hq hc_171 dJ0_length_8abf5_0 rfl rfl
theorem r_171_1 (ls st : List Value) (a : Nat) (ws : ai_W) : ai_Run 171 1 ls (.ref a :: st) ws = (ai_fget ws a 12 0).bind fun q => ai_Run 171 4 ls (q :: st) ws := R_getf hc_171 dJ0_length_8abf5_1 hv_171 (w := 979) rfl rfl
theorem rx_171_1 (ls st : List Value) (a : Nat) (ws : ai_W) : ai_Run 171 1 ls (.retAddr a :: st) ws = (ai_xget a 12 0).bind fun q => ai_Run 171 4 ls (q :: st) ws := R_getfX hc_171 dJ0_length_8abf5_1 hv_171 (w := 979) rfl rfl
theorem r_171_4 (ls st : List Value) (a : Nat) (ws : ai_W) : ai_Run 171 4 ls (.ref a :: st) ws = (ai_len ws a).bind fun q => ai_Run 171 5 ls (.int q :: st) ws := R_arraylength hc_171 dJ0_length_8abf5_4 rfl
theorem rx_171_4 (ls st : List Value) (a : Nat) (ws : ai_W) : ai_Run 171 4 ls (.retAddr a :: st) ws = (ai_xlen a).bind fun q => ai_Run 171 5 ls (.int q :: st) ws := R_alenX hc_171 dJ0_length_8abf5_4 rfl
theorem r_171_5 (a : Nat) (st : List Value) (ws : ai_W) : ai_Run 171 5 [.ref a] st ws = ai_Run 171 6 [.ref a] (.ref a :: st) ws := R_aload_n hc_171 dJ0_length_8abf5_5 rfl rfl
theorem rx_171_5 {a : Nat} (hq : ¬ a = 23) (st : List Value) (ws : ai_W) : ai_Run 171 5 [.retAddr a] st ws = ai_Run 171 6 [.retAddr a] (.retAddr a :: st) ws := R_aload_nX hq hc_171 dJ0_length_8abf5_5 rfl rfl
theorem r_171_6 (ls : List Value) (r : Value) (s0 : Value) (ws : ai_W) : ai_Run 171 6 ls [r, s0] ws = (ai_Call 170 [r] ws).bind fun q => ai_Run 171 9 ls (q.1.toList ++ [s0]) q.2 := R_callV hc_171 dJ0_length_8abf5_6 hv_171 (w := 863) rfl (ai_lt3 hf_170 hf_171 hL_170 ho_170 ho_171 rfl) hk_170 (by rw [hn_170]; rfl) rfl (Nat.le_of_ble_eq_true rfl) rfl
theorem r_171_9 (ls st : List Value) (a b : Int32) (ws : ai_W) : ai_Run 171 9 ls (.int b :: .int a :: st) ws = ai_Run 171 10 ls (.int (a >>> (b &&& 31)) :: st) ws := R_ishr hc_171 dJ0_length_8abf5_9 rfl
theorem r_171_10 (ls : List Value) (x : Int32) (ws : ai_W) : ai_Run 171 10 ls [.int x] ws = some (some (.int x), ws) := R_iret hc_171 dJ0_length_8abf5_10 ht_171
theorem dJ5_ensureCapacityInternal_d00df_0 : decode cJ5_ensureCapacityInternal_d00df 0 = .ok (.aload_n 0, 1) := by decide +kernel
theorem dJ5_ensureCapacityInternal_d00df_1 : decode cJ5_ensureCapacityInternal_d00df 1 = .ok (.getfield 15, 3) := by decide +kernel
theorem dJ5_ensureCapacityInternal_d00df_4 : decode cJ5_ensureCapacityInternal_d00df 4 = .ok (.arraylength, 1) := by decide +kernel
theorem dJ5_ensureCapacityInternal_d00df_5 : decode cJ5_ensureCapacityInternal_d00df 5 = .ok (.aload_n 0, 1) := by decide +kernel
theorem dJ5_ensureCapacityInternal_d00df_6 : decode cJ5_ensureCapacityInternal_d00df 6 = .ok (.getfield 22, 3) := by decide +kernel
theorem dJ5_ensureCapacityInternal_d00df_9 : decode cJ5_ensureCapacityInternal_d00df 9 = .ok (.ishr, 1) := by decide +kernel
theorem dJ5_ensureCapacityInternal_d00df_10 : decode cJ5_ensureCapacityInternal_d00df 10 = .ok (.istore_n 2, 1) := by decide +kernel
theorem dJ5_ensureCapacityInternal_d00df_11 : decode cJ5_ensureCapacityInternal_d00df 11 = .ok (.iload_n 1, 1) := by decide +kernel
theorem dJ5_ensureCapacityInternal_d00df_12 : decode cJ5_ensureCapacityInternal_d00df 12 = .ok (.iload_n 2, 1) := by decide +kernel
theorem dJ5_ensureCapacityInternal_d00df_13 : decode cJ5_ensureCapacityInternal_d00df 13 = .ok (.isub, 1) := by decide +kernel
theorem dJ5_ensureCapacityInternal_d00df_14 : decode cJ5_ensureCapacityInternal_d00df 14 = .ok (.ifCond .le 24, 3) := by decide +kernel
theorem dJ5_ensureCapacityInternal_d00df_17 : decode cJ5_ensureCapacityInternal_d00df 17 = .ok (.aload_n 0, 1) := by decide +kernel
theorem dJ5_ensureCapacityInternal_d00df_18 : decode cJ5_ensureCapacityInternal_d00df 18 = .ok (.aload_n 0, 1) := by decide +kernel
theorem dJ5_ensureCapacityInternal_d00df_19 : decode cJ5_ensureCapacityInternal_d00df 19 = .ok (.getfield 15, 3) := by decide +kernel
theorem dJ5_ensureCapacityInternal_d00df_22 : decode cJ5_ensureCapacityInternal_d00df 22 = .ok (.aload_n 0, 1) := by decide +kernel
theorem dJ5_ensureCapacityInternal_d00df_23 : decode cJ5_ensureCapacityInternal_d00df 23 = .ok (.iload_n 1, 1) := by decide +kernel
theorem dJ5_ensureCapacityInternal_d00df_38 : decode cJ5_ensureCapacityInternal_d00df 38 = .ok (.return_, 1) := by decide +kernel
theorem e_172 (r : Nat) (a0 : Int32) (ws : ai_W) : ai_Call 172 [.ref r, .int a0] ws = if ai_isob ws r 11 = true then ai_Run 172 0 [.ref r, .int a0, .null] [] ws else none := R_entV hk_172 ⟨⟨rfl, rfl⟩, Nat.le_of_ble_eq_true rfl⟩ rfl
theorem r_172_0 (l1 l2 : Value) (a : Nat) (st : List Value) (ws : ai_W) : ai_Run 172 0 [.ref a, l1, l2] st ws = ai_Run 172 1 [.ref a, l1, l2] (.ref a :: st) ws := R_aload_n hc_172 dJ5_ensureCapacityInternal_d00df_0 rfl rfl
theorem rx_172_0 (l1 l2 : Value) {a : Nat} (hq : ¬ a = 23) (st : List Value) (ws : ai_W) : ai_Run 172 0 [.retAddr a, l1, l2] st ws = ai_Run 172 1 [.retAddr a, l1, l2] (.retAddr a :: st) ws := R_aload_nX hq hc_172 dJ5_ensureCapacityInternal_d00df_0 rfl rfl
theorem r_172_1 (ls st : List Value) (a : Nat) (ws : ai_W) : ai_Run 172 1 ls (.ref a :: st) ws = (ai_fget ws a 11 0).bind fun q => ai_Run 172 4 ls (q :: st) ws := R_getf hc_172 dJ5_ensureCapacityInternal_d00df_1 hv_172 (w := 773) rfl rfl
theorem r_172_4 (ls st : List Value) (a : Nat) (ws : ai_W) : ai_Run 172 4 ls (.ref a :: st) ws = (ai_len ws a).bind fun q => ai_Run 172 5 ls (.int q :: st) ws := R_arraylength hc_172 dJ5_ensureCapacityInternal_d00df_4 rfl
theorem rx_172_4 (ls st : List Value) (a : Nat) (ws : ai_W) : ai_Run 172 4 ls (.retAddr a :: st) ws = (ai_xlen a).bind fun q => ai_Run 172 5 ls (.int q :: st) ws := R_alenX hc_172 dJ5_ensureCapacityInternal_d00df_4 rfl
theorem r_172_5 (l1 l2 : Value) (a : Nat) (st : List Value) (ws : ai_W) : ai_Run 172 5 [.ref a, l1, l2] st ws = ai_Run 172 6 [.ref a, l1, l2] (.ref a :: st) ws := R_aload_n hc_172 dJ5_ensureCapacityInternal_d00df_5 rfl rfl
theorem rx_172_5 (l1 l2 : Value) {a : Nat} (hq : ¬ a = 23) (st : List Value) (ws : ai_W) : ai_Run 172 5 [.retAddr a, l1, l2] st ws = ai_Run 172 6 [.retAddr a, l1, l2] (.retAddr a :: st) ws := R_aload_nX hq hc_172 dJ5_ensureCapacityInternal_d00df_5 rfl rfl
theorem r_172_6 (ls st : List Value) (a : Nat) (ws : ai_W) : ai_Run 172 6 ls (.ref a :: st) ws = (ai_fget ws a 11 1).bind fun q => ai_Run 172 9 ls (q :: st) ws := R_getf hc_172 dJ5_ensureCapacityInternal_d00df_6 hv_172 (w := 774) rfl rfl
theorem r_172_9 (ls st : List Value) (a b : Int32) (ws : ai_W) : ai_Run 172 9 ls (.int b :: .int a :: st) ws = ai_Run 172 10 ls (.int (a >>> (b &&& 31)) :: st) ws := R_ishr hc_172 dJ5_ensureCapacityInternal_d00df_9 rfl
theorem r_172_10 (l0 l1 l2 : Value) (a : Int32) (st : List Value) (ws : ai_W) : ai_Run 172 10 [l0, l1, l2] (.int a :: st) ws = ai_Run 172 11 [l0, l1, .int a] st ws := R_istore_n hc_172 dJ5_ensureCapacityInternal_d00df_10 (Nat.le_of_ble_eq_true rfl) rfl rfl
theorem r_172_11 (l0 l2 : Value) (a : Int32) (st : List Value) (ws : ai_W) : ai_Run 172 11 [l0, .int a, l2] st ws = ai_Run 172 12 [l0, .int a, l2] (.int a :: st) ws := R_iload_n hc_172 dJ5_ensureCapacityInternal_d00df_11 rfl rfl
theorem r_172_12 (l0 l1 : Value) (a : Int32) (st : List Value) (ws : ai_W) : ai_Run 172 12 [l0, l1, .int a] st ws = ai_Run 172 13 [l0, l1, .int a] (.int a :: st) ws := R_iload_n hc_172 dJ5_ensureCapacityInternal_d00df_12 rfl rfl
theorem r_172_13 (ls st : List Value) (a b : Int32) (ws : ai_W) : ai_Run 172 13 ls (.int b :: .int a :: st) ws = ai_Run 172 14 ls (.int (a - b) :: st) ws := R_isub hc_172 dJ5_ensureCapacityInternal_d00df_13 rfl
theorem r_172_14 (ls st : List Value) (a : Int32) (ws : ai_W) : ai_Run 172 14 ls (.int a :: st) ws = if 0 < a then ai_Run 172 17 ls st ws else ai_Run 172 38 ls st ws := R_if_le hc_172 dJ5_ensureCapacityInternal_d00df_14 rfl rfl
theorem r_172_17 (l1 l2 : Value) (a : Nat) (st : List Value) (ws : ai_W) : ai_Run 172 17 [.ref a, l1, l2] st ws = ai_Run 172 18 [.ref a, l1, l2] (.ref a :: st) ws := R_aload_n hc_172 dJ5_ensureCapacityInternal_d00df_17 rfl rfl
theorem rx_172_17 (l1 l2 : Value) {a : Nat} (hq : ¬ a = 23) (st : List Value) (ws : ai_W) : ai_Run 172 17 [.retAddr a, l1, l2] st ws = ai_Run 172 18 [.retAddr a, l1, l2] (.retAddr a :: st) ws := R_aload_nX hq hc_172 dJ5_ensureCapacityInternal_d00df_17 rfl rfl
theorem r_172_18 (l1 l2 : Value) (a : Nat) (st : List Value) (ws : ai_W) : ai_Run 172 18 [.ref a, l1, l2] st ws = ai_Run 172 19 [.ref a, l1, l2] (.ref a :: st) ws := R_aload_n hc_172 dJ5_ensureCapacityInternal_d00df_18 rfl rfl
theorem rx_172_18 (l1 l2 : Value) {a : Nat} (hq : ¬ a = 23) (st : List Value) (ws : ai_W) : ai_Run 172 18 [.retAddr a, l1, l2] st ws = ai_Run 172 19 [.retAddr a, l1, l2] (.retAddr a :: st) ws := R_aload_nX hq hc_172 dJ5_ensureCapacityInternal_d00df_18 rfl rfl
theorem r_172_19 (ls st : List Value) (a : Nat) (ws : ai_W) : ai_Run 172 19 ls (.ref a :: st) ws = (ai_fget ws a 11 0).bind fun q => ai_Run 172 22 ls (q :: st) ws := R_getf hc_172 dJ5_ensureCapacityInternal_d00df_19 hv_172 (w := 773) rfl rfl
theorem r_172_22 (l1 l2 : Value) (a : Nat) (st : List Value) (ws : ai_W) : ai_Run 172 22 [.ref a, l1, l2] st ws = ai_Run 172 23 [.ref a, l1, l2] (.ref a :: st) ws := R_aload_n hc_172 dJ5_ensureCapacityInternal_d00df_22 rfl rfl
theorem rx_172_22 (l1 l2 : Value) {a : Nat} (hq : ¬ a = 23) (st : List Value) (ws : ai_W) : ai_Run 172 22 [.retAddr a, l1, l2] st ws = ai_Run 172 23 [.retAddr a, l1, l2] (.retAddr a :: st) ws := R_aload_nX hq hc_172 dJ5_ensureCapacityInternal_d00df_22 rfl rfl
theorem r_172_23 (l0 l2 : Value) (a : Int32) (st : List Value) (ws : ai_W) : ai_Run 172 23 [l0, .int a, l2] st ws = ai_Run 172 24 [l0, .int a, l2] (.int a :: st) ws := R_iload_n hc_172 dJ5_ensureCapacityInternal_d00df_23 rfl rfl
theorem r_172_38 (ls : List Value) (ws : ai_W) : ai_Run 172 38 ls [] ws = some (none, ws) := R_vret hc_172 dJ5_ensureCapacityInternal_d00df_38 ht_172
theorem dJ5_inflateIfNeededFor_a7421_0 : decode cJ5_inflateIfNeededFor_a7421 0 = .ok (.getstatic 18, 3) := by decide +kernel
theorem dJ5_inflateIfNeededFor_a7421_3 : decode cJ5_inflateIfNeededFor_a7421 3 = .ok (.ifCond .eq 18, 3) := by decide +kernel
theorem dJ5_inflateIfNeededFor_a7421_6 : decode cJ5_inflateIfNeededFor_a7421 6 = .ok (.aload_n 0, 1) := by decide +kernel
theorem dJ5_inflateIfNeededFor_a7421_7 : decode cJ5_inflateIfNeededFor_a7421 7 = .ok (.getfield 22, 3) := by decide +kernel
theorem dJ5_inflateIfNeededFor_a7421_10 : decode cJ5_inflateIfNeededFor_a7421 10 = .ok (.aload_n 1, 1) := by decide +kernel
theorem dJ5_inflateIfNeededFor_a7421_11 : decode cJ5_inflateIfNeededFor_a7421 11 = .ok (.invokevirtual 40, 3) := by decide +kernel
theorem dJ5_inflateIfNeededFor_a7421_14 : decode cJ5_inflateIfNeededFor_a7421 14 = .ok (.if_icmp .eq 7, 3) := by decide +kernel
theorem dJ5_inflateIfNeededFor_a7421_17 : decode cJ5_inflateIfNeededFor_a7421 17 = .ok (.aload_n 0, 1) := by decide +kernel
theorem dJ5_inflateIfNeededFor_a7421_21 : decode cJ5_inflateIfNeededFor_a7421 21 = .ok (.return_, 1) := by decide +kernel
theorem e_173 (r : Nat) (a0 : Nat) (ws : ai_W) : ai_Call 173 [.ref r, .ref a0] ws = if ai_isob ws r 11 = true then ai_Run 173 0 [.ref r, .ref a0] [] ws else none := R_entV hk_173 ⟨⟨rfl, rfl⟩, Nat.le_of_ble_eq_true rfl⟩ rfl
theorem ex_173 (r : Nat) (a0 : Nat) (ws : ai_W) : ai_Call 173 [.ref r, .retAddr a0] ws = if ai_isob ws r 11 = true then ai_Run 173 0 [.ref r, .retAddr a0] [] ws else none := R_entV hk_173 ⟨⟨rfl, rfl⟩, Nat.le_of_ble_eq_true rfl⟩ rfl
theorem r_173_0 (ls st : List Value) (ws : ai_W) : ai_Run 173 0 ls st ws = ai_Run 173 3 ls (.int 1 :: st) ws := R_gets hc_173 dJ5_inflateIfNeededFor_a7421_0 (q := 0) (w := 764) rfl (Or.inl ⟨rfl, rfl⟩) rfl
theorem r_173_3 (ls st : List Value) (a : Int32) (ws : ai_W) : ai_Run 173 3 ls (.int a :: st) ws = if a = 0 then ai_Run 173 21 ls st ws else ai_Run 173 6 ls st ws := R_if_eq hc_173 dJ5_inflateIfNeededFor_a7421_3 rfl rfl
theorem r_173_6 (l1 : Value) (a : Nat) (st : List Value) (ws : ai_W) : ai_Run 173 6 [.ref a, l1] st ws = ai_Run 173 7 [.ref a, l1] (.ref a :: st) ws := R_aload_n hc_173 dJ5_inflateIfNeededFor_a7421_6 rfl rfl
theorem rx_173_6 (l1 : Value) {a : Nat} (hq : ¬ a = 23) (st : List Value) (ws : ai_W) : ai_Run 173 6 [.retAddr a, l1] st ws = ai_Run 173 7 [.retAddr a, l1] (.retAddr a :: st) ws := R_aload_nX hq hc_173 dJ5_inflateIfNeededFor_a7421_6 rfl rfl
theorem r_173_7 (ls st : List Value) (a : Nat) (ws : ai_W) : ai_Run 173 7 ls (.ref a :: st) ws = (ai_fget ws a 11 1).bind fun q => ai_Run 173 10 ls (q :: st) ws := R_getf hc_173 dJ5_inflateIfNeededFor_a7421_7 hv_173 (w := 774) rfl rfl
theorem r_173_10 (l0 : Value) (a : Nat) (st : List Value) (ws : ai_W) : ai_Run 173 10 [l0, .ref a] st ws = ai_Run 173 11 [l0, .ref a] (.ref a :: st) ws := R_aload_n hc_173 dJ5_inflateIfNeededFor_a7421_10 rfl rfl
theorem rx_173_10 (l0 : Value) {a : Nat} (hq : ¬ a = 23) (st : List Value) (ws : ai_W) : ai_Run 173 10 [l0, .retAddr a] st ws = ai_Run 173 11 [l0, .retAddr a] (.retAddr a :: st) ws := R_aload_nX hq hc_173 dJ5_inflateIfNeededFor_a7421_10 rfl rfl
theorem r_173_11 (ls : List Value) (r : Value) (s0 : Value) (ws : ai_W) : ai_Run 173 11 ls [r, s0] ws = (ai_Call 170 [r] ws).bind fun q => ai_Run 173 14 ls (q.1.toList ++ [s0]) q.2 := R_callV hc_173 dJ5_inflateIfNeededFor_a7421_11 hv_173 (w := 876) rfl (ai_lt3 hf_170 hf_173 hL_170 ho_170 ho_173 rfl) hk_170 (by rw [hn_170]; rfl) rfl (Nat.le_of_ble_eq_true rfl) rfl
theorem r_173_14 (ls st : List Value) (a b : Int32) (ws : ai_W) : ai_Run 173 14 ls (.int b :: .int a :: st) ws = if a = b then ai_Run 173 21 ls st ws else ai_Run 173 17 ls st ws := R_cmp_eq hc_173 dJ5_inflateIfNeededFor_a7421_14 rfl rfl
theorem r_173_17 (l1 : Value) (a : Nat) (st : List Value) (ws : ai_W) : ai_Run 173 17 [.ref a, l1] st ws = ai_Run 173 18 [.ref a, l1] (.ref a :: st) ws := R_aload_n hc_173 dJ5_inflateIfNeededFor_a7421_17 rfl rfl
theorem rx_173_17 (l1 : Value) {a : Nat} (hq : ¬ a = 23) (st : List Value) (ws : ai_W) : ai_Run 173 17 [.retAddr a, l1] st ws = ai_Run 173 18 [.retAddr a, l1] (.retAddr a :: st) ws := R_aload_nX hq hc_173 dJ5_inflateIfNeededFor_a7421_17 rfl rfl
theorem r_173_21 (ls : List Value) (ws : ai_W) : ai_Run 173 21 ls [] ws = some (none, ws) := R_vret hc_173 dJ5_inflateIfNeededFor_a7421_21 ht_173
theorem dJ0_getBytes_840e7_0 : decode cJ0_getBytes_840e7 0 = .ok (.aload_n 0, 1) := by decide +kernel
theorem dJ0_getBytes_840e7_1 : decode cJ0_getBytes_840e7 1 = .ok (.invokevirtual 335, 3) := by decide +kernel
theorem dJ0_getBytes_840e7_4 : decode cJ0_getBytes_840e7 4 = .ok (.iload_n 3, 1) := by decide +kernel
theorem dJ0_getBytes_840e7_5 : decode cJ0_getBytes_840e7 5 = .ok (.if_icmp .ne 23, 3) := by decide +kernel
theorem dJ0_getBytes_840e7_8 : decode cJ0_getBytes_840e7 8 = .ok (.aload_n 0, 1) := by decide +kernel
theorem dJ0_getBytes_840e7_9 : decode cJ0_getBytes_840e7 9 = .ok (.getfield 9, 3) := by decide +kernel
theorem dJ0_getBytes_840e7_12 : decode cJ0_getBytes_840e7 12 = .ok (.iconst 0, 1) := by decide +kernel
theorem dJ0_getBytes_840e7_13 : decode cJ0_getBytes_840e7 13 = .ok (.aload_n 1, 1) := by decide +kernel
theorem dJ0_getBytes_840e7_14 : decode cJ0_getBytes_840e7 14 = .ok (.iload_n 2, 1) := by decide +kernel
theorem dJ0_getBytes_840e7_15 : decode cJ0_getBytes_840e7 15 = .ok (.iload_n 3, 1) := by decide +kernel
theorem dJ0_getBytes_840e7_16 : decode cJ0_getBytes_840e7 16 = .ok (.ishl, 1) := by decide +kernel
theorem dJ0_getBytes_840e7_17 : decode cJ0_getBytes_840e7 17 = .ok (.aload_n 0, 1) := by decide +kernel
theorem dJ0_getBytes_840e7_18 : decode cJ0_getBytes_840e7 18 = .ok (.getfield 9, 3) := by decide +kernel
theorem dJ0_getBytes_840e7_21 : decode cJ0_getBytes_840e7 21 = .ok (.arraylength, 1) := by decide +kernel
theorem dJ0_getBytes_840e7_22 : decode cJ0_getBytes_840e7 22 = .ok (.invokestatic 212, 3) := by decide +kernel
theorem dJ0_getBytes_840e7_25 : decode cJ0_getBytes_840e7 25 = .ok (.goto 18, 3) := by decide +kernel
theorem dJ0_getBytes_840e7_28 : decode cJ0_getBytes_840e7 28 = .ok (.aload_n 0, 1) := by decide +kernel
theorem dJ0_getBytes_840e7_29 : decode cJ0_getBytes_840e7 29 = .ok (.getfield 9, 3) := by decide +kernel
theorem dJ0_getBytes_840e7_32 : decode cJ0_getBytes_840e7 32 = .ok (.iconst 0, 1) := by decide +kernel
theorem dJ0_getBytes_840e7_33 : decode cJ0_getBytes_840e7 33 = .ok (.aload_n 1, 1) := by decide +kernel
theorem dJ0_getBytes_840e7_34 : decode cJ0_getBytes_840e7 34 = .ok (.iload_n 2, 1) := by decide +kernel
theorem dJ0_getBytes_840e7_35 : decode cJ0_getBytes_840e7 35 = .ok (.aload_n 0, 1) := by decide +kernel
theorem dJ0_getBytes_840e7_36 : decode cJ0_getBytes_840e7 36 = .ok (.getfield 9, 3) := by decide +kernel
theorem dJ0_getBytes_840e7_39 : decode cJ0_getBytes_840e7 39 = .ok (.arraylength, 1) := by decide +kernel
theorem dJ0_getBytes_840e7_43 : decode cJ0_getBytes_840e7 43 = .ok (.return_, 1) := by decide +kernel
theorem e_174 (r : Nat) (a0 : Nat) (a1 : Int32) (a2 : Int32) (ws : ai_W) : ai_Call 174 [.ref r, .ref a0, .int a1, .int a2] ws = if ai_isob ws r 12 = true then ai_Run 174 0 [.ref r, .ref a0, .int a1, .int a2] [] ws else none := R_entV hk_174 ⟨⟨rfl, rfl⟩, Nat.le_of_ble_eq_true rfl⟩ rfl
theorem ex_174 {r : Nat} (h1 : 1 ≤ r) (h2 : r ≤ 10) (a0 : Nat) (a1 : Int32) (a2 : Int32) (ws : ai_W) : ai_Call 174 [.retAddr r, .ref a0, .int a1, .int a2] ws = ai_Run 174 0 [.retAddr r, .ref a0, .int a1, .int a2] [] ws := R_entX (by rw [hk_174]; decide) rfl ⟨⟨rfl, rfl⟩, Nat.le_of_ble_eq_true rfl⟩ rfl h1 h2
theorem r_174_0 (l1 l2 l3 : Value) (a : Nat) (st : List Value) (ws : ai_W) : ai_Run 174 0 [.ref a, l1, l2, l3] st ws = ai_Run 174 1 [.ref a, l1, l2, l3] (.ref a :: st) ws := R_aload_n hc_174 dJ0_getBytes_840e7_0 rfl rfl
theorem rx_174_0 (l1 l2 l3 : Value) {a : Nat} (hq : ¬ a = 23) (st : List Value) (ws : ai_W) : ai_Run 174 0 [.retAddr a, l1, l2, l3] st ws = ai_Run 174 1 [.retAddr a, l1, l2, l3] (.retAddr a :: st) ws := R_aload_nX hq hc_174 dJ0_getBytes_840e7_0 rfl rfl
theorem r_174_1 (ls : List Value) (r : Value) (ws : ai_W) : ai_Run 174 1 ls [r] ws = (ai_Call 170 [r] ws).bind fun q => ai_Run 174 4 ls (q.1.toList ++ []) q.2 := R_callV hc_174 dJ0_getBytes_840e7_1 hv_174 (w := 863) rfl (ai_lt3 hf_170 hf_174 hL_170 ho_170 ho_174 rfl) hk_170 (by rw [hn_170]; rfl) rfl (Nat.le_of_ble_eq_true rfl) rfl
theorem r_174_4 (l0 l1 l2 : Value) (a : Int32) (st : List Value) (ws : ai_W) : ai_Run 174 4 [l0, l1, l2, .int a] st ws = ai_Run 174 5 [l0, l1, l2, .int a] (.int a :: st) ws := R_iload_n hc_174 dJ0_getBytes_840e7_4 rfl rfl
theorem r_174_5 (ls st : List Value) (a b : Int32) (ws : ai_W) : ai_Run 174 5 ls (.int b :: .int a :: st) ws = if a = b then ai_Run 174 8 ls st ws else ai_Run 174 28 ls st ws := R_cmp_ne hc_174 dJ0_getBytes_840e7_5 rfl rfl
theorem r_174_8 (l1 l2 l3 : Value) (a : Nat) (st : List Value) (ws : ai_W) : ai_Run 174 8 [.ref a, l1, l2, l3] st ws = ai_Run 174 9 [.ref a, l1, l2, l3] (.ref a :: st) ws := R_aload_n hc_174 dJ0_getBytes_840e7_8 rfl rfl
theorem rx_174_8 (l1 l2 l3 : Value) {a : Nat} (hq : ¬ a = 23) (st : List Value) (ws : ai_W) : ai_Run 174 8 [.retAddr a, l1, l2, l3] st ws = ai_Run 174 9 [.retAddr a, l1, l2, l3] (.retAddr a :: st) ws := R_aload_nX hq hc_174 dJ0_getBytes_840e7_8 rfl rfl
theorem r_174_9 (ls st : List Value) (a : Nat) (ws : ai_W) : ai_Run 174 9 ls (.ref a :: st) ws = (ai_fget ws a 12 0).bind fun q => ai_Run 174 12 ls (q :: st) ws := R_getf hc_174 dJ0_getBytes_840e7_9 hv_174 (w := 979) rfl rfl
theorem rx_174_9 (ls st : List Value) (a : Nat) (ws : ai_W) : ai_Run 174 9 ls (.retAddr a :: st) ws = (ai_xget a 12 0).bind fun q => ai_Run 174 12 ls (q :: st) ws := R_getfX hc_174 dJ0_getBytes_840e7_9 hv_174 (w := 979) rfl rfl
theorem r_174_12 (ls st : List Value) (ws : ai_W) : ai_Run 174 12 ls st ws = ai_Run 174 13 ls (.int 0 :: st) ws := R_iconst hc_174 dJ0_getBytes_840e7_12 (by decide) rfl
theorem r_174_13 (l0 l2 l3 : Value) (a : Nat) (st : List Value) (ws : ai_W) : ai_Run 174 13 [l0, .ref a, l2, l3] st ws = ai_Run 174 14 [l0, .ref a, l2, l3] (.ref a :: st) ws := R_aload_n hc_174 dJ0_getBytes_840e7_13 rfl rfl
theorem rx_174_13 (l0 l2 l3 : Value) {a : Nat} (hq : ¬ a = 23) (st : List Value) (ws : ai_W) : ai_Run 174 13 [l0, .retAddr a, l2, l3] st ws = ai_Run 174 14 [l0, .retAddr a, l2, l3] (.retAddr a :: st) ws := R_aload_nX hq hc_174 dJ0_getBytes_840e7_13 rfl rfl
theorem r_174_14 (l0 l1 l3 : Value) (a : Int32) (st : List Value) (ws : ai_W) : ai_Run 174 14 [l0, l1, .int a, l3] st ws = ai_Run 174 15 [l0, l1, .int a, l3] (.int a :: st) ws := R_iload_n hc_174 dJ0_getBytes_840e7_14 rfl rfl
theorem r_174_15 (l0 l1 l2 : Value) (a : Int32) (st : List Value) (ws : ai_W) : ai_Run 174 15 [l0, l1, l2, .int a] st ws = ai_Run 174 16 [l0, l1, l2, .int a] (.int a :: st) ws := R_iload_n hc_174 dJ0_getBytes_840e7_15 rfl rfl
theorem r_174_16 (ls st : List Value) (a b : Int32) (ws : ai_W) : ai_Run 174 16 ls (.int b :: .int a :: st) ws = ai_Run 174 17 ls (.int (a <<< (b &&& 31)) :: st) ws := R_ishl hc_174 dJ0_getBytes_840e7_16 rfl
theorem r_174_17 (l1 l2 l3 : Value) (a : Nat) (st : List Value) (ws : ai_W) : ai_Run 174 17 [.ref a, l1, l2, l3] st ws = ai_Run 174 18 [.ref a, l1, l2, l3] (.ref a :: st) ws := R_aload_n hc_174 dJ0_getBytes_840e7_17 rfl rfl
theorem rx_174_17 (l1 l2 l3 : Value) {a : Nat} (hq : ¬ a = 23) (st : List Value) (ws : ai_W) : ai_Run 174 17 [.retAddr a, l1, l2, l3] st ws = ai_Run 174 18 [.retAddr a, l1, l2, l3] (.retAddr a :: st) ws := R_aload_nX hq hc_174 dJ0_getBytes_840e7_17 rfl rfl
theorem r_174_18 (ls st : List Value) (a : Nat) (ws : ai_W) : ai_Run 174 18 ls (.ref a :: st) ws = (ai_fget ws a 12 0).bind fun q => ai_Run 174 21 ls (q :: st) ws := R_getf hc_174 dJ0_getBytes_840e7_18 hv_174 (w := 979) rfl rfl
theorem rx_174_18 (ls st : List Value) (a : Nat) (ws : ai_W) : ai_Run 174 18 ls (.retAddr a :: st) ws = (ai_xget a 12 0).bind fun q => ai_Run 174 21 ls (q :: st) ws := R_getfX hc_174 dJ0_getBytes_840e7_18 hv_174 (w := 979) rfl rfl
theorem r_174_21 (ls st : List Value) (a : Nat) (ws : ai_W) : ai_Run 174 21 ls (.ref a :: st) ws = (ai_len ws a).bind fun q => ai_Run 174 22 ls (.int q :: st) ws := R_arraylength hc_174 dJ0_getBytes_840e7_21 rfl
theorem rx_174_21 (ls st : List Value) (a : Nat) (ws : ai_W) : ai_Run 174 21 ls (.retAddr a :: st) ws = (ai_xlen a).bind fun q => ai_Run 174 22 ls (.int q :: st) ws := R_alenX hc_174 dJ0_getBytes_840e7_21 rfl
theorem rx_174_22 (ls : List Value) (a d : Nat) (i0 j n0 : Int32) (ws : ai_W) : ai_Run 174 22 ls [.int n0, .int j, .ref d, .int i0, .retAddr a] ws = (ai_cpx a ws i0 d j n0).bind fun ws => ai_Run 174 25 ls [] ws := R_copyX hc_174 dJ0_getBytes_840e7_22 hv_174 (y2 := 0) (w := 900) rfl (Nat.le_of_ble_eq_true rfl) (ai_nat_of hf_174 ho_174 rfl) rfl
theorem r_174_22 (ls : List Value) (a d : Nat) (i0 j n0 : Int32) (ws : ai_W) : ai_Run 174 22 ls [.int n0, .int j, .ref d, .int i0, .ref a] ws = (ai_cpy ws a i0 d j n0).bind fun ws => ai_Run 174 25 ls [] ws := R_copy hc_174 dJ0_getBytes_840e7_22 hv_174 (y2 := 0) (w := 900) rfl (Nat.le_of_ble_eq_true rfl) (ai_nat_of hf_174 ho_174 rfl) rfl
theorem r_174_25 (ls st : List Value) (ws : ai_W) : ai_Run 174 25 ls st ws = ai_Run 174 43 ls st ws := R_goto hc_174 dJ0_getBytes_840e7_25 rfl
theorem r_174_28 (l1 l2 l3 : Value) (a : Nat) (st : List Value) (ws : ai_W) : ai_Run 174 28 [.ref a, l1, l2, l3] st ws = ai_Run 174 29 [.ref a, l1, l2, l3] (.ref a :: st) ws := R_aload_n hc_174 dJ0_getBytes_840e7_28 rfl rfl
theorem rx_174_28 (l1 l2 l3 : Value) {a : Nat} (hq : ¬ a = 23) (st : List Value) (ws : ai_W) : ai_Run 174 28 [.retAddr a, l1, l2, l3] st ws = ai_Run 174 29 [.retAddr a, l1, l2, l3] (.retAddr a :: st) ws := R_aload_nX hq hc_174 dJ0_getBytes_840e7_28 rfl rfl
theorem r_174_29 (ls st : List Value) (a : Nat) (ws : ai_W) : ai_Run 174 29 ls (.ref a :: st) ws = (ai_fget ws a 12 0).bind fun q => ai_Run 174 32 ls (q :: st) ws := R_getf hc_174 dJ0_getBytes_840e7_29 hv_174 (w := 979) rfl rfl
theorem rx_174_29 (ls st : List Value) (a : Nat) (ws : ai_W) : ai_Run 174 29 ls (.retAddr a :: st) ws = (ai_xget a 12 0).bind fun q => ai_Run 174 32 ls (q :: st) ws := R_getfX hc_174 dJ0_getBytes_840e7_29 hv_174 (w := 979) rfl rfl
theorem r_174_32 (ls st : List Value) (ws : ai_W) : ai_Run 174 32 ls st ws = ai_Run 174 33 ls (.int 0 :: st) ws := R_iconst hc_174 dJ0_getBytes_840e7_32 (by decide) rfl
theorem r_174_33 (l0 l2 l3 : Value) (a : Nat) (st : List Value) (ws : ai_W) : ai_Run 174 33 [l0, .ref a, l2, l3] st ws = ai_Run 174 34 [l0, .ref a, l2, l3] (.ref a :: st) ws := R_aload_n hc_174 dJ0_getBytes_840e7_33 rfl rfl
theorem rx_174_33 (l0 l2 l3 : Value) {a : Nat} (hq : ¬ a = 23) (st : List Value) (ws : ai_W) : ai_Run 174 33 [l0, .retAddr a, l2, l3] st ws = ai_Run 174 34 [l0, .retAddr a, l2, l3] (.retAddr a :: st) ws := R_aload_nX hq hc_174 dJ0_getBytes_840e7_33 rfl rfl
theorem r_174_34 (l0 l1 l3 : Value) (a : Int32) (st : List Value) (ws : ai_W) : ai_Run 174 34 [l0, l1, .int a, l3] st ws = ai_Run 174 35 [l0, l1, .int a, l3] (.int a :: st) ws := R_iload_n hc_174 dJ0_getBytes_840e7_34 rfl rfl
theorem r_174_35 (l1 l2 l3 : Value) (a : Nat) (st : List Value) (ws : ai_W) : ai_Run 174 35 [.ref a, l1, l2, l3] st ws = ai_Run 174 36 [.ref a, l1, l2, l3] (.ref a :: st) ws := R_aload_n hc_174 dJ0_getBytes_840e7_35 rfl rfl
theorem rx_174_35 (l1 l2 l3 : Value) {a : Nat} (hq : ¬ a = 23) (st : List Value) (ws : ai_W) : ai_Run 174 35 [.retAddr a, l1, l2, l3] st ws = ai_Run 174 36 [.retAddr a, l1, l2, l3] (.retAddr a :: st) ws := R_aload_nX hq hc_174 dJ0_getBytes_840e7_35 rfl rfl
theorem r_174_36 (ls st : List Value) (a : Nat) (ws : ai_W) : ai_Run 174 36 ls (.ref a :: st) ws = (ai_fget ws a 12 0).bind fun q => ai_Run 174 39 ls (q :: st) ws := R_getf hc_174 dJ0_getBytes_840e7_36 hv_174 (w := 979) rfl rfl
theorem rx_174_36 (ls st : List Value) (a : Nat) (ws : ai_W) : ai_Run 174 36 ls (.retAddr a :: st) ws = (ai_xget a 12 0).bind fun q => ai_Run 174 39 ls (q :: st) ws := R_getfX hc_174 dJ0_getBytes_840e7_36 hv_174 (w := 979) rfl rfl
theorem r_174_39 (ls st : List Value) (a : Nat) (ws : ai_W) : ai_Run 174 39 ls (.ref a :: st) ws = (ai_len ws a).bind fun q => ai_Run 174 40 ls (.int q :: st) ws := R_arraylength hc_174 dJ0_getBytes_840e7_39 rfl
theorem rx_174_39 (ls st : List Value) (a : Nat) (ws : ai_W) : ai_Run 174 39 ls (.retAddr a :: st) ws = (ai_xlen a).bind fun q => ai_Run 174 40 ls (.int q :: st) ws := R_alenX hc_174 dJ0_getBytes_840e7_39 rfl
theorem r_174_43 (ls : List Value) (ws : ai_W) : ai_Run 174 43 ls [] ws = some (none, ws) := R_vret hc_174 dJ0_getBytes_840e7_43 ht_174
theorem dJ5_putStringAt_47b60_0 : decode cJ5_putStringAt_47b60 0 = .ok (.aload_n 0, 1) := by decide +kernel
theorem dJ5_putStringAt_47b60_1 : decode cJ5_putStringAt_47b60 1 = .ok (.aload_n 2, 1) := by decide +kernel
theorem dJ5_putStringAt_47b60_2 : decode cJ5_putStringAt_47b60 2 = .ok (.invokevirtual 397, 3) := by decide +kernel
theorem dJ5_putStringAt_47b60_5 : decode cJ5_putStringAt_47b60 5 = .ok (.aload_n 2, 1) := by decide +kernel
theorem dJ5_putStringAt_47b60_6 : decode cJ5_putStringAt_47b60 6 = .ok (.aload_n 0, 1) := by decide +kernel
theorem dJ5_putStringAt_47b60_7 : decode cJ5_putStringAt_47b60 7 = .ok (.getfield 15, 3) := by decide +kernel
theorem dJ5_putStringAt_47b60_10 : decode cJ5_putStringAt_47b60 10 = .ok (.iload_n 1, 1) := by decide +kernel
theorem dJ5_putStringAt_47b60_11 : decode cJ5_putStringAt_47b60 11 = .ok (.aload_n 0, 1) := by decide +kernel
theorem dJ5_putStringAt_47b60_12 : decode cJ5_putStringAt_47b60 12 = .ok (.getfield 22, 3) := by decide +kernel
theorem dJ5_putStringAt_47b60_15 : decode cJ5_putStringAt_47b60 15 = .ok (.invokevirtual 399, 3) := by decide +kernel
theorem dJ5_putStringAt_47b60_18 : decode cJ5_putStringAt_47b60 18 = .ok (.return_, 1) := by decide +kernel
theorem e_175 (r : Nat) (a0 : Int32) (a1 : Nat) (ws : ai_W) : ai_Call 175 [.ref r, .int a0, .ref a1] ws = if ai_isob ws r 11 = true then ai_Run 175 0 [.ref r, .int a0, .ref a1] [] ws else none := R_entV hk_175 ⟨⟨rfl, rfl⟩, Nat.le_of_ble_eq_true rfl⟩ rfl
theorem ex_175 (r : Nat) (a0 : Int32) (a1 : Nat) (ws : ai_W) : ai_Call 175 [.ref r, .int a0, .retAddr a1] ws = if ai_isob ws r 11 = true then ai_Run 175 0 [.ref r, .int a0, .retAddr a1] [] ws else none := R_entV hk_175 ⟨⟨rfl, rfl⟩, Nat.le_of_ble_eq_true rfl⟩ rfl
theorem r_175_0 (l1 l2 : Value) (a : Nat) (st : List Value) (ws : ai_W) : ai_Run 175 0 [.ref a, l1, l2] st ws = ai_Run 175 1 [.ref a, l1, l2] (.ref a :: st) ws := R_aload_n hc_175 dJ5_putStringAt_47b60_0 rfl rfl
theorem rx_175_0 (l1 l2 : Value) {a : Nat} (hq : ¬ a = 23) (st : List Value) (ws : ai_W) : ai_Run 175 0 [.retAddr a, l1, l2] st ws = ai_Run 175 1 [.retAddr a, l1, l2] (.retAddr a :: st) ws := R_aload_nX hq hc_175 dJ5_putStringAt_47b60_0 rfl rfl
theorem r_175_1 (l0 l1 : Value) (a : Nat) (st : List Value) (ws : ai_W) : ai_Run 175 1 [l0, l1, .ref a] st ws = ai_Run 175 2 [l0, l1, .ref a] (.ref a :: st) ws := R_aload_n hc_175 dJ5_putStringAt_47b60_1 rfl rfl
theorem rx_175_1 (l0 l1 : Value) {a : Nat} (hq : ¬ a = 23) (st : List Value) (ws : ai_W) : ai_Run 175 1 [l0, l1, .retAddr a] st ws = ai_Run 175 2 [l0, l1, .retAddr a] (.retAddr a :: st) ws := R_aload_nX hq hc_175 dJ5_putStringAt_47b60_1 rfl rfl
theorem r_175_2 (ls : List Value) (r : Value) (b0 : Value) (ws : ai_W) : ai_Run 175 2 ls [b0, r] ws = (ai_Call 173 [r, b0] ws).bind fun q => ai_Run 175 5 ls (q.1.toList ++ []) q.2 := R_callU hc_175 dJ5_putStringAt_47b60_2 hv_175 (w := 6) rfl (ai_lt3 hf_173 hf_175 hL_173 ho_173 ho_175 rfl) hk_173 (by rw [hn_173]; rfl) rfl (Nat.le_of_ble_eq_true rfl) rfl
theorem r_175_5 (l0 l1 : Value) (a : Nat) (st : List Value) (ws : ai_W) : ai_Run 175 5 [l0, l1, .ref a] st ws = ai_Run 175 6 [l0, l1, .ref a] (.ref a :: st) ws := R_aload_n hc_175 dJ5_putStringAt_47b60_5 rfl rfl
theorem rx_175_5 (l0 l1 : Value) {a : Nat} (hq : ¬ a = 23) (st : List Value) (ws : ai_W) : ai_Run 175 5 [l0, l1, .retAddr a] st ws = ai_Run 175 6 [l0, l1, .retAddr a] (.retAddr a :: st) ws := R_aload_nX hq hc_175 dJ5_putStringAt_47b60_5 rfl rfl
theorem r_175_6 (l1 l2 : Value) (a : Nat) (st : List Value) (ws : ai_W) : ai_Run 175 6 [.ref a, l1, l2] st ws = ai_Run 175 7 [.ref a, l1, l2] (.ref a :: st) ws := R_aload_n hc_175 dJ5_putStringAt_47b60_6 rfl rfl
theorem rx_175_6 (l1 l2 : Value) {a : Nat} (hq : ¬ a = 23) (st : List Value) (ws : ai_W) : ai_Run 175 6 [.retAddr a, l1, l2] st ws = ai_Run 175 7 [.retAddr a, l1, l2] (.retAddr a :: st) ws := R_aload_nX hq hc_175 dJ5_putStringAt_47b60_6 rfl rfl
theorem r_175_7 (ls st : List Value) (a : Nat) (ws : ai_W) : ai_Run 175 7 ls (.ref a :: st) ws = (ai_fget ws a 11 0).bind fun q => ai_Run 175 10 ls (q :: st) ws := R_getf hc_175 dJ5_putStringAt_47b60_7 hv_175 (w := 773) rfl rfl
theorem r_175_10 (l0 l2 : Value) (a : Int32) (st : List Value) (ws : ai_W) : ai_Run 175 10 [l0, .int a, l2] st ws = ai_Run 175 11 [l0, .int a, l2] (.int a :: st) ws := R_iload_n hc_175 dJ5_putStringAt_47b60_10 rfl rfl
theorem r_175_11 (l1 l2 : Value) (a : Nat) (st : List Value) (ws : ai_W) : ai_Run 175 11 [.ref a, l1, l2] st ws = ai_Run 175 12 [.ref a, l1, l2] (.ref a :: st) ws := R_aload_n hc_175 dJ5_putStringAt_47b60_11 rfl rfl
theorem rx_175_11 (l1 l2 : Value) {a : Nat} (hq : ¬ a = 23) (st : List Value) (ws : ai_W) : ai_Run 175 11 [.retAddr a, l1, l2] st ws = ai_Run 175 12 [.retAddr a, l1, l2] (.retAddr a :: st) ws := R_aload_nX hq hc_175 dJ5_putStringAt_47b60_11 rfl rfl
theorem r_175_12 (ls st : List Value) (a : Nat) (ws : ai_W) : ai_Run 175 12 ls (.ref a :: st) ws = (ai_fget ws a 11 1).bind fun q => ai_Run 175 15 ls (q :: st) ws := R_getf hc_175 dJ5_putStringAt_47b60_12 hv_175 (w := 774) rfl rfl
theorem r_175_15 (ls : List Value) (r : Value) (b0 : Value) (b1 : Int32) (b2 : Int32) (ws : ai_W) : ai_Run 175 15 ls [.int b2, .int b1, b0, r] ws = (ai_Call 174 [r, b0, .int b1, .int b2] ws).bind fun q => ai_Run 175 18 ls (q.1.toList ++ []) q.2 := R_callV hc_175 dJ5_putStringAt_47b60_15 hv_175 (w := 896) rfl (ai_lt3 hf_174 hf_175 hL_174 ho_174 ho_175 rfl) hk_174 (by rw [hn_174]; rfl) rfl (Nat.le_of_ble_eq_true rfl) rfl
theorem r_175_18 (ls : List Value) (ws : ai_W) : ai_Run 175 18 ls [] ws = some (none, ws) := R_vret hc_175 dJ5_putStringAt_47b60_18 ht_175
theorem dJ5_append_cf1ce_0 : decode cJ5_append_cf1ce 0 = .ok (.aload_n 1, 1) := by decide +kernel
theorem dJ5_append_cf1ce_1 : decode cJ5_append_cf1ce 1 = .ok (.ifnonnull 8, 3) := by decide +kernel
theorem dJ5_append_cf1ce_4 : decode cJ5_append_cf1ce 4 = .ok (.aload_n 0, 1) := by decide +kernel
theorem dJ5_append_cf1ce_9 : decode cJ5_append_cf1ce 9 = .ok (.aload_n 1, 1) := by decide +kernel
theorem dJ5_append_cf1ce_10 : decode cJ5_append_cf1ce 10 = .ok (.invokevirtual 32, 3) := by decide +kernel
theorem dJ5_append_cf1ce_13 : decode cJ5_append_cf1ce 13 = .ok (.istore_n 2, 1) := by decide +kernel
theorem dJ5_append_cf1ce_14 : decode cJ5_append_cf1ce 14 = .ok (.aload_n 0, 1) := by decide +kernel
theorem dJ5_append_cf1ce_15 : decode cJ5_append_cf1ce 15 = .ok (.aload_n 0, 1) := by decide +kernel
theorem dJ5_append_cf1ce_16 : decode cJ5_append_cf1ce 16 = .ok (.getfield 79, 3) := by decide +kernel
theorem dJ5_append_cf1ce_19 : decode cJ5_append_cf1ce 19 = .ok (.iload_n 2, 1) := by decide +kernel
theorem dJ5_append_cf1ce_20 : decode cJ5_append_cf1ce 20 = .ok (.iadd, 1) := by decide +kernel
theorem dJ5_append_cf1ce_21 : decode cJ5_append_cf1ce 21 = .ok (.invokevirtual 100, 3) := by decide +kernel
theorem dJ5_append_cf1ce_24 : decode cJ5_append_cf1ce 24 = .ok (.aload_n 0, 1) := by decide +kernel
theorem dJ5_append_cf1ce_25 : decode cJ5_append_cf1ce 25 = .ok (.aload_n 0, 1) := by decide +kernel
theorem dJ5_append_cf1ce_26 : decode cJ5_append_cf1ce 26 = .ok (.getfield 79, 3) := by decide +kernel
theorem dJ5_append_cf1ce_29 : decode cJ5_append_cf1ce 29 = .ok (.aload_n 1, 1) := by decide +kernel
theorem dJ5_append_cf1ce_30 : decode cJ5_append_cf1ce 30 = .ok (.invokevirtual 208, 3) := by decide +kernel
theorem dJ5_append_cf1ce_33 : decode cJ5_append_cf1ce 33 = .ok (.aload_n 0, 1) := by decide +kernel
theorem dJ5_append_cf1ce_34 : decode cJ5_append_cf1ce 34 = .ok (.dup, 1) := by decide +kernel
theorem dJ5_append_cf1ce_35 : decode cJ5_append_cf1ce 35 = .ok (.getfield 79, 3) := by decide +kernel
theorem dJ5_append_cf1ce_38 : decode cJ5_append_cf1ce 38 = .ok (.iload_n 2, 1) := by decide +kernel
theorem dJ5_append_cf1ce_39 : decode cJ5_append_cf1ce 39 = .ok (.iadd, 1) := by decide +kernel
theorem dJ5_append_cf1ce_40 : decode cJ5_append_cf1ce 40 = .ok (.putfield 79, 3) := by decide +kernel
theorem dJ5_append_cf1ce_43 : decode cJ5_append_cf1ce 43 = .ok (.aload_n 0, 1) := by decide +kernel
theorem dJ5_append_cf1ce_44 : decode cJ5_append_cf1ce 44 = .ok (.areturn, 1) := by decide +kernel
theorem e_176 (r : Nat) (a0 : Nat) (ws : ai_W) : ai_Call 176 [.ref r, .ref a0] ws = if ai_isob ws r 11 = true then ai_Run 176 0 [.ref r, .ref a0, .null] [] ws else none := R_entV hk_176 ⟨⟨rfl, rfl⟩, Nat.le_of_ble_eq_true rfl⟩ rfl
theorem ex_176 (r : Nat) (a0 : Nat) (ws : ai_W) : ai_Call 176 [.ref r, .retAddr a0] ws = if ai_isob ws r 11 = true then ai_Run 176 0 [.ref r, .retAddr a0, .null] [] ws else none := R_entV hk_176 ⟨⟨rfl, rfl⟩, Nat.le_of_ble_eq_true rfl⟩ rfl
theorem r_176_0 (l0 l2 : Value) (a : Nat) (st : List Value) (ws : ai_W) : ai_Run 176 0 [l0, .ref a, l2] st ws = ai_Run 176 1 [l0, .ref a, l2] (.ref a :: st) ws := R_aload_n hc_176 dJ5_append_cf1ce_0 rfl rfl
theorem rx_176_0 (l0 l2 : Value) {a : Nat} (hq : ¬ a = 23) (st : List Value) (ws : ai_W) : ai_Run 176 0 [l0, .retAddr a, l2] st ws = ai_Run 176 1 [l0, .retAddr a, l2] (.retAddr a :: st) ws := R_aload_nX hq hc_176 dJ5_append_cf1ce_0 rfl rfl
theorem r_176_1 (ls st : List Value) (a : Nat) (ws : ai_W) : ai_Run 176 1 ls (.ref a :: st) ws = ai_Run 176 9 ls st ws := R_nonnull hc_176 dJ5_append_cf1ce_1 rfl
theorem rx_176_1 {a : Nat} (hq : ¬ a = 23) (ls st : List Value) (ws : ai_W) : ai_Run 176 1 ls (.retAddr a :: st) ws = ai_Run 176 9 ls st ws := R_nonnullX hq hc_176 dJ5_append_cf1ce_1 rfl
theorem r_176_4 (l1 l2 : Value) (a : Nat) (st : List Value) (ws : ai_W) : ai_Run 176 4 [.ref a, l1, l2] st ws = ai_Run 176 5 [.ref a, l1, l2] (.ref a :: st) ws := R_aload_n hc_176 dJ5_append_cf1ce_4 rfl rfl
theorem rx_176_4 (l1 l2 : Value) {a : Nat} (hq : ¬ a = 23) (st : List Value) (ws : ai_W) : ai_Run 176 4 [.retAddr a, l1, l2] st ws = ai_Run 176 5 [.retAddr a, l1, l2] (.retAddr a :: st) ws := R_aload_nX hq hc_176 dJ5_append_cf1ce_4 rfl rfl
theorem r_176_9 (l0 l2 : Value) (a : Nat) (st : List Value) (ws : ai_W) : ai_Run 176 9 [l0, .ref a, l2] st ws = ai_Run 176 10 [l0, .ref a, l2] (.ref a :: st) ws := R_aload_n hc_176 dJ5_append_cf1ce_9 rfl rfl
theorem rx_176_9 (l0 l2 : Value) {a : Nat} (hq : ¬ a = 23) (st : List Value) (ws : ai_W) : ai_Run 176 9 [l0, .retAddr a, l2] st ws = ai_Run 176 10 [l0, .retAddr a, l2] (.retAddr a :: st) ws := R_aload_nX hq hc_176 dJ5_append_cf1ce_9 rfl rfl
theorem r_176_10 (ls : List Value) (r : Value) (ws : ai_W) : ai_Run 176 10 ls [r] ws = (ai_Call 171 [r] ws).bind fun q => ai_Run 176 13 ls (q.1.toList ++ []) q.2 := R_callV hc_176 dJ5_append_cf1ce_10 hv_176 (w := 859) rfl (ai_lt3 hf_171 hf_176 hL_171 ho_171 ho_176 rfl) hk_171 (by rw [hn_171]; rfl) rfl (Nat.le_of_ble_eq_true rfl) rfl
theorem r_176_13 (l0 l1 l2 : Value) (a : Int32) (st : List Value) (ws : ai_W) : ai_Run 176 13 [l0, l1, l2] (.int a :: st) ws = ai_Run 176 14 [l0, l1, .int a] st ws := R_istore_n hc_176 dJ5_append_cf1ce_13 (Nat.le_of_ble_eq_true rfl) rfl rfl
theorem r_176_14 (l1 l2 : Value) (a : Nat) (st : List Value) (ws : ai_W) : ai_Run 176 14 [.ref a, l1, l2] st ws = ai_Run 176 15 [.ref a, l1, l2] (.ref a :: st) ws := R_aload_n hc_176 dJ5_append_cf1ce_14 rfl rfl
theorem rx_176_14 (l1 l2 : Value) {a : Nat} (hq : ¬ a = 23) (st : List Value) (ws : ai_W) : ai_Run 176 14 [.retAddr a, l1, l2] st ws = ai_Run 176 15 [.retAddr a, l1, l2] (.retAddr a :: st) ws := R_aload_nX hq hc_176 dJ5_append_cf1ce_14 rfl rfl
theorem r_176_15 (l1 l2 : Value) (a : Nat) (st : List Value) (ws : ai_W) : ai_Run 176 15 [.ref a, l1, l2] st ws = ai_Run 176 16 [.ref a, l1, l2] (.ref a :: st) ws := R_aload_n hc_176 dJ5_append_cf1ce_15 rfl rfl
theorem rx_176_15 (l1 l2 : Value) {a : Nat} (hq : ¬ a = 23) (st : List Value) (ws : ai_W) : ai_Run 176 15 [.retAddr a, l1, l2] st ws = ai_Run 176 16 [.retAddr a, l1, l2] (.retAddr a :: st) ws := R_aload_nX hq hc_176 dJ5_append_cf1ce_15 rfl rfl
theorem r_176_16 (ls st : List Value) (a : Nat) (ws : ai_W) : ai_Run 176 16 ls (.ref a :: st) ws = (ai_fget ws a 11 3).bind fun q => ai_Run 176 19 ls (q :: st) ws := R_getf hc_176 dJ5_append_cf1ce_16 hv_176 (w := 776) rfl rfl
theorem r_176_19 (l0 l1 : Value) (a : Int32) (st : List Value) (ws : ai_W) : ai_Run 176 19 [l0, l1, .int a] st ws = ai_Run 176 20 [l0, l1, .int a] (.int a :: st) ws := R_iload_n hc_176 dJ5_append_cf1ce_19 rfl rfl
theorem r_176_20 (ls st : List Value) (a b : Int32) (ws : ai_W) : ai_Run 176 20 ls (.int b :: .int a :: st) ws = ai_Run 176 21 ls (.int (a + b) :: st) ws := R_iadd hc_176 dJ5_append_cf1ce_20 rfl
theorem r_176_21 (ls : List Value) (r : Value) (b0 : Int32) (ws : ai_W) : ai_Run 176 21 ls [.int b0, r] ws = (ai_Call 172 [r, .int b0] ws).bind fun q => ai_Run 176 24 ls (q.1.toList ++ []) q.2 := R_callU hc_176 dJ5_append_cf1ce_21 hv_176 (w := 4) rfl (ai_lt3 hf_172 hf_176 hL_172 ho_172 ho_176 rfl) hk_172 (by rw [hn_172]; rfl) rfl (Nat.le_of_ble_eq_true rfl) rfl
theorem r_176_24 (l1 l2 : Value) (a : Nat) (st : List Value) (ws : ai_W) : ai_Run 176 24 [.ref a, l1, l2] st ws = ai_Run 176 25 [.ref a, l1, l2] (.ref a :: st) ws := R_aload_n hc_176 dJ5_append_cf1ce_24 rfl rfl
theorem rx_176_24 (l1 l2 : Value) {a : Nat} (hq : ¬ a = 23) (st : List Value) (ws : ai_W) : ai_Run 176 24 [.retAddr a, l1, l2] st ws = ai_Run 176 25 [.retAddr a, l1, l2] (.retAddr a :: st) ws := R_aload_nX hq hc_176 dJ5_append_cf1ce_24 rfl rfl
theorem r_176_25 (l1 l2 : Value) (a : Nat) (st : List Value) (ws : ai_W) : ai_Run 176 25 [.ref a, l1, l2] st ws = ai_Run 176 26 [.ref a, l1, l2] (.ref a :: st) ws := R_aload_n hc_176 dJ5_append_cf1ce_25 rfl rfl
theorem rx_176_25 (l1 l2 : Value) {a : Nat} (hq : ¬ a = 23) (st : List Value) (ws : ai_W) : ai_Run 176 25 [.retAddr a, l1, l2] st ws = ai_Run 176 26 [.retAddr a, l1, l2] (.retAddr a :: st) ws := R_aload_nX hq hc_176 dJ5_append_cf1ce_25 rfl rfl
theorem r_176_26 (ls st : List Value) (a : Nat) (ws : ai_W) : ai_Run 176 26 ls (.ref a :: st) ws = (ai_fget ws a 11 3).bind fun q => ai_Run 176 29 ls (q :: st) ws := R_getf hc_176 dJ5_append_cf1ce_26 hv_176 (w := 776) rfl rfl
theorem r_176_29 (l0 l2 : Value) (a : Nat) (st : List Value) (ws : ai_W) : ai_Run 176 29 [l0, .ref a, l2] st ws = ai_Run 176 30 [l0, .ref a, l2] (.ref a :: st) ws := R_aload_n hc_176 dJ5_append_cf1ce_29 rfl rfl
theorem rx_176_29 (l0 l2 : Value) {a : Nat} (hq : ¬ a = 23) (st : List Value) (ws : ai_W) : ai_Run 176 29 [l0, .retAddr a, l2] st ws = ai_Run 176 30 [l0, .retAddr a, l2] (.retAddr a :: st) ws := R_aload_nX hq hc_176 dJ5_append_cf1ce_29 rfl rfl
theorem r_176_30 (ls : List Value) (r : Value) (b0 : Int32) (b1 : Value) (ws : ai_W) : ai_Run 176 30 ls [b1, .int b0, r] ws = (ai_Call 175 [r, .int b0, b1] ws).bind fun q => ai_Run 176 33 ls (q.1.toList ++ []) q.2 := R_callU hc_176 dJ5_append_cf1ce_30 hv_176 (w := 5) rfl (ai_lt3 hf_175 hf_176 hL_175 ho_175 ho_176 rfl) hk_175 (by rw [hn_175]; rfl) rfl (Nat.le_of_ble_eq_true rfl) rfl
theorem r_176_33 (l1 l2 : Value) (a : Nat) (st : List Value) (ws : ai_W) : ai_Run 176 33 [.ref a, l1, l2] st ws = ai_Run 176 34 [.ref a, l1, l2] (.ref a :: st) ws := R_aload_n hc_176 dJ5_append_cf1ce_33 rfl rfl
theorem rx_176_33 (l1 l2 : Value) {a : Nat} (hq : ¬ a = 23) (st : List Value) (ws : ai_W) : ai_Run 176 33 [.retAddr a, l1, l2] st ws = ai_Run 176 34 [.retAddr a, l1, l2] (.retAddr a :: st) ws := R_aload_nX hq hc_176 dJ5_append_cf1ce_33 rfl rfl
theorem r_176_34 (ls st : List Value) (a : Nat) (ws : ai_W) : ai_Run 176 34 ls (.ref a :: st) ws = ai_Run 176 35 ls (.ref a :: .ref a :: st) ws := R_dup hc_176 dJ5_append_cf1ce_34 rfl
theorem r_176_35 (ls st : List Value) (a : Nat) (ws : ai_W) : ai_Run 176 35 ls (.ref a :: st) ws = (ai_fget ws a 11 3).bind fun q => ai_Run 176 38 ls (q :: st) ws := R_getf hc_176 dJ5_append_cf1ce_35 hv_176 (w := 776) rfl rfl
theorem r_176_38 (l0 l1 : Value) (a : Int32) (st : List Value) (ws : ai_W) : ai_Run 176 38 [l0, l1, .int a] st ws = ai_Run 176 39 [l0, l1, .int a] (.int a :: st) ws := R_iload_n hc_176 dJ5_append_cf1ce_38 rfl rfl
theorem r_176_39 (ls st : List Value) (a b : Int32) (ws : ai_W) : ai_Run 176 39 ls (.int b :: .int a :: st) ws = ai_Run 176 40 ls (.int (a + b) :: st) ws := R_iadd hc_176 dJ5_append_cf1ce_39 rfl
theorem r_176_40 (ls st : List Value) (a : Nat) (x : Value) (ws : ai_W) : ai_Run 176 40 ls (x :: .ref a :: st) ws = (ai_fput ws a 11 3 x).bind fun ws => ai_Run 176 43 ls st ws := R_putf hc_176 dJ5_append_cf1ce_40 hv_176 (w := 776) rfl rfl rfl
theorem r_176_43 (l1 l2 : Value) (a : Nat) (st : List Value) (ws : ai_W) : ai_Run 176 43 [.ref a, l1, l2] st ws = ai_Run 176 44 [.ref a, l1, l2] (.ref a :: st) ws := R_aload_n hc_176 dJ5_append_cf1ce_43 rfl rfl
theorem rx_176_43 (l1 l2 : Value) {a : Nat} (hq : ¬ a = 23) (st : List Value) (ws : ai_W) : ai_Run 176 43 [.retAddr a, l1, l2] st ws = ai_Run 176 44 [.retAddr a, l1, l2] (.retAddr a :: st) ws := R_aload_nX hq hc_176 dJ5_append_cf1ce_43 rfl rfl
theorem r_176_44 (ls : List Value) (a : Nat) (ws : ai_W) : ai_Run 176 44 ls [.ref a] ws = some (some (.ref a), ws) := R_aret hc_176 dJ5_append_cf1ce_44 ht_176 rfl
theorem dJ4_append_15ec4_0 : decode cJ4_append_15ec4 0 = .ok (.aload_n 0, 1) := by decide +kernel
theorem dJ4_append_15ec4_1 : decode cJ4_append_15ec4 1 = .ok (.aload_n 1, 1) := by decide +kernel
theorem dJ4_append_15ec4_2 : decode cJ4_append_15ec4 2 = .ok (.invokespecial 29, 3) := by decide +kernel
theorem dJ4_append_15ec4_5 : decode cJ4_append_15ec4 5 = .ok (.pop, 1) := by decide +kernel
theorem dJ4_append_15ec4_6 : decode cJ4_append_15ec4 6 = .ok (.aload_n 0, 1) := by decide +kernel
theorem dJ4_append_15ec4_7 : decode cJ4_append_15ec4 7 = .ok (.areturn, 1) := by decide +kernel
theorem e_177 (r : Nat) (a0 : Nat) (ws : ai_W) : ai_Call 177 [.ref r, .ref a0] ws = if ai_isob ws r 11 = true then ai_Run 177 0 [.ref r, .ref a0] [] ws else none := R_entV hk_177 ⟨⟨rfl, rfl⟩, Nat.le_of_ble_eq_true rfl⟩ rfl
theorem ex_177 (r : Nat) (a0 : Nat) (ws : ai_W) : ai_Call 177 [.ref r, .retAddr a0] ws = if ai_isob ws r 11 = true then ai_Run 177 0 [.ref r, .retAddr a0] [] ws else none := R_entV hk_177 ⟨⟨rfl, rfl⟩, Nat.le_of_ble_eq_true rfl⟩ rfl
theorem r_177_0 (l1 : Value) (a : Nat) (st : List Value) (ws : ai_W) : ai_Run 177 0 [.ref a, l1] st ws = ai_Run 177 1 [.ref a, l1] (.ref a :: st) ws := R_aload_n hc_177 dJ4_append_15ec4_0 rfl rfl
theorem rx_177_0 (l1 : Value) {a : Nat} (hq : ¬ a = 23) (st : List Value) (ws : ai_W) : ai_Run 177 0 [.retAddr a, l1] st ws = ai_Run 177 1 [.retAddr a, l1] (.retAddr a :: st) ws := R_aload_nX hq hc_177 dJ4_append_15ec4_0 rfl rfl
theorem r_177_1 (l0 : Value) (a : Nat) (st : List Value) (ws : ai_W) : ai_Run 177 1 [l0, .ref a] st ws = ai_Run 177 2 [l0, .ref a] (.ref a :: st) ws := R_aload_n hc_177 dJ4_append_15ec4_1 rfl rfl
theorem rx_177_1 (l0 : Value) {a : Nat} (hq : ¬ a = 23) (st : List Value) (ws : ai_W) : ai_Run 177 1 [l0, .retAddr a] st ws = ai_Run 177 2 [l0, .retAddr a] (.retAddr a :: st) ws := R_aload_nX hq hc_177 dJ4_append_15ec4_1 rfl rfl
theorem r_177_2 (ls : List Value) (r : Value) (b0 : Value) (ws : ai_W) : ai_Run 177 2 ls [b0, r] ws = (ai_Call 176 [r, b0] ws).bind fun q => ai_Run 177 5 ls (q.1.toList ++ []) q.2 := R_callSU hc_177 dJ4_append_15ec4_2 hv_177 (w := 0) rfl (ai_lt3 hf_176 hf_177 hL_176 ho_176 ho_177 rfl) hk_176 (by rw [hn_176]; rfl) rfl (Nat.le_of_ble_eq_true rfl) rfl
theorem r_177_5 (ls st : List Value) (a : Nat) (ws : ai_W) : ai_Run 177 5 ls (.ref a :: st) ws = ai_Run 177 6 ls st ws := R_popR hc_177 dJ4_append_15ec4_5 rfl
theorem r_177_6 (l1 : Value) (a : Nat) (st : List Value) (ws : ai_W) : ai_Run 177 6 [.ref a, l1] st ws = ai_Run 177 7 [.ref a, l1] (.ref a :: st) ws := R_aload_n hc_177 dJ4_append_15ec4_6 rfl rfl
theorem rx_177_6 (l1 : Value) {a : Nat} (hq : ¬ a = 23) (st : List Value) (ws : ai_W) : ai_Run 177 6 [.retAddr a, l1] st ws = ai_Run 177 7 [.retAddr a, l1] (.retAddr a :: st) ws := R_aload_nX hq hc_177 dJ4_append_15ec4_6 rfl rfl
theorem r_177_7 (ls : List Value) (a : Nat) (ws : ai_W) : ai_Run 177 7 ls [.ref a] ws = some (some (.ref a), ws) := R_aret hc_177 dJ4_append_15ec4_7 ht_177 rfl
theorem dJ6_stringSize_0f7a4_0 : decode cJ6_stringSize_0f7a4 0 = .ok (.iconst 1, 1) := by decide +kernel
theorem dJ6_stringSize_0f7a4_1 : decode cJ6_stringSize_0f7a4 1 = .ok (.istore_n 1, 1) := by decide +kernel
theorem dJ6_stringSize_0f7a4_2 : decode cJ6_stringSize_0f7a4 2 = .ok (.iload_n 0, 1) := by decide +kernel
theorem dJ6_stringSize_0f7a4_3 : decode cJ6_stringSize_0f7a4 3 = .ok (.ifCond .lt 8, 3) := by decide +kernel
theorem dJ6_stringSize_0f7a4_6 : decode cJ6_stringSize_0f7a4 6 = .ok (.iconst 0, 1) := by decide +kernel
theorem dJ6_stringSize_0f7a4_7 : decode cJ6_stringSize_0f7a4 7 = .ok (.istore_n 1, 1) := by decide +kernel
theorem dJ6_stringSize_0f7a4_8 : decode cJ6_stringSize_0f7a4 8 = .ok (.iload_n 0, 1) := by decide +kernel
theorem dJ6_stringSize_0f7a4_9 : decode cJ6_stringSize_0f7a4 9 = .ok (.ineg, 1) := by decide +kernel
theorem dJ6_stringSize_0f7a4_10 : decode cJ6_stringSize_0f7a4 10 = .ok (.istore_n 0, 1) := by decide +kernel
theorem dJ6_stringSize_0f7a4_11 : decode cJ6_stringSize_0f7a4 11 = .ok (.bipush (-10), 2) := by decide +kernel
theorem dJ6_stringSize_0f7a4_13 : decode cJ6_stringSize_0f7a4 13 = .ok (.istore_n 2, 1) := by decide +kernel
theorem dJ6_stringSize_0f7a4_14 : decode cJ6_stringSize_0f7a4 14 = .ok (.iconst 1, 1) := by decide +kernel
theorem dJ6_stringSize_0f7a4_15 : decode cJ6_stringSize_0f7a4 15 = .ok (.istore_n 3, 1) := by decide +kernel
theorem dJ6_stringSize_0f7a4_16 : decode cJ6_stringSize_0f7a4 16 = .ok (.iload_n 3, 1) := by decide +kernel
theorem dJ6_stringSize_0f7a4_17 : decode cJ6_stringSize_0f7a4 17 = .ok (.bipush 10, 2) := by decide +kernel
theorem dJ6_stringSize_0f7a4_19 : decode cJ6_stringSize_0f7a4 19 = .ok (.if_icmp .ge 23, 3) := by decide +kernel
theorem dJ6_stringSize_0f7a4_22 : decode cJ6_stringSize_0f7a4 22 = .ok (.iload_n 0, 1) := by decide +kernel
theorem dJ6_stringSize_0f7a4_23 : decode cJ6_stringSize_0f7a4 23 = .ok (.iload_n 2, 1) := by decide +kernel
theorem dJ6_stringSize_0f7a4_24 : decode cJ6_stringSize_0f7a4 24 = .ok (.if_icmp .le 7, 3) := by decide +kernel
theorem dJ6_stringSize_0f7a4_27 : decode cJ6_stringSize_0f7a4 27 = .ok (.iload_n 3, 1) := by decide +kernel
theorem dJ6_stringSize_0f7a4_28 : decode cJ6_stringSize_0f7a4 28 = .ok (.iload_n 1, 1) := by decide +kernel
theorem dJ6_stringSize_0f7a4_29 : decode cJ6_stringSize_0f7a4 29 = .ok (.iadd, 1) := by decide +kernel
theorem dJ6_stringSize_0f7a4_30 : decode cJ6_stringSize_0f7a4 30 = .ok (.ireturn, 1) := by decide +kernel
theorem dJ6_stringSize_0f7a4_31 : decode cJ6_stringSize_0f7a4 31 = .ok (.bipush 10, 2) := by decide +kernel
theorem dJ6_stringSize_0f7a4_33 : decode cJ6_stringSize_0f7a4 33 = .ok (.iload_n 2, 1) := by decide +kernel
theorem dJ6_stringSize_0f7a4_34 : decode cJ6_stringSize_0f7a4 34 = .ok (.imul, 1) := by decide +kernel
theorem dJ6_stringSize_0f7a4_35 : decode cJ6_stringSize_0f7a4 35 = .ok (.istore_n 2, 1) := by decide +kernel
theorem dJ6_stringSize_0f7a4_36 : decode cJ6_stringSize_0f7a4 36 = .ok (.iinc 3 1, 3) := by decide +kernel
theorem dJ6_stringSize_0f7a4_39 : decode cJ6_stringSize_0f7a4 39 = .ok (.goto (-23), 3) := by decide +kernel
theorem dJ6_stringSize_0f7a4_42 : decode cJ6_stringSize_0f7a4 42 = .ok (.bipush 10, 2) := by decide +kernel
theorem dJ6_stringSize_0f7a4_44 : decode cJ6_stringSize_0f7a4 44 = .ok (.iload_n 1, 1) := by decide +kernel
theorem dJ6_stringSize_0f7a4_45 : decode cJ6_stringSize_0f7a4 45 = .ok (.iadd, 1) := by decide +kernel
theorem dJ6_stringSize_0f7a4_46 : decode cJ6_stringSize_0f7a4 46 = .ok (.ireturn, 1) := by decide +kernel
theorem e_178 (a0 : Int32) (ws : ai_W) : ai_Call 178 [.int a0] ws = ai_Run 178 0 [.int a0, .null, .null, .null] [] ws := R_entS hk_178 ⟨⟨rfl, rfl⟩, Nat.le_of_ble_eq_true rfl⟩ rfl
theorem r_178_0 (ls st : List Value) (ws : ai_W) : ai_Run 178 0 ls st ws = ai_Run 178 1 ls (.int 1 :: st) ws := R_iconst hc_178 dJ6_stringSize_0f7a4_0 (by decide) rfl
theorem r_178_1 (l0 l1 l2 l3 : Value) (a : Int32) (st : List Value) (ws : ai_W) : ai_Run 178 1 [l0, l1, l2, l3] (.int a :: st) ws = ai_Run 178 2 [l0, .int a, l2, l3] st ws := R_istore_n hc_178 dJ6_stringSize_0f7a4_1 (Nat.le_of_ble_eq_true rfl) rfl rfl
theorem r_178_2 (l1 l2 l3 : Value) (a : Int32) (st : List Value) (ws : ai_W) : ai_Run 178 2 [.int a, l1, l2, l3] st ws = ai_Run 178 3 [.int a, l1, l2, l3] (.int a :: st) ws := R_iload_n hc_178 dJ6_stringSize_0f7a4_2 rfl rfl
theorem r_178_3 (ls st : List Value) (a : Int32) (ws : ai_W) : ai_Run 178 3 ls (.int a :: st) ws = if a < 0 then ai_Run 178 11 ls st ws else ai_Run 178 6 ls st ws := R_if_lt hc_178 dJ6_stringSize_0f7a4_3 rfl rfl
theorem r_178_6 (ls st : List Value) (ws : ai_W) : ai_Run 178 6 ls st ws = ai_Run 178 7 ls (.int 0 :: st) ws := R_iconst hc_178 dJ6_stringSize_0f7a4_6 (by decide) rfl
theorem r_178_7 (l0 l1 l2 l3 : Value) (a : Int32) (st : List Value) (ws : ai_W) : ai_Run 178 7 [l0, l1, l2, l3] (.int a :: st) ws = ai_Run 178 8 [l0, .int a, l2, l3] st ws := R_istore_n hc_178 dJ6_stringSize_0f7a4_7 (Nat.le_of_ble_eq_true rfl) rfl rfl
theorem r_178_8 (l1 l2 l3 : Value) (a : Int32) (st : List Value) (ws : ai_W) : ai_Run 178 8 [.int a, l1, l2, l3] st ws = ai_Run 178 9 [.int a, l1, l2, l3] (.int a :: st) ws := R_iload_n hc_178 dJ6_stringSize_0f7a4_8 rfl rfl
theorem r_178_9 (ls st : List Value) (a : Int32) (ws : ai_W) : ai_Run 178 9 ls (.int a :: st) ws = ai_Run 178 10 ls (.int (-a) :: st) ws := R_ineg hc_178 dJ6_stringSize_0f7a4_9 rfl
theorem r_178_10 (l0 l1 l2 l3 : Value) (a : Int32) (st : List Value) (ws : ai_W) : ai_Run 178 10 [l0, l1, l2, l3] (.int a :: st) ws = ai_Run 178 11 [.int a, l1, l2, l3] st ws := R_istore_n hc_178 dJ6_stringSize_0f7a4_10 (Nat.le_of_ble_eq_true rfl) rfl rfl
theorem r_178_11 (ls st : List Value) (ws : ai_W) : ai_Run 178 11 ls st ws = ai_Run 178 13 ls (.int (-10) :: st) ws := R_bipush hc_178 dJ6_stringSize_0f7a4_11 (by decide) rfl
theorem r_178_13 (l0 l1 l2 l3 : Value) (a : Int32) (st : List Value) (ws : ai_W) : ai_Run 178 13 [l0, l1, l2, l3] (.int a :: st) ws = ai_Run 178 14 [l0, l1, .int a, l3] st ws := R_istore_n hc_178 dJ6_stringSize_0f7a4_13 (Nat.le_of_ble_eq_true rfl) rfl rfl
theorem r_178_14 (ls st : List Value) (ws : ai_W) : ai_Run 178 14 ls st ws = ai_Run 178 15 ls (.int 1 :: st) ws := R_iconst hc_178 dJ6_stringSize_0f7a4_14 (by decide) rfl
theorem r_178_15 (l0 l1 l2 l3 : Value) (a : Int32) (st : List Value) (ws : ai_W) : ai_Run 178 15 [l0, l1, l2, l3] (.int a :: st) ws = ai_Run 178 16 [l0, l1, l2, .int a] st ws := R_istore_n hc_178 dJ6_stringSize_0f7a4_15 (Nat.le_of_ble_eq_true rfl) rfl rfl
theorem r_178_16 (l0 l1 l2 : Value) (a : Int32) (st : List Value) (ws : ai_W) : ai_Run 178 16 [l0, l1, l2, .int a] st ws = ai_Run 178 17 [l0, l1, l2, .int a] (.int a :: st) ws := R_iload_n hc_178 dJ6_stringSize_0f7a4_16 rfl rfl
theorem r_178_17 (ls st : List Value) (ws : ai_W) : ai_Run 178 17 ls st ws = ai_Run 178 19 ls (.int 10 :: st) ws := R_bipush hc_178 dJ6_stringSize_0f7a4_17 (by decide) rfl
theorem r_178_19 (ls st : List Value) (a b : Int32) (ws : ai_W) : ai_Run 178 19 ls (.int b :: .int a :: st) ws = if a < b then ai_Run 178 22 ls st ws else ai_Run 178 42 ls st ws := R_cmp_ge hc_178 dJ6_stringSize_0f7a4_19 rfl rfl
theorem r_178_22 (l1 l2 l3 : Value) (a : Int32) (st : List Value) (ws : ai_W) : ai_Run 178 22 [.int a, l1, l2, l3] st ws = ai_Run 178 23 [.int a, l1, l2, l3] (.int a :: st) ws := R_iload_n hc_178 dJ6_stringSize_0f7a4_22 rfl rfl
theorem r_178_23 (l0 l1 l3 : Value) (a : Int32) (st : List Value) (ws : ai_W) : ai_Run 178 23 [l0, l1, .int a, l3] st ws = ai_Run 178 24 [l0, l1, .int a, l3] (.int a :: st) ws := R_iload_n hc_178 dJ6_stringSize_0f7a4_23 rfl rfl
theorem r_178_24 (ls st : List Value) (a b : Int32) (ws : ai_W) : ai_Run 178 24 ls (.int b :: .int a :: st) ws = if b < a then ai_Run 178 27 ls st ws else ai_Run 178 31 ls st ws := R_cmp_le hc_178 dJ6_stringSize_0f7a4_24 rfl rfl
theorem r_178_27 (l0 l1 l2 : Value) (a : Int32) (st : List Value) (ws : ai_W) : ai_Run 178 27 [l0, l1, l2, .int a] st ws = ai_Run 178 28 [l0, l1, l2, .int a] (.int a :: st) ws := R_iload_n hc_178 dJ6_stringSize_0f7a4_27 rfl rfl
theorem r_178_28 (l0 l2 l3 : Value) (a : Int32) (st : List Value) (ws : ai_W) : ai_Run 178 28 [l0, .int a, l2, l3] st ws = ai_Run 178 29 [l0, .int a, l2, l3] (.int a :: st) ws := R_iload_n hc_178 dJ6_stringSize_0f7a4_28 rfl rfl
theorem r_178_29 (ls st : List Value) (a b : Int32) (ws : ai_W) : ai_Run 178 29 ls (.int b :: .int a :: st) ws = ai_Run 178 30 ls (.int (a + b) :: st) ws := R_iadd hc_178 dJ6_stringSize_0f7a4_29 rfl
theorem r_178_30 (ls : List Value) (x : Int32) (ws : ai_W) : ai_Run 178 30 ls [.int x] ws = some (some (.int x), ws) := R_iret hc_178 dJ6_stringSize_0f7a4_30 ht_178
theorem r_178_31 (ls st : List Value) (ws : ai_W) : ai_Run 178 31 ls st ws = ai_Run 178 33 ls (.int 10 :: st) ws := R_bipush hc_178 dJ6_stringSize_0f7a4_31 (by decide) rfl
theorem r_178_33 (l0 l1 l3 : Value) (a : Int32) (st : List Value) (ws : ai_W) : ai_Run 178 33 [l0, l1, .int a, l3] st ws = ai_Run 178 34 [l0, l1, .int a, l3] (.int a :: st) ws := R_iload_n hc_178 dJ6_stringSize_0f7a4_33 rfl rfl
theorem r_178_34 (ls st : List Value) (a b : Int32) (ws : ai_W) : ai_Run 178 34 ls (.int b :: .int a :: st) ws = ai_Run 178 35 ls (.int (a * b) :: st) ws := R_imul hc_178 dJ6_stringSize_0f7a4_34 rfl
theorem r_178_35 (l0 l1 l2 l3 : Value) (a : Int32) (st : List Value) (ws : ai_W) : ai_Run 178 35 [l0, l1, l2, l3] (.int a :: st) ws = ai_Run 178 36 [l0, l1, .int a, l3] st ws := R_istore_n hc_178 dJ6_stringSize_0f7a4_35 (Nat.le_of_ble_eq_true rfl) rfl rfl
theorem r_178_36 (l0 l1 l2 : Value) (a : Int32) (st : List Value) (ws : ai_W) : ai_Run 178 36 [l0, l1, l2, .int a] st ws = ai_Run 178 39 [l0, l1, l2, .int (a + 1)] st ws := R_iinc hc_178 dJ6_stringSize_0f7a4_36 rfl (by decide) rfl rfl
theorem r_178_39 (ls st : List Value) (ws : ai_W) : ai_Run 178 39 ls st ws = ai_Run 178 16 ls st ws := R_goto hc_178 dJ6_stringSize_0f7a4_39 rfl
theorem r_178_42 (ls st : List Value) (ws : ai_W) : ai_Run 178 42 ls st ws = ai_Run 178 44 ls (.int 10 :: st) ws := R_bipush hc_178 dJ6_stringSize_0f7a4_42 (by decide) rfl
theorem r_178_44 (l0 l2 l3 : Value) (a : Int32) (st : List Value) (ws : ai_W) : ai_Run 178 44 [l0, .int a, l2, l3] st ws = ai_Run 178 45 [l0, .int a, l2, l3] (.int a :: st) ws := R_iload_n hc_178 dJ6_stringSize_0f7a4_44 rfl rfl
theorem r_178_45 (ls st : List Value) (a b : Int32) (ws : ai_W) : ai_Run 178 45 ls (.int b :: .int a :: st) ws = ai_Run 178 46 ls (.int (a + b) :: st) ws := R_iadd hc_178 dJ6_stringSize_0f7a4_45 rfl
theorem r_178_46 (ls : List Value) (x : Int32) (ws : ai_W) : ai_Run 178 46 ls [.int x] ws = some (some (.int x), ws) := R_iret hc_178 dJ6_stringSize_0f7a4_46 ht_178
theorem dJ5_isLatin1_aae02_0 : decode cJ5_isLatin1_aae02 0 = .ok (.getstatic 18, 3) := by decide +kernel
theorem dJ5_isLatin1_aae02_3 : decode cJ5_isLatin1_aae02 3 = .ok (.ifCond .eq 14, 3) := by decide +kernel
theorem dJ5_isLatin1_aae02_6 : decode cJ5_isLatin1_aae02 6 = .ok (.aload_n 0, 1) := by decide +kernel
theorem dJ5_isLatin1_aae02_7 : decode cJ5_isLatin1_aae02 7 = .ok (.getfield 22, 3) := by decide +kernel
theorem dJ5_isLatin1_aae02_10 : decode cJ5_isLatin1_aae02 10 = .ok (.ifCond .ne 7, 3) := by decide +kernel
theorem dJ5_isLatin1_aae02_13 : decode cJ5_isLatin1_aae02 13 = .ok (.iconst 1, 1) := by decide +kernel
theorem dJ5_isLatin1_aae02_14 : decode cJ5_isLatin1_aae02 14 = .ok (.goto 4, 3) := by decide +kernel
theorem dJ5_isLatin1_aae02_17 : decode cJ5_isLatin1_aae02 17 = .ok (.iconst 0, 1) := by decide +kernel
theorem dJ5_isLatin1_aae02_18 : decode cJ5_isLatin1_aae02 18 = .ok (.ireturn, 1) := by decide +kernel
theorem e_179 (r : Nat)  (ws : ai_W) : ai_Call 179 [.ref r] ws = if ai_isob ws r 11 = true then ai_Run 179 0 [.ref r] [] ws else none := R_entV hk_179 ⟨⟨rfl, rfl⟩, Nat.le_of_ble_eq_true rfl⟩ rfl
theorem r_179_0 (ls st : List Value) (ws : ai_W) : ai_Run 179 0 ls st ws = ai_Run 179 3 ls (.int 1 :: st) ws := R_gets hc_179 dJ5_isLatin1_aae02_0 (q := 0) (w := 764) rfl (Or.inl ⟨rfl, rfl⟩) rfl
theorem r_179_3 (ls st : List Value) (a : Int32) (ws : ai_W) : ai_Run 179 3 ls (.int a :: st) ws = if a = 0 then ai_Run 179 17 ls st ws else ai_Run 179 6 ls st ws := R_if_eq hc_179 dJ5_isLatin1_aae02_3 rfl rfl
theorem r_179_6 (a : Nat) (st : List Value) (ws : ai_W) : ai_Run 179 6 [.ref a] st ws = ai_Run 179 7 [.ref a] (.ref a :: st) ws := R_aload_n hc_179 dJ5_isLatin1_aae02_6 rfl rfl
theorem rx_179_6 {a : Nat} (hq : ¬ a = 23) (st : List Value) (ws : ai_W) : ai_Run 179 6 [.retAddr a] st ws = ai_Run 179 7 [.retAddr a] (.retAddr a :: st) ws := R_aload_nX hq hc_179 dJ5_isLatin1_aae02_6 rfl rfl
theorem r_179_7 (ls st : List Value) (a : Nat) (ws : ai_W) : ai_Run 179 7 ls (.ref a :: st) ws = (ai_fget ws a 11 1).bind fun q => ai_Run 179 10 ls (q :: st) ws := R_getf hc_179 dJ5_isLatin1_aae02_7 hv_179 (w := 774) rfl rfl
theorem r_179_10 (ls st : List Value) (a : Int32) (ws : ai_W) : ai_Run 179 10 ls (.int a :: st) ws = if a = 0 then ai_Run 179 13 ls st ws else ai_Run 179 17 ls st ws := R_if_ne hc_179 dJ5_isLatin1_aae02_10 rfl rfl
theorem r_179_13 (ls st : List Value) (ws : ai_W) : ai_Run 179 13 ls st ws = ai_Run 179 14 ls (.int 1 :: st) ws := R_iconst hc_179 dJ5_isLatin1_aae02_13 (by decide) rfl
theorem r_179_14 (ls st : List Value) (ws : ai_W) : ai_Run 179 14 ls st ws = ai_Run 179 18 ls st ws := R_goto hc_179 dJ5_isLatin1_aae02_14 rfl
theorem r_179_17 (ls st : List Value) (ws : ai_W) : ai_Run 179 17 ls st ws = ai_Run 179 18 ls (.int 0 :: st) ws := R_iconst hc_179 dJ5_isLatin1_aae02_17 (by decide) rfl
theorem r_179_18 (ls : List Value) (x : Int32) (ws : ai_W) : ai_Run 179 18 ls [.int x] ws = if ai_pb x = true then some (some (.int x), ws) else none := R_zret hc_179 dJ5_isLatin1_aae02_18 ht_179
theorem dJ6_getChars_ba4f3_0 : decode cJ6_getChars_ba4f3 0 = .ok (.iload_n 1, 1) := by decide +kernel
theorem dJ6_getChars_ba4f3_1 : decode cJ6_getChars_ba4f3 1 = .ok (.istore 5, 2) := by decide +kernel
theorem dJ6_getChars_ba4f3_3 : decode cJ6_getChars_ba4f3 3 = .ok (.iload_n 0, 1) := by decide +kernel
theorem dJ6_getChars_ba4f3_4 : decode cJ6_getChars_ba4f3 4 = .ok (.ifCond .ge 7, 3) := by decide +kernel
theorem dJ6_getChars_ba4f3_7 : decode cJ6_getChars_ba4f3 7 = .ok (.iconst 1, 1) := by decide +kernel
theorem dJ6_getChars_ba4f3_8 : decode cJ6_getChars_ba4f3 8 = .ok (.goto 4, 3) := by decide +kernel
theorem dJ6_getChars_ba4f3_11 : decode cJ6_getChars_ba4f3 11 = .ok (.iconst 0, 1) := by decide +kernel
theorem dJ6_getChars_ba4f3_12 : decode cJ6_getChars_ba4f3 12 = .ok (.istore 6, 2) := by decide +kernel
theorem dJ6_getChars_ba4f3_14 : decode cJ6_getChars_ba4f3 14 = .ok (.iload 6, 2) := by decide +kernel
theorem dJ6_getChars_ba4f3_16 : decode cJ6_getChars_ba4f3 16 = .ok (.ifCond .ne 6, 3) := by decide +kernel
theorem dJ6_getChars_ba4f3_19 : decode cJ6_getChars_ba4f3 19 = .ok (.iload_n 0, 1) := by decide +kernel
theorem dJ6_getChars_ba4f3_20 : decode cJ6_getChars_ba4f3 20 = .ok (.ineg, 1) := by decide +kernel
theorem dJ6_getChars_ba4f3_21 : decode cJ6_getChars_ba4f3 21 = .ok (.istore_n 0, 1) := by decide +kernel
theorem dJ6_getChars_ba4f3_22 : decode cJ6_getChars_ba4f3 22 = .ok (.iload_n 0, 1) := by decide +kernel
theorem dJ6_getChars_ba4f3_23 : decode cJ6_getChars_ba4f3 23 = .ok (.bipush (-100), 2) := by decide +kernel
theorem dJ6_getChars_ba4f3_25 : decode cJ6_getChars_ba4f3 25 = .ok (.if_icmp .gt 47, 3) := by decide +kernel
theorem dJ6_getChars_ba4f3_28 : decode cJ6_getChars_ba4f3 28 = .ok (.iload_n 0, 1) := by decide +kernel
theorem dJ6_getChars_ba4f3_29 : decode cJ6_getChars_ba4f3 29 = .ok (.bipush 100, 2) := by decide +kernel
theorem dJ6_getChars_ba4f3_31 : decode cJ6_getChars_ba4f3 31 = .ok (.idiv, 1) := by decide +kernel
theorem dJ6_getChars_ba4f3_32 : decode cJ6_getChars_ba4f3 32 = .ok (.istore_n 3, 1) := by decide +kernel
theorem dJ6_getChars_ba4f3_33 : decode cJ6_getChars_ba4f3 33 = .ok (.iload_n 3, 1) := by decide +kernel
theorem dJ6_getChars_ba4f3_34 : decode cJ6_getChars_ba4f3 34 = .ok (.bipush 100, 2) := by decide +kernel
theorem dJ6_getChars_ba4f3_36 : decode cJ6_getChars_ba4f3 36 = .ok (.imul, 1) := by decide +kernel
theorem dJ6_getChars_ba4f3_37 : decode cJ6_getChars_ba4f3 37 = .ok (.iload_n 0, 1) := by decide +kernel
theorem dJ6_getChars_ba4f3_38 : decode cJ6_getChars_ba4f3 38 = .ok (.isub, 1) := by decide +kernel
theorem dJ6_getChars_ba4f3_39 : decode cJ6_getChars_ba4f3 39 = .ok (.istore 4, 2) := by decide +kernel
theorem dJ6_getChars_ba4f3_41 : decode cJ6_getChars_ba4f3 41 = .ok (.iload_n 3, 1) := by decide +kernel
theorem dJ6_getChars_ba4f3_42 : decode cJ6_getChars_ba4f3 42 = .ok (.istore_n 0, 1) := by decide +kernel
theorem dJ6_getChars_ba4f3_43 : decode cJ6_getChars_ba4f3 43 = .ok (.aload_n 2, 1) := by decide +kernel
theorem dJ6_getChars_ba4f3_44 : decode cJ6_getChars_ba4f3 44 = .ok (.iinc 5 (-1), 3) := by decide +kernel
theorem dJ6_getChars_ba4f3_47 : decode cJ6_getChars_ba4f3 47 = .ok (.iload 5, 2) := by decide +kernel
theorem dJ6_getChars_ba4f3_49 : decode cJ6_getChars_ba4f3 49 = .ok (.getstatic 83, 3) := by decide +kernel
theorem dJ6_getChars_ba4f3_52 : decode cJ6_getChars_ba4f3 52 = .ok (.iload 4, 2) := by decide +kernel
theorem dJ6_getChars_ba4f3_54 : decode cJ6_getChars_ba4f3 54 = .ok (.baload, 1) := by decide +kernel
theorem dJ6_getChars_ba4f3_55 : decode cJ6_getChars_ba4f3 55 = .ok (.bastore, 1) := by decide +kernel
theorem dJ6_getChars_ba4f3_56 : decode cJ6_getChars_ba4f3 56 = .ok (.aload_n 2, 1) := by decide +kernel
theorem dJ6_getChars_ba4f3_57 : decode cJ6_getChars_ba4f3 57 = .ok (.iinc 5 (-1), 3) := by decide +kernel
theorem dJ6_getChars_ba4f3_60 : decode cJ6_getChars_ba4f3 60 = .ok (.iload 5, 2) := by decide +kernel
theorem dJ6_getChars_ba4f3_62 : decode cJ6_getChars_ba4f3 62 = .ok (.getstatic 87, 3) := by decide +kernel
theorem dJ6_getChars_ba4f3_65 : decode cJ6_getChars_ba4f3 65 = .ok (.iload 4, 2) := by decide +kernel
theorem dJ6_getChars_ba4f3_67 : decode cJ6_getChars_ba4f3 67 = .ok (.baload, 1) := by decide +kernel
theorem dJ6_getChars_ba4f3_68 : decode cJ6_getChars_ba4f3 68 = .ok (.bastore, 1) := by decide +kernel
theorem dJ6_getChars_ba4f3_69 : decode cJ6_getChars_ba4f3 69 = .ok (.goto (-47), 3) := by decide +kernel
theorem dJ6_getChars_ba4f3_72 : decode cJ6_getChars_ba4f3 72 = .ok (.aload_n 2, 1) := by decide +kernel
theorem dJ6_getChars_ba4f3_73 : decode cJ6_getChars_ba4f3 73 = .ok (.iinc 5 (-1), 3) := by decide +kernel
theorem dJ6_getChars_ba4f3_76 : decode cJ6_getChars_ba4f3 76 = .ok (.iload 5, 2) := by decide +kernel
theorem dJ6_getChars_ba4f3_78 : decode cJ6_getChars_ba4f3 78 = .ok (.getstatic 83, 3) := by decide +kernel
theorem dJ6_getChars_ba4f3_81 : decode cJ6_getChars_ba4f3 81 = .ok (.iload_n 0, 1) := by decide +kernel
theorem dJ6_getChars_ba4f3_82 : decode cJ6_getChars_ba4f3 82 = .ok (.ineg, 1) := by decide +kernel
theorem dJ6_getChars_ba4f3_83 : decode cJ6_getChars_ba4f3 83 = .ok (.baload, 1) := by decide +kernel
theorem dJ6_getChars_ba4f3_84 : decode cJ6_getChars_ba4f3 84 = .ok (.bastore, 1) := by decide +kernel
theorem dJ6_getChars_ba4f3_85 : decode cJ6_getChars_ba4f3 85 = .ok (.iload_n 0, 1) := by decide +kernel
theorem dJ6_getChars_ba4f3_86 : decode cJ6_getChars_ba4f3 86 = .ok (.bipush (-9), 2) := by decide +kernel
theorem dJ6_getChars_ba4f3_88 : decode cJ6_getChars_ba4f3 88 = .ok (.if_icmp .ge 16, 3) := by decide +kernel
theorem dJ6_getChars_ba4f3_91 : decode cJ6_getChars_ba4f3 91 = .ok (.aload_n 2, 1) := by decide +kernel
theorem dJ6_getChars_ba4f3_92 : decode cJ6_getChars_ba4f3 92 = .ok (.iinc 5 (-1), 3) := by decide +kernel
theorem dJ6_getChars_ba4f3_95 : decode cJ6_getChars_ba4f3 95 = .ok (.iload 5, 2) := by decide +kernel
theorem dJ6_getChars_ba4f3_97 : decode cJ6_getChars_ba4f3 97 = .ok (.getstatic 87, 3) := by decide +kernel
theorem dJ6_getChars_ba4f3_100 : decode cJ6_getChars_ba4f3 100 = .ok (.iload_n 0, 1) := by decide +kernel
theorem dJ6_getChars_ba4f3_101 : decode cJ6_getChars_ba4f3 101 = .ok (.ineg, 1) := by decide +kernel
theorem dJ6_getChars_ba4f3_102 : decode cJ6_getChars_ba4f3 102 = .ok (.baload, 1) := by decide +kernel
theorem dJ6_getChars_ba4f3_103 : decode cJ6_getChars_ba4f3 103 = .ok (.bastore, 1) := by decide +kernel
theorem dJ6_getChars_ba4f3_104 : decode cJ6_getChars_ba4f3 104 = .ok (.iload 6, 2) := by decide +kernel
theorem dJ6_getChars_ba4f3_106 : decode cJ6_getChars_ba4f3 106 = .ok (.ifCond .eq 12, 3) := by decide +kernel
theorem dJ6_getChars_ba4f3_109 : decode cJ6_getChars_ba4f3 109 = .ok (.aload_n 2, 1) := by decide +kernel
theorem dJ6_getChars_ba4f3_110 : decode cJ6_getChars_ba4f3 110 = .ok (.iinc 5 (-1), 3) := by decide +kernel
theorem dJ6_getChars_ba4f3_113 : decode cJ6_getChars_ba4f3 113 = .ok (.iload 5, 2) := by decide +kernel
theorem dJ6_getChars_ba4f3_115 : decode cJ6_getChars_ba4f3 115 = .ok (.bipush 45, 2) := by decide +kernel
theorem dJ6_getChars_ba4f3_117 : decode cJ6_getChars_ba4f3 117 = .ok (.bastore, 1) := by decide +kernel
theorem dJ6_getChars_ba4f3_118 : decode cJ6_getChars_ba4f3 118 = .ok (.iload 5, 2) := by decide +kernel
theorem dJ6_getChars_ba4f3_120 : decode cJ6_getChars_ba4f3 120 = .ok (.ireturn, 1) := by decide +kernel
theorem e_180 (a0 : Int32) (a1 : Int32) (a2 : Nat) (ws : ai_W) : ai_Call 180 [.int a0, .int a1, .ref a2] ws = ai_Run 180 0 [.int a0, .int a1, .ref a2, .null, .null, .null, .null] [] ws := R_entS hk_180 ⟨⟨rfl, rfl⟩, Nat.le_of_ble_eq_true rfl⟩ rfl
theorem r_180_0 (l0 l2 l3 l4 l5 l6 : Value) (a : Int32) (st : List Value) (ws : ai_W) : ai_Run 180 0 [l0, .int a, l2, l3, l4, l5, l6] st ws = ai_Run 180 1 [l0, .int a, l2, l3, l4, l5, l6] (.int a :: st) ws := R_iload_n hc_180 dJ6_getChars_ba4f3_0 rfl rfl
theorem r_180_1 (l0 l1 l2 l3 l4 l5 l6 : Value) (a : Int32) (st : List Value) (ws : ai_W) : ai_Run 180 1 [l0, l1, l2, l3, l4, l5, l6] (.int a :: st) ws = ai_Run 180 3 [l0, l1, l2, l3, l4, .int a, l6] st ws := R_istore hc_180 dJ6_getChars_ba4f3_1 (Nat.le_of_ble_eq_true rfl) rfl rfl
theorem r_180_3 (l1 l2 l3 l4 l5 l6 : Value) (a : Int32) (st : List Value) (ws : ai_W) : ai_Run 180 3 [.int a, l1, l2, l3, l4, l5, l6] st ws = ai_Run 180 4 [.int a, l1, l2, l3, l4, l5, l6] (.int a :: st) ws := R_iload_n hc_180 dJ6_getChars_ba4f3_3 rfl rfl
theorem r_180_4 (ls st : List Value) (a : Int32) (ws : ai_W) : ai_Run 180 4 ls (.int a :: st) ws = if a < 0 then ai_Run 180 7 ls st ws else ai_Run 180 11 ls st ws := R_if_ge hc_180 dJ6_getChars_ba4f3_4 rfl rfl
theorem r_180_7 (ls st : List Value) (ws : ai_W) : ai_Run 180 7 ls st ws = ai_Run 180 8 ls (.int 1 :: st) ws := R_iconst hc_180 dJ6_getChars_ba4f3_7 (by decide) rfl
theorem r_180_8 (ls st : List Value) (ws : ai_W) : ai_Run 180 8 ls st ws = ai_Run 180 12 ls st ws := R_goto hc_180 dJ6_getChars_ba4f3_8 rfl
theorem r_180_11 (ls st : List Value) (ws : ai_W) : ai_Run 180 11 ls st ws = ai_Run 180 12 ls (.int 0 :: st) ws := R_iconst hc_180 dJ6_getChars_ba4f3_11 (by decide) rfl
theorem r_180_12 (l0 l1 l2 l3 l4 l5 l6 : Value) (a : Int32) (st : List Value) (ws : ai_W) : ai_Run 180 12 [l0, l1, l2, l3, l4, l5, l6] (.int a :: st) ws = ai_Run 180 14 [l0, l1, l2, l3, l4, l5, .int a] st ws := R_istore hc_180 dJ6_getChars_ba4f3_12 (Nat.le_of_ble_eq_true rfl) rfl rfl
theorem r_180_14 (l0 l1 l2 l3 l4 l5 : Value) (a : Int32) (st : List Value) (ws : ai_W) : ai_Run 180 14 [l0, l1, l2, l3, l4, l5, .int a] st ws = ai_Run 180 16 [l0, l1, l2, l3, l4, l5, .int a] (.int a :: st) ws := R_iload hc_180 dJ6_getChars_ba4f3_14 rfl rfl
theorem r_180_16 (ls st : List Value) (a : Int32) (ws : ai_W) : ai_Run 180 16 ls (.int a :: st) ws = if a = 0 then ai_Run 180 19 ls st ws else ai_Run 180 22 ls st ws := R_if_ne hc_180 dJ6_getChars_ba4f3_16 rfl rfl
theorem r_180_19 (l1 l2 l3 l4 l5 l6 : Value) (a : Int32) (st : List Value) (ws : ai_W) : ai_Run 180 19 [.int a, l1, l2, l3, l4, l5, l6] st ws = ai_Run 180 20 [.int a, l1, l2, l3, l4, l5, l6] (.int a :: st) ws := R_iload_n hc_180 dJ6_getChars_ba4f3_19 rfl rfl
theorem r_180_20 (ls st : List Value) (a : Int32) (ws : ai_W) : ai_Run 180 20 ls (.int a :: st) ws = ai_Run 180 21 ls (.int (-a) :: st) ws := R_ineg hc_180 dJ6_getChars_ba4f3_20 rfl
theorem r_180_21 (l0 l1 l2 l3 l4 l5 l6 : Value) (a : Int32) (st : List Value) (ws : ai_W) : ai_Run 180 21 [l0, l1, l2, l3, l4, l5, l6] (.int a :: st) ws = ai_Run 180 22 [.int a, l1, l2, l3, l4, l5, l6] st ws := R_istore_n hc_180 dJ6_getChars_ba4f3_21 (Nat.le_of_ble_eq_true rfl) rfl rfl
theorem r_180_22 (l1 l2 l3 l4 l5 l6 : Value) (a : Int32) (st : List Value) (ws : ai_W) : ai_Run 180 22 [.int a, l1, l2, l3, l4, l5, l6] st ws = ai_Run 180 23 [.int a, l1, l2, l3, l4, l5, l6] (.int a :: st) ws := R_iload_n hc_180 dJ6_getChars_ba4f3_22 rfl rfl
theorem r_180_23 (ls st : List Value) (ws : ai_W) : ai_Run 180 23 ls st ws = ai_Run 180 25 ls (.int (-100) :: st) ws := R_bipush hc_180 dJ6_getChars_ba4f3_23 (by decide) rfl
theorem r_180_25 (ls st : List Value) (a b : Int32) (ws : ai_W) : ai_Run 180 25 ls (.int b :: .int a :: st) ws = if b < a then ai_Run 180 72 ls st ws else ai_Run 180 28 ls st ws := R_cmp_gt hc_180 dJ6_getChars_ba4f3_25 rfl rfl
theorem r_180_28 (l1 l2 l3 l4 l5 l6 : Value) (a : Int32) (st : List Value) (ws : ai_W) : ai_Run 180 28 [.int a, l1, l2, l3, l4, l5, l6] st ws = ai_Run 180 29 [.int a, l1, l2, l3, l4, l5, l6] (.int a :: st) ws := R_iload_n hc_180 dJ6_getChars_ba4f3_28 rfl rfl
theorem r_180_29 (ls st : List Value) (ws : ai_W) : ai_Run 180 29 ls st ws = ai_Run 180 31 ls (.int 100 :: st) ws := R_bipush hc_180 dJ6_getChars_ba4f3_29 (by decide) rfl
theorem r_180_31 (ls st : List Value) (a : Int32) (ws : ai_W) : ai_Run 180 31 ls (.int 100 :: .int a :: st) ws = ai_Run 180 32 ls (.int (a / 100) :: st) ws := R_idiv hc_180 dJ6_getChars_ba4f3_31 (by decide) rfl
theorem r_180_32 (l0 l1 l2 l3 l4 l5 l6 : Value) (a : Int32) (st : List Value) (ws : ai_W) : ai_Run 180 32 [l0, l1, l2, l3, l4, l5, l6] (.int a :: st) ws = ai_Run 180 33 [l0, l1, l2, .int a, l4, l5, l6] st ws := R_istore_n hc_180 dJ6_getChars_ba4f3_32 (Nat.le_of_ble_eq_true rfl) rfl rfl
theorem r_180_33 (l0 l1 l2 l4 l5 l6 : Value) (a : Int32) (st : List Value) (ws : ai_W) : ai_Run 180 33 [l0, l1, l2, .int a, l4, l5, l6] st ws = ai_Run 180 34 [l0, l1, l2, .int a, l4, l5, l6] (.int a :: st) ws := R_iload_n hc_180 dJ6_getChars_ba4f3_33 rfl rfl
theorem r_180_34 (ls st : List Value) (ws : ai_W) : ai_Run 180 34 ls st ws = ai_Run 180 36 ls (.int 100 :: st) ws := R_bipush hc_180 dJ6_getChars_ba4f3_34 (by decide) rfl
theorem r_180_36 (ls st : List Value) (a b : Int32) (ws : ai_W) : ai_Run 180 36 ls (.int b :: .int a :: st) ws = ai_Run 180 37 ls (.int (a * b) :: st) ws := R_imul hc_180 dJ6_getChars_ba4f3_36 rfl
theorem r_180_37 (l1 l2 l3 l4 l5 l6 : Value) (a : Int32) (st : List Value) (ws : ai_W) : ai_Run 180 37 [.int a, l1, l2, l3, l4, l5, l6] st ws = ai_Run 180 38 [.int a, l1, l2, l3, l4, l5, l6] (.int a :: st) ws := R_iload_n hc_180 dJ6_getChars_ba4f3_37 rfl rfl
theorem r_180_38 (ls st : List Value) (a b : Int32) (ws : ai_W) : ai_Run 180 38 ls (.int b :: .int a :: st) ws = ai_Run 180 39 ls (.int (a - b) :: st) ws := R_isub hc_180 dJ6_getChars_ba4f3_38 rfl
theorem r_180_39 (l0 l1 l2 l3 l4 l5 l6 : Value) (a : Int32) (st : List Value) (ws : ai_W) : ai_Run 180 39 [l0, l1, l2, l3, l4, l5, l6] (.int a :: st) ws = ai_Run 180 41 [l0, l1, l2, l3, .int a, l5, l6] st ws := R_istore hc_180 dJ6_getChars_ba4f3_39 (Nat.le_of_ble_eq_true rfl) rfl rfl
theorem r_180_41 (l0 l1 l2 l4 l5 l6 : Value) (a : Int32) (st : List Value) (ws : ai_W) : ai_Run 180 41 [l0, l1, l2, .int a, l4, l5, l6] st ws = ai_Run 180 42 [l0, l1, l2, .int a, l4, l5, l6] (.int a :: st) ws := R_iload_n hc_180 dJ6_getChars_ba4f3_41 rfl rfl
theorem r_180_42 (l0 l1 l2 l3 l4 l5 l6 : Value) (a : Int32) (st : List Value) (ws : ai_W) : ai_Run 180 42 [l0, l1, l2, l3, l4, l5, l6] (.int a :: st) ws = ai_Run 180 43 [.int a, l1, l2, l3, l4, l5, l6] st ws := R_istore_n hc_180 dJ6_getChars_ba4f3_42 (Nat.le_of_ble_eq_true rfl) rfl rfl
theorem r_180_43 (l0 l1 l3 l4 l5 l6 : Value) (a : Nat) (st : List Value) (ws : ai_W) : ai_Run 180 43 [l0, l1, .ref a, l3, l4, l5, l6] st ws = ai_Run 180 44 [l0, l1, .ref a, l3, l4, l5, l6] (.ref a :: st) ws := R_aload_n hc_180 dJ6_getChars_ba4f3_43 rfl rfl
theorem rx_180_43 (l0 l1 l3 l4 l5 l6 : Value) {a : Nat} (hq : ¬ a = 23) (st : List Value) (ws : ai_W) : ai_Run 180 43 [l0, l1, .retAddr a, l3, l4, l5, l6] st ws = ai_Run 180 44 [l0, l1, .retAddr a, l3, l4, l5, l6] (.retAddr a :: st) ws := R_aload_nX hq hc_180 dJ6_getChars_ba4f3_43 rfl rfl
theorem r_180_44 (l0 l1 l2 l3 l4 l6 : Value) (a : Int32) (st : List Value) (ws : ai_W) : ai_Run 180 44 [l0, l1, l2, l3, l4, .int a, l6] st ws = ai_Run 180 47 [l0, l1, l2, l3, l4, .int (a + (-1)), l6] st ws := R_iinc hc_180 dJ6_getChars_ba4f3_44 rfl (by decide) rfl rfl
theorem r_180_47 (l0 l1 l2 l3 l4 l6 : Value) (a : Int32) (st : List Value) (ws : ai_W) : ai_Run 180 47 [l0, l1, l2, l3, l4, .int a, l6] st ws = ai_Run 180 49 [l0, l1, l2, l3, l4, .int a, l6] (.int a :: st) ws := R_iload hc_180 dJ6_getChars_ba4f3_47 rfl rfl
theorem r_180_49 (ls st : List Value) (ws : ai_W) : ai_Run 180 49 ls st ws = ai_Run 180 52 ls (.retAddr 21 :: st) ws := R_gets hc_180 dJ6_getChars_ba4f3_49 (q := 1) (w := 915) rfl (Or.inr (Or.inl ⟨rfl, rfl⟩)) rfl
theorem r_180_52 (l0 l1 l2 l3 l5 l6 : Value) (a : Int32) (st : List Value) (ws : ai_W) : ai_Run 180 52 [l0, l1, l2, l3, .int a, l5, l6] st ws = ai_Run 180 54 [l0, l1, l2, l3, .int a, l5, l6] (.int a :: st) ws := R_iload hc_180 dJ6_getChars_ba4f3_52 rfl rfl
theorem r_180_54 (ls st : List Value) (a : Nat) (i : Int32) (ws : ai_W) : ai_Run 180 54 ls (.int i :: .ref a :: st) ws = (ai_bget ws a i).bind fun q => ai_Run 180 55 ls (.int q :: st) ws := R_baload hc_180 dJ6_getChars_ba4f3_54 rfl
theorem rx_180_54 (ls st : List Value) (a : Nat) (i : Int32) (ws : ai_W) : ai_Run 180 54 ls (.int i :: .retAddr a :: st) ws = (ai_xbget a i).bind fun q => ai_Run 180 55 ls (.int q :: st) ws := R_baloadX hc_180 dJ6_getChars_ba4f3_54 rfl
theorem r_180_55 (ls st : List Value) (a : Nat) (i x : Int32) (ws : ai_W) : ai_Run 180 55 ls (.int x :: .int i :: .ref a :: st) ws = (ai_bset ws a i x).bind fun ws => ai_Run 180 56 ls st ws := R_bastore hc_180 dJ6_getChars_ba4f3_55 rfl
theorem r_180_56 (l0 l1 l3 l4 l5 l6 : Value) (a : Nat) (st : List Value) (ws : ai_W) : ai_Run 180 56 [l0, l1, .ref a, l3, l4, l5, l6] st ws = ai_Run 180 57 [l0, l1, .ref a, l3, l4, l5, l6] (.ref a :: st) ws := R_aload_n hc_180 dJ6_getChars_ba4f3_56 rfl rfl
theorem rx_180_56 (l0 l1 l3 l4 l5 l6 : Value) {a : Nat} (hq : ¬ a = 23) (st : List Value) (ws : ai_W) : ai_Run 180 56 [l0, l1, .retAddr a, l3, l4, l5, l6] st ws = ai_Run 180 57 [l0, l1, .retAddr a, l3, l4, l5, l6] (.retAddr a :: st) ws := R_aload_nX hq hc_180 dJ6_getChars_ba4f3_56 rfl rfl
theorem r_180_57 (l0 l1 l2 l3 l4 l6 : Value) (a : Int32) (st : List Value) (ws : ai_W) : ai_Run 180 57 [l0, l1, l2, l3, l4, .int a, l6] st ws = ai_Run 180 60 [l0, l1, l2, l3, l4, .int (a + (-1)), l6] st ws := R_iinc hc_180 dJ6_getChars_ba4f3_57 rfl (by decide) rfl rfl
theorem r_180_60 (l0 l1 l2 l3 l4 l6 : Value) (a : Int32) (st : List Value) (ws : ai_W) : ai_Run 180 60 [l0, l1, l2, l3, l4, .int a, l6] st ws = ai_Run 180 62 [l0, l1, l2, l3, l4, .int a, l6] (.int a :: st) ws := R_iload hc_180 dJ6_getChars_ba4f3_60 rfl rfl
theorem r_180_62 (ls st : List Value) (ws : ai_W) : ai_Run 180 62 ls st ws = ai_Run 180 65 ls (.retAddr 22 :: st) ws := R_gets hc_180 dJ6_getChars_ba4f3_62 (q := 2) (w := 917) rfl (Or.inr (Or.inr (Or.inl ⟨rfl, rfl⟩))) rfl
theorem r_180_65 (l0 l1 l2 l3 l5 l6 : Value) (a : Int32) (st : List Value) (ws : ai_W) : ai_Run 180 65 [l0, l1, l2, l3, .int a, l5, l6] st ws = ai_Run 180 67 [l0, l1, l2, l3, .int a, l5, l6] (.int a :: st) ws := R_iload hc_180 dJ6_getChars_ba4f3_65 rfl rfl
theorem r_180_67 (ls st : List Value) (a : Nat) (i : Int32) (ws : ai_W) : ai_Run 180 67 ls (.int i :: .ref a :: st) ws = (ai_bget ws a i).bind fun q => ai_Run 180 68 ls (.int q :: st) ws := R_baload hc_180 dJ6_getChars_ba4f3_67 rfl
theorem rx_180_67 (ls st : List Value) (a : Nat) (i : Int32) (ws : ai_W) : ai_Run 180 67 ls (.int i :: .retAddr a :: st) ws = (ai_xbget a i).bind fun q => ai_Run 180 68 ls (.int q :: st) ws := R_baloadX hc_180 dJ6_getChars_ba4f3_67 rfl
theorem r_180_68 (ls st : List Value) (a : Nat) (i x : Int32) (ws : ai_W) : ai_Run 180 68 ls (.int x :: .int i :: .ref a :: st) ws = (ai_bset ws a i x).bind fun ws => ai_Run 180 69 ls st ws := R_bastore hc_180 dJ6_getChars_ba4f3_68 rfl
theorem r_180_69 (ls st : List Value) (ws : ai_W) : ai_Run 180 69 ls st ws = ai_Run 180 22 ls st ws := R_goto hc_180 dJ6_getChars_ba4f3_69 rfl
theorem r_180_72 (l0 l1 l3 l4 l5 l6 : Value) (a : Nat) (st : List Value) (ws : ai_W) : ai_Run 180 72 [l0, l1, .ref a, l3, l4, l5, l6] st ws = ai_Run 180 73 [l0, l1, .ref a, l3, l4, l5, l6] (.ref a :: st) ws := R_aload_n hc_180 dJ6_getChars_ba4f3_72 rfl rfl
theorem rx_180_72 (l0 l1 l3 l4 l5 l6 : Value) {a : Nat} (hq : ¬ a = 23) (st : List Value) (ws : ai_W) : ai_Run 180 72 [l0, l1, .retAddr a, l3, l4, l5, l6] st ws = ai_Run 180 73 [l0, l1, .retAddr a, l3, l4, l5, l6] (.retAddr a :: st) ws := R_aload_nX hq hc_180 dJ6_getChars_ba4f3_72 rfl rfl
theorem r_180_73 (l0 l1 l2 l3 l4 l6 : Value) (a : Int32) (st : List Value) (ws : ai_W) : ai_Run 180 73 [l0, l1, l2, l3, l4, .int a, l6] st ws = ai_Run 180 76 [l0, l1, l2, l3, l4, .int (a + (-1)), l6] st ws := R_iinc hc_180 dJ6_getChars_ba4f3_73 rfl (by decide) rfl rfl
theorem r_180_76 (l0 l1 l2 l3 l4 l6 : Value) (a : Int32) (st : List Value) (ws : ai_W) : ai_Run 180 76 [l0, l1, l2, l3, l4, .int a, l6] st ws = ai_Run 180 78 [l0, l1, l2, l3, l4, .int a, l6] (.int a :: st) ws := R_iload hc_180 dJ6_getChars_ba4f3_76 rfl rfl
theorem r_180_78 (ls st : List Value) (ws : ai_W) : ai_Run 180 78 ls st ws = ai_Run 180 81 ls (.retAddr 21 :: st) ws := R_gets hc_180 dJ6_getChars_ba4f3_78 (q := 1) (w := 915) rfl (Or.inr (Or.inl ⟨rfl, rfl⟩)) rfl
theorem r_180_81 (l1 l2 l3 l4 l5 l6 : Value) (a : Int32) (st : List Value) (ws : ai_W) : ai_Run 180 81 [.int a, l1, l2, l3, l4, l5, l6] st ws = ai_Run 180 82 [.int a, l1, l2, l3, l4, l5, l6] (.int a :: st) ws := R_iload_n hc_180 dJ6_getChars_ba4f3_81 rfl rfl
theorem r_180_82 (ls st : List Value) (a : Int32) (ws : ai_W) : ai_Run 180 82 ls (.int a :: st) ws = ai_Run 180 83 ls (.int (-a) :: st) ws := R_ineg hc_180 dJ6_getChars_ba4f3_82 rfl
theorem r_180_83 (ls st : List Value) (a : Nat) (i : Int32) (ws : ai_W) : ai_Run 180 83 ls (.int i :: .ref a :: st) ws = (ai_bget ws a i).bind fun q => ai_Run 180 84 ls (.int q :: st) ws := R_baload hc_180 dJ6_getChars_ba4f3_83 rfl
theorem rx_180_83 (ls st : List Value) (a : Nat) (i : Int32) (ws : ai_W) : ai_Run 180 83 ls (.int i :: .retAddr a :: st) ws = (ai_xbget a i).bind fun q => ai_Run 180 84 ls (.int q :: st) ws := R_baloadX hc_180 dJ6_getChars_ba4f3_83 rfl
theorem r_180_84 (ls st : List Value) (a : Nat) (i x : Int32) (ws : ai_W) : ai_Run 180 84 ls (.int x :: .int i :: .ref a :: st) ws = (ai_bset ws a i x).bind fun ws => ai_Run 180 85 ls st ws := R_bastore hc_180 dJ6_getChars_ba4f3_84 rfl
theorem r_180_85 (l1 l2 l3 l4 l5 l6 : Value) (a : Int32) (st : List Value) (ws : ai_W) : ai_Run 180 85 [.int a, l1, l2, l3, l4, l5, l6] st ws = ai_Run 180 86 [.int a, l1, l2, l3, l4, l5, l6] (.int a :: st) ws := R_iload_n hc_180 dJ6_getChars_ba4f3_85 rfl rfl
theorem r_180_86 (ls st : List Value) (ws : ai_W) : ai_Run 180 86 ls st ws = ai_Run 180 88 ls (.int (-9) :: st) ws := R_bipush hc_180 dJ6_getChars_ba4f3_86 (by decide) rfl
theorem r_180_88 (ls st : List Value) (a b : Int32) (ws : ai_W) : ai_Run 180 88 ls (.int b :: .int a :: st) ws = if a < b then ai_Run 180 91 ls st ws else ai_Run 180 104 ls st ws := R_cmp_ge hc_180 dJ6_getChars_ba4f3_88 rfl rfl
theorem r_180_91 (l0 l1 l3 l4 l5 l6 : Value) (a : Nat) (st : List Value) (ws : ai_W) : ai_Run 180 91 [l0, l1, .ref a, l3, l4, l5, l6] st ws = ai_Run 180 92 [l0, l1, .ref a, l3, l4, l5, l6] (.ref a :: st) ws := R_aload_n hc_180 dJ6_getChars_ba4f3_91 rfl rfl
theorem rx_180_91 (l0 l1 l3 l4 l5 l6 : Value) {a : Nat} (hq : ¬ a = 23) (st : List Value) (ws : ai_W) : ai_Run 180 91 [l0, l1, .retAddr a, l3, l4, l5, l6] st ws = ai_Run 180 92 [l0, l1, .retAddr a, l3, l4, l5, l6] (.retAddr a :: st) ws := R_aload_nX hq hc_180 dJ6_getChars_ba4f3_91 rfl rfl
theorem r_180_92 (l0 l1 l2 l3 l4 l6 : Value) (a : Int32) (st : List Value) (ws : ai_W) : ai_Run 180 92 [l0, l1, l2, l3, l4, .int a, l6] st ws = ai_Run 180 95 [l0, l1, l2, l3, l4, .int (a + (-1)), l6] st ws := R_iinc hc_180 dJ6_getChars_ba4f3_92 rfl (by decide) rfl rfl
theorem r_180_95 (l0 l1 l2 l3 l4 l6 : Value) (a : Int32) (st : List Value) (ws : ai_W) : ai_Run 180 95 [l0, l1, l2, l3, l4, .int a, l6] st ws = ai_Run 180 97 [l0, l1, l2, l3, l4, .int a, l6] (.int a :: st) ws := R_iload hc_180 dJ6_getChars_ba4f3_95 rfl rfl
theorem r_180_97 (ls st : List Value) (ws : ai_W) : ai_Run 180 97 ls st ws = ai_Run 180 100 ls (.retAddr 22 :: st) ws := R_gets hc_180 dJ6_getChars_ba4f3_97 (q := 2) (w := 917) rfl (Or.inr (Or.inr (Or.inl ⟨rfl, rfl⟩))) rfl
theorem r_180_100 (l1 l2 l3 l4 l5 l6 : Value) (a : Int32) (st : List Value) (ws : ai_W) : ai_Run 180 100 [.int a, l1, l2, l3, l4, l5, l6] st ws = ai_Run 180 101 [.int a, l1, l2, l3, l4, l5, l6] (.int a :: st) ws := R_iload_n hc_180 dJ6_getChars_ba4f3_100 rfl rfl
theorem r_180_101 (ls st : List Value) (a : Int32) (ws : ai_W) : ai_Run 180 101 ls (.int a :: st) ws = ai_Run 180 102 ls (.int (-a) :: st) ws := R_ineg hc_180 dJ6_getChars_ba4f3_101 rfl
theorem r_180_102 (ls st : List Value) (a : Nat) (i : Int32) (ws : ai_W) : ai_Run 180 102 ls (.int i :: .ref a :: st) ws = (ai_bget ws a i).bind fun q => ai_Run 180 103 ls (.int q :: st) ws := R_baload hc_180 dJ6_getChars_ba4f3_102 rfl
theorem rx_180_102 (ls st : List Value) (a : Nat) (i : Int32) (ws : ai_W) : ai_Run 180 102 ls (.int i :: .retAddr a :: st) ws = (ai_xbget a i).bind fun q => ai_Run 180 103 ls (.int q :: st) ws := R_baloadX hc_180 dJ6_getChars_ba4f3_102 rfl
theorem r_180_103 (ls st : List Value) (a : Nat) (i x : Int32) (ws : ai_W) : ai_Run 180 103 ls (.int x :: .int i :: .ref a :: st) ws = (ai_bset ws a i x).bind fun ws => ai_Run 180 104 ls st ws := R_bastore hc_180 dJ6_getChars_ba4f3_103 rfl
theorem r_180_104 (l0 l1 l2 l3 l4 l5 : Value) (a : Int32) (st : List Value) (ws : ai_W) : ai_Run 180 104 [l0, l1, l2, l3, l4, l5, .int a] st ws = ai_Run 180 106 [l0, l1, l2, l3, l4, l5, .int a] (.int a :: st) ws := R_iload hc_180 dJ6_getChars_ba4f3_104 rfl rfl
theorem r_180_106 (ls st : List Value) (a : Int32) (ws : ai_W) : ai_Run 180 106 ls (.int a :: st) ws = if a = 0 then ai_Run 180 118 ls st ws else ai_Run 180 109 ls st ws := R_if_eq hc_180 dJ6_getChars_ba4f3_106 rfl rfl
theorem r_180_109 (l0 l1 l3 l4 l5 l6 : Value) (a : Nat) (st : List Value) (ws : ai_W) : ai_Run 180 109 [l0, l1, .ref a, l3, l4, l5, l6] st ws = ai_Run 180 110 [l0, l1, .ref a, l3, l4, l5, l6] (.ref a :: st) ws := R_aload_n hc_180 dJ6_getChars_ba4f3_109 rfl rfl
theorem rx_180_109 (l0 l1 l3 l4 l5 l6 : Value) {a : Nat} (hq : ¬ a = 23) (st : List Value) (ws : ai_W) : ai_Run 180 109 [l0, l1, .retAddr a, l3, l4, l5, l6] st ws = ai_Run 180 110 [l0, l1, .retAddr a, l3, l4, l5, l6] (.retAddr a :: st) ws := R_aload_nX hq hc_180 dJ6_getChars_ba4f3_109 rfl rfl
theorem r_180_110 (l0 l1 l2 l3 l4 l6 : Value) (a : Int32) (st : List Value) (ws : ai_W) : ai_Run 180 110 [l0, l1, l2, l3, l4, .int a, l6] st ws = ai_Run 180 113 [l0, l1, l2, l3, l4, .int (a + (-1)), l6] st ws := R_iinc hc_180 dJ6_getChars_ba4f3_110 rfl (by decide) rfl rfl
theorem r_180_113 (l0 l1 l2 l3 l4 l6 : Value) (a : Int32) (st : List Value) (ws : ai_W) : ai_Run 180 113 [l0, l1, l2, l3, l4, .int a, l6] st ws = ai_Run 180 115 [l0, l1, l2, l3, l4, .int a, l6] (.int a :: st) ws := R_iload hc_180 dJ6_getChars_ba4f3_113 rfl rfl
theorem r_180_115 (ls st : List Value) (ws : ai_W) : ai_Run 180 115 ls st ws = ai_Run 180 117 ls (.int 45 :: st) ws := R_bipush hc_180 dJ6_getChars_ba4f3_115 (by decide) rfl
theorem r_180_117 (ls st : List Value) (a : Nat) (i x : Int32) (ws : ai_W) : ai_Run 180 117 ls (.int x :: .int i :: .ref a :: st) ws = (ai_bset ws a i x).bind fun ws => ai_Run 180 118 ls st ws := R_bastore hc_180 dJ6_getChars_ba4f3_117 rfl
theorem r_180_118 (l0 l1 l2 l3 l4 l6 : Value) (a : Int32) (st : List Value) (ws : ai_W) : ai_Run 180 118 [l0, l1, l2, l3, l4, .int a, l6] st ws = ai_Run 180 120 [l0, l1, l2, l3, l4, .int a, l6] (.int a :: st) ws := R_iload hc_180 dJ6_getChars_ba4f3_118 rfl rfl
theorem r_180_120 (ls : List Value) (x : Int32) (ws : ai_W) : ai_Run 180 120 ls [.int x] ws = some (some (.int x), ws) := R_iret hc_180 dJ6_getChars_ba4f3_120 ht_180
theorem dJ5_append_c97b9_0 : decode cJ5_append_c97b9 0 = .ok (.aload_n 0, 1) := by decide +kernel
theorem dJ5_append_c97b9_1 : decode cJ5_append_c97b9 1 = .ok (.getfield 79, 3) := by decide +kernel
theorem dJ5_append_c97b9_4 : decode cJ5_append_c97b9 4 = .ok (.istore_n 2, 1) := by decide +kernel
theorem dJ5_append_c97b9_5 : decode cJ5_append_c97b9 5 = .ok (.iload_n 2, 1) := by decide +kernel
theorem dJ5_append_c97b9_6 : decode cJ5_append_c97b9 6 = .ok (.iload_n 1, 1) := by decide +kernel
theorem dJ5_append_c97b9_7 : decode cJ5_append_c97b9 7 = .ok (.invokestatic 245, 3) := by decide +kernel
theorem dJ5_append_c97b9_10 : decode cJ5_append_c97b9 10 = .ok (.iadd, 1) := by decide +kernel
theorem dJ5_append_c97b9_11 : decode cJ5_append_c97b9 11 = .ok (.istore_n 3, 1) := by decide +kernel
theorem dJ5_append_c97b9_12 : decode cJ5_append_c97b9 12 = .ok (.aload_n 0, 1) := by decide +kernel
theorem dJ5_append_c97b9_13 : decode cJ5_append_c97b9 13 = .ok (.iload_n 3, 1) := by decide +kernel
theorem dJ5_append_c97b9_14 : decode cJ5_append_c97b9 14 = .ok (.invokevirtual 100, 3) := by decide +kernel
theorem dJ5_append_c97b9_17 : decode cJ5_append_c97b9 17 = .ok (.aload_n 0, 1) := by decide +kernel
theorem dJ5_append_c97b9_18 : decode cJ5_append_c97b9 18 = .ok (.invokevirtual 83, 3) := by decide +kernel
theorem dJ5_append_c97b9_21 : decode cJ5_append_c97b9 21 = .ok (.ifCond .eq 16, 3) := by decide +kernel
theorem dJ5_append_c97b9_24 : decode cJ5_append_c97b9 24 = .ok (.iload_n 1, 1) := by decide +kernel
theorem dJ5_append_c97b9_25 : decode cJ5_append_c97b9 25 = .ok (.iload_n 3, 1) := by decide +kernel
theorem dJ5_append_c97b9_26 : decode cJ5_append_c97b9 26 = .ok (.aload_n 0, 1) := by decide +kernel
theorem dJ5_append_c97b9_27 : decode cJ5_append_c97b9 27 = .ok (.getfield 15, 3) := by decide +kernel
theorem dJ5_append_c97b9_30 : decode cJ5_append_c97b9 30 = .ok (.invokestatic 248, 3) := by decide +kernel
theorem dJ5_append_c97b9_33 : decode cJ5_append_c97b9 33 = .ok (.pop, 1) := by decide +kernel
theorem dJ5_append_c97b9_34 : decode cJ5_append_c97b9 34 = .ok (.goto 14, 3) := by decide +kernel
theorem dJ5_append_c97b9_37 : decode cJ5_append_c97b9 37 = .ok (.iload_n 1, 1) := by decide +kernel
theorem dJ5_append_c97b9_38 : decode cJ5_append_c97b9 38 = .ok (.iload_n 2, 1) := by decide +kernel
theorem dJ5_append_c97b9_39 : decode cJ5_append_c97b9 39 = .ok (.iload_n 3, 1) := by decide +kernel
theorem dJ5_append_c97b9_40 : decode cJ5_append_c97b9 40 = .ok (.aload_n 0, 1) := by decide +kernel
theorem dJ5_append_c97b9_41 : decode cJ5_append_c97b9 41 = .ok (.getfield 15, 3) := by decide +kernel
theorem dJ5_append_c97b9_48 : decode cJ5_append_c97b9 48 = .ok (.aload_n 0, 1) := by decide +kernel
theorem dJ5_append_c97b9_49 : decode cJ5_append_c97b9 49 = .ok (.iload_n 3, 1) := by decide +kernel
theorem dJ5_append_c97b9_50 : decode cJ5_append_c97b9 50 = .ok (.putfield 79, 3) := by decide +kernel
theorem dJ5_append_c97b9_53 : decode cJ5_append_c97b9 53 = .ok (.aload_n 0, 1) := by decide +kernel
theorem dJ5_append_c97b9_54 : decode cJ5_append_c97b9 54 = .ok (.areturn, 1) := by decide +kernel
theorem e_181 (r : Nat) (a0 : Int32) (ws : ai_W) : ai_Call 181 [.ref r, .int a0] ws = if ai_isob ws r 11 = true then ai_Run 181 0 [.ref r, .int a0, .null, .null] [] ws else none := R_entV hk_181 ⟨⟨rfl, rfl⟩, Nat.le_of_ble_eq_true rfl⟩ rfl
theorem r_181_0 (l1 l2 l3 : Value) (a : Nat) (st : List Value) (ws : ai_W) : ai_Run 181 0 [.ref a, l1, l2, l3] st ws = ai_Run 181 1 [.ref a, l1, l2, l3] (.ref a :: st) ws := R_aload_n hc_181 dJ5_append_c97b9_0 rfl rfl
theorem rx_181_0 (l1 l2 l3 : Value) {a : Nat} (hq : ¬ a = 23) (st : List Value) (ws : ai_W) : ai_Run 181 0 [.retAddr a, l1, l2, l3] st ws = ai_Run 181 1 [.retAddr a, l1, l2, l3] (.retAddr a :: st) ws := R_aload_nX hq hc_181 dJ5_append_c97b9_0 rfl rfl
theorem r_181_1 (ls st : List Value) (a : Nat) (ws : ai_W) : ai_Run 181 1 ls (.ref a :: st) ws = (ai_fget ws a 11 3).bind fun q => ai_Run 181 4 ls (q :: st) ws := R_getf hc_181 dJ5_append_c97b9_1 hv_181 (w := 776) rfl rfl
theorem r_181_4 (l0 l1 l2 l3 : Value) (a : Int32) (st : List Value) (ws : ai_W) : ai_Run 181 4 [l0, l1, l2, l3] (.int a :: st) ws = ai_Run 181 5 [l0, l1, .int a, l3] st ws := R_istore_n hc_181 dJ5_append_c97b9_4 (Nat.le_of_ble_eq_true rfl) rfl rfl
theorem r_181_5 (l0 l1 l3 : Value) (a : Int32) (st : List Value) (ws : ai_W) : ai_Run 181 5 [l0, l1, .int a, l3] st ws = ai_Run 181 6 [l0, l1, .int a, l3] (.int a :: st) ws := R_iload_n hc_181 dJ5_append_c97b9_5 rfl rfl
theorem r_181_6 (l0 l2 l3 : Value) (a : Int32) (st : List Value) (ws : ai_W) : ai_Run 181 6 [l0, .int a, l2, l3] st ws = ai_Run 181 7 [l0, .int a, l2, l3] (.int a :: st) ws := R_iload_n hc_181 dJ5_append_c97b9_6 rfl rfl
theorem r_181_7 (ls : List Value) (b0 : Int32) (s0 : Value) (ws : ai_W) : ai_Run 181 7 ls [.int b0, s0] ws = (ai_Call 178 [.int b0] ws).bind fun q => ai_Run 181 10 ls (q.1.toList ++ [s0]) q.2 := R_callS hc_181 dJ5_append_c97b9_7 hv_181 (w := 909) rfl (ai_lt3 hf_178 hf_181 hL_178 ho_178 ho_181 rfl) hk_178 (by rw [hn_178]; rfl) rfl (Nat.le_of_ble_eq_true rfl) rfl
theorem r_181_10 (ls st : List Value) (a b : Int32) (ws : ai_W) : ai_Run 181 10 ls (.int b :: .int a :: st) ws = ai_Run 181 11 ls (.int (a + b) :: st) ws := R_iadd hc_181 dJ5_append_c97b9_10 rfl
theorem r_181_11 (l0 l1 l2 l3 : Value) (a : Int32) (st : List Value) (ws : ai_W) : ai_Run 181 11 [l0, l1, l2, l3] (.int a :: st) ws = ai_Run 181 12 [l0, l1, l2, .int a] st ws := R_istore_n hc_181 dJ5_append_c97b9_11 (Nat.le_of_ble_eq_true rfl) rfl rfl
theorem r_181_12 (l1 l2 l3 : Value) (a : Nat) (st : List Value) (ws : ai_W) : ai_Run 181 12 [.ref a, l1, l2, l3] st ws = ai_Run 181 13 [.ref a, l1, l2, l3] (.ref a :: st) ws := R_aload_n hc_181 dJ5_append_c97b9_12 rfl rfl
theorem rx_181_12 (l1 l2 l3 : Value) {a : Nat} (hq : ¬ a = 23) (st : List Value) (ws : ai_W) : ai_Run 181 12 [.retAddr a, l1, l2, l3] st ws = ai_Run 181 13 [.retAddr a, l1, l2, l3] (.retAddr a :: st) ws := R_aload_nX hq hc_181 dJ5_append_c97b9_12 rfl rfl
theorem r_181_13 (l0 l1 l2 : Value) (a : Int32) (st : List Value) (ws : ai_W) : ai_Run 181 13 [l0, l1, l2, .int a] st ws = ai_Run 181 14 [l0, l1, l2, .int a] (.int a :: st) ws := R_iload_n hc_181 dJ5_append_c97b9_13 rfl rfl
theorem r_181_14 (ls : List Value) (r : Value) (b0 : Int32) (ws : ai_W) : ai_Run 181 14 ls [.int b0, r] ws = (ai_Call 172 [r, .int b0] ws).bind fun q => ai_Run 181 17 ls (q.1.toList ++ []) q.2 := R_callU hc_181 dJ5_append_c97b9_14 hv_181 (w := 4) rfl (ai_lt3 hf_172 hf_181 hL_172 ho_172 ho_181 rfl) hk_172 (by rw [hn_172]; rfl) rfl (Nat.le_of_ble_eq_true rfl) rfl
theorem r_181_17 (l1 l2 l3 : Value) (a : Nat) (st : List Value) (ws : ai_W) : ai_Run 181 17 [.ref a, l1, l2, l3] st ws = ai_Run 181 18 [.ref a, l1, l2, l3] (.ref a :: st) ws := R_aload_n hc_181 dJ5_append_c97b9_17 rfl rfl
theorem rx_181_17 (l1 l2 l3 : Value) {a : Nat} (hq : ¬ a = 23) (st : List Value) (ws : ai_W) : ai_Run 181 17 [.retAddr a, l1, l2, l3] st ws = ai_Run 181 18 [.retAddr a, l1, l2, l3] (.retAddr a :: st) ws := R_aload_nX hq hc_181 dJ5_append_c97b9_17 rfl rfl
theorem r_181_18 (ls : List Value) (r : Value) (ws : ai_W) : ai_Run 181 18 ls [r] ws = (ai_Call 179 [r] ws).bind fun q => ai_Run 181 21 ls (q.1.toList ++ []) q.2 := R_callU hc_181 dJ5_append_c97b9_18 hv_181 (w := 3) rfl (ai_lt3 hf_179 hf_181 hL_179 ho_179 ho_181 rfl) hk_179 (by rw [hn_179]; rfl) rfl (Nat.le_of_ble_eq_true rfl) rfl
theorem r_181_21 (ls st : List Value) (a : Int32) (ws : ai_W) : ai_Run 181 21 ls (.int a :: st) ws = if a = 0 then ai_Run 181 37 ls st ws else ai_Run 181 24 ls st ws := R_if_eq hc_181 dJ5_append_c97b9_21 rfl rfl
theorem r_181_24 (l0 l2 l3 : Value) (a : Int32) (st : List Value) (ws : ai_W) : ai_Run 181 24 [l0, .int a, l2, l3] st ws = ai_Run 181 25 [l0, .int a, l2, l3] (.int a :: st) ws := R_iload_n hc_181 dJ5_append_c97b9_24 rfl rfl
theorem r_181_25 (l0 l1 l2 : Value) (a : Int32) (st : List Value) (ws : ai_W) : ai_Run 181 25 [l0, l1, l2, .int a] st ws = ai_Run 181 26 [l0, l1, l2, .int a] (.int a :: st) ws := R_iload_n hc_181 dJ5_append_c97b9_25 rfl rfl
theorem r_181_26 (l1 l2 l3 : Value) (a : Nat) (st : List Value) (ws : ai_W) : ai_Run 181 26 [.ref a, l1, l2, l3] st ws = ai_Run 181 27 [.ref a, l1, l2, l3] (.ref a :: st) ws := R_aload_n hc_181 dJ5_append_c97b9_26 rfl rfl
theorem rx_181_26 (l1 l2 l3 : Value) {a : Nat} (hq : ¬ a = 23) (st : List Value) (ws : ai_W) : ai_Run 181 26 [.retAddr a, l1, l2, l3] st ws = ai_Run 181 27 [.retAddr a, l1, l2, l3] (.retAddr a :: st) ws := R_aload_nX hq hc_181 dJ5_append_c97b9_26 rfl rfl
theorem r_181_27 (ls st : List Value) (a : Nat) (ws : ai_W) : ai_Run 181 27 ls (.ref a :: st) ws = (ai_fget ws a 11 0).bind fun q => ai_Run 181 30 ls (q :: st) ws := R_getf hc_181 dJ5_append_c97b9_27 hv_181 (w := 773) rfl rfl
theorem r_181_30 (ls : List Value) (b0 : Int32) (b1 : Int32) (b2 : Value) (ws : ai_W) : ai_Run 181 30 ls [b2, .int b1, .int b0] ws = (ai_Call 180 [.int b0, .int b1, b2] ws).bind fun q => ai_Run 181 33 ls (q.1.toList ++ []) q.2 := R_callS hc_181 dJ5_append_c97b9_30 hv_181 (w := 912) rfl (ai_lt3 hf_180 hf_181 hL_180 ho_180 ho_181 rfl) hk_180 (by rw [hn_180]; rfl) rfl (Nat.le_of_ble_eq_true rfl) rfl
theorem r_181_33 (ls st : List Value) (a : Int32) (ws : ai_W) : ai_Run 181 33 ls (.int a :: st) ws = ai_Run 181 34 ls st ws := R_pop hc_181 dJ5_append_c97b9_33 rfl
theorem r_181_34 (ls st : List Value) (ws : ai_W) : ai_Run 181 34 ls st ws = ai_Run 181 48 ls st ws := R_goto hc_181 dJ5_append_c97b9_34 rfl
theorem r_181_37 (l0 l2 l3 : Value) (a : Int32) (st : List Value) (ws : ai_W) : ai_Run 181 37 [l0, .int a, l2, l3] st ws = ai_Run 181 38 [l0, .int a, l2, l3] (.int a :: st) ws := R_iload_n hc_181 dJ5_append_c97b9_37 rfl rfl
theorem r_181_38 (l0 l1 l3 : Value) (a : Int32) (st : List Value) (ws : ai_W) : ai_Run 181 38 [l0, l1, .int a, l3] st ws = ai_Run 181 39 [l0, l1, .int a, l3] (.int a :: st) ws := R_iload_n hc_181 dJ5_append_c97b9_38 rfl rfl
theorem r_181_39 (l0 l1 l2 : Value) (a : Int32) (st : List Value) (ws : ai_W) : ai_Run 181 39 [l0, l1, l2, .int a] st ws = ai_Run 181 40 [l0, l1, l2, .int a] (.int a :: st) ws := R_iload_n hc_181 dJ5_append_c97b9_39 rfl rfl
theorem r_181_40 (l1 l2 l3 : Value) (a : Nat) (st : List Value) (ws : ai_W) : ai_Run 181 40 [.ref a, l1, l2, l3] st ws = ai_Run 181 41 [.ref a, l1, l2, l3] (.ref a :: st) ws := R_aload_n hc_181 dJ5_append_c97b9_40 rfl rfl
theorem rx_181_40 (l1 l2 l3 : Value) {a : Nat} (hq : ¬ a = 23) (st : List Value) (ws : ai_W) : ai_Run 181 40 [.retAddr a, l1, l2, l3] st ws = ai_Run 181 41 [.retAddr a, l1, l2, l3] (.retAddr a :: st) ws := R_aload_nX hq hc_181 dJ5_append_c97b9_40 rfl rfl
theorem r_181_41 (ls st : List Value) (a : Nat) (ws : ai_W) : ai_Run 181 41 ls (.ref a :: st) ws = (ai_fget ws a 11 0).bind fun q => ai_Run 181 44 ls (q :: st) ws := R_getf hc_181 dJ5_append_c97b9_41 hv_181 (w := 773) rfl rfl
theorem r_181_48 (l1 l2 l3 : Value) (a : Nat) (st : List Value) (ws : ai_W) : ai_Run 181 48 [.ref a, l1, l2, l3] st ws = ai_Run 181 49 [.ref a, l1, l2, l3] (.ref a :: st) ws := R_aload_n hc_181 dJ5_append_c97b9_48 rfl rfl
theorem rx_181_48 (l1 l2 l3 : Value) {a : Nat} (hq : ¬ a = 23) (st : List Value) (ws : ai_W) : ai_Run 181 48 [.retAddr a, l1, l2, l3] st ws = ai_Run 181 49 [.retAddr a, l1, l2, l3] (.retAddr a :: st) ws := R_aload_nX hq hc_181 dJ5_append_c97b9_48 rfl rfl
theorem r_181_49 (l0 l1 l2 : Value) (a : Int32) (st : List Value) (ws : ai_W) : ai_Run 181 49 [l0, l1, l2, .int a] st ws = ai_Run 181 50 [l0, l1, l2, .int a] (.int a :: st) ws := R_iload_n hc_181 dJ5_append_c97b9_49 rfl rfl
theorem r_181_50 (ls st : List Value) (a : Nat) (x : Value) (ws : ai_W) : ai_Run 181 50 ls (x :: .ref a :: st) ws = (ai_fput ws a 11 3 x).bind fun ws => ai_Run 181 53 ls st ws := R_putf hc_181 dJ5_append_c97b9_50 hv_181 (w := 776) rfl rfl rfl
theorem r_181_53 (l1 l2 l3 : Value) (a : Nat) (st : List Value) (ws : ai_W) : ai_Run 181 53 [.ref a, l1, l2, l3] st ws = ai_Run 181 54 [.ref a, l1, l2, l3] (.ref a :: st) ws := R_aload_n hc_181 dJ5_append_c97b9_53 rfl rfl
theorem rx_181_53 (l1 l2 l3 : Value) {a : Nat} (hq : ¬ a = 23) (st : List Value) (ws : ai_W) : ai_Run 181 53 [.retAddr a, l1, l2, l3] st ws = ai_Run 181 54 [.retAddr a, l1, l2, l3] (.retAddr a :: st) ws := R_aload_nX hq hc_181 dJ5_append_c97b9_53 rfl rfl
theorem r_181_54 (ls : List Value) (a : Nat) (ws : ai_W) : ai_Run 181 54 ls [.ref a] ws = some (some (.ref a), ws) := R_aret hc_181 dJ5_append_c97b9_54 ht_181 rfl
theorem dJ4_append_bf812_0 : decode cJ4_append_bf812 0 = .ok (.aload_n 0, 1) := by decide +kernel
theorem dJ4_append_bf812_1 : decode cJ4_append_bf812 1 = .ok (.iload_n 1, 1) := by decide +kernel
theorem dJ4_append_bf812_2 : decode cJ4_append_bf812 2 = .ok (.invokespecial 53, 3) := by decide +kernel
theorem dJ4_append_bf812_5 : decode cJ4_append_bf812 5 = .ok (.pop, 1) := by decide +kernel
theorem dJ4_append_bf812_6 : decode cJ4_append_bf812 6 = .ok (.aload_n 0, 1) := by decide +kernel
theorem dJ4_append_bf812_7 : decode cJ4_append_bf812 7 = .ok (.areturn, 1) := by decide +kernel
theorem e_182 (r : Nat) (a0 : Int32) (ws : ai_W) : ai_Call 182 [.ref r, .int a0] ws = if ai_isob ws r 11 = true then ai_Run 182 0 [.ref r, .int a0] [] ws else none := R_entV hk_182 ⟨⟨rfl, rfl⟩, Nat.le_of_ble_eq_true rfl⟩ rfl
theorem r_182_0 (l1 : Value) (a : Nat) (st : List Value) (ws : ai_W) : ai_Run 182 0 [.ref a, l1] st ws = ai_Run 182 1 [.ref a, l1] (.ref a :: st) ws := R_aload_n hc_182 dJ4_append_bf812_0 rfl rfl
theorem rx_182_0 (l1 : Value) {a : Nat} (hq : ¬ a = 23) (st : List Value) (ws : ai_W) : ai_Run 182 0 [.retAddr a, l1] st ws = ai_Run 182 1 [.retAddr a, l1] (.retAddr a :: st) ws := R_aload_nX hq hc_182 dJ4_append_bf812_0 rfl rfl
theorem r_182_1 (l0 : Value) (a : Int32) (st : List Value) (ws : ai_W) : ai_Run 182 1 [l0, .int a] st ws = ai_Run 182 2 [l0, .int a] (.int a :: st) ws := R_iload_n hc_182 dJ4_append_bf812_1 rfl rfl
theorem r_182_2 (ls : List Value) (r : Value) (b0 : Int32) (ws : ai_W) : ai_Run 182 2 ls [.int b0, r] ws = (ai_Call 181 [r, .int b0] ws).bind fun q => ai_Run 182 5 ls (q.1.toList ++ []) q.2 := R_callSU hc_182 dJ4_append_bf812_2 hv_182 (w := 1) rfl (ai_lt3 hf_181 hf_182 hL_181 ho_181 ho_182 rfl) hk_181 (by rw [hn_181]; rfl) rfl (Nat.le_of_ble_eq_true rfl) rfl
theorem r_182_5 (ls st : List Value) (a : Nat) (ws : ai_W) : ai_Run 182 5 ls (.ref a :: st) ws = ai_Run 182 6 ls st ws := R_popR hc_182 dJ4_append_bf812_5 rfl
theorem r_182_6 (l1 : Value) (a : Nat) (st : List Value) (ws : ai_W) : ai_Run 182 6 [.ref a, l1] st ws = ai_Run 182 7 [.ref a, l1] (.ref a :: st) ws := R_aload_n hc_182 dJ4_append_bf812_6 rfl rfl
theorem rx_182_6 (l1 : Value) {a : Nat} (hq : ¬ a = 23) (st : List Value) (ws : ai_W) : ai_Run 182 6 [.retAddr a, l1] st ws = ai_Run 182 7 [.retAddr a, l1] (.retAddr a :: st) ws := R_aload_nX hq hc_182 dJ4_append_bf812_6 rfl rfl
theorem r_182_7 (ls : List Value) (a : Nat) (ws : ai_W) : ai_Run 182 7 ls [.ref a] ws = some (some (.ref a), ws) := R_aret hc_182 dJ4_append_bf812_7 ht_182 rfl
theorem dJ5_getValue_6d5f1_0 : decode cJ5_getValue_6d5f1 0 = .ok (.aload_n 0, 1) := by decide +kernel
theorem dJ5_getValue_6d5f1_1 : decode cJ5_getValue_6d5f1 1 = .ok (.getfield 15, 3) := by decide +kernel
theorem dJ5_getValue_6d5f1_4 : decode cJ5_getValue_6d5f1 4 = .ok (.areturn, 1) := by decide +kernel
theorem e_183 (r : Nat)  (ws : ai_W) : ai_Call 183 [.ref r] ws = if ai_isob ws r 11 = true then ai_Run 183 0 [.ref r] [] ws else none := R_entV hk_183 ⟨⟨rfl, rfl⟩, Nat.le_of_ble_eq_true rfl⟩ rfl
theorem r_183_0 (a : Nat) (st : List Value) (ws : ai_W) : ai_Run 183 0 [.ref a] st ws = ai_Run 183 1 [.ref a] (.ref a :: st) ws := R_aload_n hc_183 dJ5_getValue_6d5f1_0 rfl rfl
theorem rx_183_0 {a : Nat} (hq : ¬ a = 23) (st : List Value) (ws : ai_W) : ai_Run 183 0 [.retAddr a] st ws = ai_Run 183 1 [.retAddr a] (.retAddr a :: st) ws := R_aload_nX hq hc_183 dJ5_getValue_6d5f1_0 rfl rfl
theorem r_183_1 (ls st : List Value) (a : Nat) (ws : ai_W) : ai_Run 183 1 ls (.ref a :: st) ws = (ai_fget ws a 11 0).bind fun q => ai_Run 183 4 ls (q :: st) ws := R_getf hc_183 dJ5_getValue_6d5f1_1 hv_183 (w := 773) rfl rfl
theorem r_183_4 (ls : List Value) (a : Nat) (ws : ai_W) : ai_Run 183 4 ls [.ref a] ws = some (some (.ref a), ws) := R_aret hc_183 dJ5_getValue_6d5f1_4 ht_183 rfl
theorem dJ5_length_8abf5_0 : decode cJ5_length_8abf5 0 = .ok (.aload_n 0, 1) := by decide +kernel
theorem dJ5_length_8abf5_1 : decode cJ5_length_8abf5 1 = .ok (.getfield 79, 3) := by decide +kernel
theorem dJ5_length_8abf5_4 : decode cJ5_length_8abf5 4 = .ok (.ireturn, 1) := by decide +kernel
theorem e_184 (r : Nat)  (ws : ai_W) : ai_Call 184 [.ref r] ws = if ai_isob ws r 11 = true then ai_Run 184 0 [.ref r] [] ws else none := R_entV hk_184 ⟨⟨rfl, rfl⟩, Nat.le_of_ble_eq_true rfl⟩ rfl
theorem r_184_0 (a : Nat) (st : List Value) (ws : ai_W) : ai_Run 184 0 [.ref a] st ws = ai_Run 184 1 [.ref a] (.ref a :: st) ws := R_aload_n hc_184 dJ5_length_8abf5_0 rfl rfl
theorem rx_184_0 {a : Nat} (hq : ¬ a = 23) (st : List Value) (ws : ai_W) : ai_Run 184 0 [.retAddr a] st ws = ai_Run 184 1 [.retAddr a] (.retAddr a :: st) ws := R_aload_nX hq hc_184 dJ5_length_8abf5_0 rfl rfl
theorem r_184_1 (ls st : List Value) (a : Nat) (ws : ai_W) : ai_Run 184 1 ls (.ref a :: st) ws = (ai_fget ws a 11 3).bind fun q => ai_Run 184 4 ls (q :: st) ws := R_getf hc_184 dJ5_length_8abf5_1 hv_184 (w := 776) rfl rfl
theorem r_184_4 (ls : List Value) (x : Int32) (ws : ai_W) : ai_Run 184 4 ls [.int x] ws = some (some (.int x), ws) := R_iret hc_184 dJ5_length_8abf5_4 ht_184
theorem dJ4_length_8abf5_0 : decode cJ4_length_8abf5 0 = .ok (.aload_n 0, 1) := by decide +kernel
theorem dJ4_length_8abf5_1 : decode cJ4_length_8abf5 1 = .ok (.invokespecial 343, 3) := by decide +kernel
theorem dJ4_length_8abf5_4 : decode cJ4_length_8abf5 4 = .ok (.ireturn, 1) := by decide +kernel
theorem e_185 (r : Nat)  (ws : ai_W) : ai_Call 185 [.ref r] ws = if ai_isob ws r 11 = true then ai_Run 185 0 [.ref r] [] ws else none := R_entV hk_185 ⟨⟨rfl, rfl⟩, Nat.le_of_ble_eq_true rfl⟩ rfl
theorem r_185_0 (a : Nat) (st : List Value) (ws : ai_W) : ai_Run 185 0 [.ref a] st ws = ai_Run 185 1 [.ref a] (.ref a :: st) ws := R_aload_n hc_185 dJ4_length_8abf5_0 rfl rfl
theorem rx_185_0 {a : Nat} (hq : ¬ a = 23) (st : List Value) (ws : ai_W) : ai_Run 185 0 [.retAddr a] st ws = ai_Run 185 1 [.retAddr a] (.retAddr a :: st) ws := R_aload_nX hq hc_185 dJ4_length_8abf5_0 rfl rfl
theorem r_185_1 (ls : List Value) (r : Value) (ws : ai_W) : ai_Run 185 1 ls [r] ws = (ai_Call 184 [r] ws).bind fun q => ai_Run 185 4 ls (q.1.toList ++ []) q.2 := R_callSU hc_185 dJ4_length_8abf5_1 hv_185 (w := 2) rfl (ai_lt3 hf_184 hf_185 hL_184 ho_184 ho_185 rfl) hk_184 (by rw [hn_184]; rfl) rfl (Nat.le_of_ble_eq_true rfl) rfl
theorem r_185_4 (ls : List Value) (x : Int32) (ws : ai_W) : ai_Run 185 4 ls [.int x] ws = some (some (.int x), ws) := R_iret hc_185 dJ4_length_8abf5_4 ht_185
theorem dJ7_checkLength_df160_0 : decode cJ7_checkLength_df160 0 = .ok (.iload_n 1, 1) := by decide +kernel
theorem dJ7_checkLength_df160_1 : decode cJ7_checkLength_df160 1 = .ok (.iload_n 0, 1) := by decide +kernel
theorem dJ7_checkLength_df160_2 : decode cJ7_checkLength_df160 2 = .ok (.if_icmp .ge 35, 3) := by decide +kernel
theorem dJ7_checkLength_df160_37 : decode cJ7_checkLength_df160 37 = .ok (.return_, 1) := by decide +kernel
theorem e_186 (a0 : Int32) (a1 : Int32) (ws : ai_W) : ai_Call 186 [.int a0, .int a1] ws = ai_Run 186 0 [.int a0, .int a1] [] ws := R_entS hk_186 ⟨⟨rfl, rfl⟩, Nat.le_of_ble_eq_true rfl⟩ rfl
theorem r_186_0 (l0 : Value) (a : Int32) (st : List Value) (ws : ai_W) : ai_Run 186 0 [l0, .int a] st ws = ai_Run 186 1 [l0, .int a] (.int a :: st) ws := R_iload_n hc_186 dJ7_checkLength_df160_0 rfl rfl
theorem r_186_1 (l1 : Value) (a : Int32) (st : List Value) (ws : ai_W) : ai_Run 186 1 [.int a, l1] st ws = ai_Run 186 2 [.int a, l1] (.int a :: st) ws := R_iload_n hc_186 dJ7_checkLength_df160_1 rfl rfl
theorem r_186_2 (ls st : List Value) (a b : Int32) (ws : ai_W) : ai_Run 186 2 ls (.int b :: .int a :: st) ws = if a < b then ai_Run 186 5 ls st ws else ai_Run 186 37 ls st ws := R_cmp_ge hc_186 dJ7_checkLength_df160_2 rfl rfl
theorem r_186_37 (ls : List Value) (ws : ai_W) : ai_Run 186 37 ls [] ws = some (none, ws) := R_vret hc_186 dJ7_checkLength_df160_37 ht_186
theorem dJ7_copyOfRangeByte_39247_0 : decode cJ7_copyOfRangeByte_39247 0 = .ok (.iload_n 1, 1) := by decide +kernel
theorem dJ7_copyOfRangeByte_39247_1 : decode cJ7_copyOfRangeByte_39247 1 = .ok (.iload_n 2, 1) := by decide +kernel
theorem dJ7_copyOfRangeByte_39247_2 : decode cJ7_copyOfRangeByte_39247 2 = .ok (.invokestatic 343, 3) := by decide +kernel
theorem dJ7_copyOfRangeByte_39247_5 : decode cJ7_copyOfRangeByte_39247 5 = .ok (.iload_n 2, 1) := by decide +kernel
theorem dJ7_copyOfRangeByte_39247_6 : decode cJ7_copyOfRangeByte_39247 6 = .ok (.iload_n 1, 1) := by decide +kernel
theorem dJ7_copyOfRangeByte_39247_7 : decode cJ7_copyOfRangeByte_39247 7 = .ok (.isub, 1) := by decide +kernel
theorem dJ7_copyOfRangeByte_39247_8 : decode cJ7_copyOfRangeByte_39247 8 = .ok (.istore_n 3, 1) := by decide +kernel
theorem dJ7_copyOfRangeByte_39247_9 : decode cJ7_copyOfRangeByte_39247 9 = .ok (.iload_n 3, 1) := by decide +kernel
theorem dJ7_copyOfRangeByte_39247_10 : decode cJ7_copyOfRangeByte_39247 10 = .ok (.newarray .byte, 2) := by decide +kernel
theorem dJ7_copyOfRangeByte_39247_12 : decode cJ7_copyOfRangeByte_39247 12 = .ok (.astore 4, 2) := by decide +kernel
theorem dJ7_copyOfRangeByte_39247_14 : decode cJ7_copyOfRangeByte_39247 14 = .ok (.aload_n 0, 1) := by decide +kernel
theorem dJ7_copyOfRangeByte_39247_15 : decode cJ7_copyOfRangeByte_39247 15 = .ok (.iload_n 1, 1) := by decide +kernel
theorem dJ7_copyOfRangeByte_39247_16 : decode cJ7_copyOfRangeByte_39247 16 = .ok (.aload 4, 2) := by decide +kernel
theorem dJ7_copyOfRangeByte_39247_18 : decode cJ7_copyOfRangeByte_39247 18 = .ok (.iconst 0, 1) := by decide +kernel
theorem dJ7_copyOfRangeByte_39247_19 : decode cJ7_copyOfRangeByte_39247 19 = .ok (.aload_n 0, 1) := by decide +kernel
theorem dJ7_copyOfRangeByte_39247_20 : decode cJ7_copyOfRangeByte_39247 20 = .ok (.arraylength, 1) := by decide +kernel
theorem dJ7_copyOfRangeByte_39247_21 : decode cJ7_copyOfRangeByte_39247 21 = .ok (.iload_n 1, 1) := by decide +kernel
theorem dJ7_copyOfRangeByte_39247_22 : decode cJ7_copyOfRangeByte_39247 22 = .ok (.isub, 1) := by decide +kernel
theorem dJ7_copyOfRangeByte_39247_23 : decode cJ7_copyOfRangeByte_39247 23 = .ok (.iload_n 3, 1) := by decide +kernel
theorem dJ7_copyOfRangeByte_39247_24 : decode cJ7_copyOfRangeByte_39247 24 = .ok (.invokestatic 304, 3) := by decide +kernel
theorem dJ7_copyOfRangeByte_39247_27 : decode cJ7_copyOfRangeByte_39247 27 = .ok (.invokestatic 150, 3) := by decide +kernel
theorem dJ7_copyOfRangeByte_39247_30 : decode cJ7_copyOfRangeByte_39247 30 = .ok (.aload 4, 2) := by decide +kernel
theorem dJ7_copyOfRangeByte_39247_32 : decode cJ7_copyOfRangeByte_39247 32 = .ok (.areturn, 1) := by decide +kernel
theorem e_187 (a0 : Nat) (a1 : Int32) (a2 : Int32) (ws : ai_W) : ai_Call 187 [.ref a0, .int a1, .int a2] ws = ai_Run 187 0 [.ref a0, .int a1, .int a2, .null, .null] [] ws := R_entS hk_187 ⟨⟨rfl, rfl⟩, Nat.le_of_ble_eq_true rfl⟩ rfl
theorem r_187_0 (l0 l2 l3 l4 : Value) (a : Int32) (st : List Value) (ws : ai_W) : ai_Run 187 0 [l0, .int a, l2, l3, l4] st ws = ai_Run 187 1 [l0, .int a, l2, l3, l4] (.int a :: st) ws := R_iload_n hc_187 dJ7_copyOfRangeByte_39247_0 rfl rfl
theorem r_187_1 (l0 l1 l3 l4 : Value) (a : Int32) (st : List Value) (ws : ai_W) : ai_Run 187 1 [l0, l1, .int a, l3, l4] st ws = ai_Run 187 2 [l0, l1, .int a, l3, l4] (.int a :: st) ws := R_iload_n hc_187 dJ7_copyOfRangeByte_39247_1 rfl rfl
theorem r_187_2 (ls : List Value) (b0 : Int32) (b1 : Int32) (ws : ai_W) : ai_Run 187 2 ls [.int b1, .int b0] ws = (ai_Call 186 [.int b0, .int b1] ws).bind fun q => ai_Run 187 5 ls (q.1.toList ++ []) q.2 := R_callS hc_187 dJ7_copyOfRangeByte_39247_2 hv_187 (w := 963) rfl (ai_lt3 hf_186 hf_187 hL_186 ho_186 ho_187 rfl) hk_186 (by rw [hn_186]; rfl) rfl (Nat.le_of_ble_eq_true rfl) rfl
theorem r_187_5 (l0 l1 l3 l4 : Value) (a : Int32) (st : List Value) (ws : ai_W) : ai_Run 187 5 [l0, l1, .int a, l3, l4] st ws = ai_Run 187 6 [l0, l1, .int a, l3, l4] (.int a :: st) ws := R_iload_n hc_187 dJ7_copyOfRangeByte_39247_5 rfl rfl
theorem r_187_6 (l0 l2 l3 l4 : Value) (a : Int32) (st : List Value) (ws : ai_W) : ai_Run 187 6 [l0, .int a, l2, l3, l4] st ws = ai_Run 187 7 [l0, .int a, l2, l3, l4] (.int a :: st) ws := R_iload_n hc_187 dJ7_copyOfRangeByte_39247_6 rfl rfl
theorem r_187_7 (ls st : List Value) (a b : Int32) (ws : ai_W) : ai_Run 187 7 ls (.int b :: .int a :: st) ws = ai_Run 187 8 ls (.int (a - b) :: st) ws := R_isub hc_187 dJ7_copyOfRangeByte_39247_7 rfl
theorem r_187_8 (l0 l1 l2 l3 l4 : Value) (a : Int32) (st : List Value) (ws : ai_W) : ai_Run 187 8 [l0, l1, l2, l3, l4] (.int a :: st) ws = ai_Run 187 9 [l0, l1, l2, .int a, l4] st ws := R_istore_n hc_187 dJ7_copyOfRangeByte_39247_8 (Nat.le_of_ble_eq_true rfl) rfl rfl
theorem r_187_9 (l0 l1 l2 l4 : Value) (a : Int32) (st : List Value) (ws : ai_W) : ai_Run 187 9 [l0, l1, l2, .int a, l4] st ws = ai_Run 187 10 [l0, l1, l2, .int a, l4] (.int a :: st) ws := R_iload_n hc_187 dJ7_copyOfRangeByte_39247_9 rfl rfl
theorem r_187_10 (ls st : List Value) (q : Int32) (ws : ai_W) : ai_Run 187 10 ls (.int q :: st) ws = if q < 0 ∨ 100000 < q.toNatClampNeg then none else ai_Run 187 12 ls (.ref ws.length :: st) (ws ++ [.inr (.inr (77, List.replicate q.toNatClampNeg (.int 0)))]) := R_newb hc_187 dJ7_copyOfRangeByte_39247_10 rfl
theorem r_187_12 (l0 l1 l2 l3 l4 : Value) (a : Nat) (st : List Value) (ws : ai_W) : ai_Run 187 12 [l0, l1, l2, l3, l4] (.ref a :: st) ws = ai_Run 187 14 [l0, l1, l2, l3, .ref a] st ws := R_astore hc_187 dJ7_copyOfRangeByte_39247_12 (Nat.le_of_ble_eq_true rfl) rfl rfl
theorem r_187_14 (l1 l2 l3 l4 : Value) (a : Nat) (st : List Value) (ws : ai_W) : ai_Run 187 14 [.ref a, l1, l2, l3, l4] st ws = ai_Run 187 15 [.ref a, l1, l2, l3, l4] (.ref a :: st) ws := R_aload_n hc_187 dJ7_copyOfRangeByte_39247_14 rfl rfl
theorem rx_187_14 (l1 l2 l3 l4 : Value) {a : Nat} (hq : ¬ a = 23) (st : List Value) (ws : ai_W) : ai_Run 187 14 [.retAddr a, l1, l2, l3, l4] st ws = ai_Run 187 15 [.retAddr a, l1, l2, l3, l4] (.retAddr a :: st) ws := R_aload_nX hq hc_187 dJ7_copyOfRangeByte_39247_14 rfl rfl
theorem r_187_15 (l0 l2 l3 l4 : Value) (a : Int32) (st : List Value) (ws : ai_W) : ai_Run 187 15 [l0, .int a, l2, l3, l4] st ws = ai_Run 187 16 [l0, .int a, l2, l3, l4] (.int a :: st) ws := R_iload_n hc_187 dJ7_copyOfRangeByte_39247_15 rfl rfl
theorem r_187_16 (l0 l1 l2 l3 : Value) (a : Nat) (st : List Value) (ws : ai_W) : ai_Run 187 16 [l0, l1, l2, l3, .ref a] st ws = ai_Run 187 18 [l0, l1, l2, l3, .ref a] (.ref a :: st) ws := R_aload hc_187 dJ7_copyOfRangeByte_39247_16 rfl rfl
theorem rx_187_16 (l0 l1 l2 l3 : Value) {a : Nat} (hq : ¬ a = 23) (st : List Value) (ws : ai_W) : ai_Run 187 16 [l0, l1, l2, l3, .retAddr a] st ws = ai_Run 187 18 [l0, l1, l2, l3, .retAddr a] (.retAddr a :: st) ws := R_aloadX hq hc_187 dJ7_copyOfRangeByte_39247_16 rfl rfl
theorem r_187_18 (ls st : List Value) (ws : ai_W) : ai_Run 187 18 ls st ws = ai_Run 187 19 ls (.int 0 :: st) ws := R_iconst hc_187 dJ7_copyOfRangeByte_39247_18 (by decide) rfl
theorem r_187_19 (l1 l2 l3 l4 : Value) (a : Nat) (st : List Value) (ws : ai_W) : ai_Run 187 19 [.ref a, l1, l2, l3, l4] st ws = ai_Run 187 20 [.ref a, l1, l2, l3, l4] (.ref a :: st) ws := R_aload_n hc_187 dJ7_copyOfRangeByte_39247_19 rfl rfl
theorem rx_187_19 (l1 l2 l3 l4 : Value) {a : Nat} (hq : ¬ a = 23) (st : List Value) (ws : ai_W) : ai_Run 187 19 [.retAddr a, l1, l2, l3, l4] st ws = ai_Run 187 20 [.retAddr a, l1, l2, l3, l4] (.retAddr a :: st) ws := R_aload_nX hq hc_187 dJ7_copyOfRangeByte_39247_19 rfl rfl
theorem r_187_20 (ls st : List Value) (a : Nat) (ws : ai_W) : ai_Run 187 20 ls (.ref a :: st) ws = (ai_len ws a).bind fun q => ai_Run 187 21 ls (.int q :: st) ws := R_arraylength hc_187 dJ7_copyOfRangeByte_39247_20 rfl
theorem rx_187_20 (ls st : List Value) (a : Nat) (ws : ai_W) : ai_Run 187 20 ls (.retAddr a :: st) ws = (ai_xlen a).bind fun q => ai_Run 187 21 ls (.int q :: st) ws := R_alenX hc_187 dJ7_copyOfRangeByte_39247_20 rfl
theorem r_187_21 (l0 l2 l3 l4 : Value) (a : Int32) (st : List Value) (ws : ai_W) : ai_Run 187 21 [l0, .int a, l2, l3, l4] st ws = ai_Run 187 22 [l0, .int a, l2, l3, l4] (.int a :: st) ws := R_iload_n hc_187 dJ7_copyOfRangeByte_39247_21 rfl rfl
theorem r_187_22 (ls st : List Value) (a b : Int32) (ws : ai_W) : ai_Run 187 22 ls (.int b :: .int a :: st) ws = ai_Run 187 23 ls (.int (a - b) :: st) ws := R_isub hc_187 dJ7_copyOfRangeByte_39247_22 rfl
theorem r_187_23 (l0 l1 l2 l4 : Value) (a : Int32) (st : List Value) (ws : ai_W) : ai_Run 187 23 [l0, l1, l2, .int a, l4] st ws = ai_Run 187 24 [l0, l1, l2, .int a, l4] (.int a :: st) ws := R_iload_n hc_187 dJ7_copyOfRangeByte_39247_23 rfl rfl
theorem r_187_24 (ls : List Value) (b0 : Int32) (b1 : Int32) (s0 s1 s2 s3 : Value) (ws : ai_W) : ai_Run 187 24 ls [.int b1, .int b0, s0, s1, s2, s3] ws = (ai_Call 42 [.int b0, .int b1] ws).bind fun q => ai_Run 187 27 ls (q.1.toList ++ [s0, s1, s2, s3]) q.2 := R_callS hc_187 dJ7_copyOfRangeByte_39247_24 hv_187 (w := 826) rfl (ai_lt3 hf_42 hf_187 hL_42 ho_42 ho_187 rfl) hk_42 (by rw [hn_42]; rfl) rfl (Nat.le_of_ble_eq_true rfl) rfl
theorem rx_187_27 (ls : List Value) (a d : Nat) (i0 j n0 : Int32) (ws : ai_W) : ai_Run 187 27 ls [.int n0, .int j, .ref d, .int i0, .retAddr a] ws = (ai_cpx a ws i0 d j n0).bind fun ws => ai_Run 187 30 ls [] ws := R_copyX hc_187 dJ7_copyOfRangeByte_39247_27 hv_187 (y2 := 0) (w := 827) rfl (Nat.le_of_ble_eq_true rfl) (ai_nat_of hf_187 ho_187 rfl) rfl
theorem r_187_27 (ls : List Value) (a d : Nat) (i0 j n0 : Int32) (ws : ai_W) : ai_Run 187 27 ls [.int n0, .int j, .ref d, .int i0, .ref a] ws = (ai_cpy ws a i0 d j n0).bind fun ws => ai_Run 187 30 ls [] ws := R_copy hc_187 dJ7_copyOfRangeByte_39247_27 hv_187 (y2 := 0) (w := 827) rfl (Nat.le_of_ble_eq_true rfl) (ai_nat_of hf_187 ho_187 rfl) rfl
theorem r_187_30 (l0 l1 l2 l3 : Value) (a : Nat) (st : List Value) (ws : ai_W) : ai_Run 187 30 [l0, l1, l2, l3, .ref a] st ws = ai_Run 187 32 [l0, l1, l2, l3, .ref a] (.ref a :: st) ws := R_aload hc_187 dJ7_copyOfRangeByte_39247_30 rfl rfl
theorem rx_187_30 (l0 l1 l2 l3 : Value) {a : Nat} (hq : ¬ a = 23) (st : List Value) (ws : ai_W) : ai_Run 187 30 [l0, l1, l2, l3, .retAddr a] st ws = ai_Run 187 32 [l0, l1, l2, l3, .retAddr a] (.retAddr a :: st) ws := R_aloadX hq hc_187 dJ7_copyOfRangeByte_39247_30 rfl rfl
theorem r_187_32 (ls : List Value) (a : Nat) (ws : ai_W) : ai_Run 187 32 ls [.ref a] ws = some (some (.ref a), ws) := R_aret hc_187 dJ7_copyOfRangeByte_39247_32 ht_187 rfl
theorem dJ7_copyOfRange_39247_0 : decode cJ7_copyOfRange_39247 0 = .ok (.iload_n 1, 1) := by decide +kernel
theorem dJ7_copyOfRange_39247_1 : decode cJ7_copyOfRange_39247 1 = .ok (.ifCond .ne 9, 3) := by decide +kernel
theorem dJ7_copyOfRange_39247_4 : decode cJ7_copyOfRange_39247 4 = .ok (.iload_n 2, 1) := by decide +kernel
theorem dJ7_copyOfRange_39247_5 : decode cJ7_copyOfRange_39247 5 = .ok (.aload_n 0, 1) := by decide +kernel
theorem dJ7_copyOfRange_39247_6 : decode cJ7_copyOfRange_39247 6 = .ok (.arraylength, 1) := by decide +kernel
theorem dJ7_copyOfRange_39247_7 : decode cJ7_copyOfRange_39247 7 = .ok (.if_icmp .eq 10, 3) := by decide +kernel
theorem dJ7_copyOfRange_39247_10 : decode cJ7_copyOfRange_39247 10 = .ok (.aload_n 0, 1) := by decide +kernel
theorem dJ7_copyOfRange_39247_11 : decode cJ7_copyOfRange_39247 11 = .ok (.iload_n 1, 1) := by decide +kernel
theorem dJ7_copyOfRange_39247_12 : decode cJ7_copyOfRange_39247 12 = .ok (.iload_n 2, 1) := by decide +kernel
theorem dJ7_copyOfRange_39247_13 : decode cJ7_copyOfRange_39247 13 = .ok (.invokestatic 339, 3) := by decide +kernel
theorem dJ7_copyOfRange_39247_16 : decode cJ7_copyOfRange_39247 16 = .ok (.areturn, 1) := by decide +kernel
theorem dJ7_copyOfRange_39247_17 : decode cJ7_copyOfRange_39247 17 = .ok (.aload_n 0, 1) := by decide +kernel
theorem dJ7_copyOfRange_39247_18 : decode cJ7_copyOfRange_39247 18 = .ok (.invokevirtual 310, 3) := by decide +kernel
theorem dJ7_copyOfRange_39247_21 : decode cJ7_copyOfRange_39247 21 = .ok (.checkcast 311, 3) := by decide +kernel
theorem dJ7_copyOfRange_39247_24 : decode cJ7_copyOfRange_39247 24 = .ok (.areturn, 1) := by decide +kernel
theorem e_188 (a0 : Nat) (a1 : Int32) (a2 : Int32) (ws : ai_W) : ai_Call 188 [.ref a0, .int a1, .int a2] ws = ai_Run 188 0 [.ref a0, .int a1, .int a2] [] ws := R_entS hk_188 ⟨⟨rfl, rfl⟩, Nat.le_of_ble_eq_true rfl⟩ rfl
theorem r_188_0 (l0 l2 : Value) (a : Int32) (st : List Value) (ws : ai_W) : ai_Run 188 0 [l0, .int a, l2] st ws = ai_Run 188 1 [l0, .int a, l2] (.int a :: st) ws := R_iload_n hc_188 dJ7_copyOfRange_39247_0 rfl rfl
theorem r_188_1 (ls st : List Value) (a : Int32) (ws : ai_W) : ai_Run 188 1 ls (.int a :: st) ws = if a = 0 then ai_Run 188 4 ls st ws else ai_Run 188 10 ls st ws := R_if_ne hc_188 dJ7_copyOfRange_39247_1 rfl rfl
theorem r_188_4 (l0 l1 : Value) (a : Int32) (st : List Value) (ws : ai_W) : ai_Run 188 4 [l0, l1, .int a] st ws = ai_Run 188 5 [l0, l1, .int a] (.int a :: st) ws := R_iload_n hc_188 dJ7_copyOfRange_39247_4 rfl rfl
theorem r_188_5 (l1 l2 : Value) (a : Nat) (st : List Value) (ws : ai_W) : ai_Run 188 5 [.ref a, l1, l2] st ws = ai_Run 188 6 [.ref a, l1, l2] (.ref a :: st) ws := R_aload_n hc_188 dJ7_copyOfRange_39247_5 rfl rfl
theorem rx_188_5 (l1 l2 : Value) {a : Nat} (hq : ¬ a = 23) (st : List Value) (ws : ai_W) : ai_Run 188 5 [.retAddr a, l1, l2] st ws = ai_Run 188 6 [.retAddr a, l1, l2] (.retAddr a :: st) ws := R_aload_nX hq hc_188 dJ7_copyOfRange_39247_5 rfl rfl
theorem r_188_6 (ls st : List Value) (a : Nat) (ws : ai_W) : ai_Run 188 6 ls (.ref a :: st) ws = (ai_len ws a).bind fun q => ai_Run 188 7 ls (.int q :: st) ws := R_arraylength hc_188 dJ7_copyOfRange_39247_6 rfl
theorem rx_188_6 (ls st : List Value) (a : Nat) (ws : ai_W) : ai_Run 188 6 ls (.retAddr a :: st) ws = (ai_xlen a).bind fun q => ai_Run 188 7 ls (.int q :: st) ws := R_alenX hc_188 dJ7_copyOfRange_39247_6 rfl
theorem r_188_7 (ls st : List Value) (a b : Int32) (ws : ai_W) : ai_Run 188 7 ls (.int b :: .int a :: st) ws = if a = b then ai_Run 188 17 ls st ws else ai_Run 188 10 ls st ws := R_cmp_eq hc_188 dJ7_copyOfRange_39247_7 rfl rfl
theorem r_188_10 (l1 l2 : Value) (a : Nat) (st : List Value) (ws : ai_W) : ai_Run 188 10 [.ref a, l1, l2] st ws = ai_Run 188 11 [.ref a, l1, l2] (.ref a :: st) ws := R_aload_n hc_188 dJ7_copyOfRange_39247_10 rfl rfl
theorem rx_188_10 (l1 l2 : Value) {a : Nat} (hq : ¬ a = 23) (st : List Value) (ws : ai_W) : ai_Run 188 10 [.retAddr a, l1, l2] st ws = ai_Run 188 11 [.retAddr a, l1, l2] (.retAddr a :: st) ws := R_aload_nX hq hc_188 dJ7_copyOfRange_39247_10 rfl rfl
theorem r_188_11 (l0 l2 : Value) (a : Int32) (st : List Value) (ws : ai_W) : ai_Run 188 11 [l0, .int a, l2] st ws = ai_Run 188 12 [l0, .int a, l2] (.int a :: st) ws := R_iload_n hc_188 dJ7_copyOfRange_39247_11 rfl rfl
theorem r_188_12 (l0 l1 : Value) (a : Int32) (st : List Value) (ws : ai_W) : ai_Run 188 12 [l0, l1, .int a] st ws = ai_Run 188 13 [l0, l1, .int a] (.int a :: st) ws := R_iload_n hc_188 dJ7_copyOfRange_39247_12 rfl rfl
theorem r_188_13 (ls : List Value) (b0 : Value) (b1 : Int32) (b2 : Int32) (ws : ai_W) : ai_Run 188 13 ls [.int b2, .int b1, b0] ws = (ai_Call 187 [b0, .int b1, .int b2] ws).bind fun q => ai_Run 188 16 ls (q.1.toList ++ []) q.2 := R_callS hc_188 dJ7_copyOfRange_39247_13 hv_188 (w := 960) rfl (ai_lt3 hf_187 hf_188 hL_187 ho_187 ho_188 rfl) hk_187 (by rw [hn_187]; rfl) rfl (Nat.le_of_ble_eq_true rfl) rfl
theorem r_188_16 (ls : List Value) (a : Nat) (ws : ai_W) : ai_Run 188 16 ls [.ref a] ws = some (some (.ref a), ws) := R_aret hc_188 dJ7_copyOfRange_39247_16 ht_188 rfl
theorem r_188_17 (l1 l2 : Value) (a : Nat) (st : List Value) (ws : ai_W) : ai_Run 188 17 [.ref a, l1, l2] st ws = ai_Run 188 18 [.ref a, l1, l2] (.ref a :: st) ws := R_aload_n hc_188 dJ7_copyOfRange_39247_17 rfl rfl
theorem rx_188_17 (l1 l2 : Value) {a : Nat} (hq : ¬ a = 23) (st : List Value) (ws : ai_W) : ai_Run 188 17 [.retAddr a, l1, l2] st ws = ai_Run 188 18 [.retAddr a, l1, l2] (.retAddr a :: st) ws := R_aload_nX hq hc_188 dJ7_copyOfRange_39247_17 rfl rfl
theorem r_188_18 {a : Nat} {fs : List Value} {ws : ai_W} (h : ws[a]? = some (.inr (.inr (77, fs)))) (hf : fs.all ai_fb8 = true) (ls : List Value) : ai_Run 188 18 ls [.ref a] ws = ai_Run 188 21 ls [.ref ws.length] (ws ++ [.inr (.inr (77, fs))]) := R_clone hc_188 dJ7_copyOfRange_39247_18 hv_188 (y2 := 0) (w := 819) rfl (Nat.le_of_ble_eq_true rfl) (ai_nat_of hf_188 ho_188 rfl) rfl h hf
theorem r_188_21 {a : Nat} {fs : List Value} {ws : ai_W} (h : ws[a]? = some (.inr (.inr (77, fs)))) (ls st : List Value) : ai_Run 188 21 ls (.ref a :: st) ws = ai_Run 188 24 ls (.ref a :: st) ws := R_castb hc_188 dJ7_copyOfRange_39247_21 rfl rfl h
theorem r_188_24 (ls : List Value) (a : Nat) (ws : ai_W) : ai_Run 188 24 ls [.ref a] ws = some (some (.ref a), ws) := R_aret hc_188 dJ7_copyOfRange_39247_24 ht_188 rfl
theorem dJ0_init_db425_0 : decode cJ0_init_db425 0 = .ok (.aload_n 0, 1) := by decide +kernel
theorem dJ0_init_db425_1 : decode cJ0_init_db425 1 = .ok (.invokespecial 1, 3) := by decide +kernel
theorem dJ0_init_db425_4 : decode cJ0_init_db425 4 = .ok (.aload_n 1, 1) := by decide +kernel
theorem dJ0_init_db425_5 : decode cJ0_init_db425 5 = .ok (.invokevirtual 552, 3) := by decide +kernel
theorem dJ0_init_db425_8 : decode cJ0_init_db425 8 = .ok (.astore_n 3, 1) := by decide +kernel
theorem dJ0_init_db425_9 : decode cJ0_init_db425 9 = .ok (.aload_n 1, 1) := by decide +kernel
theorem dJ0_init_db425_10 : decode cJ0_init_db425 10 = .ok (.invokevirtual 549, 3) := by decide +kernel
theorem dJ0_init_db425_13 : decode cJ0_init_db425 13 = .ok (.istore 4, 2) := by decide +kernel
theorem dJ0_init_db425_15 : decode cJ0_init_db425 15 = .ok (.aload_n 1, 1) := by decide +kernel
theorem dJ0_init_db425_16 : decode cJ0_init_db425 16 = .ok (.invokevirtual 1047, 3) := by decide +kernel
theorem dJ0_init_db425_19 : decode cJ0_init_db425 19 = .ok (.ifCond .eq 22, 3) := by decide +kernel
theorem dJ0_init_db425_22 : decode cJ0_init_db425 22 = .ok (.aload_n 0, 1) := by decide +kernel
theorem dJ0_init_db425_23 : decode cJ0_init_db425 23 = .ok (.iconst 0, 1) := by decide +kernel
theorem dJ0_init_db425_24 : decode cJ0_init_db425 24 = .ok (.putfield 15, 3) := by decide +kernel
theorem dJ0_init_db425_27 : decode cJ0_init_db425 27 = .ok (.aload_n 0, 1) := by decide +kernel
theorem dJ0_init_db425_28 : decode cJ0_init_db425 28 = .ok (.aload_n 3, 1) := by decide +kernel
theorem dJ0_init_db425_29 : decode cJ0_init_db425 29 = .ok (.iconst 0, 1) := by decide +kernel
theorem dJ0_init_db425_30 : decode cJ0_init_db425 30 = .ok (.iload 4, 2) := by decide +kernel
theorem dJ0_init_db425_32 : decode cJ0_init_db425 32 = .ok (.invokestatic 54, 3) := by decide +kernel
theorem dJ0_init_db425_35 : decode cJ0_init_db425 35 = .ok (.putfield 9, 3) := by decide +kernel
theorem dJ0_init_db425_38 : decode cJ0_init_db425 38 = .ok (.goto 59, 3) := by decide +kernel
theorem dJ0_init_db425_41 : decode cJ0_init_db425 41 = .ok (.getstatic 38, 3) := by decide +kernel
theorem dJ0_init_db425_44 : decode cJ0_init_db425 44 = .ok (.ifCond .eq 35, 3) := by decide +kernel
theorem dJ0_init_db425_47 : decode cJ0_init_db425 47 = .ok (.aload_n 1, 1) := by decide +kernel
theorem dJ0_init_db425_48 : decode cJ0_init_db425 48 = .ok (.getfield 1048, 3) := by decide +kernel
theorem dJ0_init_db425_51 : decode cJ0_init_db425 51 = .ok (.ifCond .eq 28, 3) := by decide +kernel
theorem dJ0_init_db425_54 : decode cJ0_init_db425 54 = .ok (.aload_n 0, 1) := by decide +kernel
theorem dJ0_init_db425_55 : decode cJ0_init_db425 55 = .ok (.aload_n 3, 1) := by decide +kernel
theorem dJ0_init_db425_56 : decode cJ0_init_db425 56 = .ok (.iconst 0, 1) := by decide +kernel
theorem dJ0_init_db425_57 : decode cJ0_init_db425 57 = .ok (.iload 4, 2) := by decide +kernel
theorem dJ0_init_db425_79 : decode cJ0_init_db425 79 = .ok (.aload_n 0, 1) := by decide +kernel
theorem dJ0_init_db425_80 : decode cJ0_init_db425 80 = .ok (.iconst 1, 1) := by decide +kernel
theorem dJ0_init_db425_81 : decode cJ0_init_db425 81 = .ok (.putfield 15, 3) := by decide +kernel
theorem dJ0_init_db425_84 : decode cJ0_init_db425 84 = .ok (.aload_n 0, 1) := by decide +kernel
theorem dJ0_init_db425_85 : decode cJ0_init_db425 85 = .ok (.aload_n 3, 1) := by decide +kernel
theorem dJ0_init_db425_86 : decode cJ0_init_db425 86 = .ok (.iconst 0, 1) := by decide +kernel
theorem dJ0_init_db425_87 : decode cJ0_init_db425 87 = .ok (.iload 4, 2) := by decide +kernel
theorem dJ0_init_db425_89 : decode cJ0_init_db425 89 = .ok (.iconst 1, 1) := by decide +kernel
theorem dJ0_init_db425_90 : decode cJ0_init_db425 90 = .ok (.ishl, 1) := by decide +kernel
theorem dJ0_init_db425_91 : decode cJ0_init_db425 91 = .ok (.invokestatic 54, 3) := by decide +kernel
theorem dJ0_init_db425_94 : decode cJ0_init_db425 94 = .ok (.putfield 9, 3) := by decide +kernel
theorem dJ0_init_db425_97 : decode cJ0_init_db425 97 = .ok (.return_, 1) := by decide +kernel
theorem e_189 (r : Nat) (a0 : Nat) (a1 : Nat) (ws : ai_W) : ai_Call 189 [.ref r, .ref a0, .ref a1] ws = if ai_isob ws r 12 = true then ai_Run 189 0 [.ref r, .ref a0, .ref a1, .null, .null] [] ws else none := R_entI hk_189 ⟨⟨rfl, rfl⟩, Nat.le_of_ble_eq_true rfl⟩ rfl
theorem ex_189 (r : Nat) (a0 : Nat) (ws : ai_W) : ai_Call 189 [.ref r, .ref a0, .null] ws = if ai_isob ws r 12 = true then ai_Run 189 0 [.ref r, .ref a0, .null, .null, .null] [] ws else none := R_entI hk_189 ⟨⟨rfl, rfl⟩, Nat.le_of_ble_eq_true rfl⟩ rfl
theorem r_189_0 (l1 l2 l3 l4 : Value) (a : Nat) (st : List Value) (ws : ai_W) : ai_Run 189 0 [.ref a, l1, l2, l3, l4] st ws = ai_Run 189 1 [.ref a, l1, l2, l3, l4] (.ref a :: st) ws := R_aload_n hc_189 dJ0_init_db425_0 rfl rfl
theorem rx_189_0 (l1 l2 l3 l4 : Value) {a : Nat} (hq : ¬ a = 23) (st : List Value) (ws : ai_W) : ai_Run 189 0 [.retAddr a, l1, l2, l3, l4] st ws = ai_Run 189 1 [.retAddr a, l1, l2, l3, l4] (.retAddr a :: st) ws := R_aload_nX hq hc_189 dJ0_init_db425_0 rfl rfl
theorem r_189_1 (ls : List Value) (a : Nat) (ws : ai_W) : ai_Run 189 1 ls [.ref a] ws = ai_Run 189 4 ls [] ws := R_obj hc_189 dJ0_init_db425_1 hv_189 (y2 := 0) (w := 942) rfl (Nat.le_of_ble_eq_true rfl) (ai_nat_of hf_189 ho_189 rfl) rfl
theorem r_189_4 (l0 l2 l3 l4 : Value) (a : Nat) (st : List Value) (ws : ai_W) : ai_Run 189 4 [l0, .ref a, l2, l3, l4] st ws = ai_Run 189 5 [l0, .ref a, l2, l3, l4] (.ref a :: st) ws := R_aload_n hc_189 dJ0_init_db425_4 rfl rfl
theorem rx_189_4 (l0 l2 l3 l4 : Value) {a : Nat} (hq : ¬ a = 23) (st : List Value) (ws : ai_W) : ai_Run 189 4 [l0, .retAddr a, l2, l3, l4] st ws = ai_Run 189 5 [l0, .retAddr a, l2, l3, l4] (.retAddr a :: st) ws := R_aload_nX hq hc_189 dJ0_init_db425_4 rfl rfl
theorem r_189_5 (ls : List Value) (r : Value) (ws : ai_W) : ai_Run 189 5 ls [r] ws = (ai_Call 183 [r] ws).bind fun q => ai_Run 189 8 ls (q.1.toList ++ []) q.2 := R_callU hc_189 dJ0_init_db425_5 hv_189 (w := 1) rfl (ai_lt3 hf_183 hf_189 hL_183 ho_183 ho_189 rfl) hk_183 (by rw [hn_183]; rfl) rfl (Nat.le_of_ble_eq_true rfl) rfl
theorem r_189_8 (l0 l1 l2 l3 l4 : Value) (a : Nat) (st : List Value) (ws : ai_W) : ai_Run 189 8 [l0, l1, l2, l3, l4] (.ref a :: st) ws = ai_Run 189 9 [l0, l1, l2, .ref a, l4] st ws := R_astore_n hc_189 dJ0_init_db425_8 (Nat.le_of_ble_eq_true rfl) rfl rfl
theorem r_189_9 (l0 l2 l3 l4 : Value) (a : Nat) (st : List Value) (ws : ai_W) : ai_Run 189 9 [l0, .ref a, l2, l3, l4] st ws = ai_Run 189 10 [l0, .ref a, l2, l3, l4] (.ref a :: st) ws := R_aload_n hc_189 dJ0_init_db425_9 rfl rfl
theorem rx_189_9 (l0 l2 l3 l4 : Value) {a : Nat} (hq : ¬ a = 23) (st : List Value) (ws : ai_W) : ai_Run 189 9 [l0, .retAddr a, l2, l3, l4] st ws = ai_Run 189 10 [l0, .retAddr a, l2, l3, l4] (.retAddr a :: st) ws := R_aload_nX hq hc_189 dJ0_init_db425_9 rfl rfl
theorem r_189_10 (ls : List Value) (r : Value) (ws : ai_W) : ai_Run 189 10 ls [r] ws = (ai_Call 185 [r] ws).bind fun q => ai_Run 189 13 ls (q.1.toList ++ []) q.2 := R_callU hc_189 dJ0_init_db425_10 hv_189 (w := 0) rfl (ai_lt3 hf_185 hf_189 hL_185 ho_185 ho_189 rfl) hk_185 (by rw [hn_185]; rfl) rfl (Nat.le_of_ble_eq_true rfl) rfl
theorem r_189_13 (l0 l1 l2 l3 l4 : Value) (a : Int32) (st : List Value) (ws : ai_W) : ai_Run 189 13 [l0, l1, l2, l3, l4] (.int a :: st) ws = ai_Run 189 15 [l0, l1, l2, l3, .int a] st ws := R_istore hc_189 dJ0_init_db425_13 (Nat.le_of_ble_eq_true rfl) rfl rfl
theorem r_189_15 (l0 l2 l3 l4 : Value) (a : Nat) (st : List Value) (ws : ai_W) : ai_Run 189 15 [l0, .ref a, l2, l3, l4] st ws = ai_Run 189 16 [l0, .ref a, l2, l3, l4] (.ref a :: st) ws := R_aload_n hc_189 dJ0_init_db425_15 rfl rfl
theorem rx_189_15 (l0 l2 l3 l4 : Value) {a : Nat} (hq : ¬ a = 23) (st : List Value) (ws : ai_W) : ai_Run 189 15 [l0, .retAddr a, l2, l3, l4] st ws = ai_Run 189 16 [l0, .retAddr a, l2, l3, l4] (.retAddr a :: st) ws := R_aload_nX hq hc_189 dJ0_init_db425_15 rfl rfl
theorem r_189_16 (ls : List Value) (r : Value) (ws : ai_W) : ai_Run 189 16 ls [r] ws = (ai_Call 179 [r] ws).bind fun q => ai_Run 189 19 ls (q.1.toList ++ []) q.2 := R_callU hc_189 dJ0_init_db425_16 hv_189 (w := 2) rfl (ai_lt3 hf_179 hf_189 hL_179 ho_179 ho_189 rfl) hk_179 (by rw [hn_179]; rfl) rfl (Nat.le_of_ble_eq_true rfl) rfl
theorem r_189_19 (ls st : List Value) (a : Int32) (ws : ai_W) : ai_Run 189 19 ls (.int a :: st) ws = if a = 0 then ai_Run 189 41 ls st ws else ai_Run 189 22 ls st ws := R_if_eq hc_189 dJ0_init_db425_19 rfl rfl
theorem r_189_22 (l1 l2 l3 l4 : Value) (a : Nat) (st : List Value) (ws : ai_W) : ai_Run 189 22 [.ref a, l1, l2, l3, l4] st ws = ai_Run 189 23 [.ref a, l1, l2, l3, l4] (.ref a :: st) ws := R_aload_n hc_189 dJ0_init_db425_22 rfl rfl
theorem rx_189_22 (l1 l2 l3 l4 : Value) {a : Nat} (hq : ¬ a = 23) (st : List Value) (ws : ai_W) : ai_Run 189 22 [.retAddr a, l1, l2, l3, l4] st ws = ai_Run 189 23 [.retAddr a, l1, l2, l3, l4] (.retAddr a :: st) ws := R_aload_nX hq hc_189 dJ0_init_db425_22 rfl rfl
theorem r_189_23 (ls st : List Value) (ws : ai_W) : ai_Run 189 23 ls st ws = ai_Run 189 24 ls (.int 0 :: st) ws := R_iconst hc_189 dJ0_init_db425_23 (by decide) rfl
theorem r_189_24 (ls st : List Value) (a : Nat) (x : Value) (ws : ai_W) : ai_Run 189 24 ls (x :: .ref a :: st) ws = (ai_fput ws a 12 1 x).bind fun ws => ai_Run 189 27 ls st ws := R_putF hc_189 dJ0_init_db425_24 hv_189 (w := 980) rfl hk_189 rfl rfl
theorem r_189_27 (l1 l2 l3 l4 : Value) (a : Nat) (st : List Value) (ws : ai_W) : ai_Run 189 27 [.ref a, l1, l2, l3, l4] st ws = ai_Run 189 28 [.ref a, l1, l2, l3, l4] (.ref a :: st) ws := R_aload_n hc_189 dJ0_init_db425_27 rfl rfl
theorem rx_189_27 (l1 l2 l3 l4 : Value) {a : Nat} (hq : ¬ a = 23) (st : List Value) (ws : ai_W) : ai_Run 189 27 [.retAddr a, l1, l2, l3, l4] st ws = ai_Run 189 28 [.retAddr a, l1, l2, l3, l4] (.retAddr a :: st) ws := R_aload_nX hq hc_189 dJ0_init_db425_27 rfl rfl
theorem r_189_28 (l0 l1 l2 l4 : Value) (a : Nat) (st : List Value) (ws : ai_W) : ai_Run 189 28 [l0, l1, l2, .ref a, l4] st ws = ai_Run 189 29 [l0, l1, l2, .ref a, l4] (.ref a :: st) ws := R_aload_n hc_189 dJ0_init_db425_28 rfl rfl
theorem rx_189_28 (l0 l1 l2 l4 : Value) {a : Nat} (hq : ¬ a = 23) (st : List Value) (ws : ai_W) : ai_Run 189 28 [l0, l1, l2, .retAddr a, l4] st ws = ai_Run 189 29 [l0, l1, l2, .retAddr a, l4] (.retAddr a :: st) ws := R_aload_nX hq hc_189 dJ0_init_db425_28 rfl rfl
theorem r_189_29 (ls st : List Value) (ws : ai_W) : ai_Run 189 29 ls st ws = ai_Run 189 30 ls (.int 0 :: st) ws := R_iconst hc_189 dJ0_init_db425_29 (by decide) rfl
theorem r_189_30 (l0 l1 l2 l3 : Value) (a : Int32) (st : List Value) (ws : ai_W) : ai_Run 189 30 [l0, l1, l2, l3, .int a] st ws = ai_Run 189 32 [l0, l1, l2, l3, .int a] (.int a :: st) ws := R_iload hc_189 dJ0_init_db425_30 rfl rfl
theorem r_189_32 (ls : List Value) (b0 : Value) (b1 : Int32) (b2 : Int32) (s0 : Value) (ws : ai_W) : ai_Run 189 32 ls [.int b2, .int b1, b0, s0] ws = (ai_Call 188 [b0, .int b1, .int b2] ws).bind fun q => ai_Run 189 35 ls (q.1.toList ++ [s0]) q.2 := R_callS hc_189 dJ0_init_db425_32 hv_189 (w := 957) rfl (ai_lt3 hf_188 hf_189 hL_188 ho_188 ho_189 rfl) hk_188 (by rw [hn_188]; rfl) rfl (Nat.le_of_ble_eq_true rfl) rfl
theorem r_189_35 (ls st : List Value) (a : Nat) (x : Value) (ws : ai_W) : ai_Run 189 35 ls (x :: .ref a :: st) ws = (ai_fput ws a 12 0 x).bind fun ws => ai_Run 189 38 ls st ws := R_putF hc_189 dJ0_init_db425_35 hv_189 (w := 979) rfl hk_189 rfl rfl
theorem r_189_38 (ls st : List Value) (ws : ai_W) : ai_Run 189 38 ls st ws = ai_Run 189 97 ls st ws := R_goto hc_189 dJ0_init_db425_38 rfl
theorem r_189_41 (ls st : List Value) (ws : ai_W) : ai_Run 189 41 ls st ws = ai_Run 189 44 ls (.int 1 :: st) ws := R_gets hc_189 dJ0_init_db425_41 (q := 0) (w := 867) rfl (Or.inl ⟨rfl, rfl⟩) rfl
theorem r_189_44 (ls st : List Value) (a : Int32) (ws : ai_W) : ai_Run 189 44 ls (.int a :: st) ws = if a = 0 then ai_Run 189 79 ls st ws else ai_Run 189 47 ls st ws := R_if_eq hc_189 dJ0_init_db425_44 rfl rfl
theorem r_189_47 (l0 l2 l3 l4 : Value) (a : Nat) (st : List Value) (ws : ai_W) : ai_Run 189 47 [l0, .ref a, l2, l3, l4] st ws = ai_Run 189 48 [l0, .ref a, l2, l3, l4] (.ref a :: st) ws := R_aload_n hc_189 dJ0_init_db425_47 rfl rfl
theorem rx_189_47 (l0 l2 l3 l4 : Value) {a : Nat} (hq : ¬ a = 23) (st : List Value) (ws : ai_W) : ai_Run 189 47 [l0, .retAddr a, l2, l3, l4] st ws = ai_Run 189 48 [l0, .retAddr a, l2, l3, l4] (.retAddr a :: st) ws := R_aload_nX hq hc_189 dJ0_init_db425_47 rfl rfl
theorem r_189_48 (ls st : List Value) (a : Nat) (ws : ai_W) : ai_Run 189 48 ls (.ref a :: st) ws = (ai_fget ws a 11 2).bind fun q => ai_Run 189 51 ls (q :: st) ws := R_getf hc_189 dJ0_init_db425_48 hv_189 (w := 775) rfl rfl
theorem rx_189_48 (ls st : List Value) (a : Nat) (ws : ai_W) : ai_Run 189 48 ls (.retAddr a :: st) ws = (ai_xget a 11 2).bind fun q => ai_Run 189 51 ls (q :: st) ws := R_getfX hc_189 dJ0_init_db425_48 hv_189 (w := 775) rfl rfl
theorem r_189_51 (ls st : List Value) (a : Int32) (ws : ai_W) : ai_Run 189 51 ls (.int a :: st) ws = if a = 0 then ai_Run 189 79 ls st ws else ai_Run 189 54 ls st ws := R_if_eq hc_189 dJ0_init_db425_51 rfl rfl
theorem r_189_54 (l1 l2 l3 l4 : Value) (a : Nat) (st : List Value) (ws : ai_W) : ai_Run 189 54 [.ref a, l1, l2, l3, l4] st ws = ai_Run 189 55 [.ref a, l1, l2, l3, l4] (.ref a :: st) ws := R_aload_n hc_189 dJ0_init_db425_54 rfl rfl
theorem rx_189_54 (l1 l2 l3 l4 : Value) {a : Nat} (hq : ¬ a = 23) (st : List Value) (ws : ai_W) : ai_Run 189 54 [.retAddr a, l1, l2, l3, l4] st ws = ai_Run 189 55 [.retAddr a, l1, l2, l3, l4] (.retAddr a :: st) ws := R_aload_nX hq hc_189 dJ0_init_db425_54 rfl rfl
theorem r_189_55 (l0 l1 l2 l4 : Value) (a : Nat) (st : List Value) (ws : ai_W) : ai_Run 189 55 [l0, l1, l2, .ref a, l4] st ws = ai_Run 189 56 [l0, l1, l2, .ref a, l4] (.ref a :: st) ws := R_aload_n hc_189 dJ0_init_db425_55 rfl rfl
theorem rx_189_55 (l0 l1 l2 l4 : Value) {a : Nat} (hq : ¬ a = 23) (st : List Value) (ws : ai_W) : ai_Run 189 55 [l0, l1, l2, .retAddr a, l4] st ws = ai_Run 189 56 [l0, l1, l2, .retAddr a, l4] (.retAddr a :: st) ws := R_aload_nX hq hc_189 dJ0_init_db425_55 rfl rfl
theorem r_189_56 (ls st : List Value) (ws : ai_W) : ai_Run 189 56 ls st ws = ai_Run 189 57 ls (.int 0 :: st) ws := R_iconst hc_189 dJ0_init_db425_56 (by decide) rfl
theorem r_189_57 (l0 l1 l2 l3 : Value) (a : Int32) (st : List Value) (ws : ai_W) : ai_Run 189 57 [l0, l1, l2, l3, .int a] st ws = ai_Run 189 59 [l0, l1, l2, l3, .int a] (.int a :: st) ws := R_iload hc_189 dJ0_init_db425_57 rfl rfl
theorem r_189_79 (l1 l2 l3 l4 : Value) (a : Nat) (st : List Value) (ws : ai_W) : ai_Run 189 79 [.ref a, l1, l2, l3, l4] st ws = ai_Run 189 80 [.ref a, l1, l2, l3, l4] (.ref a :: st) ws := R_aload_n hc_189 dJ0_init_db425_79 rfl rfl
theorem rx_189_79 (l1 l2 l3 l4 : Value) {a : Nat} (hq : ¬ a = 23) (st : List Value) (ws : ai_W) : ai_Run 189 79 [.retAddr a, l1, l2, l3, l4] st ws = ai_Run 189 80 [.retAddr a, l1, l2, l3, l4] (.retAddr a :: st) ws := R_aload_nX hq hc_189 dJ0_init_db425_79 rfl rfl
theorem r_189_80 (ls st : List Value) (ws : ai_W) : ai_Run 189 80 ls st ws = ai_Run 189 81 ls (.int 1 :: st) ws := R_iconst hc_189 dJ0_init_db425_80 (by decide) rfl
theorem r_189_81 (ls st : List Value) (a : Nat) (x : Value) (ws : ai_W) : ai_Run 189 81 ls (x :: .ref a :: st) ws = (ai_fput ws a 12 1 x).bind fun ws => ai_Run 189 84 ls st ws := R_putF hc_189 dJ0_init_db425_81 hv_189 (w := 980) rfl hk_189 rfl rfl
theorem r_189_84 (l1 l2 l3 l4 : Value) (a : Nat) (st : List Value) (ws : ai_W) : ai_Run 189 84 [.ref a, l1, l2, l3, l4] st ws = ai_Run 189 85 [.ref a, l1, l2, l3, l4] (.ref a :: st) ws := R_aload_n hc_189 dJ0_init_db425_84 rfl rfl
theorem rx_189_84 (l1 l2 l3 l4 : Value) {a : Nat} (hq : ¬ a = 23) (st : List Value) (ws : ai_W) : ai_Run 189 84 [.retAddr a, l1, l2, l3, l4] st ws = ai_Run 189 85 [.retAddr a, l1, l2, l3, l4] (.retAddr a :: st) ws := R_aload_nX hq hc_189 dJ0_init_db425_84 rfl rfl
theorem r_189_85 (l0 l1 l2 l4 : Value) (a : Nat) (st : List Value) (ws : ai_W) : ai_Run 189 85 [l0, l1, l2, .ref a, l4] st ws = ai_Run 189 86 [l0, l1, l2, .ref a, l4] (.ref a :: st) ws := R_aload_n hc_189 dJ0_init_db425_85 rfl rfl
theorem rx_189_85 (l0 l1 l2 l4 : Value) {a : Nat} (hq : ¬ a = 23) (st : List Value) (ws : ai_W) : ai_Run 189 85 [l0, l1, l2, .retAddr a, l4] st ws = ai_Run 189 86 [l0, l1, l2, .retAddr a, l4] (.retAddr a :: st) ws := R_aload_nX hq hc_189 dJ0_init_db425_85 rfl rfl
theorem r_189_86 (ls st : List Value) (ws : ai_W) : ai_Run 189 86 ls st ws = ai_Run 189 87 ls (.int 0 :: st) ws := R_iconst hc_189 dJ0_init_db425_86 (by decide) rfl
theorem r_189_87 (l0 l1 l2 l3 : Value) (a : Int32) (st : List Value) (ws : ai_W) : ai_Run 189 87 [l0, l1, l2, l3, .int a] st ws = ai_Run 189 89 [l0, l1, l2, l3, .int a] (.int a :: st) ws := R_iload hc_189 dJ0_init_db425_87 rfl rfl
theorem r_189_89 (ls st : List Value) (ws : ai_W) : ai_Run 189 89 ls st ws = ai_Run 189 90 ls (.int 1 :: st) ws := R_iconst hc_189 dJ0_init_db425_89 (by decide) rfl
theorem r_189_90 (ls st : List Value) (a b : Int32) (ws : ai_W) : ai_Run 189 90 ls (.int b :: .int a :: st) ws = ai_Run 189 91 ls (.int (a <<< (b &&& 31)) :: st) ws := R_ishl hc_189 dJ0_init_db425_90 rfl
theorem r_189_91 (ls : List Value) (b0 : Value) (b1 : Int32) (b2 : Int32) (s0 : Value) (ws : ai_W) : ai_Run 189 91 ls [.int b2, .int b1, b0, s0] ws = (ai_Call 188 [b0, .int b1, .int b2] ws).bind fun q => ai_Run 189 94 ls (q.1.toList ++ [s0]) q.2 := R_callS hc_189 dJ0_init_db425_91 hv_189 (w := 957) rfl (ai_lt3 hf_188 hf_189 hL_188 ho_188 ho_189 rfl) hk_188 (by rw [hn_188]; rfl) rfl (Nat.le_of_ble_eq_true rfl) rfl
theorem r_189_94 (ls st : List Value) (a : Nat) (x : Value) (ws : ai_W) : ai_Run 189 94 ls (x :: .ref a :: st) ws = (ai_fput ws a 12 0 x).bind fun ws => ai_Run 189 97 ls st ws := R_putF hc_189 dJ0_init_db425_94 hv_189 (w := 979) rfl hk_189 rfl rfl
theorem r_189_97 (ls : List Value) (ws : ai_W) : ai_Run 189 97 ls [] ws = some (none, ws) := R_vret hc_189 dJ0_init_db425_97 ht_189
theorem dJ0_init_81219_0 : decode cJ0_init_81219 0 = .ok (.aload_n 0, 1) := by decide +kernel
theorem dJ0_init_81219_1 : decode cJ0_init_81219 1 = .ok (.aload_n 1, 1) := by decide +kernel
theorem dJ0_init_81219_2 : decode cJ0_init_81219 2 = .ok (.aconst_null, 1) := by decide +kernel
theorem dJ0_init_81219_3 : decode cJ0_init_81219 3 = .ok (.invokespecial 489, 3) := by decide +kernel
theorem dJ0_init_81219_6 : decode cJ0_init_81219 6 = .ok (.return_, 1) := by decide +kernel
theorem e_190 (r : Nat) (a0 : Nat) (ws : ai_W) : ai_Call 190 [.ref r, .ref a0] ws = if ai_isob ws r 12 = true then ai_Run 190 0 [.ref r, .ref a0] [] ws else none := R_entI hk_190 ⟨⟨rfl, rfl⟩, Nat.le_of_ble_eq_true rfl⟩ rfl
theorem r_190_0 (l1 : Value) (a : Nat) (st : List Value) (ws : ai_W) : ai_Run 190 0 [.ref a, l1] st ws = ai_Run 190 1 [.ref a, l1] (.ref a :: st) ws := R_aload_n hc_190 dJ0_init_81219_0 rfl rfl
theorem rx_190_0 (l1 : Value) {a : Nat} (hq : ¬ a = 23) (st : List Value) (ws : ai_W) : ai_Run 190 0 [.retAddr a, l1] st ws = ai_Run 190 1 [.retAddr a, l1] (.retAddr a :: st) ws := R_aload_nX hq hc_190 dJ0_init_81219_0 rfl rfl
theorem r_190_1 (l0 : Value) (a : Nat) (st : List Value) (ws : ai_W) : ai_Run 190 1 [l0, .ref a] st ws = ai_Run 190 2 [l0, .ref a] (.ref a :: st) ws := R_aload_n hc_190 dJ0_init_81219_1 rfl rfl
theorem rx_190_1 (l0 : Value) {a : Nat} (hq : ¬ a = 23) (st : List Value) (ws : ai_W) : ai_Run 190 1 [l0, .retAddr a] st ws = ai_Run 190 2 [l0, .retAddr a] (.retAddr a :: st) ws := R_aload_nX hq hc_190 dJ0_init_81219_1 rfl rfl
theorem r_190_2 (ls st : List Value) (ws : ai_W) : ai_Run 190 2 ls st ws = ai_Run 190 3 ls (.null :: st) ws := R_null hc_190 dJ0_init_81219_2 rfl
theorem r_190_3 (ls : List Value) (r : Value) (b0 : Value) (b1 : Value) (ws : ai_W) : ai_Run 190 3 ls [b1, b0, r] ws = (ai_Call 189 [r, b0, b1] ws).bind fun q => ai_Run 190 6 ls (q.1.toList ++ []) q.2 := R_callI hc_190 dJ0_init_81219_3 hv_190 (w := 939) (Or.inl rfl) (ai_lt3 hf_189 hf_190 hL_189 ho_189 ho_190 rfl) hk_189 (by rw [hn_189]; rfl) rfl (Nat.le_of_ble_eq_true rfl) rfl
theorem r_190_6 (ls : List Value) (ws : ai_W) : ai_Run 190 6 ls [] ws = some (none, ws) := R_vret hc_190 dJ0_init_81219_6 ht_190
theorem dJ4_toString_0e30d_0 : decode cJ4_toString_0e30d 0 = .ok (.new 18, 3) := by decide +kernel
theorem dJ4_toString_0e30d_3 : decode cJ4_toString_0e30d 3 = .ok (.dup, 1) := by decide +kernel
theorem dJ4_toString_0e30d_4 : decode cJ4_toString_0e30d 4 = .ok (.aload_n 0, 1) := by decide +kernel
theorem dJ4_toString_0e30d_5 : decode cJ4_toString_0e30d 5 = .ok (.invokespecial 137, 3) := by decide +kernel
theorem dJ4_toString_0e30d_8 : decode cJ4_toString_0e30d 8 = .ok (.areturn, 1) := by decide +kernel
theorem e_191 (r : Nat)  (ws : ai_W) : ai_Call 191 [.ref r] ws = if ai_isob ws r 11 = true then ai_Run 191 0 [.ref r] [] ws else none := R_entV hk_191 ⟨⟨rfl, rfl⟩, Nat.le_of_ble_eq_true rfl⟩ rfl
theorem r_191_0 (ls st : List Value) (ws : ai_W) : ai_Run 191 0 ls st ws = ai_Run 191 3 ls (.ref ws.length :: st) (ws ++ [ai_blank 12]) := R_new hc_191 dJ4_toString_0e30d_0 hv_191 (w1 := 934) (w2 := 935) (w3 := 38) rfl rfl
theorem r_191_3 (ls st : List Value) (a : Nat) (ws : ai_W) : ai_Run 191 3 ls (.ref a :: st) ws = ai_Run 191 4 ls (.ref a :: .ref a :: st) ws := R_dup hc_191 dJ4_toString_0e30d_3 rfl
theorem r_191_4 (a : Nat) (st : List Value) (ws : ai_W) : ai_Run 191 4 [.ref a] st ws = ai_Run 191 5 [.ref a] (.ref a :: st) ws := R_aload_n hc_191 dJ4_toString_0e30d_4 rfl rfl
theorem rx_191_4 {a : Nat} (hq : ¬ a = 23) (st : List Value) (ws : ai_W) : ai_Run 191 4 [.retAddr a] st ws = ai_Run 191 5 [.retAddr a] (.retAddr a :: st) ws := R_aload_nX hq hc_191 dJ4_toString_0e30d_4 rfl rfl
theorem r_191_5 (ls : List Value) (r : Value) (b0 : Value) (s0 : Value) (ws : ai_W) : ai_Run 191 5 ls [b0, r, s0] ws = (ai_Call 190 [r, b0] ws).bind fun q => ai_Run 191 8 ls (q.1.toList ++ [s0]) q.2 := R_callI hc_191 dJ4_toString_0e30d_5 hv_191 (w := 936) (Or.inl rfl) (ai_lt3 hf_190 hf_191 hL_190 ho_190 ho_191 rfl) hk_190 (by rw [hn_190]; rfl) rfl (Nat.le_of_ble_eq_true rfl) rfl
theorem r_191_8 (ls : List Value) (a : Nat) (ws : ai_W) : ai_Run 191 8 ls [.ref a] ws = some (some (.ref a), ws) := R_aret hc_191 dJ4_toString_0e30d_8 ht_191 rfl
theorem dJ0_isLatin1_aae02_0 : decode cJ0_isLatin1_aae02 0 = .ok (.getstatic 38, 3) := by decide +kernel
theorem dJ0_isLatin1_aae02_3 : decode cJ0_isLatin1_aae02 3 = .ok (.ifCond .eq 14, 3) := by decide +kernel
theorem dJ0_isLatin1_aae02_6 : decode cJ0_isLatin1_aae02 6 = .ok (.aload_n 0, 1) := by decide +kernel
theorem dJ0_isLatin1_aae02_7 : decode cJ0_isLatin1_aae02 7 = .ok (.getfield 15, 3) := by decide +kernel
theorem dJ0_isLatin1_aae02_10 : decode cJ0_isLatin1_aae02 10 = .ok (.ifCond .ne 7, 3) := by decide +kernel
theorem dJ0_isLatin1_aae02_13 : decode cJ0_isLatin1_aae02 13 = .ok (.iconst 1, 1) := by decide +kernel
theorem dJ0_isLatin1_aae02_14 : decode cJ0_isLatin1_aae02 14 = .ok (.goto 4, 3) := by decide +kernel
theorem dJ0_isLatin1_aae02_17 : decode cJ0_isLatin1_aae02 17 = .ok (.iconst 0, 1) := by decide +kernel
theorem dJ0_isLatin1_aae02_18 : decode cJ0_isLatin1_aae02 18 = .ok (.ireturn, 1) := by decide +kernel
theorem e_192 (r : Nat)  (ws : ai_W) : ai_Call 192 [.ref r] ws = if ai_isob ws r 12 = true then ai_Run 192 0 [.ref r] [] ws else none := R_entV hk_192 ⟨⟨rfl, rfl⟩, Nat.le_of_ble_eq_true rfl⟩ rfl
theorem r_192_0 (ls st : List Value) (ws : ai_W) : ai_Run 192 0 ls st ws = ai_Run 192 3 ls (.int 1 :: st) ws := R_gets hc_192 dJ0_isLatin1_aae02_0 (q := 0) (w := 867) rfl (Or.inl ⟨rfl, rfl⟩) rfl
theorem r_192_3 (ls st : List Value) (a : Int32) (ws : ai_W) : ai_Run 192 3 ls (.int a :: st) ws = if a = 0 then ai_Run 192 17 ls st ws else ai_Run 192 6 ls st ws := R_if_eq hc_192 dJ0_isLatin1_aae02_3 rfl rfl
theorem r_192_6 (a : Nat) (st : List Value) (ws : ai_W) : ai_Run 192 6 [.ref a] st ws = ai_Run 192 7 [.ref a] (.ref a :: st) ws := R_aload_n hc_192 dJ0_isLatin1_aae02_6 rfl rfl
theorem rx_192_6 {a : Nat} (hq : ¬ a = 23) (st : List Value) (ws : ai_W) : ai_Run 192 6 [.retAddr a] st ws = ai_Run 192 7 [.retAddr a] (.retAddr a :: st) ws := R_aload_nX hq hc_192 dJ0_isLatin1_aae02_6 rfl rfl
theorem r_192_7 (ls st : List Value) (a : Nat) (ws : ai_W) : ai_Run 192 7 ls (.ref a :: st) ws = (ai_fget ws a 12 1).bind fun q => ai_Run 192 10 ls (q :: st) ws := R_getf hc_192 dJ0_isLatin1_aae02_7 hv_192 (w := 980) rfl rfl
theorem rx_192_7 (ls st : List Value) (a : Nat) (ws : ai_W) : ai_Run 192 7 ls (.retAddr a :: st) ws = (ai_xget a 12 1).bind fun q => ai_Run 192 10 ls (q :: st) ws := R_getfX hc_192 dJ0_isLatin1_aae02_7 hv_192 (w := 980) rfl rfl
theorem r_192_10 (ls st : List Value) (a : Int32) (ws : ai_W) : ai_Run 192 10 ls (.int a :: st) ws = if a = 0 then ai_Run 192 13 ls st ws else ai_Run 192 17 ls st ws := R_if_ne hc_192 dJ0_isLatin1_aae02_10 rfl rfl
theorem r_192_13 (ls st : List Value) (ws : ai_W) : ai_Run 192 13 ls st ws = ai_Run 192 14 ls (.int 1 :: st) ws := R_iconst hc_192 dJ0_isLatin1_aae02_13 (by decide) rfl
theorem r_192_14 (ls st : List Value) (ws : ai_W) : ai_Run 192 14 ls st ws = ai_Run 192 18 ls st ws := R_goto hc_192 dJ0_isLatin1_aae02_14 rfl
theorem r_192_17 (ls st : List Value) (ws : ai_W) : ai_Run 192 17 ls st ws = ai_Run 192 18 ls (.int 0 :: st) ws := R_iconst hc_192 dJ0_isLatin1_aae02_17 (by decide) rfl
theorem r_192_18 (ls : List Value) (x : Int32) (ws : ai_W) : ai_Run 192 18 ls [.int x] ws = if ai_pb x = true then some (some (.int x), ws) else none := R_zret hc_192 dJ0_isLatin1_aae02_18 ht_192
theorem dJ3_checkIndex_8e157_0 : decode cJ3_checkIndex_8e157 0 = .ok (.iload_n 0, 1) := by decide +kernel
theorem dJ3_checkIndex_8e157_1 : decode cJ3_checkIndex_8e157 1 = .ok (.ifCond .lt 8, 3) := by decide +kernel
theorem dJ3_checkIndex_8e157_4 : decode cJ3_checkIndex_8e157 4 = .ok (.iload_n 0, 1) := by decide +kernel
theorem dJ3_checkIndex_8e157_5 : decode cJ3_checkIndex_8e157 5 = .ok (.iload_n 1, 1) := by decide +kernel
theorem dJ3_checkIndex_8e157_6 : decode cJ3_checkIndex_8e157 6 = .ok (.if_icmp .lt 10, 3) := by decide +kernel
theorem dJ3_checkIndex_8e157_9 : decode cJ3_checkIndex_8e157 9 = .ok (.aload_n 2, 1) := by decide +kernel
theorem dJ3_checkIndex_8e157_10 : decode cJ3_checkIndex_8e157 10 = .ok (.iload_n 0, 1) := by decide +kernel
theorem dJ3_checkIndex_8e157_11 : decode cJ3_checkIndex_8e157 11 = .ok (.iload_n 1, 1) := by decide +kernel
theorem dJ3_checkIndex_8e157_16 : decode cJ3_checkIndex_8e157 16 = .ok (.iload_n 0, 1) := by decide +kernel
theorem dJ3_checkIndex_8e157_17 : decode cJ3_checkIndex_8e157 17 = .ok (.ireturn, 1) := by decide +kernel
theorem e_193 (a0 : Int32) (a1 : Int32) (a2 : Nat) (ws : ai_W) : ai_Call 193 [.int a0, .int a1, .ref a2] ws = ai_Run 193 0 [.int a0, .int a1, .ref a2] [] ws := R_entS hk_193 ⟨⟨rfl, rfl⟩, Nat.le_of_ble_eq_true rfl⟩ rfl
theorem ex_193 (a0 : Int32) (a1 : Int32) (a2 : Nat) (ws : ai_W) : ai_Call 193 [.int a0, .int a1, .retAddr a2] ws = ai_Run 193 0 [.int a0, .int a1, .retAddr a2] [] ws := R_entS hk_193 ⟨⟨rfl, rfl⟩, Nat.le_of_ble_eq_true rfl⟩ rfl
theorem r_193_0 (l1 l2 : Value) (a : Int32) (st : List Value) (ws : ai_W) : ai_Run 193 0 [.int a, l1, l2] st ws = ai_Run 193 1 [.int a, l1, l2] (.int a :: st) ws := R_iload_n hc_193 dJ3_checkIndex_8e157_0 rfl rfl
theorem r_193_1 (ls st : List Value) (a : Int32) (ws : ai_W) : ai_Run 193 1 ls (.int a :: st) ws = if a < 0 then ai_Run 193 9 ls st ws else ai_Run 193 4 ls st ws := R_if_lt hc_193 dJ3_checkIndex_8e157_1 rfl rfl
theorem r_193_4 (l1 l2 : Value) (a : Int32) (st : List Value) (ws : ai_W) : ai_Run 193 4 [.int a, l1, l2] st ws = ai_Run 193 5 [.int a, l1, l2] (.int a :: st) ws := R_iload_n hc_193 dJ3_checkIndex_8e157_4 rfl rfl
theorem r_193_5 (l0 l2 : Value) (a : Int32) (st : List Value) (ws : ai_W) : ai_Run 193 5 [l0, .int a, l2] st ws = ai_Run 193 6 [l0, .int a, l2] (.int a :: st) ws := R_iload_n hc_193 dJ3_checkIndex_8e157_5 rfl rfl
theorem r_193_6 (ls st : List Value) (a b : Int32) (ws : ai_W) : ai_Run 193 6 ls (.int b :: .int a :: st) ws = if a < b then ai_Run 193 16 ls st ws else ai_Run 193 9 ls st ws := R_cmp_lt hc_193 dJ3_checkIndex_8e157_6 rfl rfl
theorem r_193_9 (l0 l1 : Value) (a : Nat) (st : List Value) (ws : ai_W) : ai_Run 193 9 [l0, l1, .ref a] st ws = ai_Run 193 10 [l0, l1, .ref a] (.ref a :: st) ws := R_aload_n hc_193 dJ3_checkIndex_8e157_9 rfl rfl
theorem rx_193_9 (l0 l1 : Value) {a : Nat} (hq : ¬ a = 23) (st : List Value) (ws : ai_W) : ai_Run 193 9 [l0, l1, .retAddr a] st ws = ai_Run 193 10 [l0, l1, .retAddr a] (.retAddr a :: st) ws := R_aload_nX hq hc_193 dJ3_checkIndex_8e157_9 rfl rfl
theorem r_193_10 (l1 l2 : Value) (a : Int32) (st : List Value) (ws : ai_W) : ai_Run 193 10 [.int a, l1, l2] st ws = ai_Run 193 11 [.int a, l1, l2] (.int a :: st) ws := R_iload_n hc_193 dJ3_checkIndex_8e157_10 rfl rfl
theorem r_193_11 (l0 l2 : Value) (a : Int32) (st : List Value) (ws : ai_W) : ai_Run 193 11 [l0, .int a, l2] st ws = ai_Run 193 12 [l0, .int a, l2] (.int a :: st) ws := R_iload_n hc_193 dJ3_checkIndex_8e157_11 rfl rfl
theorem r_193_16 (l1 l2 : Value) (a : Int32) (st : List Value) (ws : ai_W) : ai_Run 193 16 [.int a, l1, l2] st ws = ai_Run 193 17 [.int a, l1, l2] (.int a :: st) ws := R_iload_n hc_193 dJ3_checkIndex_8e157_16 rfl rfl
theorem r_193_17 (ls : List Value) (x : Int32) (ws : ai_W) : ai_Run 193 17 ls [.int x] ws = some (some (.int x), ws) := R_iret hc_193 dJ3_checkIndex_8e157_17 ht_193
theorem dJ0_checkIndex_df160_0 : decode cJ0_checkIndex_df160 0 = .ok (.iload_n 0, 1) := by decide +kernel
theorem dJ0_checkIndex_df160_1 : decode cJ0_checkIndex_df160 1 = .ok (.iload_n 1, 1) := by decide +kernel
theorem dJ0_checkIndex_df160_2 : decode cJ0_checkIndex_df160 2 = .ok (.getstatic 1053, 3) := by decide +kernel
theorem dJ0_checkIndex_df160_5 : decode cJ0_checkIndex_df160 5 = .ok (.invokestatic 1059, 3) := by decide +kernel
theorem dJ0_checkIndex_df160_8 : decode cJ0_checkIndex_df160 8 = .ok (.pop, 1) := by decide +kernel
theorem dJ0_checkIndex_df160_9 : decode cJ0_checkIndex_df160 9 = .ok (.return_, 1) := by decide +kernel
theorem e_194 (a0 : Int32) (a1 : Int32) (ws : ai_W) : ai_Call 194 [.int a0, .int a1] ws = ai_Run 194 0 [.int a0, .int a1] [] ws := R_entS hk_194 ⟨⟨rfl, rfl⟩, Nat.le_of_ble_eq_true rfl⟩ rfl
theorem r_194_0 (l1 : Value) (a : Int32) (st : List Value) (ws : ai_W) : ai_Run 194 0 [.int a, l1] st ws = ai_Run 194 1 [.int a, l1] (.int a :: st) ws := R_iload_n hc_194 dJ0_checkIndex_df160_0 rfl rfl
theorem r_194_1 (l0 : Value) (a : Int32) (st : List Value) (ws : ai_W) : ai_Run 194 1 [l0, .int a] st ws = ai_Run 194 2 [l0, .int a] (.int a :: st) ws := R_iload_n hc_194 dJ0_checkIndex_df160_1 rfl rfl
theorem r_194_2 (ls st : List Value) (ws : ai_W) : ai_Run 194 2 ls st ws = ai_Run 194 5 ls (.retAddr 23 :: st) ws := R_gets hc_194 dJ0_checkIndex_df160_2 (q := 3) (w := 845) rfl (Or.inr (Or.inr (Or.inr ⟨rfl, rfl⟩))) rfl
theorem r_194_5 (ls : List Value) (b0 : Int32) (b1 : Int32) (b2 : Value) (ws : ai_W) : ai_Run 194 5 ls [b2, .int b1, .int b0] ws = (ai_Call 193 [.int b0, .int b1, b2] ws).bind fun q => ai_Run 194 8 ls (q.1.toList ++ []) q.2 := R_callS hc_194 dJ0_checkIndex_df160_5 hv_194 (w := 1014) rfl (ai_lt3 hf_193 hf_194 hL_193 ho_193 ho_194 rfl) hk_193 (by rw [hn_193]; rfl) rfl (Nat.le_of_ble_eq_true rfl) rfl
theorem r_194_8 (ls st : List Value) (a : Int32) (ws : ai_W) : ai_Run 194 8 ls (.int a :: st) ws = ai_Run 194 9 ls st ws := R_pop hc_194 dJ0_checkIndex_df160_8 rfl
theorem r_194_9 (ls : List Value) (ws : ai_W) : ai_Run 194 9 ls [] ws = some (none, ws) := R_vret hc_194 dJ0_checkIndex_df160_9 ht_194
theorem dJ1_charAt_3b067_0 : decode cJ1_charAt_3b067 0 = .ok (.iload_n 1, 1) := by decide +kernel
theorem dJ1_charAt_3b067_1 : decode cJ1_charAt_3b067 1 = .ok (.aload_n 0, 1) := by decide +kernel
theorem dJ1_charAt_3b067_2 : decode cJ1_charAt_3b067 2 = .ok (.arraylength, 1) := by decide +kernel
theorem dJ1_charAt_3b067_3 : decode cJ1_charAt_3b067 3 = .ok (.invokestatic 9, 3) := by decide +kernel
theorem dJ1_charAt_3b067_6 : decode cJ1_charAt_3b067 6 = .ok (.aload_n 0, 1) := by decide +kernel
theorem dJ1_charAt_3b067_7 : decode cJ1_charAt_3b067 7 = .ok (.iload_n 1, 1) := by decide +kernel
theorem dJ1_charAt_3b067_8 : decode cJ1_charAt_3b067 8 = .ok (.baload, 1) := by decide +kernel
theorem dJ1_charAt_3b067_9 : decode cJ1_charAt_3b067 9 = .ok (.sipush 255, 3) := by decide +kernel
theorem dJ1_charAt_3b067_12 : decode cJ1_charAt_3b067 12 = .ok (.iand, 1) := by decide +kernel
theorem dJ1_charAt_3b067_13 : decode cJ1_charAt_3b067 13 = .ok (.i2c, 1) := by decide +kernel
theorem dJ1_charAt_3b067_14 : decode cJ1_charAt_3b067 14 = .ok (.ireturn, 1) := by decide +kernel
theorem e_195 (a0 : Nat) (a1 : Int32) (ws : ai_W) : ai_Call 195 [.ref a0, .int a1] ws = ai_Run 195 0 [.ref a0, .int a1] [] ws := R_entS hk_195 ⟨⟨rfl, rfl⟩, Nat.le_of_ble_eq_true rfl⟩ rfl
theorem r_195_0 (l0 : Value) (a : Int32) (st : List Value) (ws : ai_W) : ai_Run 195 0 [l0, .int a] st ws = ai_Run 195 1 [l0, .int a] (.int a :: st) ws := R_iload_n hc_195 dJ1_charAt_3b067_0 rfl rfl
theorem r_195_1 (l1 : Value) (a : Nat) (st : List Value) (ws : ai_W) : ai_Run 195 1 [.ref a, l1] st ws = ai_Run 195 2 [.ref a, l1] (.ref a :: st) ws := R_aload_n hc_195 dJ1_charAt_3b067_1 rfl rfl
theorem rx_195_1 (l1 : Value) {a : Nat} (hq : ¬ a = 23) (st : List Value) (ws : ai_W) : ai_Run 195 1 [.retAddr a, l1] st ws = ai_Run 195 2 [.retAddr a, l1] (.retAddr a :: st) ws := R_aload_nX hq hc_195 dJ1_charAt_3b067_1 rfl rfl
theorem r_195_2 (ls st : List Value) (a : Nat) (ws : ai_W) : ai_Run 195 2 ls (.ref a :: st) ws = (ai_len ws a).bind fun q => ai_Run 195 3 ls (.int q :: st) ws := R_arraylength hc_195 dJ1_charAt_3b067_2 rfl
theorem rx_195_2 (ls st : List Value) (a : Nat) (ws : ai_W) : ai_Run 195 2 ls (.retAddr a :: st) ws = (ai_xlen a).bind fun q => ai_Run 195 3 ls (.int q :: st) ws := R_alenX hc_195 dJ1_charAt_3b067_2 rfl
theorem r_195_3 (ls : List Value) (b0 : Int32) (b1 : Int32) (ws : ai_W) : ai_Run 195 3 ls [.int b1, .int b0] ws = (ai_Call 194 [.int b0, .int b1] ws).bind fun q => ai_Run 195 6 ls (q.1.toList ++ []) q.2 := R_callS hc_195 dJ1_charAt_3b067_3 hv_195 (w := 1011) rfl (ai_lt3 hf_194 hf_195 hL_194 ho_194 ho_195 rfl) hk_194 (by rw [hn_194]; rfl) rfl (Nat.le_of_ble_eq_true rfl) rfl
theorem r_195_6 (l1 : Value) (a : Nat) (st : List Value) (ws : ai_W) : ai_Run 195 6 [.ref a, l1] st ws = ai_Run 195 7 [.ref a, l1] (.ref a :: st) ws := R_aload_n hc_195 dJ1_charAt_3b067_6 rfl rfl
theorem rx_195_6 (l1 : Value) {a : Nat} (hq : ¬ a = 23) (st : List Value) (ws : ai_W) : ai_Run 195 6 [.retAddr a, l1] st ws = ai_Run 195 7 [.retAddr a, l1] (.retAddr a :: st) ws := R_aload_nX hq hc_195 dJ1_charAt_3b067_6 rfl rfl
theorem r_195_7 (l0 : Value) (a : Int32) (st : List Value) (ws : ai_W) : ai_Run 195 7 [l0, .int a] st ws = ai_Run 195 8 [l0, .int a] (.int a :: st) ws := R_iload_n hc_195 dJ1_charAt_3b067_7 rfl rfl
theorem r_195_8 (ls st : List Value) (a : Nat) (i : Int32) (ws : ai_W) : ai_Run 195 8 ls (.int i :: .ref a :: st) ws = (ai_bget ws a i).bind fun q => ai_Run 195 9 ls (.int q :: st) ws := R_baload hc_195 dJ1_charAt_3b067_8 rfl
theorem rx_195_8 (ls st : List Value) (a : Nat) (i : Int32) (ws : ai_W) : ai_Run 195 8 ls (.int i :: .retAddr a :: st) ws = (ai_xbget a i).bind fun q => ai_Run 195 9 ls (.int q :: st) ws := R_baloadX hc_195 dJ1_charAt_3b067_8 rfl
theorem r_195_9 (ls st : List Value) (ws : ai_W) : ai_Run 195 9 ls st ws = ai_Run 195 12 ls (.int 255 :: st) ws := R_sipush hc_195 dJ1_charAt_3b067_9 (by decide) rfl
theorem r_195_12 (ls st : List Value) (a b : Int32) (ws : ai_W) : ai_Run 195 12 ls (.int b :: .int a :: st) ws = ai_Run 195 13 ls (.int (a &&& b) :: st) ws := R_iand hc_195 dJ1_charAt_3b067_12 rfl
theorem r_195_13 (ls st : List Value) (a : Int32) (ws : ai_W) : ai_Run 195 13 ls (.int a :: st) ws = ai_Run 195 14 ls (.int (a.toUInt32 % 65536).toInt32 :: st) ws := R_i2c hc_195 dJ1_charAt_3b067_13 rfl
theorem r_195_14 (ls : List Value) (x : Int32) (ws : ai_W) : ai_Run 195 14 ls [.int x] ws = if ai_pchar x = true then some (some (.int x), ws) else none := R_cret hc_195 dJ1_charAt_3b067_14 ht_195
theorem dJ0_charAt_5068e_0 : decode cJ0_charAt_5068e 0 = .ok (.aload_n 0, 1) := by decide +kernel
theorem dJ0_charAt_5068e_1 : decode cJ0_charAt_5068e 1 = .ok (.invokevirtual 492, 3) := by decide +kernel
theorem dJ0_charAt_5068e_4 : decode cJ0_charAt_5068e 4 = .ok (.ifCond .eq 12, 3) := by decide +kernel
theorem dJ0_charAt_5068e_7 : decode cJ0_charAt_5068e 7 = .ok (.aload_n 0, 1) := by decide +kernel
theorem dJ0_charAt_5068e_8 : decode cJ0_charAt_5068e 8 = .ok (.getfield 9, 3) := by decide +kernel
theorem dJ0_charAt_5068e_11 : decode cJ0_charAt_5068e 11 = .ok (.iload_n 1, 1) := by decide +kernel
theorem dJ0_charAt_5068e_12 : decode cJ0_charAt_5068e 12 = .ok (.invokestatic 495, 3) := by decide +kernel
theorem dJ0_charAt_5068e_15 : decode cJ0_charAt_5068e 15 = .ok (.ireturn, 1) := by decide +kernel
theorem dJ0_charAt_5068e_16 : decode cJ0_charAt_5068e 16 = .ok (.aload_n 0, 1) := by decide +kernel
theorem dJ0_charAt_5068e_17 : decode cJ0_charAt_5068e 17 = .ok (.getfield 9, 3) := by decide +kernel
theorem dJ0_charAt_5068e_20 : decode cJ0_charAt_5068e 20 = .ok (.iload_n 1, 1) := by decide +kernel
theorem e_196 (r : Nat) (a0 : Int32) (ws : ai_W) : ai_Call 196 [.ref r, .int a0] ws = if ai_isob ws r 12 = true then ai_Run 196 0 [.ref r, .int a0] [] ws else none := R_entV hk_196 ⟨⟨rfl, rfl⟩, Nat.le_of_ble_eq_true rfl⟩ rfl
theorem r_196_0 (l1 : Value) (a : Nat) (st : List Value) (ws : ai_W) : ai_Run 196 0 [.ref a, l1] st ws = ai_Run 196 1 [.ref a, l1] (.ref a :: st) ws := R_aload_n hc_196 dJ0_charAt_5068e_0 rfl rfl
theorem rx_196_0 (l1 : Value) {a : Nat} (hq : ¬ a = 23) (st : List Value) (ws : ai_W) : ai_Run 196 0 [.retAddr a, l1] st ws = ai_Run 196 1 [.retAddr a, l1] (.retAddr a :: st) ws := R_aload_nX hq hc_196 dJ0_charAt_5068e_0 rfl rfl
theorem r_196_1 (ls : List Value) (r : Value) (ws : ai_W) : ai_Run 196 1 ls [r] ws = (ai_Call 192 [r] ws).bind fun q => ai_Run 196 4 ls (q.1.toList ++ []) q.2 := R_callV hc_196 dJ0_charAt_5068e_1 hv_196 (w := 1004) rfl (ai_lt3 hf_192 hf_196 hL_192 ho_192 ho_196 rfl) hk_192 (by rw [hn_192]; rfl) rfl (Nat.le_of_ble_eq_true rfl) rfl
theorem r_196_4 (ls st : List Value) (a : Int32) (ws : ai_W) : ai_Run 196 4 ls (.int a :: st) ws = if a = 0 then ai_Run 196 16 ls st ws else ai_Run 196 7 ls st ws := R_if_eq hc_196 dJ0_charAt_5068e_4 rfl rfl
theorem r_196_7 (l1 : Value) (a : Nat) (st : List Value) (ws : ai_W) : ai_Run 196 7 [.ref a, l1] st ws = ai_Run 196 8 [.ref a, l1] (.ref a :: st) ws := R_aload_n hc_196 dJ0_charAt_5068e_7 rfl rfl
theorem rx_196_7 (l1 : Value) {a : Nat} (hq : ¬ a = 23) (st : List Value) (ws : ai_W) : ai_Run 196 7 [.retAddr a, l1] st ws = ai_Run 196 8 [.retAddr a, l1] (.retAddr a :: st) ws := R_aload_nX hq hc_196 dJ0_charAt_5068e_7 rfl rfl
theorem r_196_8 (ls st : List Value) (a : Nat) (ws : ai_W) : ai_Run 196 8 ls (.ref a :: st) ws = (ai_fget ws a 12 0).bind fun q => ai_Run 196 11 ls (q :: st) ws := R_getf hc_196 dJ0_charAt_5068e_8 hv_196 (w := 979) rfl rfl
theorem rx_196_8 (ls st : List Value) (a : Nat) (ws : ai_W) : ai_Run 196 8 ls (.retAddr a :: st) ws = (ai_xget a 12 0).bind fun q => ai_Run 196 11 ls (q :: st) ws := R_getfX hc_196 dJ0_charAt_5068e_8 hv_196 (w := 979) rfl rfl
theorem r_196_11 (l0 : Value) (a : Int32) (st : List Value) (ws : ai_W) : ai_Run 196 11 [l0, .int a] st ws = ai_Run 196 12 [l0, .int a] (.int a :: st) ws := R_iload_n hc_196 dJ0_charAt_5068e_11 rfl rfl
theorem r_196_12 (ls : List Value) (b0 : Value) (b1 : Int32) (ws : ai_W) : ai_Run 196 12 ls [.int b1, b0] ws = (ai_Call 195 [b0, .int b1] ws).bind fun q => ai_Run 196 15 ls (q.1.toList ++ []) q.2 := R_callS hc_196 dJ0_charAt_5068e_12 hv_196 (w := 1008) rfl (ai_lt3 hf_195 hf_196 hL_195 ho_195 ho_196 rfl) hk_195 (by rw [hn_195]; rfl) rfl (Nat.le_of_ble_eq_true rfl) rfl
theorem r_196_15 (ls : List Value) (x : Int32) (ws : ai_W) : ai_Run 196 15 ls [.int x] ws = if ai_pchar x = true then some (some (.int x), ws) else none := R_cret hc_196 dJ0_charAt_5068e_15 ht_196
theorem r_196_16 (l1 : Value) (a : Nat) (st : List Value) (ws : ai_W) : ai_Run 196 16 [.ref a, l1] st ws = ai_Run 196 17 [.ref a, l1] (.ref a :: st) ws := R_aload_n hc_196 dJ0_charAt_5068e_16 rfl rfl
theorem rx_196_16 (l1 : Value) {a : Nat} (hq : ¬ a = 23) (st : List Value) (ws : ai_W) : ai_Run 196 16 [.retAddr a, l1] st ws = ai_Run 196 17 [.retAddr a, l1] (.retAddr a :: st) ws := R_aload_nX hq hc_196 dJ0_charAt_5068e_16 rfl rfl
theorem r_196_17 (ls st : List Value) (a : Nat) (ws : ai_W) : ai_Run 196 17 ls (.ref a :: st) ws = (ai_fget ws a 12 0).bind fun q => ai_Run 196 20 ls (q :: st) ws := R_getf hc_196 dJ0_charAt_5068e_17 hv_196 (w := 979) rfl rfl
theorem rx_196_17 (ls st : List Value) (a : Nat) (ws : ai_W) : ai_Run 196 17 ls (.retAddr a :: st) ws = (ai_xget a 12 0).bind fun q => ai_Run 196 20 ls (q :: st) ws := R_getfX hc_196 dJ0_charAt_5068e_17 hv_196 (w := 979) rfl rfl
theorem r_196_20 (l0 : Value) (a : Int32) (st : List Value) (ws : ai_W) : ai_Run 196 20 [l0, .int a] st ws = ai_Run 196 21 [l0, .int a] (.int a :: st) ws := R_iload_n hc_196 dJ0_charAt_5068e_20 rfl rfl
