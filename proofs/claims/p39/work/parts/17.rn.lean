/-! rules: printed by gen2.py -/
theorem dX8_init_0 : decode cX8_init 0 = .ok (.aload_n 0, 1) := by decide +kernel
theorem dX8_init_1 : decode cX8_init 1 = .ok (.invokespecial 1, 3) := by decide +kernel
theorem dX8_init_4 : decode cX8_init 4 = .ok (.aload_n 0, 1) := by decide +kernel
theorem dX8_init_5 : decode cX8_init 5 = .ok (.iload_n 1, 1) := by decide +kernel
theorem dX8_init_6 : decode cX8_init 6 = .ok (.iconst 0, 1) := by decide +kernel
theorem dX8_init_7 : decode cX8_init 7 = .ok (.invokestatic 7, 3) := by decide +kernel
theorem dX8_init_10 : decode cX8_init 10 = .ok (.newarray .int, 2) := by decide +kernel
theorem dX8_init_12 : decode cX8_init 12 = .ok (.putfield 13, 3) := by decide +kernel
theorem dX8_init_15 : decode cX8_init 15 = .ok (.iconst 0, 1) := by decide +kernel
theorem dX8_init_16 : decode cX8_init 16 = .ok (.istore_n 3, 1) := by decide +kernel
theorem dX8_init_17 : decode cX8_init 17 = .ok (.iload_n 3, 1) := by decide +kernel
theorem dX8_init_18 : decode cX8_init 18 = .ok (.aload_n 0, 1) := by decide +kernel
theorem dX8_init_19 : decode cX8_init 19 = .ok (.getfield 13, 3) := by decide +kernel
theorem dX8_init_22 : decode cX8_init 22 = .ok (.arraylength, 1) := by decide +kernel
theorem dX8_init_23 : decode cX8_init 23 = .ok (.if_icmp .ge 16, 3) := by decide +kernel
theorem dX8_init_26 : decode cX8_init 26 = .ok (.aload_n 0, 1) := by decide +kernel
theorem dX8_init_27 : decode cX8_init 27 = .ok (.getfield 13, 3) := by decide +kernel
theorem dX8_init_30 : decode cX8_init 30 = .ok (.iload_n 3, 1) := by decide +kernel
theorem dX8_init_31 : decode cX8_init 31 = .ok (.iload_n 2, 1) := by decide +kernel
theorem dX8_init_32 : decode cX8_init 32 = .ok (.iastore, 1) := by decide +kernel
theorem dX8_init_33 : decode cX8_init 33 = .ok (.iinc 3 1, 3) := by decide +kernel
theorem dX8_init_36 : decode cX8_init 36 = .ok (.goto (-19), 3) := by decide +kernel
theorem dX8_init_39 : decode cX8_init 39 = .ok (.return_, 1) := by decide +kernel
theorem e_1 (r : Nat) (a0 : Int32) (a1 : Int32) (ws : ai_W) : ai_Call 1 [.ref r, .int a0, .int a1] ws = if ai_isob ws r 8 = true then ai_Run 1 0 [.ref r, .int a0, .int a1, .null] [] ws else none := R_entI hk_1 ⟨⟨rfl, rfl⟩, Nat.le_of_ble_eq_true rfl⟩ rfl
theorem r_1_0 (l1 l2 l3 : Value) (a : Nat) (st : List Value) (ws : ai_W) : ai_Run 1 0 [.ref a, l1, l2, l3] st ws = ai_Run 1 1 [.ref a, l1, l2, l3] (.ref a :: st) ws := R_aload_n hc_1 dX8_init_0 rfl rfl
theorem r_1_1 (ls : List Value) (a : Nat) (ws : ai_W) : ai_Run 1 1 ls [.ref a] ws = ai_Run 1 4 ls [] ws := R_obj hc_1 dX8_init_1 hv_1 (y2 := 0) (w := 454) rfl (Nat.le_of_ble_eq_true rfl) (ai_nat_of hf_1 ho_1 rfl) rfl
theorem r_1_4 (l1 l2 l3 : Value) (a : Nat) (st : List Value) (ws : ai_W) : ai_Run 1 4 [.ref a, l1, l2, l3] st ws = ai_Run 1 5 [.ref a, l1, l2, l3] (.ref a :: st) ws := R_aload_n hc_1 dX8_init_4 rfl rfl
theorem r_1_5 (l0 l2 l3 : Value) (a : Int32) (st : List Value) (ws : ai_W) : ai_Run 1 5 [l0, .int a, l2, l3] st ws = ai_Run 1 6 [l0, .int a, l2, l3] (.int a :: st) ws := R_iload_n hc_1 dX8_init_5 rfl rfl
theorem r_1_6 (ls st : List Value) (ws : ai_W) : ai_Run 1 6 ls st ws = ai_Run 1 7 ls (.int 0 :: st) ws := R_iconst hc_1 dX8_init_6 (by decide) rfl
theorem r_1_7 (ls : List Value) (b0 : Int32) (b1 : Int32) (s0 : Value) (ws : ai_W) : ai_Run 1 7 ls [.int b1, .int b0, s0] ws = (ai_Call 0 [.int b0, .int b1] ws).bind fun q => ai_Run 1 10 ls (q.1.toList ++ [s0]) q.2 := R_callS hc_1 dX8_init_7 hv_1 (w := 455) rfl (ai_lt3 hf_0 hf_1 hL_0 ho_0 ho_1 rfl) hk_0 (by rw [hn_0]; rfl) rfl (Nat.le_of_ble_eq_true rfl) rfl
theorem r_1_10 (ls st : List Value) (q : Int32) (ws : ai_W) : ai_Run 1 10 ls (.int q :: st) ws = if q < 0 ∨ 100000 < q.toNatClampNeg then none else ai_Run 1 12 ls (.ref ws.length :: st) (ws ++ [.inl (List.replicate q.toNatClampNeg 0)]) := R_newa hc_1 dX8_init_10 rfl
theorem r_1_12 (ls st : List Value) (a : Nat) (x : Value) (ws : ai_W) : ai_Run 1 12 ls (x :: .ref a :: st) ws = (ai_fput ws a 8 0 x).bind fun ws => ai_Run 1 15 ls st ws := R_putF hc_1 dX8_init_12 hv_1 (w := 458) rfl hk_1 rfl rfl
theorem r_1_15 (ls st : List Value) (ws : ai_W) : ai_Run 1 15 ls st ws = ai_Run 1 16 ls (.int 0 :: st) ws := R_iconst hc_1 dX8_init_15 (by decide) rfl
theorem r_1_16 (l0 l1 l2 l3 : Value) (a : Int32) (st : List Value) (ws : ai_W) : ai_Run 1 16 [l0, l1, l2, l3] (.int a :: st) ws = ai_Run 1 17 [l0, l1, l2, .int a] st ws := R_istore_n hc_1 dX8_init_16 (Nat.le_of_ble_eq_true rfl) rfl rfl
theorem r_1_17 (l0 l1 l2 : Value) (a : Int32) (st : List Value) (ws : ai_W) : ai_Run 1 17 [l0, l1, l2, .int a] st ws = ai_Run 1 18 [l0, l1, l2, .int a] (.int a :: st) ws := R_iload_n hc_1 dX8_init_17 rfl rfl
theorem r_1_18 (l1 l2 l3 : Value) (a : Nat) (st : List Value) (ws : ai_W) : ai_Run 1 18 [.ref a, l1, l2, l3] st ws = ai_Run 1 19 [.ref a, l1, l2, l3] (.ref a :: st) ws := R_aload_n hc_1 dX8_init_18 rfl rfl
theorem r_1_19 (ls st : List Value) (a : Nat) (ws : ai_W) : ai_Run 1 19 ls (.ref a :: st) ws = (ai_fget ws a 8 0).bind fun q => ai_Run 1 22 ls (q :: st) ws := R_getf hc_1 dX8_init_19 hv_1 (w := 458) rfl rfl
theorem r_1_22 (ls st : List Value) (a : Nat) (ws : ai_W) : ai_Run 1 22 ls (.ref a :: st) ws = (ai_len ws a).bind fun q => ai_Run 1 23 ls (.int q :: st) ws := R_arraylength hc_1 dX8_init_22 rfl
theorem r_1_23 (ls st : List Value) (a b : Int32) (ws : ai_W) : ai_Run 1 23 ls (.int b :: .int a :: st) ws = if a < b then ai_Run 1 26 ls st ws else ai_Run 1 39 ls st ws := R_cmp_ge hc_1 dX8_init_23 rfl rfl
theorem r_1_26 (l1 l2 l3 : Value) (a : Nat) (st : List Value) (ws : ai_W) : ai_Run 1 26 [.ref a, l1, l2, l3] st ws = ai_Run 1 27 [.ref a, l1, l2, l3] (.ref a :: st) ws := R_aload_n hc_1 dX8_init_26 rfl rfl
theorem r_1_27 (ls st : List Value) (a : Nat) (ws : ai_W) : ai_Run 1 27 ls (.ref a :: st) ws = (ai_fget ws a 8 0).bind fun q => ai_Run 1 30 ls (q :: st) ws := R_getf hc_1 dX8_init_27 hv_1 (w := 458) rfl rfl
theorem r_1_30 (l0 l1 l2 : Value) (a : Int32) (st : List Value) (ws : ai_W) : ai_Run 1 30 [l0, l1, l2, .int a] st ws = ai_Run 1 31 [l0, l1, l2, .int a] (.int a :: st) ws := R_iload_n hc_1 dX8_init_30 rfl rfl
theorem r_1_31 (l0 l1 l3 : Value) (a : Int32) (st : List Value) (ws : ai_W) : ai_Run 1 31 [l0, l1, .int a, l3] st ws = ai_Run 1 32 [l0, l1, .int a, l3] (.int a :: st) ws := R_iload_n hc_1 dX8_init_31 rfl rfl
theorem r_1_32 (ls st : List Value) (a : Nat) (i x : Int32) (ws : ai_W) : ai_Run 1 32 ls (.int x :: .int i :: .ref a :: st) ws = (ai_aset ws a i x).bind fun ws => ai_Run 1 33 ls st ws := R_iastore hc_1 dX8_init_32 rfl
theorem r_1_33 (l0 l1 l2 : Value) (a : Int32) (st : List Value) (ws : ai_W) : ai_Run 1 33 [l0, l1, l2, .int a] st ws = ai_Run 1 36 [l0, l1, l2, .int (a + 1)] st ws := R_iinc hc_1 dX8_init_33 rfl (by decide) rfl rfl
theorem r_1_36 (ls st : List Value) (ws : ai_W) : ai_Run 1 36 ls st ws = ai_Run 1 17 ls st ws := R_goto hc_1 dX8_init_36 rfl
theorem r_1_39 (ls : List Value) (ws : ai_W) : ai_Run 1 39 ls [] ws = some (none, ws) := R_vret hc_1 dX8_init_39 ht_1
theorem dX0_init_0 : decode cX0_init 0 = .ok (.aload_n 0, 1) := by decide +kernel
theorem dX0_init_1 : decode cX0_init 1 = .ok (.invokespecial 3, 3) := by decide +kernel
theorem dX0_init_4 : decode cX0_init 4 = .ok (.aload_n 0, 1) := by decide +kernel
theorem dX0_init_5 : decode cX0_init 5 = .ok (.new 9, 3) := by decide +kernel
theorem dX0_init_8 : decode cX0_init 8 = .ok (.dup, 1) := by decide +kernel
theorem dX0_init_9 : decode cX0_init 9 = .ok (.bipush 8, 2) := by decide +kernel
theorem dX0_init_11 : decode cX0_init 11 = .ok (.iconst 0, 1) := by decide +kernel
theorem dX0_init_12 : decode cX0_init 12 = .ok (.invokespecial 11, 3) := by decide +kernel
theorem dX0_init_15 : decode cX0_init 15 = .ok (.putfield 14, 3) := by decide +kernel
theorem dX0_init_18 : decode cX0_init 18 = .ok (.aload_n 0, 1) := by decide +kernel
theorem dX0_init_19 : decode cX0_init 19 = .ok (.new 9, 3) := by decide +kernel
theorem dX0_init_22 : decode cX0_init 22 = .ok (.dup, 1) := by decide +kernel
theorem dX0_init_23 : decode cX0_init 23 = .ok (.bipush 48, 2) := by decide +kernel
theorem dX0_init_25 : decode cX0_init 25 = .ok (.iconst 0, 1) := by decide +kernel
theorem dX0_init_26 : decode cX0_init 26 = .ok (.invokespecial 11, 3) := by decide +kernel
theorem dX0_init_29 : decode cX0_init 29 = .ok (.putfield 20, 3) := by decide +kernel
theorem dX0_init_32 : decode cX0_init 32 = .ok (.aload_n 0, 1) := by decide +kernel
theorem dX0_init_33 : decode cX0_init 33 = .ok (.new 9, 3) := by decide +kernel
theorem dX0_init_36 : decode cX0_init 36 = .ok (.dup, 1) := by decide +kernel
theorem dX0_init_37 : decode cX0_init 37 = .ok (.bipush 24, 2) := by decide +kernel
theorem dX0_init_39 : decode cX0_init 39 = .ok (.bipush (-4), 2) := by decide +kernel
theorem dX0_init_41 : decode cX0_init 41 = .ok (.invokespecial 11, 3) := by decide +kernel
theorem dX0_init_44 : decode cX0_init 44 = .ok (.putfield 23, 3) := by decide +kernel
theorem dX0_init_47 : decode cX0_init 47 = .ok (.aload_n 0, 1) := by decide +kernel
theorem dX0_init_48 : decode cX0_init 48 = .ok (.new 9, 3) := by decide +kernel
theorem dX0_init_51 : decode cX0_init 51 = .ok (.dup, 1) := by decide +kernel
theorem dX0_init_52 : decode cX0_init 52 = .ok (.bipush 31, 2) := by decide +kernel
theorem dX0_init_54 : decode cX0_init 54 = .ok (.bipush (-4), 2) := by decide +kernel
theorem dX0_init_56 : decode cX0_init 56 = .ok (.invokespecial 11, 3) := by decide +kernel
theorem dX0_init_59 : decode cX0_init 59 = .ok (.putfield 26, 3) := by decide +kernel
theorem dX0_init_62 : decode cX0_init 62 = .ok (.aload_n 0, 1) := by decide +kernel
theorem dX0_init_63 : decode cX0_init 63 = .ok (.new 9, 3) := by decide +kernel
theorem dX0_init_66 : decode cX0_init 66 = .ok (.dup, 1) := by decide +kernel
theorem dX0_init_67 : decode cX0_init 67 = .ok (.iconst 4, 1) := by decide +kernel
theorem dX0_init_68 : decode cX0_init 68 = .ok (.iconst 0, 1) := by decide +kernel
theorem dX0_init_69 : decode cX0_init 69 = .ok (.invokespecial 11, 3) := by decide +kernel
theorem dX0_init_72 : decode cX0_init 72 = .ok (.putfield 29, 3) := by decide +kernel
theorem dX0_init_75 : decode cX0_init 75 = .ok (.aload_n 0, 1) := by decide +kernel
theorem dX0_init_76 : decode cX0_init 76 = .ok (.new 9, 3) := by decide +kernel
theorem dX0_init_79 : decode cX0_init 79 = .ok (.dup, 1) := by decide +kernel
theorem dX0_init_80 : decode cX0_init 80 = .ok (.bipush 64, 2) := by decide +kernel
theorem dX0_init_82 : decode cX0_init 82 = .ok (.iconst 0, 1) := by decide +kernel
theorem dX0_init_83 : decode cX0_init 83 = .ok (.invokespecial 11, 3) := by decide +kernel
theorem dX0_init_86 : decode cX0_init 86 = .ok (.putfield 32, 3) := by decide +kernel
theorem dX0_init_89 : decode cX0_init 89 = .ok (.aload_n 0, 1) := by decide +kernel
theorem dX0_init_90 : decode cX0_init 90 = .ok (.new 9, 3) := by decide +kernel
theorem dX0_init_93 : decode cX0_init 93 = .ok (.dup, 1) := by decide +kernel
theorem dX0_init_94 : decode cX0_init 94 = .ok (.bipush 7, 2) := by decide +kernel
theorem dX0_init_96 : decode cX0_init 96 = .ok (.iconst 0, 1) := by decide +kernel
theorem dX0_init_97 : decode cX0_init 97 = .ok (.invokespecial 11, 3) := by decide +kernel
theorem dX0_init_100 : decode cX0_init 100 = .ok (.putfield 35, 3) := by decide +kernel
theorem dX0_init_103 : decode cX0_init 103 = .ok (.return_, 1) := by decide +kernel
theorem e_2 (r : Nat)  (ws : ai_W) : ai_Call 2 [.ref r] ws = if ai_isob ws r 0 = true then ai_Run 2 0 [.ref r] [] ws else none := R_entI hk_2 ⟨⟨rfl, rfl⟩, Nat.le_of_ble_eq_true rfl⟩ rfl
theorem r_2_0 (a : Nat) (st : List Value) (ws : ai_W) : ai_Run 2 0 [.ref a] st ws = ai_Run 2 1 [.ref a] (.ref a :: st) ws := R_aload_n hc_2 dX0_init_0 rfl rfl
theorem r_2_1 (ls : List Value) (a : Nat) (ws : ai_W) : ai_Run 2 1 ls [.ref a] ws = ai_Run 2 4 ls [] ws := R_obj hc_2 dX0_init_1 hv_2 (y2 := 0) (w := 448) rfl (Nat.le_of_ble_eq_true rfl) (ai_nat_of hf_2 ho_2 rfl) rfl
theorem r_2_4 (a : Nat) (st : List Value) (ws : ai_W) : ai_Run 2 4 [.ref a] st ws = ai_Run 2 5 [.ref a] (.ref a :: st) ws := R_aload_n hc_2 dX0_init_4 rfl rfl
theorem r_2_5 (ls st : List Value) (ws : ai_W) : ai_Run 2 5 ls st ws = ai_Run 2 8 ls (.ref ws.length :: st) (ws ++ [ai_blank 8]) := R_new hc_2 dX0_init_5 hv_2 (w1 := 449) (w2 := 450) (w3 := 24) rfl rfl
theorem r_2_8 (ls st : List Value) (a : Nat) (ws : ai_W) : ai_Run 2 8 ls (.ref a :: st) ws = ai_Run 2 9 ls (.ref a :: .ref a :: st) ws := R_dup hc_2 dX0_init_8 rfl
theorem r_2_9 (ls st : List Value) (ws : ai_W) : ai_Run 2 9 ls st ws = ai_Run 2 11 ls (.int 8 :: st) ws := R_bipush hc_2 dX0_init_9 (by decide) rfl
theorem r_2_11 (ls st : List Value) (ws : ai_W) : ai_Run 2 11 ls st ws = ai_Run 2 12 ls (.int 0 :: st) ws := R_iconst hc_2 dX0_init_11 (by decide) rfl
theorem r_2_12 (ls : List Value) (r : Nat) (b0 : Int32) (b1 : Int32) (s0 s1 : Value) (ws : ai_W) : ai_Run 2 12 ls [.int b1, .int b0, .ref r, s0, s1] ws = (ai_Call 1 [.ref r, .int b0, .int b1] ws).bind fun q => ai_Run 2 15 ls (q.1.toList ++ [s0, s1]) q.2 := R_callI hc_2 dX0_init_12 hv_2 (w := 451) (Or.inl rfl) (ai_lt3 hf_1 hf_2 hL_1 ho_1 ho_2 rfl) hk_1 (by rw [hn_1]; rfl) rfl (Nat.le_of_ble_eq_true rfl) rfl
theorem r_2_15 (ls st : List Value) (a : Nat) (x : Value) (ws : ai_W) : ai_Run 2 15 ls (x :: .ref a :: st) ws = (ai_fput ws a 0 3 x).bind fun ws => ai_Run 2 18 ls st ws := R_putF hc_2 dX0_init_15 hv_2 (w := 475) rfl hk_2 rfl rfl
theorem r_2_18 (a : Nat) (st : List Value) (ws : ai_W) : ai_Run 2 18 [.ref a] st ws = ai_Run 2 19 [.ref a] (.ref a :: st) ws := R_aload_n hc_2 dX0_init_18 rfl rfl
theorem r_2_19 (ls st : List Value) (ws : ai_W) : ai_Run 2 19 ls st ws = ai_Run 2 22 ls (.ref ws.length :: st) (ws ++ [ai_blank 8]) := R_new hc_2 dX0_init_19 hv_2 (w1 := 449) (w2 := 450) (w3 := 24) rfl rfl
theorem r_2_22 (ls st : List Value) (a : Nat) (ws : ai_W) : ai_Run 2 22 ls (.ref a :: st) ws = ai_Run 2 23 ls (.ref a :: .ref a :: st) ws := R_dup hc_2 dX0_init_22 rfl
theorem r_2_23 (ls st : List Value) (ws : ai_W) : ai_Run 2 23 ls st ws = ai_Run 2 25 ls (.int 48 :: st) ws := R_bipush hc_2 dX0_init_23 (by decide) rfl
theorem r_2_25 (ls st : List Value) (ws : ai_W) : ai_Run 2 25 ls st ws = ai_Run 2 26 ls (.int 0 :: st) ws := R_iconst hc_2 dX0_init_25 (by decide) rfl
theorem r_2_26 (ls : List Value) (r : Nat) (b0 : Int32) (b1 : Int32) (s0 s1 : Value) (ws : ai_W) : ai_Run 2 26 ls [.int b1, .int b0, .ref r, s0, s1] ws = (ai_Call 1 [.ref r, .int b0, .int b1] ws).bind fun q => ai_Run 2 29 ls (q.1.toList ++ [s0, s1]) q.2 := R_callI hc_2 dX0_init_26 hv_2 (w := 451) (Or.inl rfl) (ai_lt3 hf_1 hf_2 hL_1 ho_1 ho_2 rfl) hk_1 (by rw [hn_1]; rfl) rfl (Nat.le_of_ble_eq_true rfl) rfl
theorem r_2_29 (ls st : List Value) (a : Nat) (x : Value) (ws : ai_W) : ai_Run 2 29 ls (x :: .ref a :: st) ws = (ai_fput ws a 0 4 x).bind fun ws => ai_Run 2 32 ls st ws := R_putF hc_2 dX0_init_29 hv_2 (w := 479) rfl hk_2 rfl rfl
theorem r_2_32 (a : Nat) (st : List Value) (ws : ai_W) : ai_Run 2 32 [.ref a] st ws = ai_Run 2 33 [.ref a] (.ref a :: st) ws := R_aload_n hc_2 dX0_init_32 rfl rfl
theorem r_2_33 (ls st : List Value) (ws : ai_W) : ai_Run 2 33 ls st ws = ai_Run 2 36 ls (.ref ws.length :: st) (ws ++ [ai_blank 8]) := R_new hc_2 dX0_init_33 hv_2 (w1 := 449) (w2 := 450) (w3 := 24) rfl rfl
theorem r_2_36 (ls st : List Value) (a : Nat) (ws : ai_W) : ai_Run 2 36 ls (.ref a :: st) ws = ai_Run 2 37 ls (.ref a :: .ref a :: st) ws := R_dup hc_2 dX0_init_36 rfl
theorem r_2_37 (ls st : List Value) (ws : ai_W) : ai_Run 2 37 ls st ws = ai_Run 2 39 ls (.int 24 :: st) ws := R_bipush hc_2 dX0_init_37 (by decide) rfl
theorem r_2_39 (ls st : List Value) (ws : ai_W) : ai_Run 2 39 ls st ws = ai_Run 2 41 ls (.int (-4) :: st) ws := R_bipush hc_2 dX0_init_39 (by decide) rfl
theorem r_2_41 (ls : List Value) (r : Nat) (b0 : Int32) (b1 : Int32) (s0 s1 : Value) (ws : ai_W) : ai_Run 2 41 ls [.int b1, .int b0, .ref r, s0, s1] ws = (ai_Call 1 [.ref r, .int b0, .int b1] ws).bind fun q => ai_Run 2 44 ls (q.1.toList ++ [s0, s1]) q.2 := R_callI hc_2 dX0_init_41 hv_2 (w := 451) (Or.inl rfl) (ai_lt3 hf_1 hf_2 hL_1 ho_1 ho_2 rfl) hk_1 (by rw [hn_1]; rfl) rfl (Nat.le_of_ble_eq_true rfl) rfl
theorem r_2_44 (ls st : List Value) (a : Nat) (x : Value) (ws : ai_W) : ai_Run 2 44 ls (x :: .ref a :: st) ws = (ai_fput ws a 0 5 x).bind fun ws => ai_Run 2 47 ls st ws := R_putF hc_2 dX0_init_44 hv_2 (w := 481) rfl hk_2 rfl rfl
theorem r_2_47 (a : Nat) (st : List Value) (ws : ai_W) : ai_Run 2 47 [.ref a] st ws = ai_Run 2 48 [.ref a] (.ref a :: st) ws := R_aload_n hc_2 dX0_init_47 rfl rfl
theorem r_2_48 (ls st : List Value) (ws : ai_W) : ai_Run 2 48 ls st ws = ai_Run 2 51 ls (.ref ws.length :: st) (ws ++ [ai_blank 8]) := R_new hc_2 dX0_init_48 hv_2 (w1 := 449) (w2 := 450) (w3 := 24) rfl rfl
theorem r_2_51 (ls st : List Value) (a : Nat) (ws : ai_W) : ai_Run 2 51 ls (.ref a :: st) ws = ai_Run 2 52 ls (.ref a :: .ref a :: st) ws := R_dup hc_2 dX0_init_51 rfl
theorem r_2_52 (ls st : List Value) (ws : ai_W) : ai_Run 2 52 ls st ws = ai_Run 2 54 ls (.int 31 :: st) ws := R_bipush hc_2 dX0_init_52 (by decide) rfl
theorem r_2_54 (ls st : List Value) (ws : ai_W) : ai_Run 2 54 ls st ws = ai_Run 2 56 ls (.int (-4) :: st) ws := R_bipush hc_2 dX0_init_54 (by decide) rfl
theorem r_2_56 (ls : List Value) (r : Nat) (b0 : Int32) (b1 : Int32) (s0 s1 : Value) (ws : ai_W) : ai_Run 2 56 ls [.int b1, .int b0, .ref r, s0, s1] ws = (ai_Call 1 [.ref r, .int b0, .int b1] ws).bind fun q => ai_Run 2 59 ls (q.1.toList ++ [s0, s1]) q.2 := R_callI hc_2 dX0_init_56 hv_2 (w := 451) (Or.inl rfl) (ai_lt3 hf_1 hf_2 hL_1 ho_1 ho_2 rfl) hk_1 (by rw [hn_1]; rfl) rfl (Nat.le_of_ble_eq_true rfl) rfl
theorem r_2_59 (ls st : List Value) (a : Nat) (x : Value) (ws : ai_W) : ai_Run 2 59 ls (x :: .ref a :: st) ws = (ai_fput ws a 0 6 x).bind fun ws => ai_Run 2 62 ls st ws := R_putF hc_2 dX0_init_59 hv_2 (w := 482) rfl hk_2 rfl rfl
theorem r_2_62 (a : Nat) (st : List Value) (ws : ai_W) : ai_Run 2 62 [.ref a] st ws = ai_Run 2 63 [.ref a] (.ref a :: st) ws := R_aload_n hc_2 dX0_init_62 rfl rfl
theorem r_2_63 (ls st : List Value) (ws : ai_W) : ai_Run 2 63 ls st ws = ai_Run 2 66 ls (.ref ws.length :: st) (ws ++ [ai_blank 8]) := R_new hc_2 dX0_init_63 hv_2 (w1 := 449) (w2 := 450) (w3 := 24) rfl rfl
theorem r_2_66 (ls st : List Value) (a : Nat) (ws : ai_W) : ai_Run 2 66 ls (.ref a :: st) ws = ai_Run 2 67 ls (.ref a :: .ref a :: st) ws := R_dup hc_2 dX0_init_66 rfl
theorem r_2_67 (ls st : List Value) (ws : ai_W) : ai_Run 2 67 ls st ws = ai_Run 2 68 ls (.int 4 :: st) ws := R_iconst hc_2 dX0_init_67 (by decide) rfl
theorem r_2_68 (ls st : List Value) (ws : ai_W) : ai_Run 2 68 ls st ws = ai_Run 2 69 ls (.int 0 :: st) ws := R_iconst hc_2 dX0_init_68 (by decide) rfl
theorem r_2_69 (ls : List Value) (r : Nat) (b0 : Int32) (b1 : Int32) (s0 s1 : Value) (ws : ai_W) : ai_Run 2 69 ls [.int b1, .int b0, .ref r, s0, s1] ws = (ai_Call 1 [.ref r, .int b0, .int b1] ws).bind fun q => ai_Run 2 72 ls (q.1.toList ++ [s0, s1]) q.2 := R_callI hc_2 dX0_init_69 hv_2 (w := 451) (Or.inl rfl) (ai_lt3 hf_1 hf_2 hL_1 ho_1 ho_2 rfl) hk_1 (by rw [hn_1]; rfl) rfl (Nat.le_of_ble_eq_true rfl) rfl
theorem r_2_72 (ls st : List Value) (a : Nat) (x : Value) (ws : ai_W) : ai_Run 2 72 ls (x :: .ref a :: st) ws = (ai_fput ws a 0 7 x).bind fun ws => ai_Run 2 75 ls st ws := R_putF hc_2 dX0_init_72 hv_2 (w := 486) rfl hk_2 rfl rfl
theorem r_2_75 (a : Nat) (st : List Value) (ws : ai_W) : ai_Run 2 75 [.ref a] st ws = ai_Run 2 76 [.ref a] (.ref a :: st) ws := R_aload_n hc_2 dX0_init_75 rfl rfl
theorem r_2_76 (ls st : List Value) (ws : ai_W) : ai_Run 2 76 ls st ws = ai_Run 2 79 ls (.ref ws.length :: st) (ws ++ [ai_blank 8]) := R_new hc_2 dX0_init_76 hv_2 (w1 := 449) (w2 := 450) (w3 := 24) rfl rfl
theorem r_2_79 (ls st : List Value) (a : Nat) (ws : ai_W) : ai_Run 2 79 ls (.ref a :: st) ws = ai_Run 2 80 ls (.ref a :: .ref a :: st) ws := R_dup hc_2 dX0_init_79 rfl
theorem r_2_80 (ls st : List Value) (ws : ai_W) : ai_Run 2 80 ls st ws = ai_Run 2 82 ls (.int 64 :: st) ws := R_bipush hc_2 dX0_init_80 (by decide) rfl
theorem r_2_82 (ls st : List Value) (ws : ai_W) : ai_Run 2 82 ls st ws = ai_Run 2 83 ls (.int 0 :: st) ws := R_iconst hc_2 dX0_init_82 (by decide) rfl
theorem r_2_83 (ls : List Value) (r : Nat) (b0 : Int32) (b1 : Int32) (s0 s1 : Value) (ws : ai_W) : ai_Run 2 83 ls [.int b1, .int b0, .ref r, s0, s1] ws = (ai_Call 1 [.ref r, .int b0, .int b1] ws).bind fun q => ai_Run 2 86 ls (q.1.toList ++ [s0, s1]) q.2 := R_callI hc_2 dX0_init_83 hv_2 (w := 451) (Or.inl rfl) (ai_lt3 hf_1 hf_2 hL_1 ho_1 ho_2 rfl) hk_1 (by rw [hn_1]; rfl) rfl (Nat.le_of_ble_eq_true rfl) rfl
theorem r_2_86 (ls st : List Value) (a : Nat) (x : Value) (ws : ai_W) : ai_Run 2 86 ls (x :: .ref a :: st) ws = (ai_fput ws a 0 8 x).bind fun ws => ai_Run 2 89 ls st ws := R_putF hc_2 dX0_init_86 hv_2 (w := 489) rfl hk_2 rfl rfl
theorem r_2_89 (a : Nat) (st : List Value) (ws : ai_W) : ai_Run 2 89 [.ref a] st ws = ai_Run 2 90 [.ref a] (.ref a :: st) ws := R_aload_n hc_2 dX0_init_89 rfl rfl
theorem r_2_90 (ls st : List Value) (ws : ai_W) : ai_Run 2 90 ls st ws = ai_Run 2 93 ls (.ref ws.length :: st) (ws ++ [ai_blank 8]) := R_new hc_2 dX0_init_90 hv_2 (w1 := 449) (w2 := 450) (w3 := 24) rfl rfl
theorem r_2_93 (ls st : List Value) (a : Nat) (ws : ai_W) : ai_Run 2 93 ls (.ref a :: st) ws = ai_Run 2 94 ls (.ref a :: .ref a :: st) ws := R_dup hc_2 dX0_init_93 rfl
theorem r_2_94 (ls st : List Value) (ws : ai_W) : ai_Run 2 94 ls st ws = ai_Run 2 96 ls (.int 7 :: st) ws := R_bipush hc_2 dX0_init_94 (by decide) rfl
theorem r_2_96 (ls st : List Value) (ws : ai_W) : ai_Run 2 96 ls st ws = ai_Run 2 97 ls (.int 0 :: st) ws := R_iconst hc_2 dX0_init_96 (by decide) rfl
theorem r_2_97 (ls : List Value) (r : Nat) (b0 : Int32) (b1 : Int32) (s0 s1 : Value) (ws : ai_W) : ai_Run 2 97 ls [.int b1, .int b0, .ref r, s0, s1] ws = (ai_Call 1 [.ref r, .int b0, .int b1] ws).bind fun q => ai_Run 2 100 ls (q.1.toList ++ [s0, s1]) q.2 := R_callI hc_2 dX0_init_97 hv_2 (w := 451) (Or.inl rfl) (ai_lt3 hf_1 hf_2 hL_1 ho_1 ho_2 rfl) hk_1 (by rw [hn_1]; rfl) rfl (Nat.le_of_ble_eq_true rfl) rfl
theorem r_2_100 (ls st : List Value) (a : Nat) (x : Value) (ws : ai_W) : ai_Run 2 100 ls (x :: .ref a :: st) ws = (ai_fput ws a 0 9 x).bind fun ws => ai_Run 2 103 ls st ws := R_putF hc_2 dX0_init_100 hv_2 (w := 491) rfl hk_2 rfl rfl
theorem r_2_103 (ls : List Value) (ws : ai_W) : ai_Run 2 103 ls [] ws = some (none, ws) := R_vret hc_2 dX0_init_103 ht_2
theorem dX4_init_0 : decode cX4_init 0 = .ok (.aload_n 0, 1) := by decide +kernel
theorem dX4_init_1 : decode cX4_init 1 = .ok (.invokespecial 3, 3) := by decide +kernel
theorem dX4_init_4 : decode cX4_init 4 = .ok (.aload_n 0, 1) := by decide +kernel
theorem dX4_init_5 : decode cX4_init 5 = .ok (.aload_n 1, 1) := by decide +kernel
theorem dX4_init_6 : decode cX4_init 6 = .ok (.putfield 9, 3) := by decide +kernel
theorem dX4_init_9 : decode cX4_init 9 = .ok (.return_, 1) := by decide +kernel
theorem e_3 (r : Nat) (a0 : Nat) (ws : ai_W) : ai_Call 3 [.ref r, .ref a0] ws = if ai_isob ws r 4 = true then ai_Run 3 0 [.ref r, .ref a0] [] ws else none := R_entI hk_3 ⟨⟨rfl, rfl⟩, Nat.le_of_ble_eq_true rfl⟩ rfl
theorem r_3_0 (l1 : Value) (a : Nat) (st : List Value) (ws : ai_W) : ai_Run 3 0 [.ref a, l1] st ws = ai_Run 3 1 [.ref a, l1] (.ref a :: st) ws := R_aload_n hc_3 dX4_init_0 rfl rfl
theorem r_3_1 (ls : List Value) (a : Nat) (ws : ai_W) : ai_Run 3 1 ls [.ref a] ws = ai_Run 3 4 ls [] ws := R_obj hc_3 dX4_init_1 hv_3 (y2 := 0) (w := 521) rfl (Nat.le_of_ble_eq_true rfl) (ai_nat_of hf_3 ho_3 rfl) rfl
theorem r_3_4 (l1 : Value) (a : Nat) (st : List Value) (ws : ai_W) : ai_Run 3 4 [.ref a, l1] st ws = ai_Run 3 5 [.ref a, l1] (.ref a :: st) ws := R_aload_n hc_3 dX4_init_4 rfl rfl
theorem r_3_5 (l0 : Value) (a : Nat) (st : List Value) (ws : ai_W) : ai_Run 3 5 [l0, .ref a] st ws = ai_Run 3 6 [l0, .ref a] (.ref a :: st) ws := R_aload_n hc_3 dX4_init_5 rfl rfl
theorem r_3_6 (ls st : List Value) (a : Nat) (x : Value) (ws : ai_W) : ai_Run 3 6 ls (x :: .ref a :: st) ws = (ai_fput ws a 4 0 x).bind fun ws => ai_Run 3 9 ls st ws := R_putF hc_3 dX4_init_6 hv_3 (w := 522) rfl hk_3 rfl rfl
theorem r_3_9 (ls : List Value) (ws : ai_W) : ai_Run 3 9 ls [] ws = some (none, ws) := R_vret hc_3 dX4_init_9 ht_3
theorem dX5_init_0 : decode cX5_init 0 = .ok (.aload_n 0, 1) := by decide +kernel
theorem dX5_init_1 : decode cX5_init 1 = .ok (.invokespecial 3, 3) := by decide +kernel
theorem dX5_init_4 : decode cX5_init 4 = .ok (.aload_n 0, 1) := by decide +kernel
theorem dX5_init_5 : decode cX5_init 5 = .ok (.aload_n 1, 1) := by decide +kernel
theorem dX5_init_6 : decode cX5_init 6 = .ok (.putfield 9, 3) := by decide +kernel
theorem dX5_init_9 : decode cX5_init 9 = .ok (.return_, 1) := by decide +kernel
theorem e_4 (r : Nat) (a0 : Nat) (ws : ai_W) : ai_Call 4 [.ref r, .ref a0] ws = if ai_isob ws r 5 = true then ai_Run 4 0 [.ref r, .ref a0] [] ws else none := R_entI hk_4 ⟨⟨rfl, rfl⟩, Nat.le_of_ble_eq_true rfl⟩ rfl
theorem r_4_0 (l1 : Value) (a : Nat) (st : List Value) (ws : ai_W) : ai_Run 4 0 [.ref a, l1] st ws = ai_Run 4 1 [.ref a, l1] (.ref a :: st) ws := R_aload_n hc_4 dX5_init_0 rfl rfl
theorem r_4_1 (ls : List Value) (a : Nat) (ws : ai_W) : ai_Run 4 1 ls [.ref a] ws = ai_Run 4 4 ls [] ws := R_obj hc_4 dX5_init_1 hv_4 (y2 := 0) (w := 530) rfl (Nat.le_of_ble_eq_true rfl) (ai_nat_of hf_4 ho_4 rfl) rfl
theorem r_4_4 (l1 : Value) (a : Nat) (st : List Value) (ws : ai_W) : ai_Run 4 4 [.ref a, l1] st ws = ai_Run 4 5 [.ref a, l1] (.ref a :: st) ws := R_aload_n hc_4 dX5_init_4 rfl rfl
theorem r_4_5 (l0 : Value) (a : Nat) (st : List Value) (ws : ai_W) : ai_Run 4 5 [l0, .ref a] st ws = ai_Run 4 6 [l0, .ref a] (.ref a :: st) ws := R_aload_n hc_4 dX5_init_5 rfl rfl
theorem r_4_6 (ls st : List Value) (a : Nat) (x : Value) (ws : ai_W) : ai_Run 4 6 ls (x :: .ref a :: st) ws = (ai_fput ws a 5 0 x).bind fun ws => ai_Run 4 9 ls st ws := R_putF hc_4 dX5_init_6 hv_4 (w := 531) rfl hk_4 rfl rfl
theorem r_4_9 (ls : List Value) (ws : ai_W) : ai_Run 4 9 ls [] ws = some (none, ws) := R_vret hc_4 dX5_init_9 ht_4
theorem dX7_init_0 : decode cX7_init 0 = .ok (.aload_n 0, 1) := by decide +kernel
theorem dX7_init_1 : decode cX7_init 1 = .ok (.invokespecial 3, 3) := by decide +kernel
theorem dX7_init_4 : decode cX7_init 4 = .ok (.aload_n 0, 1) := by decide +kernel
theorem dX7_init_5 : decode cX7_init 5 = .ok (.bipush (-4), 2) := by decide +kernel
theorem dX7_init_7 : decode cX7_init 7 = .ok (.putfield 9, 3) := by decide +kernel
theorem dX7_init_10 : decode cX7_init 10 = .ok (.aload_n 0, 1) := by decide +kernel
theorem dX7_init_11 : decode cX7_init 11 = .ok (.bipush (-4), 2) := by decide +kernel
theorem dX7_init_13 : decode cX7_init 13 = .ok (.putfield 15, 3) := by decide +kernel
theorem dX7_init_16 : decode cX7_init 16 = .ok (.aload_n 0, 1) := by decide +kernel
theorem dX7_init_17 : decode cX7_init 17 = .ok (.bipush (-4), 2) := by decide +kernel
theorem dX7_init_19 : decode cX7_init 19 = .ok (.putfield 18, 3) := by decide +kernel
theorem dX7_init_22 : decode cX7_init 22 = .ok (.aload_n 0, 1) := by decide +kernel
theorem dX7_init_23 : decode cX7_init 23 = .ok (.bipush (-4), 2) := by decide +kernel
theorem dX7_init_25 : decode cX7_init 25 = .ok (.putfield 21, 3) := by decide +kernel
theorem dX7_init_28 : decode cX7_init 28 = .ok (.return_, 1) := by decide +kernel
theorem e_5 (r : Nat)  (ws : ai_W) : ai_Call 5 [.ref r] ws = if ai_isob ws r 7 = true then ai_Run 5 0 [.ref r] [] ws else none := R_entI hk_5 ⟨⟨rfl, rfl⟩, Nat.le_of_ble_eq_true rfl⟩ rfl
theorem r_5_0 (a : Nat) (st : List Value) (ws : ai_W) : ai_Run 5 0 [.ref a] st ws = ai_Run 5 1 [.ref a] (.ref a :: st) ws := R_aload_n hc_5 dX7_init_0 rfl rfl
theorem r_5_1 (ls : List Value) (a : Nat) (ws : ai_W) : ai_Run 5 1 ls [.ref a] ws = ai_Run 5 4 ls [] ws := R_obj hc_5 dX7_init_1 hv_5 (y2 := 0) (w := 540) rfl (Nat.le_of_ble_eq_true rfl) (ai_nat_of hf_5 ho_5 rfl) rfl
theorem r_5_4 (a : Nat) (st : List Value) (ws : ai_W) : ai_Run 5 4 [.ref a] st ws = ai_Run 5 5 [.ref a] (.ref a :: st) ws := R_aload_n hc_5 dX7_init_4 rfl rfl
theorem r_5_5 (ls st : List Value) (ws : ai_W) : ai_Run 5 5 ls st ws = ai_Run 5 7 ls (.int (-4) :: st) ws := R_bipush hc_5 dX7_init_5 (by decide) rfl
theorem r_5_7 (ls st : List Value) (a : Nat) (x : Value) (ws : ai_W) : ai_Run 5 7 ls (x :: .ref a :: st) ws = (ai_fput ws a 7 0 x).bind fun ws => ai_Run 5 10 ls st ws := R_putF hc_5 dX7_init_7 hv_5 (w := 541) rfl hk_5 rfl rfl
theorem r_5_10 (a : Nat) (st : List Value) (ws : ai_W) : ai_Run 5 10 [.ref a] st ws = ai_Run 5 11 [.ref a] (.ref a :: st) ws := R_aload_n hc_5 dX7_init_10 rfl rfl
theorem r_5_11 (ls st : List Value) (ws : ai_W) : ai_Run 5 11 ls st ws = ai_Run 5 13 ls (.int (-4) :: st) ws := R_bipush hc_5 dX7_init_11 (by decide) rfl
theorem r_5_13 (ls st : List Value) (a : Nat) (x : Value) (ws : ai_W) : ai_Run 5 13 ls (x :: .ref a :: st) ws = (ai_fput ws a 7 1 x).bind fun ws => ai_Run 5 16 ls st ws := R_putF hc_5 dX7_init_13 hv_5 (w := 542) rfl hk_5 rfl rfl
theorem r_5_16 (a : Nat) (st : List Value) (ws : ai_W) : ai_Run 5 16 [.ref a] st ws = ai_Run 5 17 [.ref a] (.ref a :: st) ws := R_aload_n hc_5 dX7_init_16 rfl rfl
theorem r_5_17 (ls st : List Value) (ws : ai_W) : ai_Run 5 17 ls st ws = ai_Run 5 19 ls (.int (-4) :: st) ws := R_bipush hc_5 dX7_init_17 (by decide) rfl
theorem r_5_19 (ls st : List Value) (a : Nat) (x : Value) (ws : ai_W) : ai_Run 5 19 ls (x :: .ref a :: st) ws = (ai_fput ws a 7 2 x).bind fun ws => ai_Run 5 22 ls st ws := R_putF hc_5 dX7_init_19 hv_5 (w := 543) rfl hk_5 rfl rfl
theorem r_5_22 (a : Nat) (st : List Value) (ws : ai_W) : ai_Run 5 22 [.ref a] st ws = ai_Run 5 23 [.ref a] (.ref a :: st) ws := R_aload_n hc_5 dX7_init_22 rfl rfl
theorem r_5_23 (ls st : List Value) (ws : ai_W) : ai_Run 5 23 ls st ws = ai_Run 5 25 ls (.int (-4) :: st) ws := R_bipush hc_5 dX7_init_23 (by decide) rfl
theorem r_5_25 (ls st : List Value) (a : Nat) (x : Value) (ws : ai_W) : ai_Run 5 25 ls (x :: .ref a :: st) ws = (ai_fput ws a 7 3 x).bind fun ws => ai_Run 5 28 ls st ws := R_putF hc_5 dX7_init_25 hv_5 (w := 544) rfl hk_5 rfl rfl
theorem r_5_28 (ls : List Value) (ws : ai_W) : ai_Run 5 28 ls [] ws = some (none, ws) := R_vret hc_5 dX7_init_28 ht_5
theorem dX2_init_0 : decode cX2_init 0 = .ok (.aload_n 0, 1) := by decide +kernel
theorem dX2_init_1 : decode cX2_init 1 = .ok (.invokespecial 3, 3) := by decide +kernel
theorem dX2_init_4 : decode cX2_init 4 = .ok (.aload_n 0, 1) := by decide +kernel
theorem dX2_init_5 : decode cX2_init 5 = .ok (.new 9, 3) := by decide +kernel
theorem dX2_init_8 : decode cX2_init 8 = .ok (.dup, 1) := by decide +kernel
theorem dX2_init_9 : decode cX2_init 9 = .ok (.bipush 8, 2) := by decide +kernel
theorem dX2_init_11 : decode cX2_init 11 = .ok (.iconst 0, 1) := by decide +kernel
theorem dX2_init_12 : decode cX2_init 12 = .ok (.invokespecial 11, 3) := by decide +kernel
theorem dX2_init_15 : decode cX2_init 15 = .ok (.putfield 14, 3) := by decide +kernel
theorem dX2_init_18 : decode cX2_init 18 = .ok (.aload_n 0, 1) := by decide +kernel
theorem dX2_init_19 : decode cX2_init 19 = .ok (.aload_n 1, 1) := by decide +kernel
theorem dX2_init_20 : decode cX2_init 20 = .ok (.putfield 20, 3) := by decide +kernel
theorem dX2_init_23 : decode cX2_init 23 = .ok (.return_, 1) := by decide +kernel
theorem e_6 (r : Nat) (a0 : Nat) (ws : ai_W) : ai_Call 6 [.ref r, .ref a0] ws = if ai_isob ws r 2 = true then ai_Run 6 0 [.ref r, .ref a0] [] ws else none := R_entI hk_6 ⟨⟨rfl, rfl⟩, Nat.le_of_ble_eq_true rfl⟩ rfl
theorem r_6_0 (l1 : Value) (a : Nat) (st : List Value) (ws : ai_W) : ai_Run 6 0 [.ref a, l1] st ws = ai_Run 6 1 [.ref a, l1] (.ref a :: st) ws := R_aload_n hc_6 dX2_init_0 rfl rfl
theorem r_6_1 (ls : List Value) (a : Nat) (ws : ai_W) : ai_Run 6 1 ls [.ref a] ws = ai_Run 6 4 ls [] ws := R_obj hc_6 dX2_init_1 hv_6 (y2 := 0) (w := 558) rfl (Nat.le_of_ble_eq_true rfl) (ai_nat_of hf_6 ho_6 rfl) rfl
theorem r_6_4 (l1 : Value) (a : Nat) (st : List Value) (ws : ai_W) : ai_Run 6 4 [.ref a, l1] st ws = ai_Run 6 5 [.ref a, l1] (.ref a :: st) ws := R_aload_n hc_6 dX2_init_4 rfl rfl
theorem r_6_5 (ls st : List Value) (ws : ai_W) : ai_Run 6 5 ls st ws = ai_Run 6 8 ls (.ref ws.length :: st) (ws ++ [ai_blank 8]) := R_new hc_6 dX2_init_5 hv_6 (w1 := 559) (w2 := 450) (w3 := 24) rfl rfl
theorem r_6_8 (ls st : List Value) (a : Nat) (ws : ai_W) : ai_Run 6 8 ls (.ref a :: st) ws = ai_Run 6 9 ls (.ref a :: .ref a :: st) ws := R_dup hc_6 dX2_init_8 rfl
theorem r_6_9 (ls st : List Value) (ws : ai_W) : ai_Run 6 9 ls st ws = ai_Run 6 11 ls (.int 8 :: st) ws := R_bipush hc_6 dX2_init_9 (by decide) rfl
theorem r_6_11 (ls st : List Value) (ws : ai_W) : ai_Run 6 11 ls st ws = ai_Run 6 12 ls (.int 0 :: st) ws := R_iconst hc_6 dX2_init_11 (by decide) rfl
theorem r_6_12 (ls : List Value) (r : Nat) (b0 : Int32) (b1 : Int32) (s0 s1 : Value) (ws : ai_W) : ai_Run 6 12 ls [.int b1, .int b0, .ref r, s0, s1] ws = (ai_Call 1 [.ref r, .int b0, .int b1] ws).bind fun q => ai_Run 6 15 ls (q.1.toList ++ [s0, s1]) q.2 := R_callI hc_6 dX2_init_12 hv_6 (w := 560) (Or.inl rfl) (ai_lt3 hf_1 hf_6 hL_1 ho_1 ho_6 rfl) hk_1 (by rw [hn_1]; rfl) rfl (Nat.le_of_ble_eq_true rfl) rfl
theorem r_6_15 (ls st : List Value) (a : Nat) (x : Value) (ws : ai_W) : ai_Run 6 15 ls (x :: .ref a :: st) ws = (ai_fput ws a 2 1 x).bind fun ws => ai_Run 6 18 ls st ws := R_putF hc_6 dX2_init_15 hv_6 (w := 562) rfl hk_6 rfl rfl
theorem r_6_18 (l1 : Value) (a : Nat) (st : List Value) (ws : ai_W) : ai_Run 6 18 [.ref a, l1] st ws = ai_Run 6 19 [.ref a, l1] (.ref a :: st) ws := R_aload_n hc_6 dX2_init_18 rfl rfl
theorem r_6_19 (l0 : Value) (a : Nat) (st : List Value) (ws : ai_W) : ai_Run 6 19 [l0, .ref a] st ws = ai_Run 6 20 [l0, .ref a] (.ref a :: st) ws := R_aload_n hc_6 dX2_init_19 rfl rfl
theorem r_6_20 (ls st : List Value) (a : Nat) (x : Value) (ws : ai_W) : ai_Run 6 20 ls (x :: .ref a :: st) ws = (ai_fput ws a 2 0 x).bind fun ws => ai_Run 6 23 ls st ws := R_putF hc_6 dX2_init_20 hv_6 (w := 561) rfl hk_6 rfl rfl
theorem r_6_23 (ls : List Value) (ws : ai_W) : ai_Run 6 23 ls [] ws = some (none, ws) := R_vret hc_6 dX2_init_23 ht_6
theorem dX1_init_0 : decode cX1_init 0 = .ok (.aload_n 0, 1) := by decide +kernel
theorem dX1_init_1 : decode cX1_init 1 = .ok (.invokespecial 3, 3) := by decide +kernel
theorem dX1_init_4 : decode cX1_init 4 = .ok (.aload_n 0, 1) := by decide +kernel
theorem dX1_init_5 : decode cX1_init 5 = .ok (.aload_n 1, 1) := by decide +kernel
theorem dX1_init_6 : decode cX1_init 6 = .ok (.putfield 9, 3) := by decide +kernel
theorem dX1_init_9 : decode cX1_init 9 = .ok (.aload_n 0, 1) := by decide +kernel
theorem dX1_init_10 : decode cX1_init 10 = .ok (.aload_n 2, 1) := by decide +kernel
theorem dX1_init_11 : decode cX1_init 11 = .ok (.putfield 15, 3) := by decide +kernel
theorem dX1_init_14 : decode cX1_init 14 = .ok (.aload_n 0, 1) := by decide +kernel
theorem dX1_init_15 : decode cX1_init 15 = .ok (.aload_n 3, 1) := by decide +kernel
theorem dX1_init_16 : decode cX1_init 16 = .ok (.putfield 19, 3) := by decide +kernel
theorem dX1_init_19 : decode cX1_init 19 = .ok (.aload_n 0, 1) := by decide +kernel
theorem dX1_init_20 : decode cX1_init 20 = .ok (.aload 4, 2) := by decide +kernel
theorem dX1_init_22 : decode cX1_init 22 = .ok (.putfield 23, 3) := by decide +kernel
theorem dX1_init_25 : decode cX1_init 25 = .ok (.return_, 1) := by decide +kernel
theorem e_7 (r : Nat) (a0 : Nat) (a1 : Nat) (a2 : Nat) (a3 : Nat) (ws : ai_W) : ai_Call 7 [.ref r, .ref a0, .ref a1, .ref a2, .ref a3] ws = if ai_isob ws r 1 = true then ai_Run 7 0 [.ref r, .ref a0, .ref a1, .ref a2, .ref a3] [] ws else none := R_entI hk_7 ⟨⟨rfl, rfl⟩, Nat.le_of_ble_eq_true rfl⟩ rfl
theorem r_7_0 (l1 l2 l3 l4 : Value) (a : Nat) (st : List Value) (ws : ai_W) : ai_Run 7 0 [.ref a, l1, l2, l3, l4] st ws = ai_Run 7 1 [.ref a, l1, l2, l3, l4] (.ref a :: st) ws := R_aload_n hc_7 dX1_init_0 rfl rfl
theorem r_7_1 (ls : List Value) (a : Nat) (ws : ai_W) : ai_Run 7 1 ls [.ref a] ws = ai_Run 7 4 ls [] ws := R_obj hc_7 dX1_init_1 hv_7 (y2 := 0) (w := 572) rfl (Nat.le_of_ble_eq_true rfl) (ai_nat_of hf_7 ho_7 rfl) rfl
theorem r_7_4 (l1 l2 l3 l4 : Value) (a : Nat) (st : List Value) (ws : ai_W) : ai_Run 7 4 [.ref a, l1, l2, l3, l4] st ws = ai_Run 7 5 [.ref a, l1, l2, l3, l4] (.ref a :: st) ws := R_aload_n hc_7 dX1_init_4 rfl rfl
theorem r_7_5 (l0 l2 l3 l4 : Value) (a : Nat) (st : List Value) (ws : ai_W) : ai_Run 7 5 [l0, .ref a, l2, l3, l4] st ws = ai_Run 7 6 [l0, .ref a, l2, l3, l4] (.ref a :: st) ws := R_aload_n hc_7 dX1_init_5 rfl rfl
theorem r_7_6 (ls st : List Value) (a : Nat) (x : Value) (ws : ai_W) : ai_Run 7 6 ls (x :: .ref a :: st) ws = (ai_fput ws a 1 0 x).bind fun ws => ai_Run 7 9 ls st ws := R_putF hc_7 dX1_init_6 hv_7 (w := 573) rfl hk_7 rfl rfl
theorem r_7_9 (l1 l2 l3 l4 : Value) (a : Nat) (st : List Value) (ws : ai_W) : ai_Run 7 9 [.ref a, l1, l2, l3, l4] st ws = ai_Run 7 10 [.ref a, l1, l2, l3, l4] (.ref a :: st) ws := R_aload_n hc_7 dX1_init_9 rfl rfl
theorem r_7_10 (l0 l1 l3 l4 : Value) (a : Nat) (st : List Value) (ws : ai_W) : ai_Run 7 10 [l0, l1, .ref a, l3, l4] st ws = ai_Run 7 11 [l0, l1, .ref a, l3, l4] (.ref a :: st) ws := R_aload_n hc_7 dX1_init_10 rfl rfl
theorem r_7_11 (ls st : List Value) (a : Nat) (x : Value) (ws : ai_W) : ai_Run 7 11 ls (x :: .ref a :: st) ws = (ai_fput ws a 1 1 x).bind fun ws => ai_Run 7 14 ls st ws := R_putF hc_7 dX1_init_11 hv_7 (w := 574) rfl hk_7 rfl rfl
theorem r_7_14 (l1 l2 l3 l4 : Value) (a : Nat) (st : List Value) (ws : ai_W) : ai_Run 7 14 [.ref a, l1, l2, l3, l4] st ws = ai_Run 7 15 [.ref a, l1, l2, l3, l4] (.ref a :: st) ws := R_aload_n hc_7 dX1_init_14 rfl rfl
theorem r_7_15 (l0 l1 l2 l4 : Value) (a : Nat) (st : List Value) (ws : ai_W) : ai_Run 7 15 [l0, l1, l2, .ref a, l4] st ws = ai_Run 7 16 [l0, l1, l2, .ref a, l4] (.ref a :: st) ws := R_aload_n hc_7 dX1_init_15 rfl rfl
theorem r_7_16 (ls st : List Value) (a : Nat) (x : Value) (ws : ai_W) : ai_Run 7 16 ls (x :: .ref a :: st) ws = (ai_fput ws a 1 2 x).bind fun ws => ai_Run 7 19 ls st ws := R_putF hc_7 dX1_init_16 hv_7 (w := 575) rfl hk_7 rfl rfl
theorem r_7_19 (l1 l2 l3 l4 : Value) (a : Nat) (st : List Value) (ws : ai_W) : ai_Run 7 19 [.ref a, l1, l2, l3, l4] st ws = ai_Run 7 20 [.ref a, l1, l2, l3, l4] (.ref a :: st) ws := R_aload_n hc_7 dX1_init_19 rfl rfl
theorem r_7_20 (l0 l1 l2 l3 : Value) (a : Nat) (st : List Value) (ws : ai_W) : ai_Run 7 20 [l0, l1, l2, l3, .ref a] st ws = ai_Run 7 22 [l0, l1, l2, l3, .ref a] (.ref a :: st) ws := R_aload hc_7 dX1_init_20 rfl rfl
theorem r_7_22 (ls st : List Value) (a : Nat) (x : Value) (ws : ai_W) : ai_Run 7 22 ls (x :: .ref a :: st) ws = (ai_fput ws a 1 3 x).bind fun ws => ai_Run 7 25 ls st ws := R_putF hc_7 dX1_init_22 hv_7 (w := 576) rfl hk_7 rfl rfl
theorem r_7_25 (ls : List Value) (ws : ai_W) : ai_Run 7 25 ls [] ws = some (none, ws) := R_vret hc_7 dX1_init_25 ht_7
theorem dX3_init_0 : decode cX3_init 0 = .ok (.aload_n 0, 1) := by decide +kernel
theorem dX3_init_1 : decode cX3_init 1 = .ok (.invokespecial 3, 3) := by decide +kernel
theorem dX3_init_4 : decode cX3_init 4 = .ok (.aload_n 0, 1) := by decide +kernel
theorem dX3_init_5 : decode cX3_init 5 = .ok (.bipush 9, 2) := by decide +kernel
theorem dX3_init_7 : decode cX3_init 7 = .ok (.anewarray 9, 3) := by decide +kernel
theorem dX3_init_10 : decode cX3_init 10 = .ok (.putfield 11, 3) := by decide +kernel
theorem dX3_init_13 : decode cX3_init 13 = .ok (.aload_n 0, 1) := by decide +kernel
theorem dX3_init_14 : decode cX3_init 14 = .ok (.new 9, 3) := by decide +kernel
theorem dX3_init_17 : decode cX3_init 17 = .ok (.dup, 1) := by decide +kernel
theorem dX3_init_18 : decode cX3_init 18 = .ok (.invokespecial 17, 3) := by decide +kernel
theorem dX3_init_21 : decode cX3_init 21 = .ok (.putfield 18, 3) := by decide +kernel
theorem dX3_init_24 : decode cX3_init 24 = .ok (.iconst 0, 1) := by decide +kernel
theorem dX3_init_25 : decode cX3_init 25 = .ok (.istore_n 1, 1) := by decide +kernel
theorem dX3_init_26 : decode cX3_init 26 = .ok (.iload_n 1, 1) := by decide +kernel
theorem dX3_init_27 : decode cX3_init 27 = .ok (.aload_n 0, 1) := by decide +kernel
theorem dX3_init_28 : decode cX3_init 28 = .ok (.getfield 11, 3) := by decide +kernel
theorem dX3_init_31 : decode cX3_init 31 = .ok (.arraylength, 1) := by decide +kernel
theorem dX3_init_32 : decode cX3_init 32 = .ok (.if_icmp .ge 22, 3) := by decide +kernel
theorem dX3_init_35 : decode cX3_init 35 = .ok (.aload_n 0, 1) := by decide +kernel
theorem dX3_init_36 : decode cX3_init 36 = .ok (.getfield 11, 3) := by decide +kernel
theorem dX3_init_39 : decode cX3_init 39 = .ok (.iload_n 1, 1) := by decide +kernel
theorem dX3_init_40 : decode cX3_init 40 = .ok (.new 9, 3) := by decide +kernel
theorem dX3_init_43 : decode cX3_init 43 = .ok (.dup, 1) := by decide +kernel
theorem dX3_init_44 : decode cX3_init 44 = .ok (.invokespecial 17, 3) := by decide +kernel
theorem dX3_init_47 : decode cX3_init 47 = .ok (.aastore, 1) := by decide +kernel
theorem dX3_init_48 : decode cX3_init 48 = .ok (.iinc 1 1, 3) := by decide +kernel
theorem dX3_init_51 : decode cX3_init 51 = .ok (.goto (-25), 3) := by decide +kernel
theorem dX3_init_54 : decode cX3_init 54 = .ok (.return_, 1) := by decide +kernel
theorem e_8 (r : Nat)  (ws : ai_W) : ai_Call 8 [.ref r] ws = if ai_isob ws r 3 = true then ai_Run 8 0 [.ref r, .null] [] ws else none := R_entI hk_8 ⟨⟨rfl, rfl⟩, Nat.le_of_ble_eq_true rfl⟩ rfl
theorem r_8_0 (l1 : Value) (a : Nat) (st : List Value) (ws : ai_W) : ai_Run 8 0 [.ref a, l1] st ws = ai_Run 8 1 [.ref a, l1] (.ref a :: st) ws := R_aload_n hc_8 dX3_init_0 rfl rfl
theorem r_8_1 (ls : List Value) (a : Nat) (ws : ai_W) : ai_Run 8 1 ls [.ref a] ws = ai_Run 8 4 ls [] ws := R_obj hc_8 dX3_init_1 hv_8 (y2 := 0) (w := 590) rfl (Nat.le_of_ble_eq_true rfl) (ai_nat_of hf_8 ho_8 rfl) rfl
theorem r_8_4 (l1 : Value) (a : Nat) (st : List Value) (ws : ai_W) : ai_Run 8 4 [.ref a, l1] st ws = ai_Run 8 5 [.ref a, l1] (.ref a :: st) ws := R_aload_n hc_8 dX3_init_4 rfl rfl
theorem r_8_5 (ls st : List Value) (ws : ai_W) : ai_Run 8 5 ls st ws = ai_Run 8 7 ls (.int 9 :: st) ws := R_bipush hc_8 dX3_init_5 (by decide) rfl
theorem r_8_7 (ls st : List Value) (q : Int32) (ws : ai_W) : ai_Run 8 7 ls (.int q :: st) ws = if q < 0 ∨ 100000 < q.toNatClampNeg then none else ai_Run 8 10 ls (.ref ws.length :: st) (ws ++ [.inr (.inl (List.replicate q.toNatClampNeg none))]) := R_newq hc_8 dX3_init_7 hv_8 (w1 := 591) (w2 := 444) (w3 := 23) rfl rfl
theorem r_8_10 (ls st : List Value) (a : Nat) (x : Value) (ws : ai_W) : ai_Run 8 10 ls (x :: .ref a :: st) ws = (ai_fput ws a 3 0 x).bind fun ws => ai_Run 8 13 ls st ws := R_putF hc_8 dX3_init_10 hv_8 (w := 594) rfl hk_8 rfl rfl
theorem r_8_13 (l1 : Value) (a : Nat) (st : List Value) (ws : ai_W) : ai_Run 8 13 [.ref a, l1] st ws = ai_Run 8 14 [.ref a, l1] (.ref a :: st) ws := R_aload_n hc_8 dX3_init_13 rfl rfl
theorem r_8_14 (ls st : List Value) (ws : ai_W) : ai_Run 8 14 ls st ws = ai_Run 8 17 ls (.ref ws.length :: st) (ws ++ [ai_blank 0]) := R_new hc_8 dX3_init_14 hv_8 (w1 := 591) (w2 := 444) (w3 := 23) rfl rfl
theorem r_8_17 (ls st : List Value) (a : Nat) (ws : ai_W) : ai_Run 8 17 ls (.ref a :: st) ws = ai_Run 8 18 ls (.ref a :: .ref a :: st) ws := R_dup hc_8 dX3_init_17 rfl
theorem r_8_18 (ls : List Value) (r : Nat) (s0 s1 : Value) (ws : ai_W) : ai_Run 8 18 ls [.ref r, s0, s1] ws = (ai_Call 2 [.ref r] ws).bind fun q => ai_Run 8 21 ls (q.1.toList ++ [s0, s1]) q.2 := R_callI hc_8 dX3_init_18 hv_8 (w := 593) (Or.inr rfl) (ai_lt3 hf_2 hf_8 hL_2 ho_2 ho_8 rfl) hk_2 (by rw [hn_2]; rfl) rfl (Nat.le_of_ble_eq_true rfl) rfl
theorem r_8_21 (ls st : List Value) (a : Nat) (x : Value) (ws : ai_W) : ai_Run 8 21 ls (x :: .ref a :: st) ws = (ai_fput ws a 3 1 x).bind fun ws => ai_Run 8 24 ls st ws := R_putF hc_8 dX3_init_21 hv_8 (w := 595) rfl hk_8 rfl rfl
theorem r_8_24 (ls st : List Value) (ws : ai_W) : ai_Run 8 24 ls st ws = ai_Run 8 25 ls (.int 0 :: st) ws := R_iconst hc_8 dX3_init_24 (by decide) rfl
theorem r_8_25 (l0 l1 : Value) (a : Int32) (st : List Value) (ws : ai_W) : ai_Run 8 25 [l0, l1] (.int a :: st) ws = ai_Run 8 26 [l0, .int a] st ws := R_istore_n hc_8 dX3_init_25 (Nat.le_of_ble_eq_true rfl) rfl rfl
theorem r_8_26 (l0 : Value) (a : Int32) (st : List Value) (ws : ai_W) : ai_Run 8 26 [l0, .int a] st ws = ai_Run 8 27 [l0, .int a] (.int a :: st) ws := R_iload_n hc_8 dX3_init_26 rfl rfl
theorem r_8_27 (l1 : Value) (a : Nat) (st : List Value) (ws : ai_W) : ai_Run 8 27 [.ref a, l1] st ws = ai_Run 8 28 [.ref a, l1] (.ref a :: st) ws := R_aload_n hc_8 dX3_init_27 rfl rfl
theorem r_8_28 (ls st : List Value) (a : Nat) (ws : ai_W) : ai_Run 8 28 ls (.ref a :: st) ws = (ai_fget ws a 3 0).bind fun q => ai_Run 8 31 ls (q :: st) ws := R_getf hc_8 dX3_init_28 hv_8 (w := 594) rfl rfl
theorem r_8_31 (ls st : List Value) (a : Nat) (ws : ai_W) : ai_Run 8 31 ls (.ref a :: st) ws = (ai_len ws a).bind fun q => ai_Run 8 32 ls (.int q :: st) ws := R_arraylength hc_8 dX3_init_31 rfl
theorem r_8_32 (ls st : List Value) (a b : Int32) (ws : ai_W) : ai_Run 8 32 ls (.int b :: .int a :: st) ws = if a < b then ai_Run 8 35 ls st ws else ai_Run 8 54 ls st ws := R_cmp_ge hc_8 dX3_init_32 rfl rfl
theorem r_8_35 (l1 : Value) (a : Nat) (st : List Value) (ws : ai_W) : ai_Run 8 35 [.ref a, l1] st ws = ai_Run 8 36 [.ref a, l1] (.ref a :: st) ws := R_aload_n hc_8 dX3_init_35 rfl rfl
theorem r_8_36 (ls st : List Value) (a : Nat) (ws : ai_W) : ai_Run 8 36 ls (.ref a :: st) ws = (ai_fget ws a 3 0).bind fun q => ai_Run 8 39 ls (q :: st) ws := R_getf hc_8 dX3_init_36 hv_8 (w := 594) rfl rfl
theorem r_8_39 (l0 : Value) (a : Int32) (st : List Value) (ws : ai_W) : ai_Run 8 39 [l0, .int a] st ws = ai_Run 8 40 [l0, .int a] (.int a :: st) ws := R_iload_n hc_8 dX3_init_39 rfl rfl
theorem r_8_40 (ls st : List Value) (ws : ai_W) : ai_Run 8 40 ls st ws = ai_Run 8 43 ls (.ref ws.length :: st) (ws ++ [ai_blank 0]) := R_new hc_8 dX3_init_40 hv_8 (w1 := 591) (w2 := 444) (w3 := 23) rfl rfl
theorem r_8_43 (ls st : List Value) (a : Nat) (ws : ai_W) : ai_Run 8 43 ls (.ref a :: st) ws = ai_Run 8 44 ls (.ref a :: .ref a :: st) ws := R_dup hc_8 dX3_init_43 rfl
theorem r_8_44 (ls : List Value) (r : Nat) (s0 s1 s2 : Value) (ws : ai_W) : ai_Run 8 44 ls [.ref r, s0, s1, s2] ws = (ai_Call 2 [.ref r] ws).bind fun q => ai_Run 8 47 ls (q.1.toList ++ [s0, s1, s2]) q.2 := R_callI hc_8 dX3_init_44 hv_8 (w := 593) (Or.inr rfl) (ai_lt3 hf_2 hf_8 hL_2 ho_2 ho_8 rfl) hk_2 (by rw [hn_2]; rfl) rfl (Nat.le_of_ble_eq_true rfl) rfl
theorem r_8_47 (ls st : List Value) (a x : Nat) (i : Int32) (ws : ai_W) : ai_Run 8 47 ls (.ref x :: .int i :: .ref a :: st) ws = (ai_qset ws a i x).bind fun ws => ai_Run 8 48 ls st ws := R_aastore hc_8 dX3_init_47 rfl
theorem r_8_48 (l0 : Value) (a : Int32) (st : List Value) (ws : ai_W) : ai_Run 8 48 [l0, .int a] st ws = ai_Run 8 51 [l0, .int (a + 1)] st ws := R_iinc hc_8 dX3_init_48 rfl (by decide) rfl rfl
theorem r_8_51 (ls st : List Value) (ws : ai_W) : ai_Run 8 51 ls st ws = ai_Run 8 26 ls st ws := R_goto hc_8 dX3_init_51 rfl
theorem r_8_54 (ls : List Value) (ws : ai_W) : ai_Run 8 54 ls [] ws = some (none, ws) := R_vret hc_8 dX3_init_54 ht_8
theorem dX9_init_0 : decode cX9_init 0 = .ok (.aload_n 0, 1) := by decide +kernel
theorem dX9_init_1 : decode cX9_init 1 = .ok (.invokespecial 3, 3) := by decide +kernel
theorem dX9_init_4 : decode cX9_init 4 = .ok (.aload_n 0, 1) := by decide +kernel
theorem dX9_init_5 : decode cX9_init 5 = .ok (.new 9, 3) := by decide +kernel
theorem dX9_init_8 : decode cX9_init 8 = .ok (.dup, 1) := by decide +kernel
theorem dX9_init_9 : decode cX9_init 9 = .ok (.bipush 70, 2) := by decide +kernel
theorem dX9_init_11 : decode cX9_init 11 = .ok (.iconst 0, 1) := by decide +kernel
theorem dX9_init_12 : decode cX9_init 12 = .ok (.invokespecial 11, 3) := by decide +kernel
theorem dX9_init_15 : decode cX9_init 15 = .ok (.putfield 14, 3) := by decide +kernel
theorem dX9_init_18 : decode cX9_init 18 = .ok (.aload_n 0, 1) := by decide +kernel
theorem dX9_init_19 : decode cX9_init 19 = .ok (.new 9, 3) := by decide +kernel
theorem dX9_init_22 : decode cX9_init 22 = .ok (.dup, 1) := by decide +kernel
theorem dX9_init_23 : decode cX9_init 23 = .ok (.bipush 35, 2) := by decide +kernel
theorem dX9_init_25 : decode cX9_init 25 = .ok (.iconst 0, 1) := by decide +kernel
theorem dX9_init_26 : decode cX9_init 26 = .ok (.invokespecial 11, 3) := by decide +kernel
theorem dX9_init_29 : decode cX9_init 29 = .ok (.putfield 20, 3) := by decide +kernel
theorem dX9_init_32 : decode cX9_init 32 = .ok (.aload_n 0, 1) := by decide +kernel
theorem dX9_init_33 : decode cX9_init 33 = .ok (.new 9, 3) := by decide +kernel
theorem dX9_init_36 : decode cX9_init 36 = .ok (.dup, 1) := by decide +kernel
theorem dX9_init_37 : decode cX9_init 37 = .ok (.bipush 105, 2) := by decide +kernel
theorem dX9_init_39 : decode cX9_init 39 = .ok (.iconst 0, 1) := by decide +kernel
theorem dX9_init_40 : decode cX9_init 40 = .ok (.invokespecial 11, 3) := by decide +kernel
theorem dX9_init_43 : decode cX9_init 43 = .ok (.putfield 23, 3) := by decide +kernel
theorem dX9_init_46 : decode cX9_init 46 = .ok (.return_, 1) := by decide +kernel
theorem e_9 (r : Nat)  (ws : ai_W) : ai_Call 9 [.ref r] ws = if ai_isob ws r 9 = true then ai_Run 9 0 [.ref r] [] ws else none := R_entI hk_9 ⟨⟨rfl, rfl⟩, Nat.le_of_ble_eq_true rfl⟩ rfl
theorem r_9_0 (a : Nat) (st : List Value) (ws : ai_W) : ai_Run 9 0 [.ref a] st ws = ai_Run 9 1 [.ref a] (.ref a :: st) ws := R_aload_n hc_9 dX9_init_0 rfl rfl
theorem r_9_1 (ls : List Value) (a : Nat) (ws : ai_W) : ai_Run 9 1 ls [.ref a] ws = ai_Run 9 4 ls [] ws := R_obj hc_9 dX9_init_1 hv_9 (y2 := 0) (w := 615) rfl (Nat.le_of_ble_eq_true rfl) (ai_nat_of hf_9 ho_9 rfl) rfl
theorem r_9_4 (a : Nat) (st : List Value) (ws : ai_W) : ai_Run 9 4 [.ref a] st ws = ai_Run 9 5 [.ref a] (.ref a :: st) ws := R_aload_n hc_9 dX9_init_4 rfl rfl
theorem r_9_5 (ls st : List Value) (ws : ai_W) : ai_Run 9 5 ls st ws = ai_Run 9 8 ls (.ref ws.length :: st) (ws ++ [ai_blank 8]) := R_new hc_9 dX9_init_5 hv_9 (w1 := 616) (w2 := 450) (w3 := 24) rfl rfl
theorem r_9_8 (ls st : List Value) (a : Nat) (ws : ai_W) : ai_Run 9 8 ls (.ref a :: st) ws = ai_Run 9 9 ls (.ref a :: .ref a :: st) ws := R_dup hc_9 dX9_init_8 rfl
theorem r_9_9 (ls st : List Value) (ws : ai_W) : ai_Run 9 9 ls st ws = ai_Run 9 11 ls (.int 70 :: st) ws := R_bipush hc_9 dX9_init_9 (by decide) rfl
theorem r_9_11 (ls st : List Value) (ws : ai_W) : ai_Run 9 11 ls st ws = ai_Run 9 12 ls (.int 0 :: st) ws := R_iconst hc_9 dX9_init_11 (by decide) rfl
theorem r_9_12 (ls : List Value) (r : Nat) (b0 : Int32) (b1 : Int32) (s0 s1 : Value) (ws : ai_W) : ai_Run 9 12 ls [.int b1, .int b0, .ref r, s0, s1] ws = (ai_Call 1 [.ref r, .int b0, .int b1] ws).bind fun q => ai_Run 9 15 ls (q.1.toList ++ [s0, s1]) q.2 := R_callI hc_9 dX9_init_12 hv_9 (w := 617) (Or.inl rfl) (ai_lt3 hf_1 hf_9 hL_1 ho_1 ho_9 rfl) hk_1 (by rw [hn_1]; rfl) rfl (Nat.le_of_ble_eq_true rfl) rfl
theorem r_9_15 (ls st : List Value) (a : Nat) (x : Value) (ws : ai_W) : ai_Run 9 15 ls (x :: .ref a :: st) ws = (ai_fput ws a 9 0 x).bind fun ws => ai_Run 9 18 ls st ws := R_putF hc_9 dX9_init_15 hv_9 (w := 618) rfl hk_9 rfl rfl
theorem r_9_18 (a : Nat) (st : List Value) (ws : ai_W) : ai_Run 9 18 [.ref a] st ws = ai_Run 9 19 [.ref a] (.ref a :: st) ws := R_aload_n hc_9 dX9_init_18 rfl rfl
theorem r_9_19 (ls st : List Value) (ws : ai_W) : ai_Run 9 19 ls st ws = ai_Run 9 22 ls (.ref ws.length :: st) (ws ++ [ai_blank 8]) := R_new hc_9 dX9_init_19 hv_9 (w1 := 616) (w2 := 450) (w3 := 24) rfl rfl
theorem r_9_22 (ls st : List Value) (a : Nat) (ws : ai_W) : ai_Run 9 22 ls (.ref a :: st) ws = ai_Run 9 23 ls (.ref a :: .ref a :: st) ws := R_dup hc_9 dX9_init_22 rfl
theorem r_9_23 (ls st : List Value) (ws : ai_W) : ai_Run 9 23 ls st ws = ai_Run 9 25 ls (.int 35 :: st) ws := R_bipush hc_9 dX9_init_23 (by decide) rfl
theorem r_9_25 (ls st : List Value) (ws : ai_W) : ai_Run 9 25 ls st ws = ai_Run 9 26 ls (.int 0 :: st) ws := R_iconst hc_9 dX9_init_25 (by decide) rfl
theorem r_9_26 (ls : List Value) (r : Nat) (b0 : Int32) (b1 : Int32) (s0 s1 : Value) (ws : ai_W) : ai_Run 9 26 ls [.int b1, .int b0, .ref r, s0, s1] ws = (ai_Call 1 [.ref r, .int b0, .int b1] ws).bind fun q => ai_Run 9 29 ls (q.1.toList ++ [s0, s1]) q.2 := R_callI hc_9 dX9_init_26 hv_9 (w := 617) (Or.inl rfl) (ai_lt3 hf_1 hf_9 hL_1 ho_1 ho_9 rfl) hk_1 (by rw [hn_1]; rfl) rfl (Nat.le_of_ble_eq_true rfl) rfl
theorem r_9_29 (ls st : List Value) (a : Nat) (x : Value) (ws : ai_W) : ai_Run 9 29 ls (x :: .ref a :: st) ws = (ai_fput ws a 9 1 x).bind fun ws => ai_Run 9 32 ls st ws := R_putF hc_9 dX9_init_29 hv_9 (w := 619) rfl hk_9 rfl rfl
theorem r_9_32 (a : Nat) (st : List Value) (ws : ai_W) : ai_Run 9 32 [.ref a] st ws = ai_Run 9 33 [.ref a] (.ref a :: st) ws := R_aload_n hc_9 dX9_init_32 rfl rfl
theorem r_9_33 (ls st : List Value) (ws : ai_W) : ai_Run 9 33 ls st ws = ai_Run 9 36 ls (.ref ws.length :: st) (ws ++ [ai_blank 8]) := R_new hc_9 dX9_init_33 hv_9 (w1 := 616) (w2 := 450) (w3 := 24) rfl rfl
theorem r_9_36 (ls st : List Value) (a : Nat) (ws : ai_W) : ai_Run 9 36 ls (.ref a :: st) ws = ai_Run 9 37 ls (.ref a :: .ref a :: st) ws := R_dup hc_9 dX9_init_36 rfl
theorem r_9_37 (ls st : List Value) (ws : ai_W) : ai_Run 9 37 ls st ws = ai_Run 9 39 ls (.int 105 :: st) ws := R_bipush hc_9 dX9_init_37 (by decide) rfl
theorem r_9_39 (ls st : List Value) (ws : ai_W) : ai_Run 9 39 ls st ws = ai_Run 9 40 ls (.int 0 :: st) ws := R_iconst hc_9 dX9_init_39 (by decide) rfl
theorem r_9_40 (ls : List Value) (r : Nat) (b0 : Int32) (b1 : Int32) (s0 s1 : Value) (ws : ai_W) : ai_Run 9 40 ls [.int b1, .int b0, .ref r, s0, s1] ws = (ai_Call 1 [.ref r, .int b0, .int b1] ws).bind fun q => ai_Run 9 43 ls (q.1.toList ++ [s0, s1]) q.2 := R_callI hc_9 dX9_init_40 hv_9 (w := 617) (Or.inl rfl) (ai_lt3 hf_1 hf_9 hL_1 ho_1 ho_9 rfl) hk_1 (by rw [hn_1]; rfl) rfl (Nat.le_of_ble_eq_true rfl) rfl
theorem r_9_43 (ls st : List Value) (a : Nat) (x : Value) (ws : ai_W) : ai_Run 9 43 ls (x :: .ref a :: st) ws = (ai_fput ws a 9 2 x).bind fun ws => ai_Run 9 46 ls st ws := R_putF hc_9 dX9_init_43 hv_9 (w := 620) rfl hk_9 rfl rfl
theorem r_9_46 (ls : List Value) (ws : ai_W) : ai_Run 9 46 ls [] ws = some (none, ws) := R_vret hc_9 dX9_init_46 ht_9
theorem dX6_init_0 : decode cX6_init 0 = .ok (.aload_n 0, 1) := by decide +kernel
theorem dX6_init_1 : decode cX6_init 1 = .ok (.invokespecial 3, 3) := by decide +kernel
theorem dX6_init_4 : decode cX6_init 4 = .ok (.aload_n 0, 1) := by decide +kernel
theorem dX6_init_5 : decode cX6_init 5 = .ok (.new 9, 3) := by decide +kernel
theorem dX6_init_8 : decode cX6_init 8 = .ok (.dup, 1) := by decide +kernel
theorem dX6_init_9 : decode cX6_init 9 = .ok (.bipush 40, 2) := by decide +kernel
theorem dX6_init_11 : decode cX6_init 11 = .ok (.iconst 0, 1) := by decide +kernel
theorem dX6_init_12 : decode cX6_init 12 = .ok (.invokespecial 11, 3) := by decide +kernel
theorem dX6_init_15 : decode cX6_init 15 = .ok (.putfield 14, 3) := by decide +kernel
theorem dX6_init_18 : decode cX6_init 18 = .ok (.return_, 1) := by decide +kernel
theorem e_10 (r : Nat)  (ws : ai_W) : ai_Call 10 [.ref r] ws = if ai_isob ws r 6 = true then ai_Run 10 0 [.ref r] [] ws else none := R_entI hk_10 ⟨⟨rfl, rfl⟩, Nat.le_of_ble_eq_true rfl⟩ rfl
theorem r_10_0 (a : Nat) (st : List Value) (ws : ai_W) : ai_Run 10 0 [.ref a] st ws = ai_Run 10 1 [.ref a] (.ref a :: st) ws := R_aload_n hc_10 dX6_init_0 rfl rfl
theorem r_10_1 (ls : List Value) (a : Nat) (ws : ai_W) : ai_Run 10 1 ls [.ref a] ws = ai_Run 10 4 ls [] ws := R_obj hc_10 dX6_init_1 hv_10 (y2 := 0) (w := 645) rfl (Nat.le_of_ble_eq_true rfl) (ai_nat_of hf_10 ho_10 rfl) rfl
theorem r_10_4 (a : Nat) (st : List Value) (ws : ai_W) : ai_Run 10 4 [.ref a] st ws = ai_Run 10 5 [.ref a] (.ref a :: st) ws := R_aload_n hc_10 dX6_init_4 rfl rfl
theorem r_10_5 (ls st : List Value) (ws : ai_W) : ai_Run 10 5 ls st ws = ai_Run 10 8 ls (.ref ws.length :: st) (ws ++ [ai_blank 8]) := R_new hc_10 dX6_init_5 hv_10 (w1 := 646) (w2 := 450) (w3 := 24) rfl rfl
theorem r_10_8 (ls st : List Value) (a : Nat) (ws : ai_W) : ai_Run 10 8 ls (.ref a :: st) ws = ai_Run 10 9 ls (.ref a :: .ref a :: st) ws := R_dup hc_10 dX6_init_8 rfl
theorem r_10_9 (ls st : List Value) (ws : ai_W) : ai_Run 10 9 ls st ws = ai_Run 10 11 ls (.int 40 :: st) ws := R_bipush hc_10 dX6_init_9 (by decide) rfl
theorem r_10_11 (ls st : List Value) (ws : ai_W) : ai_Run 10 11 ls st ws = ai_Run 10 12 ls (.int 0 :: st) ws := R_iconst hc_10 dX6_init_11 (by decide) rfl
theorem r_10_12 (ls : List Value) (r : Nat) (b0 : Int32) (b1 : Int32) (s0 s1 : Value) (ws : ai_W) : ai_Run 10 12 ls [.int b1, .int b0, .ref r, s0, s1] ws = (ai_Call 1 [.ref r, .int b0, .int b1] ws).bind fun q => ai_Run 10 15 ls (q.1.toList ++ [s0, s1]) q.2 := R_callI hc_10 dX6_init_12 hv_10 (w := 647) (Or.inl rfl) (ai_lt3 hf_1 hf_10 hL_1 ho_1 ho_10 rfl) hk_1 (by rw [hn_1]; rfl) rfl (Nat.le_of_ble_eq_true rfl) rfl
theorem r_10_15 (ls st : List Value) (a : Nat) (x : Value) (ws : ai_W) : ai_Run 10 15 ls (x :: .ref a :: st) ws = (ai_fput ws a 6 0 x).bind fun ws => ai_Run 10 18 ls st ws := R_putF hc_10 dX6_init_15 hv_10 (w := 648) rfl hk_10 rfl rfl
theorem r_10_18 (ls : List Value) (ws : ai_W) : ai_Run 10 18 ls [] ws = some (none, ws) := R_vret hc_10 dX6_init_18 ht_10
theorem dX10_init_0 : decode cX10_init 0 = .ok (.aload_n 0, 1) := by decide +kernel
theorem dX10_init_1 : decode cX10_init 1 = .ok (.invokespecial 1, 3) := by decide +kernel
theorem dX10_init_4 : decode cX10_init 4 = .ok (.new 7, 3) := by decide +kernel
theorem dX10_init_7 : decode cX10_init 7 = .ok (.dup, 1) := by decide +kernel
theorem dX10_init_8 : decode cX10_init 8 = .ok (.invokespecial 9, 3) := by decide +kernel
theorem dX10_init_11 : decode cX10_init 11 = .ok (.astore_n 1, 1) := by decide +kernel
theorem dX10_init_12 : decode cX10_init 12 = .ok (.new 10, 3) := by decide +kernel
theorem dX10_init_15 : decode cX10_init 15 = .ok (.dup, 1) := by decide +kernel
theorem dX10_init_16 : decode cX10_init 16 = .ok (.aload_n 1, 1) := by decide +kernel
theorem dX10_init_17 : decode cX10_init 17 = .ok (.invokespecial 12, 3) := by decide +kernel
theorem dX10_init_20 : decode cX10_init 20 = .ok (.astore_n 2, 1) := by decide +kernel
theorem dX10_init_21 : decode cX10_init 21 = .ok (.new 15, 3) := by decide +kernel
theorem dX10_init_24 : decode cX10_init 24 = .ok (.dup, 1) := by decide +kernel
theorem dX10_init_25 : decode cX10_init 25 = .ok (.aload_n 1, 1) := by decide +kernel
theorem dX10_init_26 : decode cX10_init 26 = .ok (.invokespecial 17, 3) := by decide +kernel
theorem dX10_init_29 : decode cX10_init 29 = .ok (.astore_n 3, 1) := by decide +kernel
theorem dX10_init_30 : decode cX10_init 30 = .ok (.new 18, 3) := by decide +kernel
theorem dX10_init_33 : decode cX10_init 33 = .ok (.dup, 1) := by decide +kernel
theorem dX10_init_34 : decode cX10_init 34 = .ok (.invokespecial 20, 3) := by decide +kernel
theorem dX10_init_37 : decode cX10_init 37 = .ok (.astore 4, 2) := by decide +kernel
theorem dX10_init_39 : decode cX10_init 39 = .ok (.aload_n 0, 1) := by decide +kernel
theorem dX10_init_40 : decode cX10_init 40 = .ok (.aload_n 1, 1) := by decide +kernel
theorem dX10_init_41 : decode cX10_init 41 = .ok (.putfield 21, 3) := by decide +kernel
theorem dX10_init_44 : decode cX10_init 44 = .ok (.aload_n 0, 1) := by decide +kernel
theorem dX10_init_45 : decode cX10_init 45 = .ok (.aload_n 2, 1) := by decide +kernel
theorem dX10_init_46 : decode cX10_init 46 = .ok (.putfield 27, 3) := by decide +kernel
theorem dX10_init_49 : decode cX10_init 49 = .ok (.aload_n 0, 1) := by decide +kernel
theorem dX10_init_50 : decode cX10_init 50 = .ok (.aload_n 3, 1) := by decide +kernel
theorem dX10_init_51 : decode cX10_init 51 = .ok (.putfield 31, 3) := by decide +kernel
theorem dX10_init_54 : decode cX10_init 54 = .ok (.aload_n 0, 1) := by decide +kernel
theorem dX10_init_55 : decode cX10_init 55 = .ok (.new 35, 3) := by decide +kernel
theorem dX10_init_58 : decode cX10_init 58 = .ok (.dup, 1) := by decide +kernel
theorem dX10_init_59 : decode cX10_init 59 = .ok (.aload_n 1, 1) := by decide +kernel
theorem dX10_init_60 : decode cX10_init 60 = .ok (.invokespecial 37, 3) := by decide +kernel
theorem dX10_init_63 : decode cX10_init 63 = .ok (.putfield 38, 3) := by decide +kernel
theorem dX10_init_66 : decode cX10_init 66 = .ok (.aload_n 0, 1) := by decide +kernel
theorem dX10_init_67 : decode cX10_init 67 = .ok (.aload 4, 2) := by decide +kernel
theorem dX10_init_69 : decode cX10_init 69 = .ok (.putfield 42, 3) := by decide +kernel
theorem dX10_init_72 : decode cX10_init 72 = .ok (.aload_n 0, 1) := by decide +kernel
theorem dX10_init_73 : decode cX10_init 73 = .ok (.new 46, 3) := by decide +kernel
theorem dX10_init_76 : decode cX10_init 76 = .ok (.dup, 1) := by decide +kernel
theorem dX10_init_77 : decode cX10_init 77 = .ok (.aload_n 1, 1) := by decide +kernel
theorem dX10_init_78 : decode cX10_init 78 = .ok (.aload_n 2, 1) := by decide +kernel
theorem dX10_init_79 : decode cX10_init 79 = .ok (.aload_n 3, 1) := by decide +kernel
theorem dX10_init_80 : decode cX10_init 80 = .ok (.aload 4, 2) := by decide +kernel
theorem dX10_init_82 : decode cX10_init 82 = .ok (.invokespecial 48, 3) := by decide +kernel
theorem dX10_init_85 : decode cX10_init 85 = .ok (.putfield 51, 3) := by decide +kernel
theorem dX10_init_88 : decode cX10_init 88 = .ok (.aload_n 0, 1) := by decide +kernel
theorem dX10_init_89 : decode cX10_init 89 = .ok (.new 55, 3) := by decide +kernel
theorem dX10_init_92 : decode cX10_init 92 = .ok (.dup, 1) := by decide +kernel
theorem dX10_init_93 : decode cX10_init 93 = .ok (.invokespecial 57, 3) := by decide +kernel
theorem dX10_init_96 : decode cX10_init 96 = .ok (.putfield 58, 3) := by decide +kernel
theorem dX10_init_99 : decode cX10_init 99 = .ok (.aload_n 0, 1) := by decide +kernel
theorem dX10_init_100 : decode cX10_init 100 = .ok (.new 62, 3) := by decide +kernel
theorem dX10_init_103 : decode cX10_init 103 = .ok (.dup, 1) := by decide +kernel
theorem dX10_init_104 : decode cX10_init 104 = .ok (.invokespecial 64, 3) := by decide +kernel
theorem dX10_init_107 : decode cX10_init 107 = .ok (.putfield 65, 3) := by decide +kernel
theorem dX10_init_110 : decode cX10_init 110 = .ok (.aload_n 0, 1) := by decide +kernel
theorem dX10_init_111 : decode cX10_init 111 = .ok (.new 69, 3) := by decide +kernel
theorem dX10_init_114 : decode cX10_init 114 = .ok (.dup, 1) := by decide +kernel
theorem dX10_init_115 : decode cX10_init 115 = .ok (.invokespecial 71, 3) := by decide +kernel
theorem dX10_init_118 : decode cX10_init 118 = .ok (.putfield 72, 3) := by decide +kernel
theorem dX10_init_121 : decode cX10_init 121 = .ok (.return_, 1) := by decide +kernel
theorem e_11 (r : Nat)  (ws : ai_W) : ai_Call 11 [.ref r] ws = if ai_isob ws r 10 = true then ai_Run 11 0 [.ref r, .null, .null, .null, .null] [] ws else none := R_entI hk_11 ⟨⟨rfl, rfl⟩, Nat.le_of_ble_eq_true rfl⟩ rfl
theorem r_11_0 (l1 l2 l3 l4 : Value) (a : Nat) (st : List Value) (ws : ai_W) : ai_Run 11 0 [.ref a, l1, l2, l3, l4] st ws = ai_Run 11 1 [.ref a, l1, l2, l3, l4] (.ref a :: st) ws := R_aload_n hc_11 dX10_init_0 rfl rfl
theorem r_11_1 (ls : List Value) (a : Nat) (ws : ai_W) : ai_Run 11 1 ls [.ref a] ws = ai_Run 11 4 ls [] ws := R_obj hc_11 dX10_init_1 hv_11 (y2 := 0) (w := 440) rfl (Nat.le_of_ble_eq_true rfl) (ai_nat_of hf_11 ho_11 rfl) rfl
theorem r_11_4 (ls st : List Value) (ws : ai_W) : ai_Run 11 4 ls st ws = ai_Run 11 7 ls (.ref ws.length :: st) (ws ++ [ai_blank 0]) := R_new hc_11 dX10_init_4 hv_11 (w1 := 443) (w2 := 444) (w3 := 23) rfl rfl
theorem r_11_7 (ls st : List Value) (a : Nat) (ws : ai_W) : ai_Run 11 7 ls (.ref a :: st) ws = ai_Run 11 8 ls (.ref a :: .ref a :: st) ws := R_dup hc_11 dX10_init_7 rfl
theorem r_11_8 (ls : List Value) (r : Nat) (s0 : Value) (ws : ai_W) : ai_Run 11 8 ls [.ref r, s0] ws = (ai_Call 2 [.ref r] ws).bind fun q => ai_Run 11 11 ls (q.1.toList ++ [s0]) q.2 := R_callI hc_11 dX10_init_8 hv_11 (w := 445) (Or.inr rfl) (ai_lt3 hf_2 hf_11 hL_2 ho_2 ho_11 rfl) hk_2 (by rw [hn_2]; rfl) rfl (Nat.le_of_ble_eq_true rfl) rfl
theorem r_11_11 (l0 l1 l2 l3 l4 : Value) (a : Nat) (st : List Value) (ws : ai_W) : ai_Run 11 11 [l0, l1, l2, l3, l4] (.ref a :: st) ws = ai_Run 11 12 [l0, .ref a, l2, l3, l4] st ws := R_astore_n hc_11 dX10_init_11 (Nat.le_of_ble_eq_true rfl) rfl rfl
theorem r_11_12 (ls st : List Value) (ws : ai_W) : ai_Run 11 12 ls st ws = ai_Run 11 15 ls (.ref ws.length :: st) (ws ++ [ai_blank 4]) := R_new hc_11 dX10_init_12 hv_11 (w1 := 516) (w2 := 517) (w3 := 26) rfl rfl
theorem r_11_15 (ls st : List Value) (a : Nat) (ws : ai_W) : ai_Run 11 15 ls (.ref a :: st) ws = ai_Run 11 16 ls (.ref a :: .ref a :: st) ws := R_dup hc_11 dX10_init_15 rfl
theorem r_11_16 (l0 l2 l3 l4 : Value) (a : Nat) (st : List Value) (ws : ai_W) : ai_Run 11 16 [l0, .ref a, l2, l3, l4] st ws = ai_Run 11 17 [l0, .ref a, l2, l3, l4] (.ref a :: st) ws := R_aload_n hc_11 dX10_init_16 rfl rfl
theorem r_11_17 (ls : List Value) (r : Nat) (b0 : Nat) (s0 : Value) (ws : ai_W) : ai_Run 11 17 ls [.ref b0, .ref r, s0] ws = (ai_Call 3 [.ref r, .ref b0] ws).bind fun q => ai_Run 11 20 ls (q.1.toList ++ [s0]) q.2 := R_callI hc_11 dX10_init_17 hv_11 (w := 518) (Or.inl rfl) (ai_lt3 hf_3 hf_11 hL_3 ho_3 ho_11 rfl) hk_3 (by rw [hn_3]; rfl) rfl (Nat.le_of_ble_eq_true rfl) rfl
theorem r_11_20 (l0 l1 l2 l3 l4 : Value) (a : Nat) (st : List Value) (ws : ai_W) : ai_Run 11 20 [l0, l1, l2, l3, l4] (.ref a :: st) ws = ai_Run 11 21 [l0, l1, .ref a, l3, l4] st ws := R_astore_n hc_11 dX10_init_20 (Nat.le_of_ble_eq_true rfl) rfl rfl
theorem r_11_21 (ls st : List Value) (ws : ai_W) : ai_Run 11 21 ls st ws = ai_Run 11 24 ls (.ref ws.length :: st) (ws ++ [ai_blank 5]) := R_new hc_11 dX10_init_21 hv_11 (w1 := 526) (w2 := 246) (w3 := 27) rfl rfl
theorem r_11_24 (ls st : List Value) (a : Nat) (ws : ai_W) : ai_Run 11 24 ls (.ref a :: st) ws = ai_Run 11 25 ls (.ref a :: .ref a :: st) ws := R_dup hc_11 dX10_init_24 rfl
theorem r_11_25 (l0 l2 l3 l4 : Value) (a : Nat) (st : List Value) (ws : ai_W) : ai_Run 11 25 [l0, .ref a, l2, l3, l4] st ws = ai_Run 11 26 [l0, .ref a, l2, l3, l4] (.ref a :: st) ws := R_aload_n hc_11 dX10_init_25 rfl rfl
theorem r_11_26 (ls : List Value) (r : Nat) (b0 : Nat) (s0 : Value) (ws : ai_W) : ai_Run 11 26 ls [.ref b0, .ref r, s0] ws = (ai_Call 4 [.ref r, .ref b0] ws).bind fun q => ai_Run 11 29 ls (q.1.toList ++ [s0]) q.2 := R_callI hc_11 dX10_init_26 hv_11 (w := 527) (Or.inl rfl) (ai_lt3 hf_4 hf_11 hL_4 ho_4 ho_11 rfl) hk_4 (by rw [hn_4]; rfl) rfl (Nat.le_of_ble_eq_true rfl) rfl
theorem r_11_29 (l0 l1 l2 l3 l4 : Value) (a : Nat) (st : List Value) (ws : ai_W) : ai_Run 11 29 [l0, l1, l2, l3, l4] (.ref a :: st) ws = ai_Run 11 30 [l0, l1, l2, .ref a, l4] st ws := R_astore_n hc_11 dX10_init_29 (Nat.le_of_ble_eq_true rfl) rfl rfl
theorem r_11_30 (ls st : List Value) (ws : ai_W) : ai_Run 11 30 ls st ws = ai_Run 11 33 ls (.ref ws.length :: st) (ws ++ [ai_blank 7]) := R_new hc_11 dX10_init_30 hv_11 (w1 := 535) (w2 := 536) (w3 := 28) rfl rfl
theorem r_11_33 (ls st : List Value) (a : Nat) (ws : ai_W) : ai_Run 11 33 ls (.ref a :: st) ws = ai_Run 11 34 ls (.ref a :: .ref a :: st) ws := R_dup hc_11 dX10_init_33 rfl
theorem r_11_34 (ls : List Value) (r : Nat) (s0 : Value) (ws : ai_W) : ai_Run 11 34 ls [.ref r, s0] ws = (ai_Call 5 [.ref r] ws).bind fun q => ai_Run 11 37 ls (q.1.toList ++ [s0]) q.2 := R_callI hc_11 dX10_init_34 hv_11 (w := 537) (Or.inr rfl) (ai_lt3 hf_5 hf_11 hL_5 ho_5 ho_11 rfl) hk_5 (by rw [hn_5]; rfl) rfl (Nat.le_of_ble_eq_true rfl) rfl
theorem r_11_37 (l0 l1 l2 l3 l4 : Value) (a : Nat) (st : List Value) (ws : ai_W) : ai_Run 11 37 [l0, l1, l2, l3, l4] (.ref a :: st) ws = ai_Run 11 39 [l0, l1, l2, l3, .ref a] st ws := R_astore hc_11 dX10_init_37 (Nat.le_of_ble_eq_true rfl) rfl rfl
theorem r_11_39 (l1 l2 l3 l4 : Value) (a : Nat) (st : List Value) (ws : ai_W) : ai_Run 11 39 [.ref a, l1, l2, l3, l4] st ws = ai_Run 11 40 [.ref a, l1, l2, l3, l4] (.ref a :: st) ws := R_aload_n hc_11 dX10_init_39 rfl rfl
theorem r_11_40 (l0 l2 l3 l4 : Value) (a : Nat) (st : List Value) (ws : ai_W) : ai_Run 11 40 [l0, .ref a, l2, l3, l4] st ws = ai_Run 11 41 [l0, .ref a, l2, l3, l4] (.ref a :: st) ws := R_aload_n hc_11 dX10_init_40 rfl rfl
theorem r_11_41 (ls st : List Value) (a : Nat) (x : Value) (ws : ai_W) : ai_Run 11 41 ls (x :: .ref a :: st) ws = (ai_fput ws a 10 0 x).bind fun ws => ai_Run 11 44 ls st ws := R_putF hc_11 dX10_init_41 hv_11 (w := 655) rfl hk_11 rfl rfl
theorem r_11_44 (l1 l2 l3 l4 : Value) (a : Nat) (st : List Value) (ws : ai_W) : ai_Run 11 44 [.ref a, l1, l2, l3, l4] st ws = ai_Run 11 45 [.ref a, l1, l2, l3, l4] (.ref a :: st) ws := R_aload_n hc_11 dX10_init_44 rfl rfl
theorem r_11_45 (l0 l1 l3 l4 : Value) (a : Nat) (st : List Value) (ws : ai_W) : ai_Run 11 45 [l0, l1, .ref a, l3, l4] st ws = ai_Run 11 46 [l0, l1, .ref a, l3, l4] (.ref a :: st) ws := R_aload_n hc_11 dX10_init_45 rfl rfl
theorem r_11_46 (ls st : List Value) (a : Nat) (x : Value) (ws : ai_W) : ai_Run 11 46 ls (x :: .ref a :: st) ws = (ai_fput ws a 10 1 x).bind fun ws => ai_Run 11 49 ls st ws := R_putF hc_11 dX10_init_46 hv_11 (w := 656) rfl hk_11 rfl rfl
theorem r_11_49 (l1 l2 l3 l4 : Value) (a : Nat) (st : List Value) (ws : ai_W) : ai_Run 11 49 [.ref a, l1, l2, l3, l4] st ws = ai_Run 11 50 [.ref a, l1, l2, l3, l4] (.ref a :: st) ws := R_aload_n hc_11 dX10_init_49 rfl rfl
theorem r_11_50 (l0 l1 l2 l4 : Value) (a : Nat) (st : List Value) (ws : ai_W) : ai_Run 11 50 [l0, l1, l2, .ref a, l4] st ws = ai_Run 11 51 [l0, l1, l2, .ref a, l4] (.ref a :: st) ws := R_aload_n hc_11 dX10_init_50 rfl rfl
theorem r_11_51 (ls st : List Value) (a : Nat) (x : Value) (ws : ai_W) : ai_Run 11 51 ls (x :: .ref a :: st) ws = (ai_fput ws a 10 2 x).bind fun ws => ai_Run 11 54 ls st ws := R_putF hc_11 dX10_init_51 hv_11 (w := 657) rfl hk_11 rfl rfl
theorem r_11_54 (l1 l2 l3 l4 : Value) (a : Nat) (st : List Value) (ws : ai_W) : ai_Run 11 54 [.ref a, l1, l2, l3, l4] st ws = ai_Run 11 55 [.ref a, l1, l2, l3, l4] (.ref a :: st) ws := R_aload_n hc_11 dX10_init_54 rfl rfl
theorem r_11_55 (ls st : List Value) (ws : ai_W) : ai_Run 11 55 ls st ws = ai_Run 11 58 ls (.ref ws.length :: st) (ws ++ [ai_blank 2]) := R_new hc_11 dX10_init_55 hv_11 (w1 := 554) (w2 := 273) (w3 := 29) rfl rfl
theorem r_11_58 (ls st : List Value) (a : Nat) (ws : ai_W) : ai_Run 11 58 ls (.ref a :: st) ws = ai_Run 11 59 ls (.ref a :: .ref a :: st) ws := R_dup hc_11 dX10_init_58 rfl
theorem r_11_59 (l0 l2 l3 l4 : Value) (a : Nat) (st : List Value) (ws : ai_W) : ai_Run 11 59 [l0, .ref a, l2, l3, l4] st ws = ai_Run 11 60 [l0, .ref a, l2, l3, l4] (.ref a :: st) ws := R_aload_n hc_11 dX10_init_59 rfl rfl
theorem r_11_60 (ls : List Value) (r : Nat) (b0 : Nat) (s0 s1 : Value) (ws : ai_W) : ai_Run 11 60 ls [.ref b0, .ref r, s0, s1] ws = (ai_Call 6 [.ref r, .ref b0] ws).bind fun q => ai_Run 11 63 ls (q.1.toList ++ [s0, s1]) q.2 := R_callI hc_11 dX10_init_60 hv_11 (w := 555) (Or.inl rfl) (ai_lt3 hf_6 hf_11 hL_6 ho_6 ho_11 rfl) hk_6 (by rw [hn_6]; rfl) rfl (Nat.le_of_ble_eq_true rfl) rfl
theorem r_11_63 (ls st : List Value) (a : Nat) (x : Value) (ws : ai_W) : ai_Run 11 63 ls (x :: .ref a :: st) ws = (ai_fput ws a 10 3 x).bind fun ws => ai_Run 11 66 ls st ws := R_putF hc_11 dX10_init_63 hv_11 (w := 658) rfl hk_11 rfl rfl
theorem r_11_66 (l1 l2 l3 l4 : Value) (a : Nat) (st : List Value) (ws : ai_W) : ai_Run 11 66 [.ref a, l1, l2, l3, l4] st ws = ai_Run 11 67 [.ref a, l1, l2, l3, l4] (.ref a :: st) ws := R_aload_n hc_11 dX10_init_66 rfl rfl
theorem r_11_67 (l0 l1 l2 l3 : Value) (a : Nat) (st : List Value) (ws : ai_W) : ai_Run 11 67 [l0, l1, l2, l3, .ref a] st ws = ai_Run 11 69 [l0, l1, l2, l3, .ref a] (.ref a :: st) ws := R_aload hc_11 dX10_init_67 rfl rfl
theorem r_11_69 (ls st : List Value) (a : Nat) (x : Value) (ws : ai_W) : ai_Run 11 69 ls (x :: .ref a :: st) ws = (ai_fput ws a 10 4 x).bind fun ws => ai_Run 11 72 ls st ws := R_putF hc_11 dX10_init_69 hv_11 (w := 659) rfl hk_11 rfl rfl
theorem r_11_72 (l1 l2 l3 l4 : Value) (a : Nat) (st : List Value) (ws : ai_W) : ai_Run 11 72 [.ref a, l1, l2, l3, l4] st ws = ai_Run 11 73 [.ref a, l1, l2, l3, l4] (.ref a :: st) ws := R_aload_n hc_11 dX10_init_72 rfl rfl
theorem r_11_73 (ls st : List Value) (ws : ai_W) : ai_Run 11 73 ls st ws = ai_Run 11 76 ls (.ref ws.length :: st) (ws ++ [ai_blank 1]) := R_new hc_11 dX10_init_73 hv_11 (w1 := 568) (w2 := 130) (w3 := 30) rfl rfl
theorem r_11_76 (ls st : List Value) (a : Nat) (ws : ai_W) : ai_Run 11 76 ls (.ref a :: st) ws = ai_Run 11 77 ls (.ref a :: .ref a :: st) ws := R_dup hc_11 dX10_init_76 rfl
theorem r_11_77 (l0 l2 l3 l4 : Value) (a : Nat) (st : List Value) (ws : ai_W) : ai_Run 11 77 [l0, .ref a, l2, l3, l4] st ws = ai_Run 11 78 [l0, .ref a, l2, l3, l4] (.ref a :: st) ws := R_aload_n hc_11 dX10_init_77 rfl rfl
theorem r_11_78 (l0 l1 l3 l4 : Value) (a : Nat) (st : List Value) (ws : ai_W) : ai_Run 11 78 [l0, l1, .ref a, l3, l4] st ws = ai_Run 11 79 [l0, l1, .ref a, l3, l4] (.ref a :: st) ws := R_aload_n hc_11 dX10_init_78 rfl rfl
theorem r_11_79 (l0 l1 l2 l4 : Value) (a : Nat) (st : List Value) (ws : ai_W) : ai_Run 11 79 [l0, l1, l2, .ref a, l4] st ws = ai_Run 11 80 [l0, l1, l2, .ref a, l4] (.ref a :: st) ws := R_aload_n hc_11 dX10_init_79 rfl rfl
theorem r_11_80 (l0 l1 l2 l3 : Value) (a : Nat) (st : List Value) (ws : ai_W) : ai_Run 11 80 [l0, l1, l2, l3, .ref a] st ws = ai_Run 11 82 [l0, l1, l2, l3, .ref a] (.ref a :: st) ws := R_aload hc_11 dX10_init_80 rfl rfl
theorem r_11_82 (ls : List Value) (r : Nat) (b0 : Nat) (b1 : Nat) (b2 : Nat) (b3 : Nat) (s0 s1 : Value) (ws : ai_W) : ai_Run 11 82 ls [.ref b3, .ref b2, .ref b1, .ref b0, .ref r, s0, s1] ws = (ai_Call 7 [.ref r, .ref b0, .ref b1, .ref b2, .ref b3] ws).bind fun q => ai_Run 11 85 ls (q.1.toList ++ [s0, s1]) q.2 := R_callI hc_11 dX10_init_82 hv_11 (w := 569) (Or.inl rfl) (ai_lt3 hf_7 hf_11 hL_7 ho_7 ho_11 rfl) hk_7 (by rw [hn_7]; rfl) rfl (Nat.le_of_ble_eq_true rfl) rfl
theorem r_11_85 (ls st : List Value) (a : Nat) (x : Value) (ws : ai_W) : ai_Run 11 85 ls (x :: .ref a :: st) ws = (ai_fput ws a 10 5 x).bind fun ws => ai_Run 11 88 ls st ws := R_putF hc_11 dX10_init_85 hv_11 (w := 660) rfl hk_11 rfl rfl
theorem r_11_88 (l1 l2 l3 l4 : Value) (a : Nat) (st : List Value) (ws : ai_W) : ai_Run 11 88 [.ref a, l1, l2, l3, l4] st ws = ai_Run 11 89 [.ref a, l1, l2, l3, l4] (.ref a :: st) ws := R_aload_n hc_11 dX10_init_88 rfl rfl
theorem r_11_89 (ls st : List Value) (ws : ai_W) : ai_Run 11 89 ls st ws = ai_Run 11 92 ls (.ref ws.length :: st) (ws ++ [ai_blank 3]) := R_new hc_11 dX10_init_89 hv_11 (w1 := 586) (w2 := 64) (w3 := 31) rfl rfl
theorem r_11_92 (ls st : List Value) (a : Nat) (ws : ai_W) : ai_Run 11 92 ls (.ref a :: st) ws = ai_Run 11 93 ls (.ref a :: .ref a :: st) ws := R_dup hc_11 dX10_init_92 rfl
theorem r_11_93 (ls : List Value) (r : Nat) (s0 s1 : Value) (ws : ai_W) : ai_Run 11 93 ls [.ref r, s0, s1] ws = (ai_Call 8 [.ref r] ws).bind fun q => ai_Run 11 96 ls (q.1.toList ++ [s0, s1]) q.2 := R_callI hc_11 dX10_init_93 hv_11 (w := 587) (Or.inl rfl) (ai_lt3 hf_8 hf_11 hL_8 ho_8 ho_11 rfl) hk_8 (by rw [hn_8]; rfl) rfl (Nat.le_of_ble_eq_true rfl) rfl
theorem r_11_96 (ls st : List Value) (a : Nat) (x : Value) (ws : ai_W) : ai_Run 11 96 ls (x :: .ref a :: st) ws = (ai_fput ws a 10 6 x).bind fun ws => ai_Run 11 99 ls st ws := R_putF hc_11 dX10_init_96 hv_11 (w := 661) rfl hk_11 rfl rfl
theorem r_11_99 (l1 l2 l3 l4 : Value) (a : Nat) (st : List Value) (ws : ai_W) : ai_Run 11 99 [.ref a, l1, l2, l3, l4] st ws = ai_Run 11 100 [.ref a, l1, l2, l3, l4] (.ref a :: st) ws := R_aload_n hc_11 dX10_init_99 rfl rfl
theorem r_11_100 (ls st : List Value) (ws : ai_W) : ai_Run 11 100 ls st ws = ai_Run 11 103 ls (.ref ws.length :: st) (ws ++ [ai_blank 9]) := R_new hc_11 dX10_init_100 hv_11 (w1 := 610) (w2 := 611) (w3 := 32) rfl rfl
theorem r_11_103 (ls st : List Value) (a : Nat) (ws : ai_W) : ai_Run 11 103 ls (.ref a :: st) ws = ai_Run 11 104 ls (.ref a :: .ref a :: st) ws := R_dup hc_11 dX10_init_103 rfl
theorem r_11_104 (ls : List Value) (r : Nat) (s0 s1 : Value) (ws : ai_W) : ai_Run 11 104 ls [.ref r, s0, s1] ws = (ai_Call 9 [.ref r] ws).bind fun q => ai_Run 11 107 ls (q.1.toList ++ [s0, s1]) q.2 := R_callI hc_11 dX10_init_104 hv_11 (w := 612) (Or.inr rfl) (ai_lt3 hf_9 hf_11 hL_9 ho_9 ho_11 rfl) hk_9 (by rw [hn_9]; rfl) rfl (Nat.le_of_ble_eq_true rfl) rfl
theorem r_11_107 (ls st : List Value) (a : Nat) (x : Value) (ws : ai_W) : ai_Run 11 107 ls (x :: .ref a :: st) ws = (ai_fput ws a 10 7 x).bind fun ws => ai_Run 11 110 ls st ws := R_putF hc_11 dX10_init_107 hv_11 (w := 662) rfl hk_11 rfl rfl
theorem r_11_110 (l1 l2 l3 l4 : Value) (a : Nat) (st : List Value) (ws : ai_W) : ai_Run 11 110 [.ref a, l1, l2, l3, l4] st ws = ai_Run 11 111 [.ref a, l1, l2, l3, l4] (.ref a :: st) ws := R_aload_n hc_11 dX10_init_110 rfl rfl
theorem r_11_111 (ls st : List Value) (ws : ai_W) : ai_Run 11 111 ls st ws = ai_Run 11 114 ls (.ref ws.length :: st) (ws ++ [ai_blank 6]) := R_new hc_11 dX10_init_111 hv_11 (w1 := 640) (w2 := 641) (w3 := 33) rfl rfl
theorem r_11_114 (ls st : List Value) (a : Nat) (ws : ai_W) : ai_Run 11 114 ls (.ref a :: st) ws = ai_Run 11 115 ls (.ref a :: .ref a :: st) ws := R_dup hc_11 dX10_init_114 rfl
theorem r_11_115 (ls : List Value) (r : Nat) (s0 s1 : Value) (ws : ai_W) : ai_Run 11 115 ls [.ref r, s0, s1] ws = (ai_Call 10 [.ref r] ws).bind fun q => ai_Run 11 118 ls (q.1.toList ++ [s0, s1]) q.2 := R_callI hc_11 dX10_init_115 hv_11 (w := 642) (Or.inr rfl) (ai_lt3 hf_10 hf_11 hL_10 ho_10 ho_11 rfl) hk_10 (by rw [hn_10]; rfl) rfl (Nat.le_of_ble_eq_true rfl) rfl
theorem r_11_118 (ls st : List Value) (a : Nat) (x : Value) (ws : ai_W) : ai_Run 11 118 ls (x :: .ref a :: st) ws = (ai_fput ws a 10 8 x).bind fun ws => ai_Run 11 121 ls st ws := R_putF hc_11 dX10_init_118 hv_11 (w := 663) rfl hk_11 rfl rfl
theorem r_11_121 (ls : List Value) (ws : ai_W) : ai_Run 11 121 ls [] ws = some (none, ws) := R_vret hc_11 dX10_init_121 ht_11
