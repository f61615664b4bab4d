/-! rules: printed by gen2.py -/
theorem dX8_init_0 : decode cX8_init 0 = .ok (.aload_n 0, 1) := by decide +kernel
theorem dX8_init_1 : decode cX8_init 1 = .ok (.invokespecial 1, 3) := by decide +kernel
theorem dX8_init_4 : decode cX8_init 4 = .ok (.aload_n 0, 1) := by decide +kernel
theorem dX8_init_5 : decode cX8_init 5 = .ok (.iload_n 1, 1) := by decide +kernel
theorem dX8_init_6 : decode cX8_init 6 = .ok (.iconst 0, 1) := by decide +kernel
theorem dX8_init_7 : decode cX8_init 7 = .ok (.invokestatic 7, 3) := by decide +kernel
theorem dX8_init_10 : decode cX8_init 10 = .ok (.newarray .int, 2) := by decide +kernel
theorem dX8_init_12 : decode cX8_init 12 = .ok (.putfield 13, 3) := by decide +kernel
theorem dX8_init_15 : decode cX8_init 15 = .ok (.iconst 0, 1) := by decide +kernel
theorem dX8_init_16 : decode cX8_init 16 = .ok (.istore_n 3, 1) := by decide +kernel
theorem dX8_init_17 : decode cX8_init 17 = .ok (.iload_n 3, 1) := by decide +kernel
theorem dX8_init_18 : decode cX8_init 18 = .ok (.aload_n 0, 1) := by decide +kernel
theorem dX8_init_19 : decode cX8_init 19 = .ok (.getfield 13, 3) := by decide +kernel
theorem dX8_init_22 : decode cX8_init 22 = .ok (.arraylength, 1) := by decide +kernel
theorem dX8_init_23 : decode cX8_init 23 = .ok (.if_icmp .ge 16, 3) := by decide +kernel
theorem dX8_init_26 : decode cX8_init 26 = .ok (.aload_n 0, 1) := by decide +kernel
theorem dX8_init_27 : decode cX8_init 27 = .ok (.getfield 13, 3) := by decide +kernel
theorem dX8_init_30 : decode cX8_init 30 = .ok (.iload_n 3, 1) := by decide +kernel
theorem dX8_init_31 : decode cX8_init 31 = .ok (.iload_n 2, 1) := by decide +kernel
theorem dX8_init_32 : decode cX8_init 32 = .ok (.iastore, 1) := by decide +kernel
theorem dX8_init_33 : decode cX8_init 33 = .ok (.iinc 3 1, 3) := by decide +kernel
theorem dX8_init_36 : decode cX8_init 36 = .ok (.goto (-19), 3) := by decide +kernel
theorem dX8_init_39 : decode cX8_init 39 = .ok (.return_, 1) := by decide +kernel
theorem hc_1 : ai_code 1 = cX8_init := rfl
theorem hv_1 : ai_view 1 = 8 := rfl
theorem hk_1 : ai_kind 1 = 2 := rfl
theorem hn_1 : ai_n 1 = 2 := rfl
theorem ht_1 : ai_ret 1 = none := rfl
theorem e_1 (r : Nat) (a0 : Int32) (a1 : Int32) (ws : ai_W) : ai_Call 1 [.ref r, .int a0, .int a1] ws = if ai_isob ws r 8 = true then ai_Run 1 0 [.ref r, .int a0, .int a1, .null] [] ws else none := R_entI hk_1 ⟨⟨rfl, rfl⟩, Nat.le_of_ble_eq_true rfl⟩ rfl
theorem r_1_0 (l1 l2 l3 : Value) (a : Nat) (st : List Value) (ws : ai_W) : ai_Run 1 0 [.ref a, l1, l2, l3] st ws = ai_Run 1 1 [.ref a, l1, l2, l3] (.ref a :: st) ws := R_aload_n hc_1 dX8_init_0 rfl rfl
theorem r_1_1 (ls : List Value) (a : Nat) (ws : ai_W) : ai_Run 1 1 ls [.ref a] ws = ai_Run 1 4 ls [] ws := R_obj hc_1 dX8_init_1 hv_1 (y2 := 0) (w := 117) rfl (Nat.le_of_ble_eq_true rfl) rfl
theorem r_1_4 (l1 l2 l3 : Value) (a : Nat) (st : List Value) (ws : ai_W) : ai_Run 1 4 [.ref a, l1, l2, l3] st ws = ai_Run 1 5 [.ref a, l1, l2, l3] (.ref a :: st) ws := R_aload_n hc_1 dX8_init_4 rfl rfl
theorem r_1_5 (l0 l2 l3 : Value) (a : Int32) (st : List Value) (ws : ai_W) : ai_Run 1 5 [l0, .int a, l2, l3] st ws = ai_Run 1 6 [l0, .int a, l2, l3] (.int a :: st) ws := R_iload_n hc_1 dX8_init_5 rfl rfl
theorem r_1_6 (ls st : List Value) (ws : ai_W) : ai_Run 1 6 ls st ws = ai_Run 1 7 ls (.int 0 :: st) ws := R_iconst hc_1 dX8_init_6 (by decide) rfl
theorem r_1_7 (ls : List Value) (b0 : Int32) (b1 : Int32) (s0 : Value) (ws : ai_W) : ai_Run 1 7 ls [.int b1, .int b0, s0] ws = (ai_Call 0 [.int b0, .int b1] ws).bind fun q => ai_Run 1 10 ls (q.1.toList ++ [s0]) q.2 := R_callS hc_1 dX8_init_7 hv_1 (w := 118) rfl (Nat.le_of_ble_eq_true rfl) hk_0 (by rw [hn_0]; rfl) rfl (Nat.le_of_ble_eq_true rfl) rfl
theorem r_1_10 (ls st : List Value) (q : Int32) (ws : ai_W) : ai_Run 1 10 ls (.int q :: st) ws = if q < 0 ∨ 100000 < q.toNatClampNeg then none else ai_Run 1 12 ls (.ref ws.length :: st) (ws ++ [.inl (List.replicate q.toNatClampNeg 0)]) := R_newa hc_1 dX8_init_10 rfl
theorem r_1_12 (ls st : List Value) (a : Nat) (x : Value) (ws : ai_W) : ai_Run 1 12 ls (x :: .ref a :: st) ws = (ai_fput ws a 8 0 x).bind fun ws => ai_Run 1 15 ls st ws := R_putF hc_1 dX8_init_12 hv_1 (w := 121) rfl hk_1 rfl rfl
theorem r_1_15 (ls st : List Value) (ws : ai_W) : ai_Run 1 15 ls st ws = ai_Run 1 16 ls (.int 0 :: st) ws := R_iconst hc_1 dX8_init_15 (by decide) rfl
theorem r_1_16 (l0 l1 l2 l3 : Value) (a : Int32) (st : List Value) (ws : ai_W) : ai_Run 1 16 [l0, l1, l2, l3] (.int a :: st) ws = ai_Run 1 17 [l0, l1, l2, .int a] st ws := R_istore_n hc_1 dX8_init_16 (Nat.le_of_ble_eq_true rfl) rfl rfl
theorem r_1_17 (l0 l1 l2 : Value) (a : Int32) (st : List Value) (ws : ai_W) : ai_Run 1 17 [l0, l1, l2, .int a] st ws = ai_Run 1 18 [l0, l1, l2, .int a] (.int a :: st) ws := R_iload_n hc_1 dX8_init_17 rfl rfl
theorem r_1_18 (l1 l2 l3 : Value) (a : Nat) (st : List Value) (ws : ai_W) : ai_Run 1 18 [.ref a, l1, l2, l3] st ws = ai_Run 1 19 [.ref a, l1, l2, l3] (.ref a :: st) ws := R_aload_n hc_1 dX8_init_18 rfl rfl
theorem r_1_19 (ls st : List Value) (a : Nat) (ws : ai_W) : ai_Run 1 19 ls (.ref a :: st) ws = (ai_fget ws a 8 0).bind fun q => ai_Run 1 22 ls (q :: st) ws := R_getf hc_1 dX8_init_19 hv_1 (w := 121) rfl rfl
theorem r_1_22 (ls st : List Value) (a : Nat) (ws : ai_W) : ai_Run 1 22 ls (.ref a :: st) ws = (ai_len ws a).bind fun q => ai_Run 1 23 ls (.int q :: st) ws := R_arraylength hc_1 dX8_init_22 rfl
theorem r_1_23 (ls st : List Value) (a b : Int32) (ws : ai_W) : ai_Run 1 23 ls (.int b :: .int a :: st) ws = if a < b then ai_Run 1 26 ls st ws else ai_Run 1 39 ls st ws := R_cmp_ge hc_1 dX8_init_23 rfl rfl
theorem r_1_26 (l1 l2 l3 : Value) (a : Nat) (st : List Value) (ws : ai_W) : ai_Run 1 26 [.ref a, l1, l2, l3] st ws = ai_Run 1 27 [.ref a, l1, l2, l3] (.ref a :: st) ws := R_aload_n hc_1 dX8_init_26 rfl rfl
theorem r_1_27 (ls st : List Value) (a : Nat) (ws : ai_W) : ai_Run 1 27 ls (.ref a :: st) ws = (ai_fget ws a 8 0).bind fun q => ai_Run 1 30 ls (q :: st) ws := R_getf hc_1 dX8_init_27 hv_1 (w := 121) rfl rfl
theorem r_1_30 (l0 l1 l2 : Value) (a : Int32) (st : List Value) (ws : ai_W) : ai_Run 1 30 [l0, l1, l2, .int a] st ws = ai_Run 1 31 [l0, l1, l2, .int a] (.int a :: st) ws := R_iload_n hc_1 dX8_init_30 rfl rfl
theorem r_1_31 (l0 l1 l3 : Value) (a : Int32) (st : List Value) (ws : ai_W) : ai_Run 1 31 [l0, l1, .int a, l3] st ws = ai_Run 1 32 [l0, l1, .int a, l3] (.int a :: st) ws := R_iload_n hc_1 dX8_init_31 rfl rfl
theorem r_1_32 (ls st : List Value) (a : Nat) (i x : Int32) (ws : ai_W) : ai_Run 1 32 ls (.int x :: .int i :: .ref a :: st) ws = (ai_aset ws a i x).bind fun ws => ai_Run 1 33 ls st ws := R_iastore hc_1 dX8_init_32 rfl
theorem r_1_33 (l0 l1 l2 : Value) (a : Int32) (st : List Value) (ws : ai_W) : ai_Run 1 33 [l0, l1, l2, .int a] st ws = ai_Run 1 36 [l0, l1, l2, .int (a + 1)] st ws := R_iinc hc_1 dX8_init_33 rfl (by decide) rfl rfl
theorem r_1_36 (ls st : List Value) (ws : ai_W) : ai_Run 1 36 ls st ws = ai_Run 1 17 ls st ws := R_goto hc_1 dX8_init_36 rfl
theorem r_1_39 (ls : List Value) (ws : ai_W) : ai_Run 1 39 ls [] ws = some (none, ws) := R_vret hc_1 dX8_init_39 ht_1
theorem dX0_init_0 : decode cX0_init 0 = .ok (.aload_n 0, 1) := by decide +kernel
theorem dX0_init_1 : decode cX0_init 1 = .ok (.invokespecial 3, 3) := by decide +kernel
theorem dX0_init_4 : decode cX0_init 4 = .ok (.aload_n 0, 1) := by decide +kernel
theorem dX0_init_5 : decode cX0_init 5 = .ok (.new 9, 3) := by decide +kernel
theorem dX0_init_8 : decode cX0_init 8 = .ok (.dup, 1) := by decide +kernel
theorem dX0_init_9 : decode cX0_init 9 = .ok (.bipush 8, 2) := by decide +kernel
theorem dX0_init_11 : decode cX0_init 11 = .ok (.iconst 0, 1) := by decide +kernel
theorem dX0_init_12 : decode cX0_init 12 = .ok (.invokespecial 11, 3) := by decide +kernel
theorem dX0_init_15 : decode cX0_init 15 = .ok (.putfield 14, 3) := by decide +kernel
theorem dX0_init_18 : decode cX0_init 18 = .ok (.aload_n 0, 1) := by decide +kernel
theorem dX0_init_19 : decode cX0_init 19 = .ok (.new 9, 3) := by decide +kernel
theorem dX0_init_22 : decode cX0_init 22 = .ok (.dup, 1) := by decide +kernel
theorem dX0_init_23 : decode cX0_init 23 = .ok (.bipush 48, 2) := by decide +kernel
theorem dX0_init_25 : decode cX0_init 25 = .ok (.iconst 0, 1) := by decide +kernel
theorem dX0_init_26 : decode cX0_init 26 = .ok (.invokespecial 11, 3) := by decide +kernel
theorem dX0_init_29 : decode cX0_init 29 = .ok (.putfield 20, 3) := by decide +kernel
theorem dX0_init_32 : decode cX0_init 32 = .ok (.aload_n 0, 1) := by decide +kernel
theorem dX0_init_33 : decode cX0_init 33 = .ok (.new 9, 3) := by decide +kernel
theorem dX0_init_36 : decode cX0_init 36 = .ok (.dup, 1) := by decide +kernel
theorem dX0_init_37 : decode cX0_init 37 = .ok (.bipush 24, 2) := by decide +kernel
theorem dX0_init_39 : decode cX0_init 39 = .ok (.bipush (-4), 2) := by decide +kernel
theorem dX0_init_41 : decode cX0_init 41 = .ok (.invokespecial 11, 3) := by decide +kernel
theorem dX0_init_44 : decode cX0_init 44 = .ok (.putfield 23, 3) := by decide +kernel
theorem dX0_init_47 : decode cX0_init 47 = .ok (.aload_n 0, 1) := by decide +kernel
theorem dX0_init_48 : decode cX0_init 48 = .ok (.new 9, 3) := by decide +kernel
theorem dX0_init_51 : decode cX0_init 51 = .ok (.dup, 1) := by decide +kernel
theorem dX0_init_52 : decode cX0_init 52 = .ok (.bipush 31, 2) := by decide +kernel
theorem dX0_init_54 : decode cX0_init 54 = .ok (.bipush (-4), 2) := by decide +kernel
theorem dX0_init_56 : decode cX0_init 56 = .ok (.invokespecial 11, 3) := by decide +kernel
theorem dX0_init_59 : decode cX0_init 59 = .ok (.putfield 26, 3) := by decide +kernel
theorem dX0_init_62 : decode cX0_init 62 = .ok (.aload_n 0, 1) := by decide +kernel
theorem dX0_init_63 : decode cX0_init 63 = .ok (.new 9, 3) := by decide +kernel
theorem dX0_init_66 : decode cX0_init 66 = .ok (.dup, 1) := by decide +kernel
theorem dX0_init_67 : decode cX0_init 67 = .ok (.iconst 4, 1) := by decide +kernel
theorem dX0_init_68 : decode cX0_init 68 = .ok (.iconst 0, 1) := by decide +kernel
theorem dX0_init_69 : decode cX0_init 69 = .ok (.invokespecial 11, 3) := by decide +kernel
theorem dX0_init_72 : decode cX0_init 72 = .ok (.putfield 29, 3) := by decide +kernel
theorem dX0_init_75 : decode cX0_init 75 = .ok (.aload_n 0, 1) := by decide +kernel
theorem dX0_init_76 : decode cX0_init 76 = .ok (.new 9, 3) := by decide +kernel
theorem dX0_init_79 : decode cX0_init 79 = .ok (.dup, 1) := by decide +kernel
theorem dX0_init_80 : decode cX0_init 80 = .ok (.bipush 64, 2) := by decide +kernel
theorem dX0_init_82 : decode cX0_init 82 = .ok (.iconst 0, 1) := by decide +kernel
theorem dX0_init_83 : decode cX0_init 83 = .ok (.invokespecial 11, 3) := by decide +kernel
theorem dX0_init_86 : decode cX0_init 86 = .ok (.putfield 32, 3) := by decide +kernel
theorem dX0_init_89 : decode cX0_init 89 = .ok (.aload_n 0, 1) := by decide +kernel
theorem dX0_init_90 : decode cX0_init 90 = .ok (.new 9, 3) := by decide +kernel
theorem dX0_init_93 : decode cX0_init 93 = .ok (.dup, 1) := by decide +kernel
theorem dX0_init_94 : decode cX0_init 94 = .ok (.bipush 7, 2) := by decide +kernel
theorem dX0_init_96 : decode cX0_init 96 = .ok (.iconst 0, 1) := by decide +kernel
theorem dX0_init_97 : decode cX0_init 97 = .ok (.invokespecial 11, 3) := by decide +kernel
theorem dX0_init_100 : decode cX0_init 100 = .ok (.putfield 35, 3) := by decide +kernel
theorem dX0_init_103 : decode cX0_init 103 = .ok (.return_, 1) := by decide +kernel
theorem hc_2 : ai_code 2 = cX0_init := rfl
theorem hv_2 : ai_view 2 = 0 := rfl
theorem hk_2 : ai_kind 2 = 2 := rfl
theorem hn_2 : ai_n 2 = 0 := rfl
theorem ht_2 : ai_ret 2 = none := rfl
theorem e_2 (r : Nat)  (ws : ai_W) : ai_Call 2 [.ref r] ws = if ai_isob ws r 0 = true then ai_Run 2 0 [.ref r] [] ws else none := R_entI hk_2 ⟨⟨rfl, rfl⟩, Nat.le_of_ble_eq_true rfl⟩ rfl
theorem r_2_0 (a : Nat) (st : List Value) (ws : ai_W) : ai_Run 2 0 [.ref a] st ws = ai_Run 2 1 [.ref a] (.ref a :: st) ws := R_aload_n hc_2 dX0_init_0 rfl rfl
theorem r_2_1 (ls : List Value) (a : Nat) (ws : ai_W) : ai_Run 2 1 ls [.ref a] ws = ai_Run 2 4 ls [] ws := R_obj hc_2 dX0_init_1 hv_2 (y2 := 0) (w := 111) rfl (Nat.le_of_ble_eq_true rfl) rfl
theorem r_2_4 (a : Nat) (st : List Value) (ws : ai_W) : ai_Run 2 4 [.ref a] st ws = ai_Run 2 5 [.ref a] (.ref a :: st) ws := R_aload_n hc_2 dX0_init_4 rfl rfl
theorem r_2_5 (ls st : List Value) (ws : ai_W) : ai_Run 2 5 ls st ws = ai_Run 2 8 ls (.ref ws.length :: st) (ws ++ [ai_blank 8]) := R_new hc_2 dX0_init_5 hv_2 (w1 := 112) (w2 := 113) (w3 := 84) rfl rfl
theorem r_2_8 (ls st : List Value) (a : Nat) (ws : ai_W) : ai_Run 2 8 ls (.ref a :: st) ws = ai_Run 2 9 ls (.ref a :: .ref a :: st) ws := R_dup hc_2 dX0_init_8 rfl
theorem r_2_9 (ls st : List Value) (ws : ai_W) : ai_Run 2 9 ls st ws = ai_Run 2 11 ls (.int 8 :: st) ws := R_bipush hc_2 dX0_init_9 (by decide) rfl
theorem r_2_11 (ls st : List Value) (ws : ai_W) : ai_Run 2 11 ls st ws = ai_Run 2 12 ls (.int 0 :: st) ws := R_iconst hc_2 dX0_init_11 (by decide) rfl
theorem r_2_12 (ls : List Value) (r : Nat) (b0 : Int32) (b1 : Int32) (s0 s1 : Value) (ws : ai_W) : ai_Run 2 12 ls [.int b1, .int b0, .ref r, s0, s1] ws = (ai_Call 1 [.ref r, .int b0, .int b1] ws).bind fun q => ai_Run 2 15 ls (q.1.toList ++ [s0, s1]) q.2 := R_callI hc_2 dX0_init_12 hv_2 (w := 114) (Or.inl rfl) (Nat.le_of_ble_eq_true rfl) hk_1 (by rw [hn_1]; rfl) rfl (Nat.le_of_ble_eq_true rfl) rfl
theorem r_2_15 (ls st : List Value) (a : Nat) (x : Value) (ws : ai_W) : ai_Run 2 15 ls (x :: .ref a :: st) ws = (ai_fput ws a 0 3 x).bind fun ws => ai_Run 2 18 ls st ws := R_putF hc_2 dX0_init_15 hv_2 (w := 138) rfl hk_2 rfl rfl
theorem r_2_18 (a : Nat) (st : List Value) (ws : ai_W) : ai_Run 2 18 [.ref a] st ws = ai_Run 2 19 [.ref a] (.ref a :: st) ws := R_aload_n hc_2 dX0_init_18 rfl rfl
theorem r_2_19 (ls st : List Value) (ws : ai_W) : ai_Run 2 19 ls st ws = ai_Run 2 22 ls (.ref ws.length :: st) (ws ++ [ai_blank 8]) := R_new hc_2 dX0_init_19 hv_2 (w1 := 112) (w2 := 113) (w3 := 84) rfl rfl
theorem r_2_22 (ls st : List Value) (a : Nat) (ws : ai_W) : ai_Run 2 22 ls (.ref a :: st) ws = ai_Run 2 23 ls (.ref a :: .ref a :: st) ws := R_dup hc_2 dX0_init_22 rfl
theorem r_2_23 (ls st : List Value) (ws : ai_W) : ai_Run 2 23 ls st ws = ai_Run 2 25 ls (.int 48 :: st) ws := R_bipush hc_2 dX0_init_23 (by decide) rfl
theorem r_2_25 (ls st : List Value) (ws : ai_W) : ai_Run 2 25 ls st ws = ai_Run 2 26 ls (.int 0 :: st) ws := R_iconst hc_2 dX0_init_25 (by decide) rfl
theorem r_2_26 (ls : List Value) (r : Nat) (b0 : Int32) (b1 : Int32) (s0 s1 : Value) (ws : ai_W) : ai_Run 2 26 ls [.int b1, .int b0, .ref r, s0, s1] ws = (ai_Call 1 [.ref r, .int b0, .int b1] ws).bind fun q => ai_Run 2 29 ls (q.1.toList ++ [s0, s1]) q.2 := R_callI hc_2 dX0_init_26 hv_2 (w := 114) (Or.inl rfl) (Nat.le_of_ble_eq_true rfl) hk_1 (by rw [hn_1]; rfl) rfl (Nat.le_of_ble_eq_true rfl) rfl
theorem r_2_29 (ls st : List Value) (a : Nat) (x : Value) (ws : ai_W) : ai_Run 2 29 ls (x :: .ref a :: st) ws = (ai_fput ws a 0 4 x).bind fun ws => ai_Run 2 32 ls st ws := R_putF hc_2 dX0_init_29 hv_2 (w := 142) rfl hk_2 rfl rfl
theorem r_2_32 (a : Nat) (st : List Value) (ws : ai_W) : ai_Run 2 32 [.ref a] st ws = ai_Run 2 33 [.ref a] (.ref a :: st) ws := R_aload_n hc_2 dX0_init_32 rfl rfl
theorem r_2_33 (ls st : List Value) (ws : ai_W) : ai_Run 2 33 ls st ws = ai_Run 2 36 ls (.ref ws.length :: st) (ws ++ [ai_blank 8]) := R_new hc_2 dX0_init_33 hv_2 (w1 := 112) (w2 := 113) (w3 := 84) rfl rfl
theorem r_2_36 (ls st : List Value) (a : Nat) (ws : ai_W) : ai_Run 2 36 ls (.ref a :: st) ws = ai_Run 2 37 ls (.ref a :: .ref a :: st) ws := R_dup hc_2 dX0_init_36 rfl
theorem r_2_37 (ls st : List Value) (ws : ai_W) : ai_Run 2 37 ls st ws = ai_Run 2 39 ls (.int 24 :: st) ws := R_bipush hc_2 dX0_init_37 (by decide) rfl
theorem r_2_39 (ls st : List Value) (ws : ai_W) : ai_Run 2 39 ls st ws = ai_Run 2 41 ls (.int (-4) :: st) ws := R_bipush hc_2 dX0_init_39 (by decide) rfl
theorem r_2_41 (ls : List Value) (r : Nat) (b0 : Int32) (b1 : Int32) (s0 s1 : Value) (ws : ai_W) : ai_Run 2 41 ls [.int b1, .int b0, .ref r, s0, s1] ws = (ai_Call 1 [.ref r, .int b0, .int b1] ws).bind fun q => ai_Run 2 44 ls (q.1.toList ++ [s0, s1]) q.2 := R_callI hc_2 dX0_init_41 hv_2 (w := 114) (Or.inl rfl) (Nat.le_of_ble_eq_true rfl) hk_1 (by rw [hn_1]; rfl) rfl (Nat.le_of_ble_eq_true rfl) rfl
theorem r_2_44 (ls st : List Value) (a : Nat) (x : Value) (ws : ai_W) : ai_Run 2 44 ls (x :: .ref a :: st) ws = (ai_fput ws a 0 5 x).bind fun ws => ai_Run 2 47 ls st ws := R_putF hc_2 dX0_init_44 hv_2 (w := 144) rfl hk_2 rfl rfl
theorem r_2_47 (a : Nat) (st : List Value) (ws : ai_W) : ai_Run 2 47 [.ref a] st ws = ai_Run 2 48 [.ref a] (.ref a :: st) ws := R_aload_n hc_2 dX0_init_47 rfl rfl
theorem r_2_48 (ls st : List Value) (ws : ai_W) : ai_Run 2 48 ls st ws = ai_Run 2 51 ls (.ref ws.length :: st) (ws ++ [ai_blank 8]) := R_new hc_2 dX0_init_48 hv_2 (w1 := 112) (w2 := 113) (w3 := 84) rfl rfl
theorem r_2_51 (ls st : List Value) (a : Nat) (ws : ai_W) : ai_Run 2 51 ls (.ref a :: st) ws = ai_Run 2 52 ls (.ref a :: .ref a :: st) ws := R_dup hc_2 dX0_init_51 rfl
theorem r_2_52 (ls st : List Value) (ws : ai_W) : ai_Run 2 52 ls st ws = ai_Run 2 54 ls (.int 31 :: st) ws := R_bipush hc_2 dX0_init_52 (by decide) rfl
theorem r_2_54 (ls st : List Value) (ws : ai_W) : ai_Run 2 54 ls st ws = ai_Run 2 56 ls (.int (-4) :: st) ws := R_bipush hc_2 dX0_init_54 (by decide) rfl
theorem r_2_56 (ls : List Value) (r : Nat) (b0 : Int32) (b1 : Int32) (s0 s1 : Value) (ws : ai_W) : ai_Run 2 56 ls [.int b1, .int b0, .ref r, s0, s1] ws = (ai_Call 1 [.ref r, .int b0, .int b1] ws).bind fun q => ai_Run 2 59 ls (q.1.toList ++ [s0, s1]) q.2 := R_callI hc_2 dX0_init_56 hv_2 (w := 114) (Or.inl rfl) (Nat.le_of_ble_eq_true rfl) hk_1 (by rw [hn_1]; rfl) rfl (Nat.le_of_ble_eq_true rfl) rfl
theorem r_2_59 (ls st : List Value) (a : Nat) (x : Value) (ws : ai_W) : ai_Run 2 59 ls (x :: .ref a :: st) ws = (ai_fput ws a 0 6 x).bind fun ws => ai_Run 2 62 ls st ws := R_putF hc_2 dX0_init_59 hv_2 (w := 145) rfl hk_2 rfl rfl
theorem r_2_62 (a : Nat) (st : List Value) (ws : ai_W) : ai_Run 2 62 [.ref a] st ws = ai_Run 2 63 [.ref a] (.ref a :: st) ws := R_aload_n hc_2 dX0_init_62 rfl rfl
theorem r_2_63 (ls st : List Value) (ws : ai_W) : ai_Run 2 63 ls st ws = ai_Run 2 66 ls (.ref ws.length :: st) (ws ++ [ai_blank 8]) := R_new hc_2 dX0_init_63 hv_2 (w1 := 112) (w2 := 113) (w3 := 84) rfl rfl
theorem r_2_66 (ls st : List Value) (a : Nat) (ws : ai_W) : ai_Run 2 66 ls (.ref a :: st) ws = ai_Run 2 67 ls (.ref a :: .ref a :: st) ws := R_dup hc_2 dX0_init_66 rfl
theorem r_2_67 (ls st : List Value) (ws : ai_W) : ai_Run 2 67 ls st ws = ai_Run 2 68 ls (.int 4 :: st) ws := R_iconst hc_2 dX0_init_67 (by decide) rfl
theorem r_2_68 (ls st : List Value) (ws : ai_W) : ai_Run 2 68 ls st ws = ai_Run 2 69 ls (.int 0 :: st) ws := R_iconst hc_2 dX0_init_68 (by decide) rfl
theorem r_2_69 (ls : List Value) (r : Nat) (b0 : Int32) (b1 : Int32) (s0 s1 : Value) (ws : ai_W) : ai_Run 2 69 ls [.int b1, .int b0, .ref r, s0, s1] ws = (ai_Call 1 [.ref r, .int b0, .int b1] ws).bind fun q => ai_Run 2 72 ls (q.1.toList ++ [s0, s1]) q.2 := R_callI hc_2 dX0_init_69 hv_2 (w := 114) (Or.inl rfl) (Nat.le_of_ble_eq_true rfl) hk_1 (by rw [hn_1]; rfl) rfl (Nat.le_of_ble_eq_true rfl) rfl
theorem r_2_72 (ls st : List Value) (a : Nat) (x : Value) (ws : ai_W) : ai_Run 2 72 ls (x :: .ref a :: st) ws = (ai_fput ws a 0 7 x).bind fun ws => ai_Run 2 75 ls st ws := R_putF hc_2 dX0_init_72 hv_2 (w := 149) rfl hk_2 rfl rfl
theorem r_2_75 (a : Nat) (st : List Value) (ws : ai_W) : ai_Run 2 75 [.ref a] st ws = ai_Run 2 76 [.ref a] (.ref a :: st) ws := R_aload_n hc_2 dX0_init_75 rfl rfl
theorem r_2_76 (ls st : List Value) (ws : ai_W) : ai_Run 2 76 ls st ws = ai_Run 2 79 ls (.ref ws.length :: st) (ws ++ [ai_blank 8]) := R_new hc_2 dX0_init_76 hv_2 (w1 := 112) (w2 := 113) (w3 := 84) rfl rfl
theorem r_2_79 (ls st : List Value) (a : Nat) (ws : ai_W) : ai_Run 2 79 ls (.ref a :: st) ws = ai_Run 2 80 ls (.ref a :: .ref a :: st) ws := R_dup hc_2 dX0_init_79 rfl
theorem r_2_80 (ls st : List Value) (ws : ai_W) : ai_Run 2 80 ls st ws = ai_Run 2 82 ls (.int 64 :: st) ws := R_bipush hc_2 dX0_init_80 (by decide) rfl
theorem r_2_82 (ls st : List Value) (ws : ai_W) : ai_Run 2 82 ls st ws = ai_Run 2 83 ls (.int 0 :: st) ws := R_iconst hc_2 dX0_init_82 (by decide) rfl
theorem r_2_83 (ls : List Value) (r : Nat) (b0 : Int32) (b1 : Int32) (s0 s1 : Value) (ws : ai_W) : ai_Run 2 83 ls [.int b1, .int b0, .ref r, s0, s1] ws = (ai_Call 1 [.ref r, .int b0, .int b1] ws).bind fun q => ai_Run 2 86 ls (q.1.toList ++ [s0, s1]) q.2 := R_callI hc_2 dX0_init_83 hv_2 (w := 114) (Or.inl rfl) (Nat.le_of_ble_eq_true rfl) hk_1 (by rw [hn_1]; rfl) rfl (Nat.le_of_ble_eq_true rfl) rfl
theorem r_2_86 (ls st : List Value) (a : Nat) (x : Value) (ws : ai_W) : ai_Run 2 86 ls (x :: .ref a :: st) ws = (ai_fput ws a 0 8 x).bind fun ws => ai_Run 2 89 ls st ws := R_putF hc_2 dX0_init_86 hv_2 (w := 152) rfl hk_2 rfl rfl
theorem r_2_89 (a : Nat) (st : List Value) (ws : ai_W) : ai_Run 2 89 [.ref a] st ws = ai_Run 2 90 [.ref a] (.ref a :: st) ws := R_aload_n hc_2 dX0_init_89 rfl rfl
theorem r_2_90 (ls st : List Value) (ws : ai_W) : ai_Run 2 90 ls st ws = ai_Run 2 93 ls (.ref ws.length :: st) (ws ++ [ai_blank 8]) := R_new hc_2 dX0_init_90 hv_2 (w1 := 112) (w2 := 113) (w3 := 84) rfl rfl
theorem r_2_93 (ls st : List Value) (a : Nat) (ws : ai_W) : ai_Run 2 93 ls (.ref a :: st) ws = ai_Run 2 94 ls (.ref a :: .ref a :: st) ws := R_dup hc_2 dX0_init_93 rfl
theorem r_2_94 (ls st : List Value) (ws : ai_W) : ai_Run 2 94 ls st ws = ai_Run 2 96 ls (.int 7 :: st) ws := R_bipush hc_2 dX0_init_94 (by decide) rfl
theorem r_2_96 (ls st : List Value) (ws : ai_W) : ai_Run 2 96 ls st ws = ai_Run 2 97 ls (.int 0 :: st) ws := R_iconst hc_2 dX0_init_96 (by decide) rfl
theorem r_2_97 (ls : List Value) (r : Nat) (b0 : Int32) (b1 : Int32) (s0 s1 : Value) (ws : ai_W) : ai_Run 2 97 ls [.int b1, .int b0, .ref r, s0, s1] ws = (ai_Call 1 [.ref r, .int b0, .int b1] ws).bind fun q => ai_Run 2 100 ls (q.1.toList ++ [s0, s1]) q.2 := R_callI hc_2 dX0_init_97 hv_2 (w := 114) (Or.inl rfl) (Nat.le_of_ble_eq_true rfl) hk_1 (by rw [hn_1]; rfl) rfl (Nat.le_of_ble_eq_true rfl) rfl
theorem r_2_100 (ls st : List Value) (a : Nat) (x : Value) (ws : ai_W) : ai_Run 2 100 ls (x :: .ref a :: st) ws = (ai_fput ws a 0 9 x).bind fun ws => ai_Run 2 103 ls st ws := R_putF hc_2 dX0_init_100 hv_2 (w := 154) rfl hk_2 rfl rfl
theorem r_2_103 (ls : List Value) (ws : ai_W) : ai_Run 2 103 ls [] ws = some (none, ws) := R_vret hc_2 dX0_init_103 ht_2
theorem dX4_init_0 : decode cX4_init 0 = .ok (.aload_n 0, 1) := by decide +kernel
theorem dX4_init_1 : decode cX4_init 1 = .ok (.invokespecial 3, 3) := by decide +kernel
theorem dX4_init_4 : decode cX4_init 4 = .ok (.aload_n 0, 1) := by decide +kernel
theorem dX4_init_5 : decode cX4_init 5 = .ok (.aload_n 1, 1) := by decide +kernel
theorem dX4_init_6 : decode cX4_init 6 = .ok (.putfield 9, 3) := by decide +kernel
theorem dX4_init_9 : decode cX4_init 9 = .ok (.return_, 1) := by decide +kernel
theorem hc_3 : ai_code 3 = cX4_init := rfl
theorem hv_3 : ai_view 3 = 4 := rfl
theorem hk_3 : ai_kind 3 = 2 := rfl
theorem hn_3 : ai_n 3 = 1 := rfl
theorem ht_3 : ai_ret 3 = none := rfl
theorem e_3 (r : Nat) (a0 : Nat) (ws : ai_W) : ai_Call 3 [.ref r, .ref a0] ws = if ai_isob ws r 4 = true then ai_Run 3 0 [.ref r, .ref a0] [] ws else none := R_entI hk_3 ⟨⟨rfl, rfl⟩, Nat.le_of_ble_eq_true rfl⟩ rfl
theorem r_3_0 (l1 : Value) (a : Nat) (st : List Value) (ws : ai_W) : ai_Run 3 0 [.ref a, l1] st ws = ai_Run 3 1 [.ref a, l1] (.ref a :: st) ws := R_aload_n hc_3 dX4_init_0 rfl rfl
theorem r_3_1 (ls : List Value) (a : Nat) (ws : ai_W) : ai_Run 3 1 ls [.ref a] ws = ai_Run 3 4 ls [] ws := R_obj hc_3 dX4_init_1 hv_3 (y2 := 0) (w := 184) rfl (Nat.le_of_ble_eq_true rfl) rfl
theorem r_3_4 (l1 : Value) (a : Nat) (st : List Value) (ws : ai_W) : ai_Run 3 4 [.ref a, l1] st ws = ai_Run 3 5 [.ref a, l1] (.ref a :: st) ws := R_aload_n hc_3 dX4_init_4 rfl rfl
theorem r_3_5 (l0 : Value) (a : Nat) (st : List Value) (ws : ai_W) : ai_Run 3 5 [l0, .ref a] st ws = ai_Run 3 6 [l0, .ref a] (.ref a :: st) ws := R_aload_n hc_3 dX4_init_5 rfl rfl
theorem r_3_6 (ls st : List Value) (a : Nat) (x : Value) (ws : ai_W) : ai_Run 3 6 ls (x :: .ref a :: st) ws = (ai_fput ws a 4 0 x).bind fun ws => ai_Run 3 9 ls st ws := R_putF hc_3 dX4_init_6 hv_3 (w := 185) rfl hk_3 rfl rfl
theorem r_3_9 (ls : List Value) (ws : ai_W) : ai_Run 3 9 ls [] ws = some (none, ws) := R_vret hc_3 dX4_init_9 ht_3
theorem dX5_init_0 : decode cX5_init 0 = .ok (.aload_n 0, 1) := by decide +kernel
theorem dX5_init_1 : decode cX5_init 1 = .ok (.invokespecial 3, 3) := by decide +kernel
theorem dX5_init_4 : decode cX5_init 4 = .ok (.aload_n 0, 1) := by decide +kernel
theorem dX5_init_5 : decode cX5_init 5 = .ok (.aload_n 1, 1) := by decide +kernel
theorem dX5_init_6 : decode cX5_init 6 = .ok (.putfield 9, 3) := by decide +kernel
theorem dX5_init_9 : decode cX5_init 9 = .ok (.return_, 1) := by decide +kernel
theorem hc_4 : ai_code 4 = cX5_init := rfl
theorem hv_4 : ai_view 4 = 5 := rfl
theorem hk_4 : ai_kind 4 = 2 := rfl
theorem hn_4 : ai_n 4 = 1 := rfl
theorem ht_4 : ai_ret 4 = none := rfl
theorem e_4 (r : Nat) (a0 : Nat) (ws : ai_W) : ai_Call 4 [.ref r, .ref a0] ws = if ai_isob ws r 5 = true then ai_Run 4 0 [.ref r, .ref a0] [] ws else none := R_entI hk_4 ⟨⟨rfl, rfl⟩, Nat.le_of_ble_eq_true rfl⟩ rfl
theorem r_4_0 (l1 : Value) (a : Nat) (st : List Value) (ws : ai_W) : ai_Run 4 0 [.ref a, l1] st ws = ai_Run 4 1 [.ref a, l1] (.ref a :: st) ws := R_aload_n hc_4 dX5_init_0 rfl rfl
theorem r_4_1 (ls : List Value) (a : Nat) (ws : ai_W) : ai_Run 4 1 ls [.ref a] ws = ai_Run 4 4 ls [] ws := R_obj hc_4 dX5_init_1 hv_4 (y2 := 0) (w := 194) rfl (Nat.le_of_ble_eq_true rfl) rfl
theorem r_4_4 (l1 : Value) (a : Nat) (st : List Value) (ws : ai_W) : ai_Run 4 4 [.ref a, l1] st ws = ai_Run 4 5 [.ref a, l1] (.ref a :: st) ws := R_aload_n hc_4 dX5_init_4 rfl rfl
theorem r_4_5 (l0 : Value) (a : Nat) (st : List Value) (ws : ai_W) : ai_Run 4 5 [l0, .ref a] st ws = ai_Run 4 6 [l0, .ref a] (.ref a :: st) ws := R_aload_n hc_4 dX5_init_5 rfl rfl
theorem r_4_6 (ls st : List Value) (a : Nat) (x : Value) (ws : ai_W) : ai_Run 4 6 ls (x :: .ref a :: st) ws = (ai_fput ws a 5 0 x).bind fun ws => ai_Run 4 9 ls st ws := R_putF hc_4 dX5_init_6 hv_4 (w := 195) rfl hk_4 rfl rfl
theorem r_4_9 (ls : List Value) (ws : ai_W) : ai_Run 4 9 ls [] ws = some (none, ws) := R_vret hc_4 dX5_init_9 ht_4
theorem dX7_init_0 : decode cX7_init 0 = .ok (.aload_n 0, 1) := by decide +kernel
theorem dX7_init_1 : decode cX7_init 1 = .ok (.invokespecial 3, 3) := by decide +kernel
theorem dX7_init_4 : decode cX7_init 4 = .ok (.aload_n 0, 1) := by decide +kernel
theorem dX7_init_5 : decode cX7_init 5 = .ok (.bipush (-4), 2) := by decide +kernel
theorem dX7_init_7 : decode cX7_init 7 = .ok (.putfield 9, 3) := by decide +kernel
theorem dX7_init_10 : decode cX7_init 10 = .ok (.aload_n 0, 1) := by decide +kernel
theorem dX7_init_11 : decode cX7_init 11 = .ok (.bipush (-4), 2) := by decide +kernel
theorem dX7_init_13 : decode cX7_init 13 = .ok (.putfield 15, 3) := by decide +kernel
theorem dX7_init_16 : decode cX7_init 16 = .ok (.aload_n 0, 1) := by decide +kernel
theorem dX7_init_17 : decode cX7_init 17 = .ok (.bipush (-4), 2) := by decide +kernel
theorem dX7_init_19 : decode cX7_init 19 = .ok (.putfield 18, 3) := by decide +kernel
theorem dX7_init_22 : decode cX7_init 22 = .ok (.aload_n 0, 1) := by decide +kernel
theorem dX7_init_23 : decode cX7_init 23 = .ok (.bipush (-4), 2) := by decide +kernel
theorem dX7_init_25 : decode cX7_init 25 = .ok (.putfield 21, 3) := by decide +kernel
theorem dX7_init_28 : decode cX7_init 28 = .ok (.return_, 1) := by decide +kernel
theorem hc_5 : ai_code 5 = cX7_init := rfl
theorem hv_5 : ai_view 5 = 7 := rfl
theorem hk_5 : ai_kind 5 = 2 := rfl
theorem hn_5 : ai_n 5 = 0 := rfl
theorem ht_5 : ai_ret 5 = none := rfl
theorem e_5 (r : Nat)  (ws : ai_W) : ai_Call 5 [.ref r] ws = if ai_isob ws r 7 = true then ai_Run 5 0 [.ref r] [] ws else none := R_entI hk_5 ⟨⟨rfl, rfl⟩, Nat.le_of_ble_eq_true rfl⟩ rfl
theorem r_5_0 (a : Nat) (st : List Value) (ws : ai_W) : ai_Run 5 0 [.ref a] st ws = ai_Run 5 1 [.ref a] (.ref a :: st) ws := R_aload_n hc_5 dX7_init_0 rfl rfl
theorem r_5_1 (ls : List Value) (a : Nat) (ws : ai_W) : ai_Run 5 1 ls [.ref a] ws = ai_Run 5 4 ls [] ws := R_obj hc_5 dX7_init_1 hv_5 (y2 := 0) (w := 204) rfl (Nat.le_of_ble_eq_true rfl) rfl
theorem r_5_4 (a : Nat) (st : List Value) (ws : ai_W) : ai_Run 5 4 [.ref a] st ws = ai_Run 5 5 [.ref a] (.ref a :: st) ws := R_aload_n hc_5 dX7_init_4 rfl rfl
theorem r_5_5 (ls st : List Value) (ws : ai_W) : ai_Run 5 5 ls st ws = ai_Run 5 7 ls (.int (-4) :: st) ws := R_bipush hc_5 dX7_init_5 (by decide) rfl
theorem r_5_7 (ls st : List Value) (a : Nat) (x : Value) (ws : ai_W) : ai_Run 5 7 ls (x :: .ref a :: st) ws = (ai_fput ws a 7 0 x).bind fun ws => ai_Run 5 10 ls st ws := R_putF hc_5 dX7_init_7 hv_5 (w := 205) rfl hk_5 rfl rfl
theorem r_5_10 (a : Nat) (st : List Value) (ws : ai_W) : ai_Run 5 10 [.ref a] st ws = ai_Run 5 11 [.ref a] (.ref a :: st) ws := R_aload_n hc_5 dX7_init_10 rfl rfl
theorem r_5_11 (ls st : List Value) (ws : ai_W) : ai_Run 5 11 ls st ws = ai_Run 5 13 ls (.int (-4) :: st) ws := R_bipush hc_5 dX7_init_11 (by decide) rfl
theorem r_5_13 (ls st : List Value) (a : Nat) (x : Value) (ws : ai_W) : ai_Run 5 13 ls (x :: .ref a :: st) ws = (ai_fput ws a 7 1 x).bind fun ws => ai_Run 5 16 ls st ws := R_putF hc_5 dX7_init_13 hv_5 (w := 206) rfl hk_5 rfl rfl
theorem r_5_16 (a : Nat) (st : List Value) (ws : ai_W) : ai_Run 5 16 [.ref a] st ws = ai_Run 5 17 [.ref a] (.ref a :: st) ws := R_aload_n hc_5 dX7_init_16 rfl rfl
theorem r_5_17 (ls st : List Value) (ws : ai_W) : ai_Run 5 17 ls st ws = ai_Run 5 19 ls (.int (-4) :: st) ws := R_bipush hc_5 dX7_init_17 (by decide) rfl
theorem r_5_19 (ls st : List Value) (a : Nat) (x : Value) (ws : ai_W) : ai_Run 5 19 ls (x :: .ref a :: st) ws = (ai_fput ws a 7 2 x).bind fun ws => ai_Run 5 22 ls st ws := R_putF hc_5 dX7_init_19 hv_5 (w := 207) rfl hk_5 rfl rfl
theorem r_5_22 (a : Nat) (st : List Value) (ws : ai_W) : ai_Run 5 22 [.ref a] st ws = ai_Run 5 23 [.ref a] (.ref a :: st) ws := R_aload_n hc_5 dX7_init_22 rfl rfl
theorem r_5_23 (ls st : List Value) (ws : ai_W) : ai_Run 5 23 ls st ws = ai_Run 5 25 ls (.int (-4) :: st) ws := R_bipush hc_5 dX7_init_23 (by decide) rfl
theorem r_5_25 (ls st : List Value) (a : Nat) (x : Value) (ws : ai_W) : ai_Run 5 25 ls (x :: .ref a :: st) ws = (ai_fput ws a 7 3 x).bind fun ws => ai_Run 5 28 ls st ws := R_putF hc_5 dX7_init_25 hv_5 (w := 208) rfl hk_5 rfl rfl
theorem r_5_28 (ls : List Value) (ws : ai_W) : ai_Run 5 28 ls [] ws = some (none, ws) := R_vret hc_5 dX7_init_28 ht_5
theorem dX2_init_0 : decode cX2_init 0 = .ok (.aload_n 0, 1) := by decide +kernel
theorem dX2_init_1 : decode cX2_init 1 = .ok (.invokespecial 3, 3) := by decide +kernel
theorem dX2_init_4 : decode cX2_init 4 = .ok (.aload_n 0, 1) := by decide +kernel
theorem dX2_init_5 : decode cX2_init 5 = .ok (.new 9, 3) := by decide +kernel
theorem dX2_init_8 : decode cX2_init 8 = .ok (.dup, 1) := by decide +kernel
theorem dX2_init_9 : decode cX2_init 9 = .ok (.bipush 8, 2) := by decide +kernel
theorem dX2_init_11 : decode cX2_init 11 = .ok (.iconst 0, 1) := by decide +kernel
theorem dX2_init_12 : decode cX2_init 12 = .ok (.invokespecial 11, 3) := by decide +kernel
theorem dX2_init_15 : decode cX2_init 15 = .ok (.putfield 14, 3) := by decide +kernel
theorem dX2_init_18 : decode cX2_init 18 = .ok (.aload_n 0, 1) := by decide +kernel
theorem dX2_init_19 : decode cX2_init 19 = .ok (.aload_n 1, 1) := by decide +kernel
theorem dX2_init_20 : decode cX2_init 20 = .ok (.putfield 20, 3) := by decide +kernel
theorem dX2_init_23 : decode cX2_init 23 = .ok (.return_, 1) := by decide +kernel
theorem hc_6 : ai_code 6 = cX2_init := rfl
theorem hv_6 : ai_view 6 = 2 := rfl
theorem hk_6 : ai_kind 6 = 2 := rfl
theorem hn_6 : ai_n 6 = 1 := rfl
theorem ht_6 : ai_ret 6 = none := rfl
theorem e_6 (r : Nat) (a0 : Nat) (ws : ai_W) : ai_Call 6 [.ref r, .ref a0] ws = if ai_isob ws r 2 = true then ai_Run 6 0 [.ref r, .ref a0] [] ws else none := R_entI hk_6 ⟨⟨rfl, rfl⟩, Nat.le_of_ble_eq_true rfl⟩ rfl
theorem r_6_0 (l1 : Value) (a : Nat) (st : List Value) (ws : ai_W) : ai_Run 6 0 [.ref a, l1] st ws = ai_Run 6 1 [.ref a, l1] (.ref a :: st) ws := R_aload_n hc_6 dX2_init_0 rfl rfl
theorem r_6_1 (ls : List Value) (a : Nat) (ws : ai_W) : ai_Run 6 1 ls [.ref a] ws = ai_Run 6 4 ls [] ws := R_obj hc_6 dX2_init_1 hv_6 (y2 := 0) (w := 223) rfl (Nat.le_of_ble_eq_true rfl) rfl
theorem r_6_4 (l1 : Value) (a : Nat) (st : List Value) (ws : ai_W) : ai_Run 6 4 [.ref a, l1] st ws = ai_Run 6 5 [.ref a, l1] (.ref a :: st) ws := R_aload_n hc_6 dX2_init_4 rfl rfl
theorem r_6_5 (ls st : List Value) (ws : ai_W) : ai_Run 6 5 ls st ws = ai_Run 6 8 ls (.ref ws.length :: st) (ws ++ [ai_blank 8]) := R_new hc_6 dX2_init_5 hv_6 (w1 := 224) (w2 := 113) (w3 := 84) rfl rfl
theorem r_6_8 (ls st : List Value) (a : Nat) (ws : ai_W) : ai_Run 6 8 ls (.ref a :: st) ws = ai_Run 6 9 ls (.ref a :: .ref a :: st) ws := R_dup hc_6 dX2_init_8 rfl
theorem r_6_9 (ls st : List Value) (ws : ai_W) : ai_Run 6 9 ls st ws = ai_Run 6 11 ls (.int 8 :: st) ws := R_bipush hc_6 dX2_init_9 (by decide) rfl
theorem r_6_11 (ls st : List Value) (ws : ai_W) : ai_Run 6 11 ls st ws = ai_Run 6 12 ls (.int 0 :: st) ws := R_iconst hc_6 dX2_init_11 (by decide) rfl
theorem r_6_12 (ls : List Value) (r : Nat) (b0 : Int32) (b1 : Int32) (s0 s1 : Value) (ws : ai_W) : ai_Run 6 12 ls [.int b1, .int b0, .ref r, s0, s1] ws = (ai_Call 1 [.ref r, .int b0, .int b1] ws).bind fun q => ai_Run 6 15 ls (q.1.toList ++ [s0, s1]) q.2 := R_callI hc_6 dX2_init_12 hv_6 (w := 225) (Or.inl rfl) (Nat.le_of_ble_eq_true rfl) hk_1 (by rw [hn_1]; rfl) rfl (Nat.le_of_ble_eq_true rfl) rfl
theorem r_6_15 (ls st : List Value) (a : Nat) (x : Value) (ws : ai_W) : ai_Run 6 15 ls (x :: .ref a :: st) ws = (ai_fput ws a 2 1 x).bind fun ws => ai_Run 6 18 ls st ws := R_putF hc_6 dX2_init_15 hv_6 (w := 227) rfl hk_6 rfl rfl
theorem r_6_18 (l1 : Value) (a : Nat) (st : List Value) (ws : ai_W) : ai_Run 6 18 [.ref a, l1] st ws = ai_Run 6 19 [.ref a, l1] (.ref a :: st) ws := R_aload_n hc_6 dX2_init_18 rfl rfl
theorem r_6_19 (l0 : Value) (a : Nat) (st : List Value) (ws : ai_W) : ai_Run 6 19 [l0, .ref a] st ws = ai_Run 6 20 [l0, .ref a] (.ref a :: st) ws := R_aload_n hc_6 dX2_init_19 rfl rfl
theorem r_6_20 (ls st : List Value) (a : Nat) (x : Value) (ws : ai_W) : ai_Run 6 20 ls (x :: .ref a :: st) ws = (ai_fput ws a 2 0 x).bind fun ws => ai_Run 6 23 ls st ws := R_putF hc_6 dX2_init_20 hv_6 (w := 226) rfl hk_6 rfl rfl
theorem r_6_23 (ls : List Value) (ws : ai_W) : ai_Run 6 23 ls [] ws = some (none, ws) := R_vret hc_6 dX2_init_23 ht_6
theorem dX1_init_0 : decode cX1_init 0 = .ok (.aload_n 0, 1) := by decide +kernel
theorem dX1_init_1 : decode cX1_init 1 = .ok (.invokespecial 3, 3) := by decide +kernel
theorem dX1_init_4 : decode cX1_init 4 = .ok (.aload_n 0, 1) := by decide +kernel
theorem dX1_init_5 : decode cX1_init 5 = .ok (.aload_n 1, 1) := by decide +kernel
theorem dX1_init_6 : decode cX1_init 6 = .ok (.putfield 9, 3) := by decide +kernel
theorem dX1_init_9 : decode cX1_init 9 = .ok (.aload_n 0, 1) := by decide +kernel
theorem dX1_init_10 : decode cX1_init 10 = .ok (.aload_n 2, 1) := by decide +kernel
theorem dX1_init_11 : decode cX1_init 11 = .ok (.putfield 15, 3) := by decide +kernel
theorem dX1_init_14 : decode cX1_init 14 = .ok (.aload_n 0, 1) := by decide +kernel
theorem dX1_init_15 : decode cX1_init 15 = .ok (.aload_n 3, 1) := by decide +kernel
theorem dX1_init_16 : decode cX1_init 16 = .ok (.putfield 19, 3) := by decide +kernel
theorem dX1_init_19 : decode cX1_init 19 = .ok (.aload_n 0, 1) := by decide +kernel
theorem dX1_init_20 : decode cX1_init 20 = .ok (.aload 4, 2) := by decide +kernel
theorem dX1_init_22 : decode cX1_init 22 = .ok (.putfield 23, 3) := by decide +kernel
theorem dX1_init_25 : decode cX1_init 25 = .ok (.return_, 1) := by decide +kernel
theorem hc_7 : ai_code 7 = cX1_init := rfl
theorem hv_7 : ai_view 7 = 1 := rfl
theorem hk_7 : ai_kind 7 = 2 := rfl
theorem hn_7 : ai_n 7 = 4 := rfl
theorem ht_7 : ai_ret 7 = none := rfl
theorem e_7 (r : Nat) (a0 : Nat) (a1 : Nat) (a2 : Nat) (a3 : Nat) (ws : ai_W) : ai_Call 7 [.ref r, .ref a0, .ref a1, .ref a2, .ref a3] ws = if ai_isob ws r 1 = true then ai_Run 7 0 [.ref r, .ref a0, .ref a1, .ref a2, .ref a3] [] ws else none := R_entI hk_7 ⟨⟨rfl, rfl⟩, Nat.le_of_ble_eq_true rfl⟩ rfl
theorem r_7_0 (l1 l2 l3 l4 : Value) (a : Nat) (st : List Value) (ws : ai_W) : ai_Run 7 0 [.ref a, l1, l2, l3, l4] st ws = ai_Run 7 1 [.ref a, l1, l2, l3, l4] (.ref a :: st) ws := R_aload_n hc_7 dX1_init_0 rfl rfl
theorem r_7_1 (ls : List Value) (a : Nat) (ws : ai_W) : ai_Run 7 1 ls [.ref a] ws = ai_Run 7 4 ls [] ws := R_obj hc_7 dX1_init_1 hv_7 (y2 := 0) (w := 238) rfl (Nat.le_of_ble_eq_true rfl) rfl
theorem r_7_4 (l1 l2 l3 l4 : Value) (a : Nat) (st : List Value) (ws : ai_W) : ai_Run 7 4 [.ref a, l1, l2, l3, l4] st ws = ai_Run 7 5 [.ref a, l1, l2, l3, l4] (.ref a :: st) ws := R_aload_n hc_7 dX1_init_4 rfl rfl
theorem r_7_5 (l0 l2 l3 l4 : Value) (a : Nat) (st : List Value) (ws : ai_W) : ai_Run 7 5 [l0, .ref a, l2, l3, l4] st ws = ai_Run 7 6 [l0, .ref a, l2, l3, l4] (.ref a :: st) ws := R_aload_n hc_7 dX1_init_5 rfl rfl
theorem r_7_6 (ls st : List Value) (a : Nat) (x : Value) (ws : ai_W) : ai_Run 7 6 ls (x :: .ref a :: st) ws = (ai_fput ws a 1 0 x).bind fun ws => ai_Run 7 9 ls st ws := R_putF hc_7 dX1_init_6 hv_7 (w := 239) rfl hk_7 rfl rfl
theorem r_7_9 (l1 l2 l3 l4 : Value) (a : Nat) (st : List Value) (ws : ai_W) : ai_Run 7 9 [.ref a, l1, l2, l3, l4] st ws = ai_Run 7 10 [.ref a, l1, l2, l3, l4] (.ref a :: st) ws := R_aload_n hc_7 dX1_init_9 rfl rfl
theorem r_7_10 (l0 l1 l3 l4 : Value) (a : Nat) (st : List Value) (ws : ai_W) : ai_Run 7 10 [l0, l1, .ref a, l3, l4] st ws = ai_Run 7 11 [l0, l1, .ref a, l3, l4] (.ref a :: st) ws := R_aload_n hc_7 dX1_init_10 rfl rfl
theorem r_7_11 (ls st : List Value) (a : Nat) (x : Value) (ws : ai_W) : ai_Run 7 11 ls (x :: .ref a :: st) ws = (ai_fput ws a 1 1 x).bind fun ws => ai_Run 7 14 ls st ws := R_putF hc_7 dX1_init_11 hv_7 (w := 240) rfl hk_7 rfl rfl
theorem r_7_14 (l1 l2 l3 l4 : Value) (a : Nat) (st : List Value) (ws : ai_W) : ai_Run 7 14 [.ref a, l1, l2, l3, l4] st ws = ai_Run 7 15 [.ref a, l1, l2, l3, l4] (.ref a :: st) ws := R_aload_n hc_7 dX1_init_14 rfl rfl
theorem r_7_15 (l0 l1 l2 l4 : Value) (a : Nat) (st : List Value) (ws : ai_W) : ai_Run 7 15 [l0, l1, l2, .ref a, l4] st ws = ai_Run 7 16 [l0, l1, l2, .ref a, l4] (.ref a :: st) ws := R_aload_n hc_7 dX1_init_15 rfl rfl
theorem r_7_16 (ls st : List Value) (a : Nat) (x : Value) (ws : ai_W) : ai_Run 7 16 ls (x :: .ref a :: st) ws = (ai_fput ws a 1 2 x).bind fun ws => ai_Run 7 19 ls st ws := R_putF hc_7 dX1_init_16 hv_7 (w := 241) rfl hk_7 rfl rfl
theorem r_7_19 (l1 l2 l3 l4 : Value) (a : Nat) (st : List Value) (ws : ai_W) : ai_Run 7 19 [.ref a, l1, l2, l3, l4] st ws = ai_Run 7 20 [.ref a, l1, l2, l3, l4] (.ref a :: st) ws := R_aload_n hc_7 dX1_init_19 rfl rfl
theorem r_7_20 (l0 l1 l2 l3 : Value) (a : Nat) (st : List Value) (ws : ai_W) : ai_Run 7 20 [l0, l1, l2, l3, .ref a] st ws = ai_Run 7 22 [l0, l1, l2, l3, .ref a] (.ref a :: st) ws := R_aload hc_7 dX1_init_20 rfl rfl
theorem r_7_22 (ls st : List Value) (a : Nat) (x : Value) (ws : ai_W) : ai_Run 7 22 ls (x :: .ref a :: st) ws = (ai_fput ws a 1 3 x).bind fun ws => ai_Run 7 25 ls st ws := R_putF hc_7 dX1_init_22 hv_7 (w := 242) rfl hk_7 rfl rfl
theorem r_7_25 (ls : List Value) (ws : ai_W) : ai_Run 7 25 ls [] ws = some (none, ws) := R_vret hc_7 dX1_init_25 ht_7
theorem dX3_init_0 : decode cX3_init 0 = .ok (.aload_n 0, 1) := by decide +kernel
theorem dX3_init_1 : decode cX3_init 1 = .ok (.invokespecial 3, 3) := by decide +kernel
theorem dX3_init_4 : decode cX3_init 4 = .ok (.aload_n 0, 1) := by decide +kernel
theorem dX3_init_5 : decode cX3_init 5 = .ok (.bipush 9, 2) := by decide +kernel
theorem dX3_init_7 : decode cX3_init 7 = .ok (.anewarray 9, 3) := by decide +kernel
theorem dX3_init_10 : decode cX3_init 10 = .ok (.putfield 11, 3) := by decide +kernel
theorem dX3_init_13 : decode cX3_init 13 = .ok (.aload_n 0, 1) := by decide +kernel
theorem dX3_init_14 : decode cX3_init 14 = .ok (.new 9, 3) := by decide +kernel
theorem dX3_init_17 : decode cX3_init 17 = .ok (.dup, 1) := by decide +kernel
theorem dX3_init_18 : decode cX3_init 18 = .ok (.invokespecial 17, 3) := by decide +kernel
theorem dX3_init_21 : decode cX3_init 21 = .ok (.putfield 18, 3) := by decide +kernel
theorem dX3_init_24 : decode cX3_init 24 = .ok (.iconst 0, 1) := by decide +kernel
theorem dX3_init_25 : decode cX3_init 25 = .ok (.istore_n 1, 1) := by decide +kernel
theorem dX3_init_26 : decode cX3_init 26 = .ok (.iload_n 1, 1) := by decide +kernel
theorem dX3_init_27 : decode cX3_init 27 = .ok (.aload_n 0, 1) := by decide +kernel
theorem dX3_init_28 : decode cX3_init 28 = .ok (.getfield 11, 3) := by decide +kernel
theorem dX3_init_31 : decode cX3_init 31 = .ok (.arraylength, 1) := by decide +kernel
theorem dX3_init_32 : decode cX3_init 32 = .ok (.if_icmp .ge 22, 3) := by decide +kernel
theorem dX3_init_35 : decode cX3_init 35 = .ok (.aload_n 0, 1) := by decide +kernel
theorem dX3_init_36 : decode cX3_init 36 = .ok (.getfield 11, 3) := by decide +kernel
theorem dX3_init_39 : decode cX3_init 39 = .ok (.iload_n 1, 1) := by decide +kernel
theorem dX3_init_40 : decode cX3_init 40 = .ok (.new 9, 3) := by decide +kernel
theorem dX3_init_43 : decode cX3_init 43 = .ok (.dup, 1) := by decide +kernel
theorem dX3_init_44 : decode cX3_init 44 = .ok (.invokespecial 17, 3) := by decide +kernel
theorem dX3_init_47 : decode cX3_init 47 = .ok (.aastore, 1) := by decide +kernel
theorem dX3_init_48 : decode cX3_init 48 = .ok (.iinc 1 1, 3) := by decide +kernel
theorem dX3_init_51 : decode cX3_init 51 = .ok (.goto (-25), 3) := by decide +kernel
theorem dX3_init_54 : decode cX3_init 54 = .ok (.return_, 1) := by decide +kernel
theorem hc_8 : ai_code 8 = cX3_init := rfl
theorem hv_8 : ai_view 8 = 3 := rfl
theorem hk_8 : ai_kind 8 = 2 := rfl
theorem hn_8 : ai_n 8 = 0 := rfl
theorem ht_8 : ai_ret 8 = none := rfl
theorem e_8 (r : Nat)  (ws : ai_W) : ai_Call 8 [.ref r] ws = if ai_isob ws r 3 = true then ai_Run 8 0 [.ref r, .null] [] ws else none := R_entI hk_8 ⟨⟨rfl, rfl⟩, Nat.le_of_ble_eq_true rfl⟩ rfl
theorem r_8_0 (l1 : Value) (a : Nat) (st : List Value) (ws : ai_W) : ai_Run 8 0 [.ref a, l1] st ws = ai_Run 8 1 [.ref a, l1] (.ref a :: st) ws := R_aload_n hc_8 dX3_init_0 rfl rfl
theorem r_8_1 (ls : List Value) (a : Nat) (ws : ai_W) : ai_Run 8 1 ls [.ref a] ws = ai_Run 8 4 ls [] ws := R_obj hc_8 dX3_init_1 hv_8 (y2 := 0) (w := 257) rfl (Nat.le_of_ble_eq_true rfl) rfl
theorem r_8_4 (l1 : Value) (a : Nat) (st : List Value) (ws : ai_W) : ai_Run 8 4 [.ref a, l1] st ws = ai_Run 8 5 [.ref a, l1] (.ref a :: st) ws := R_aload_n hc_8 dX3_init_4 rfl rfl
theorem r_8_5 (ls st : List Value) (ws : ai_W) : ai_Run 8 5 ls st ws = ai_Run 8 7 ls (.int 9 :: st) ws := R_bipush hc_8 dX3_init_5 (by decide) rfl
theorem r_8_7 (ls st : List Value) (q : Int32) (ws : ai_W) : ai_Run 8 7 ls (.int q :: st) ws = if q < 0 ∨ 100000 < q.toNatClampNeg then none else ai_Run 8 10 ls (.ref ws.length :: st) (ws ++ [.inr (.inl (List.replicate q.toNatClampNeg none))]) := R_newq hc_8 dX3_init_7 hv_8 (w1 := 258) (w2 := 107) (w3 := 83) rfl rfl
theorem r_8_10 (ls st : List Value) (a : Nat) (x : Value) (ws : ai_W) : ai_Run 8 10 ls (x :: .ref a :: st) ws = (ai_fput ws a 3 0 x).bind fun ws => ai_Run 8 13 ls st ws := R_putF hc_8 dX3_init_10 hv_8 (w := 261) rfl hk_8 rfl rfl
theorem r_8_13 (l1 : Value) (a : Nat) (st : List Value) (ws : ai_W) : ai_Run 8 13 [.ref a, l1] st ws = ai_Run 8 14 [.ref a, l1] (.ref a :: st) ws := R_aload_n hc_8 dX3_init_13 rfl rfl
theorem r_8_14 (ls st : List Value) (ws : ai_W) : ai_Run 8 14 ls st ws = ai_Run 8 17 ls (.ref ws.length :: st) (ws ++ [ai_blank 0]) := R_new hc_8 dX3_init_14 hv_8 (w1 := 258) (w2 := 107) (w3 := 83) rfl rfl
theorem r_8_17 (ls st : List Value) (a : Nat) (ws : ai_W) : ai_Run 8 17 ls (.ref a :: st) ws = ai_Run 8 18 ls (.ref a :: .ref a :: st) ws := R_dup hc_8 dX3_init_17 rfl
theorem r_8_18 (ls : List Value) (r : Nat) (s0 s1 : Value) (ws : ai_W) : ai_Run 8 18 ls [.ref r, s0, s1] ws = (ai_Call 2 [.ref r] ws).bind fun q => ai_Run 8 21 ls (q.1.toList ++ [s0, s1]) q.2 := R_callI hc_8 dX3_init_18 hv_8 (w := 260) (Or.inr rfl) (Nat.le_of_ble_eq_true rfl) hk_2 (by rw [hn_2]; rfl) rfl (Nat.le_of_ble_eq_true rfl) rfl
theorem r_8_21 (ls st : List Value) (a : Nat) (x : Value) (ws : ai_W) : ai_Run 8 21 ls (x :: .ref a :: st) ws = (ai_fput ws a 3 1 x).bind fun ws => ai_Run 8 24 ls st ws := R_putF hc_8 dX3_init_21 hv_8 (w := 262) rfl hk_8 rfl rfl
theorem r_8_24 (ls st : List Value) (ws : ai_W) : ai_Run 8 24 ls st ws = ai_Run 8 25 ls (.int 0 :: st) ws := R_iconst hc_8 dX3_init_24 (by decide) rfl
theorem r_8_25 (l0 l1 : Value) (a : Int32) (st : List Value) (ws : ai_W) : ai_Run 8 25 [l0, l1] (.int a :: st) ws = ai_Run 8 26 [l0, .int a] st ws := R_istore_n hc_8 dX3_init_25 (Nat.le_of_ble_eq_true rfl) rfl rfl
theorem r_8_26 (l0 : Value) (a : Int32) (st : List Value) (ws : ai_W) : ai_Run 8 26 [l0, .int a] st ws = ai_Run 8 27 [l0, .int a] (.int a :: st) ws := R_iload_n hc_8 dX3_init_26 rfl rfl
theorem r_8_27 (l1 : Value) (a : Nat) (st : List Value) (ws : ai_W) : ai_Run 8 27 [.ref a, l1] st ws = ai_Run 8 28 [.ref a, l1] (.ref a :: st) ws := R_aload_n hc_8 dX3_init_27 rfl rfl
theorem r_8_28 (ls st : List Value) (a : Nat) (ws : ai_W) : ai_Run 8 28 ls (.ref a :: st) ws = (ai_fget ws a 3 0).bind fun q => ai_Run 8 31 ls (q :: st) ws := R_getf hc_8 dX3_init_28 hv_8 (w := 261) rfl rfl
theorem r_8_31 (ls st : List Value) (a : Nat) (ws : ai_W) : ai_Run 8 31 ls (.ref a :: st) ws = (ai_len ws a).bind fun q => ai_Run 8 32 ls (.int q :: st) ws := R_arraylength hc_8 dX3_init_31 rfl
theorem r_8_32 (ls st : List Value) (a b : Int32) (ws : ai_W) : ai_Run 8 32 ls (.int b :: .int a :: st) ws = if a < b then ai_Run 8 35 ls st ws else ai_Run 8 54 ls st ws := R_cmp_ge hc_8 dX3_init_32 rfl rfl
theorem r_8_35 (l1 : Value) (a : Nat) (st : List Value) (ws : ai_W) : ai_Run 8 35 [.ref a, l1] st ws = ai_Run 8 36 [.ref a, l1] (.ref a :: st) ws := R_aload_n hc_8 dX3_init_35 rfl rfl
theorem r_8_36 (ls st : List Value) (a : Nat) (ws : ai_W) : ai_Run 8 36 ls (.ref a :: st) ws = (ai_fget ws a 3 0).bind fun q => ai_Run 8 39 ls (q :: st) ws := R_getf hc_8 dX3_init_36 hv_8 (w := 261) rfl rfl
theorem r_8_39 (l0 : Value) (a : Int32) (st : List Value) (ws : ai_W) : ai_Run 8 39 [l0, .int a] st ws = ai_Run 8 40 [l0, .int a] (.int a :: st) ws := R_iload_n hc_8 dX3_init_39 rfl rfl
theorem r_8_40 (ls st : List Value) (ws : ai_W) : ai_Run 8 40 ls st ws = ai_Run 8 43 ls (.ref ws.length :: st) (ws ++ [ai_blank 0]) := R_new hc_8 dX3_init_40 hv_8 (w1 := 258) (w2 := 107) (w3 := 83) rfl rfl
theorem r_8_43 (ls st : List Value) (a : Nat) (ws : ai_W) : ai_Run 8 43 ls (.ref a :: st) ws = ai_Run 8 44 ls (.ref a :: .ref a :: st) ws := R_dup hc_8 dX3_init_43 rfl
theorem r_8_44 (ls : List Value) (r : Nat) (s0 s1 s2 : Value) (ws : ai_W) : ai_Run 8 44 ls [.ref r, s0, s1, s2] ws = (ai_Call 2 [.ref r] ws).bind fun q => ai_Run 8 47 ls (q.1.toList ++ [s0, s1, s2]) q.2 := R_callI hc_8 dX3_init_44 hv_8 (w := 260) (Or.inr rfl) (Nat.le_of_ble_eq_true rfl) hk_2 (by rw [hn_2]; rfl) rfl (Nat.le_of_ble_eq_true rfl) rfl
theorem r_8_47 (ls st : List Value) (a x : Nat) (i : Int32) (ws : ai_W) : ai_Run 8 47 ls (.ref x :: .int i :: .ref a :: st) ws = (ai_qset ws a i x).bind fun ws => ai_Run 8 48 ls st ws := R_aastore hc_8 dX3_init_47 rfl
theorem r_8_48 (l0 : Value) (a : Int32) (st : List Value) (ws : ai_W) : ai_Run 8 48 [l0, .int a] st ws = ai_Run 8 51 [l0, .int (a + 1)] st ws := R_iinc hc_8 dX3_init_48 rfl (by decide) rfl rfl
theorem r_8_51 (ls st : List Value) (ws : ai_W) : ai_Run 8 51 ls st ws = ai_Run 8 26 ls st ws := R_goto hc_8 dX3_init_51 rfl
theorem r_8_54 (ls : List Value) (ws : ai_W) : ai_Run 8 54 ls [] ws = some (none, ws) := R_vret hc_8 dX3_init_54 ht_8
theorem dX9_init_0 : decode cX9_init 0 = .ok (.aload_n 0, 1) := by decide +kernel
theorem dX9_init_1 : decode cX9_init 1 = .ok (.invokespecial 3, 3) := by decide +kernel
theorem dX9_init_4 : decode cX9_init 4 = .ok (.aload_n 0, 1) := by decide +kernel
theorem dX9_init_5 : decode cX9_init 5 = .ok (.new 9, 3) := by decide +kernel
theorem dX9_init_8 : decode cX9_init 8 = .ok (.dup, 1) := by decide +kernel
theorem dX9_init_9 : decode cX9_init 9 = .ok (.bipush 70, 2) := by decide +kernel
theorem dX9_init_11 : decode cX9_init 11 = .ok (.iconst 0, 1) := by decide +kernel
theorem dX9_init_12 : decode cX9_init 12 = .ok (.invokespecial 11, 3) := by decide +kernel
theorem dX9_init_15 : decode cX9_init 15 = .ok (.putfield 14, 3) := by decide +kernel
theorem dX9_init_18 : decode cX9_init 18 = .ok (.aload_n 0, 1) := by decide +kernel
theorem dX9_init_19 : decode cX9_init 19 = .ok (.new 9, 3) := by decide +kernel
theorem dX9_init_22 : decode cX9_init 22 = .ok (.dup, 1) := by decide +kernel
theorem dX9_init_23 : decode cX9_init 23 = .ok (.bipush 35, 2) := by decide +kernel
theorem dX9_init_25 : decode cX9_init 25 = .ok (.iconst 0, 1) := by decide +kernel
theorem dX9_init_26 : decode cX9_init 26 = .ok (.invokespecial 11, 3) := by decide +kernel
theorem dX9_init_29 : decode cX9_init 29 = .ok (.putfield 20, 3) := by decide +kernel
theorem dX9_init_32 : decode cX9_init 32 = .ok (.aload_n 0, 1) := by decide +kernel
theorem dX9_init_33 : decode cX9_init 33 = .ok (.new 9, 3) := by decide +kernel
theorem dX9_init_36 : decode cX9_init 36 = .ok (.dup, 1) := by decide +kernel
theorem dX9_init_37 : decode cX9_init 37 = .ok (.bipush 105, 2) := by decide +kernel
theorem dX9_init_39 : decode cX9_init 39 = .ok (.iconst 0, 1) := by decide +kernel
theorem dX9_init_40 : decode cX9_init 40 = .ok (.invokespecial 11, 3) := by decide +kernel
theorem dX9_init_43 : decode cX9_init 43 = .ok (.putfield 23, 3) := by decide +kernel
theorem dX9_init_46 : decode cX9_init 46 = .ok (.return_, 1) := by decide +kernel
theorem hc_9 : ai_code 9 = cX9_init := rfl
theorem hv_9 : ai_view 9 = 9 := rfl
theorem hk_9 : ai_kind 9 = 2 := rfl
theorem hn_9 : ai_n 9 = 0 := rfl
theorem ht_9 : ai_ret 9 = none := rfl
theorem e_9 (r : Nat)  (ws : ai_W) : ai_Call 9 [.ref r] ws = if ai_isob ws r 9 = true then ai_Run 9 0 [.ref r] [] ws else none := R_entI hk_9 ⟨⟨rfl, rfl⟩, Nat.le_of_ble_eq_true rfl⟩ rfl
theorem r_9_0 (a : Nat) (st : List Value) (ws : ai_W) : ai_Run 9 0 [.ref a] st ws = ai_Run 9 1 [.ref a] (.ref a :: st) ws := R_aload_n hc_9 dX9_init_0 rfl rfl
theorem r_9_1 (ls : List Value) (a : Nat) (ws : ai_W) : ai_Run 9 1 ls [.ref a] ws = ai_Run 9 4 ls [] ws := R_obj hc_9 dX9_init_1 hv_9 (y2 := 0) (w := 282) rfl (Nat.le_of_ble_eq_true rfl) rfl
theorem r_9_4 (a : Nat) (st : List Value) (ws : ai_W) : ai_Run 9 4 [.ref a] st ws = ai_Run 9 5 [.ref a] (.ref a :: st) ws := R_aload_n hc_9 dX9_init_4 rfl rfl
theorem r_9_5 (ls st : List Value) (ws : ai_W) : ai_Run 9 5 ls st ws = ai_Run 9 8 ls (.ref ws.length :: st) (ws ++ [ai_blank 8]) := R_new hc_9 dX9_init_5 hv_9 (w1 := 283) (w2 := 113) (w3 := 84) rfl rfl
theorem r_9_8 (ls st : List Value) (a : Nat) (ws : ai_W) : ai_Run 9 8 ls (.ref a :: st) ws = ai_Run 9 9 ls (.ref a :: .ref a :: st) ws := R_dup hc_9 dX9_init_8 rfl
theorem r_9_9 (ls st : List Value) (ws : ai_W) : ai_Run 9 9 ls st ws = ai_Run 9 11 ls (.int 70 :: st) ws := R_bipush hc_9 dX9_init_9 (by decide) rfl
theorem r_9_11 (ls st : List Value) (ws : ai_W) : ai_Run 9 11 ls st ws = ai_Run 9 12 ls (.int 0 :: st) ws := R_iconst hc_9 dX9_init_11 (by decide) rfl
theorem r_9_12 (ls : List Value) (r : Nat) (b0 : Int32) (b1 : Int32) (s0 s1 : Value) (ws : ai_W) : ai_Run 9 12 ls [.int b1, .int b0, .ref r, s0, s1] ws = (ai_Call 1 [.ref r, .int b0, .int b1] ws).bind fun q => ai_Run 9 15 ls (q.1.toList ++ [s0, s1]) q.2 := R_callI hc_9 dX9_init_12 hv_9 (w := 284) (Or.inl rfl) (Nat.le_of_ble_eq_true rfl) hk_1 (by rw [hn_1]; rfl) rfl (Nat.le_of_ble_eq_true rfl) rfl
theorem r_9_15 (ls st : List Value) (a : Nat) (x : Value) (ws : ai_W) : ai_Run 9 15 ls (x :: .ref a :: st) ws = (ai_fput ws a 9 0 x).bind fun ws => ai_Run 9 18 ls st ws := R_putF hc_9 dX9_init_15 hv_9 (w := 285) rfl hk_9 rfl rfl
theorem r_9_18 (a : Nat) (st : List Value) (ws : ai_W) : ai_Run 9 18 [.ref a] st ws = ai_Run 9 19 [.ref a] (.ref a :: st) ws := R_aload_n hc_9 dX9_init_18 rfl rfl
theorem r_9_19 (ls st : List Value) (ws : ai_W) : ai_Run 9 19 ls st ws = ai_Run 9 22 ls (.ref ws.length :: st) (ws ++ [ai_blank 8]) := R_new hc_9 dX9_init_19 hv_9 (w1 := 283) (w2 := 113) (w3 := 84) rfl rfl
theorem r_9_22 (ls st : List Value) (a : Nat) (ws : ai_W) : ai_Run 9 22 ls (.ref a :: st) ws = ai_Run 9 23 ls (.ref a :: .ref a :: st) ws := R_dup hc_9 dX9_init_22 rfl
theorem r_9_23 (ls st : List Value) (ws : ai_W) : ai_Run 9 23 ls st ws = ai_Run 9 25 ls (.int 35 :: st) ws := R_bipush hc_9 dX9_init_23 (by decide) rfl
theorem r_9_25 (ls st : List Value) (ws : ai_W) : ai_Run 9 25 ls st ws = ai_Run 9 26 ls (.int 0 :: st) ws := R_iconst hc_9 dX9_init_25 (by decide) rfl
theorem r_9_26 (ls : List Value) (r : Nat) (b0 : Int32) (b1 : Int32) (s0 s1 : Value) (ws : ai_W) : ai_Run 9 26 ls [.int b1, .int b0, .ref r, s0, s1] ws = (ai_Call 1 [.ref r, .int b0, .int b1] ws).bind fun q => ai_Run 9 29 ls (q.1.toList ++ [s0, s1]) q.2 := R_callI hc_9 dX9_init_26 hv_9 (w := 284) (Or.inl rfl) (Nat.le_of_ble_eq_true rfl) hk_1 (by rw [hn_1]; rfl) rfl (Nat.le_of_ble_eq_true rfl) rfl
theorem r_9_29 (ls st : List Value) (a : Nat) (x : Value) (ws : ai_W) : ai_Run 9 29 ls (x :: .ref a :: st) ws = (ai_fput ws a 9 1 x).bind fun ws => ai_Run 9 32 ls st ws := R_putF hc_9 dX9_init_29 hv_9 (w := 286) rfl hk_9 rfl rfl
theorem r_9_32 (a : Nat) (st : List Value) (ws : ai_W) : ai_Run 9 32 [.ref a] st ws = ai_Run 9 33 [.ref a] (.ref a :: st) ws := R_aload_n hc_9 dX9_init_32 rfl rfl
theorem r_9_33 (ls st : List Value) (ws : ai_W) : ai_Run 9 33 ls st ws = ai_Run 9 36 ls (.ref ws.length :: st) (ws ++ [ai_blank 8]) := R_new hc_9 dX9_init_33 hv_9 (w1 := 283) (w2 := 113) (w3 := 84) rfl rfl
theorem r_9_36 (ls st : List Value) (a : Nat) (ws : ai_W) : ai_Run 9 36 ls (.ref a :: st) ws = ai_Run 9 37 ls (.ref a :: .ref a :: st) ws := R_dup hc_9 dX9_init_36 rfl
theorem r_9_37 (ls st : List Value) (ws : ai_W) : ai_Run 9 37 ls st ws = ai_Run 9 39 ls (.int 105 :: st) ws := R_bipush hc_9 dX9_init_37 (by decide) rfl
theorem r_9_39 (ls st : List Value) (ws : ai_W) : ai_Run 9 39 ls st ws = ai_Run 9 40 ls (.int 0 :: st) ws := R_iconst hc_9 dX9_init_39 (by decide) rfl
theorem r_9_40 (ls : List Value) (r : Nat) (b0 : Int32) (b1 : Int32) (s0 s1 : Value) (ws : ai_W) : ai_Run 9 40 ls [.int b1, .int b0, .ref r, s0, s1] ws = (ai_Call 1 [.ref r, .int b0, .int b1] ws).bind fun q => ai_Run 9 43 ls (q.1.toList ++ [s0, s1]) q.2 := R_callI hc_9 dX9_init_40 hv_9 (w := 284) (Or.inl rfl) (Nat.le_of_ble_eq_true rfl) hk_1 (by rw [hn_1]; rfl) rfl (Nat.le_of_ble_eq_true rfl) rfl
theorem r_9_43 (ls st : List Value) (a : Nat) (x : Value) (ws : ai_W) : ai_Run 9 43 ls (x :: .ref a :: st) ws = (ai_fput ws a 9 2 x).bind fun ws => ai_Run 9 46 ls st ws := R_putF hc_9 dX9_init_43 hv_9 (w := 287) rfl hk_9 rfl rfl
theorem r_9_46 (ls : List Value) (ws : ai_W) : ai_Run 9 46 ls [] ws = some (none, ws) := R_vret hc_9 dX9_init_46 ht_9
theorem dX6_init_0 : decode cX6_init 0 = .ok (.aload_n 0, 1) := by decide +kernel
theorem dX6_init_1 : decode cX6_init 1 = .ok (.invokespecial 3, 3) := by decide +kernel
theorem dX6_init_4 : decode cX6_init 4 = .ok (.aload_n 0, 1) := by decide +kernel
theorem dX6_init_5 : decode cX6_init 5 = .ok (.new 9, 3) := by decide +kernel
theorem dX6_init_8 : decode cX6_init 8 = .ok (.dup, 1) := by decide +kernel
theorem dX6_init_9 : decode cX6_init 9 = .ok (.bipush 40, 2) := by decide +kernel
theorem dX6_init_11 : decode cX6_init 11 = .ok (.iconst 0, 1) := by decide +kernel
theorem dX6_init_12 : decode cX6_init 12 = .ok (.invokespecial 11, 3) := by decide +kernel
theorem dX6_init_15 : decode cX6_init 15 = .ok (.putfield 14, 3) := by decide +kernel
theorem dX6_init_18 : decode cX6_init 18 = .ok (.return_, 1) := by decide +kernel
theorem hc_10 : ai_code 10 = cX6_init := rfl
theorem hv_10 : ai_view 10 = 6 := rfl
theorem hk_10 : ai_kind 10 = 2 := rfl
theorem hn_10 : ai_n 10 = 0 := rfl
theorem ht_10 : ai_ret 10 = none := rfl
theorem e_10 (r : Nat)  (ws : ai_W) : ai_Call 10 [.ref r] ws = if ai_isob ws r 6 = true then ai_Run 10 0 [.ref r] [] ws else none := R_entI hk_10 ⟨⟨rfl, rfl⟩, Nat.le_of_ble_eq_true rfl⟩ rfl
theorem r_10_0 (a : Nat) (st : List Value) (ws : ai_W) : ai_Run 10 0 [.ref a] st ws = ai_Run 10 1 [.ref a] (.ref a :: st) ws := R_aload_n hc_10 dX6_init_0 rfl rfl
theorem r_10_1 (ls : List Value) (a : Nat) (ws : ai_W) : ai_Run 10 1 ls [.ref a] ws = ai_Run 10 4 ls [] ws := R_obj hc_10 dX6_init_1 hv_10 (y2 := 0) (w := 312) rfl (Nat.le_of_ble_eq_true rfl) rfl
theorem r_10_4 (a : Nat) (st : List Value) (ws : ai_W) : ai_Run 10 4 [.ref a] st ws = ai_Run 10 5 [.ref a] (.ref a :: st) ws := R_aload_n hc_10 dX6_init_4 rfl rfl
theorem r_10_5 (ls st : List Value) (ws : ai_W) : ai_Run 10 5 ls st ws = ai_Run 10 8 ls (.ref ws.length :: st) (ws ++ [ai_blank 8]) := R_new hc_10 dX6_init_5 hv_10 (w1 := 313) (w2 := 113) (w3 := 84) rfl rfl
theorem r_10_8 (ls st : List Value) (a : Nat) (ws : ai_W) : ai_Run 10 8 ls (.ref a :: st) ws = ai_Run 10 9 ls (.ref a :: .ref a :: st) ws := R_dup hc_10 dX6_init_8 rfl
theorem r_10_9 (ls st : List Value) (ws : ai_W) : ai_Run 10 9 ls st ws = ai_Run 10 11 ls (.int 40 :: st) ws := R_bipush hc_10 dX6_init_9 (by decide) rfl
theorem r_10_11 (ls st : List Value) (ws : ai_W) : ai_Run 10 11 ls st ws = ai_Run 10 12 ls (.int 0 :: st) ws := R_iconst hc_10 dX6_init_11 (by decide) rfl
theorem r_10_12 (ls : List Value) (r : Nat) (b0 : Int32) (b1 : Int32) (s0 s1 : Value) (ws : ai_W) : ai_Run 10 12 ls [.int b1, .int b0, .ref r, s0, s1] ws = (ai_Call 1 [.ref r, .int b0, .int b1] ws).bind fun q => ai_Run 10 15 ls (q.1.toList ++ [s0, s1]) q.2 := R_callI hc_10 dX6_init_12 hv_10 (w := 314) (Or.inl rfl) (Nat.le_of_ble_eq_true rfl) hk_1 (by rw [hn_1]; rfl) rfl (Nat.le_of_ble_eq_true rfl) rfl
theorem r_10_15 (ls st : List Value) (a : Nat) (x : Value) (ws : ai_W) : ai_Run 10 15 ls (x :: .ref a :: st) ws = (ai_fput ws a 6 0 x).bind fun ws => ai_Run 10 18 ls st ws := R_putF hc_10 dX6_init_15 hv_10 (w := 315) rfl hk_10 rfl rfl
theorem r_10_18 (ls : List Value) (ws : ai_W) : ai_Run 10 18 ls [] ws = some (none, ws) := R_vret hc_10 dX6_init_18 ht_10
theorem dX10_init_0 : decode cX10_init 0 = .ok (.aload_n 0, 1) := by decide +kernel
theorem dX10_init_1 : decode cX10_init 1 = .ok (.invokespecial 1, 3) := by decide +kernel
theorem dX10_init_4 : decode cX10_init 4 = .ok (.new 7, 3) := by decide +kernel
theorem dX10_init_7 : decode cX10_init 7 = .ok (.dup, 1) := by decide +kernel
theorem dX10_init_8 : decode cX10_init 8 = .ok (.invokespecial 9, 3) := by decide +kernel
theorem dX10_init_11 : decode cX10_init 11 = .ok (.astore_n 1, 1) := by decide +kernel
theorem dX10_init_12 : decode cX10_init 12 = .ok (.new 10, 3) := by decide +kernel
theorem dX10_init_15 : decode cX10_init 15 = .ok (.dup, 1) := by decide +kernel
theorem dX10_init_16 : decode cX10_init 16 = .ok (.aload_n 1, 1) := by decide +kernel
theorem dX10_init_17 : decode cX10_init 17 = .ok (.invokespecial 12, 3) := by decide +kernel
theorem dX10_init_20 : decode cX10_init 20 = .ok (.astore_n 2, 1) := by decide +kernel
theorem dX10_init_21 : decode cX10_init 21 = .ok (.new 15, 3) := by decide +kernel
theorem dX10_init_24 : decode cX10_init 24 = .ok (.dup, 1) := by decide +kernel
theorem dX10_init_25 : decode cX10_init 25 = .ok (.aload_n 1, 1) := by decide +kernel
theorem dX10_init_26 : decode cX10_init 26 = .ok (.invokespecial 17, 3) := by decide +kernel
theorem dX10_init_29 : decode cX10_init 29 = .ok (.astore_n 3, 1) := by decide +kernel
theorem dX10_init_30 : decode cX10_init 30 = .ok (.new 18, 3) := by decide +kernel
theorem dX10_init_33 : decode cX10_init 33 = .ok (.dup, 1) := by decide +kernel
theorem dX10_init_34 : decode cX10_init 34 = .ok (.invokespecial 20, 3) := by decide +kernel
theorem dX10_init_37 : decode cX10_init 37 = .ok (.astore 4, 2) := by decide +kernel
theorem dX10_init_39 : decode cX10_init 39 = .ok (.aload_n 0, 1) := by decide +kernel
theorem dX10_init_40 : decode cX10_init 40 = .ok (.aload_n 1, 1) := by decide +kernel
theorem dX10_init_41 : decode cX10_init 41 = .ok (.putfield 21, 3) := by decide +kernel
theorem dX10_init_44 : decode cX10_init 44 = .ok (.aload_n 0, 1) := by decide +kernel
theorem dX10_init_45 : decode cX10_init 45 = .ok (.aload_n 2, 1) := by decide +kernel
theorem dX10_init_46 : decode cX10_init 46 = .ok (.putfield 27, 3) := by decide +kernel
theorem dX10_init_49 : decode cX10_init 49 = .ok (.aload_n 0, 1) := by decide +kernel
theorem dX10_init_50 : decode cX10_init 50 = .ok (.aload_n 3, 1) := by decide +kernel
theorem dX10_init_51 : decode cX10_init 51 = .ok (.putfield 31, 3) := by decide +kernel
theorem dX10_init_54 : decode cX10_init 54 = .ok (.aload_n 0, 1) := by decide +kernel
theorem dX10_init_55 : decode cX10_init 55 = .ok (.new 35, 3) := by decide +kernel
theorem dX10_init_58 : decode cX10_init 58 = .ok (.dup, 1) := by decide +kernel
theorem dX10_init_59 : decode cX10_init 59 = .ok (.aload_n 1, 1) := by decide +kernel
theorem dX10_init_60 : decode cX10_init 60 = .ok (.invokespecial 37, 3) := by decide +kernel
theorem dX10_init_63 : decode cX10_init 63 = .ok (.putfield 38, 3) := by decide +kernel
theorem dX10_init_66 : decode cX10_init 66 = .ok (.aload_n 0, 1) := by decide +kernel
theorem dX10_init_67 : decode cX10_init 67 = .ok (.aload 4, 2) := by decide +kernel
theorem dX10_init_69 : decode cX10_init 69 = .ok (.putfield 42, 3) := by decide +kernel
theorem dX10_init_72 : decode cX10_init 72 = .ok (.aload_n 0, 1) := by decide +kernel
theorem dX10_init_73 : decode cX10_init 73 = .ok (.new 46, 3) := by decide +kernel
theorem dX10_init_76 : decode cX10_init 76 = .ok (.dup, 1) := by decide +kernel
theorem dX10_init_77 : decode cX10_init 77 = .ok (.aload_n 1, 1) := by decide +kernel
theorem dX10_init_78 : decode cX10_init 78 = .ok (.aload_n 2, 1) := by decide +kernel
theorem dX10_init_79 : decode cX10_init 79 = .ok (.aload_n 3, 1) := by decide +kernel
theorem dX10_init_80 : decode cX10_init 80 = .ok (.aload 4, 2) := by decide +kernel
theorem dX10_init_82 : decode cX10_init 82 = .ok (.invokespecial 48, 3) := by decide +kernel
theorem dX10_init_85 : decode cX10_init 85 = .ok (.putfield 51, 3) := by decide +kernel
theorem dX10_init_88 : decode cX10_init 88 = .ok (.aload_n 0, 1) := by decide +kernel
theorem dX10_init_89 : decode cX10_init 89 = .ok (.new 55, 3) := by decide +kernel
theorem dX10_init_92 : decode cX10_init 92 = .ok (.dup, 1) := by decide +kernel
theorem dX10_init_93 : decode cX10_init 93 = .ok (.invokespecial 57, 3) := by decide +kernel
theorem dX10_init_96 : decode cX10_init 96 = .ok (.putfield 58, 3) := by decide +kernel
theorem dX10_init_99 : decode cX10_init 99 = .ok (.aload_n 0, 1) := by decide +kernel
theorem dX10_init_100 : decode cX10_init 100 = .ok (.new 62, 3) := by decide +kernel
theorem dX10_init_103 : decode cX10_init 103 = .ok (.dup, 1) := by decide +kernel
theorem dX10_init_104 : decode cX10_init 104 = .ok (.invokespecial 64, 3) := by decide +kernel
theorem dX10_init_107 : decode cX10_init 107 = .ok (.putfield 65, 3) := by decide +kernel
theorem dX10_init_110 : decode cX10_init 110 = .ok (.aload_n 0, 1) := by decide +kernel
theorem dX10_init_111 : decode cX10_init 111 = .ok (.new 69, 3) := by decide +kernel
theorem dX10_init_114 : decode cX10_init 114 = .ok (.dup, 1) := by decide +kernel
theorem dX10_init_115 : decode cX10_init 115 = .ok (.invokespecial 71, 3) := by decide +kernel
theorem dX10_init_118 : decode cX10_init 118 = .ok (.putfield 72, 3) := by decide +kernel
theorem dX10_init_121 : decode cX10_init 121 = .ok (.return_, 1) := by decide +kernel
theorem hc_11 : ai_code 11 = cX10_init := rfl
theorem hv_11 : ai_view 11 = 10 := rfl
theorem hk_11 : ai_kind 11 = 2 := rfl
theorem hn_11 : ai_n 11 = 0 := rfl
theorem ht_11 : ai_ret 11 = none := rfl
theorem e_11 (r : Nat)  (ws : ai_W) : ai_Call 11 [.ref r] ws = if ai_isob ws r 10 = true then ai_Run 11 0 [.ref r, .null, .null, .null, .null] [] ws else none := R_entI hk_11 ⟨⟨rfl, rfl⟩, Nat.le_of_ble_eq_true rfl⟩ rfl
theorem r_11_0 (l1 l2 l3 l4 : Value) (a : Nat) (st : List Value) (ws : ai_W) : ai_Run 11 0 [.ref a, l1, l2, l3, l4] st ws = ai_Run 11 1 [.ref a, l1, l2, l3, l4] (.ref a :: st) ws := R_aload_n hc_11 dX10_init_0 rfl rfl
theorem r_11_1 (ls : List Value) (a : Nat) (ws : ai_W) : ai_Run 11 1 ls [.ref a] ws = ai_Run 11 4 ls [] ws := R_obj hc_11 dX10_init_1 hv_11 (y2 := 0) (w := 103) rfl (Nat.le_of_ble_eq_true rfl) rfl
theorem r_11_4 (ls st : List Value) (ws : ai_W) : ai_Run 11 4 ls st ws = ai_Run 11 7 ls (.ref ws.length :: st) (ws ++ [ai_blank 0]) := R_new hc_11 dX10_init_4 hv_11 (w1 := 106) (w2 := 107) (w3 := 83) rfl rfl
theorem r_11_7 (ls st : List Value) (a : Nat) (ws : ai_W) : ai_Run 11 7 ls (.ref a :: st) ws = ai_Run 11 8 ls (.ref a :: .ref a :: st) ws := R_dup hc_11 dX10_init_7 rfl
theorem r_11_8 (ls : List Value) (r : Nat) (s0 : Value) (ws : ai_W) : ai_Run 11 8 ls [.ref r, s0] ws = (ai_Call 2 [.ref r] ws).bind fun q => ai_Run 11 11 ls (q.1.toList ++ [s0]) q.2 := R_callI hc_11 dX10_init_8 hv_11 (w := 108) (Or.inr rfl) (Nat.le_of_ble_eq_true rfl) hk_2 (by rw [hn_2]; rfl) rfl (Nat.le_of_ble_eq_true rfl) rfl
theorem r_11_11 (l0 l1 l2 l3 l4 : Value) (a : Nat) (st : List Value) (ws : ai_W) : ai_Run 11 11 [l0, l1, l2, l3, l4] (.ref a :: st) ws = ai_Run 11 12 [l0, .ref a, l2, l3, l4] st ws := R_astore_n hc_11 dX10_init_11 (Nat.le_of_ble_eq_true rfl) rfl rfl
theorem r_11_12 (ls st : List Value) (ws : ai_W) : ai_Run 11 12 ls st ws = ai_Run 11 15 ls (.ref ws.length :: st) (ws ++ [ai_blank 4]) := R_new hc_11 dX10_init_12 hv_11 (w1 := 179) (w2 := 180) (w3 := 86) rfl rfl
theorem r_11_15 (ls st : List Value) (a : Nat) (ws : ai_W) : ai_Run 11 15 ls (.ref a :: st) ws = ai_Run 11 16 ls (.ref a :: .ref a :: st) ws := R_dup hc_11 dX10_init_15 rfl
theorem r_11_16 (l0 l2 l3 l4 : Value) (a : Nat) (st : List Value) (ws : ai_W) : ai_Run 11 16 [l0, .ref a, l2, l3, l4] st ws = ai_Run 11 17 [l0, .ref a, l2, l3, l4] (.ref a :: st) ws := R_aload_n hc_11 dX10_init_16 rfl rfl
theorem r_11_17 (ls : List Value) (r : Nat) (b0 : Nat) (s0 : Value) (ws : ai_W) : ai_Run 11 17 ls [.ref b0, .ref r, s0] ws = (ai_Call 3 [.ref r, .ref b0] ws).bind fun q => ai_Run 11 20 ls (q.1.toList ++ [s0]) q.2 := R_callI hc_11 dX10_init_17 hv_11 (w := 181) (Or.inl rfl) (Nat.le_of_ble_eq_true rfl) hk_3 (by rw [hn_3]; rfl) rfl (Nat.le_of_ble_eq_true rfl) rfl
theorem r_11_20 (l0 l1 l2 l3 l4 : Value) (a : Nat) (st : List Value) (ws : ai_W) : ai_Run 11 20 [l0, l1, l2, l3, l4] (.ref a :: st) ws = ai_Run 11 21 [l0, l1, .ref a, l3, l4] st ws := R_astore_n hc_11 dX10_init_20 (Nat.le_of_ble_eq_true rfl) rfl rfl
theorem r_11_21 (ls st : List Value) (ws : ai_W) : ai_Run 11 21 ls st ws = ai_Run 11 24 ls (.ref ws.length :: st) (ws ++ [ai_blank 5]) := R_new hc_11 dX10_init_21 hv_11 (w1 := 189) (w2 := 190) (w3 := 87) rfl rfl
theorem r_11_24 (ls st : List Value) (a : Nat) (ws : ai_W) : ai_Run 11 24 ls (.ref a :: st) ws = ai_Run 11 25 ls (.ref a :: .ref a :: st) ws := R_dup hc_11 dX10_init_24 rfl
theorem r_11_25 (l0 l2 l3 l4 : Value) (a : Nat) (st : List Value) (ws : ai_W) : ai_Run 11 25 [l0, .ref a, l2, l3, l4] st ws = ai_Run 11 26 [l0, .ref a, l2, l3, l4] (.ref a :: st) ws := R_aload_n hc_11 dX10_init_25 rfl rfl
theorem r_11_26 (ls : List Value) (r : Nat) (b0 : Nat) (s0 : Value) (ws : ai_W) : ai_Run 11 26 ls [.ref b0, .ref r, s0] ws = (ai_Call 4 [.ref r, .ref b0] ws).bind fun q => ai_Run 11 29 ls (q.1.toList ++ [s0]) q.2 := R_callI hc_11 dX10_init_26 hv_11 (w := 191) (Or.inl rfl) (Nat.le_of_ble_eq_true rfl) hk_4 (by rw [hn_4]; rfl) rfl (Nat.le_of_ble_eq_true rfl) rfl
theorem r_11_29 (l0 l1 l2 l3 l4 : Value) (a : Nat) (st : List Value) (ws : ai_W) : ai_Run 11 29 [l0, l1, l2, l3, l4] (.ref a :: st) ws = ai_Run 11 30 [l0, l1, l2, .ref a, l4] st ws := R_astore_n hc_11 dX10_init_29 (Nat.le_of_ble_eq_true rfl) rfl rfl
theorem r_11_30 (ls st : List Value) (ws : ai_W) : ai_Run 11 30 ls st ws = ai_Run 11 33 ls (.ref ws.length :: st) (ws ++ [ai_blank 7]) := R_new hc_11 dX10_init_30 hv_11 (w1 := 199) (w2 := 200) (w3 := 88) rfl rfl
theorem r_11_33 (ls st : List Value) (a : Nat) (ws : ai_W) : ai_Run 11 33 ls (.ref a :: st) ws = ai_Run 11 34 ls (.ref a :: .ref a :: st) ws := R_dup hc_11 dX10_init_33 rfl
theorem r_11_34 (ls : List Value) (r : Nat) (s0 : Value) (ws : ai_W) : ai_Run 11 34 ls [.ref r, s0] ws = (ai_Call 5 [.ref r] ws).bind fun q => ai_Run 11 37 ls (q.1.toList ++ [s0]) q.2 := R_callI hc_11 dX10_init_34 hv_11 (w := 201) (Or.inr rfl) (Nat.le_of_ble_eq_true rfl) hk_5 (by rw [hn_5]; rfl) rfl (Nat.le_of_ble_eq_true rfl) rfl
theorem r_11_37 (l0 l1 l2 l3 l4 : Value) (a : Nat) (st : List Value) (ws : ai_W) : ai_Run 11 37 [l0, l1, l2, l3, l4] (.ref a :: st) ws = ai_Run 11 39 [l0, l1, l2, l3, .ref a] st ws := R_astore hc_11 dX10_init_37 (Nat.le_of_ble_eq_true rfl) rfl rfl
theorem r_11_39 (l1 l2 l3 l4 : Value) (a : Nat) (st : List Value) (ws : ai_W) : ai_Run 11 39 [.ref a, l1, l2, l3, l4] st ws = ai_Run 11 40 [.ref a, l1, l2, l3, l4] (.ref a :: st) ws := R_aload_n hc_11 dX10_init_39 rfl rfl
theorem r_11_40 (l0 l2 l3 l4 : Value) (a : Nat) (st : List Value) (ws : ai_W) : ai_Run 11 40 [l0, .ref a, l2, l3, l4] st ws = ai_Run 11 41 [l0, .ref a, l2, l3, l4] (.ref a :: st) ws := R_aload_n hc_11 dX10_init_40 rfl rfl
theorem r_11_41 (ls st : List Value) (a : Nat) (x : Value) (ws : ai_W) : ai_Run 11 41 ls (x :: .ref a :: st) ws = (ai_fput ws a 10 0 x).bind fun ws => ai_Run 11 44 ls st ws := R_putF hc_11 dX10_init_41 hv_11 (w := 322) rfl hk_11 rfl rfl
theorem r_11_44 (l1 l2 l3 l4 : Value) (a : Nat) (st : List Value) (ws : ai_W) : ai_Run 11 44 [.ref a, l1, l2, l3, l4] st ws = ai_Run 11 45 [.ref a, l1, l2, l3, l4] (.ref a :: st) ws := R_aload_n hc_11 dX10_init_44 rfl rfl
theorem r_11_45 (l0 l1 l3 l4 : Value) (a : Nat) (st : List Value) (ws : ai_W) : ai_Run 11 45 [l0, l1, .ref a, l3, l4] st ws = ai_Run 11 46 [l0, l1, .ref a, l3, l4] (.ref a :: st) ws := R_aload_n hc_11 dX10_init_45 rfl rfl
theorem r_11_46 (ls st : List Value) (a : Nat) (x : Value) (ws : ai_W) : ai_Run 11 46 ls (x :: .ref a :: st) ws = (ai_fput ws a 10 1 x).bind fun ws => ai_Run 11 49 ls st ws := R_putF hc_11 dX10_init_46 hv_11 (w := 323) rfl hk_11 rfl rfl
theorem r_11_49 (l1 l2 l3 l4 : Value) (a : Nat) (st : List Value) (ws : ai_W) : ai_Run 11 49 [.ref a, l1, l2, l3, l4] st ws = ai_Run 11 50 [.ref a, l1, l2, l3, l4] (.ref a :: st) ws := R_aload_n hc_11 dX10_init_49 rfl rfl
theorem r_11_50 (l0 l1 l2 l4 : Value) (a : Nat) (st : List Value) (ws : ai_W) : ai_Run 11 50 [l0, l1, l2, .ref a, l4] st ws = ai_Run 11 51 [l0, l1, l2, .ref a, l4] (.ref a :: st) ws := R_aload_n hc_11 dX10_init_50 rfl rfl
theorem r_11_51 (ls st : List Value) (a : Nat) (x : Value) (ws : ai_W) : ai_Run 11 51 ls (x :: .ref a :: st) ws = (ai_fput ws a 10 2 x).bind fun ws => ai_Run 11 54 ls st ws := R_putF hc_11 dX10_init_51 hv_11 (w := 324) rfl hk_11 rfl rfl
theorem r_11_54 (l1 l2 l3 l4 : Value) (a : Nat) (st : List Value) (ws : ai_W) : ai_Run 11 54 [.ref a, l1, l2, l3, l4] st ws = ai_Run 11 55 [.ref a, l1, l2, l3, l4] (.ref a :: st) ws := R_aload_n hc_11 dX10_init_54 rfl rfl
theorem r_11_55 (ls st : List Value) (ws : ai_W) : ai_Run 11 55 ls st ws = ai_Run 11 58 ls (.ref ws.length :: st) (ws ++ [ai_blank 2]) := R_new hc_11 dX10_init_55 hv_11 (w1 := 218) (w2 := 219) (w3 := 89) rfl rfl
theorem r_11_58 (ls st : List Value) (a : Nat) (ws : ai_W) : ai_Run 11 58 ls (.ref a :: st) ws = ai_Run 11 59 ls (.ref a :: .ref a :: st) ws := R_dup hc_11 dX10_init_58 rfl
theorem r_11_59 (l0 l2 l3 l4 : Value) (a : Nat) (st : List Value) (ws : ai_W) : ai_Run 11 59 [l0, .ref a, l2, l3, l4] st ws = ai_Run 11 60 [l0, .ref a, l2, l3, l4] (.ref a :: st) ws := R_aload_n hc_11 dX10_init_59 rfl rfl
theorem r_11_60 (ls : List Value) (r : Nat) (b0 : Nat) (s0 s1 : Value) (ws : ai_W) : ai_Run 11 60 ls [.ref b0, .ref r, s0, s1] ws = (ai_Call 6 [.ref r, .ref b0] ws).bind fun q => ai_Run 11 63 ls (q.1.toList ++ [s0, s1]) q.2 := R_callI hc_11 dX10_init_60 hv_11 (w := 220) (Or.inl rfl) (Nat.le_of_ble_eq_true rfl) hk_6 (by rw [hn_6]; rfl) rfl (Nat.le_of_ble_eq_true rfl) rfl
theorem r_11_63 (ls st : List Value) (a : Nat) (x : Value) (ws : ai_W) : ai_Run 11 63 ls (x :: .ref a :: st) ws = (ai_fput ws a 10 3 x).bind fun ws => ai_Run 11 66 ls st ws := R_putF hc_11 dX10_init_63 hv_11 (w := 325) rfl hk_11 rfl rfl
theorem r_11_66 (l1 l2 l3 l4 : Value) (a : Nat) (st : List Value) (ws : ai_W) : ai_Run 11 66 [.ref a, l1, l2, l3, l4] st ws = ai_Run 11 67 [.ref a, l1, l2, l3, l4] (.ref a :: st) ws := R_aload_n hc_11 dX10_init_66 rfl rfl
theorem r_11_67 (l0 l1 l2 l3 : Value) (a : Nat) (st : List Value) (ws : ai_W) : ai_Run 11 67 [l0, l1, l2, l3, .ref a] st ws = ai_Run 11 69 [l0, l1, l2, l3, .ref a] (.ref a :: st) ws := R_aload hc_11 dX10_init_67 rfl rfl
theorem r_11_69 (ls st : List Value) (a : Nat) (x : Value) (ws : ai_W) : ai_Run 11 69 ls (x :: .ref a :: st) ws = (ai_fput ws a 10 4 x).bind fun ws => ai_Run 11 72 ls st ws := R_putF hc_11 dX10_init_69 hv_11 (w := 326) rfl hk_11 rfl rfl
theorem r_11_72 (l1 l2 l3 l4 : Value) (a : Nat) (st : List Value) (ws : ai_W) : ai_Run 11 72 [.ref a, l1, l2, l3, l4] st ws = ai_Run 11 73 [.ref a, l1, l2, l3, l4] (.ref a :: st) ws := R_aload_n hc_11 dX10_init_72 rfl rfl
theorem r_11_73 (ls st : List Value) (ws : ai_W) : ai_Run 11 73 ls st ws = ai_Run 11 76 ls (.ref ws.length :: st) (ws ++ [ai_blank 1]) := R_new hc_11 dX10_init_73 hv_11 (w1 := 233) (w2 := 234) (w3 := 90) rfl rfl
theorem r_11_76 (ls st : List Value) (a : Nat) (ws : ai_W) : ai_Run 11 76 ls (.ref a :: st) ws = ai_Run 11 77 ls (.ref a :: .ref a :: st) ws := R_dup hc_11 dX10_init_76 rfl
theorem r_11_77 (l0 l2 l3 l4 : Value) (a : Nat) (st : List Value) (ws : ai_W) : ai_Run 11 77 [l0, .ref a, l2, l3, l4] st ws = ai_Run 11 78 [l0, .ref a, l2, l3, l4] (.ref a :: st) ws := R_aload_n hc_11 dX10_init_77 rfl rfl
theorem r_11_78 (l0 l1 l3 l4 : Value) (a : Nat) (st : List Value) (ws : ai_W) : ai_Run 11 78 [l0, l1, .ref a, l3, l4] st ws = ai_Run 11 79 [l0, l1, .ref a, l3, l4] (.ref a :: st) ws := R_aload_n hc_11 dX10_init_78 rfl rfl
theorem r_11_79 (l0 l1 l2 l4 : Value) (a : Nat) (st : List Value) (ws : ai_W) : ai_Run 11 79 [l0, l1, l2, .ref a, l4] st ws = ai_Run 11 80 [l0, l1, l2, .ref a, l4] (.ref a :: st) ws := R_aload_n hc_11 dX10_init_79 rfl rfl
theorem r_11_80 (l0 l1 l2 l3 : Value) (a : Nat) (st : List Value) (ws : ai_W) : ai_Run 11 80 [l0, l1, l2, l3, .ref a] st ws = ai_Run 11 82 [l0, l1, l2, l3, .ref a] (.ref a :: st) ws := R_aload hc_11 dX10_init_80 rfl rfl
theorem r_11_82 (ls : List Value) (r : Nat) (b0 : Nat) (b1 : Nat) (b2 : Nat) (b3 : Nat) (s0 s1 : Value) (ws : ai_W) : ai_Run 11 82 ls [.ref b3, .ref b2, .ref b1, .ref b0, .ref r, s0, s1] ws = (ai_Call 7 [.ref r, .ref b0, .ref b1, .ref b2, .ref b3] ws).bind fun q => ai_Run 11 85 ls (q.1.toList ++ [s0, s1]) q.2 := R_callI hc_11 dX10_init_82 hv_11 (w := 235) (Or.inl rfl) (Nat.le_of_ble_eq_true rfl) hk_7 (by rw [hn_7]; rfl) rfl (Nat.le_of_ble_eq_true rfl) rfl
theorem r_11_85 (ls st : List Value) (a : Nat) (x : Value) (ws : ai_W) : ai_Run 11 85 ls (x :: .ref a :: st) ws = (ai_fput ws a 10 5 x).bind fun ws => ai_Run 11 88 ls st ws := R_putF hc_11 dX10_init_85 hv_11 (w := 327) rfl hk_11 rfl rfl
theorem r_11_88 (l1 l2 l3 l4 : Value) (a : Nat) (st : List Value) (ws : ai_W) : ai_Run 11 88 [.ref a, l1, l2, l3, l4] st ws = ai_Run 11 89 [.ref a, l1, l2, l3, l4] (.ref a :: st) ws := R_aload_n hc_11 dX10_init_88 rfl rfl
theorem r_11_89 (ls st : List Value) (ws : ai_W) : ai_Run 11 89 ls st ws = ai_Run 11 92 ls (.ref ws.length :: st) (ws ++ [ai_blank 3]) := R_new hc_11 dX10_init_89 hv_11 (w1 := 252) (w2 := 253) (w3 := 91) rfl rfl
theorem r_11_92 (ls st : List Value) (a : Nat) (ws : ai_W) : ai_Run 11 92 ls (.ref a :: st) ws = ai_Run 11 93 ls (.ref a :: .ref a :: st) ws := R_dup hc_11 dX10_init_92 rfl
theorem r_11_93 (ls : List Value) (r : Nat) (s0 s1 : Value) (ws : ai_W) : ai_Run 11 93 ls [.ref r, s0, s1] ws = (ai_Call 8 [.ref r] ws).bind fun q => ai_Run 11 96 ls (q.1.toList ++ [s0, s1]) q.2 := R_callI hc_11 dX10_init_93 hv_11 (w := 254) (Or.inl rfl) (Nat.le_of_ble_eq_true rfl) hk_8 (by rw [hn_8]; rfl) rfl (Nat.le_of_ble_eq_true rfl) rfl
theorem r_11_96 (ls st : List Value) (a : Nat) (x : Value) (ws : ai_W) : ai_Run 11 96 ls (x :: .ref a :: st) ws = (ai_fput ws a 10 6 x).bind fun ws => ai_Run 11 99 ls st ws := R_putF hc_11 dX10_init_96 hv_11 (w := 328) rfl hk_11 rfl rfl
theorem r_11_99 (l1 l2 l3 l4 : Value) (a : Nat) (st : List Value) (ws : ai_W) : ai_Run 11 99 [.ref a, l1, l2, l3, l4] st ws = ai_Run 11 100 [.ref a, l1, l2, l3, l4] (.ref a :: st) ws := R_aload_n hc_11 dX10_init_99 rfl rfl
theorem r_11_100 (ls st : List Value) (ws : ai_W) : ai_Run 11 100 ls st ws = ai_Run 11 103 ls (.ref ws.length :: st) (ws ++ [ai_blank 9]) := R_new hc_11 dX10_init_100 hv_11 (w1 := 277) (w2 := 278) (w3 := 92) rfl rfl
theorem r_11_103 (ls st : List Value) (a : Nat) (ws : ai_W) : ai_Run 11 103 ls (.ref a :: st) ws = ai_Run 11 104 ls (.ref a :: .ref a :: st) ws := R_dup hc_11 dX10_init_103 rfl
theorem r_11_104 (ls : List Value) (r : Nat) (s0 s1 : Value) (ws : ai_W) : ai_Run 11 104 ls [.ref r, s0, s1] ws = (ai_Call 9 [.ref r] ws).bind fun q => ai_Run 11 107 ls (q.1.toList ++ [s0, s1]) q.2 := R_callI hc_11 dX10_init_104 hv_11 (w := 279) (Or.inr rfl) (Nat.le_of_ble_eq_true rfl) hk_9 (by rw [hn_9]; rfl) rfl (Nat.le_of_ble_eq_true rfl) rfl
theorem r_11_107 (ls st : List Value) (a : Nat) (x : Value) (ws : ai_W) : ai_Run 11 107 ls (x :: .ref a :: st) ws = (ai_fput ws a 10 7 x).bind fun ws => ai_Run 11 110 ls st ws := R_putF hc_11 dX10_init_107 hv_11 (w := 329) rfl hk_11 rfl rfl
theorem r_11_110 (l1 l2 l3 l4 : Value) (a : Nat) (st : List Value) (ws : ai_W) : ai_Run 11 110 [.ref a, l1, l2, l3, l4] st ws = ai_Run 11 111 [.ref a, l1, l2, l3, l4] (.ref a :: st) ws := R_aload_n hc_11 dX10_init_110 rfl rfl
theorem r_11_111 (ls st : List Value) (ws : ai_W) : ai_Run 11 111 ls st ws = ai_Run 11 114 ls (.ref ws.length :: st) (ws ++ [ai_blank 6]) := R_new hc_11 dX10_init_111 hv_11 (w1 := 307) (w2 := 308) (w3 := 93) rfl rfl
theorem r_11_114 (ls st : List Value) (a : Nat) (ws : ai_W) : ai_Run 11 114 ls (.ref a :: st) ws = ai_Run 11 115 ls (.ref a :: .ref a :: st) ws := R_dup hc_11 dX10_init_114 rfl
theorem r_11_115 (ls : List Value) (r : Nat) (s0 s1 : Value) (ws : ai_W) : ai_Run 11 115 ls [.ref r, s0, s1] ws = (ai_Call 10 [.ref r] ws).bind fun q => ai_Run 11 118 ls (q.1.toList ++ [s0, s1]) q.2 := R_callI hc_11 dX10_init_115 hv_11 (w := 309) (Or.inr rfl) (Nat.le_of_ble_eq_true rfl) hk_10 (by rw [hn_10]; rfl) rfl (Nat.le_of_ble_eq_true rfl) rfl
theorem r_11_118 (ls st : List Value) (a : Nat) (x : Value) (ws : ai_W) : ai_Run 11 118 ls (x :: .ref a :: st) ws = (ai_fput ws a 10 8 x).bind fun ws => ai_Run 11 121 ls st ws := R_putF hc_11 dX10_init_118 hv_11 (w := 330) rfl hk_11 rfl rfl
theorem r_11_121 (ls : List Value) (ws : ai_W) : ai_Run 11 121 ls [] ws = some (none, ws) := R_vret hc_11 dX10_init_121 ht_11
theorem dX11_init_0 : decode cX11_init 0 = .ok (.aload_n 0, 1) := by decide +kernel
theorem dX11_init_1 : decode cX11_init 1 = .ok (.invokespecial 3, 3) := by decide +kernel
theorem dX11_init_4 : decode cX11_init 4 = .ok (.aload_n 0, 1) := by decide +kernel
theorem dX11_init_5 : decode cX11_init 5 = .ok (.sipush 189, 3) := by decide +kernel
theorem dX11_init_8 : decode cX11_init 8 = .ok (.newarray .int, 2) := by decide +kernel
theorem dX11_init_10 : decode cX11_init 10 = .ok (.putfield 9, 3) := by decide +kernel
theorem dX11_init_13 : decode cX11_init 13 = .ok (.aload_n 0, 1) := by decide +kernel
theorem dX11_init_14 : decode cX11_init 14 = .ok (.sipush 189, 3) := by decide +kernel
theorem dX11_init_17 : decode cX11_init 17 = .ok (.newarray .int, 2) := by decide +kernel
theorem dX11_init_19 : decode cX11_init 19 = .ok (.putfield 13, 3) := by decide +kernel
theorem dX11_init_22 : decode cX11_init 22 = .ok (.aload_n 0, 1) := by decide +kernel
theorem dX11_init_23 : decode cX11_init 23 = .ok (.sipush 189, 3) := by decide +kernel
theorem dX11_init_26 : decode cX11_init 26 = .ok (.newarray .int, 2) := by decide +kernel
theorem dX11_init_28 : decode cX11_init 28 = .ok (.putfield 16, 3) := by decide +kernel
theorem dX11_init_31 : decode cX11_init 31 = .ok (.aload_n 0, 1) := by decide +kernel
theorem dX11_init_32 : decode cX11_init 32 = .ok (.sipush 1512, 3) := by decide +kernel
theorem dX11_init_35 : decode cX11_init 35 = .ok (.newarray .int, 2) := by decide +kernel
theorem dX11_init_37 : decode cX11_init 37 = .ok (.putfield 19, 3) := by decide +kernel
theorem dX11_init_40 : decode cX11_init 40 = .ok (.aload_n 0, 1) := by decide +kernel
theorem dX11_init_41 : decode cX11_init 41 = .ok (.bipush (-4), 2) := by decide +kernel
theorem dX11_init_43 : decode cX11_init 43 = .ok (.putfield 22, 3) := by decide +kernel
theorem dX11_init_46 : decode cX11_init 46 = .ok (.aload_n 0, 1) := by decide +kernel
theorem dX11_init_47 : decode cX11_init 47 = .ok (.bipush 50, 2) := by decide +kernel
theorem dX11_init_49 : decode cX11_init 49 = .ok (.newarray .int, 2) := by decide +kernel
theorem dX11_init_51 : decode cX11_init 51 = .ok (.putfield 26, 3) := by decide +kernel
theorem dX11_init_54 : decode cX11_init 54 = .ok (.aload_n 0, 1) := by decide +kernel
theorem dX11_init_55 : decode cX11_init 55 = .ok (.bipush 70, 2) := by decide +kernel
theorem dX11_init_57 : decode cX11_init 57 = .ok (.newarray .int, 2) := by decide +kernel
theorem dX11_init_59 : decode cX11_init 59 = .ok (.putfield 29, 3) := by decide +kernel
theorem dX11_init_62 : decode cX11_init 62 = .ok (.aload_n 0, 1) := by decide +kernel
theorem dX11_init_63 : decode cX11_init 63 = .ok (.sipush 144, 3) := by decide +kernel
theorem dX11_init_66 : decode cX11_init 66 = .ok (.newarray .int, 2) := by decide +kernel
theorem dX11_init_68 : decode cX11_init 68 = .ok (.putfield 32, 3) := by decide +kernel
theorem dX11_init_71 : decode cX11_init 71 = .ok (.iconst 0, 1) := by decide +kernel
theorem dX11_init_72 : decode cX11_init 72 = .ok (.istore_n 1, 1) := by decide +kernel
theorem dX11_init_73 : decode cX11_init 73 = .ok (.iload_n 1, 1) := by decide +kernel
theorem dX11_init_74 : decode cX11_init 74 = .ok (.bipush 30, 2) := by decide +kernel
theorem dX11_init_76 : decode cX11_init 76 = .ok (.if_icmp .gt 19, 3) := by decide +kernel
theorem dX11_init_79 : decode cX11_init 79 = .ok (.aload_n 0, 1) := by decide +kernel
theorem dX11_init_80 : decode cX11_init 80 = .ok (.getfield 9, 3) := by decide +kernel
theorem dX11_init_83 : decode cX11_init 83 = .ok (.iconst 3, 1) := by decide +kernel
theorem dX11_init_84 : decode cX11_init 84 = .ok (.iload_n 1, 1) := by decide +kernel
theorem dX11_init_85 : decode cX11_init 85 = .ok (.iadd, 1) := by decide +kernel
theorem dX11_init_86 : decode cX11_init 86 = .ok (.bipush (-4), 2) := by decide +kernel
theorem dX11_init_88 : decode cX11_init 88 = .ok (.iastore, 1) := by decide +kernel
theorem dX11_init_89 : decode cX11_init 89 = .ok (.iinc 1 1, 3) := by decide +kernel
theorem dX11_init_92 : decode cX11_init 92 = .ok (.goto (-19), 3) := by decide +kernel
theorem dX11_init_95 : decode cX11_init 95 = .ok (.return_, 1) := by decide +kernel
theorem hc_164 : ai_code 164 = cX11_init := rfl
theorem hv_164 : ai_view 164 = 11 := rfl
theorem hk_164 : ai_kind 164 = 2 := rfl
theorem hn_164 : ai_n 164 = 0 := rfl
theorem ht_164 : ai_ret 164 = none := rfl
theorem e_164 (r : Nat)  (ws : ai_W) : ai_Call 164 [.ref r] ws = if ai_isob ws r 11 = true then ai_Run 164 0 [.ref r, .null] [] ws else none := R_entI hk_164 ⟨⟨rfl, rfl⟩, Nat.le_of_ble_eq_true rfl⟩ rfl
theorem r_164_0 (l1 : Value) (a : Nat) (st : List Value) (ws : ai_W) : ai_Run 164 0 [.ref a, l1] st ws = ai_Run 164 1 [.ref a, l1] (.ref a :: st) ws := R_aload_n hc_164 dX11_init_0 rfl rfl
theorem r_164_1 (ls : List Value) (a : Nat) (ws : ai_W) : ai_Run 164 1 ls [.ref a] ws = ai_Run 164 4 ls [] ws := R_obj hc_164 dX11_init_1 hv_164 (y2 := 0) (w := 1023) rfl (Nat.le_of_ble_eq_true rfl) rfl
theorem r_164_4 (l1 : Value) (a : Nat) (st : List Value) (ws : ai_W) : ai_Run 164 4 [.ref a, l1] st ws = ai_Run 164 5 [.ref a, l1] (.ref a :: st) ws := R_aload_n hc_164 dX11_init_4 rfl rfl
theorem r_164_5 (ls st : List Value) (ws : ai_W) : ai_Run 164 5 ls st ws = ai_Run 164 8 ls (.int 189 :: st) ws := R_sipush hc_164 dX11_init_5 (by decide) rfl
theorem r_164_8 (ls st : List Value) (q : Int32) (ws : ai_W) : ai_Run 164 8 ls (.int q :: st) ws = if q < 0 ∨ 100000 < q.toNatClampNeg then none else ai_Run 164 10 ls (.ref ws.length :: st) (ws ++ [.inl (List.replicate q.toNatClampNeg 0)]) := R_newa hc_164 dX11_init_8 rfl
theorem r_164_10 (ls st : List Value) (a : Nat) (x : Value) (ws : ai_W) : ai_Run 164 10 ls (x :: .ref a :: st) ws = (ai_fput ws a 11 0 x).bind fun ws => ai_Run 164 13 ls st ws := R_putF hc_164 dX11_init_10 hv_164 (w := 1024) rfl hk_164 rfl rfl
theorem r_164_13 (l1 : Value) (a : Nat) (st : List Value) (ws : ai_W) : ai_Run 164 13 [.ref a, l1] st ws = ai_Run 164 14 [.ref a, l1] (.ref a :: st) ws := R_aload_n hc_164 dX11_init_13 rfl rfl
theorem r_164_14 (ls st : List Value) (ws : ai_W) : ai_Run 164 14 ls st ws = ai_Run 164 17 ls (.int 189 :: st) ws := R_sipush hc_164 dX11_init_14 (by decide) rfl
theorem r_164_17 (ls st : List Value) (q : Int32) (ws : ai_W) : ai_Run 164 17 ls (.int q :: st) ws = if q < 0 ∨ 100000 < q.toNatClampNeg then none else ai_Run 164 19 ls (.ref ws.length :: st) (ws ++ [.inl (List.replicate q.toNatClampNeg 0)]) := R_newa hc_164 dX11_init_17 rfl
theorem r_164_19 (ls st : List Value) (a : Nat) (x : Value) (ws : ai_W) : ai_Run 164 19 ls (x :: .ref a :: st) ws = (ai_fput ws a 11 1 x).bind fun ws => ai_Run 164 22 ls st ws := R_putF hc_164 dX11_init_19 hv_164 (w := 1025) rfl hk_164 rfl rfl
theorem r_164_22 (l1 : Value) (a : Nat) (st : List Value) (ws : ai_W) : ai_Run 164 22 [.ref a, l1] st ws = ai_Run 164 23 [.ref a, l1] (.ref a :: st) ws := R_aload_n hc_164 dX11_init_22 rfl rfl
theorem r_164_23 (ls st : List Value) (ws : ai_W) : ai_Run 164 23 ls st ws = ai_Run 164 26 ls (.int 189 :: st) ws := R_sipush hc_164 dX11_init_23 (by decide) rfl
theorem r_164_26 (ls st : List Value) (q : Int32) (ws : ai_W) : ai_Run 164 26 ls (.int q :: st) ws = if q < 0 ∨ 100000 < q.toNatClampNeg then none else ai_Run 164 28 ls (.ref ws.length :: st) (ws ++ [.inl (List.replicate q.toNatClampNeg 0)]) := R_newa hc_164 dX11_init_26 rfl
theorem r_164_28 (ls st : List Value) (a : Nat) (x : Value) (ws : ai_W) : ai_Run 164 28 ls (x :: .ref a :: st) ws = (ai_fput ws a 11 2 x).bind fun ws => ai_Run 164 31 ls st ws := R_putF hc_164 dX11_init_28 hv_164 (w := 1026) rfl hk_164 rfl rfl
theorem r_164_31 (l1 : Value) (a : Nat) (st : List Value) (ws : ai_W) : ai_Run 164 31 [.ref a, l1] st ws = ai_Run 164 32 [.ref a, l1] (.ref a :: st) ws := R_aload_n hc_164 dX11_init_31 rfl rfl
theorem r_164_32 (ls st : List Value) (ws : ai_W) : ai_Run 164 32 ls st ws = ai_Run 164 35 ls (.int 1512 :: st) ws := R_sipush hc_164 dX11_init_32 (by decide) rfl
theorem r_164_35 (ls st : List Value) (q : Int32) (ws : ai_W) : ai_Run 164 35 ls (.int q :: st) ws = if q < 0 ∨ 100000 < q.toNatClampNeg then none else ai_Run 164 37 ls (.ref ws.length :: st) (ws ++ [.inl (List.replicate q.toNatClampNeg 0)]) := R_newa hc_164 dX11_init_35 rfl
theorem r_164_37 (ls st : List Value) (a : Nat) (x : Value) (ws : ai_W) : ai_Run 164 37 ls (x :: .ref a :: st) ws = (ai_fput ws a 11 3 x).bind fun ws => ai_Run 164 40 ls st ws := R_putF hc_164 dX11_init_37 hv_164 (w := 1027) rfl hk_164 rfl rfl
theorem r_164_40 (l1 : Value) (a : Nat) (st : List Value) (ws : ai_W) : ai_Run 164 40 [.ref a, l1] st ws = ai_Run 164 41 [.ref a, l1] (.ref a :: st) ws := R_aload_n hc_164 dX11_init_40 rfl rfl
theorem r_164_41 (ls st : List Value) (ws : ai_W) : ai_Run 164 41 ls st ws = ai_Run 164 43 ls (.int (-4) :: st) ws := R_bipush hc_164 dX11_init_41 (by decide) rfl
theorem r_164_43 (ls st : List Value) (a : Nat) (x : Value) (ws : ai_W) : ai_Run 164 43 ls (x :: .ref a :: st) ws = (ai_fput ws a 11 7 x).bind fun ws => ai_Run 164 46 ls st ws := R_putF hc_164 dX11_init_43 hv_164 (w := 1031) rfl hk_164 rfl rfl
theorem r_164_46 (l1 : Value) (a : Nat) (st : List Value) (ws : ai_W) : ai_Run 164 46 [.ref a, l1] st ws = ai_Run 164 47 [.ref a, l1] (.ref a :: st) ws := R_aload_n hc_164 dX11_init_46 rfl rfl
theorem r_164_47 (ls st : List Value) (ws : ai_W) : ai_Run 164 47 ls st ws = ai_Run 164 49 ls (.int 50 :: st) ws := R_bipush hc_164 dX11_init_47 (by decide) rfl
theorem r_164_49 (ls st : List Value) (q : Int32) (ws : ai_W) : ai_Run 164 49 ls (.int q :: st) ws = if q < 0 ∨ 100000 < q.toNatClampNeg then none else ai_Run 164 51 ls (.ref ws.length :: st) (ws ++ [.inl (List.replicate q.toNatClampNeg 0)]) := R_newa hc_164 dX11_init_49 rfl
theorem r_164_51 (ls st : List Value) (a : Nat) (x : Value) (ws : ai_W) : ai_Run 164 51 ls (x :: .ref a :: st) ws = (ai_fput ws a 11 9 x).bind fun ws => ai_Run 164 54 ls st ws := R_putF hc_164 dX11_init_51 hv_164 (w := 1033) rfl hk_164 rfl rfl
theorem r_164_54 (l1 : Value) (a : Nat) (st : List Value) (ws : ai_W) : ai_Run 164 54 [.ref a, l1] st ws = ai_Run 164 55 [.ref a, l1] (.ref a :: st) ws := R_aload_n hc_164 dX11_init_54 rfl rfl
theorem r_164_55 (ls st : List Value) (ws : ai_W) : ai_Run 164 55 ls st ws = ai_Run 164 57 ls (.int 70 :: st) ws := R_bipush hc_164 dX11_init_55 (by decide) rfl
theorem r_164_57 (ls st : List Value) (q : Int32) (ws : ai_W) : ai_Run 164 57 ls (.int q :: st) ws = if q < 0 ∨ 100000 < q.toNatClampNeg then none else ai_Run 164 59 ls (.ref ws.length :: st) (ws ++ [.inl (List.replicate q.toNatClampNeg 0)]) := R_newa hc_164 dX11_init_57 rfl
theorem r_164_59 (ls st : List Value) (a : Nat) (x : Value) (ws : ai_W) : ai_Run 164 59 ls (x :: .ref a :: st) ws = (ai_fput ws a 11 11 x).bind fun ws => ai_Run 164 62 ls st ws := R_putF hc_164 dX11_init_59 hv_164 (w := 1035) rfl hk_164 rfl rfl
theorem r_164_62 (l1 : Value) (a : Nat) (st : List Value) (ws : ai_W) : ai_Run 164 62 [.ref a, l1] st ws = ai_Run 164 63 [.ref a, l1] (.ref a :: st) ws := R_aload_n hc_164 dX11_init_62 rfl rfl
theorem r_164_63 (ls st : List Value) (ws : ai_W) : ai_Run 164 63 ls st ws = ai_Run 164 66 ls (.int 144 :: st) ws := R_sipush hc_164 dX11_init_63 (by decide) rfl
theorem r_164_66 (ls st : List Value) (q : Int32) (ws : ai_W) : ai_Run 164 66 ls (.int q :: st) ws = if q < 0 ∨ 100000 < q.toNatClampNeg then none else ai_Run 164 68 ls (.ref ws.length :: st) (ws ++ [.inl (List.replicate q.toNatClampNeg 0)]) := R_newa hc_164 dX11_init_66 rfl
theorem r_164_68 (ls st : List Value) (a : Nat) (x : Value) (ws : ai_W) : ai_Run 164 68 ls (x :: .ref a :: st) ws = (ai_fput ws a 11 12 x).bind fun ws => ai_Run 164 71 ls st ws := R_putF hc_164 dX11_init_68 hv_164 (w := 1036) rfl hk_164 rfl rfl
theorem r_164_71 (ls st : List Value) (ws : ai_W) : ai_Run 164 71 ls st ws = ai_Run 164 72 ls (.int 0 :: st) ws := R_iconst hc_164 dX11_init_71 (by decide) rfl
theorem r_164_72 (l0 l1 : Value) (a : Int32) (st : List Value) (ws : ai_W) : ai_Run 164 72 [l0, l1] (.int a :: st) ws = ai_Run 164 73 [l0, .int a] st ws := R_istore_n hc_164 dX11_init_72 (Nat.le_of_ble_eq_true rfl) rfl rfl
theorem r_164_73 (l0 : Value) (a : Int32) (st : List Value) (ws : ai_W) : ai_Run 164 73 [l0, .int a] st ws = ai_Run 164 74 [l0, .int a] (.int a :: st) ws := R_iload_n hc_164 dX11_init_73 rfl rfl
theorem r_164_74 (ls st : List Value) (ws : ai_W) : ai_Run 164 74 ls st ws = ai_Run 164 76 ls (.int 30 :: st) ws := R_bipush hc_164 dX11_init_74 (by decide) rfl
theorem r_164_76 (ls st : List Value) (a b : Int32) (ws : ai_W) : ai_Run 164 76 ls (.int b :: .int a :: st) ws = if b < a then ai_Run 164 95 ls st ws else ai_Run 164 79 ls st ws := R_cmp_gt hc_164 dX11_init_76 rfl rfl
theorem r_164_79 (l1 : Value) (a : Nat) (st : List Value) (ws : ai_W) : ai_Run 164 79 [.ref a, l1] st ws = ai_Run 164 80 [.ref a, l1] (.ref a :: st) ws := R_aload_n hc_164 dX11_init_79 rfl rfl
theorem r_164_80 (ls st : List Value) (a : Nat) (ws : ai_W) : ai_Run 164 80 ls (.ref a :: st) ws = (ai_fget ws a 11 0).bind fun q => ai_Run 164 83 ls (q :: st) ws := R_getf hc_164 dX11_init_80 hv_164 (w := 1024) rfl rfl
theorem r_164_83 (ls st : List Value) (ws : ai_W) : ai_Run 164 83 ls st ws = ai_Run 164 84 ls (.int 3 :: st) ws := R_iconst hc_164 dX11_init_83 (by decide) rfl
theorem r_164_84 (l0 : Value) (a : Int32) (st : List Value) (ws : ai_W) : ai_Run 164 84 [l0, .int a] st ws = ai_Run 164 85 [l0, .int a] (.int a :: st) ws := R_iload_n hc_164 dX11_init_84 rfl rfl
theorem r_164_85 (ls st : List Value) (a b : Int32) (ws : ai_W) : ai_Run 164 85 ls (.int b :: .int a :: st) ws = ai_Run 164 86 ls (.int (a + b) :: st) ws := R_iadd hc_164 dX11_init_85 rfl
theorem r_164_86 (ls st : List Value) (ws : ai_W) : ai_Run 164 86 ls st ws = ai_Run 164 88 ls (.int (-4) :: st) ws := R_bipush hc_164 dX11_init_86 (by decide) rfl
theorem r_164_88 (ls st : List Value) (a : Nat) (i x : Int32) (ws : ai_W) : ai_Run 164 88 ls (.int x :: .int i :: .ref a :: st) ws = (ai_aset ws a i x).bind fun ws => ai_Run 164 89 ls st ws := R_iastore hc_164 dX11_init_88 rfl
theorem r_164_89 (l0 : Value) (a : Int32) (st : List Value) (ws : ai_W) : ai_Run 164 89 [l0, .int a] st ws = ai_Run 164 92 [l0, .int (a + 1)] st ws := R_iinc hc_164 dX11_init_89 rfl (by decide) rfl rfl
theorem r_164_92 (ls st : List Value) (ws : ai_W) : ai_Run 164 92 ls st ws = ai_Run 164 73 ls st ws := R_goto hc_164 dX11_init_92 rfl
theorem r_164_95 (ls : List Value) (ws : ai_W) : ai_Run 164 95 ls [] ws = some (none, ws) := R_vret hc_164 dX11_init_95 ht_164
