/-! rules: printed by gen2.py -/
theorem dX1_setMotive_0 : decode cX1_setMotive 0 = .ok (.aload_n 0, 1) := by decide +kernel
theorem dX1_setMotive_1 : decode cX1_setMotive 1 = .ok (.getfield 9, 3) := by decide +kernel
theorem dX1_setMotive_4 : decode cX1_setMotive 4 = .ok (.iload_n 1, 1) := by decide +kernel
theorem dX1_setMotive_5 : decode cX1_setMotive 5 = .ok (.invokevirtual 42, 3) := by decide +kernel
theorem dX1_setMotive_8 : decode cX1_setMotive 8 = .ok (.ifCond .eq 14, 3) := by decide +kernel
theorem dX1_setMotive_11 : decode cX1_setMotive 11 = .ok (.aload_n 0, 1) := by decide +kernel
theorem dX1_setMotive_12 : decode cX1_setMotive 12 = .ok (.getfield 9, 3) := by decide +kernel
theorem dX1_setMotive_15 : decode cX1_setMotive 15 = .ok (.iload_n 2, 1) := by decide +kernel
theorem dX1_setMotive_16 : decode cX1_setMotive 16 = .ok (.invokevirtual 42, 3) := by decide +kernel
theorem dX1_setMotive_19 : decode cX1_setMotive 19 = .ok (.ifCond .ne 5, 3) := by decide +kernel
theorem dX1_setMotive_22 : decode cX1_setMotive 22 = .ok (.iconst (-1), 1) := by decide +kernel
theorem dX1_setMotive_23 : decode cX1_setMotive 23 = .ok (.ireturn, 1) := by decide +kernel
theorem dX1_setMotive_24 : decode cX1_setMotive 24 = .ok (.iload_n 3, 1) := by decide +kernel
theorem dX1_setMotive_25 : decode cX1_setMotive 25 = .ok (.ifCond .lt 9, 3) := by decide +kernel
theorem dX1_setMotive_28 : decode cX1_setMotive 28 = .ok (.iload_n 3, 1) := by decide +kernel
theorem dX1_setMotive_29 : decode cX1_setMotive 29 = .ok (.bipush 9, 2) := by decide +kernel
theorem dX1_setMotive_31 : decode cX1_setMotive 31 = .ok (.if_icmp .le 6, 3) := by decide +kernel
theorem dX1_setMotive_34 : decode cX1_setMotive 34 = .ok (.bipush (-2), 2) := by decide +kernel
theorem dX1_setMotive_36 : decode cX1_setMotive 36 = .ok (.ireturn, 1) := by decide +kernel
theorem dX1_setMotive_37 : decode cX1_setMotive 37 = .ok (.iload_n 1, 1) := by decide +kernel
theorem dX1_setMotive_38 : decode cX1_setMotive 38 = .ok (.iload_n 2, 1) := by decide +kernel
theorem dX1_setMotive_39 : decode cX1_setMotive 39 = .ok (.if_icmp .ne 14, 3) := by decide +kernel
theorem dX1_setMotive_42 : decode cX1_setMotive 42 = .ok (.aload_n 0, 1) := by decide +kernel
theorem dX1_setMotive_43 : decode cX1_setMotive 43 = .ok (.getfield 23, 3) := by decide +kernel
theorem dX1_setMotive_46 : decode cX1_setMotive 46 = .ok (.bipush 6, 2) := by decide +kernel
theorem dX1_setMotive_48 : decode cX1_setMotive 48 = .ok (.iload_n 1, 1) := by decide +kernel
theorem dX1_setMotive_49 : decode cX1_setMotive 49 = .ok (.invokevirtual 33, 3) := by decide +kernel
theorem dX1_setMotive_52 : decode cX1_setMotive 52 = .ok (.ireturn, 1) := by decide +kernel
theorem dX1_setMotive_53 : decode cX1_setMotive 53 = .ok (.aload_n 0, 1) := by decide +kernel
theorem dX1_setMotive_54 : decode cX1_setMotive 54 = .ok (.getfield 9, 3) := by decide +kernel
theorem dX1_setMotive_57 : decode cX1_setMotive 57 = .ok (.iload_n 1, 1) := by decide +kernel
theorem dX1_setMotive_58 : decode cX1_setMotive 58 = .ok (.iload_n 2, 1) := by decide +kernel
theorem dX1_setMotive_59 : decode cX1_setMotive 59 = .ok (.invokevirtual 99, 3) := by decide +kernel
theorem dX1_setMotive_62 : decode cX1_setMotive 62 = .ok (.istore 4, 2) := by decide +kernel
theorem dX1_setMotive_64 : decode cX1_setMotive 64 = .ok (.iload 4, 2) := by decide +kernel
theorem dX1_setMotive_66 : decode cX1_setMotive 66 = .ok (.iload_n 3, 1) := by decide +kernel
theorem dX1_setMotive_67 : decode cX1_setMotive 67 = .ok (.if_icmp .ne 13, 3) := by decide +kernel
theorem dX1_setMotive_70 : decode cX1_setMotive 70 = .ok (.aload_n 0, 1) := by decide +kernel
theorem dX1_setMotive_71 : decode cX1_setMotive 71 = .ok (.getfield 23, 3) := by decide +kernel
theorem dX1_setMotive_74 : decode cX1_setMotive 74 = .ok (.iconst 5, 1) := by decide +kernel
theorem dX1_setMotive_75 : decode cX1_setMotive 75 = .ok (.iload_n 3, 1) := by decide +kernel
theorem dX1_setMotive_76 : decode cX1_setMotive 76 = .ok (.invokevirtual 33, 3) := by decide +kernel
theorem dX1_setMotive_79 : decode cX1_setMotive 79 = .ok (.ireturn, 1) := by decide +kernel
theorem dX1_setMotive_80 : decode cX1_setMotive 80 = .ok (.aload_n 0, 1) := by decide +kernel
theorem dX1_setMotive_81 : decode cX1_setMotive 81 = .ok (.getfield 9, 3) := by decide +kernel
theorem dX1_setMotive_84 : decode cX1_setMotive 84 = .ok (.getfield 102, 3) := by decide +kernel
theorem dX1_setMotive_87 : decode cX1_setMotive 87 = .ok (.iload_n 1, 1) := by decide +kernel
theorem dX1_setMotive_88 : decode cX1_setMotive 88 = .ok (.bipush 8, 2) := by decide +kernel
theorem dX1_setMotive_90 : decode cX1_setMotive 90 = .ok (.imul, 1) := by decide +kernel
theorem dX1_setMotive_91 : decode cX1_setMotive 91 = .ok (.iload_n 2, 1) := by decide +kernel
theorem dX1_setMotive_92 : decode cX1_setMotive 92 = .ok (.iadd, 1) := by decide +kernel
theorem dX1_setMotive_93 : decode cX1_setMotive 93 = .ok (.iload_n 3, 1) := by decide +kernel
theorem dX1_setMotive_94 : decode cX1_setMotive 94 = .ok (.invokevirtual 86, 3) := by decide +kernel
theorem dX1_setMotive_97 : decode cX1_setMotive 97 = .ok (.iload 4, 2) := by decide +kernel
theorem dX1_setMotive_99 : decode cX1_setMotive 99 = .ok (.ireturn, 1) := by decide +kernel
theorem e_77 (r : Nat) (a0 : Int32) (a1 : Int32) (a2 : Int32) (ws : ai_W) : ai_Call 77 [.ref r, .int a0, .int a1, .int a2] ws = if ai_isob ws r 1 = true then ai_Run 77 0 [.ref r, .int a0, .int a1, .int a2, .null] [] ws else none := R_entV hk_77 ⟨⟨rfl, rfl⟩, Nat.le_of_ble_eq_true rfl⟩ rfl
theorem r_77_0 (l1 l2 l3 l4 : Value) (a : Nat) (st : List Value) (ws : ai_W) : ai_Run 77 0 [.ref a, l1, l2, l3, l4] st ws = ai_Run 77 1 [.ref a, l1, l2, l3, l4] (.ref a :: st) ws := R_aload_n hc_77 dX1_setMotive_0 rfl rfl
theorem r_77_1 (ls st : List Value) (a : Nat) (ws : ai_W) : ai_Run 77 1 ls (.ref a :: st) ws = (ai_fget ws a 1 0).bind fun q => ai_Run 77 4 ls (q :: st) ws := R_getf hc_77 dX1_setMotive_1 hv_77 (w := 573) rfl rfl
theorem r_77_4 (l0 l2 l3 l4 : Value) (a : Int32) (st : List Value) (ws : ai_W) : ai_Run 77 4 [l0, .int a, l2, l3, l4] st ws = ai_Run 77 5 [l0, .int a, l2, l3, l4] (.int a :: st) ws := R_iload_n hc_77 dX1_setMotive_4 rfl rfl
theorem r_77_5 (ls : List Value) (r : Nat) (b0 : Int32) (ws : ai_W) : ai_Run 77 5 ls [.int b0, .ref r] ws = (ai_Call 62 [.ref r, .int b0] ws).bind fun q => ai_Run 77 8 ls (q.1.toList ++ []) q.2 := R_callV hc_77 dX1_setMotive_5 hv_77 (w := 108) rfl (ai_lt3 hf_62 hf_77 hL_62 ho_62 ho_77 rfl) hk_62 (by rw [hn_62]; rfl) rfl (Nat.le_of_ble_eq_true rfl) rfl
theorem r_77_8 (ls st : List Value) (a : Int32) (ws : ai_W) : ai_Run 77 8 ls (.int a :: st) ws = if a = 0 then ai_Run 77 22 ls st ws else ai_Run 77 11 ls st ws := R_if_eq hc_77 dX1_setMotive_8 rfl rfl
theorem r_77_11 (l1 l2 l3 l4 : Value) (a : Nat) (st : List Value) (ws : ai_W) : ai_Run 77 11 [.ref a, l1, l2, l3, l4] st ws = ai_Run 77 12 [.ref a, l1, l2, l3, l4] (.ref a :: st) ws := R_aload_n hc_77 dX1_setMotive_11 rfl rfl
theorem r_77_12 (ls st : List Value) (a : Nat) (ws : ai_W) : ai_Run 77 12 ls (.ref a :: st) ws = (ai_fget ws a 1 0).bind fun q => ai_Run 77 15 ls (q :: st) ws := R_getf hc_77 dX1_setMotive_12 hv_77 (w := 573) rfl rfl
theorem r_77_15 (l0 l1 l3 l4 : Value) (a : Int32) (st : List Value) (ws : ai_W) : ai_Run 77 15 [l0, l1, .int a, l3, l4] st ws = ai_Run 77 16 [l0, l1, .int a, l3, l4] (.int a :: st) ws := R_iload_n hc_77 dX1_setMotive_15 rfl rfl
theorem r_77_16 (ls : List Value) (r : Nat) (b0 : Int32) (ws : ai_W) : ai_Run 77 16 ls [.int b0, .ref r] ws = (ai_Call 62 [.ref r, .int b0] ws).bind fun q => ai_Run 77 19 ls (q.1.toList ++ []) q.2 := R_callV hc_77 dX1_setMotive_16 hv_77 (w := 108) rfl (ai_lt3 hf_62 hf_77 hL_62 ho_62 ho_77 rfl) hk_62 (by rw [hn_62]; rfl) rfl (Nat.le_of_ble_eq_true rfl) rfl
theorem r_77_19 (ls st : List Value) (a : Int32) (ws : ai_W) : ai_Run 77 19 ls (.int a :: st) ws = if a = 0 then ai_Run 77 22 ls st ws else ai_Run 77 24 ls st ws := R_if_ne hc_77 dX1_setMotive_19 rfl rfl
theorem r_77_22 (ls st : List Value) (ws : ai_W) : ai_Run 77 22 ls st ws = ai_Run 77 23 ls (.int (-1) :: st) ws := R_iconst hc_77 dX1_setMotive_22 (by decide) rfl
theorem r_77_23 (ls : List Value) (x : Int32) (ws : ai_W) : ai_Run 77 23 ls [.int x] ws = some (some (.int x), ws) := R_iret hc_77 dX1_setMotive_23 ht_77
theorem r_77_24 (l0 l1 l2 l4 : Value) (a : Int32) (st : List Value) (ws : ai_W) : ai_Run 77 24 [l0, l1, l2, .int a, l4] st ws = ai_Run 77 25 [l0, l1, l2, .int a, l4] (.int a :: st) ws := R_iload_n hc_77 dX1_setMotive_24 rfl rfl
theorem r_77_25 (ls st : List Value) (a : Int32) (ws : ai_W) : ai_Run 77 25 ls (.int a :: st) ws = if a < 0 then ai_Run 77 34 ls st ws else ai_Run 77 28 ls st ws := R_if_lt hc_77 dX1_setMotive_25 rfl rfl
theorem r_77_28 (l0 l1 l2 l4 : Value) (a : Int32) (st : List Value) (ws : ai_W) : ai_Run 77 28 [l0, l1, l2, .int a, l4] st ws = ai_Run 77 29 [l0, l1, l2, .int a, l4] (.int a :: st) ws := R_iload_n hc_77 dX1_setMotive_28 rfl rfl
theorem r_77_29 (ls st : List Value) (ws : ai_W) : ai_Run 77 29 ls st ws = ai_Run 77 31 ls (.int 9 :: st) ws := R_bipush hc_77 dX1_setMotive_29 (by decide) rfl
theorem r_77_31 (ls st : List Value) (a b : Int32) (ws : ai_W) : ai_Run 77 31 ls (.int b :: .int a :: st) ws = if b < a then ai_Run 77 34 ls st ws else ai_Run 77 37 ls st ws := R_cmp_le hc_77 dX1_setMotive_31 rfl rfl
theorem r_77_34 (ls st : List Value) (ws : ai_W) : ai_Run 77 34 ls st ws = ai_Run 77 36 ls (.int (-2) :: st) ws := R_bipush hc_77 dX1_setMotive_34 (by decide) rfl
theorem r_77_36 (ls : List Value) (x : Int32) (ws : ai_W) : ai_Run 77 36 ls [.int x] ws = some (some (.int x), ws) := R_iret hc_77 dX1_setMotive_36 ht_77
theorem r_77_37 (l0 l2 l3 l4 : Value) (a : Int32) (st : List Value) (ws : ai_W) : ai_Run 77 37 [l0, .int a, l2, l3, l4] st ws = ai_Run 77 38 [l0, .int a, l2, l3, l4] (.int a :: st) ws := R_iload_n hc_77 dX1_setMotive_37 rfl rfl
theorem r_77_38 (l0 l1 l3 l4 : Value) (a : Int32) (st : List Value) (ws : ai_W) : ai_Run 77 38 [l0, l1, .int a, l3, l4] st ws = ai_Run 77 39 [l0, l1, .int a, l3, l4] (.int a :: st) ws := R_iload_n hc_77 dX1_setMotive_38 rfl rfl
theorem r_77_39 (ls st : List Value) (a b : Int32) (ws : ai_W) : ai_Run 77 39 ls (.int b :: .int a :: st) ws = if a = b then ai_Run 77 42 ls st ws else ai_Run 77 53 ls st ws := R_cmp_ne hc_77 dX1_setMotive_39 rfl rfl
theorem r_77_42 (l1 l2 l3 l4 : Value) (a : Nat) (st : List Value) (ws : ai_W) : ai_Run 77 42 [.ref a, l1, l2, l3, l4] st ws = ai_Run 77 43 [.ref a, l1, l2, l3, l4] (.ref a :: st) ws := R_aload_n hc_77 dX1_setMotive_42 rfl rfl
theorem r_77_43 (ls st : List Value) (a : Nat) (ws : ai_W) : ai_Run 77 43 ls (.ref a :: st) ws = (ai_fget ws a 1 3).bind fun q => ai_Run 77 46 ls (q :: st) ws := R_getf hc_77 dX1_setMotive_43 hv_77 (w := 576) rfl rfl
theorem r_77_46 (ls st : List Value) (ws : ai_W) : ai_Run 77 46 ls st ws = ai_Run 77 48 ls (.int 6 :: st) ws := R_bipush hc_77 dX1_setMotive_46 (by decide) rfl
theorem r_77_48 (l0 l2 l3 l4 : Value) (a : Int32) (st : List Value) (ws : ai_W) : ai_Run 77 48 [l0, .int a, l2, l3, l4] st ws = ai_Run 77 49 [l0, .int a, l2, l3, l4] (.int a :: st) ws := R_iload_n hc_77 dX1_setMotive_48 rfl rfl
theorem r_77_49 (ls : List Value) (r : Nat) (b0 : Int32) (b1 : Int32) (ws : ai_W) : ai_Run 77 49 ls [.int b1, .int b0, .ref r] ws = (ai_Call 47 [.ref r, .int b0, .int b1] ws).bind fun q => ai_Run 77 52 ls (q.1.toList ++ []) q.2 := R_callV hc_77 dX1_setMotive_49 hv_77 (w := 84) rfl (ai_lt3 hf_47 hf_77 hL_47 ho_47 ho_77 rfl) hk_47 (by rw [hn_47]; rfl) rfl (Nat.le_of_ble_eq_true rfl) rfl
theorem r_77_52 (ls : List Value) (x : Int32) (ws : ai_W) : ai_Run 77 52 ls [.int x] ws = some (some (.int x), ws) := R_iret hc_77 dX1_setMotive_52 ht_77
theorem r_77_53 (l1 l2 l3 l4 : Value) (a : Nat) (st : List Value) (ws : ai_W) : ai_Run 77 53 [.ref a, l1, l2, l3, l4] st ws = ai_Run 77 54 [.ref a, l1, l2, l3, l4] (.ref a :: st) ws := R_aload_n hc_77 dX1_setMotive_53 rfl rfl
theorem r_77_54 (ls st : List Value) (a : Nat) (ws : ai_W) : ai_Run 77 54 ls (.ref a :: st) ws = (ai_fget ws a 1 0).bind fun q => ai_Run 77 57 ls (q :: st) ws := R_getf hc_77 dX1_setMotive_54 hv_77 (w := 573) rfl rfl
theorem r_77_57 (l0 l2 l3 l4 : Value) (a : Int32) (st : List Value) (ws : ai_W) : ai_Run 77 57 [l0, .int a, l2, l3, l4] st ws = ai_Run 77 58 [l0, .int a, l2, l3, l4] (.int a :: st) ws := R_iload_n hc_77 dX1_setMotive_57 rfl rfl
theorem r_77_58 (l0 l1 l3 l4 : Value) (a : Int32) (st : List Value) (ws : ai_W) : ai_Run 77 58 [l0, l1, .int a, l3, l4] st ws = ai_Run 77 59 [l0, l1, .int a, l3, l4] (.int a :: st) ws := R_iload_n hc_77 dX1_setMotive_58 rfl rfl
theorem r_77_59 (ls : List Value) (r : Nat) (b0 : Int32) (b1 : Int32) (ws : ai_W) : ai_Run 77 59 ls [.int b1, .int b0, .ref r] ws = (ai_Call 76 [.ref r, .int b0, .int b1] ws).bind fun q => ai_Run 77 62 ls (q.1.toList ++ []) q.2 := R_callV hc_77 dX1_setMotive_59 hv_77 (w := 177) rfl (ai_lt3 hf_76 hf_77 hL_76 ho_76 ho_77 rfl) hk_76 (by rw [hn_76]; rfl) rfl (Nat.le_of_ble_eq_true rfl) rfl
theorem r_77_62 (l0 l1 l2 l3 l4 : Value) (a : Int32) (st : List Value) (ws : ai_W) : ai_Run 77 62 [l0, l1, l2, l3, l4] (.int a :: st) ws = ai_Run 77 64 [l0, l1, l2, l3, .int a] st ws := R_istore hc_77 dX1_setMotive_62 (Nat.le_of_ble_eq_true rfl) rfl rfl
theorem r_77_64 (l0 l1 l2 l3 : Value) (a : Int32) (st : List Value) (ws : ai_W) : ai_Run 77 64 [l0, l1, l2, l3, .int a] st ws = ai_Run 77 66 [l0, l1, l2, l3, .int a] (.int a :: st) ws := R_iload hc_77 dX1_setMotive_64 rfl rfl
theorem r_77_66 (l0 l1 l2 l4 : Value) (a : Int32) (st : List Value) (ws : ai_W) : ai_Run 77 66 [l0, l1, l2, .int a, l4] st ws = ai_Run 77 67 [l0, l1, l2, .int a, l4] (.int a :: st) ws := R_iload_n hc_77 dX1_setMotive_66 rfl rfl
theorem r_77_67 (ls st : List Value) (a b : Int32) (ws : ai_W) : ai_Run 77 67 ls (.int b :: .int a :: st) ws = if a = b then ai_Run 77 70 ls st ws else ai_Run 77 80 ls st ws := R_cmp_ne hc_77 dX1_setMotive_67 rfl rfl
theorem r_77_70 (l1 l2 l3 l4 : Value) (a : Nat) (st : List Value) (ws : ai_W) : ai_Run 77 70 [.ref a, l1, l2, l3, l4] st ws = ai_Run 77 71 [.ref a, l1, l2, l3, l4] (.ref a :: st) ws := R_aload_n hc_77 dX1_setMotive_70 rfl rfl
theorem r_77_71 (ls st : List Value) (a : Nat) (ws : ai_W) : ai_Run 77 71 ls (.ref a :: st) ws = (ai_fget ws a 1 3).bind fun q => ai_Run 77 74 ls (q :: st) ws := R_getf hc_77 dX1_setMotive_71 hv_77 (w := 576) rfl rfl
theorem r_77_74 (ls st : List Value) (ws : ai_W) : ai_Run 77 74 ls st ws = ai_Run 77 75 ls (.int 5 :: st) ws := R_iconst hc_77 dX1_setMotive_74 (by decide) rfl
theorem r_77_75 (l0 l1 l2 l4 : Value) (a : Int32) (st : List Value) (ws : ai_W) : ai_Run 77 75 [l0, l1, l2, .int a, l4] st ws = ai_Run 77 76 [l0, l1, l2, .int a, l4] (.int a :: st) ws := R_iload_n hc_77 dX1_setMotive_75 rfl rfl
theorem r_77_76 (ls : List Value) (r : Nat) (b0 : Int32) (b1 : Int32) (ws : ai_W) : ai_Run 77 76 ls [.int b1, .int b0, .ref r] ws = (ai_Call 47 [.ref r, .int b0, .int b1] ws).bind fun q => ai_Run 77 79 ls (q.1.toList ++ []) q.2 := R_callV hc_77 dX1_setMotive_76 hv_77 (w := 84) rfl (ai_lt3 hf_47 hf_77 hL_47 ho_47 ho_77 rfl) hk_47 (by rw [hn_47]; rfl) rfl (Nat.le_of_ble_eq_true rfl) rfl
theorem r_77_79 (ls : List Value) (x : Int32) (ws : ai_W) : ai_Run 77 79 ls [.int x] ws = some (some (.int x), ws) := R_iret hc_77 dX1_setMotive_79 ht_77
theorem r_77_80 (l1 l2 l3 l4 : Value) (a : Nat) (st : List Value) (ws : ai_W) : ai_Run 77 80 [.ref a, l1, l2, l3, l4] st ws = ai_Run 77 81 [.ref a, l1, l2, l3, l4] (.ref a :: st) ws := R_aload_n hc_77 dX1_setMotive_80 rfl rfl
theorem r_77_81 (ls st : List Value) (a : Nat) (ws : ai_W) : ai_Run 77 81 ls (.ref a :: st) ws = (ai_fget ws a 1 0).bind fun q => ai_Run 77 84 ls (q :: st) ws := R_getf hc_77 dX1_setMotive_81 hv_77 (w := 573) rfl rfl
theorem r_77_84 (ls st : List Value) (a : Nat) (ws : ai_W) : ai_Run 77 84 ls (.ref a :: st) ws = (ai_fget ws a 0 8).bind fun q => ai_Run 77 87 ls (q :: st) ws := R_getf hc_77 dX1_setMotive_84 hv_77 (w := 490) rfl rfl
theorem r_77_87 (l0 l2 l3 l4 : Value) (a : Int32) (st : List Value) (ws : ai_W) : ai_Run 77 87 [l0, .int a, l2, l3, l4] st ws = ai_Run 77 88 [l0, .int a, l2, l3, l4] (.int a :: st) ws := R_iload_n hc_77 dX1_setMotive_87 rfl rfl
theorem r_77_88 (ls st : List Value) (ws : ai_W) : ai_Run 77 88 ls st ws = ai_Run 77 90 ls (.int 8 :: st) ws := R_bipush hc_77 dX1_setMotive_88 (by decide) rfl
theorem r_77_90 (ls st : List Value) (a b : Int32) (ws : ai_W) : ai_Run 77 90 ls (.int b :: .int a :: st) ws = ai_Run 77 91 ls (.int (a * b) :: st) ws := R_imul hc_77 dX1_setMotive_90 rfl
theorem r_77_91 (l0 l1 l3 l4 : Value) (a : Int32) (st : List Value) (ws : ai_W) : ai_Run 77 91 [l0, l1, .int a, l3, l4] st ws = ai_Run 77 92 [l0, l1, .int a, l3, l4] (.int a :: st) ws := R_iload_n hc_77 dX1_setMotive_91 rfl rfl
theorem r_77_92 (ls st : List Value) (a b : Int32) (ws : ai_W) : ai_Run 77 92 ls (.int b :: .int a :: st) ws = ai_Run 77 93 ls (.int (a + b) :: st) ws := R_iadd hc_77 dX1_setMotive_92 rfl
theorem r_77_93 (l0 l1 l2 l4 : Value) (a : Int32) (st : List Value) (ws : ai_W) : ai_Run 77 93 [l0, l1, l2, .int a, l4] st ws = ai_Run 77 94 [l0, l1, l2, .int a, l4] (.int a :: st) ws := R_iload_n hc_77 dX1_setMotive_93 rfl rfl
theorem r_77_94 (ls : List Value) (r : Nat) (b0 : Int32) (b1 : Int32) (ws : ai_W) : ai_Run 77 94 ls [.int b1, .int b0, .ref r] ws = (ai_Call 29 [.ref r, .int b0, .int b1] ws).bind fun q => ai_Run 77 97 ls (q.1.toList ++ []) q.2 := R_callV hc_77 dX1_setMotive_94 hv_77 (w := 164) rfl (ai_lt3 hf_29 hf_77 hL_29 ho_29 ho_77 rfl) hk_29 (by rw [hn_29]; rfl) rfl (Nat.le_of_ble_eq_true rfl) rfl
theorem r_77_97 (l0 l1 l2 l3 : Value) (a : Int32) (st : List Value) (ws : ai_W) : ai_Run 77 97 [l0, l1, l2, l3, .int a] st ws = ai_Run 77 99 [l0, l1, l2, l3, .int a] (.int a :: st) ws := R_iload hc_77 dX1_setMotive_97 rfl rfl
theorem r_77_99 (ls : List Value) (x : Int32) (ws : ai_W) : ai_Run 77 99 ls [.int x] ws = some (some (.int x), ws) := R_iret hc_77 dX1_setMotive_99 ht_77
theorem dX5_isSeat_0 : decode cX5_isSeat 0 = .ok (.iload_n 0, 1) := by decide +kernel
theorem dX5_isSeat_1 : decode cX5_isSeat 1 = .ok (.ifCond .lt 13, 3) := by decide +kernel
theorem dX5_isSeat_4 : decode cX5_isSeat 4 = .ok (.iload_n 0, 1) := by decide +kernel
theorem dX5_isSeat_5 : decode cX5_isSeat 5 = .ok (.bipush 7, 2) := by decide +kernel
theorem dX5_isSeat_7 : decode cX5_isSeat 7 = .ok (.if_icmp .ge 7, 3) := by decide +kernel
theorem dX5_isSeat_10 : decode cX5_isSeat 10 = .ok (.iconst 1, 1) := by decide +kernel
theorem dX5_isSeat_11 : decode cX5_isSeat 11 = .ok (.goto 4, 3) := by decide +kernel
theorem dX5_isSeat_14 : decode cX5_isSeat 14 = .ok (.iconst 0, 1) := by decide +kernel
theorem dX5_isSeat_15 : decode cX5_isSeat 15 = .ok (.ireturn, 1) := by decide +kernel
theorem e_78 (a0 : Int32) (ws : ai_W) : ai_Call 78 [.int a0] ws = ai_Run 78 0 [.int a0] [] ws := R_entS hk_78 ⟨⟨rfl, rfl⟩, Nat.le_of_ble_eq_true rfl⟩ rfl
theorem r_78_0 (a : Int32) (st : List Value) (ws : ai_W) : ai_Run 78 0 [.int a] st ws = ai_Run 78 1 [.int a] (.int a :: st) ws := R_iload_n hc_78 dX5_isSeat_0 rfl rfl
theorem r_78_1 (ls st : List Value) (a : Int32) (ws : ai_W) : ai_Run 78 1 ls (.int a :: st) ws = if a < 0 then ai_Run 78 14 ls st ws else ai_Run 78 4 ls st ws := R_if_lt hc_78 dX5_isSeat_1 rfl rfl
theorem r_78_4 (a : Int32) (st : List Value) (ws : ai_W) : ai_Run 78 4 [.int a] st ws = ai_Run 78 5 [.int a] (.int a :: st) ws := R_iload_n hc_78 dX5_isSeat_4 rfl rfl
theorem r_78_5 (ls st : List Value) (ws : ai_W) : ai_Run 78 5 ls st ws = ai_Run 78 7 ls (.int 7 :: st) ws := R_bipush hc_78 dX5_isSeat_5 (by decide) rfl
theorem r_78_7 (ls st : List Value) (a b : Int32) (ws : ai_W) : ai_Run 78 7 ls (.int b :: .int a :: st) ws = if a < b then ai_Run 78 10 ls st ws else ai_Run 78 14 ls st ws := R_cmp_ge hc_78 dX5_isSeat_7 rfl rfl
theorem r_78_10 (ls st : List Value) (ws : ai_W) : ai_Run 78 10 ls st ws = ai_Run 78 11 ls (.int 1 :: st) ws := R_iconst hc_78 dX5_isSeat_10 (by decide) rfl
theorem r_78_11 (ls st : List Value) (ws : ai_W) : ai_Run 78 11 ls st ws = ai_Run 78 15 ls st ws := R_goto hc_78 dX5_isSeat_11 rfl
theorem r_78_14 (ls st : List Value) (ws : ai_W) : ai_Run 78 14 ls st ws = ai_Run 78 15 ls (.int 0 :: st) ws := R_iconst hc_78 dX5_isSeat_14 (by decide) rfl
theorem r_78_15 (ls : List Value) (x : Int32) (ws : ai_W) : ai_Run 78 15 ls [.int x] ws = if ai_pb x = true then some (some (.int x), ws) else none := R_zret hc_78 dX5_isSeat_15 ht_78
theorem dX1_letGo_0 : decode cX1_letGo 0 = .ok (.iload_n 1, 1) := by decide +kernel
theorem dX1_letGo_1 : decode cX1_letGo 1 = .ok (.invokestatic 105, 3) := by decide +kernel
theorem dX1_letGo_4 : decode cX1_letGo 4 = .ok (.ifCond .ne 5, 3) := by decide +kernel
theorem dX1_letGo_7 : decode cX1_letGo 7 = .ok (.iconst (-1), 1) := by decide +kernel
theorem dX1_letGo_8 : decode cX1_letGo 8 = .ok (.ireturn, 1) := by decide +kernel
theorem dX1_letGo_9 : decode cX1_letGo 9 = .ok (.aload_n 0, 1) := by decide +kernel
theorem dX1_letGo_10 : decode cX1_letGo 10 = .ok (.getfield 19, 3) := by decide +kernel
theorem dX1_letGo_13 : decode cX1_letGo 13 = .ok (.iload_n 1, 1) := by decide +kernel
theorem dX1_letGo_14 : decode cX1_letGo 14 = .ok (.invokevirtual 113, 3) := by decide +kernel
theorem dX1_letGo_17 : decode cX1_letGo 17 = .ok (.ifCond .ne 14, 3) := by decide +kernel
theorem dX1_letGo_20 : decode cX1_letGo 20 = .ok (.aload_n 0, 1) := by decide +kernel
theorem dX1_letGo_21 : decode cX1_letGo 21 = .ok (.getfield 23, 3) := by decide +kernel
theorem dX1_letGo_24 : decode cX1_letGo 24 = .ok (.bipush 7, 2) := by decide +kernel
theorem dX1_letGo_26 : decode cX1_letGo 26 = .ok (.iload_n 1, 1) := by decide +kernel
theorem dX1_letGo_27 : decode cX1_letGo 27 = .ok (.invokevirtual 33, 3) := by decide +kernel
theorem dX1_letGo_30 : decode cX1_letGo 30 = .ok (.ireturn, 1) := by decide +kernel
theorem dX1_letGo_31 : decode cX1_letGo 31 = .ok (.aload_n 0, 1) := by decide +kernel
theorem dX1_letGo_32 : decode cX1_letGo 32 = .ok (.getfield 9, 3) := by decide +kernel
theorem dX1_letGo_35 : decode cX1_letGo 35 = .ok (.getfield 116, 3) := by decide +kernel
theorem dX1_letGo_38 : decode cX1_letGo 38 = .ok (.iload_n 1, 1) := by decide +kernel
theorem dX1_letGo_39 : decode cX1_letGo 39 = .ok (.iconst 0, 1) := by decide +kernel
theorem dX1_letGo_40 : decode cX1_letGo 40 = .ok (.invokevirtual 86, 3) := by decide +kernel
theorem dX1_letGo_43 : decode cX1_letGo 43 = .ok (.aload_n 0, 1) := by decide +kernel
theorem dX1_letGo_44 : decode cX1_letGo 44 = .ok (.getfield 19, 3) := by decide +kernel
theorem dX1_letGo_47 : decode cX1_letGo 47 = .ok (.invokevirtual 119, 3) := by decide +kernel
theorem dX1_letGo_50 : decode cX1_letGo 50 = .ok (.ireturn, 1) := by decide +kernel
theorem e_79 (r : Nat) (a0 : Int32) (ws : ai_W) : ai_Call 79 [.ref r, .int a0] ws = if ai_isob ws r 1 = true then ai_Run 79 0 [.ref r, .int a0] [] ws else none := R_entV hk_79 ⟨⟨rfl, rfl⟩, Nat.le_of_ble_eq_true rfl⟩ rfl
theorem r_79_0 (l0 : Value) (a : Int32) (st : List Value) (ws : ai_W) : ai_Run 79 0 [l0, .int a] st ws = ai_Run 79 1 [l0, .int a] (.int a :: st) ws := R_iload_n hc_79 dX1_letGo_0 rfl rfl
theorem r_79_1 (ls : List Value) (b0 : Int32) (ws : ai_W) : ai_Run 79 1 ls [.int b0] ws = (ai_Call 78 [.int b0] ws).bind fun q => ai_Run 79 4 ls (q.1.toList ++ []) q.2 := R_callS hc_79 dX1_letGo_1 hv_79 (w := 189) rfl (ai_lt3 hf_78 hf_79 hL_78 ho_78 ho_79 rfl) hk_78 (by rw [hn_78]; rfl) rfl (Nat.le_of_ble_eq_true rfl) rfl
theorem r_79_4 (ls st : List Value) (a : Int32) (ws : ai_W) : ai_Run 79 4 ls (.int a :: st) ws = if a = 0 then ai_Run 79 7 ls st ws else ai_Run 79 9 ls st ws := R_if_ne hc_79 dX1_letGo_4 rfl rfl
theorem r_79_7 (ls st : List Value) (ws : ai_W) : ai_Run 79 7 ls st ws = ai_Run 79 8 ls (.int (-1) :: st) ws := R_iconst hc_79 dX1_letGo_7 (by decide) rfl
theorem r_79_8 (ls : List Value) (x : Int32) (ws : ai_W) : ai_Run 79 8 ls [.int x] ws = some (some (.int x), ws) := R_iret hc_79 dX1_letGo_8 ht_79
theorem r_79_9 (l1 : Value) (a : Nat) (st : List Value) (ws : ai_W) : ai_Run 79 9 [.ref a, l1] st ws = ai_Run 79 10 [.ref a, l1] (.ref a :: st) ws := R_aload_n hc_79 dX1_letGo_9 rfl rfl
theorem r_79_10 (ls st : List Value) (a : Nat) (ws : ai_W) : ai_Run 79 10 ls (.ref a :: st) ws = (ai_fget ws a 1 2).bind fun q => ai_Run 79 13 ls (q :: st) ws := R_getf hc_79 dX1_letGo_10 hv_79 (w := 575) rfl rfl
theorem r_79_13 (l0 : Value) (a : Int32) (st : List Value) (ws : ai_W) : ai_Run 79 13 [l0, .int a] st ws = ai_Run 79 14 [l0, .int a] (.int a :: st) ws := R_iload_n hc_79 dX1_letGo_13 rfl rfl
theorem r_79_14 (ls : List Value) (r : Nat) (b0 : Int32) (ws : ai_W) : ai_Run 79 14 ls [.int b0, .ref r] ws = (ai_Call 21 [.ref r, .int b0] ws).bind fun q => ai_Run 79 17 ls (q.1.toList ++ []) q.2 := R_callV hc_79 dX1_letGo_14 hv_79 (w := 192) rfl (ai_lt3 hf_21 hf_79 hL_21 ho_21 ho_79 rfl) hk_21 (by rw [hn_21]; rfl) rfl (Nat.le_of_ble_eq_true rfl) rfl
theorem r_79_17 (ls st : List Value) (a : Int32) (ws : ai_W) : ai_Run 79 17 ls (.int a :: st) ws = if a = 0 then ai_Run 79 20 ls st ws else ai_Run 79 31 ls st ws := R_if_ne hc_79 dX1_letGo_17 rfl rfl
theorem r_79_20 (l1 : Value) (a : Nat) (st : List Value) (ws : ai_W) : ai_Run 79 20 [.ref a, l1] st ws = ai_Run 79 21 [.ref a, l1] (.ref a :: st) ws := R_aload_n hc_79 dX1_letGo_20 rfl rfl
theorem r_79_21 (ls st : List Value) (a : Nat) (ws : ai_W) : ai_Run 79 21 ls (.ref a :: st) ws = (ai_fget ws a 1 3).bind fun q => ai_Run 79 24 ls (q :: st) ws := R_getf hc_79 dX1_letGo_21 hv_79 (w := 576) rfl rfl
theorem r_79_24 (ls st : List Value) (ws : ai_W) : ai_Run 79 24 ls st ws = ai_Run 79 26 ls (.int 7 :: st) ws := R_bipush hc_79 dX1_letGo_24 (by decide) rfl
theorem r_79_26 (l0 : Value) (a : Int32) (st : List Value) (ws : ai_W) : ai_Run 79 26 [l0, .int a] st ws = ai_Run 79 27 [l0, .int a] (.int a :: st) ws := R_iload_n hc_79 dX1_letGo_26 rfl rfl
theorem r_79_27 (ls : List Value) (r : Nat) (b0 : Int32) (b1 : Int32) (ws : ai_W) : ai_Run 79 27 ls [.int b1, .int b0, .ref r] ws = (ai_Call 47 [.ref r, .int b0, .int b1] ws).bind fun q => ai_Run 79 30 ls (q.1.toList ++ []) q.2 := R_callV hc_79 dX1_letGo_27 hv_79 (w := 84) rfl (ai_lt3 hf_47 hf_79 hL_47 ho_47 ho_79 rfl) hk_47 (by rw [hn_47]; rfl) rfl (Nat.le_of_ble_eq_true rfl) rfl
theorem r_79_30 (ls : List Value) (x : Int32) (ws : ai_W) : ai_Run 79 30 ls [.int x] ws = some (some (.int x), ws) := R_iret hc_79 dX1_letGo_30 ht_79
theorem r_79_31 (l1 : Value) (a : Nat) (st : List Value) (ws : ai_W) : ai_Run 79 31 [.ref a, l1] st ws = ai_Run 79 32 [.ref a, l1] (.ref a :: st) ws := R_aload_n hc_79 dX1_letGo_31 rfl rfl
theorem r_79_32 (ls st : List Value) (a : Nat) (ws : ai_W) : ai_Run 79 32 ls (.ref a :: st) ws = (ai_fget ws a 1 0).bind fun q => ai_Run 79 35 ls (q :: st) ws := R_getf hc_79 dX1_letGo_32 hv_79 (w := 573) rfl rfl
theorem r_79_35 (ls st : List Value) (a : Nat) (ws : ai_W) : ai_Run 79 35 ls (.ref a :: st) ws = (ai_fget ws a 0 9).bind fun q => ai_Run 79 38 ls (q :: st) ws := R_getf hc_79 dX1_letGo_35 hv_79 (w := 493) rfl rfl
theorem r_79_38 (l0 : Value) (a : Int32) (st : List Value) (ws : ai_W) : ai_Run 79 38 [l0, .int a] st ws = ai_Run 79 39 [l0, .int a] (.int a :: st) ws := R_iload_n hc_79 dX1_letGo_38 rfl rfl
theorem r_79_39 (ls st : List Value) (ws : ai_W) : ai_Run 79 39 ls st ws = ai_Run 79 40 ls (.int 0 :: st) ws := R_iconst hc_79 dX1_letGo_39 (by decide) rfl
theorem r_79_40 (ls : List Value) (r : Nat) (b0 : Int32) (b1 : Int32) (ws : ai_W) : ai_Run 79 40 ls [.int b1, .int b0, .ref r] ws = (ai_Call 29 [.ref r, .int b0, .int b1] ws).bind fun q => ai_Run 79 43 ls (q.1.toList ++ []) q.2 := R_callV hc_79 dX1_letGo_40 hv_79 (w := 164) rfl (ai_lt3 hf_29 hf_79 hL_29 ho_29 ho_79 rfl) hk_29 (by rw [hn_29]; rfl) rfl (Nat.le_of_ble_eq_true rfl) rfl
theorem r_79_43 (l1 : Value) (a : Nat) (st : List Value) (ws : ai_W) : ai_Run 79 43 [.ref a, l1] st ws = ai_Run 79 44 [.ref a, l1] (.ref a :: st) ws := R_aload_n hc_79 dX1_letGo_43 rfl rfl
theorem r_79_44 (ls st : List Value) (a : Nat) (ws : ai_W) : ai_Run 79 44 ls (.ref a :: st) ws = (ai_fget ws a 1 2).bind fun q => ai_Run 79 47 ls (q :: st) ws := R_getf hc_79 dX1_letGo_44 hv_79 (w := 575) rfl rfl
theorem r_79_47 (ls : List Value) (r : Nat) (ws : ai_W) : ai_Run 79 47 ls [.ref r] ws = (ai_Call 22 [.ref r] ws).bind fun q => ai_Run 79 50 ls (q.1.toList ++ []) q.2 := R_callV hc_79 dX1_letGo_47 hv_79 (w := 197) rfl (ai_lt3 hf_22 hf_79 hL_22 ho_22 ho_79 rfl) hk_22 (by rw [hn_22]; rfl) rfl (Nat.le_of_ble_eq_true rfl) rfl
theorem r_79_50 (ls : List Value) (x : Int32) (ws : ai_W) : ai_Run 79 50 ls [.int x] ws = some (some (.int x), ws) := R_iret hc_79 dX1_letGo_50 ht_79
theorem dX5_isSeverity_0 : decode cX5_isSeverity 0 = .ok (.iload_n 0, 1) := by decide +kernel
theorem dX5_isSeverity_1 : decode cX5_isSeverity 1 = .ok (.iconst 1, 1) := by decide +kernel
theorem dX5_isSeverity_2 : decode cX5_isSeverity 2 = .ok (.if_icmp .lt 13, 3) := by decide +kernel
theorem dX5_isSeverity_5 : decode cX5_isSeverity 5 = .ok (.iload_n 0, 1) := by decide +kernel
theorem dX5_isSeverity_6 : decode cX5_isSeverity 6 = .ok (.bipush 9, 2) := by decide +kernel
theorem dX5_isSeverity_8 : decode cX5_isSeverity 8 = .ok (.if_icmp .gt 7, 3) := by decide +kernel
theorem dX5_isSeverity_11 : decode cX5_isSeverity 11 = .ok (.iconst 1, 1) := by decide +kernel
theorem dX5_isSeverity_12 : decode cX5_isSeverity 12 = .ok (.goto 4, 3) := by decide +kernel
theorem dX5_isSeverity_15 : decode cX5_isSeverity 15 = .ok (.iconst 0, 1) := by decide +kernel
theorem dX5_isSeverity_16 : decode cX5_isSeverity 16 = .ok (.ireturn, 1) := by decide +kernel
theorem e_80 (a0 : Int32) (ws : ai_W) : ai_Call 80 [.int a0] ws = ai_Run 80 0 [.int a0] [] ws := R_entS hk_80 ⟨⟨rfl, rfl⟩, Nat.le_of_ble_eq_true rfl⟩ rfl
theorem r_80_0 (a : Int32) (st : List Value) (ws : ai_W) : ai_Run 80 0 [.int a] st ws = ai_Run 80 1 [.int a] (.int a :: st) ws := R_iload_n hc_80 dX5_isSeverity_0 rfl rfl
theorem r_80_1 (ls st : List Value) (ws : ai_W) : ai_Run 80 1 ls st ws = ai_Run 80 2 ls (.int 1 :: st) ws := R_iconst hc_80 dX5_isSeverity_1 (by decide) rfl
theorem r_80_2 (ls st : List Value) (a b : Int32) (ws : ai_W) : ai_Run 80 2 ls (.int b :: .int a :: st) ws = if a < b then ai_Run 80 15 ls st ws else ai_Run 80 5 ls st ws := R_cmp_lt hc_80 dX5_isSeverity_2 rfl rfl
theorem r_80_5 (a : Int32) (st : List Value) (ws : ai_W) : ai_Run 80 5 [.int a] st ws = ai_Run 80 6 [.int a] (.int a :: st) ws := R_iload_n hc_80 dX5_isSeverity_5 rfl rfl
theorem r_80_6 (ls st : List Value) (ws : ai_W) : ai_Run 80 6 ls st ws = ai_Run 80 8 ls (.int 9 :: st) ws := R_bipush hc_80 dX5_isSeverity_6 (by decide) rfl
theorem r_80_8 (ls st : List Value) (a b : Int32) (ws : ai_W) : ai_Run 80 8 ls (.int b :: .int a :: st) ws = if b < a then ai_Run 80 15 ls st ws else ai_Run 80 11 ls st ws := R_cmp_gt hc_80 dX5_isSeverity_8 rfl rfl
theorem r_80_11 (ls st : List Value) (ws : ai_W) : ai_Run 80 11 ls st ws = ai_Run 80 12 ls (.int 1 :: st) ws := R_iconst hc_80 dX5_isSeverity_11 (by decide) rfl
theorem r_80_12 (ls st : List Value) (ws : ai_W) : ai_Run 80 12 ls st ws = ai_Run 80 16 ls st ws := R_goto hc_80 dX5_isSeverity_12 rfl
theorem r_80_15 (ls st : List Value) (ws : ai_W) : ai_Run 80 15 ls st ws = ai_Run 80 16 ls (.int 0 :: st) ws := R_iconst hc_80 dX5_isSeverity_15 (by decide) rfl
theorem r_80_16 (ls : List Value) (x : Int32) (ws : ai_W) : ai_Run 80 16 ls [.int x] ws = if ai_pb x = true then some (some (.int x), ws) else none := R_zret hc_80 dX5_isSeverity_16 ht_80
theorem dX1_seatReader_0 : decode cX1_seatReader 0 = .ok (.iload_n 1, 1) := by decide +kernel
theorem dX1_seatReader_1 : decode cX1_seatReader 1 = .ok (.invokestatic 105, 3) := by decide +kernel
theorem dX1_seatReader_4 : decode cX1_seatReader 4 = .ok (.ifCond .ne 5, 3) := by decide +kernel
theorem dX1_seatReader_7 : decode cX1_seatReader 7 = .ok (.iconst (-1), 1) := by decide +kernel
theorem dX1_seatReader_8 : decode cX1_seatReader 8 = .ok (.ireturn, 1) := by decide +kernel
theorem dX1_seatReader_9 : decode cX1_seatReader 9 = .ok (.iload_n 2, 1) := by decide +kernel
theorem dX1_seatReader_10 : decode cX1_seatReader 10 = .ok (.invokestatic 110, 3) := by decide +kernel
theorem dX1_seatReader_13 : decode cX1_seatReader 13 = .ok (.ifCond .ne 6, 3) := by decide +kernel
theorem dX1_seatReader_16 : decode cX1_seatReader 16 = .ok (.bipush (-2), 2) := by decide +kernel
theorem dX1_seatReader_18 : decode cX1_seatReader 18 = .ok (.ireturn, 1) := by decide +kernel
theorem dX1_seatReader_19 : decode cX1_seatReader 19 = .ok (.aload_n 0, 1) := by decide +kernel
theorem dX1_seatReader_20 : decode cX1_seatReader 20 = .ok (.getfield 19, 3) := by decide +kernel
theorem dX1_seatReader_23 : decode cX1_seatReader 23 = .ok (.iload_n 1, 1) := by decide +kernel
theorem dX1_seatReader_24 : decode cX1_seatReader 24 = .ok (.invokevirtual 113, 3) := by decide +kernel
theorem dX1_seatReader_27 : decode cX1_seatReader 27 = .ok (.ifCond .eq 14, 3) := by decide +kernel
theorem dX1_seatReader_30 : decode cX1_seatReader 30 = .ok (.aload_n 0, 1) := by decide +kernel
theorem dX1_seatReader_31 : decode cX1_seatReader 31 = .ok (.getfield 23, 3) := by decide +kernel
theorem dX1_seatReader_34 : decode cX1_seatReader 34 = .ok (.bipush 7, 2) := by decide +kernel
theorem dX1_seatReader_36 : decode cX1_seatReader 36 = .ok (.iload_n 1, 1) := by decide +kernel
theorem dX1_seatReader_37 : decode cX1_seatReader 37 = .ok (.invokevirtual 33, 3) := by decide +kernel
theorem dX1_seatReader_40 : decode cX1_seatReader 40 = .ok (.ireturn, 1) := by decide +kernel
theorem dX1_seatReader_41 : decode cX1_seatReader 41 = .ok (.aload_n 0, 1) := by decide +kernel
theorem dX1_seatReader_42 : decode cX1_seatReader 42 = .ok (.getfield 9, 3) := by decide +kernel
theorem dX1_seatReader_45 : decode cX1_seatReader 45 = .ok (.getfield 116, 3) := by decide +kernel
theorem dX1_seatReader_48 : decode cX1_seatReader 48 = .ok (.iload_n 1, 1) := by decide +kernel
theorem dX1_seatReader_49 : decode cX1_seatReader 49 = .ok (.iload_n 2, 1) := by decide +kernel
theorem dX1_seatReader_50 : decode cX1_seatReader 50 = .ok (.invokevirtual 86, 3) := by decide +kernel
theorem dX1_seatReader_53 : decode cX1_seatReader 53 = .ok (.aload_n 0, 1) := by decide +kernel
theorem dX1_seatReader_54 : decode cX1_seatReader 54 = .ok (.getfield 19, 3) := by decide +kernel
theorem dX1_seatReader_57 : decode cX1_seatReader 57 = .ok (.invokevirtual 119, 3) := by decide +kernel
theorem dX1_seatReader_60 : decode cX1_seatReader 60 = .ok (.ireturn, 1) := by decide +kernel
theorem e_81 (r : Nat) (a0 : Int32) (a1 : Int32) (ws : ai_W) : ai_Call 81 [.ref r, .int a0, .int a1] ws = if ai_isob ws r 1 = true then ai_Run 81 0 [.ref r, .int a0, .int a1] [] ws else none := R_entV hk_81 ⟨⟨rfl, rfl⟩, Nat.le_of_ble_eq_true rfl⟩ rfl
theorem r_81_0 (l0 l2 : Value) (a : Int32) (st : List Value) (ws : ai_W) : ai_Run 81 0 [l0, .int a, l2] st ws = ai_Run 81 1 [l0, .int a, l2] (.int a :: st) ws := R_iload_n hc_81 dX1_seatReader_0 rfl rfl
theorem r_81_1 (ls : List Value) (b0 : Int32) (ws : ai_W) : ai_Run 81 1 ls [.int b0] ws = (ai_Call 78 [.int b0] ws).bind fun q => ai_Run 81 4 ls (q.1.toList ++ []) q.2 := R_callS hc_81 dX1_seatReader_1 hv_81 (w := 189) rfl (ai_lt3 hf_78 hf_81 hL_78 ho_78 ho_81 rfl) hk_78 (by rw [hn_78]; rfl) rfl (Nat.le_of_ble_eq_true rfl) rfl
theorem r_81_4 (ls st : List Value) (a : Int32) (ws : ai_W) : ai_Run 81 4 ls (.int a :: st) ws = if a = 0 then ai_Run 81 7 ls st ws else ai_Run 81 9 ls st ws := R_if_ne hc_81 dX1_seatReader_4 rfl rfl
theorem r_81_7 (ls st : List Value) (ws : ai_W) : ai_Run 81 7 ls st ws = ai_Run 81 8 ls (.int (-1) :: st) ws := R_iconst hc_81 dX1_seatReader_7 (by decide) rfl
theorem r_81_8 (ls : List Value) (x : Int32) (ws : ai_W) : ai_Run 81 8 ls [.int x] ws = some (some (.int x), ws) := R_iret hc_81 dX1_seatReader_8 ht_81
theorem r_81_9 (l0 l1 : Value) (a : Int32) (st : List Value) (ws : ai_W) : ai_Run 81 9 [l0, l1, .int a] st ws = ai_Run 81 10 [l0, l1, .int a] (.int a :: st) ws := R_iload_n hc_81 dX1_seatReader_9 rfl rfl
theorem r_81_10 (ls : List Value) (b0 : Int32) (ws : ai_W) : ai_Run 81 10 ls [.int b0] ws = (ai_Call 80 [.int b0] ws).bind fun q => ai_Run 81 13 ls (q.1.toList ++ []) q.2 := R_callS hc_81 dX1_seatReader_10 hv_81 (w := 715) rfl (ai_lt3 hf_80 hf_81 hL_80 ho_80 ho_81 rfl) hk_80 (by rw [hn_80]; rfl) rfl (Nat.le_of_ble_eq_true rfl) rfl
theorem r_81_13 (ls st : List Value) (a : Int32) (ws : ai_W) : ai_Run 81 13 ls (.int a :: st) ws = if a = 0 then ai_Run 81 16 ls st ws else ai_Run 81 19 ls st ws := R_if_ne hc_81 dX1_seatReader_13 rfl rfl
theorem r_81_16 (ls st : List Value) (ws : ai_W) : ai_Run 81 16 ls st ws = ai_Run 81 18 ls (.int (-2) :: st) ws := R_bipush hc_81 dX1_seatReader_16 (by decide) rfl
theorem r_81_18 (ls : List Value) (x : Int32) (ws : ai_W) : ai_Run 81 18 ls [.int x] ws = some (some (.int x), ws) := R_iret hc_81 dX1_seatReader_18 ht_81
theorem r_81_19 (l1 l2 : Value) (a : Nat) (st : List Value) (ws : ai_W) : ai_Run 81 19 [.ref a, l1, l2] st ws = ai_Run 81 20 [.ref a, l1, l2] (.ref a :: st) ws := R_aload_n hc_81 dX1_seatReader_19 rfl rfl
theorem r_81_20 (ls st : List Value) (a : Nat) (ws : ai_W) : ai_Run 81 20 ls (.ref a :: st) ws = (ai_fget ws a 1 2).bind fun q => ai_Run 81 23 ls (q :: st) ws := R_getf hc_81 dX1_seatReader_20 hv_81 (w := 575) rfl rfl
theorem r_81_23 (l0 l2 : Value) (a : Int32) (st : List Value) (ws : ai_W) : ai_Run 81 23 [l0, .int a, l2] st ws = ai_Run 81 24 [l0, .int a, l2] (.int a :: st) ws := R_iload_n hc_81 dX1_seatReader_23 rfl rfl
theorem r_81_24 (ls : List Value) (r : Nat) (b0 : Int32) (ws : ai_W) : ai_Run 81 24 ls [.int b0, .ref r] ws = (ai_Call 21 [.ref r, .int b0] ws).bind fun q => ai_Run 81 27 ls (q.1.toList ++ []) q.2 := R_callV hc_81 dX1_seatReader_24 hv_81 (w := 192) rfl (ai_lt3 hf_21 hf_81 hL_21 ho_21 ho_81 rfl) hk_21 (by rw [hn_21]; rfl) rfl (Nat.le_of_ble_eq_true rfl) rfl
theorem r_81_27 (ls st : List Value) (a : Int32) (ws : ai_W) : ai_Run 81 27 ls (.int a :: st) ws = if a = 0 then ai_Run 81 41 ls st ws else ai_Run 81 30 ls st ws := R_if_eq hc_81 dX1_seatReader_27 rfl rfl
theorem r_81_30 (l1 l2 : Value) (a : Nat) (st : List Value) (ws : ai_W) : ai_Run 81 30 [.ref a, l1, l2] st ws = ai_Run 81 31 [.ref a, l1, l2] (.ref a :: st) ws := R_aload_n hc_81 dX1_seatReader_30 rfl rfl
theorem r_81_31 (ls st : List Value) (a : Nat) (ws : ai_W) : ai_Run 81 31 ls (.ref a :: st) ws = (ai_fget ws a 1 3).bind fun q => ai_Run 81 34 ls (q :: st) ws := R_getf hc_81 dX1_seatReader_31 hv_81 (w := 576) rfl rfl
theorem r_81_34 (ls st : List Value) (ws : ai_W) : ai_Run 81 34 ls st ws = ai_Run 81 36 ls (.int 7 :: st) ws := R_bipush hc_81 dX1_seatReader_34 (by decide) rfl
theorem r_81_36 (l0 l2 : Value) (a : Int32) (st : List Value) (ws : ai_W) : ai_Run 81 36 [l0, .int a, l2] st ws = ai_Run 81 37 [l0, .int a, l2] (.int a :: st) ws := R_iload_n hc_81 dX1_seatReader_36 rfl rfl
theorem r_81_37 (ls : List Value) (r : Nat) (b0 : Int32) (b1 : Int32) (ws : ai_W) : ai_Run 81 37 ls [.int b1, .int b0, .ref r] ws = (ai_Call 47 [.ref r, .int b0, .int b1] ws).bind fun q => ai_Run 81 40 ls (q.1.toList ++ []) q.2 := R_callV hc_81 dX1_seatReader_37 hv_81 (w := 84) rfl (ai_lt3 hf_47 hf_81 hL_47 ho_47 ho_81 rfl) hk_47 (by rw [hn_47]; rfl) rfl (Nat.le_of_ble_eq_true rfl) rfl
theorem r_81_40 (ls : List Value) (x : Int32) (ws : ai_W) : ai_Run 81 40 ls [.int x] ws = some (some (.int x), ws) := R_iret hc_81 dX1_seatReader_40 ht_81
theorem r_81_41 (l1 l2 : Value) (a : Nat) (st : List Value) (ws : ai_W) : ai_Run 81 41 [.ref a, l1, l2] st ws = ai_Run 81 42 [.ref a, l1, l2] (.ref a :: st) ws := R_aload_n hc_81 dX1_seatReader_41 rfl rfl
theorem r_81_42 (ls st : List Value) (a : Nat) (ws : ai_W) : ai_Run 81 42 ls (.ref a :: st) ws = (ai_fget ws a 1 0).bind fun q => ai_Run 81 45 ls (q :: st) ws := R_getf hc_81 dX1_seatReader_42 hv_81 (w := 573) rfl rfl
theorem r_81_45 (ls st : List Value) (a : Nat) (ws : ai_W) : ai_Run 81 45 ls (.ref a :: st) ws = (ai_fget ws a 0 9).bind fun q => ai_Run 81 48 ls (q :: st) ws := R_getf hc_81 dX1_seatReader_45 hv_81 (w := 493) rfl rfl
theorem r_81_48 (l0 l2 : Value) (a : Int32) (st : List Value) (ws : ai_W) : ai_Run 81 48 [l0, .int a, l2] st ws = ai_Run 81 49 [l0, .int a, l2] (.int a :: st) ws := R_iload_n hc_81 dX1_seatReader_48 rfl rfl
theorem r_81_49 (l0 l1 : Value) (a : Int32) (st : List Value) (ws : ai_W) : ai_Run 81 49 [l0, l1, .int a] st ws = ai_Run 81 50 [l0, l1, .int a] (.int a :: st) ws := R_iload_n hc_81 dX1_seatReader_49 rfl rfl
theorem r_81_50 (ls : List Value) (r : Nat) (b0 : Int32) (b1 : Int32) (ws : ai_W) : ai_Run 81 50 ls [.int b1, .int b0, .ref r] ws = (ai_Call 29 [.ref r, .int b0, .int b1] ws).bind fun q => ai_Run 81 53 ls (q.1.toList ++ []) q.2 := R_callV hc_81 dX1_seatReader_50 hv_81 (w := 164) rfl (ai_lt3 hf_29 hf_81 hL_29 ho_29 ho_81 rfl) hk_29 (by rw [hn_29]; rfl) rfl (Nat.le_of_ble_eq_true rfl) rfl
theorem r_81_53 (l1 l2 : Value) (a : Nat) (st : List Value) (ws : ai_W) : ai_Run 81 53 [.ref a, l1, l2] st ws = ai_Run 81 54 [.ref a, l1, l2] (.ref a :: st) ws := R_aload_n hc_81 dX1_seatReader_53 rfl rfl
theorem r_81_54 (ls st : List Value) (a : Nat) (ws : ai_W) : ai_Run 81 54 ls (.ref a :: st) ws = (ai_fget ws a 1 2).bind fun q => ai_Run 81 57 ls (q :: st) ws := R_getf hc_81 dX1_seatReader_54 hv_81 (w := 575) rfl rfl
theorem r_81_57 (ls : List Value) (r : Nat) (ws : ai_W) : ai_Run 81 57 ls [.ref r] ws = (ai_Call 22 [.ref r] ws).bind fun q => ai_Run 81 60 ls (q.1.toList ++ []) q.2 := R_callV hc_81 dX1_seatReader_57 hv_81 (w := 197) rfl (ai_lt3 hf_22 hf_81 hL_22 ho_22 ho_81 rfl) hk_22 (by rw [hn_22]; rfl) rfl (Nat.le_of_ble_eq_true rfl) rfl
theorem r_81_60 (ls : List Value) (x : Int32) (ws : ai_W) : ai_Run 81 60 ls [.int x] ws = some (some (.int x), ws) := R_iret hc_81 dX1_seatReader_60 ht_81
theorem dX0_isDeath_0 : decode cX0_isDeath 0 = .ok (.iload_n 2, 1) := by decide +kernel
theorem dX0_isDeath_1 : decode cX0_isDeath 1 = .ok (.ifCond .lt 16, 3) := by decide +kernel
theorem dX0_isDeath_4 : decode cX0_isDeath 4 = .ok (.iload_n 2, 1) := by decide +kernel
theorem dX0_isDeath_5 : decode cX0_isDeath 5 = .ok (.aload_n 0, 1) := by decide +kernel
theorem dX0_isDeath_6 : decode cX0_isDeath 6 = .ok (.iload_n 1, 1) := by decide +kernel
theorem dX0_isDeath_7 : decode cX0_isDeath 7 = .ok (.invokevirtual 45, 3) := by decide +kernel
theorem dX0_isDeath_10 : decode cX0_isDeath 10 = .ok (.if_icmp .ge 7, 3) := by decide +kernel
theorem dX0_isDeath_13 : decode cX0_isDeath 13 = .ok (.iconst 1, 1) := by decide +kernel
theorem dX0_isDeath_14 : decode cX0_isDeath 14 = .ok (.goto 4, 3) := by decide +kernel
theorem dX0_isDeath_17 : decode cX0_isDeath 17 = .ok (.iconst 0, 1) := by decide +kernel
theorem dX0_isDeath_18 : decode cX0_isDeath 18 = .ok (.ireturn, 1) := by decide +kernel
theorem e_82 (r : Nat) (a0 : Int32) (a1 : Int32) (ws : ai_W) : ai_Call 82 [.ref r, .int a0, .int a1] ws = if ai_isob ws r 0 = true then ai_Run 82 0 [.ref r, .int a0, .int a1] [] ws else none := R_entV hk_82 ⟨⟨rfl, rfl⟩, Nat.le_of_ble_eq_true rfl⟩ rfl
theorem r_82_0 (l0 l1 : Value) (a : Int32) (st : List Value) (ws : ai_W) : ai_Run 82 0 [l0, l1, .int a] st ws = ai_Run 82 1 [l0, l1, .int a] (.int a :: st) ws := R_iload_n hc_82 dX0_isDeath_0 rfl rfl
theorem r_82_1 (ls st : List Value) (a : Int32) (ws : ai_W) : ai_Run 82 1 ls (.int a :: st) ws = if a < 0 then ai_Run 82 17 ls st ws else ai_Run 82 4 ls st ws := R_if_lt hc_82 dX0_isDeath_1 rfl rfl
theorem r_82_4 (l0 l1 : Value) (a : Int32) (st : List Value) (ws : ai_W) : ai_Run 82 4 [l0, l1, .int a] st ws = ai_Run 82 5 [l0, l1, .int a] (.int a :: st) ws := R_iload_n hc_82 dX0_isDeath_4 rfl rfl
theorem r_82_5 (l1 l2 : Value) (a : Nat) (st : List Value) (ws : ai_W) : ai_Run 82 5 [.ref a, l1, l2] st ws = ai_Run 82 6 [.ref a, l1, l2] (.ref a :: st) ws := R_aload_n hc_82 dX0_isDeath_5 rfl rfl
theorem r_82_6 (l0 l2 : Value) (a : Int32) (st : List Value) (ws : ai_W) : ai_Run 82 6 [l0, .int a, l2] st ws = ai_Run 82 7 [l0, .int a, l2] (.int a :: st) ws := R_iload_n hc_82 dX0_isDeath_6 rfl rfl
theorem r_82_7 (ls : List Value) (r : Nat) (b0 : Int32) (s0 : Value) (ws : ai_W) : ai_Run 82 7 ls [.int b0, .ref r, s0] ws = (ai_Call 13 [.ref r, .int b0] ws).bind fun q => ai_Run 82 10 ls (q.1.toList ++ [s0]) q.2 := R_callV hc_82 dX0_isDeath_7 hv_82 (w := 215) rfl (ai_lt3 hf_13 hf_82 hL_13 ho_13 ho_82 rfl) hk_13 (by rw [hn_13]; rfl) rfl (Nat.le_of_ble_eq_true rfl) rfl
theorem r_82_10 (ls st : List Value) (a b : Int32) (ws : ai_W) : ai_Run 82 10 ls (.int b :: .int a :: st) ws = if a < b then ai_Run 82 13 ls st ws else ai_Run 82 17 ls st ws := R_cmp_ge hc_82 dX0_isDeath_10 rfl rfl
theorem r_82_13 (ls st : List Value) (ws : ai_W) : ai_Run 82 13 ls st ws = ai_Run 82 14 ls (.int 1 :: st) ws := R_iconst hc_82 dX0_isDeath_13 (by decide) rfl
theorem r_82_14 (ls st : List Value) (ws : ai_W) : ai_Run 82 14 ls st ws = ai_Run 82 18 ls st ws := R_goto hc_82 dX0_isDeath_14 rfl
theorem r_82_17 (ls st : List Value) (ws : ai_W) : ai_Run 82 17 ls st ws = ai_Run 82 18 ls (.int 0 :: st) ws := R_iconst hc_82 dX0_isDeath_17 (by decide) rfl
theorem r_82_18 (ls : List Value) (x : Int32) (ws : ai_W) : ai_Run 82 18 ls [.int x] ws = if ai_pb x = true then some (some (.int x), ws) else none := R_zret hc_82 dX0_isDeath_18 ht_82
theorem dX0_isCase_0 : decode cX0_isCase 0 = .ok (.aload_n 0, 1) := by decide +kernel
theorem dX0_isCase_1 : decode cX0_isCase 1 = .ok (.iload_n 1, 1) := by decide +kernel
theorem dX0_isCase_2 : decode cX0_isCase 2 = .ok (.invokevirtual 49, 3) := by decide +kernel
theorem dX0_isCase_5 : decode cX0_isCase 5 = .ok (.ifCond .eq 24, 3) := by decide +kernel
theorem dX0_isCase_8 : decode cX0_isCase 8 = .ok (.aload_n 0, 1) := by decide +kernel
theorem dX0_isCase_9 : decode cX0_isCase 9 = .ok (.iload_n 2, 1) := by decide +kernel
theorem dX0_isCase_10 : decode cX0_isCase 10 = .ok (.invokevirtual 49, 3) := by decide +kernel
theorem dX0_isCase_13 : decode cX0_isCase 13 = .ok (.ifCond .eq 16, 3) := by decide +kernel
theorem dX0_isCase_16 : decode cX0_isCase 16 = .ok (.aload_n 0, 1) := by decide +kernel
theorem dX0_isCase_17 : decode cX0_isCase 17 = .ok (.iload_n 2, 1) := by decide +kernel
theorem dX0_isCase_18 : decode cX0_isCase 18 = .ok (.iload_n 3, 1) := by decide +kernel
theorem dX0_isCase_19 : decode cX0_isCase 19 = .ok (.invokevirtual 53, 3) := by decide +kernel
theorem dX0_isCase_22 : decode cX0_isCase 22 = .ok (.ifCond .eq 7, 3) := by decide +kernel
theorem dX0_isCase_25 : decode cX0_isCase 25 = .ok (.iconst 1, 1) := by decide +kernel
theorem dX0_isCase_26 : decode cX0_isCase 26 = .ok (.goto 4, 3) := by decide +kernel
theorem dX0_isCase_29 : decode cX0_isCase 29 = .ok (.iconst 0, 1) := by decide +kernel
theorem dX0_isCase_30 : decode cX0_isCase 30 = .ok (.ireturn, 1) := by decide +kernel
theorem e_83 (r : Nat) (a0 : Int32) (a1 : Int32) (a2 : Int32) (ws : ai_W) : ai_Call 83 [.ref r, .int a0, .int a1, .int a2] ws = if ai_isob ws r 0 = true then ai_Run 83 0 [.ref r, .int a0, .int a1, .int a2] [] ws else none := R_entV hk_83 ⟨⟨rfl, rfl⟩, Nat.le_of_ble_eq_true rfl⟩ rfl
theorem r_83_0 (l1 l2 l3 : Value) (a : Nat) (st : List Value) (ws : ai_W) : ai_Run 83 0 [.ref a, l1, l2, l3] st ws = ai_Run 83 1 [.ref a, l1, l2, l3] (.ref a :: st) ws := R_aload_n hc_83 dX0_isCase_0 rfl rfl
theorem r_83_1 (l0 l2 l3 : Value) (a : Int32) (st : List Value) (ws : ai_W) : ai_Run 83 1 [l0, .int a, l2, l3] st ws = ai_Run 83 2 [l0, .int a, l2, l3] (.int a :: st) ws := R_iload_n hc_83 dX0_isCase_1 rfl rfl
theorem r_83_2 (ls : List Value) (r : Nat) (b0 : Int32) (ws : ai_W) : ai_Run 83 2 ls [.int b0, .ref r] ws = (ai_Call 62 [.ref r, .int b0] ws).bind fun q => ai_Run 83 5 ls (q.1.toList ++ []) q.2 := R_callV hc_83 dX0_isCase_2 hv_83 (w := 210) rfl (ai_lt3 hf_62 hf_83 hL_62 ho_62 ho_83 rfl) hk_62 (by rw [hn_62]; rfl) rfl (Nat.le_of_ble_eq_true rfl) rfl
theorem r_83_5 (ls st : List Value) (a : Int32) (ws : ai_W) : ai_Run 83 5 ls (.int a :: st) ws = if a = 0 then ai_Run 83 29 ls st ws else ai_Run 83 8 ls st ws := R_if_eq hc_83 dX0_isCase_5 rfl rfl
theorem r_83_8 (l1 l2 l3 : Value) (a : Nat) (st : List Value) (ws : ai_W) : ai_Run 83 8 [.ref a, l1, l2, l3] st ws = ai_Run 83 9 [.ref a, l1, l2, l3] (.ref a :: st) ws := R_aload_n hc_83 dX0_isCase_8 rfl rfl
theorem r_83_9 (l0 l1 l3 : Value) (a : Int32) (st : List Value) (ws : ai_W) : ai_Run 83 9 [l0, l1, .int a, l3] st ws = ai_Run 83 10 [l0, l1, .int a, l3] (.int a :: st) ws := R_iload_n hc_83 dX0_isCase_9 rfl rfl
theorem r_83_10 (ls : List Value) (r : Nat) (b0 : Int32) (ws : ai_W) : ai_Run 83 10 ls [.int b0, .ref r] ws = (ai_Call 62 [.ref r, .int b0] ws).bind fun q => ai_Run 83 13 ls (q.1.toList ++ []) q.2 := R_callV hc_83 dX0_isCase_10 hv_83 (w := 210) rfl (ai_lt3 hf_62 hf_83 hL_62 ho_62 ho_83 rfl) hk_62 (by rw [hn_62]; rfl) rfl (Nat.le_of_ble_eq_true rfl) rfl
theorem r_83_13 (ls st : List Value) (a : Int32) (ws : ai_W) : ai_Run 83 13 ls (.int a :: st) ws = if a = 0 then ai_Run 83 29 ls st ws else ai_Run 83 16 ls st ws := R_if_eq hc_83 dX0_isCase_13 rfl rfl
theorem r_83_16 (l1 l2 l3 : Value) (a : Nat) (st : List Value) (ws : ai_W) : ai_Run 83 16 [.ref a, l1, l2, l3] st ws = ai_Run 83 17 [.ref a, l1, l2, l3] (.ref a :: st) ws := R_aload_n hc_83 dX0_isCase_16 rfl rfl
theorem r_83_17 (l0 l1 l3 : Value) (a : Int32) (st : List Value) (ws : ai_W) : ai_Run 83 17 [l0, l1, .int a, l3] st ws = ai_Run 83 18 [l0, l1, .int a, l3] (.int a :: st) ws := R_iload_n hc_83 dX0_isCase_17 rfl rfl
theorem r_83_18 (l0 l1 l2 : Value) (a : Int32) (st : List Value) (ws : ai_W) : ai_Run 83 18 [l0, l1, l2, .int a] st ws = ai_Run 83 19 [l0, l1, l2, .int a] (.int a :: st) ws := R_iload_n hc_83 dX0_isCase_18 rfl rfl
theorem r_83_19 (ls : List Value) (r : Nat) (b0 : Int32) (b1 : Int32) (ws : ai_W) : ai_Run 83 19 ls [.int b1, .int b0, .ref r] ws = (ai_Call 82 [.ref r, .int b0, .int b1] ws).bind fun q => ai_Run 83 22 ls (q.1.toList ++ []) q.2 := R_callV hc_83 dX0_isCase_19 hv_83 (w := 211) rfl (ai_lt3 hf_82 hf_83 hL_82 ho_82 ho_83 rfl) hk_82 (by rw [hn_82]; rfl) rfl (Nat.le_of_ble_eq_true rfl) rfl
theorem r_83_22 (ls st : List Value) (a : Int32) (ws : ai_W) : ai_Run 83 22 ls (.int a :: st) ws = if a = 0 then ai_Run 83 29 ls st ws else ai_Run 83 25 ls st ws := R_if_eq hc_83 dX0_isCase_22 rfl rfl
theorem r_83_25 (ls st : List Value) (ws : ai_W) : ai_Run 83 25 ls st ws = ai_Run 83 26 ls (.int 1 :: st) ws := R_iconst hc_83 dX0_isCase_25 (by decide) rfl
theorem r_83_26 (ls st : List Value) (ws : ai_W) : ai_Run 83 26 ls st ws = ai_Run 83 30 ls st ws := R_goto hc_83 dX0_isCase_26 rfl
theorem r_83_29 (ls st : List Value) (ws : ai_W) : ai_Run 83 29 ls st ws = ai_Run 83 30 ls (.int 0 :: st) ws := R_iconst hc_83 dX0_isCase_29 (by decide) rfl
theorem r_83_30 (ls : List Value) (x : Int32) (ws : ai_W) : ai_Run 83 30 ls [.int x] ws = if ai_pb x = true then some (some (.int x), ws) else none := R_zret hc_83 dX0_isCase_30 ht_83
theorem dX4_isDeadIn_0 : decode cX4_isDeadIn 0 = .ok (.iconst (-1), 1) := by decide +kernel
theorem dX4_isDeadIn_1 : decode cX4_isDeadIn 1 = .ok (.istore_n 3, 1) := by decide +kernel
theorem dX4_isDeadIn_2 : decode cX4_isDeadIn 2 = .ok (.iload_n 1, 1) := by decide +kernel
theorem dX4_isDeadIn_3 : decode cX4_isDeadIn 3 = .ok (.bipush 6, 2) := by decide +kernel
theorem dX4_isDeadIn_5 : decode cX4_isDeadIn 5 = .ok (.imul, 1) := by decide +kernel
theorem dX4_isDeadIn_6 : decode cX4_isDeadIn 6 = .ok (.istore 4, 2) := by decide +kernel
theorem dX4_isDeadIn_8 : decode cX4_isDeadIn 8 = .ok (.iconst 0, 1) := by decide +kernel
theorem dX4_isDeadIn_9 : decode cX4_isDeadIn 9 = .ok (.istore 5, 2) := by decide +kernel
theorem dX4_isDeadIn_11 : decode cX4_isDeadIn 11 = .ok (.iload 5, 2) := by decide +kernel
theorem dX4_isDeadIn_13 : decode cX4_isDeadIn 13 = .ok (.aload_n 0, 1) := by decide +kernel
theorem dX4_isDeadIn_14 : decode cX4_isDeadIn 14 = .ok (.getfield 9, 3) := by decide +kernel
theorem dX4_isDeadIn_17 : decode cX4_isDeadIn 17 = .ok (.getfield 15, 3) := by decide +kernel
theorem dX4_isDeadIn_20 : decode cX4_isDeadIn 20 = .ok (.iload_n 1, 1) := by decide +kernel
theorem dX4_isDeadIn_21 : decode cX4_isDeadIn 21 = .ok (.invokevirtual 21, 3) := by decide +kernel
theorem dX4_isDeadIn_24 : decode cX4_isDeadIn 24 = .ok (.if_icmp .ge 31, 3) := by decide +kernel
theorem dX4_isDeadIn_27 : decode cX4_isDeadIn 27 = .ok (.aload_n 0, 1) := by decide +kernel
theorem dX4_isDeadIn_28 : decode cX4_isDeadIn 28 = .ok (.getfield 9, 3) := by decide +kernel
theorem dX4_isDeadIn_31 : decode cX4_isDeadIn 31 = .ok (.getfield 27, 3) := by decide +kernel
theorem dX4_isDeadIn_34 : decode cX4_isDeadIn 34 = .ok (.iload 4, 2) := by decide +kernel
theorem dX4_isDeadIn_36 : decode cX4_isDeadIn 36 = .ok (.iload 5, 2) := by decide +kernel
theorem dX4_isDeadIn_38 : decode cX4_isDeadIn 38 = .ok (.iadd, 1) := by decide +kernel
theorem dX4_isDeadIn_39 : decode cX4_isDeadIn 39 = .ok (.invokevirtual 21, 3) := by decide +kernel
theorem dX4_isDeadIn_42 : decode cX4_isDeadIn 42 = .ok (.iload_n 2, 1) := by decide +kernel
theorem dX4_isDeadIn_43 : decode cX4_isDeadIn 43 = .ok (.if_icmp .gt 6, 3) := by decide +kernel
theorem dX4_isDeadIn_46 : decode cX4_isDeadIn 46 = .ok (.iload 5, 2) := by decide +kernel
theorem dX4_isDeadIn_48 : decode cX4_isDeadIn 48 = .ok (.istore_n 3, 1) := by decide +kernel
theorem dX4_isDeadIn_49 : decode cX4_isDeadIn 49 = .ok (.iinc 5 1, 3) := by decide +kernel
theorem dX4_isDeadIn_52 : decode cX4_isDeadIn 52 = .ok (.goto (-41), 3) := by decide +kernel
theorem dX4_isDeadIn_55 : decode cX4_isDeadIn 55 = .ok (.iload_n 3, 1) := by decide +kernel
theorem dX4_isDeadIn_56 : decode cX4_isDeadIn 56 = .ok (.ifCond .lt 13, 3) := by decide +kernel
theorem dX4_isDeadIn_59 : decode cX4_isDeadIn 59 = .ok (.iload_n 3, 1) := by decide +kernel
theorem dX4_isDeadIn_60 : decode cX4_isDeadIn 60 = .ok (.iconst 2, 1) := by decide +kernel
theorem dX4_isDeadIn_61 : decode cX4_isDeadIn 61 = .ok (.irem, 1) := by decide +kernel
theorem dX4_isDeadIn_62 : decode cX4_isDeadIn 62 = .ok (.ifCond .ne 7, 3) := by decide +kernel
theorem dX4_isDeadIn_65 : decode cX4_isDeadIn 65 = .ok (.iconst 1, 1) := by decide +kernel
theorem dX4_isDeadIn_66 : decode cX4_isDeadIn 66 = .ok (.goto 4, 3) := by decide +kernel
theorem dX4_isDeadIn_69 : decode cX4_isDeadIn 69 = .ok (.iconst 0, 1) := by decide +kernel
theorem dX4_isDeadIn_70 : decode cX4_isDeadIn 70 = .ok (.ireturn, 1) := by decide +kernel
theorem e_84 (r : Nat) (a0 : Int32) (a1 : Int32) (ws : ai_W) : ai_Call 84 [.ref r, .int a0, .int a1] ws = if ai_isob ws r 4 = true then ai_Run 84 0 [.ref r, .int a0, .int a1, .null, .null, .null] [] ws else none := R_entV hk_84 ⟨⟨rfl, rfl⟩, Nat.le_of_ble_eq_true rfl⟩ rfl
theorem r_84_0 (ls st : List Value) (ws : ai_W) : ai_Run 84 0 ls st ws = ai_Run 84 1 ls (.int (-1) :: st) ws := R_iconst hc_84 dX4_isDeadIn_0 (by decide) rfl
theorem r_84_1 (l0 l1 l2 l3 l4 l5 : Value) (a : Int32) (st : List Value) (ws : ai_W) : ai_Run 84 1 [l0, l1, l2, l3, l4, l5] (.int a :: st) ws = ai_Run 84 2 [l0, l1, l2, .int a, l4, l5] st ws := R_istore_n hc_84 dX4_isDeadIn_1 (Nat.le_of_ble_eq_true rfl) rfl rfl
theorem r_84_2 (l0 l2 l3 l4 l5 : Value) (a : Int32) (st : List Value) (ws : ai_W) : ai_Run 84 2 [l0, .int a, l2, l3, l4, l5] st ws = ai_Run 84 3 [l0, .int a, l2, l3, l4, l5] (.int a :: st) ws := R_iload_n hc_84 dX4_isDeadIn_2 rfl rfl
theorem r_84_3 (ls st : List Value) (ws : ai_W) : ai_Run 84 3 ls st ws = ai_Run 84 5 ls (.int 6 :: st) ws := R_bipush hc_84 dX4_isDeadIn_3 (by decide) rfl
theorem r_84_5 (ls st : List Value) (a b : Int32) (ws : ai_W) : ai_Run 84 5 ls (.int b :: .int a :: st) ws = ai_Run 84 6 ls (.int (a * b) :: st) ws := R_imul hc_84 dX4_isDeadIn_5 rfl
theorem r_84_6 (l0 l1 l2 l3 l4 l5 : Value) (a : Int32) (st : List Value) (ws : ai_W) : ai_Run 84 6 [l0, l1, l2, l3, l4, l5] (.int a :: st) ws = ai_Run 84 8 [l0, l1, l2, l3, .int a, l5] st ws := R_istore hc_84 dX4_isDeadIn_6 (Nat.le_of_ble_eq_true rfl) rfl rfl
theorem r_84_8 (ls st : List Value) (ws : ai_W) : ai_Run 84 8 ls st ws = ai_Run 84 9 ls (.int 0 :: st) ws := R_iconst hc_84 dX4_isDeadIn_8 (by decide) rfl
theorem r_84_9 (l0 l1 l2 l3 l4 l5 : Value) (a : Int32) (st : List Value) (ws : ai_W) : ai_Run 84 9 [l0, l1, l2, l3, l4, l5] (.int a :: st) ws = ai_Run 84 11 [l0, l1, l2, l3, l4, .int a] st ws := R_istore hc_84 dX4_isDeadIn_9 (Nat.le_of_ble_eq_true rfl) rfl rfl
theorem r_84_11 (l0 l1 l2 l3 l4 : Value) (a : Int32) (st : List Value) (ws : ai_W) : ai_Run 84 11 [l0, l1, l2, l3, l4, .int a] st ws = ai_Run 84 13 [l0, l1, l2, l3, l4, .int a] (.int a :: st) ws := R_iload hc_84 dX4_isDeadIn_11 rfl rfl
theorem r_84_13 (l1 l2 l3 l4 l5 : Value) (a : Nat) (st : List Value) (ws : ai_W) : ai_Run 84 13 [.ref a, l1, l2, l3, l4, l5] st ws = ai_Run 84 14 [.ref a, l1, l2, l3, l4, l5] (.ref a :: st) ws := R_aload_n hc_84 dX4_isDeadIn_13 rfl rfl
theorem r_84_14 (ls st : List Value) (a : Nat) (ws : ai_W) : ai_Run 84 14 ls (.ref a :: st) ws = (ai_fget ws a 4 0).bind fun q => ai_Run 84 17 ls (q :: st) ws := R_getf hc_84 dX4_isDeadIn_14 hv_84 (w := 522) rfl rfl
theorem r_84_17 (ls st : List Value) (a : Nat) (ws : ai_W) : ai_Run 84 17 ls (.ref a :: st) ws = (ai_fget ws a 0 3).bind fun q => ai_Run 84 20 ls (q :: st) ws := R_getf hc_84 dX4_isDeadIn_17 hv_84 (w := 476) rfl rfl
theorem r_84_20 (l0 l2 l3 l4 l5 : Value) (a : Int32) (st : List Value) (ws : ai_W) : ai_Run 84 20 [l0, .int a, l2, l3, l4, l5] st ws = ai_Run 84 21 [l0, .int a, l2, l3, l4, l5] (.int a :: st) ws := R_iload_n hc_84 dX4_isDeadIn_20 rfl rfl
theorem r_84_21 (ls : List Value) (r : Nat) (b0 : Int32) (s0 : Value) (ws : ai_W) : ai_Run 84 21 ls [.int b0, .ref r, s0] ws = (ai_Call 12 [.ref r, .int b0] ws).bind fun q => ai_Run 84 24 ls (q.1.toList ++ [s0]) q.2 := R_callV hc_84 dX4_isDeadIn_21 hv_84 (w := 233) rfl (ai_lt3 hf_12 hf_84 hL_12 ho_12 ho_84 rfl) hk_12 (by rw [hn_12]; rfl) rfl (Nat.le_of_ble_eq_true rfl) rfl
theorem r_84_24 (ls st : List Value) (a b : Int32) (ws : ai_W) : ai_Run 84 24 ls (.int b :: .int a :: st) ws = if a < b then ai_Run 84 27 ls st ws else ai_Run 84 55 ls st ws := R_cmp_ge hc_84 dX4_isDeadIn_24 rfl rfl
theorem r_84_27 (l1 l2 l3 l4 l5 : Value) (a : Nat) (st : List Value) (ws : ai_W) : ai_Run 84 27 [.ref a, l1, l2, l3, l4, l5] st ws = ai_Run 84 28 [.ref a, l1, l2, l3, l4, l5] (.ref a :: st) ws := R_aload_n hc_84 dX4_isDeadIn_27 rfl rfl
theorem r_84_28 (ls st : List Value) (a : Nat) (ws : ai_W) : ai_Run 84 28 ls (.ref a :: st) ws = (ai_fget ws a 4 0).bind fun q => ai_Run 84 31 ls (q :: st) ws := R_getf hc_84 dX4_isDeadIn_28 hv_84 (w := 522) rfl rfl
theorem r_84_31 (ls st : List Value) (a : Nat) (ws : ai_W) : ai_Run 84 31 ls (.ref a :: st) ws = (ai_fget ws a 0 4).bind fun q => ai_Run 84 34 ls (q :: st) ws := R_getf hc_84 dX4_isDeadIn_31 hv_84 (w := 480) rfl rfl
theorem r_84_34 (l0 l1 l2 l3 l5 : Value) (a : Int32) (st : List Value) (ws : ai_W) : ai_Run 84 34 [l0, l1, l2, l3, .int a, l5] st ws = ai_Run 84 36 [l0, l1, l2, l3, .int a, l5] (.int a :: st) ws := R_iload hc_84 dX4_isDeadIn_34 rfl rfl
theorem r_84_36 (l0 l1 l2 l3 l4 : Value) (a : Int32) (st : List Value) (ws : ai_W) : ai_Run 84 36 [l0, l1, l2, l3, l4, .int a] st ws = ai_Run 84 38 [l0, l1, l2, l3, l4, .int a] (.int a :: st) ws := R_iload hc_84 dX4_isDeadIn_36 rfl rfl
theorem r_84_38 (ls st : List Value) (a b : Int32) (ws : ai_W) : ai_Run 84 38 ls (.int b :: .int a :: st) ws = ai_Run 84 39 ls (.int (a + b) :: st) ws := R_iadd hc_84 dX4_isDeadIn_38 rfl
theorem r_84_39 (ls : List Value) (r : Nat) (b0 : Int32) (ws : ai_W) : ai_Run 84 39 ls [.int b0, .ref r] ws = (ai_Call 12 [.ref r, .int b0] ws).bind fun q => ai_Run 84 42 ls (q.1.toList ++ []) q.2 := R_callV hc_84 dX4_isDeadIn_39 hv_84 (w := 233) rfl (ai_lt3 hf_12 hf_84 hL_12 ho_12 ho_84 rfl) hk_12 (by rw [hn_12]; rfl) rfl (Nat.le_of_ble_eq_true rfl) rfl
theorem r_84_42 (l0 l1 l3 l4 l5 : Value) (a : Int32) (st : List Value) (ws : ai_W) : ai_Run 84 42 [l0, l1, .int a, l3, l4, l5] st ws = ai_Run 84 43 [l0, l1, .int a, l3, l4, l5] (.int a :: st) ws := R_iload_n hc_84 dX4_isDeadIn_42 rfl rfl
theorem r_84_43 (ls st : List Value) (a b : Int32) (ws : ai_W) : ai_Run 84 43 ls (.int b :: .int a :: st) ws = if b < a then ai_Run 84 49 ls st ws else ai_Run 84 46 ls st ws := R_cmp_gt hc_84 dX4_isDeadIn_43 rfl rfl
theorem r_84_46 (l0 l1 l2 l3 l4 : Value) (a : Int32) (st : List Value) (ws : ai_W) : ai_Run 84 46 [l0, l1, l2, l3, l4, .int a] st ws = ai_Run 84 48 [l0, l1, l2, l3, l4, .int a] (.int a :: st) ws := R_iload hc_84 dX4_isDeadIn_46 rfl rfl
theorem r_84_48 (l0 l1 l2 l3 l4 l5 : Value) (a : Int32) (st : List Value) (ws : ai_W) : ai_Run 84 48 [l0, l1, l2, l3, l4, l5] (.int a :: st) ws = ai_Run 84 49 [l0, l1, l2, .int a, l4, l5] st ws := R_istore_n hc_84 dX4_isDeadIn_48 (Nat.le_of_ble_eq_true rfl) rfl rfl
theorem r_84_49 (l0 l1 l2 l3 l4 : Value) (a : Int32) (st : List Value) (ws : ai_W) : ai_Run 84 49 [l0, l1, l2, l3, l4, .int a] st ws = ai_Run 84 52 [l0, l1, l2, l3, l4, .int (a + 1)] st ws := R_iinc hc_84 dX4_isDeadIn_49 rfl (by decide) rfl rfl
theorem r_84_52 (ls st : List Value) (ws : ai_W) : ai_Run 84 52 ls st ws = ai_Run 84 11 ls st ws := R_goto hc_84 dX4_isDeadIn_52 rfl
theorem r_84_55 (l0 l1 l2 l4 l5 : Value) (a : Int32) (st : List Value) (ws : ai_W) : ai_Run 84 55 [l0, l1, l2, .int a, l4, l5] st ws = ai_Run 84 56 [l0, l1, l2, .int a, l4, l5] (.int a :: st) ws := R_iload_n hc_84 dX4_isDeadIn_55 rfl rfl
theorem r_84_56 (ls st : List Value) (a : Int32) (ws : ai_W) : ai_Run 84 56 ls (.int a :: st) ws = if a < 0 then ai_Run 84 69 ls st ws else ai_Run 84 59 ls st ws := R_if_lt hc_84 dX4_isDeadIn_56 rfl rfl
theorem r_84_59 (l0 l1 l2 l4 l5 : Value) (a : Int32) (st : List Value) (ws : ai_W) : ai_Run 84 59 [l0, l1, l2, .int a, l4, l5] st ws = ai_Run 84 60 [l0, l1, l2, .int a, l4, l5] (.int a :: st) ws := R_iload_n hc_84 dX4_isDeadIn_59 rfl rfl
theorem r_84_60 (ls st : List Value) (ws : ai_W) : ai_Run 84 60 ls st ws = ai_Run 84 61 ls (.int 2 :: st) ws := R_iconst hc_84 dX4_isDeadIn_60 (by decide) rfl
theorem r_84_61 (ls st : List Value) (a : Int32) (ws : ai_W) : ai_Run 84 61 ls (.int 2 :: .int a :: st) ws = ai_Run 84 62 ls (.int (a - a / 2 * 2) :: st) ws := R_irem hc_84 dX4_isDeadIn_61 (by decide) rfl
theorem r_84_62 (ls st : List Value) (a : Int32) (ws : ai_W) : ai_Run 84 62 ls (.int a :: st) ws = if a = 0 then ai_Run 84 65 ls st ws else ai_Run 84 69 ls st ws := R_if_ne hc_84 dX4_isDeadIn_62 rfl rfl
theorem r_84_65 (ls st : List Value) (ws : ai_W) : ai_Run 84 65 ls st ws = ai_Run 84 66 ls (.int 1 :: st) ws := R_iconst hc_84 dX4_isDeadIn_65 (by decide) rfl
theorem r_84_66 (ls st : List Value) (ws : ai_W) : ai_Run 84 66 ls st ws = ai_Run 84 70 ls st ws := R_goto hc_84 dX4_isDeadIn_66 rfl
theorem r_84_69 (ls st : List Value) (ws : ai_W) : ai_Run 84 69 ls st ws = ai_Run 84 70 ls (.int 0 :: st) ws := R_iconst hc_84 dX4_isDeadIn_69 (by decide) rfl
theorem r_84_70 (ls : List Value) (x : Int32) (ws : ai_W) : ai_Run 84 70 ls [.int x] ws = if ai_pb x = true then some (some (.int x), ws) else none := R_zret hc_84 dX4_isDeadIn_70 ht_84
theorem dX4_couldCause_0 : decode cX4_couldCause 0 = .ok (.aload_n 0, 1) := by decide +kernel
theorem dX4_couldCause_1 : decode cX4_couldCause 1 = .ok (.getfield 9, 3) := by decide +kernel
theorem dX4_couldCause_4 : decode cX4_couldCause 4 = .ok (.iload_n 1, 1) := by decide +kernel
theorem dX4_couldCause_5 : decode cX4_couldCause 5 = .ok (.iload_n 2, 1) := by decide +kernel
theorem dX4_couldCause_6 : decode cX4_couldCause 6 = .ok (.invokevirtual 53, 3) := by decide +kernel
theorem dX4_couldCause_9 : decode cX4_couldCause 9 = .ok (.ifCond .le 26, 3) := by decide +kernel
theorem dX4_couldCause_12 : decode cX4_couldCause 12 = .ok (.aload_n 0, 1) := by decide +kernel
theorem dX4_couldCause_13 : decode cX4_couldCause 13 = .ok (.iload_n 1, 1) := by decide +kernel
theorem dX4_couldCause_14 : decode cX4_couldCause 14 = .ok (.aload_n 0, 1) := by decide +kernel
theorem dX4_couldCause_15 : decode cX4_couldCause 15 = .ok (.getfield 9, 3) := by decide +kernel
theorem dX4_couldCause_18 : decode cX4_couldCause 18 = .ok (.iload_n 2, 1) := by decide +kernel
theorem dX4_couldCause_19 : decode cX4_couldCause 19 = .ok (.iload_n 3, 1) := by decide +kernel
theorem dX4_couldCause_20 : decode cX4_couldCause 20 = .ok (.invokevirtual 56, 3) := by decide +kernel
theorem dX4_couldCause_23 : decode cX4_couldCause 23 = .ok (.iconst 1, 1) := by decide +kernel
theorem dX4_couldCause_24 : decode cX4_couldCause 24 = .ok (.isub, 1) := by decide +kernel
theorem dX4_couldCause_25 : decode cX4_couldCause 25 = .ok (.invokevirtual 34, 3) := by decide +kernel
theorem dX4_couldCause_28 : decode cX4_couldCause 28 = .ok (.ifCond .ne 7, 3) := by decide +kernel
theorem dX4_couldCause_31 : decode cX4_couldCause 31 = .ok (.iconst 1, 1) := by decide +kernel
theorem dX4_couldCause_32 : decode cX4_couldCause 32 = .ok (.goto 4, 3) := by decide +kernel
theorem dX4_couldCause_35 : decode cX4_couldCause 35 = .ok (.iconst 0, 1) := by decide +kernel
theorem dX4_couldCause_36 : decode cX4_couldCause 36 = .ok (.ireturn, 1) := by decide +kernel
theorem e_85 (r : Nat) (a0 : Int32) (a1 : Int32) (a2 : Int32) (ws : ai_W) : ai_Call 85 [.ref r, .int a0, .int a1, .int a2] ws = if ai_isob ws r 4 = true then ai_Run 85 0 [.ref r, .int a0, .int a1, .int a2] [] ws else none := R_entV hk_85 ⟨⟨rfl, rfl⟩, Nat.le_of_ble_eq_true rfl⟩ rfl
theorem r_85_0 (l1 l2 l3 : Value) (a : Nat) (st : List Value) (ws : ai_W) : ai_Run 85 0 [.ref a, l1, l2, l3] st ws = ai_Run 85 1 [.ref a, l1, l2, l3] (.ref a :: st) ws := R_aload_n hc_85 dX4_couldCause_0 rfl rfl
theorem r_85_1 (ls st : List Value) (a : Nat) (ws : ai_W) : ai_Run 85 1 ls (.ref a :: st) ws = (ai_fget ws a 4 0).bind fun q => ai_Run 85 4 ls (q :: st) ws := R_getf hc_85 dX4_couldCause_1 hv_85 (w := 522) rfl rfl
theorem r_85_4 (l0 l2 l3 : Value) (a : Int32) (st : List Value) (ws : ai_W) : ai_Run 85 4 [l0, .int a, l2, l3] st ws = ai_Run 85 5 [l0, .int a, l2, l3] (.int a :: st) ws := R_iload_n hc_85 dX4_couldCause_4 rfl rfl
theorem r_85_5 (l0 l1 l3 : Value) (a : Int32) (st : List Value) (ws : ai_W) : ai_Run 85 5 [l0, l1, .int a, l3] st ws = ai_Run 85 6 [l0, l1, .int a, l3] (.int a :: st) ws := R_iload_n hc_85 dX4_couldCause_5 rfl rfl
theorem r_85_6 (ls : List Value) (r : Nat) (b0 : Int32) (b1 : Int32) (ws : ai_W) : ai_Run 85 6 ls [.int b1, .int b0, .ref r] ws = (ai_Call 76 [.ref r, .int b0, .int b1] ws).bind fun q => ai_Run 85 9 ls (q.1.toList ++ []) q.2 := R_callV hc_85 dX4_couldCause_6 hv_85 (w := 224) rfl (ai_lt3 hf_76 hf_85 hL_76 ho_76 ho_85 rfl) hk_76 (by rw [hn_76]; rfl) rfl (Nat.le_of_ble_eq_true rfl) rfl
theorem r_85_9 (ls st : List Value) (a : Int32) (ws : ai_W) : ai_Run 85 9 ls (.int a :: st) ws = if 0 < a then ai_Run 85 12 ls st ws else ai_Run 85 35 ls st ws := R_if_le hc_85 dX4_couldCause_9 rfl rfl
theorem r_85_12 (l1 l2 l3 : Value) (a : Nat) (st : List Value) (ws : ai_W) : ai_Run 85 12 [.ref a, l1, l2, l3] st ws = ai_Run 85 13 [.ref a, l1, l2, l3] (.ref a :: st) ws := R_aload_n hc_85 dX4_couldCause_12 rfl rfl
theorem r_85_13 (l0 l2 l3 : Value) (a : Int32) (st : List Value) (ws : ai_W) : ai_Run 85 13 [l0, .int a, l2, l3] st ws = ai_Run 85 14 [l0, .int a, l2, l3] (.int a :: st) ws := R_iload_n hc_85 dX4_couldCause_13 rfl rfl
theorem r_85_14 (l1 l2 l3 : Value) (a : Nat) (st : List Value) (ws : ai_W) : ai_Run 85 14 [.ref a, l1, l2, l3] st ws = ai_Run 85 15 [.ref a, l1, l2, l3] (.ref a :: st) ws := R_aload_n hc_85 dX4_couldCause_14 rfl rfl
theorem r_85_15 (ls st : List Value) (a : Nat) (ws : ai_W) : ai_Run 85 15 ls (.ref a :: st) ws = (ai_fget ws a 4 0).bind fun q => ai_Run 85 18 ls (q :: st) ws := R_getf hc_85 dX4_couldCause_15 hv_85 (w := 522) rfl rfl
theorem r_85_18 (l0 l1 l3 : Value) (a : Int32) (st : List Value) (ws : ai_W) : ai_Run 85 18 [l0, l1, .int a, l3] st ws = ai_Run 85 19 [l0, l1, .int a, l3] (.int a :: st) ws := R_iload_n hc_85 dX4_couldCause_18 rfl rfl
theorem r_85_19 (l0 l1 l2 : Value) (a : Int32) (st : List Value) (ws : ai_W) : ai_Run 85 19 [l0, l1, l2, .int a] st ws = ai_Run 85 20 [l0, l1, l2, .int a] (.int a :: st) ws := R_iload_n hc_85 dX4_couldCause_19 rfl rfl
theorem r_85_20 (ls : List Value) (r : Nat) (b0 : Int32) (b1 : Int32) (s0 s1 : Value) (ws : ai_W) : ai_Run 85 20 ls [.int b1, .int b0, .ref r, s0, s1] ws = (ai_Call 53 [.ref r, .int b0, .int b1] ws).bind fun q => ai_Run 85 23 ls (q.1.toList ++ [s0, s1]) q.2 := R_callV hc_85 dX4_couldCause_20 hv_85 (w := 225) rfl (ai_lt3 hf_53 hf_85 hL_53 ho_53 ho_85 rfl) hk_53 (by rw [hn_53]; rfl) rfl (Nat.le_of_ble_eq_true rfl) rfl
theorem r_85_23 (ls st : List Value) (ws : ai_W) : ai_Run 85 23 ls st ws = ai_Run 85 24 ls (.int 1 :: st) ws := R_iconst hc_85 dX4_couldCause_23 (by decide) rfl
theorem r_85_24 (ls st : List Value) (a b : Int32) (ws : ai_W) : ai_Run 85 24 ls (.int b :: .int a :: st) ws = ai_Run 85 25 ls (.int (a - b) :: st) ws := R_isub hc_85 dX4_couldCause_24 rfl
theorem r_85_25 (ls : List Value) (r : Nat) (b0 : Int32) (b1 : Int32) (ws : ai_W) : ai_Run 85 25 ls [.int b1, .int b0, .ref r] ws = (ai_Call 84 [.ref r, .int b0, .int b1] ws).bind fun q => ai_Run 85 28 ls (q.1.toList ++ []) q.2 := R_callV hc_85 dX4_couldCause_25 hv_85 (w := 229) rfl (ai_lt3 hf_84 hf_85 hL_84 ho_84 ho_85 rfl) hk_84 (by rw [hn_84]; rfl) rfl (Nat.le_of_ble_eq_true rfl) rfl
theorem r_85_28 (ls st : List Value) (a : Int32) (ws : ai_W) : ai_Run 85 28 ls (.int a :: st) ws = if a = 0 then ai_Run 85 31 ls st ws else ai_Run 85 35 ls st ws := R_if_ne hc_85 dX4_couldCause_28 rfl rfl
theorem r_85_31 (ls st : List Value) (ws : ai_W) : ai_Run 85 31 ls st ws = ai_Run 85 32 ls (.int 1 :: st) ws := R_iconst hc_85 dX4_couldCause_31 (by decide) rfl
theorem r_85_32 (ls st : List Value) (ws : ai_W) : ai_Run 85 32 ls st ws = ai_Run 85 36 ls st ws := R_goto hc_85 dX4_couldCause_32 rfl
theorem r_85_35 (ls st : List Value) (ws : ai_W) : ai_Run 85 35 ls st ws = ai_Run 85 36 ls (.int 0 :: st) ws := R_iconst hc_85 dX4_couldCause_35 (by decide) rfl
theorem r_85_36 (ls : List Value) (x : Int32) (ws : ai_W) : ai_Run 85 36 ls [.int x] ws = if ai_pb x = true then some (some (.int x), ws) else none := R_zret hc_85 dX4_couldCause_36 ht_85
theorem dX4_weight_0 : decode cX4_weight 0 = .ok (.aload_n 0, 1) := by decide +kernel
theorem dX4_weight_1 : decode cX4_weight 1 = .ok (.iload_n 1, 1) := by decide +kernel
theorem dX4_weight_2 : decode cX4_weight 2 = .ok (.iload_n 2, 1) := by decide +kernel
theorem dX4_weight_3 : decode cX4_weight 3 = .ok (.iload_n 3, 1) := by decide +kernel
theorem dX4_weight_4 : decode cX4_weight 4 = .ok (.invokevirtual 59, 3) := by decide +kernel
theorem dX4_weight_7 : decode cX4_weight 7 = .ok (.ifCond .ne 5, 3) := by decide +kernel
theorem dX4_weight_10 : decode cX4_weight 10 = .ok (.iconst 0, 1) := by decide +kernel
theorem dX4_weight_11 : decode cX4_weight 11 = .ok (.ireturn, 1) := by decide +kernel
theorem dX4_weight_12 : decode cX4_weight 12 = .ok (.aload_n 0, 1) := by decide +kernel
theorem dX4_weight_13 : decode cX4_weight 13 = .ok (.getfield 9, 3) := by decide +kernel
theorem dX4_weight_16 : decode cX4_weight 16 = .ok (.aload_n 0, 1) := by decide +kernel
theorem dX4_weight_17 : decode cX4_weight 17 = .ok (.getfield 9, 3) := by decide +kernel
theorem dX4_weight_20 : decode cX4_weight 20 = .ok (.iload_n 2, 1) := by decide +kernel
theorem dX4_weight_21 : decode cX4_weight 21 = .ok (.iload_n 3, 1) := by decide +kernel
theorem dX4_weight_22 : decode cX4_weight 22 = .ok (.invokevirtual 56, 3) := by decide +kernel
theorem dX4_weight_25 : decode cX4_weight 25 = .ok (.invokevirtual 63, 3) := by decide +kernel
theorem dX4_weight_28 : decode cX4_weight 28 = .ok (.ifCond .eq 7, 3) := by decide +kernel
theorem dX4_weight_31 : decode cX4_weight 31 = .ok (.iconst 2, 1) := by decide +kernel
theorem dX4_weight_32 : decode cX4_weight 32 = .ok (.goto 4, 3) := by decide +kernel
theorem dX4_weight_35 : decode cX4_weight 35 = .ok (.iconst 0, 1) := by decide +kernel
theorem dX4_weight_36 : decode cX4_weight 36 = .ok (.istore 4, 2) := by decide +kernel
theorem dX4_weight_38 : decode cX4_weight 38 = .ok (.aload_n 0, 1) := by decide +kernel
theorem dX4_weight_39 : decode cX4_weight 39 = .ok (.getfield 9, 3) := by decide +kernel
theorem dX4_weight_42 : decode cX4_weight 42 = .ok (.iload_n 1, 1) := by decide +kernel
theorem dX4_weight_43 : decode cX4_weight 43 = .ok (.iload_n 2, 1) := by decide +kernel
theorem dX4_weight_44 : decode cX4_weight 44 = .ok (.invokevirtual 53, 3) := by decide +kernel
theorem dX4_weight_47 : decode cX4_weight 47 = .ok (.iload 4, 2) := by decide +kernel
theorem dX4_weight_49 : decode cX4_weight 49 = .ok (.iadd, 1) := by decide +kernel
theorem dX4_weight_50 : decode cX4_weight 50 = .ok (.ireturn, 1) := by decide +kernel
theorem e_86 (r : Nat) (a0 : Int32) (a1 : Int32) (a2 : Int32) (ws : ai_W) : ai_Call 86 [.ref r, .int a0, .int a1, .int a2] ws = if ai_isob ws r 4 = true then ai_Run 86 0 [.ref r, .int a0, .int a1, .int a2, .null] [] ws else none := R_entV hk_86 ⟨⟨rfl, rfl⟩, Nat.le_of_ble_eq_true rfl⟩ rfl
theorem r_86_0 (l1 l2 l3 l4 : Value) (a : Nat) (st : List Value) (ws : ai_W) : ai_Run 86 0 [.ref a, l1, l2, l3, l4] st ws = ai_Run 86 1 [.ref a, l1, l2, l3, l4] (.ref a :: st) ws := R_aload_n hc_86 dX4_weight_0 rfl rfl
theorem r_86_1 (l0 l2 l3 l4 : Value) (a : Int32) (st : List Value) (ws : ai_W) : ai_Run 86 1 [l0, .int a, l2, l3, l4] st ws = ai_Run 86 2 [l0, .int a, l2, l3, l4] (.int a :: st) ws := R_iload_n hc_86 dX4_weight_1 rfl rfl
theorem r_86_2 (l0 l1 l3 l4 : Value) (a : Int32) (st : List Value) (ws : ai_W) : ai_Run 86 2 [l0, l1, .int a, l3, l4] st ws = ai_Run 86 3 [l0, l1, .int a, l3, l4] (.int a :: st) ws := R_iload_n hc_86 dX4_weight_2 rfl rfl
theorem r_86_3 (l0 l1 l2 l4 : Value) (a : Int32) (st : List Value) (ws : ai_W) : ai_Run 86 3 [l0, l1, l2, .int a, l4] st ws = ai_Run 86 4 [l0, l1, l2, .int a, l4] (.int a :: st) ws := R_iload_n hc_86 dX4_weight_3 rfl rfl
theorem r_86_4 (ls : List Value) (r : Nat) (b0 : Int32) (b1 : Int32) (b2 : Int32) (ws : ai_W) : ai_Run 86 4 ls [.int b2, .int b1, .int b0, .ref r] ws = (ai_Call 85 [.ref r, .int b0, .int b1, .int b2] ws).bind fun q => ai_Run 86 7 ls (q.1.toList ++ []) q.2 := R_callV hc_86 dX4_weight_4 hv_86 (w := 220) rfl (ai_lt3 hf_85 hf_86 hL_85 ho_85 ho_86 rfl) hk_85 (by rw [hn_85]; rfl) rfl (Nat.le_of_ble_eq_true rfl) rfl
theorem r_86_7 (ls st : List Value) (a : Int32) (ws : ai_W) : ai_Run 86 7 ls (.int a :: st) ws = if a = 0 then ai_Run 86 10 ls st ws else ai_Run 86 12 ls st ws := R_if_ne hc_86 dX4_weight_7 rfl rfl
theorem r_86_10 (ls st : List Value) (ws : ai_W) : ai_Run 86 10 ls st ws = ai_Run 86 11 ls (.int 0 :: st) ws := R_iconst hc_86 dX4_weight_10 (by decide) rfl
theorem r_86_11 (ls : List Value) (x : Int32) (ws : ai_W) : ai_Run 86 11 ls [.int x] ws = some (some (.int x), ws) := R_iret hc_86 dX4_weight_11 ht_86
theorem r_86_12 (l1 l2 l3 l4 : Value) (a : Nat) (st : List Value) (ws : ai_W) : ai_Run 86 12 [.ref a, l1, l2, l3, l4] st ws = ai_Run 86 13 [.ref a, l1, l2, l3, l4] (.ref a :: st) ws := R_aload_n hc_86 dX4_weight_12 rfl rfl
theorem r_86_13 (ls st : List Value) (a : Nat) (ws : ai_W) : ai_Run 86 13 ls (.ref a :: st) ws = (ai_fget ws a 4 0).bind fun q => ai_Run 86 16 ls (q :: st) ws := R_getf hc_86 dX4_weight_13 hv_86 (w := 522) rfl rfl
theorem r_86_16 (l1 l2 l3 l4 : Value) (a : Nat) (st : List Value) (ws : ai_W) : ai_Run 86 16 [.ref a, l1, l2, l3, l4] st ws = ai_Run 86 17 [.ref a, l1, l2, l3, l4] (.ref a :: st) ws := R_aload_n hc_86 dX4_weight_16 rfl rfl
theorem r_86_17 (ls st : List Value) (a : Nat) (ws : ai_W) : ai_Run 86 17 ls (.ref a :: st) ws = (ai_fget ws a 4 0).bind fun q => ai_Run 86 20 ls (q :: st) ws := R_getf hc_86 dX4_weight_17 hv_86 (w := 522) rfl rfl
theorem r_86_20 (l0 l1 l3 l4 : Value) (a : Int32) (st : List Value) (ws : ai_W) : ai_Run 86 20 [l0, l1, .int a, l3, l4] st ws = ai_Run 86 21 [l0, l1, .int a, l3, l4] (.int a :: st) ws := R_iload_n hc_86 dX4_weight_20 rfl rfl
theorem r_86_21 (l0 l1 l2 l4 : Value) (a : Int32) (st : List Value) (ws : ai_W) : ai_Run 86 21 [l0, l1, l2, .int a, l4] st ws = ai_Run 86 22 [l0, l1, l2, .int a, l4] (.int a :: st) ws := R_iload_n hc_86 dX4_weight_21 rfl rfl
theorem r_86_22 (ls : List Value) (r : Nat) (b0 : Int32) (b1 : Int32) (s0 : Value) (ws : ai_W) : ai_Run 86 22 ls [.int b1, .int b0, .ref r, s0] ws = (ai_Call 53 [.ref r, .int b0, .int b1] ws).bind fun q => ai_Run 86 25 ls (q.1.toList ++ [s0]) q.2 := R_callV hc_86 dX4_weight_22 hv_86 (w := 225) rfl (ai_lt3 hf_53 hf_86 hL_53 ho_53 ho_86 rfl) hk_53 (by rw [hn_53]; rfl) rfl (Nat.le_of_ble_eq_true rfl) rfl
theorem r_86_25 (ls : List Value) (r : Nat) (b0 : Int32) (ws : ai_W) : ai_Run 86 25 ls [.int b0, .ref r] ws = (ai_Call 36 [.ref r, .int b0] ws).bind fun q => ai_Run 86 28 ls (q.1.toList ++ []) q.2 := R_callV hc_86 dX4_weight_25 hv_86 (w := 234) rfl (ai_lt3 hf_36 hf_86 hL_36 ho_36 ho_86 rfl) hk_36 (by rw [hn_36]; rfl) rfl (Nat.le_of_ble_eq_true rfl) rfl
theorem r_86_28 (ls st : List Value) (a : Int32) (ws : ai_W) : ai_Run 86 28 ls (.int a :: st) ws = if a = 0 then ai_Run 86 35 ls st ws else ai_Run 86 31 ls st ws := R_if_eq hc_86 dX4_weight_28 rfl rfl
theorem r_86_31 (ls st : List Value) (ws : ai_W) : ai_Run 86 31 ls st ws = ai_Run 86 32 ls (.int 2 :: st) ws := R_iconst hc_86 dX4_weight_31 (by decide) rfl
theorem r_86_32 (ls st : List Value) (ws : ai_W) : ai_Run 86 32 ls st ws = ai_Run 86 36 ls st ws := R_goto hc_86 dX4_weight_32 rfl
theorem r_86_35 (ls st : List Value) (ws : ai_W) : ai_Run 86 35 ls st ws = ai_Run 86 36 ls (.int 0 :: st) ws := R_iconst hc_86 dX4_weight_35 (by decide) rfl
theorem r_86_36 (l0 l1 l2 l3 l4 : Value) (a : Int32) (st : List Value) (ws : ai_W) : ai_Run 86 36 [l0, l1, l2, l3, l4] (.int a :: st) ws = ai_Run 86 38 [l0, l1, l2, l3, .int a] st ws := R_istore hc_86 dX4_weight_36 (Nat.le_of_ble_eq_true rfl) rfl rfl
theorem r_86_38 (l1 l2 l3 l4 : Value) (a : Nat) (st : List Value) (ws : ai_W) : ai_Run 86 38 [.ref a, l1, l2, l3, l4] st ws = ai_Run 86 39 [.ref a, l1, l2, l3, l4] (.ref a :: st) ws := R_aload_n hc_86 dX4_weight_38 rfl rfl
theorem r_86_39 (ls st : List Value) (a : Nat) (ws : ai_W) : ai_Run 86 39 ls (.ref a :: st) ws = (ai_fget ws a 4 0).bind fun q => ai_Run 86 42 ls (q :: st) ws := R_getf hc_86 dX4_weight_39 hv_86 (w := 522) rfl rfl
theorem r_86_42 (l0 l2 l3 l4 : Value) (a : Int32) (st : List Value) (ws : ai_W) : ai_Run 86 42 [l0, .int a, l2, l3, l4] st ws = ai_Run 86 43 [l0, .int a, l2, l3, l4] (.int a :: st) ws := R_iload_n hc_86 dX4_weight_42 rfl rfl
theorem r_86_43 (l0 l1 l3 l4 : Value) (a : Int32) (st : List Value) (ws : ai_W) : ai_Run 86 43 [l0, l1, .int a, l3, l4] st ws = ai_Run 86 44 [l0, l1, .int a, l3, l4] (.int a :: st) ws := R_iload_n hc_86 dX4_weight_43 rfl rfl
theorem r_86_44 (ls : List Value) (r : Nat) (b0 : Int32) (b1 : Int32) (ws : ai_W) : ai_Run 86 44 ls [.int b1, .int b0, .ref r] ws = (ai_Call 76 [.ref r, .int b0, .int b1] ws).bind fun q => ai_Run 86 47 ls (q.1.toList ++ []) q.2 := R_callV hc_86 dX4_weight_44 hv_86 (w := 224) rfl (ai_lt3 hf_76 hf_86 hL_76 ho_76 ho_86 rfl) hk_76 (by rw [hn_76]; rfl) rfl (Nat.le_of_ble_eq_true rfl) rfl
theorem r_86_47 (l0 l1 l2 l3 : Value) (a : Int32) (st : List Value) (ws : ai_W) : ai_Run 86 47 [l0, l1, l2, l3, .int a] st ws = ai_Run 86 49 [l0, l1, l2, l3, .int a] (.int a :: st) ws := R_iload hc_86 dX4_weight_47 rfl rfl
theorem r_86_49 (ls st : List Value) (a b : Int32) (ws : ai_W) : ai_Run 86 49 ls (.int b :: .int a :: st) ws = ai_Run 86 50 ls (.int (a + b) :: st) ws := R_iadd hc_86 dX4_weight_49 rfl
theorem r_86_50 (ls : List Value) (x : Int32) (ws : ai_W) : ai_Run 86 50 ls [.int x] ws = some (some (.int x), ws) := R_iret hc_86 dX4_weight_50 ht_86
theorem dX5_voteOn_0 : decode cX5_voteOn 0 = .ok (.aload_n 0, 1) := by decide +kernel
theorem dX5_voteOn_1 : decode cX5_voteOn 1 = .ok (.getfield 9, 3) := by decide +kernel
theorem dX5_voteOn_4 : decode cX5_voteOn 4 = .ok (.getfield 15, 3) := by decide +kernel
theorem dX5_voteOn_7 : decode cX5_voteOn 7 = .ok (.iload_n 1, 1) := by decide +kernel
theorem dX5_voteOn_8 : decode cX5_voteOn 8 = .ok (.invokevirtual 21, 3) := by decide +kernel
theorem dX5_voteOn_11 : decode cX5_voteOn 11 = .ok (.istore_n 3, 1) := by decide +kernel
theorem dX5_voteOn_12 : decode cX5_voteOn 12 = .ok (.iload_n 3, 1) := by decide +kernel
theorem dX5_voteOn_13 : decode cX5_voteOn 13 = .ok (.ifCond .le 12, 3) := by decide +kernel
theorem dX5_voteOn_16 : decode cX5_voteOn 16 = .ok (.iload_n 2, 1) := by decide +kernel
theorem dX5_voteOn_17 : decode cX5_voteOn 17 = .ok (.iload_n 3, 1) := by decide +kernel
theorem dX5_voteOn_18 : decode cX5_voteOn 18 = .ok (.if_icmp .lt 7, 3) := by decide +kernel
theorem dX5_voteOn_21 : decode cX5_voteOn 21 = .ok (.iconst 1, 1) := by decide +kernel
theorem dX5_voteOn_22 : decode cX5_voteOn 22 = .ok (.goto 4, 3) := by decide +kernel
theorem dX5_voteOn_25 : decode cX5_voteOn 25 = .ok (.iconst 0, 1) := by decide +kernel
theorem dX5_voteOn_26 : decode cX5_voteOn 26 = .ok (.ireturn, 1) := by decide +kernel
theorem e_87 (r : Nat) (a0 : Int32) (a1 : Int32) (ws : ai_W) : ai_Call 87 [.ref r, .int a0, .int a1] ws = if ai_isob ws r 5 = true then ai_Run 87 0 [.ref r, .int a0, .int a1, .null] [] ws else none := R_entV hk_87 ⟨⟨rfl, rfl⟩, Nat.le_of_ble_eq_true rfl⟩ rfl
theorem r_87_0 (l1 l2 l3 : Value) (a : Nat) (st : List Value) (ws : ai_W) : ai_Run 87 0 [.ref a, l1, l2, l3] st ws = ai_Run 87 1 [.ref a, l1, l2, l3] (.ref a :: st) ws := R_aload_n hc_87 dX5_voteOn_0 rfl rfl
theorem r_87_1 (ls st : List Value) (a : Nat) (ws : ai_W) : ai_Run 87 1 ls (.ref a :: st) ws = (ai_fget ws a 5 0).bind fun q => ai_Run 87 4 ls (q :: st) ws := R_getf hc_87 dX5_voteOn_1 hv_87 (w := 531) rfl rfl
theorem r_87_4 (ls st : List Value) (a : Nat) (ws : ai_W) : ai_Run 87 4 ls (.ref a :: st) ws = (ai_fget ws a 0 9).bind fun q => ai_Run 87 7 ls (q :: st) ws := R_getf hc_87 dX5_voteOn_4 hv_87 (w := 492) rfl rfl
theorem r_87_7 (l0 l2 l3 : Value) (a : Int32) (st : List Value) (ws : ai_W) : ai_Run 87 7 [l0, .int a, l2, l3] st ws = ai_Run 87 8 [l0, .int a, l2, l3] (.int a :: st) ws := R_iload_n hc_87 dX5_voteOn_7 rfl rfl
theorem r_87_8 (ls : List Value) (r : Nat) (b0 : Int32) (ws : ai_W) : ai_Run 87 8 ls [.int b0, .ref r] ws = (ai_Call 12 [.ref r, .int b0] ws).bind fun q => ai_Run 87 11 ls (q.1.toList ++ []) q.2 := R_callV hc_87 dX5_voteOn_8 hv_87 (w := 196) rfl (ai_lt3 hf_12 hf_87 hL_12 ho_12 ho_87 rfl) hk_12 (by rw [hn_12]; rfl) rfl (Nat.le_of_ble_eq_true rfl) rfl
theorem r_87_11 (l0 l1 l2 l3 : Value) (a : Int32) (st : List Value) (ws : ai_W) : ai_Run 87 11 [l0, l1, l2, l3] (.int a :: st) ws = ai_Run 87 12 [l0, l1, l2, .int a] st ws := R_istore_n hc_87 dX5_voteOn_11 (Nat.le_of_ble_eq_true rfl) rfl rfl
theorem r_87_12 (l0 l1 l2 : Value) (a : Int32) (st : List Value) (ws : ai_W) : ai_Run 87 12 [l0, l1, l2, .int a] st ws = ai_Run 87 13 [l0, l1, l2, .int a] (.int a :: st) ws := R_iload_n hc_87 dX5_voteOn_12 rfl rfl
theorem r_87_13 (ls st : List Value) (a : Int32) (ws : ai_W) : ai_Run 87 13 ls (.int a :: st) ws = if 0 < a then ai_Run 87 16 ls st ws else ai_Run 87 25 ls st ws := R_if_le hc_87 dX5_voteOn_13 rfl rfl
theorem r_87_16 (l0 l1 l3 : Value) (a : Int32) (st : List Value) (ws : ai_W) : ai_Run 87 16 [l0, l1, .int a, l3] st ws = ai_Run 87 17 [l0, l1, .int a, l3] (.int a :: st) ws := R_iload_n hc_87 dX5_voteOn_16 rfl rfl
theorem r_87_17 (l0 l1 l2 : Value) (a : Int32) (st : List Value) (ws : ai_W) : ai_Run 87 17 [l0, l1, l2, .int a] st ws = ai_Run 87 18 [l0, l1, l2, .int a] (.int a :: st) ws := R_iload_n hc_87 dX5_voteOn_17 rfl rfl
theorem r_87_18 (ls st : List Value) (a b : Int32) (ws : ai_W) : ai_Run 87 18 ls (.int b :: .int a :: st) ws = if a < b then ai_Run 87 25 ls st ws else ai_Run 87 21 ls st ws := R_cmp_lt hc_87 dX5_voteOn_18 rfl rfl
theorem r_87_21 (ls st : List Value) (ws : ai_W) : ai_Run 87 21 ls st ws = ai_Run 87 22 ls (.int 1 :: st) ws := R_iconst hc_87 dX5_voteOn_21 (by decide) rfl
theorem r_87_22 (ls st : List Value) (ws : ai_W) : ai_Run 87 22 ls st ws = ai_Run 87 26 ls st ws := R_goto hc_87 dX5_voteOn_22 rfl
theorem r_87_25 (ls st : List Value) (ws : ai_W) : ai_Run 87 25 ls st ws = ai_Run 87 26 ls (.int 0 :: st) ws := R_iconst hc_87 dX5_voteOn_25 (by decide) rfl
theorem r_87_26 (ls : List Value) (x : Int32) (ws : ai_W) : ai_Run 87 26 ls [.int x] ws = some (some (.int x), ws) := R_iret hc_87 dX5_voteOn_26 ht_87
theorem dX5_votes_0 : decode cX5_votes 0 = .ok (.iconst 0, 1) := by decide +kernel
theorem dX5_votes_1 : decode cX5_votes 1 = .ok (.istore_n 2, 1) := by decide +kernel
theorem dX5_votes_2 : decode cX5_votes 2 = .ok (.iconst 0, 1) := by decide +kernel
theorem dX5_votes_3 : decode cX5_votes 3 = .ok (.istore_n 3, 1) := by decide +kernel
theorem dX5_votes_4 : decode cX5_votes 4 = .ok (.iload_n 3, 1) := by decide +kernel
theorem dX5_votes_5 : decode cX5_votes 5 = .ok (.bipush 7, 2) := by decide +kernel
theorem dX5_votes_7 : decode cX5_votes 7 = .ok (.if_icmp .ge 18, 3) := by decide +kernel
theorem dX5_votes_10 : decode cX5_votes 10 = .ok (.iload_n 2, 1) := by decide +kernel
theorem dX5_votes_11 : decode cX5_votes 11 = .ok (.aload_n 0, 1) := by decide +kernel
theorem dX5_votes_12 : decode cX5_votes 12 = .ok (.iload_n 3, 1) := by decide +kernel
theorem dX5_votes_13 : decode cX5_votes 13 = .ok (.iload_n 1, 1) := by decide +kernel
theorem dX5_votes_14 : decode cX5_votes 14 = .ok (.invokevirtual 31, 3) := by decide +kernel
theorem dX5_votes_17 : decode cX5_votes 17 = .ok (.iadd, 1) := by decide +kernel
theorem dX5_votes_18 : decode cX5_votes 18 = .ok (.istore_n 2, 1) := by decide +kernel
theorem dX5_votes_19 : decode cX5_votes 19 = .ok (.iinc 3 1, 3) := by decide +kernel
theorem dX5_votes_22 : decode cX5_votes 22 = .ok (.goto (-18), 3) := by decide +kernel
theorem dX5_votes_25 : decode cX5_votes 25 = .ok (.iload_n 2, 1) := by decide +kernel
theorem dX5_votes_26 : decode cX5_votes 26 = .ok (.ireturn, 1) := by decide +kernel
theorem e_88 (r : Nat) (a0 : Int32) (ws : ai_W) : ai_Call 88 [.ref r, .int a0] ws = if ai_isob ws r 5 = true then ai_Run 88 0 [.ref r, .int a0, .null, .null] [] ws else none := R_entV hk_88 ⟨⟨rfl, rfl⟩, Nat.le_of_ble_eq_true rfl⟩ rfl
theorem r_88_0 (ls st : List Value) (ws : ai_W) : ai_Run 88 0 ls st ws = ai_Run 88 1 ls (.int 0 :: st) ws := R_iconst hc_88 dX5_votes_0 (by decide) rfl
theorem r_88_1 (l0 l1 l2 l3 : Value) (a : Int32) (st : List Value) (ws : ai_W) : ai_Run 88 1 [l0, l1, l2, l3] (.int a :: st) ws = ai_Run 88 2 [l0, l1, .int a, l3] st ws := R_istore_n hc_88 dX5_votes_1 (Nat.le_of_ble_eq_true rfl) rfl rfl
theorem r_88_2 (ls st : List Value) (ws : ai_W) : ai_Run 88 2 ls st ws = ai_Run 88 3 ls (.int 0 :: st) ws := R_iconst hc_88 dX5_votes_2 (by decide) rfl
theorem r_88_3 (l0 l1 l2 l3 : Value) (a : Int32) (st : List Value) (ws : ai_W) : ai_Run 88 3 [l0, l1, l2, l3] (.int a :: st) ws = ai_Run 88 4 [l0, l1, l2, .int a] st ws := R_istore_n hc_88 dX5_votes_3 (Nat.le_of_ble_eq_true rfl) rfl rfl
theorem r_88_4 (l0 l1 l2 : Value) (a : Int32) (st : List Value) (ws : ai_W) : ai_Run 88 4 [l0, l1, l2, .int a] st ws = ai_Run 88 5 [l0, l1, l2, .int a] (.int a :: st) ws := R_iload_n hc_88 dX5_votes_4 rfl rfl
theorem r_88_5 (ls st : List Value) (ws : ai_W) : ai_Run 88 5 ls st ws = ai_Run 88 7 ls (.int 7 :: st) ws := R_bipush hc_88 dX5_votes_5 (by decide) rfl
theorem r_88_7 (ls st : List Value) (a b : Int32) (ws : ai_W) : ai_Run 88 7 ls (.int b :: .int a :: st) ws = if a < b then ai_Run 88 10 ls st ws else ai_Run 88 25 ls st ws := R_cmp_ge hc_88 dX5_votes_7 rfl rfl
theorem r_88_10 (l0 l1 l3 : Value) (a : Int32) (st : List Value) (ws : ai_W) : ai_Run 88 10 [l0, l1, .int a, l3] st ws = ai_Run 88 11 [l0, l1, .int a, l3] (.int a :: st) ws := R_iload_n hc_88 dX5_votes_10 rfl rfl
theorem r_88_11 (l1 l2 l3 : Value) (a : Nat) (st : List Value) (ws : ai_W) : ai_Run 88 11 [.ref a, l1, l2, l3] st ws = ai_Run 88 12 [.ref a, l1, l2, l3] (.ref a :: st) ws := R_aload_n hc_88 dX5_votes_11 rfl rfl
theorem r_88_12 (l0 l1 l2 : Value) (a : Int32) (st : List Value) (ws : ai_W) : ai_Run 88 12 [l0, l1, l2, .int a] st ws = ai_Run 88 13 [l0, l1, l2, .int a] (.int a :: st) ws := R_iload_n hc_88 dX5_votes_12 rfl rfl
theorem r_88_13 (l0 l2 l3 : Value) (a : Int32) (st : List Value) (ws : ai_W) : ai_Run 88 13 [l0, .int a, l2, l3] st ws = ai_Run 88 14 [l0, .int a, l2, l3] (.int a :: st) ws := R_iload_n hc_88 dX5_votes_13 rfl rfl
theorem r_88_14 (ls : List Value) (r : Nat) (b0 : Int32) (b1 : Int32) (s0 : Value) (ws : ai_W) : ai_Run 88 14 ls [.int b1, .int b0, .ref r, s0] ws = (ai_Call 87 [.ref r, .int b0, .int b1] ws).bind fun q => ai_Run 88 17 ls (q.1.toList ++ [s0]) q.2 := R_callV hc_88 dX5_votes_14 hv_88 (w := 243) rfl (ai_lt3 hf_87 hf_88 hL_87 ho_87 ho_88 rfl) hk_87 (by rw [hn_87]; rfl) rfl (Nat.le_of_ble_eq_true rfl) rfl
theorem r_88_17 (ls st : List Value) (a b : Int32) (ws : ai_W) : ai_Run 88 17 ls (.int b :: .int a :: st) ws = ai_Run 88 18 ls (.int (a + b) :: st) ws := R_iadd hc_88 dX5_votes_17 rfl
theorem r_88_18 (l0 l1 l2 l3 : Value) (a : Int32) (st : List Value) (ws : ai_W) : ai_Run 88 18 [l0, l1, l2, l3] (.int a :: st) ws = ai_Run 88 19 [l0, l1, .int a, l3] st ws := R_istore_n hc_88 dX5_votes_18 (Nat.le_of_ble_eq_true rfl) rfl rfl
theorem r_88_19 (l0 l1 l2 : Value) (a : Int32) (st : List Value) (ws : ai_W) : ai_Run 88 19 [l0, l1, l2, .int a] st ws = ai_Run 88 22 [l0, l1, l2, .int (a + 1)] st ws := R_iinc hc_88 dX5_votes_19 rfl (by decide) rfl rfl
theorem r_88_22 (ls st : List Value) (ws : ai_W) : ai_Run 88 22 ls st ws = ai_Run 88 4 ls st ws := R_goto hc_88 dX5_votes_22 rfl
theorem r_88_25 (l0 l1 l3 : Value) (a : Int32) (st : List Value) (ws : ai_W) : ai_Run 88 25 [l0, l1, .int a, l3] st ws = ai_Run 88 26 [l0, l1, .int a, l3] (.int a :: st) ws := R_iload_n hc_88 dX5_votes_25 rfl rfl
theorem r_88_26 (ls : List Value) (x : Int32) (ws : ai_W) : ai_Run 88 26 ls [.int x] ws = some (some (.int x), ws) := R_iret hc_88 dX5_votes_26 ht_88
theorem dX5_findsGuilty_0 : decode cX5_findsGuilty 0 = .ok (.iconst 2, 1) := by decide +kernel
theorem dX5_findsGuilty_1 : decode cX5_findsGuilty 1 = .ok (.aload_n 0, 1) := by decide +kernel
theorem dX5_findsGuilty_2 : decode cX5_findsGuilty 2 = .ok (.iload_n 1, 1) := by decide +kernel
theorem dX5_findsGuilty_3 : decode cX5_findsGuilty 3 = .ok (.invokevirtual 35, 3) := by decide +kernel
theorem dX5_findsGuilty_6 : decode cX5_findsGuilty 6 = .ok (.imul, 1) := by decide +kernel
theorem dX5_findsGuilty_7 : decode cX5_findsGuilty 7 = .ok (.aload_n 0, 1) := by decide +kernel
theorem dX5_findsGuilty_8 : decode cX5_findsGuilty 8 = .ok (.invokevirtual 38, 3) := by decide +kernel
theorem dX5_findsGuilty_11 : decode cX5_findsGuilty 11 = .ok (.if_icmp .le 7, 3) := by decide +kernel
theorem dX5_findsGuilty_14 : decode cX5_findsGuilty 14 = .ok (.iconst 1, 1) := by decide +kernel
theorem dX5_findsGuilty_15 : decode cX5_findsGuilty 15 = .ok (.goto 4, 3) := by decide +kernel
theorem dX5_findsGuilty_18 : decode cX5_findsGuilty 18 = .ok (.iconst 0, 1) := by decide +kernel
theorem dX5_findsGuilty_19 : decode cX5_findsGuilty 19 = .ok (.ireturn, 1) := by decide +kernel
theorem e_89 (r : Nat) (a0 : Int32) (ws : ai_W) : ai_Call 89 [.ref r, .int a0] ws = if ai_isob ws r 5 = true then ai_Run 89 0 [.ref r, .int a0] [] ws else none := R_entV hk_89 ⟨⟨rfl, rfl⟩, Nat.le_of_ble_eq_true rfl⟩ rfl
theorem r_89_0 (ls st : List Value) (ws : ai_W) : ai_Run 89 0 ls st ws = ai_Run 89 1 ls (.int 2 :: st) ws := R_iconst hc_89 dX5_findsGuilty_0 (by decide) rfl
theorem r_89_1 (l1 : Value) (a : Nat) (st : List Value) (ws : ai_W) : ai_Run 89 1 [.ref a, l1] st ws = ai_Run 89 2 [.ref a, l1] (.ref a :: st) ws := R_aload_n hc_89 dX5_findsGuilty_1 rfl rfl
theorem r_89_2 (l0 : Value) (a : Int32) (st : List Value) (ws : ai_W) : ai_Run 89 2 [l0, .int a] st ws = ai_Run 89 3 [l0, .int a] (.int a :: st) ws := R_iload_n hc_89 dX5_findsGuilty_2 rfl rfl
theorem r_89_3 (ls : List Value) (r : Nat) (b0 : Int32) (s0 : Value) (ws : ai_W) : ai_Run 89 3 ls [.int b0, .ref r, s0] ws = (ai_Call 88 [.ref r, .int b0] ws).bind fun q => ai_Run 89 6 ls (q.1.toList ++ [s0]) q.2 := R_callV hc_89 dX5_findsGuilty_3 hv_89 (w := 260) rfl (ai_lt3 hf_88 hf_89 hL_88 ho_88 ho_89 rfl) hk_88 (by rw [hn_88]; rfl) rfl (Nat.le_of_ble_eq_true rfl) rfl
theorem r_89_6 (ls st : List Value) (a b : Int32) (ws : ai_W) : ai_Run 89 6 ls (.int b :: .int a :: st) ws = ai_Run 89 7 ls (.int (a * b) :: st) ws := R_imul hc_89 dX5_findsGuilty_6 rfl
theorem r_89_7 (l1 : Value) (a : Nat) (st : List Value) (ws : ai_W) : ai_Run 89 7 [.ref a, l1] st ws = ai_Run 89 8 [.ref a, l1] (.ref a :: st) ws := R_aload_n hc_89 dX5_findsGuilty_7 rfl rfl
theorem r_89_8 (ls : List Value) (r : Nat) (s0 : Value) (ws : ai_W) : ai_Run 89 8 ls [.ref r, s0] ws = (ai_Call 22 [.ref r] ws).bind fun q => ai_Run 89 11 ls (q.1.toList ++ [s0]) q.2 := R_callV hc_89 dX5_findsGuilty_8 hv_89 (w := 261) rfl (ai_lt3 hf_22 hf_89 hL_22 ho_22 ho_89 rfl) hk_22 (by rw [hn_22]; rfl) rfl (Nat.le_of_ble_eq_true rfl) rfl
theorem r_89_11 (ls st : List Value) (a b : Int32) (ws : ai_W) : ai_Run 89 11 ls (.int b :: .int a :: st) ws = if b < a then ai_Run 89 14 ls st ws else ai_Run 89 18 ls st ws := R_cmp_le hc_89 dX5_findsGuilty_11 rfl rfl
theorem r_89_14 (ls st : List Value) (ws : ai_W) : ai_Run 89 14 ls st ws = ai_Run 89 15 ls (.int 1 :: st) ws := R_iconst hc_89 dX5_findsGuilty_14 (by decide) rfl
theorem r_89_15 (ls st : List Value) (ws : ai_W) : ai_Run 89 15 ls st ws = ai_Run 89 19 ls st ws := R_goto hc_89 dX5_findsGuilty_15 rfl
theorem r_89_18 (ls st : List Value) (ws : ai_W) : ai_Run 89 18 ls st ws = ai_Run 89 19 ls (.int 0 :: st) ws := R_iconst hc_89 dX5_findsGuilty_18 (by decide) rfl
theorem r_89_19 (ls : List Value) (x : Int32) (ws : ai_W) : ai_Run 89 19 ls [.int x] ws = if ai_pb x = true then some (some (.int x), ws) else none := R_zret hc_89 dX5_findsGuilty_19 ht_89
theorem dX1_holdTrial_0 : decode cX1_holdTrial 0 = .ok (.aload_n 0, 1) := by decide +kernel
theorem dX1_holdTrial_1 : decode cX1_holdTrial 1 = .ok (.getfield 9, 3) := by decide +kernel
theorem dX1_holdTrial_4 : decode cX1_holdTrial 4 = .ok (.iload_n 1, 1) := by decide +kernel
theorem dX1_holdTrial_5 : decode cX1_holdTrial 5 = .ok (.iload_n 2, 1) := by decide +kernel
theorem dX1_holdTrial_6 : decode cX1_holdTrial 6 = .ok (.iload_n 3, 1) := by decide +kernel
theorem dX1_holdTrial_7 : decode cX1_holdTrial 7 = .ok (.invokevirtual 122, 3) := by decide +kernel
theorem dX1_holdTrial_10 : decode cX1_holdTrial 10 = .ok (.ifCond .ne 5, 3) := by decide +kernel
theorem dX1_holdTrial_13 : decode cX1_holdTrial 13 = .ok (.iconst (-1), 1) := by decide +kernel
theorem dX1_holdTrial_14 : decode cX1_holdTrial 14 = .ok (.ireturn, 1) := by decide +kernel
theorem dX1_holdTrial_15 : decode cX1_holdTrial 15 = .ok (.iload_n 1, 1) := by decide +kernel
theorem dX1_holdTrial_16 : decode cX1_holdTrial 16 = .ok (.iload_n 2, 1) := by decide +kernel
theorem dX1_holdTrial_17 : decode cX1_holdTrial 17 = .ok (.if_icmp .ne 14, 3) := by decide +kernel
theorem dX1_holdTrial_20 : decode cX1_holdTrial 20 = .ok (.aload_n 0, 1) := by decide +kernel
theorem dX1_holdTrial_21 : decode cX1_holdTrial 21 = .ok (.getfield 23, 3) := by decide +kernel
theorem dX1_holdTrial_24 : decode cX1_holdTrial 24 = .ok (.bipush 6, 2) := by decide +kernel
theorem dX1_holdTrial_26 : decode cX1_holdTrial 26 = .ok (.iload_n 1, 1) := by decide +kernel
theorem dX1_holdTrial_27 : decode cX1_holdTrial 27 = .ok (.invokevirtual 33, 3) := by decide +kernel
theorem dX1_holdTrial_30 : decode cX1_holdTrial 30 = .ok (.ireturn, 1) := by decide +kernel
theorem dX1_holdTrial_31 : decode cX1_holdTrial 31 = .ok (.aload_n 0, 1) := by decide +kernel
theorem dX1_holdTrial_32 : decode cX1_holdTrial 32 = .ok (.getfield 9, 3) := by decide +kernel
theorem dX1_holdTrial_35 : decode cX1_holdTrial 35 = .ok (.iload_n 2, 1) := by decide +kernel
theorem dX1_holdTrial_36 : decode cX1_holdTrial 36 = .ok (.iload_n 3, 1) := by decide +kernel
theorem dX1_holdTrial_37 : decode cX1_holdTrial 37 = .ok (.invokevirtual 126, 3) := by decide +kernel
theorem dX1_holdTrial_40 : decode cX1_holdTrial 40 = .ok (.ifCond .eq 22, 3) := by decide +kernel
theorem dX1_holdTrial_43 : decode cX1_holdTrial 43 = .ok (.aload_n 0, 1) := by decide +kernel
theorem dX1_holdTrial_44 : decode cX1_holdTrial 44 = .ok (.getfield 23, 3) := by decide +kernel
theorem dX1_holdTrial_47 : decode cX1_holdTrial 47 = .ok (.bipush 8, 2) := by decide +kernel
theorem dX1_holdTrial_49 : decode cX1_holdTrial 49 = .ok (.aload_n 0, 1) := by decide +kernel
theorem dX1_holdTrial_50 : decode cX1_holdTrial 50 = .ok (.getfield 9, 3) := by decide +kernel
theorem dX1_holdTrial_53 : decode cX1_holdTrial 53 = .ok (.iload_n 2, 1) := by decide +kernel
theorem dX1_holdTrial_54 : decode cX1_holdTrial 54 = .ok (.iload_n 3, 1) := by decide +kernel
theorem dX1_holdTrial_55 : decode cX1_holdTrial 55 = .ok (.invokevirtual 129, 3) := by decide +kernel
theorem dX1_holdTrial_58 : decode cX1_holdTrial 58 = .ok (.invokevirtual 33, 3) := by decide +kernel
theorem dX1_holdTrial_61 : decode cX1_holdTrial 61 = .ok (.ireturn, 1) := by decide +kernel
theorem dX1_holdTrial_62 : decode cX1_holdTrial 62 = .ok (.aload_n 0, 1) := by decide +kernel
theorem dX1_holdTrial_63 : decode cX1_holdTrial 63 = .ok (.getfield 15, 3) := by decide +kernel
theorem dX1_holdTrial_66 : decode cX1_holdTrial 66 = .ok (.iload_n 1, 1) := by decide +kernel
theorem dX1_holdTrial_67 : decode cX1_holdTrial 67 = .ok (.iload_n 2, 1) := by decide +kernel
theorem dX1_holdTrial_68 : decode cX1_holdTrial 68 = .ok (.iload_n 3, 1) := by decide +kernel
theorem dX1_holdTrial_69 : decode cX1_holdTrial 69 = .ok (.invokevirtual 132, 3) := by decide +kernel
theorem dX1_holdTrial_72 : decode cX1_holdTrial 72 = .ok (.ifCond .ne 22, 3) := by decide +kernel
theorem dX1_holdTrial_75 : decode cX1_holdTrial 75 = .ok (.aload_n 0, 1) := by decide +kernel
theorem dX1_holdTrial_76 : decode cX1_holdTrial 76 = .ok (.getfield 23, 3) := by decide +kernel
theorem dX1_holdTrial_79 : decode cX1_holdTrial 79 = .ok (.bipush 9, 2) := by decide +kernel
theorem dX1_holdTrial_81 : decode cX1_holdTrial 81 = .ok (.aload_n 0, 1) := by decide +kernel
theorem dX1_holdTrial_82 : decode cX1_holdTrial 82 = .ok (.getfield 9, 3) := by decide +kernel
theorem dX1_holdTrial_85 : decode cX1_holdTrial 85 = .ok (.iload_n 2, 1) := by decide +kernel
theorem dX1_holdTrial_86 : decode cX1_holdTrial 86 = .ok (.iload_n 3, 1) := by decide +kernel
theorem dX1_holdTrial_87 : decode cX1_holdTrial 87 = .ok (.invokevirtual 137, 3) := by decide +kernel
theorem dX1_holdTrial_90 : decode cX1_holdTrial 90 = .ok (.invokevirtual 33, 3) := by decide +kernel
theorem dX1_holdTrial_93 : decode cX1_holdTrial 93 = .ok (.ireturn, 1) := by decide +kernel
theorem dX1_holdTrial_94 : decode cX1_holdTrial 94 = .ok (.aload_n 0, 1) := by decide +kernel
theorem dX1_holdTrial_95 : decode cX1_holdTrial 95 = .ok (.getfield 19, 3) := by decide +kernel
theorem dX1_holdTrial_98 : decode cX1_holdTrial 98 = .ok (.invokevirtual 119, 3) := by decide +kernel
theorem dX1_holdTrial_101 : decode cX1_holdTrial 101 = .ok (.ifCond .ne 20, 3) := by decide +kernel
theorem dX1_holdTrial_104 : decode cX1_holdTrial 104 = .ok (.aload_n 0, 1) := by decide +kernel
theorem dX1_holdTrial_105 : decode cX1_holdTrial 105 = .ok (.getfield 23, 3) := by decide +kernel
theorem dX1_holdTrial_108 : decode cX1_holdTrial 108 = .ok (.bipush 10, 2) := by decide +kernel
theorem dX1_holdTrial_110 : decode cX1_holdTrial 110 = .ok (.aload_n 0, 1) := by decide +kernel
theorem dX1_holdTrial_111 : decode cX1_holdTrial 111 = .ok (.getfield 9, 3) := by decide +kernel
theorem dX1_holdTrial_114 : decode cX1_holdTrial 114 = .ok (.getfield 140, 3) := by decide +kernel
theorem dX1_holdTrial_117 : decode cX1_holdTrial 117 = .ok (.invokevirtual 33, 3) := by decide +kernel
theorem dX1_holdTrial_120 : decode cX1_holdTrial 120 = .ok (.ireturn, 1) := by decide +kernel
theorem dX1_holdTrial_121 : decode cX1_holdTrial 121 = .ok (.aload_n 0, 1) := by decide +kernel
theorem dX1_holdTrial_122 : decode cX1_holdTrial 122 = .ok (.getfield 9, 3) := by decide +kernel
theorem dX1_holdTrial_125 : decode cX1_holdTrial 125 = .ok (.dup, 1) := by decide +kernel
theorem dX1_holdTrial_126 : decode cX1_holdTrial 126 = .ok (.getfield 140, 3) := by decide +kernel
theorem dX1_holdTrial_129 : decode cX1_holdTrial 129 = .ok (.iconst 1, 1) := by decide +kernel
theorem dX1_holdTrial_130 : decode cX1_holdTrial 130 = .ok (.iadd, 1) := by decide +kernel
theorem dX1_holdTrial_131 : decode cX1_holdTrial 131 = .ok (.putfield 140, 3) := by decide +kernel
theorem dX1_holdTrial_134 : decode cX1_holdTrial 134 = .ok (.aload_n 0, 1) := by decide +kernel
theorem dX1_holdTrial_135 : decode cX1_holdTrial 135 = .ok (.getfield 19, 3) := by decide +kernel
theorem dX1_holdTrial_138 : decode cX1_holdTrial 138 = .ok (.aload_n 0, 1) := by decide +kernel
theorem dX1_holdTrial_139 : decode cX1_holdTrial 139 = .ok (.getfield 15, 3) := by decide +kernel
theorem dX1_holdTrial_142 : decode cX1_holdTrial 142 = .ok (.iload_n 1, 1) := by decide +kernel
theorem dX1_holdTrial_143 : decode cX1_holdTrial 143 = .ok (.iload_n 2, 1) := by decide +kernel
theorem dX1_holdTrial_144 : decode cX1_holdTrial 144 = .ok (.iload_n 3, 1) := by decide +kernel
theorem dX1_holdTrial_145 : decode cX1_holdTrial 145 = .ok (.invokevirtual 143, 3) := by decide +kernel
theorem dX1_holdTrial_148 : decode cX1_holdTrial 148 = .ok (.invokevirtual 147, 3) := by decide +kernel
theorem dX1_holdTrial_151 : decode cX1_holdTrial 151 = .ok (.ifCond .ne 5, 3) := by decide +kernel
theorem dX1_holdTrial_154 : decode cX1_holdTrial 154 = .ok (.iconst 0, 1) := by decide +kernel
theorem dX1_holdTrial_155 : decode cX1_holdTrial 155 = .ok (.ireturn, 1) := by decide +kernel
theorem dX1_holdTrial_156 : decode cX1_holdTrial 156 = .ok (.aload_n 0, 1) := by decide +kernel
theorem dX1_holdTrial_157 : decode cX1_holdTrial 157 = .ok (.getfield 9, 3) := by decide +kernel
theorem dX1_holdTrial_160 : decode cX1_holdTrial 160 = .ok (.iload_n 2, 1) := by decide +kernel
theorem dX1_holdTrial_161 : decode cX1_holdTrial 161 = .ok (.iload_n 3, 1) := by decide +kernel
theorem dX1_holdTrial_162 : decode cX1_holdTrial 162 = .ok (.iload_n 1, 1) := by decide +kernel
theorem dX1_holdTrial_163 : decode cX1_holdTrial 163 = .ok (.invokevirtual 150, 3) := by decide +kernel
theorem dX1_holdTrial_166 : decode cX1_holdTrial 166 = .ok (.iconst 1, 1) := by decide +kernel
theorem dX1_holdTrial_167 : decode cX1_holdTrial 167 = .ok (.ireturn, 1) := by decide +kernel
theorem e_90 (r : Nat) (a0 : Int32) (a1 : Int32) (a2 : Int32) (ws : ai_W) : ai_Call 90 [.ref r, .int a0, .int a1, .int a2] ws = if ai_isob ws r 1 = true then ai_Run 90 0 [.ref r, .int a0, .int a1, .int a2] [] ws else none := R_entV hk_90 ⟨⟨rfl, rfl⟩, Nat.le_of_ble_eq_true rfl⟩ rfl
theorem r_90_0 (l1 l2 l3 : Value) (a : Nat) (st : List Value) (ws : ai_W) : ai_Run 90 0 [.ref a, l1, l2, l3] st ws = ai_Run 90 1 [.ref a, l1, l2, l3] (.ref a :: st) ws := R_aload_n hc_90 dX1_holdTrial_0 rfl rfl
theorem r_90_1 (ls st : List Value) (a : Nat) (ws : ai_W) : ai_Run 90 1 ls (.ref a :: st) ws = (ai_fget ws a 1 0).bind fun q => ai_Run 90 4 ls (q :: st) ws := R_getf hc_90 dX1_holdTrial_1 hv_90 (w := 573) rfl rfl
theorem r_90_4 (l0 l2 l3 : Value) (a : Int32) (st : List Value) (ws : ai_W) : ai_Run 90 4 [l0, .int a, l2, l3] st ws = ai_Run 90 5 [l0, .int a, l2, l3] (.int a :: st) ws := R_iload_n hc_90 dX1_holdTrial_4 rfl rfl
theorem r_90_5 (l0 l1 l3 : Value) (a : Int32) (st : List Value) (ws : ai_W) : ai_Run 90 5 [l0, l1, .int a, l3] st ws = ai_Run 90 6 [l0, l1, .int a, l3] (.int a :: st) ws := R_iload_n hc_90 dX1_holdTrial_5 rfl rfl
theorem r_90_6 (l0 l1 l2 : Value) (a : Int32) (st : List Value) (ws : ai_W) : ai_Run 90 6 [l0, l1, l2, .int a] st ws = ai_Run 90 7 [l0, l1, l2, .int a] (.int a :: st) ws := R_iload_n hc_90 dX1_holdTrial_6 rfl rfl
theorem r_90_7 (ls : List Value) (r : Nat) (b0 : Int32) (b1 : Int32) (b2 : Int32) (ws : ai_W) : ai_Run 90 7 ls [.int b2, .int b1, .int b0, .ref r] ws = (ai_Call 83 [.ref r, .int b0, .int b1, .int b2] ws).bind fun q => ai_Run 90 10 ls (q.1.toList ++ []) q.2 := R_callV hc_90 dX1_holdTrial_7 hv_90 (w := 744) rfl (ai_lt3 hf_83 hf_90 hL_83 ho_83 ho_90 rfl) hk_83 (by rw [hn_83]; rfl) rfl (Nat.le_of_ble_eq_true rfl) rfl
theorem r_90_10 (ls st : List Value) (a : Int32) (ws : ai_W) : ai_Run 90 10 ls (.int a :: st) ws = if a = 0 then ai_Run 90 13 ls st ws else ai_Run 90 15 ls st ws := R_if_ne hc_90 dX1_holdTrial_10 rfl rfl
theorem r_90_13 (ls st : List Value) (ws : ai_W) : ai_Run 90 13 ls st ws = ai_Run 90 14 ls (.int (-1) :: st) ws := R_iconst hc_90 dX1_holdTrial_13 (by decide) rfl
theorem r_90_14 (ls : List Value) (x : Int32) (ws : ai_W) : ai_Run 90 14 ls [.int x] ws = some (some (.int x), ws) := R_iret hc_90 dX1_holdTrial_14 ht_90
theorem r_90_15 (l0 l2 l3 : Value) (a : Int32) (st : List Value) (ws : ai_W) : ai_Run 90 15 [l0, .int a, l2, l3] st ws = ai_Run 90 16 [l0, .int a, l2, l3] (.int a :: st) ws := R_iload_n hc_90 dX1_holdTrial_15 rfl rfl
theorem r_90_16 (l0 l1 l3 : Value) (a : Int32) (st : List Value) (ws : ai_W) : ai_Run 90 16 [l0, l1, .int a, l3] st ws = ai_Run 90 17 [l0, l1, .int a, l3] (.int a :: st) ws := R_iload_n hc_90 dX1_holdTrial_16 rfl rfl
theorem r_90_17 (ls st : List Value) (a b : Int32) (ws : ai_W) : ai_Run 90 17 ls (.int b :: .int a :: st) ws = if a = b then ai_Run 90 20 ls st ws else ai_Run 90 31 ls st ws := R_cmp_ne hc_90 dX1_holdTrial_17 rfl rfl
theorem r_90_20 (l1 l2 l3 : Value) (a : Nat) (st : List Value) (ws : ai_W) : ai_Run 90 20 [.ref a, l1, l2, l3] st ws = ai_Run 90 21 [.ref a, l1, l2, l3] (.ref a :: st) ws := R_aload_n hc_90 dX1_holdTrial_20 rfl rfl
theorem r_90_21 (ls st : List Value) (a : Nat) (ws : ai_W) : ai_Run 90 21 ls (.ref a :: st) ws = (ai_fget ws a 1 3).bind fun q => ai_Run 90 24 ls (q :: st) ws := R_getf hc_90 dX1_holdTrial_21 hv_90 (w := 576) rfl rfl
theorem r_90_24 (ls st : List Value) (ws : ai_W) : ai_Run 90 24 ls st ws = ai_Run 90 26 ls (.int 6 :: st) ws := R_bipush hc_90 dX1_holdTrial_24 (by decide) rfl
theorem r_90_26 (l0 l2 l3 : Value) (a : Int32) (st : List Value) (ws : ai_W) : ai_Run 90 26 [l0, .int a, l2, l3] st ws = ai_Run 90 27 [l0, .int a, l2, l3] (.int a :: st) ws := R_iload_n hc_90 dX1_holdTrial_26 rfl rfl
theorem r_90_27 (ls : List Value) (r : Nat) (b0 : Int32) (b1 : Int32) (ws : ai_W) : ai_Run 90 27 ls [.int b1, .int b0, .ref r] ws = (ai_Call 47 [.ref r, .int b0, .int b1] ws).bind fun q => ai_Run 90 30 ls (q.1.toList ++ []) q.2 := R_callV hc_90 dX1_holdTrial_27 hv_90 (w := 84) rfl (ai_lt3 hf_47 hf_90 hL_47 ho_47 ho_90 rfl) hk_47 (by rw [hn_47]; rfl) rfl (Nat.le_of_ble_eq_true rfl) rfl
theorem r_90_30 (ls : List Value) (x : Int32) (ws : ai_W) : ai_Run 90 30 ls [.int x] ws = some (some (.int x), ws) := R_iret hc_90 dX1_holdTrial_30 ht_90
theorem r_90_31 (l1 l2 l3 : Value) (a : Nat) (st : List Value) (ws : ai_W) : ai_Run 90 31 [.ref a, l1, l2, l3] st ws = ai_Run 90 32 [.ref a, l1, l2, l3] (.ref a :: st) ws := R_aload_n hc_90 dX1_holdTrial_31 rfl rfl
theorem r_90_32 (ls st : List Value) (a : Nat) (ws : ai_W) : ai_Run 90 32 ls (.ref a :: st) ws = (ai_fget ws a 1 0).bind fun q => ai_Run 90 35 ls (q :: st) ws := R_getf hc_90 dX1_holdTrial_32 hv_90 (w := 573) rfl rfl
theorem r_90_35 (l0 l1 l3 : Value) (a : Int32) (st : List Value) (ws : ai_W) : ai_Run 90 35 [l0, l1, .int a, l3] st ws = ai_Run 90 36 [l0, l1, .int a, l3] (.int a :: st) ws := R_iload_n hc_90 dX1_holdTrial_35 rfl rfl
theorem r_90_36 (l0 l1 l2 : Value) (a : Int32) (st : List Value) (ws : ai_W) : ai_Run 90 36 [l0, l1, l2, .int a] st ws = ai_Run 90 37 [l0, l1, l2, .int a] (.int a :: st) ws := R_iload_n hc_90 dX1_holdTrial_36 rfl rfl
theorem r_90_37 (ls : List Value) (r : Nat) (b0 : Int32) (b1 : Int32) (ws : ai_W) : ai_Run 90 37 ls [.int b1, .int b0, .ref r] ws = (ai_Call 18 [.ref r, .int b0, .int b1] ws).bind fun q => ai_Run 90 40 ls (q.1.toList ++ []) q.2 := R_callV hc_90 dX1_holdTrial_37 hv_90 (w := 745) rfl (ai_lt3 hf_18 hf_90 hL_18 ho_18 ho_90 rfl) hk_18 (by rw [hn_18]; rfl) rfl (Nat.le_of_ble_eq_true rfl) rfl
theorem r_90_40 (ls st : List Value) (a : Int32) (ws : ai_W) : ai_Run 90 40 ls (.int a :: st) ws = if a = 0 then ai_Run 90 62 ls st ws else ai_Run 90 43 ls st ws := R_if_eq hc_90 dX1_holdTrial_40 rfl rfl
theorem r_90_43 (l1 l2 l3 : Value) (a : Nat) (st : List Value) (ws : ai_W) : ai_Run 90 43 [.ref a, l1, l2, l3] st ws = ai_Run 90 44 [.ref a, l1, l2, l3] (.ref a :: st) ws := R_aload_n hc_90 dX1_holdTrial_43 rfl rfl
theorem r_90_44 (ls st : List Value) (a : Nat) (ws : ai_W) : ai_Run 90 44 ls (.ref a :: st) ws = (ai_fget ws a 1 3).bind fun q => ai_Run 90 47 ls (q :: st) ws := R_getf hc_90 dX1_holdTrial_44 hv_90 (w := 576) rfl rfl
theorem r_90_47 (ls st : List Value) (ws : ai_W) : ai_Run 90 47 ls st ws = ai_Run 90 49 ls (.int 8 :: st) ws := R_bipush hc_90 dX1_holdTrial_47 (by decide) rfl
theorem r_90_49 (l1 l2 l3 : Value) (a : Nat) (st : List Value) (ws : ai_W) : ai_Run 90 49 [.ref a, l1, l2, l3] st ws = ai_Run 90 50 [.ref a, l1, l2, l3] (.ref a :: st) ws := R_aload_n hc_90 dX1_holdTrial_49 rfl rfl
theorem r_90_50 (ls st : List Value) (a : Nat) (ws : ai_W) : ai_Run 90 50 ls (.ref a :: st) ws = (ai_fget ws a 1 0).bind fun q => ai_Run 90 53 ls (q :: st) ws := R_getf hc_90 dX1_holdTrial_50 hv_90 (w := 573) rfl rfl
theorem r_90_53 (l0 l1 l3 : Value) (a : Int32) (st : List Value) (ws : ai_W) : ai_Run 90 53 [l0, l1, .int a, l3] st ws = ai_Run 90 54 [l0, l1, .int a, l3] (.int a :: st) ws := R_iload_n hc_90 dX1_holdTrial_53 rfl rfl
theorem r_90_54 (l0 l1 l2 : Value) (a : Int32) (st : List Value) (ws : ai_W) : ai_Run 90 54 [l0, l1, l2, .int a] st ws = ai_Run 90 55 [l0, l1, l2, .int a] (.int a :: st) ws := R_iload_n hc_90 dX1_holdTrial_54 rfl rfl
theorem r_90_55 (ls : List Value) (r : Nat) (b0 : Int32) (b1 : Int32) (s0 s1 : Value) (ws : ai_W) : ai_Run 90 55 ls [.int b1, .int b0, .ref r, s0, s1] ws = (ai_Call 17 [.ref r, .int b0, .int b1] ws).bind fun q => ai_Run 90 58 ls (q.1.toList ++ [s0, s1]) q.2 := R_callV hc_90 dX1_holdTrial_55 hv_90 (w := 746) rfl (ai_lt3 hf_17 hf_90 hL_17 ho_17 ho_90 rfl) hk_17 (by rw [hn_17]; rfl) rfl (Nat.le_of_ble_eq_true rfl) rfl
theorem r_90_58 (ls : List Value) (r : Nat) (b0 : Int32) (b1 : Int32) (ws : ai_W) : ai_Run 90 58 ls [.int b1, .int b0, .ref r] ws = (ai_Call 47 [.ref r, .int b0, .int b1] ws).bind fun q => ai_Run 90 61 ls (q.1.toList ++ []) q.2 := R_callV hc_90 dX1_holdTrial_58 hv_90 (w := 84) rfl (ai_lt3 hf_47 hf_90 hL_47 ho_47 ho_90 rfl) hk_47 (by rw [hn_47]; rfl) rfl (Nat.le_of_ble_eq_true rfl) rfl
theorem r_90_61 (ls : List Value) (x : Int32) (ws : ai_W) : ai_Run 90 61 ls [.int x] ws = some (some (.int x), ws) := R_iret hc_90 dX1_holdTrial_61 ht_90
theorem r_90_62 (l1 l2 l3 : Value) (a : Nat) (st : List Value) (ws : ai_W) : ai_Run 90 62 [.ref a, l1, l2, l3] st ws = ai_Run 90 63 [.ref a, l1, l2, l3] (.ref a :: st) ws := R_aload_n hc_90 dX1_holdTrial_62 rfl rfl
theorem r_90_63 (ls st : List Value) (a : Nat) (ws : ai_W) : ai_Run 90 63 ls (.ref a :: st) ws = (ai_fget ws a 1 1).bind fun q => ai_Run 90 66 ls (q :: st) ws := R_getf hc_90 dX1_holdTrial_63 hv_90 (w := 574) rfl rfl
theorem r_90_66 (l0 l2 l3 : Value) (a : Int32) (st : List Value) (ws : ai_W) : ai_Run 90 66 [l0, .int a, l2, l3] st ws = ai_Run 90 67 [l0, .int a, l2, l3] (.int a :: st) ws := R_iload_n hc_90 dX1_holdTrial_66 rfl rfl
theorem r_90_67 (l0 l1 l3 : Value) (a : Int32) (st : List Value) (ws : ai_W) : ai_Run 90 67 [l0, l1, .int a, l3] st ws = ai_Run 90 68 [l0, l1, .int a, l3] (.int a :: st) ws := R_iload_n hc_90 dX1_holdTrial_67 rfl rfl
theorem r_90_68 (l0 l1 l2 : Value) (a : Int32) (st : List Value) (ws : ai_W) : ai_Run 90 68 [l0, l1, l2, .int a] st ws = ai_Run 90 69 [l0, l1, l2, .int a] (.int a :: st) ws := R_iload_n hc_90 dX1_holdTrial_68 rfl rfl
theorem r_90_69 (ls : List Value) (r : Nat) (b0 : Int32) (b1 : Int32) (b2 : Int32) (ws : ai_W) : ai_Run 90 69 ls [.int b2, .int b1, .int b0, .ref r] ws = (ai_Call 85 [.ref r, .int b0, .int b1, .int b2] ws).bind fun q => ai_Run 90 72 ls (q.1.toList ++ []) q.2 := R_callV hc_90 dX1_holdTrial_69 hv_90 (w := 747) rfl (ai_lt3 hf_85 hf_90 hL_85 ho_85 ho_90 rfl) hk_85 (by rw [hn_85]; rfl) rfl (Nat.le_of_ble_eq_true rfl) rfl
theorem r_90_72 (ls st : List Value) (a : Int32) (ws : ai_W) : ai_Run 90 72 ls (.int a :: st) ws = if a = 0 then ai_Run 90 75 ls st ws else ai_Run 90 94 ls st ws := R_if_ne hc_90 dX1_holdTrial_72 rfl rfl
theorem r_90_75 (l1 l2 l3 : Value) (a : Nat) (st : List Value) (ws : ai_W) : ai_Run 90 75 [.ref a, l1, l2, l3] st ws = ai_Run 90 76 [.ref a, l1, l2, l3] (.ref a :: st) ws := R_aload_n hc_90 dX1_holdTrial_75 rfl rfl
theorem r_90_76 (ls st : List Value) (a : Nat) (ws : ai_W) : ai_Run 90 76 ls (.ref a :: st) ws = (ai_fget ws a 1 3).bind fun q => ai_Run 90 79 ls (q :: st) ws := R_getf hc_90 dX1_holdTrial_76 hv_90 (w := 576) rfl rfl
theorem r_90_79 (ls st : List Value) (ws : ai_W) : ai_Run 90 79 ls st ws = ai_Run 90 81 ls (.int 9 :: st) ws := R_bipush hc_90 dX1_holdTrial_79 (by decide) rfl
theorem r_90_81 (l1 l2 l3 : Value) (a : Nat) (st : List Value) (ws : ai_W) : ai_Run 90 81 [.ref a, l1, l2, l3] st ws = ai_Run 90 82 [.ref a, l1, l2, l3] (.ref a :: st) ws := R_aload_n hc_90 dX1_holdTrial_81 rfl rfl
theorem r_90_82 (ls st : List Value) (a : Nat) (ws : ai_W) : ai_Run 90 82 ls (.ref a :: st) ws = (ai_fget ws a 1 0).bind fun q => ai_Run 90 85 ls (q :: st) ws := R_getf hc_90 dX1_holdTrial_82 hv_90 (w := 573) rfl rfl
theorem r_90_85 (l0 l1 l3 : Value) (a : Int32) (st : List Value) (ws : ai_W) : ai_Run 90 85 [l0, l1, .int a, l3] st ws = ai_Run 90 86 [l0, l1, .int a, l3] (.int a :: st) ws := R_iload_n hc_90 dX1_holdTrial_85 rfl rfl
theorem r_90_86 (l0 l1 l2 : Value) (a : Int32) (st : List Value) (ws : ai_W) : ai_Run 90 86 [l0, l1, l2, .int a] st ws = ai_Run 90 87 [l0, l1, l2, .int a] (.int a :: st) ws := R_iload_n hc_90 dX1_holdTrial_86 rfl rfl
theorem r_90_87 (ls : List Value) (r : Nat) (b0 : Int32) (b1 : Int32) (s0 s1 : Value) (ws : ai_W) : ai_Run 90 87 ls [.int b1, .int b0, .ref r, s0, s1] ws = (ai_Call 53 [.ref r, .int b0, .int b1] ws).bind fun q => ai_Run 90 90 ls (q.1.toList ++ [s0, s1]) q.2 := R_callV hc_90 dX1_holdTrial_87 hv_90 (w := 748) rfl (ai_lt3 hf_53 hf_90 hL_53 ho_53 ho_90 rfl) hk_53 (by rw [hn_53]; rfl) rfl (Nat.le_of_ble_eq_true rfl) rfl
theorem r_90_90 (ls : List Value) (r : Nat) (b0 : Int32) (b1 : Int32) (ws : ai_W) : ai_Run 90 90 ls [.int b1, .int b0, .ref r] ws = (ai_Call 47 [.ref r, .int b0, .int b1] ws).bind fun q => ai_Run 90 93 ls (q.1.toList ++ []) q.2 := R_callV hc_90 dX1_holdTrial_90 hv_90 (w := 84) rfl (ai_lt3 hf_47 hf_90 hL_47 ho_47 ho_90 rfl) hk_47 (by rw [hn_47]; rfl) rfl (Nat.le_of_ble_eq_true rfl) rfl
theorem r_90_93 (ls : List Value) (x : Int32) (ws : ai_W) : ai_Run 90 93 ls [.int x] ws = some (some (.int x), ws) := R_iret hc_90 dX1_holdTrial_93 ht_90
theorem r_90_94 (l1 l2 l3 : Value) (a : Nat) (st : List Value) (ws : ai_W) : ai_Run 90 94 [.ref a, l1, l2, l3] st ws = ai_Run 90 95 [.ref a, l1, l2, l3] (.ref a :: st) ws := R_aload_n hc_90 dX1_holdTrial_94 rfl rfl
theorem r_90_95 (ls st : List Value) (a : Nat) (ws : ai_W) : ai_Run 90 95 ls (.ref a :: st) ws = (ai_fget ws a 1 2).bind fun q => ai_Run 90 98 ls (q :: st) ws := R_getf hc_90 dX1_holdTrial_95 hv_90 (w := 575) rfl rfl
theorem r_90_98 (ls : List Value) (r : Nat) (ws : ai_W) : ai_Run 90 98 ls [.ref r] ws = (ai_Call 22 [.ref r] ws).bind fun q => ai_Run 90 101 ls (q.1.toList ++ []) q.2 := R_callV hc_90 dX1_holdTrial_98 hv_90 (w := 197) rfl (ai_lt3 hf_22 hf_90 hL_22 ho_22 ho_90 rfl) hk_22 (by rw [hn_22]; rfl) rfl (Nat.le_of_ble_eq_true rfl) rfl
theorem r_90_101 (ls st : List Value) (a : Int32) (ws : ai_W) : ai_Run 90 101 ls (.int a :: st) ws = if a = 0 then ai_Run 90 104 ls st ws else ai_Run 90 121 ls st ws := R_if_ne hc_90 dX1_holdTrial_101 rfl rfl
theorem r_90_104 (l1 l2 l3 : Value) (a : Nat) (st : List Value) (ws : ai_W) : ai_Run 90 104 [.ref a, l1, l2, l3] st ws = ai_Run 90 105 [.ref a, l1, l2, l3] (.ref a :: st) ws := R_aload_n hc_90 dX1_holdTrial_104 rfl rfl
theorem r_90_105 (ls st : List Value) (a : Nat) (ws : ai_W) : ai_Run 90 105 ls (.ref a :: st) ws = (ai_fget ws a 1 3).bind fun q => ai_Run 90 108 ls (q :: st) ws := R_getf hc_90 dX1_holdTrial_105 hv_90 (w := 576) rfl rfl
theorem r_90_108 (ls st : List Value) (ws : ai_W) : ai_Run 90 108 ls st ws = ai_Run 90 110 ls (.int 10 :: st) ws := R_bipush hc_90 dX1_holdTrial_108 (by decide) rfl
theorem r_90_110 (l1 l2 l3 : Value) (a : Nat) (st : List Value) (ws : ai_W) : ai_Run 90 110 [.ref a, l1, l2, l3] st ws = ai_Run 90 111 [.ref a, l1, l2, l3] (.ref a :: st) ws := R_aload_n hc_90 dX1_holdTrial_110 rfl rfl
theorem r_90_111 (ls st : List Value) (a : Nat) (ws : ai_W) : ai_Run 90 111 ls (.ref a :: st) ws = (ai_fget ws a 1 0).bind fun q => ai_Run 90 114 ls (q :: st) ws := R_getf hc_90 dX1_holdTrial_111 hv_90 (w := 573) rfl rfl
theorem r_90_114 (ls st : List Value) (a : Nat) (ws : ai_W) : ai_Run 90 114 ls (.ref a :: st) ws = (ai_fget ws a 0 2).bind fun q => ai_Run 90 117 ls (q :: st) ws := R_getf hc_90 dX1_holdTrial_114 hv_90 (w := 472) rfl rfl
theorem r_90_117 (ls : List Value) (r : Nat) (b0 : Int32) (b1 : Int32) (ws : ai_W) : ai_Run 90 117 ls [.int b1, .int b0, .ref r] ws = (ai_Call 47 [.ref r, .int b0, .int b1] ws).bind fun q => ai_Run 90 120 ls (q.1.toList ++ []) q.2 := R_callV hc_90 dX1_holdTrial_117 hv_90 (w := 84) rfl (ai_lt3 hf_47 hf_90 hL_47 ho_47 ho_90 rfl) hk_47 (by rw [hn_47]; rfl) rfl (Nat.le_of_ble_eq_true rfl) rfl
theorem r_90_120 (ls : List Value) (x : Int32) (ws : ai_W) : ai_Run 90 120 ls [.int x] ws = some (some (.int x), ws) := R_iret hc_90 dX1_holdTrial_120 ht_90
theorem r_90_121 (l1 l2 l3 : Value) (a : Nat) (st : List Value) (ws : ai_W) : ai_Run 90 121 [.ref a, l1, l2, l3] st ws = ai_Run 90 122 [.ref a, l1, l2, l3] (.ref a :: st) ws := R_aload_n hc_90 dX1_holdTrial_121 rfl rfl
theorem r_90_122 (ls st : List Value) (a : Nat) (ws : ai_W) : ai_Run 90 122 ls (.ref a :: st) ws = (ai_fget ws a 1 0).bind fun q => ai_Run 90 125 ls (q :: st) ws := R_getf hc_90 dX1_holdTrial_122 hv_90 (w := 573) rfl rfl
theorem r_90_125 (ls st : List Value) (a : Nat) (ws : ai_W) : ai_Run 90 125 ls (.ref a :: st) ws = ai_Run 90 126 ls (.ref a :: .ref a :: st) ws := R_dup hc_90 dX1_holdTrial_125 rfl
theorem r_90_126 (ls st : List Value) (a : Nat) (ws : ai_W) : ai_Run 90 126 ls (.ref a :: st) ws = (ai_fget ws a 0 2).bind fun q => ai_Run 90 129 ls (q :: st) ws := R_getf hc_90 dX1_holdTrial_126 hv_90 (w := 472) rfl rfl
theorem r_90_129 (ls st : List Value) (ws : ai_W) : ai_Run 90 129 ls st ws = ai_Run 90 130 ls (.int 1 :: st) ws := R_iconst hc_90 dX1_holdTrial_129 (by decide) rfl
theorem r_90_130 (ls st : List Value) (a b : Int32) (ws : ai_W) : ai_Run 90 130 ls (.int b :: .int a :: st) ws = ai_Run 90 131 ls (.int (a + b) :: st) ws := R_iadd hc_90 dX1_holdTrial_130 rfl
theorem r_90_131 (ls st : List Value) (a : Nat) (x : Value) (ws : ai_W) : ai_Run 90 131 ls (x :: .ref a :: st) ws = (ai_fput ws a 0 2 x).bind fun ws => ai_Run 90 134 ls st ws := R_putf hc_90 dX1_holdTrial_131 hv_90 (w := 472) rfl rfl rfl
theorem r_90_134 (l1 l2 l3 : Value) (a : Nat) (st : List Value) (ws : ai_W) : ai_Run 90 134 [.ref a, l1, l2, l3] st ws = ai_Run 90 135 [.ref a, l1, l2, l3] (.ref a :: st) ws := R_aload_n hc_90 dX1_holdTrial_134 rfl rfl
theorem r_90_135 (ls st : List Value) (a : Nat) (ws : ai_W) : ai_Run 90 135 ls (.ref a :: st) ws = (ai_fget ws a 1 2).bind fun q => ai_Run 90 138 ls (q :: st) ws := R_getf hc_90 dX1_holdTrial_135 hv_90 (w := 575) rfl rfl
theorem r_90_138 (l1 l2 l3 : Value) (a : Nat) (st : List Value) (ws : ai_W) : ai_Run 90 138 [.ref a, l1, l2, l3] st ws = ai_Run 90 139 [.ref a, l1, l2, l3] (.ref a :: st) ws := R_aload_n hc_90 dX1_holdTrial_138 rfl rfl
theorem r_90_139 (ls st : List Value) (a : Nat) (ws : ai_W) : ai_Run 90 139 ls (.ref a :: st) ws = (ai_fget ws a 1 1).bind fun q => ai_Run 90 142 ls (q :: st) ws := R_getf hc_90 dX1_holdTrial_139 hv_90 (w := 574) rfl rfl
theorem r_90_142 (l0 l2 l3 : Value) (a : Int32) (st : List Value) (ws : ai_W) : ai_Run 90 142 [l0, .int a, l2, l3] st ws = ai_Run 90 143 [l0, .int a, l2, l3] (.int a :: st) ws := R_iload_n hc_90 dX1_holdTrial_142 rfl rfl
theorem r_90_143 (l0 l1 l3 : Value) (a : Int32) (st : List Value) (ws : ai_W) : ai_Run 90 143 [l0, l1, .int a, l3] st ws = ai_Run 90 144 [l0, l1, .int a, l3] (.int a :: st) ws := R_iload_n hc_90 dX1_holdTrial_143 rfl rfl
theorem r_90_144 (l0 l1 l2 : Value) (a : Int32) (st : List Value) (ws : ai_W) : ai_Run 90 144 [l0, l1, l2, .int a] st ws = ai_Run 90 145 [l0, l1, l2, .int a] (.int a :: st) ws := R_iload_n hc_90 dX1_holdTrial_144 rfl rfl
theorem r_90_145 (ls : List Value) (r : Nat) (b0 : Int32) (b1 : Int32) (b2 : Int32) (s0 : Value) (ws : ai_W) : ai_Run 90 145 ls [.int b2, .int b1, .int b0, .ref r, s0] ws = (ai_Call 86 [.ref r, .int b0, .int b1, .int b2] ws).bind fun q => ai_Run 90 148 ls (q.1.toList ++ [s0]) q.2 := R_callV hc_90 dX1_holdTrial_145 hv_90 (w := 749) rfl (ai_lt3 hf_86 hf_90 hL_86 ho_86 ho_90 rfl) hk_86 (by rw [hn_86]; rfl) rfl (Nat.le_of_ble_eq_true rfl) rfl
theorem r_90_148 (ls : List Value) (r : Nat) (b0 : Int32) (ws : ai_W) : ai_Run 90 148 ls [.int b0, .ref r] ws = (ai_Call 89 [.ref r, .int b0] ws).bind fun q => ai_Run 90 151 ls (q.1.toList ++ []) q.2 := R_callV hc_90 dX1_holdTrial_148 hv_90 (w := 750) rfl (ai_lt3 hf_89 hf_90 hL_89 ho_89 ho_90 rfl) hk_89 (by rw [hn_89]; rfl) rfl (Nat.le_of_ble_eq_true rfl) rfl
theorem r_90_151 (ls st : List Value) (a : Int32) (ws : ai_W) : ai_Run 90 151 ls (.int a :: st) ws = if a = 0 then ai_Run 90 154 ls st ws else ai_Run 90 156 ls st ws := R_if_ne hc_90 dX1_holdTrial_151 rfl rfl
theorem r_90_154 (ls st : List Value) (ws : ai_W) : ai_Run 90 154 ls st ws = ai_Run 90 155 ls (.int 0 :: st) ws := R_iconst hc_90 dX1_holdTrial_154 (by decide) rfl
theorem r_90_155 (ls : List Value) (x : Int32) (ws : ai_W) : ai_Run 90 155 ls [.int x] ws = some (some (.int x), ws) := R_iret hc_90 dX1_holdTrial_155 ht_90
theorem r_90_156 (l1 l2 l3 : Value) (a : Nat) (st : List Value) (ws : ai_W) : ai_Run 90 156 [.ref a, l1, l2, l3] st ws = ai_Run 90 157 [.ref a, l1, l2, l3] (.ref a :: st) ws := R_aload_n hc_90 dX1_holdTrial_156 rfl rfl
theorem r_90_157 (ls st : List Value) (a : Nat) (ws : ai_W) : ai_Run 90 157 ls (.ref a :: st) ws = (ai_fget ws a 1 0).bind fun q => ai_Run 90 160 ls (q :: st) ws := R_getf hc_90 dX1_holdTrial_157 hv_90 (w := 573) rfl rfl
theorem r_90_160 (l0 l1 l3 : Value) (a : Int32) (st : List Value) (ws : ai_W) : ai_Run 90 160 [l0, l1, .int a, l3] st ws = ai_Run 90 161 [l0, l1, .int a, l3] (.int a :: st) ws := R_iload_n hc_90 dX1_holdTrial_160 rfl rfl
theorem r_90_161 (l0 l1 l2 : Value) (a : Int32) (st : List Value) (ws : ai_W) : ai_Run 90 161 [l0, l1, l2, .int a] st ws = ai_Run 90 162 [l0, l1, l2, .int a] (.int a :: st) ws := R_iload_n hc_90 dX1_holdTrial_161 rfl rfl
theorem r_90_162 (l0 l2 l3 : Value) (a : Int32) (st : List Value) (ws : ai_W) : ai_Run 90 162 [l0, .int a, l2, l3] st ws = ai_Run 90 163 [l0, .int a, l2, l3] (.int a :: st) ws := R_iload_n hc_90 dX1_holdTrial_162 rfl rfl
theorem r_90_163 (ls : List Value) (r : Nat) (b0 : Int32) (b1 : Int32) (b2 : Int32) (ws : ai_W) : ai_Run 90 163 ls [.int b2, .int b1, .int b0, .ref r] ws = (ai_Call 70 [.ref r, .int b0, .int b1, .int b2] ws).bind fun q => ai_Run 90 166 ls (q.1.toList ++ []) q.2 := R_callV hc_90 dX1_holdTrial_163 hv_90 (w := 754) rfl (ai_lt3 hf_70 hf_90 hL_70 ho_70 ho_90 rfl) hk_70 (by rw [hn_70]; rfl) rfl (Nat.le_of_ble_eq_true rfl) rfl
theorem r_90_166 (ls st : List Value) (ws : ai_W) : ai_Run 90 166 ls st ws = ai_Run 90 167 ls (.int 1 :: st) ws := R_iconst hc_90 dX1_holdTrial_166 (by decide) rfl
theorem r_90_167 (ls : List Value) (x : Int32) (ws : ai_W) : ai_Run 90 167 ls [.int x] ws = some (some (.int x), ws) := R_iret hc_90 dX1_holdTrial_167 ht_90
theorem dX0_nextRising_0 : decode cX0_nextRising 0 = .ok (.iconst 2, 1) := by decide +kernel
theorem dX0_nextRising_1 : decode cX0_nextRising 1 = .ok (.iload_n 2, 1) := by decide +kernel
theorem dX0_nextRising_2 : decode cX0_nextRising 2 = .ok (.imul, 1) := by decide +kernel
theorem dX0_nextRising_3 : decode cX0_nextRising 3 = .ok (.iconst 1, 1) := by decide +kernel
theorem dX0_nextRising_4 : decode cX0_nextRising 4 = .ok (.iadd, 1) := by decide +kernel
theorem dX0_nextRising_5 : decode cX0_nextRising 5 = .ok (.istore_n 3, 1) := by decide +kernel
theorem dX0_nextRising_6 : decode cX0_nextRising 6 = .ok (.iload_n 3, 1) := by decide +kernel
theorem dX0_nextRising_7 : decode cX0_nextRising 7 = .ok (.aload_n 0, 1) := by decide +kernel
theorem dX0_nextRising_8 : decode cX0_nextRising 8 = .ok (.getfield 14, 3) := by decide +kernel
theorem dX0_nextRising_11 : decode cX0_nextRising 11 = .ok (.iload_n 1, 1) := by decide +kernel
theorem dX0_nextRising_12 : decode cX0_nextRising 12 = .ok (.invokevirtual 57, 3) := by decide +kernel
theorem dX0_nextRising_15 : decode cX0_nextRising 15 = .ok (.if_icmp .ge 12, 3) := by decide +kernel
theorem dX0_nextRising_18 : decode cX0_nextRising 18 = .ok (.aload_n 0, 1) := by decide +kernel
theorem dX0_nextRising_19 : decode cX0_nextRising 19 = .ok (.iload_n 1, 1) := by decide +kernel
theorem dX0_nextRising_20 : decode cX0_nextRising 20 = .ok (.iload_n 3, 1) := by decide +kernel
theorem dX0_nextRising_21 : decode cX0_nextRising 21 = .ok (.invokevirtual 60, 3) := by decide +kernel
theorem dX0_nextRising_24 : decode cX0_nextRising 24 = .ok (.goto 5, 3) := by decide +kernel
theorem dX0_nextRising_27 : decode cX0_nextRising 27 = .ok (.bipush (-4), 2) := by decide +kernel
theorem dX0_nextRising_29 : decode cX0_nextRising 29 = .ok (.ireturn, 1) := by decide +kernel
theorem e_93 (r : Nat) (a0 : Int32) (a1 : Int32) (ws : ai_W) : ai_Call 93 [.ref r, .int a0, .int a1] ws = if ai_isob ws r 0 = true then ai_Run 93 0 [.ref r, .int a0, .int a1, .null] [] ws else none := R_entV hk_93 ⟨⟨rfl, rfl⟩, Nat.le_of_ble_eq_true rfl⟩ rfl
theorem r_93_0 (ls st : List Value) (ws : ai_W) : ai_Run 93 0 ls st ws = ai_Run 93 1 ls (.int 2 :: st) ws := R_iconst hc_93 dX0_nextRising_0 (by decide) rfl
theorem r_93_1 (l0 l1 l3 : Value) (a : Int32) (st : List Value) (ws : ai_W) : ai_Run 93 1 [l0, l1, .int a, l3] st ws = ai_Run 93 2 [l0, l1, .int a, l3] (.int a :: st) ws := R_iload_n hc_93 dX0_nextRising_1 rfl rfl
theorem r_93_2 (ls st : List Value) (a b : Int32) (ws : ai_W) : ai_Run 93 2 ls (.int b :: .int a :: st) ws = ai_Run 93 3 ls (.int (a * b) :: st) ws := R_imul hc_93 dX0_nextRising_2 rfl
theorem r_93_3 (ls st : List Value) (ws : ai_W) : ai_Run 93 3 ls st ws = ai_Run 93 4 ls (.int 1 :: st) ws := R_iconst hc_93 dX0_nextRising_3 (by decide) rfl
theorem r_93_4 (ls st : List Value) (a b : Int32) (ws : ai_W) : ai_Run 93 4 ls (.int b :: .int a :: st) ws = ai_Run 93 5 ls (.int (a + b) :: st) ws := R_iadd hc_93 dX0_nextRising_4 rfl
theorem r_93_5 (l0 l1 l2 l3 : Value) (a : Int32) (st : List Value) (ws : ai_W) : ai_Run 93 5 [l0, l1, l2, l3] (.int a :: st) ws = ai_Run 93 6 [l0, l1, l2, .int a] st ws := R_istore_n hc_93 dX0_nextRising_5 (Nat.le_of_ble_eq_true rfl) rfl rfl
theorem r_93_6 (l0 l1 l2 : Value) (a : Int32) (st : List Value) (ws : ai_W) : ai_Run 93 6 [l0, l1, l2, .int a] st ws = ai_Run 93 7 [l0, l1, l2, .int a] (.int a :: st) ws := R_iload_n hc_93 dX0_nextRising_6 rfl rfl
theorem r_93_7 (l1 l2 l3 : Value) (a : Nat) (st : List Value) (ws : ai_W) : ai_Run 93 7 [.ref a, l1, l2, l3] st ws = ai_Run 93 8 [.ref a, l1, l2, l3] (.ref a :: st) ws := R_aload_n hc_93 dX0_nextRising_7 rfl rfl
theorem r_93_8 (ls st : List Value) (a : Nat) (ws : ai_W) : ai_Run 93 8 ls (.ref a :: st) ws = (ai_fget ws a 0 3).bind fun q => ai_Run 93 11 ls (q :: st) ws := R_getf hc_93 dX0_nextRising_8 hv_93 (w := 475) rfl rfl
theorem r_93_11 (l0 l2 l3 : Value) (a : Int32) (st : List Value) (ws : ai_W) : ai_Run 93 11 [l0, .int a, l2, l3] st ws = ai_Run 93 12 [l0, .int a, l2, l3] (.int a :: st) ws := R_iload_n hc_93 dX0_nextRising_11 rfl rfl
theorem r_93_12 (ls : List Value) (r : Nat) (b0 : Int32) (s0 : Value) (ws : ai_W) : ai_Run 93 12 ls [.int b0, .ref r, s0] ws = (ai_Call 12 [.ref r, .int b0] ws).bind fun q => ai_Run 93 15 ls (q.1.toList ++ [s0]) q.2 := R_callV hc_93 dX0_nextRising_12 hv_93 (w := 119) rfl (ai_lt3 hf_12 hf_93 hL_12 ho_12 ho_93 rfl) hk_12 (by rw [hn_12]; rfl) rfl (Nat.le_of_ble_eq_true rfl) rfl
theorem r_93_15 (ls st : List Value) (a b : Int32) (ws : ai_W) : ai_Run 93 15 ls (.int b :: .int a :: st) ws = if a < b then ai_Run 93 18 ls st ws else ai_Run 93 27 ls st ws := R_cmp_ge hc_93 dX0_nextRising_15 rfl rfl
theorem r_93_18 (l1 l2 l3 : Value) (a : Nat) (st : List Value) (ws : ai_W) : ai_Run 93 18 [.ref a, l1, l2, l3] st ws = ai_Run 93 19 [.ref a, l1, l2, l3] (.ref a :: st) ws := R_aload_n hc_93 dX0_nextRising_18 rfl rfl
theorem r_93_19 (l0 l2 l3 : Value) (a : Int32) (st : List Value) (ws : ai_W) : ai_Run 93 19 [l0, .int a, l2, l3] st ws = ai_Run 93 20 [l0, .int a, l2, l3] (.int a :: st) ws := R_iload_n hc_93 dX0_nextRising_19 rfl rfl
theorem r_93_20 (l0 l1 l2 : Value) (a : Int32) (st : List Value) (ws : ai_W) : ai_Run 93 20 [l0, l1, l2, .int a] st ws = ai_Run 93 21 [l0, l1, l2, .int a] (.int a :: st) ws := R_iload_n hc_93 dX0_nextRising_20 rfl rfl
theorem r_93_21 (ls : List Value) (r : Nat) (b0 : Int32) (b1 : Int32) (ws : ai_W) : ai_Run 93 21 ls [.int b1, .int b0, .ref r] ws = (ai_Call 33 [.ref r, .int b0, .int b1] ws).bind fun q => ai_Run 93 24 ls (q.1.toList ++ []) q.2 := R_callV hc_93 dX0_nextRising_21 hv_93 (w := 136) rfl (ai_lt3 hf_33 hf_93 hL_33 ho_33 ho_93 rfl) hk_33 (by rw [hn_33]; rfl) rfl (Nat.le_of_ble_eq_true rfl) rfl
theorem r_93_24 (ls st : List Value) (ws : ai_W) : ai_Run 93 24 ls st ws = ai_Run 93 29 ls st ws := R_goto hc_93 dX0_nextRising_24 rfl
theorem r_93_27 (ls st : List Value) (ws : ai_W) : ai_Run 93 27 ls st ws = ai_Run 93 29 ls (.int (-4) :: st) ws := R_bipush hc_93 dX0_nextRising_27 (by decide) rfl
theorem r_93_29 (ls : List Value) (x : Int32) (ws : ai_W) : ai_Run 93 29 ls [.int x] ws = some (some (.int x), ws) := R_iret hc_93 dX0_nextRising_29 ht_93
theorem dX2_chaptersLived_0 : decode cX2_chaptersLived 0 = .ok (.bipush 30, 2) := by decide +kernel
theorem dX2_chaptersLived_2 : decode cX2_chaptersLived 2 = .ok (.istore_n 2, 1) := by decide +kernel
theorem dX2_chaptersLived_3 : decode cX2_chaptersLived 3 = .ok (.iconst 0, 1) := by decide +kernel
theorem dX2_chaptersLived_4 : decode cX2_chaptersLived 4 = .ok (.istore_n 3, 1) := by decide +kernel
theorem dX2_chaptersLived_5 : decode cX2_chaptersLived 5 = .ok (.iload_n 3, 1) := by decide +kernel
theorem dX2_chaptersLived_6 : decode cX2_chaptersLived 6 = .ok (.aload_n 0, 1) := by decide +kernel
theorem dX2_chaptersLived_7 : decode cX2_chaptersLived 7 = .ok (.getfield 20, 3) := by decide +kernel
theorem dX2_chaptersLived_10 : decode cX2_chaptersLived 10 = .ok (.iload_n 1, 1) := by decide +kernel
theorem dX2_chaptersLived_11 : decode cX2_chaptersLived 11 = .ok (.invokevirtual 24, 3) := by decide +kernel
theorem dX2_chaptersLived_14 : decode cX2_chaptersLived 14 = .ok (.if_icmp .ge 51, 3) := by decide +kernel
theorem dX2_chaptersLived_17 : decode cX2_chaptersLived 17 = .ok (.aload_n 0, 1) := by decide +kernel
theorem dX2_chaptersLived_18 : decode cX2_chaptersLived 18 = .ok (.getfield 20, 3) := by decide +kernel
theorem dX2_chaptersLived_21 : decode cX2_chaptersLived 21 = .ok (.iload_n 1, 1) := by decide +kernel
theorem dX2_chaptersLived_22 : decode cX2_chaptersLived 22 = .ok (.iload_n 3, 1) := by decide +kernel
theorem dX2_chaptersLived_23 : decode cX2_chaptersLived 23 = .ok (.invokevirtual 30, 3) := by decide +kernel
theorem dX2_chaptersLived_26 : decode cX2_chaptersLived 26 = .ok (.istore 4, 2) := by decide +kernel
theorem dX2_chaptersLived_28 : decode cX2_chaptersLived 28 = .ok (.iload 4, 2) := by decide +kernel
theorem dX2_chaptersLived_30 : decode cX2_chaptersLived 30 = .ok (.bipush (-4), 2) := by decide +kernel
theorem dX2_chaptersLived_32 : decode cX2_chaptersLived 32 = .ok (.if_icmp .ne 8, 3) := by decide +kernel
theorem dX2_chaptersLived_35 : decode cX2_chaptersLived 35 = .ok (.bipush 31, 2) := by decide +kernel
theorem dX2_chaptersLived_37 : decode cX2_chaptersLived 37 = .ok (.goto 5, 3) := by decide +kernel
theorem dX2_chaptersLived_40 : decode cX2_chaptersLived 40 = .ok (.iload 4, 2) := by decide +kernel
theorem dX2_chaptersLived_42 : decode cX2_chaptersLived 42 = .ok (.istore 5, 2) := by decide +kernel
theorem dX2_chaptersLived_44 : decode cX2_chaptersLived 44 = .ok (.iload_n 2, 1) := by decide +kernel
theorem dX2_chaptersLived_45 : decode cX2_chaptersLived 45 = .ok (.iload 5, 2) := by decide +kernel
theorem dX2_chaptersLived_47 : decode cX2_chaptersLived 47 = .ok (.aload_n 0, 1) := by decide +kernel
theorem dX2_chaptersLived_48 : decode cX2_chaptersLived 48 = .ok (.getfield 20, 3) := by decide +kernel
theorem dX2_chaptersLived_51 : decode cX2_chaptersLived 51 = .ok (.iload_n 1, 1) := by decide +kernel
theorem dX2_chaptersLived_52 : decode cX2_chaptersLived 52 = .ok (.iload_n 3, 1) := by decide +kernel
theorem dX2_chaptersLived_53 : decode cX2_chaptersLived 53 = .ok (.invokevirtual 34, 3) := by decide +kernel
theorem dX2_chaptersLived_56 : decode cX2_chaptersLived 56 = .ok (.isub, 1) := by decide +kernel
theorem dX2_chaptersLived_57 : decode cX2_chaptersLived 57 = .ok (.isub, 1) := by decide +kernel
theorem dX2_chaptersLived_58 : decode cX2_chaptersLived 58 = .ok (.istore_n 2, 1) := by decide +kernel
theorem dX2_chaptersLived_59 : decode cX2_chaptersLived 59 = .ok (.iinc 3 1, 3) := by decide +kernel
theorem dX2_chaptersLived_62 : decode cX2_chaptersLived 62 = .ok (.goto (-57), 3) := by decide +kernel
theorem dX2_chaptersLived_65 : decode cX2_chaptersLived 65 = .ok (.iload_n 2, 1) := by decide +kernel
theorem dX2_chaptersLived_66 : decode cX2_chaptersLived 66 = .ok (.ireturn, 1) := by decide +kernel
theorem e_94 (r : Nat) (a0 : Int32) (ws : ai_W) : ai_Call 94 [.ref r, .int a0] ws = if ai_isob ws r 2 = true then ai_Run 94 0 [.ref r, .int a0, .null, .null, .null, .null] [] ws else none := R_entV hk_94 ⟨⟨rfl, rfl⟩, Nat.le_of_ble_eq_true rfl⟩ rfl
theorem r_94_0 (ls st : List Value) (ws : ai_W) : ai_Run 94 0 ls st ws = ai_Run 94 2 ls (.int 30 :: st) ws := R_bipush hc_94 dX2_chaptersLived_0 (by decide) rfl
theorem r_94_2 (l0 l1 l2 l3 l4 l5 : Value) (a : Int32) (st : List Value) (ws : ai_W) : ai_Run 94 2 [l0, l1, l2, l3, l4, l5] (.int a :: st) ws = ai_Run 94 3 [l0, l1, .int a, l3, l4, l5] st ws := R_istore_n hc_94 dX2_chaptersLived_2 (Nat.le_of_ble_eq_true rfl) rfl rfl
theorem r_94_3 (ls st : List Value) (ws : ai_W) : ai_Run 94 3 ls st ws = ai_Run 94 4 ls (.int 0 :: st) ws := R_iconst hc_94 dX2_chaptersLived_3 (by decide) rfl
theorem r_94_4 (l0 l1 l2 l3 l4 l5 : Value) (a : Int32) (st : List Value) (ws : ai_W) : ai_Run 94 4 [l0, l1, l2, l3, l4, l5] (.int a :: st) ws = ai_Run 94 5 [l0, l1, l2, .int a, l4, l5] st ws := R_istore_n hc_94 dX2_chaptersLived_4 (Nat.le_of_ble_eq_true rfl) rfl rfl
theorem r_94_5 (l0 l1 l2 l4 l5 : Value) (a : Int32) (st : List Value) (ws : ai_W) : ai_Run 94 5 [l0, l1, l2, .int a, l4, l5] st ws = ai_Run 94 6 [l0, l1, l2, .int a, l4, l5] (.int a :: st) ws := R_iload_n hc_94 dX2_chaptersLived_5 rfl rfl
theorem r_94_6 (l1 l2 l3 l4 l5 : Value) (a : Nat) (st : List Value) (ws : ai_W) : ai_Run 94 6 [.ref a, l1, l2, l3, l4, l5] st ws = ai_Run 94 7 [.ref a, l1, l2, l3, l4, l5] (.ref a :: st) ws := R_aload_n hc_94 dX2_chaptersLived_6 rfl rfl
theorem r_94_7 (ls st : List Value) (a : Nat) (ws : ai_W) : ai_Run 94 7 ls (.ref a :: st) ws = (ai_fget ws a 2 0).bind fun q => ai_Run 94 10 ls (q :: st) ws := R_getf hc_94 dX2_chaptersLived_7 hv_94 (w := 561) rfl rfl
theorem r_94_10 (l0 l2 l3 l4 l5 : Value) (a : Int32) (st : List Value) (ws : ai_W) : ai_Run 94 10 [l0, .int a, l2, l3, l4, l5] st ws = ai_Run 94 11 [l0, .int a, l2, l3, l4, l5] (.int a :: st) ws := R_iload_n hc_94 dX2_chaptersLived_10 rfl rfl
theorem r_94_11 (ls : List Value) (r : Nat) (b0 : Int32) (s0 : Value) (ws : ai_W) : ai_Run 94 11 ls [.int b0, .ref r, s0] ws = (ai_Call 13 [.ref r, .int b0] ws).bind fun q => ai_Run 94 14 ls (q.1.toList ++ [s0]) q.2 := R_callV hc_94 dX2_chaptersLived_11 hv_94 (w := 275) rfl (ai_lt3 hf_13 hf_94 hL_13 ho_13 ho_94 rfl) hk_13 (by rw [hn_13]; rfl) rfl (Nat.le_of_ble_eq_true rfl) rfl
theorem r_94_14 (ls st : List Value) (a b : Int32) (ws : ai_W) : ai_Run 94 14 ls (.int b :: .int a :: st) ws = if a < b then ai_Run 94 17 ls st ws else ai_Run 94 65 ls st ws := R_cmp_ge hc_94 dX2_chaptersLived_14 rfl rfl
theorem r_94_17 (l1 l2 l3 l4 l5 : Value) (a : Nat) (st : List Value) (ws : ai_W) : ai_Run 94 17 [.ref a, l1, l2, l3, l4, l5] st ws = ai_Run 94 18 [.ref a, l1, l2, l3, l4, l5] (.ref a :: st) ws := R_aload_n hc_94 dX2_chaptersLived_17 rfl rfl
theorem r_94_18 (ls st : List Value) (a : Nat) (ws : ai_W) : ai_Run 94 18 ls (.ref a :: st) ws = (ai_fget ws a 2 0).bind fun q => ai_Run 94 21 ls (q :: st) ws := R_getf hc_94 dX2_chaptersLived_18 hv_94 (w := 561) rfl rfl
theorem r_94_21 (l0 l2 l3 l4 l5 : Value) (a : Int32) (st : List Value) (ws : ai_W) : ai_Run 94 21 [l0, .int a, l2, l3, l4, l5] st ws = ai_Run 94 22 [l0, .int a, l2, l3, l4, l5] (.int a :: st) ws := R_iload_n hc_94 dX2_chaptersLived_21 rfl rfl
theorem r_94_22 (l0 l1 l2 l4 l5 : Value) (a : Int32) (st : List Value) (ws : ai_W) : ai_Run 94 22 [l0, l1, l2, .int a, l4, l5] st ws = ai_Run 94 23 [l0, l1, l2, .int a, l4, l5] (.int a :: st) ws := R_iload_n hc_94 dX2_chaptersLived_22 rfl rfl
theorem r_94_23 (ls : List Value) (r : Nat) (b0 : Int32) (b1 : Int32) (ws : ai_W) : ai_Run 94 23 ls [.int b1, .int b0, .ref r] ws = (ai_Call 93 [.ref r, .int b0, .int b1] ws).bind fun q => ai_Run 94 26 ls (q.1.toList ++ []) q.2 := R_callV hc_94 dX2_chaptersLived_23 hv_94 (w := 280) rfl (ai_lt3 hf_93 hf_94 hL_93 ho_93 ho_94 rfl) hk_93 (by rw [hn_93]; rfl) rfl (Nat.le_of_ble_eq_true rfl) rfl
theorem r_94_26 (l0 l1 l2 l3 l4 l5 : Value) (a : Int32) (st : List Value) (ws : ai_W) : ai_Run 94 26 [l0, l1, l2, l3, l4, l5] (.int a :: st) ws = ai_Run 94 28 [l0, l1, l2, l3, .int a, l5] st ws := R_istore hc_94 dX2_chaptersLived_26 (Nat.le_of_ble_eq_true rfl) rfl rfl
theorem r_94_28 (l0 l1 l2 l3 l5 : Value) (a : Int32) (st : List Value) (ws : ai_W) : ai_Run 94 28 [l0, l1, l2, l3, .int a, l5] st ws = ai_Run 94 30 [l0, l1, l2, l3, .int a, l5] (.int a :: st) ws := R_iload hc_94 dX2_chaptersLived_28 rfl rfl
theorem r_94_30 (ls st : List Value) (ws : ai_W) : ai_Run 94 30 ls st ws = ai_Run 94 32 ls (.int (-4) :: st) ws := R_bipush hc_94 dX2_chaptersLived_30 (by decide) rfl
theorem r_94_32 (ls st : List Value) (a b : Int32) (ws : ai_W) : ai_Run 94 32 ls (.int b :: .int a :: st) ws = if a = b then ai_Run 94 35 ls st ws else ai_Run 94 40 ls st ws := R_cmp_ne hc_94 dX2_chaptersLived_32 rfl rfl
theorem r_94_35 (ls st : List Value) (ws : ai_W) : ai_Run 94 35 ls st ws = ai_Run 94 37 ls (.int 31 :: st) ws := R_bipush hc_94 dX2_chaptersLived_35 (by decide) rfl
theorem r_94_37 (ls st : List Value) (ws : ai_W) : ai_Run 94 37 ls st ws = ai_Run 94 42 ls st ws := R_goto hc_94 dX2_chaptersLived_37 rfl
theorem r_94_40 (l0 l1 l2 l3 l5 : Value) (a : Int32) (st : List Value) (ws : ai_W) : ai_Run 94 40 [l0, l1, l2, l3, .int a, l5] st ws = ai_Run 94 42 [l0, l1, l2, l3, .int a, l5] (.int a :: st) ws := R_iload hc_94 dX2_chaptersLived_40 rfl rfl
theorem r_94_42 (l0 l1 l2 l3 l4 l5 : Value) (a : Int32) (st : List Value) (ws : ai_W) : ai_Run 94 42 [l0, l1, l2, l3, l4, l5] (.int a :: st) ws = ai_Run 94 44 [l0, l1, l2, l3, l4, .int a] st ws := R_istore hc_94 dX2_chaptersLived_42 (Nat.le_of_ble_eq_true rfl) rfl rfl
theorem r_94_44 (l0 l1 l3 l4 l5 : Value) (a : Int32) (st : List Value) (ws : ai_W) : ai_Run 94 44 [l0, l1, .int a, l3, l4, l5] st ws = ai_Run 94 45 [l0, l1, .int a, l3, l4, l5] (.int a :: st) ws := R_iload_n hc_94 dX2_chaptersLived_44 rfl rfl
theorem r_94_45 (l0 l1 l2 l3 l4 : Value) (a : Int32) (st : List Value) (ws : ai_W) : ai_Run 94 45 [l0, l1, l2, l3, l4, .int a] st ws = ai_Run 94 47 [l0, l1, l2, l3, l4, .int a] (.int a :: st) ws := R_iload hc_94 dX2_chaptersLived_45 rfl rfl
theorem r_94_47 (l1 l2 l3 l4 l5 : Value) (a : Nat) (st : List Value) (ws : ai_W) : ai_Run 94 47 [.ref a, l1, l2, l3, l4, l5] st ws = ai_Run 94 48 [.ref a, l1, l2, l3, l4, l5] (.ref a :: st) ws := R_aload_n hc_94 dX2_chaptersLived_47 rfl rfl
theorem r_94_48 (ls st : List Value) (a : Nat) (ws : ai_W) : ai_Run 94 48 ls (.ref a :: st) ws = (ai_fget ws a 2 0).bind fun q => ai_Run 94 51 ls (q :: st) ws := R_getf hc_94 dX2_chaptersLived_48 hv_94 (w := 561) rfl rfl
theorem r_94_51 (l0 l2 l3 l4 l5 : Value) (a : Int32) (st : List Value) (ws : ai_W) : ai_Run 94 51 [l0, .int a, l2, l3, l4, l5] st ws = ai_Run 94 52 [l0, .int a, l2, l3, l4, l5] (.int a :: st) ws := R_iload_n hc_94 dX2_chaptersLived_51 rfl rfl
theorem r_94_52 (l0 l1 l2 l4 l5 : Value) (a : Int32) (st : List Value) (ws : ai_W) : ai_Run 94 52 [l0, l1, l2, .int a, l4, l5] st ws = ai_Run 94 53 [l0, l1, l2, .int a, l4, l5] (.int a :: st) ws := R_iload_n hc_94 dX2_chaptersLived_52 rfl rfl
theorem r_94_53 (ls : List Value) (r : Nat) (b0 : Int32) (b1 : Int32) (s0 s1 : Value) (ws : ai_W) : ai_Run 94 53 ls [.int b1, .int b0, .ref r, s0, s1] ws = (ai_Call 53 [.ref r, .int b0, .int b1] ws).bind fun q => ai_Run 94 56 ls (q.1.toList ++ [s0, s1]) q.2 := R_callV hc_94 dX2_chaptersLived_53 hv_94 (w := 284) rfl (ai_lt3 hf_53 hf_94 hL_53 ho_53 ho_94 rfl) hk_53 (by rw [hn_53]; rfl) rfl (Nat.le_of_ble_eq_true rfl) rfl
theorem r_94_56 (ls st : List Value) (a b : Int32) (ws : ai_W) : ai_Run 94 56 ls (.int b :: .int a :: st) ws = ai_Run 94 57 ls (.int (a - b) :: st) ws := R_isub hc_94 dX2_chaptersLived_56 rfl
theorem r_94_57 (ls st : List Value) (a b : Int32) (ws : ai_W) : ai_Run 94 57 ls (.int b :: .int a :: st) ws = ai_Run 94 58 ls (.int (a - b) :: st) ws := R_isub hc_94 dX2_chaptersLived_57 rfl
theorem r_94_58 (l0 l1 l2 l3 l4 l5 : Value) (a : Int32) (st : List Value) (ws : ai_W) : ai_Run 94 58 [l0, l1, l2, l3, l4, l5] (.int a :: st) ws = ai_Run 94 59 [l0, l1, .int a, l3, l4, l5] st ws := R_istore_n hc_94 dX2_chaptersLived_58 (Nat.le_of_ble_eq_true rfl) rfl rfl
theorem r_94_59 (l0 l1 l2 l4 l5 : Value) (a : Int32) (st : List Value) (ws : ai_W) : ai_Run 94 59 [l0, l1, l2, .int a, l4, l5] st ws = ai_Run 94 62 [l0, l1, l2, .int (a + 1), l4, l5] st ws := R_iinc hc_94 dX2_chaptersLived_59 rfl (by decide) rfl rfl
theorem r_94_62 (ls st : List Value) (ws : ai_W) : ai_Run 94 62 ls st ws = ai_Run 94 5 ls st ws := R_goto hc_94 dX2_chaptersLived_62 rfl
theorem r_94_65 (l0 l1 l3 l4 l5 : Value) (a : Int32) (st : List Value) (ws : ai_W) : ai_Run 94 65 [l0, l1, .int a, l3, l4, l5] st ws = ai_Run 94 66 [l0, l1, .int a, l3, l4, l5] (.int a :: st) ws := R_iload_n hc_94 dX2_chaptersLived_65 rfl rfl
theorem r_94_66 (ls : List Value) (x : Int32) (ws : ai_W) : ai_Run 94 66 ls [.int x] ws = some (some (.int x), ws) := R_iret hc_94 dX2_chaptersLived_66 ht_94
theorem dX2_deathsCausedBy_0 : decode cX2_deathsCausedBy 0 = .ok (.iconst 0, 1) := by decide +kernel
theorem dX2_deathsCausedBy_1 : decode cX2_deathsCausedBy 1 = .ok (.istore_n 2, 1) := by decide +kernel
theorem dX2_deathsCausedBy_2 : decode cX2_deathsCausedBy 2 = .ok (.iconst 0, 1) := by decide +kernel
theorem dX2_deathsCausedBy_3 : decode cX2_deathsCausedBy 3 = .ok (.istore_n 3, 1) := by decide +kernel
theorem dX2_deathsCausedBy_4 : decode cX2_deathsCausedBy 4 = .ok (.iload_n 3, 1) := by decide +kernel
theorem dX2_deathsCausedBy_5 : decode cX2_deathsCausedBy 5 = .ok (.aload_n 0, 1) := by decide +kernel
theorem dX2_deathsCausedBy_6 : decode cX2_deathsCausedBy 6 = .ok (.getfield 20, 3) := by decide +kernel
theorem dX2_deathsCausedBy_9 : decode cX2_deathsCausedBy 9 = .ok (.getfield 41, 3) := by decide +kernel
theorem dX2_deathsCausedBy_12 : decode cX2_deathsCausedBy 12 = .ok (.if_icmp .ge 48, 3) := by decide +kernel
theorem dX2_deathsCausedBy_15 : decode cX2_deathsCausedBy 15 = .ok (.iconst 0, 1) := by decide +kernel
theorem dX2_deathsCausedBy_16 : decode cX2_deathsCausedBy 16 = .ok (.istore 4, 2) := by decide +kernel
theorem dX2_deathsCausedBy_18 : decode cX2_deathsCausedBy 18 = .ok (.iload 4, 2) := by decide +kernel
theorem dX2_deathsCausedBy_20 : decode cX2_deathsCausedBy 20 = .ok (.aload_n 0, 1) := by decide +kernel
theorem dX2_deathsCausedBy_21 : decode cX2_deathsCausedBy 21 = .ok (.getfield 20, 3) := by decide +kernel
theorem dX2_deathsCausedBy_24 : decode cX2_deathsCausedBy 24 = .ok (.iload_n 3, 1) := by decide +kernel
theorem dX2_deathsCausedBy_25 : decode cX2_deathsCausedBy 25 = .ok (.invokevirtual 24, 3) := by decide +kernel
theorem dX2_deathsCausedBy_28 : decode cX2_deathsCausedBy 28 = .ok (.if_icmp .ge 26, 3) := by decide +kernel
theorem dX2_deathsCausedBy_31 : decode cX2_deathsCausedBy 31 = .ok (.aload_n 0, 1) := by decide +kernel
theorem dX2_deathsCausedBy_32 : decode cX2_deathsCausedBy 32 = .ok (.getfield 20, 3) := by decide +kernel
theorem dX2_deathsCausedBy_35 : decode cX2_deathsCausedBy 35 = .ok (.iload_n 3, 1) := by decide +kernel
theorem dX2_deathsCausedBy_36 : decode cX2_deathsCausedBy 36 = .ok (.iload 4, 2) := by decide +kernel
theorem dX2_deathsCausedBy_38 : decode cX2_deathsCausedBy 38 = .ok (.invokevirtual 45, 3) := by decide +kernel
theorem dX2_deathsCausedBy_41 : decode cX2_deathsCausedBy 41 = .ok (.iload_n 1, 1) := by decide +kernel
theorem dX2_deathsCausedBy_42 : decode cX2_deathsCausedBy 42 = .ok (.if_icmp .ne 6, 3) := by decide +kernel
theorem dX2_deathsCausedBy_45 : decode cX2_deathsCausedBy 45 = .ok (.iinc 2 1, 3) := by decide +kernel
theorem dX2_deathsCausedBy_48 : decode cX2_deathsCausedBy 48 = .ok (.iinc 4 1, 3) := by decide +kernel
theorem dX2_deathsCausedBy_51 : decode cX2_deathsCausedBy 51 = .ok (.goto (-33), 3) := by decide +kernel
theorem dX2_deathsCausedBy_54 : decode cX2_deathsCausedBy 54 = .ok (.iinc 3 1, 3) := by decide +kernel
theorem dX2_deathsCausedBy_57 : decode cX2_deathsCausedBy 57 = .ok (.goto (-53), 3) := by decide +kernel
theorem dX2_deathsCausedBy_60 : decode cX2_deathsCausedBy 60 = .ok (.iload_n 2, 1) := by decide +kernel
theorem dX2_deathsCausedBy_61 : decode cX2_deathsCausedBy 61 = .ok (.ireturn, 1) := by decide +kernel
theorem e_95 (r : Nat) (a0 : Int32) (ws : ai_W) : ai_Call 95 [.ref r, .int a0] ws = if ai_isob ws r 2 = true then ai_Run 95 0 [.ref r, .int a0, .null, .null, .null] [] ws else none := R_entV hk_95 ⟨⟨rfl, rfl⟩, Nat.le_of_ble_eq_true rfl⟩ rfl
theorem r_95_0 (ls st : List Value) (ws : ai_W) : ai_Run 95 0 ls st ws = ai_Run 95 1 ls (.int 0 :: st) ws := R_iconst hc_95 dX2_deathsCausedBy_0 (by decide) rfl
theorem r_95_1 (l0 l1 l2 l3 l4 : Value) (a : Int32) (st : List Value) (ws : ai_W) : ai_Run 95 1 [l0, l1, l2, l3, l4] (.int a :: st) ws = ai_Run 95 2 [l0, l1, .int a, l3, l4] st ws := R_istore_n hc_95 dX2_deathsCausedBy_1 (Nat.le_of_ble_eq_true rfl) rfl rfl
theorem r_95_2 (ls st : List Value) (ws : ai_W) : ai_Run 95 2 ls st ws = ai_Run 95 3 ls (.int 0 :: st) ws := R_iconst hc_95 dX2_deathsCausedBy_2 (by decide) rfl
theorem r_95_3 (l0 l1 l2 l3 l4 : Value) (a : Int32) (st : List Value) (ws : ai_W) : ai_Run 95 3 [l0, l1, l2, l3, l4] (.int a :: st) ws = ai_Run 95 4 [l0, l1, l2, .int a, l4] st ws := R_istore_n hc_95 dX2_deathsCausedBy_3 (Nat.le_of_ble_eq_true rfl) rfl rfl
theorem r_95_4 (l0 l1 l2 l4 : Value) (a : Int32) (st : List Value) (ws : ai_W) : ai_Run 95 4 [l0, l1, l2, .int a, l4] st ws = ai_Run 95 5 [l0, l1, l2, .int a, l4] (.int a :: st) ws := R_iload_n hc_95 dX2_deathsCausedBy_4 rfl rfl
theorem r_95_5 (l1 l2 l3 l4 : Value) (a : Nat) (st : List Value) (ws : ai_W) : ai_Run 95 5 [.ref a, l1, l2, l3, l4] st ws = ai_Run 95 6 [.ref a, l1, l2, l3, l4] (.ref a :: st) ws := R_aload_n hc_95 dX2_deathsCausedBy_5 rfl rfl
theorem r_95_6 (ls st : List Value) (a : Nat) (ws : ai_W) : ai_Run 95 6 ls (.ref a :: st) ws = (ai_fget ws a 2 0).bind fun q => ai_Run 95 9 ls (q :: st) ws := R_getf hc_95 dX2_deathsCausedBy_6 hv_95 (w := 561) rfl rfl
theorem r_95_9 (ls st : List Value) (a : Nat) (ws : ai_W) : ai_Run 95 9 ls (.ref a :: st) ws = (ai_fget ws a 0 0).bind fun q => ai_Run 95 12 ls (q :: st) ws := R_getf hc_95 dX2_deathsCausedBy_9 hv_95 (w := 466) rfl rfl
theorem r_95_12 (ls st : List Value) (a b : Int32) (ws : ai_W) : ai_Run 95 12 ls (.int b :: .int a :: st) ws = if a < b then ai_Run 95 15 ls st ws else ai_Run 95 60 ls st ws := R_cmp_ge hc_95 dX2_deathsCausedBy_12 rfl rfl
theorem r_95_15 (ls st : List Value) (ws : ai_W) : ai_Run 95 15 ls st ws = ai_Run 95 16 ls (.int 0 :: st) ws := R_iconst hc_95 dX2_deathsCausedBy_15 (by decide) rfl
theorem r_95_16 (l0 l1 l2 l3 l4 : Value) (a : Int32) (st : List Value) (ws : ai_W) : ai_Run 95 16 [l0, l1, l2, l3, l4] (.int a :: st) ws = ai_Run 95 18 [l0, l1, l2, l3, .int a] st ws := R_istore hc_95 dX2_deathsCausedBy_16 (Nat.le_of_ble_eq_true rfl) rfl rfl
theorem r_95_18 (l0 l1 l2 l3 : Value) (a : Int32) (st : List Value) (ws : ai_W) : ai_Run 95 18 [l0, l1, l2, l3, .int a] st ws = ai_Run 95 20 [l0, l1, l2, l3, .int a] (.int a :: st) ws := R_iload hc_95 dX2_deathsCausedBy_18 rfl rfl
theorem r_95_20 (l1 l2 l3 l4 : Value) (a : Nat) (st : List Value) (ws : ai_W) : ai_Run 95 20 [.ref a, l1, l2, l3, l4] st ws = ai_Run 95 21 [.ref a, l1, l2, l3, l4] (.ref a :: st) ws := R_aload_n hc_95 dX2_deathsCausedBy_20 rfl rfl
theorem r_95_21 (ls st : List Value) (a : Nat) (ws : ai_W) : ai_Run 95 21 ls (.ref a :: st) ws = (ai_fget ws a 2 0).bind fun q => ai_Run 95 24 ls (q :: st) ws := R_getf hc_95 dX2_deathsCausedBy_21 hv_95 (w := 561) rfl rfl
theorem r_95_24 (l0 l1 l2 l4 : Value) (a : Int32) (st : List Value) (ws : ai_W) : ai_Run 95 24 [l0, l1, l2, .int a, l4] st ws = ai_Run 95 25 [l0, l1, l2, .int a, l4] (.int a :: st) ws := R_iload_n hc_95 dX2_deathsCausedBy_24 rfl rfl
theorem r_95_25 (ls : List Value) (r : Nat) (b0 : Int32) (s0 : Value) (ws : ai_W) : ai_Run 95 25 ls [.int b0, .ref r, s0] ws = (ai_Call 13 [.ref r, .int b0] ws).bind fun q => ai_Run 95 28 ls (q.1.toList ++ [s0]) q.2 := R_callV hc_95 dX2_deathsCausedBy_25 hv_95 (w := 275) rfl (ai_lt3 hf_13 hf_95 hL_13 ho_13 ho_95 rfl) hk_13 (by rw [hn_13]; rfl) rfl (Nat.le_of_ble_eq_true rfl) rfl
theorem r_95_28 (ls st : List Value) (a b : Int32) (ws : ai_W) : ai_Run 95 28 ls (.int b :: .int a :: st) ws = if a < b then ai_Run 95 31 ls st ws else ai_Run 95 54 ls st ws := R_cmp_ge hc_95 dX2_deathsCausedBy_28 rfl rfl
theorem r_95_31 (l1 l2 l3 l4 : Value) (a : Nat) (st : List Value) (ws : ai_W) : ai_Run 95 31 [.ref a, l1, l2, l3, l4] st ws = ai_Run 95 32 [.ref a, l1, l2, l3, l4] (.ref a :: st) ws := R_aload_n hc_95 dX2_deathsCausedBy_31 rfl rfl
theorem r_95_32 (ls st : List Value) (a : Nat) (ws : ai_W) : ai_Run 95 32 ls (.ref a :: st) ws = (ai_fget ws a 2 0).bind fun q => ai_Run 95 35 ls (q :: st) ws := R_getf hc_95 dX2_deathsCausedBy_32 hv_95 (w := 561) rfl rfl
theorem r_95_35 (l0 l1 l2 l4 : Value) (a : Int32) (st : List Value) (ws : ai_W) : ai_Run 95 35 [l0, l1, l2, .int a, l4] st ws = ai_Run 95 36 [l0, l1, l2, .int a, l4] (.int a :: st) ws := R_iload_n hc_95 dX2_deathsCausedBy_35 rfl rfl
theorem r_95_36 (l0 l1 l2 l3 : Value) (a : Int32) (st : List Value) (ws : ai_W) : ai_Run 95 36 [l0, l1, l2, l3, .int a] st ws = ai_Run 95 38 [l0, l1, l2, l3, .int a] (.int a :: st) ws := R_iload hc_95 dX2_deathsCausedBy_36 rfl rfl
theorem r_95_38 (ls : List Value) (r : Nat) (b0 : Int32) (b1 : Int32) (ws : ai_W) : ai_Run 95 38 ls [.int b1, .int b0, .ref r] ws = (ai_Call 17 [.ref r, .int b0, .int b1] ws).bind fun q => ai_Run 95 41 ls (q.1.toList ++ []) q.2 := R_callV hc_95 dX2_deathsCausedBy_38 hv_95 (w := 289) rfl (ai_lt3 hf_17 hf_95 hL_17 ho_17 ho_95 rfl) hk_17 (by rw [hn_17]; rfl) rfl (Nat.le_of_ble_eq_true rfl) rfl
theorem r_95_41 (l0 l2 l3 l4 : Value) (a : Int32) (st : List Value) (ws : ai_W) : ai_Run 95 41 [l0, .int a, l2, l3, l4] st ws = ai_Run 95 42 [l0, .int a, l2, l3, l4] (.int a :: st) ws := R_iload_n hc_95 dX2_deathsCausedBy_41 rfl rfl
theorem r_95_42 (ls st : List Value) (a b : Int32) (ws : ai_W) : ai_Run 95 42 ls (.int b :: .int a :: st) ws = if a = b then ai_Run 95 45 ls st ws else ai_Run 95 48 ls st ws := R_cmp_ne hc_95 dX2_deathsCausedBy_42 rfl rfl
theorem r_95_45 (l0 l1 l3 l4 : Value) (a : Int32) (st : List Value) (ws : ai_W) : ai_Run 95 45 [l0, l1, .int a, l3, l4] st ws = ai_Run 95 48 [l0, l1, .int (a + 1), l3, l4] st ws := R_iinc hc_95 dX2_deathsCausedBy_45 rfl (by decide) rfl rfl
theorem r_95_48 (l0 l1 l2 l3 : Value) (a : Int32) (st : List Value) (ws : ai_W) : ai_Run 95 48 [l0, l1, l2, l3, .int a] st ws = ai_Run 95 51 [l0, l1, l2, l3, .int (a + 1)] st ws := R_iinc hc_95 dX2_deathsCausedBy_48 rfl (by decide) rfl rfl
theorem r_95_51 (ls st : List Value) (ws : ai_W) : ai_Run 95 51 ls st ws = ai_Run 95 18 ls st ws := R_goto hc_95 dX2_deathsCausedBy_51 rfl
theorem r_95_54 (l0 l1 l2 l4 : Value) (a : Int32) (st : List Value) (ws : ai_W) : ai_Run 95 54 [l0, l1, l2, .int a, l4] st ws = ai_Run 95 57 [l0, l1, l2, .int (a + 1), l4] st ws := R_iinc hc_95 dX2_deathsCausedBy_54 rfl (by decide) rfl rfl
theorem r_95_57 (ls st : List Value) (ws : ai_W) : ai_Run 95 57 ls st ws = ai_Run 95 4 ls st ws := R_goto hc_95 dX2_deathsCausedBy_57 rfl
theorem r_95_60 (l0 l1 l3 l4 : Value) (a : Int32) (st : List Value) (ws : ai_W) : ai_Run 95 60 [l0, l1, .int a, l3, l4] st ws = ai_Run 95 61 [l0, l1, .int a, l3, l4] (.int a :: st) ws := R_iload_n hc_95 dX2_deathsCausedBy_60 rfl rfl
theorem r_95_61 (ls : List Value) (x : Int32) (ws : ai_W) : ai_Run 95 61 ls [.int x] ws = some (some (.int x), ws) := R_iret hc_95 dX2_deathsCausedBy_61 ht_95
theorem dX2_pagesHeldBy_0 : decode cX2_pagesHeldBy 0 = .ok (.iconst 0, 1) := by decide +kernel
theorem dX2_pagesHeldBy_1 : decode cX2_pagesHeldBy 1 = .ok (.istore_n 2, 1) := by decide +kernel
theorem dX2_pagesHeldBy_2 : decode cX2_pagesHeldBy 2 = .ok (.iconst 0, 1) := by decide +kernel
theorem dX2_pagesHeldBy_3 : decode cX2_pagesHeldBy 3 = .ok (.istore_n 3, 1) := by decide +kernel
theorem dX2_pagesHeldBy_4 : decode cX2_pagesHeldBy 4 = .ok (.iload_n 3, 1) := by decide +kernel
theorem dX2_pagesHeldBy_5 : decode cX2_pagesHeldBy 5 = .ok (.aload_n 0, 1) := by decide +kernel
theorem dX2_pagesHeldBy_6 : decode cX2_pagesHeldBy 6 = .ok (.getfield 20, 3) := by decide +kernel
theorem dX2_pagesHeldBy_9 : decode cX2_pagesHeldBy 9 = .ok (.getfield 41, 3) := by decide +kernel
theorem dX2_pagesHeldBy_12 : decode cX2_pagesHeldBy 12 = .ok (.if_icmp .ge 21, 3) := by decide +kernel
theorem dX2_pagesHeldBy_15 : decode cX2_pagesHeldBy 15 = .ok (.iload_n 2, 1) := by decide +kernel
theorem dX2_pagesHeldBy_16 : decode cX2_pagesHeldBy 16 = .ok (.aload_n 0, 1) := by decide +kernel
theorem dX2_pagesHeldBy_17 : decode cX2_pagesHeldBy 17 = .ok (.getfield 20, 3) := by decide +kernel
theorem dX2_pagesHeldBy_20 : decode cX2_pagesHeldBy 20 = .ok (.iload_n 1, 1) := by decide +kernel
theorem dX2_pagesHeldBy_21 : decode cX2_pagesHeldBy 21 = .ok (.iload_n 3, 1) := by decide +kernel
theorem dX2_pagesHeldBy_22 : decode cX2_pagesHeldBy 22 = .ok (.invokevirtual 48, 3) := by decide +kernel
theorem dX2_pagesHeldBy_25 : decode cX2_pagesHeldBy 25 = .ok (.iadd, 1) := by decide +kernel
theorem dX2_pagesHeldBy_26 : decode cX2_pagesHeldBy 26 = .ok (.istore_n 2, 1) := by decide +kernel
theorem dX2_pagesHeldBy_27 : decode cX2_pagesHeldBy 27 = .ok (.iinc 3 1, 3) := by decide +kernel
theorem dX2_pagesHeldBy_30 : decode cX2_pagesHeldBy 30 = .ok (.goto (-26), 3) := by decide +kernel
theorem dX2_pagesHeldBy_33 : decode cX2_pagesHeldBy 33 = .ok (.iload_n 2, 1) := by decide +kernel
theorem dX2_pagesHeldBy_34 : decode cX2_pagesHeldBy 34 = .ok (.ireturn, 1) := by decide +kernel
theorem e_96 (r : Nat) (a0 : Int32) (ws : ai_W) : ai_Call 96 [.ref r, .int a0] ws = if ai_isob ws r 2 = true then ai_Run 96 0 [.ref r, .int a0, .null, .null] [] ws else none := R_entV hk_96 ⟨⟨rfl, rfl⟩, Nat.le_of_ble_eq_true rfl⟩ rfl
theorem r_96_0 (ls st : List Value) (ws : ai_W) : ai_Run 96 0 ls st ws = ai_Run 96 1 ls (.int 0 :: st) ws := R_iconst hc_96 dX2_pagesHeldBy_0 (by decide) rfl
theorem r_96_1 (l0 l1 l2 l3 : Value) (a : Int32) (st : List Value) (ws : ai_W) : ai_Run 96 1 [l0, l1, l2, l3] (.int a :: st) ws = ai_Run 96 2 [l0, l1, .int a, l3] st ws := R_istore_n hc_96 dX2_pagesHeldBy_1 (Nat.le_of_ble_eq_true rfl) rfl rfl
theorem r_96_2 (ls st : List Value) (ws : ai_W) : ai_Run 96 2 ls st ws = ai_Run 96 3 ls (.int 0 :: st) ws := R_iconst hc_96 dX2_pagesHeldBy_2 (by decide) rfl
theorem r_96_3 (l0 l1 l2 l3 : Value) (a : Int32) (st : List Value) (ws : ai_W) : ai_Run 96 3 [l0, l1, l2, l3] (.int a :: st) ws = ai_Run 96 4 [l0, l1, l2, .int a] st ws := R_istore_n hc_96 dX2_pagesHeldBy_3 (Nat.le_of_ble_eq_true rfl) rfl rfl
theorem r_96_4 (l0 l1 l2 : Value) (a : Int32) (st : List Value) (ws : ai_W) : ai_Run 96 4 [l0, l1, l2, .int a] st ws = ai_Run 96 5 [l0, l1, l2, .int a] (.int a :: st) ws := R_iload_n hc_96 dX2_pagesHeldBy_4 rfl rfl
theorem r_96_5 (l1 l2 l3 : Value) (a : Nat) (st : List Value) (ws : ai_W) : ai_Run 96 5 [.ref a, l1, l2, l3] st ws = ai_Run 96 6 [.ref a, l1, l2, l3] (.ref a :: st) ws := R_aload_n hc_96 dX2_pagesHeldBy_5 rfl rfl
theorem r_96_6 (ls st : List Value) (a : Nat) (ws : ai_W) : ai_Run 96 6 ls (.ref a :: st) ws = (ai_fget ws a 2 0).bind fun q => ai_Run 96 9 ls (q :: st) ws := R_getf hc_96 dX2_pagesHeldBy_6 hv_96 (w := 561) rfl rfl
theorem r_96_9 (ls st : List Value) (a : Nat) (ws : ai_W) : ai_Run 96 9 ls (.ref a :: st) ws = (ai_fget ws a 0 0).bind fun q => ai_Run 96 12 ls (q :: st) ws := R_getf hc_96 dX2_pagesHeldBy_9 hv_96 (w := 466) rfl rfl
theorem r_96_12 (ls st : List Value) (a b : Int32) (ws : ai_W) : ai_Run 96 12 ls (.int b :: .int a :: st) ws = if a < b then ai_Run 96 15 ls st ws else ai_Run 96 33 ls st ws := R_cmp_ge hc_96 dX2_pagesHeldBy_12 rfl rfl
theorem r_96_15 (l0 l1 l3 : Value) (a : Int32) (st : List Value) (ws : ai_W) : ai_Run 96 15 [l0, l1, .int a, l3] st ws = ai_Run 96 16 [l0, l1, .int a, l3] (.int a :: st) ws := R_iload_n hc_96 dX2_pagesHeldBy_15 rfl rfl
theorem r_96_16 (l1 l2 l3 : Value) (a : Nat) (st : List Value) (ws : ai_W) : ai_Run 96 16 [.ref a, l1, l2, l3] st ws = ai_Run 96 17 [.ref a, l1, l2, l3] (.ref a :: st) ws := R_aload_n hc_96 dX2_pagesHeldBy_16 rfl rfl
theorem r_96_17 (ls st : List Value) (a : Nat) (ws : ai_W) : ai_Run 96 17 ls (.ref a :: st) ws = (ai_fget ws a 2 0).bind fun q => ai_Run 96 20 ls (q :: st) ws := R_getf hc_96 dX2_pagesHeldBy_17 hv_96 (w := 561) rfl rfl
theorem r_96_20 (l0 l2 l3 : Value) (a : Int32) (st : List Value) (ws : ai_W) : ai_Run 96 20 [l0, .int a, l2, l3] st ws = ai_Run 96 21 [l0, .int a, l2, l3] (.int a :: st) ws := R_iload_n hc_96 dX2_pagesHeldBy_20 rfl rfl
theorem r_96_21 (l0 l1 l2 : Value) (a : Int32) (st : List Value) (ws : ai_W) : ai_Run 96 21 [l0, l1, l2, .int a] st ws = ai_Run 96 22 [l0, l1, l2, .int a] (.int a :: st) ws := R_iload_n hc_96 dX2_pagesHeldBy_21 rfl rfl
theorem r_96_22 (ls : List Value) (r : Nat) (b0 : Int32) (b1 : Int32) (s0 : Value) (ws : ai_W) : ai_Run 96 22 ls [.int b1, .int b0, .ref r, s0] ws = (ai_Call 76 [.ref r, .int b0, .int b1] ws).bind fun q => ai_Run 96 25 ls (q.1.toList ++ [s0]) q.2 := R_callV hc_96 dX2_pagesHeldBy_22 hv_96 (w := 1187) rfl (ai_lt3 hf_76 hf_96 hL_76 ho_76 ho_96 rfl) hk_76 (by rw [hn_76]; rfl) rfl (Nat.le_of_ble_eq_true rfl) rfl
theorem r_96_25 (ls st : List Value) (a b : Int32) (ws : ai_W) : ai_Run 96 25 ls (.int b :: .int a :: st) ws = ai_Run 96 26 ls (.int (a + b) :: st) ws := R_iadd hc_96 dX2_pagesHeldBy_25 rfl
theorem r_96_26 (l0 l1 l2 l3 : Value) (a : Int32) (st : List Value) (ws : ai_W) : ai_Run 96 26 [l0, l1, l2, l3] (.int a :: st) ws = ai_Run 96 27 [l0, l1, .int a, l3] st ws := R_istore_n hc_96 dX2_pagesHeldBy_26 (Nat.le_of_ble_eq_true rfl) rfl rfl
theorem r_96_27 (l0 l1 l2 : Value) (a : Int32) (st : List Value) (ws : ai_W) : ai_Run 96 27 [l0, l1, l2, .int a] st ws = ai_Run 96 30 [l0, l1, l2, .int (a + 1)] st ws := R_iinc hc_96 dX2_pagesHeldBy_27 rfl (by decide) rfl rfl
theorem r_96_30 (ls st : List Value) (ws : ai_W) : ai_Run 96 30 ls st ws = ai_Run 96 4 ls st ws := R_goto hc_96 dX2_pagesHeldBy_30 rfl
theorem r_96_33 (l0 l1 l3 : Value) (a : Int32) (st : List Value) (ws : ai_W) : ai_Run 96 33 [l0, l1, .int a, l3] st ws = ai_Run 96 34 [l0, l1, .int a, l3] (.int a :: st) ws := R_iload_n hc_96 dX2_pagesHeldBy_33 rfl rfl
theorem r_96_34 (ls : List Value) (x : Int32) (ws : ai_W) : ai_Run 96 34 ls [.int x] ws = some (some (.int x), ws) := R_iret hc_96 dX2_pagesHeldBy_34 ht_96
theorem dX2_pagesAgainst_0 : decode cX2_pagesAgainst 0 = .ok (.iconst 0, 1) := by decide +kernel
theorem dX2_pagesAgainst_1 : decode cX2_pagesAgainst 1 = .ok (.istore_n 2, 1) := by decide +kernel
theorem dX2_pagesAgainst_2 : decode cX2_pagesAgainst 2 = .ok (.iconst 0, 1) := by decide +kernel
theorem dX2_pagesAgainst_3 : decode cX2_pagesAgainst 3 = .ok (.istore_n 3, 1) := by decide +kernel
theorem dX2_pagesAgainst_4 : decode cX2_pagesAgainst 4 = .ok (.iload_n 3, 1) := by decide +kernel
theorem dX2_pagesAgainst_5 : decode cX2_pagesAgainst 5 = .ok (.aload_n 0, 1) := by decide +kernel
theorem dX2_pagesAgainst_6 : decode cX2_pagesAgainst 6 = .ok (.getfield 20, 3) := by decide +kernel
theorem dX2_pagesAgainst_9 : decode cX2_pagesAgainst 9 = .ok (.getfield 41, 3) := by decide +kernel
theorem dX2_pagesAgainst_12 : decode cX2_pagesAgainst 12 = .ok (.if_icmp .ge 21, 3) := by decide +kernel
theorem dX2_pagesAgainst_15 : decode cX2_pagesAgainst 15 = .ok (.iload_n 2, 1) := by decide +kernel
theorem dX2_pagesAgainst_16 : decode cX2_pagesAgainst 16 = .ok (.aload_n 0, 1) := by decide +kernel
theorem dX2_pagesAgainst_17 : decode cX2_pagesAgainst 17 = .ok (.getfield 20, 3) := by decide +kernel
theorem dX2_pagesAgainst_20 : decode cX2_pagesAgainst 20 = .ok (.iload_n 3, 1) := by decide +kernel
theorem dX2_pagesAgainst_21 : decode cX2_pagesAgainst 21 = .ok (.iload_n 1, 1) := by decide +kernel
theorem dX2_pagesAgainst_22 : decode cX2_pagesAgainst 22 = .ok (.invokevirtual 48, 3) := by decide +kernel
theorem dX2_pagesAgainst_25 : decode cX2_pagesAgainst 25 = .ok (.iadd, 1) := by decide +kernel
theorem dX2_pagesAgainst_26 : decode cX2_pagesAgainst 26 = .ok (.istore_n 2, 1) := by decide +kernel
theorem dX2_pagesAgainst_27 : decode cX2_pagesAgainst 27 = .ok (.iinc 3 1, 3) := by decide +kernel
theorem dX2_pagesAgainst_30 : decode cX2_pagesAgainst 30 = .ok (.goto (-26), 3) := by decide +kernel
theorem dX2_pagesAgainst_33 : decode cX2_pagesAgainst 33 = .ok (.iload_n 2, 1) := by decide +kernel
theorem dX2_pagesAgainst_34 : decode cX2_pagesAgainst 34 = .ok (.ireturn, 1) := by decide +kernel
theorem e_97 (r : Nat) (a0 : Int32) (ws : ai_W) : ai_Call 97 [.ref r, .int a0] ws = if ai_isob ws r 2 = true then ai_Run 97 0 [.ref r, .int a0, .null, .null] [] ws else none := R_entV hk_97 ⟨⟨rfl, rfl⟩, Nat.le_of_ble_eq_true rfl⟩ rfl
theorem r_97_0 (ls st : List Value) (ws : ai_W) : ai_Run 97 0 ls st ws = ai_Run 97 1 ls (.int 0 :: st) ws := R_iconst hc_97 dX2_pagesAgainst_0 (by decide) rfl
theorem r_97_1 (l0 l1 l2 l3 : Value) (a : Int32) (st : List Value) (ws : ai_W) : ai_Run 97 1 [l0, l1, l2, l3] (.int a :: st) ws = ai_Run 97 2 [l0, l1, .int a, l3] st ws := R_istore_n hc_97 dX2_pagesAgainst_1 (Nat.le_of_ble_eq_true rfl) rfl rfl
theorem r_97_2 (ls st : List Value) (ws : ai_W) : ai_Run 97 2 ls st ws = ai_Run 97 3 ls (.int 0 :: st) ws := R_iconst hc_97 dX2_pagesAgainst_2 (by decide) rfl
theorem r_97_3 (l0 l1 l2 l3 : Value) (a : Int32) (st : List Value) (ws : ai_W) : ai_Run 97 3 [l0, l1, l2, l3] (.int a :: st) ws = ai_Run 97 4 [l0, l1, l2, .int a] st ws := R_istore_n hc_97 dX2_pagesAgainst_3 (Nat.le_of_ble_eq_true rfl) rfl rfl
theorem r_97_4 (l0 l1 l2 : Value) (a : Int32) (st : List Value) (ws : ai_W) : ai_Run 97 4 [l0, l1, l2, .int a] st ws = ai_Run 97 5 [l0, l1, l2, .int a] (.int a :: st) ws := R_iload_n hc_97 dX2_pagesAgainst_4 rfl rfl
theorem r_97_5 (l1 l2 l3 : Value) (a : Nat) (st : List Value) (ws : ai_W) : ai_Run 97 5 [.ref a, l1, l2, l3] st ws = ai_Run 97 6 [.ref a, l1, l2, l3] (.ref a :: st) ws := R_aload_n hc_97 dX2_pagesAgainst_5 rfl rfl
theorem r_97_6 (ls st : List Value) (a : Nat) (ws : ai_W) : ai_Run 97 6 ls (.ref a :: st) ws = (ai_fget ws a 2 0).bind fun q => ai_Run 97 9 ls (q :: st) ws := R_getf hc_97 dX2_pagesAgainst_6 hv_97 (w := 561) rfl rfl
theorem r_97_9 (ls st : List Value) (a : Nat) (ws : ai_W) : ai_Run 97 9 ls (.ref a :: st) ws = (ai_fget ws a 0 0).bind fun q => ai_Run 97 12 ls (q :: st) ws := R_getf hc_97 dX2_pagesAgainst_9 hv_97 (w := 466) rfl rfl
theorem r_97_12 (ls st : List Value) (a b : Int32) (ws : ai_W) : ai_Run 97 12 ls (.int b :: .int a :: st) ws = if a < b then ai_Run 97 15 ls st ws else ai_Run 97 33 ls st ws := R_cmp_ge hc_97 dX2_pagesAgainst_12 rfl rfl
theorem r_97_15 (l0 l1 l3 : Value) (a : Int32) (st : List Value) (ws : ai_W) : ai_Run 97 15 [l0, l1, .int a, l3] st ws = ai_Run 97 16 [l0, l1, .int a, l3] (.int a :: st) ws := R_iload_n hc_97 dX2_pagesAgainst_15 rfl rfl
theorem r_97_16 (l1 l2 l3 : Value) (a : Nat) (st : List Value) (ws : ai_W) : ai_Run 97 16 [.ref a, l1, l2, l3] st ws = ai_Run 97 17 [.ref a, l1, l2, l3] (.ref a :: st) ws := R_aload_n hc_97 dX2_pagesAgainst_16 rfl rfl
theorem r_97_17 (ls st : List Value) (a : Nat) (ws : ai_W) : ai_Run 97 17 ls (.ref a :: st) ws = (ai_fget ws a 2 0).bind fun q => ai_Run 97 20 ls (q :: st) ws := R_getf hc_97 dX2_pagesAgainst_17 hv_97 (w := 561) rfl rfl
theorem r_97_20 (l0 l1 l2 : Value) (a : Int32) (st : List Value) (ws : ai_W) : ai_Run 97 20 [l0, l1, l2, .int a] st ws = ai_Run 97 21 [l0, l1, l2, .int a] (.int a :: st) ws := R_iload_n hc_97 dX2_pagesAgainst_20 rfl rfl
theorem r_97_21 (l0 l2 l3 : Value) (a : Int32) (st : List Value) (ws : ai_W) : ai_Run 97 21 [l0, .int a, l2, l3] st ws = ai_Run 97 22 [l0, .int a, l2, l3] (.int a :: st) ws := R_iload_n hc_97 dX2_pagesAgainst_21 rfl rfl
theorem r_97_22 (ls : List Value) (r : Nat) (b0 : Int32) (b1 : Int32) (s0 : Value) (ws : ai_W) : ai_Run 97 22 ls [.int b1, .int b0, .ref r, s0] ws = (ai_Call 76 [.ref r, .int b0, .int b1] ws).bind fun q => ai_Run 97 25 ls (q.1.toList ++ [s0]) q.2 := R_callV hc_97 dX2_pagesAgainst_22 hv_97 (w := 1187) rfl (ai_lt3 hf_76 hf_97 hL_76 ho_76 ho_97 rfl) hk_76 (by rw [hn_76]; rfl) rfl (Nat.le_of_ble_eq_true rfl) rfl
theorem r_97_25 (ls st : List Value) (a b : Int32) (ws : ai_W) : ai_Run 97 25 ls (.int b :: .int a :: st) ws = ai_Run 97 26 ls (.int (a + b) :: st) ws := R_iadd hc_97 dX2_pagesAgainst_25 rfl
theorem r_97_26 (l0 l1 l2 l3 : Value) (a : Int32) (st : List Value) (ws : ai_W) : ai_Run 97 26 [l0, l1, l2, l3] (.int a :: st) ws = ai_Run 97 27 [l0, l1, .int a, l3] st ws := R_istore_n hc_97 dX2_pagesAgainst_26 (Nat.le_of_ble_eq_true rfl) rfl rfl
theorem r_97_27 (l0 l1 l2 : Value) (a : Int32) (st : List Value) (ws : ai_W) : ai_Run 97 27 [l0, l1, l2, .int a] st ws = ai_Run 97 30 [l0, l1, l2, .int (a + 1)] st ws := R_iinc hc_97 dX2_pagesAgainst_27 rfl (by decide) rfl rfl
theorem r_97_30 (ls st : List Value) (ws : ai_W) : ai_Run 97 30 ls st ws = ai_Run 97 4 ls st ws := R_goto hc_97 dX2_pagesAgainst_30 rfl
theorem r_97_33 (l0 l1 l3 : Value) (a : Int32) (st : List Value) (ws : ai_W) : ai_Run 97 33 [l0, l1, .int a, l3] st ws = ai_Run 97 34 [l0, l1, .int a, l3] (.int a :: st) ws := R_iload_n hc_97 dX2_pagesAgainst_33 rfl rfl
theorem r_97_34 (ls : List Value) (x : Int32) (ws : ai_W) : ai_Run 97 34 ls [.int x] ws = some (some (.int x), ws) := R_iret hc_97 dX2_pagesAgainst_34 ht_97
theorem dX4_deadByLatest_0 : decode cX4_deadByLatest 0 = .ok (.iconst 0, 1) := by decide +kernel
theorem dX4_deadByLatest_1 : decode cX4_deadByLatest 1 = .ok (.istore_n 2, 1) := by decide +kernel
theorem dX4_deadByLatest_2 : decode cX4_deadByLatest 2 = .ok (.iconst 0, 1) := by decide +kernel
theorem dX4_deadByLatest_3 : decode cX4_deadByLatest 3 = .ok (.istore_n 3, 1) := by decide +kernel
theorem dX4_deadByLatest_4 : decode cX4_deadByLatest 4 = .ok (.iload_n 3, 1) := by decide +kernel
theorem dX4_deadByLatest_5 : decode cX4_deadByLatest 5 = .ok (.aload_n 0, 1) := by decide +kernel
theorem dX4_deadByLatest_6 : decode cX4_deadByLatest 6 = .ok (.getfield 9, 3) := by decide +kernel
theorem dX4_deadByLatest_9 : decode cX4_deadByLatest 9 = .ok (.getfield 30, 3) := by decide +kernel
theorem dX4_deadByLatest_12 : decode cX4_deadByLatest 12 = .ok (.if_icmp .ge 24, 3) := by decide +kernel
theorem dX4_deadByLatest_15 : decode cX4_deadByLatest 15 = .ok (.aload_n 0, 1) := by decide +kernel
theorem dX4_deadByLatest_16 : decode cX4_deadByLatest 16 = .ok (.iload_n 3, 1) := by decide +kernel
theorem dX4_deadByLatest_17 : decode cX4_deadByLatest 17 = .ok (.iload_n 1, 1) := by decide +kernel
theorem dX4_deadByLatest_18 : decode cX4_deadByLatest 18 = .ok (.invokevirtual 34, 3) := by decide +kernel
theorem dX4_deadByLatest_21 : decode cX4_deadByLatest 21 = .ok (.ifCond .eq 9, 3) := by decide +kernel
theorem dX4_deadByLatest_24 : decode cX4_deadByLatest 24 = .ok (.iload_n 2, 1) := by decide +kernel
theorem dX4_deadByLatest_25 : decode cX4_deadByLatest 25 = .ok (.iconst 1, 1) := by decide +kernel
theorem dX4_deadByLatest_26 : decode cX4_deadByLatest 26 = .ok (.iload_n 3, 1) := by decide +kernel
theorem dX4_deadByLatest_27 : decode cX4_deadByLatest 27 = .ok (.ishl, 1) := by decide +kernel
theorem dX4_deadByLatest_28 : decode cX4_deadByLatest 28 = .ok (.ior, 1) := by decide +kernel
theorem dX4_deadByLatest_29 : decode cX4_deadByLatest 29 = .ok (.istore_n 2, 1) := by decide +kernel
theorem dX4_deadByLatest_30 : decode cX4_deadByLatest 30 = .ok (.iinc 3 1, 3) := by decide +kernel
theorem dX4_deadByLatest_33 : decode cX4_deadByLatest 33 = .ok (.goto (-29), 3) := by decide +kernel
theorem dX4_deadByLatest_36 : decode cX4_deadByLatest 36 = .ok (.iload_n 2, 1) := by decide +kernel
theorem dX4_deadByLatest_37 : decode cX4_deadByLatest 37 = .ok (.ireturn, 1) := by decide +kernel
theorem e_99 (r : Nat) (a0 : Int32) (ws : ai_W) : ai_Call 99 [.ref r, .int a0] ws = if ai_isob ws r 4 = true then ai_Run 99 0 [.ref r, .int a0, .null, .null] [] ws else none := R_entV hk_99 ⟨⟨rfl, rfl⟩, Nat.le_of_ble_eq_true rfl⟩ rfl
theorem r_99_0 (ls st : List Value) (ws : ai_W) : ai_Run 99 0 ls st ws = ai_Run 99 1 ls (.int 0 :: st) ws := R_iconst hc_99 dX4_deadByLatest_0 (by decide) rfl
theorem r_99_1 (l0 l1 l2 l3 : Value) (a : Int32) (st : List Value) (ws : ai_W) : ai_Run 99 1 [l0, l1, l2, l3] (.int a :: st) ws = ai_Run 99 2 [l0, l1, .int a, l3] st ws := R_istore_n hc_99 dX4_deadByLatest_1 (Nat.le_of_ble_eq_true rfl) rfl rfl
theorem r_99_2 (ls st : List Value) (ws : ai_W) : ai_Run 99 2 ls st ws = ai_Run 99 3 ls (.int 0 :: st) ws := R_iconst hc_99 dX4_deadByLatest_2 (by decide) rfl
theorem r_99_3 (l0 l1 l2 l3 : Value) (a : Int32) (st : List Value) (ws : ai_W) : ai_Run 99 3 [l0, l1, l2, l3] (.int a :: st) ws = ai_Run 99 4 [l0, l1, l2, .int a] st ws := R_istore_n hc_99 dX4_deadByLatest_3 (Nat.le_of_ble_eq_true rfl) rfl rfl
theorem r_99_4 (l0 l1 l2 : Value) (a : Int32) (st : List Value) (ws : ai_W) : ai_Run 99 4 [l0, l1, l2, .int a] st ws = ai_Run 99 5 [l0, l1, l2, .int a] (.int a :: st) ws := R_iload_n hc_99 dX4_deadByLatest_4 rfl rfl
theorem r_99_5 (l1 l2 l3 : Value) (a : Nat) (st : List Value) (ws : ai_W) : ai_Run 99 5 [.ref a, l1, l2, l3] st ws = ai_Run 99 6 [.ref a, l1, l2, l3] (.ref a :: st) ws := R_aload_n hc_99 dX4_deadByLatest_5 rfl rfl
theorem r_99_6 (ls st : List Value) (a : Nat) (ws : ai_W) : ai_Run 99 6 ls (.ref a :: st) ws = (ai_fget ws a 4 0).bind fun q => ai_Run 99 9 ls (q :: st) ws := R_getf hc_99 dX4_deadByLatest_6 hv_99 (w := 522) rfl rfl
theorem r_99_9 (ls st : List Value) (a : Nat) (ws : ai_W) : ai_Run 99 9 ls (.ref a :: st) ws = (ai_fget ws a 0 0).bind fun q => ai_Run 99 12 ls (q :: st) ws := R_getf hc_99 dX4_deadByLatest_9 hv_99 (w := 465) rfl rfl
theorem r_99_12 (ls st : List Value) (a b : Int32) (ws : ai_W) : ai_Run 99 12 ls (.int b :: .int a :: st) ws = if a < b then ai_Run 99 15 ls st ws else ai_Run 99 36 ls st ws := R_cmp_ge hc_99 dX4_deadByLatest_12 rfl rfl
theorem r_99_15 (l1 l2 l3 : Value) (a : Nat) (st : List Value) (ws : ai_W) : ai_Run 99 15 [.ref a, l1, l2, l3] st ws = ai_Run 99 16 [.ref a, l1, l2, l3] (.ref a :: st) ws := R_aload_n hc_99 dX4_deadByLatest_15 rfl rfl
theorem r_99_16 (l0 l1 l2 : Value) (a : Int32) (st : List Value) (ws : ai_W) : ai_Run 99 16 [l0, l1, l2, .int a] st ws = ai_Run 99 17 [l0, l1, l2, .int a] (.int a :: st) ws := R_iload_n hc_99 dX4_deadByLatest_16 rfl rfl
theorem r_99_17 (l0 l2 l3 : Value) (a : Int32) (st : List Value) (ws : ai_W) : ai_Run 99 17 [l0, .int a, l2, l3] st ws = ai_Run 99 18 [l0, .int a, l2, l3] (.int a :: st) ws := R_iload_n hc_99 dX4_deadByLatest_17 rfl rfl
theorem r_99_18 (ls : List Value) (r : Nat) (b0 : Int32) (b1 : Int32) (ws : ai_W) : ai_Run 99 18 ls [.int b1, .int b0, .ref r] ws = (ai_Call 84 [.ref r, .int b0, .int b1] ws).bind fun q => ai_Run 99 21 ls (q.1.toList ++ []) q.2 := R_callV hc_99 dX4_deadByLatest_18 hv_99 (w := 229) rfl (ai_lt3 hf_84 hf_99 hL_84 ho_84 ho_99 rfl) hk_84 (by rw [hn_84]; rfl) rfl (Nat.le_of_ble_eq_true rfl) rfl
theorem r_99_21 (ls st : List Value) (a : Int32) (ws : ai_W) : ai_Run 99 21 ls (.int a :: st) ws = if a = 0 then ai_Run 99 30 ls st ws else ai_Run 99 24 ls st ws := R_if_eq hc_99 dX4_deadByLatest_21 rfl rfl
theorem r_99_24 (l0 l1 l3 : Value) (a : Int32) (st : List Value) (ws : ai_W) : ai_Run 99 24 [l0, l1, .int a, l3] st ws = ai_Run 99 25 [l0, l1, .int a, l3] (.int a :: st) ws := R_iload_n hc_99 dX4_deadByLatest_24 rfl rfl
theorem r_99_25 (ls st : List Value) (ws : ai_W) : ai_Run 99 25 ls st ws = ai_Run 99 26 ls (.int 1 :: st) ws := R_iconst hc_99 dX4_deadByLatest_25 (by decide) rfl
theorem r_99_26 (l0 l1 l2 : Value) (a : Int32) (st : List Value) (ws : ai_W) : ai_Run 99 26 [l0, l1, l2, .int a] st ws = ai_Run 99 27 [l0, l1, l2, .int a] (.int a :: st) ws := R_iload_n hc_99 dX4_deadByLatest_26 rfl rfl
theorem r_99_27 (ls st : List Value) (a b : Int32) (ws : ai_W) : ai_Run 99 27 ls (.int b :: .int a :: st) ws = ai_Run 99 28 ls (.int (a <<< (b &&& 31)) :: st) ws := R_ishl hc_99 dX4_deadByLatest_27 rfl
theorem r_99_28 (ls st : List Value) (a b : Int32) (ws : ai_W) : ai_Run 99 28 ls (.int b :: .int a :: st) ws = ai_Run 99 29 ls (.int (a ||| b) :: st) ws := R_ior hc_99 dX4_deadByLatest_28 rfl
theorem r_99_29 (l0 l1 l2 l3 : Value) (a : Int32) (st : List Value) (ws : ai_W) : ai_Run 99 29 [l0, l1, l2, l3] (.int a :: st) ws = ai_Run 99 30 [l0, l1, .int a, l3] st ws := R_istore_n hc_99 dX4_deadByLatest_29 (Nat.le_of_ble_eq_true rfl) rfl rfl
theorem r_99_30 (l0 l1 l2 : Value) (a : Int32) (st : List Value) (ws : ai_W) : ai_Run 99 30 [l0, l1, l2, .int a] st ws = ai_Run 99 33 [l0, l1, l2, .int (a + 1)] st ws := R_iinc hc_99 dX4_deadByLatest_30 rfl (by decide) rfl rfl
theorem r_99_33 (ls st : List Value) (ws : ai_W) : ai_Run 99 33 ls st ws = ai_Run 99 4 ls st ws := R_goto hc_99 dX4_deadByLatest_33 rfl
theorem r_99_36 (l0 l1 l3 : Value) (a : Int32) (st : List Value) (ws : ai_W) : ai_Run 99 36 [l0, l1, .int a, l3] st ws = ai_Run 99 37 [l0, l1, .int a, l3] (.int a :: st) ws := R_iload_n hc_99 dX4_deadByLatest_36 rfl rfl
theorem r_99_37 (ls : List Value) (x : Int32) (ws : ai_W) : ai_Run 99 37 ls [.int x] ws = some (some (.int x), ws) := R_iret hc_99 dX4_deadByLatest_37 ht_99
theorem dX4_darkestChapter_0 : decode cX4_darkestChapter 0 = .ok (.iconst 1, 1) := by decide +kernel
theorem dX4_darkestChapter_1 : decode cX4_darkestChapter 1 = .ok (.istore_n 1, 1) := by decide +kernel
theorem dX4_darkestChapter_2 : decode cX4_darkestChapter 2 = .ok (.iconst 0, 1) := by decide +kernel
theorem dX4_darkestChapter_3 : decode cX4_darkestChapter 3 = .ok (.istore_n 2, 1) := by decide +kernel
theorem dX4_darkestChapter_4 : decode cX4_darkestChapter 4 = .ok (.iconst 1, 1) := by decide +kernel
theorem dX4_darkestChapter_5 : decode cX4_darkestChapter 5 = .ok (.istore_n 3, 1) := by decide +kernel
theorem dX4_darkestChapter_6 : decode cX4_darkestChapter 6 = .ok (.iload_n 3, 1) := by decide +kernel
theorem dX4_darkestChapter_7 : decode cX4_darkestChapter 7 = .ok (.bipush 30, 2) := by decide +kernel
theorem dX4_darkestChapter_9 : decode cX4_darkestChapter 9 = .ok (.if_icmp .gt 30, 3) := by decide +kernel
theorem dX4_darkestChapter_12 : decode cX4_darkestChapter 12 = .ok (.aload_n 0, 1) := by decide +kernel
theorem dX4_darkestChapter_13 : decode cX4_darkestChapter 13 = .ok (.iload_n 3, 1) := by decide +kernel
theorem dX4_darkestChapter_14 : decode cX4_darkestChapter 14 = .ok (.invokevirtual 45, 3) := by decide +kernel
theorem dX4_darkestChapter_17 : decode cX4_darkestChapter 17 = .ok (.invokestatic 48, 3) := by decide +kernel
theorem dX4_darkestChapter_20 : decode cX4_darkestChapter 20 = .ok (.istore 4, 2) := by decide +kernel
theorem dX4_darkestChapter_22 : decode cX4_darkestChapter 22 = .ok (.iload 4, 2) := by decide +kernel
theorem dX4_darkestChapter_24 : decode cX4_darkestChapter 24 = .ok (.iload_n 2, 1) := by decide +kernel
theorem dX4_darkestChapter_25 : decode cX4_darkestChapter 25 = .ok (.if_icmp .le 8, 3) := by decide +kernel
theorem dX4_darkestChapter_28 : decode cX4_darkestChapter 28 = .ok (.iload 4, 2) := by decide +kernel
theorem dX4_darkestChapter_30 : decode cX4_darkestChapter 30 = .ok (.istore_n 2, 1) := by decide +kernel
theorem dX4_darkestChapter_31 : decode cX4_darkestChapter 31 = .ok (.iload_n 3, 1) := by decide +kernel
theorem dX4_darkestChapter_32 : decode cX4_darkestChapter 32 = .ok (.istore_n 1, 1) := by decide +kernel
theorem dX4_darkestChapter_33 : decode cX4_darkestChapter 33 = .ok (.iinc 3 1, 3) := by decide +kernel
theorem dX4_darkestChapter_36 : decode cX4_darkestChapter 36 = .ok (.goto (-30), 3) := by decide +kernel
theorem dX4_darkestChapter_39 : decode cX4_darkestChapter 39 = .ok (.iload_n 1, 1) := by decide +kernel
theorem dX4_darkestChapter_40 : decode cX4_darkestChapter 40 = .ok (.ireturn, 1) := by decide +kernel
theorem e_101 (r : Nat)  (ws : ai_W) : ai_Call 101 [.ref r] ws = if ai_isob ws r 4 = true then ai_Run 101 0 [.ref r, .null, .null, .null, .null] [] ws else none := R_entV hk_101 ⟨⟨rfl, rfl⟩, Nat.le_of_ble_eq_true rfl⟩ rfl
theorem r_101_0 (ls st : List Value) (ws : ai_W) : ai_Run 101 0 ls st ws = ai_Run 101 1 ls (.int 1 :: st) ws := R_iconst hc_101 dX4_darkestChapter_0 (by decide) rfl
theorem r_101_1 (l0 l1 l2 l3 l4 : Value) (a : Int32) (st : List Value) (ws : ai_W) : ai_Run 101 1 [l0, l1, l2, l3, l4] (.int a :: st) ws = ai_Run 101 2 [l0, .int a, l2, l3, l4] st ws := R_istore_n hc_101 dX4_darkestChapter_1 (Nat.le_of_ble_eq_true rfl) rfl rfl
theorem r_101_2 (ls st : List Value) (ws : ai_W) : ai_Run 101 2 ls st ws = ai_Run 101 3 ls (.int 0 :: st) ws := R_iconst hc_101 dX4_darkestChapter_2 (by decide) rfl
theorem r_101_3 (l0 l1 l2 l3 l4 : Value) (a : Int32) (st : List Value) (ws : ai_W) : ai_Run 101 3 [l0, l1, l2, l3, l4] (.int a :: st) ws = ai_Run 101 4 [l0, l1, .int a, l3, l4] st ws := R_istore_n hc_101 dX4_darkestChapter_3 (Nat.le_of_ble_eq_true rfl) rfl rfl
theorem r_101_4 (ls st : List Value) (ws : ai_W) : ai_Run 101 4 ls st ws = ai_Run 101 5 ls (.int 1 :: st) ws := R_iconst hc_101 dX4_darkestChapter_4 (by decide) rfl
theorem r_101_5 (l0 l1 l2 l3 l4 : Value) (a : Int32) (st : List Value) (ws : ai_W) : ai_Run 101 5 [l0, l1, l2, l3, l4] (.int a :: st) ws = ai_Run 101 6 [l0, l1, l2, .int a, l4] st ws := R_istore_n hc_101 dX4_darkestChapter_5 (Nat.le_of_ble_eq_true rfl) rfl rfl
theorem r_101_6 (l0 l1 l2 l4 : Value) (a : Int32) (st : List Value) (ws : ai_W) : ai_Run 101 6 [l0, l1, l2, .int a, l4] st ws = ai_Run 101 7 [l0, l1, l2, .int a, l4] (.int a :: st) ws := R_iload_n hc_101 dX4_darkestChapter_6 rfl rfl
theorem r_101_7 (ls st : List Value) (ws : ai_W) : ai_Run 101 7 ls st ws = ai_Run 101 9 ls (.int 30 :: st) ws := R_bipush hc_101 dX4_darkestChapter_7 (by decide) rfl
theorem r_101_9 (ls st : List Value) (a b : Int32) (ws : ai_W) : ai_Run 101 9 ls (.int b :: .int a :: st) ws = if b < a then ai_Run 101 39 ls st ws else ai_Run 101 12 ls st ws := R_cmp_gt hc_101 dX4_darkestChapter_9 rfl rfl
theorem r_101_12 (l1 l2 l3 l4 : Value) (a : Nat) (st : List Value) (ws : ai_W) : ai_Run 101 12 [.ref a, l1, l2, l3, l4] st ws = ai_Run 101 13 [.ref a, l1, l2, l3, l4] (.ref a :: st) ws := R_aload_n hc_101 dX4_darkestChapter_12 rfl rfl
theorem r_101_13 (l0 l1 l2 l4 : Value) (a : Int32) (st : List Value) (ws : ai_W) : ai_Run 101 13 [l0, l1, l2, .int a, l4] st ws = ai_Run 101 14 [l0, l1, l2, .int a, l4] (.int a :: st) ws := R_iload_n hc_101 dX4_darkestChapter_13 rfl rfl
theorem r_101_14 (ls : List Value) (r : Nat) (b0 : Int32) (ws : ai_W) : ai_Run 101 14 ls [.int b0, .ref r] ws = (ai_Call 99 [.ref r, .int b0] ws).bind fun q => ai_Run 101 17 ls (q.1.toList ++ []) q.2 := R_callV hc_101 dX4_darkestChapter_14 hv_101 (w := 1239) rfl (ai_lt3 hf_99 hf_101 hL_99 ho_99 ho_101 rfl) hk_99 (by rw [hn_99]; rfl) rfl (Nat.le_of_ble_eq_true rfl) rfl
theorem r_101_17 (ls : List Value) (b0 : Int32) (ws : ai_W) : ai_Run 101 17 ls [.int b0] ws = (ai_Call 100 [.int b0] ws).bind fun q => ai_Run 101 20 ls (q.1.toList ++ []) q.2 := R_callS hc_101 dX4_darkestChapter_17 hv_101 (w := 1240) rfl (ai_lt3 hf_100 hf_101 hL_100 ho_100 ho_101 rfl) hk_100 (by rw [hn_100]; rfl) rfl (Nat.le_of_ble_eq_true rfl) rfl
theorem r_101_20 (l0 l1 l2 l3 l4 : Value) (a : Int32) (st : List Value) (ws : ai_W) : ai_Run 101 20 [l0, l1, l2, l3, l4] (.int a :: st) ws = ai_Run 101 22 [l0, l1, l2, l3, .int a] st ws := R_istore hc_101 dX4_darkestChapter_20 (Nat.le_of_ble_eq_true rfl) rfl rfl
theorem r_101_22 (l0 l1 l2 l3 : Value) (a : Int32) (st : List Value) (ws : ai_W) : ai_Run 101 22 [l0, l1, l2, l3, .int a] st ws = ai_Run 101 24 [l0, l1, l2, l3, .int a] (.int a :: st) ws := R_iload hc_101 dX4_darkestChapter_22 rfl rfl
theorem r_101_24 (l0 l1 l3 l4 : Value) (a : Int32) (st : List Value) (ws : ai_W) : ai_Run 101 24 [l0, l1, .int a, l3, l4] st ws = ai_Run 101 25 [l0, l1, .int a, l3, l4] (.int a :: st) ws := R_iload_n hc_101 dX4_darkestChapter_24 rfl rfl
theorem r_101_25 (ls st : List Value) (a b : Int32) (ws : ai_W) : ai_Run 101 25 ls (.int b :: .int a :: st) ws = if b < a then ai_Run 101 28 ls st ws else ai_Run 101 33 ls st ws := R_cmp_le hc_101 dX4_darkestChapter_25 rfl rfl
theorem r_101_28 (l0 l1 l2 l3 : Value) (a : Int32) (st : List Value) (ws : ai_W) : ai_Run 101 28 [l0, l1, l2, l3, .int a] st ws = ai_Run 101 30 [l0, l1, l2, l3, .int a] (.int a :: st) ws := R_iload hc_101 dX4_darkestChapter_28 rfl rfl
theorem r_101_30 (l0 l1 l2 l3 l4 : Value) (a : Int32) (st : List Value) (ws : ai_W) : ai_Run 101 30 [l0, l1, l2, l3, l4] (.int a :: st) ws = ai_Run 101 31 [l0, l1, .int a, l3, l4] st ws := R_istore_n hc_101 dX4_darkestChapter_30 (Nat.le_of_ble_eq_true rfl) rfl rfl
theorem r_101_31 (l0 l1 l2 l4 : Value) (a : Int32) (st : List Value) (ws : ai_W) : ai_Run 101 31 [l0, l1, l2, .int a, l4] st ws = ai_Run 101 32 [l0, l1, l2, .int a, l4] (.int a :: st) ws := R_iload_n hc_101 dX4_darkestChapter_31 rfl rfl
theorem r_101_32 (l0 l1 l2 l3 l4 : Value) (a : Int32) (st : List Value) (ws : ai_W) : ai_Run 101 32 [l0, l1, l2, l3, l4] (.int a :: st) ws = ai_Run 101 33 [l0, .int a, l2, l3, l4] st ws := R_istore_n hc_101 dX4_darkestChapter_32 (Nat.le_of_ble_eq_true rfl) rfl rfl
theorem r_101_33 (l0 l1 l2 l4 : Value) (a : Int32) (st : List Value) (ws : ai_W) : ai_Run 101 33 [l0, l1, l2, .int a, l4] st ws = ai_Run 101 36 [l0, l1, l2, .int (a + 1), l4] st ws := R_iinc hc_101 dX4_darkestChapter_33 rfl (by decide) rfl rfl
theorem r_101_36 (ls st : List Value) (ws : ai_W) : ai_Run 101 36 ls st ws = ai_Run 101 6 ls st ws := R_goto hc_101 dX4_darkestChapter_36 rfl
theorem r_101_39 (l0 l2 l3 l4 : Value) (a : Int32) (st : List Value) (ws : ai_W) : ai_Run 101 39 [l0, .int a, l2, l3, l4] st ws = ai_Run 101 40 [l0, .int a, l2, l3, l4] (.int a :: st) ws := R_iload_n hc_101 dX4_darkestChapter_39 rfl rfl
theorem r_101_40 (ls : List Value) (x : Int32) (ws : ai_W) : ai_Run 101 40 ls [.int x] ws = some (some (.int x), ws) := R_iret hc_101 dX4_darkestChapter_40 ht_101
theorem dX4_afterChapter_0 : decode cX4_afterChapter 0 = .ok (.iload_n 1, 1) := by decide +kernel
theorem dX4_afterChapter_1 : decode cX4_afterChapter 1 = .ok (.istore_n 3, 1) := by decide +kernel
theorem dX4_afterChapter_2 : decode cX4_afterChapter 2 = .ok (.iconst 0, 1) := by decide +kernel
theorem dX4_afterChapter_3 : decode cX4_afterChapter 3 = .ok (.istore 4, 2) := by decide +kernel
theorem dX4_afterChapter_5 : decode cX4_afterChapter 5 = .ok (.iload 4, 2) := by decide +kernel
theorem dX4_afterChapter_7 : decode cX4_afterChapter 7 = .ok (.aload_n 0, 1) := by decide +kernel
theorem dX4_afterChapter_8 : decode cX4_afterChapter 8 = .ok (.getfield 9, 3) := by decide +kernel
theorem dX4_afterChapter_11 : decode cX4_afterChapter 11 = .ok (.getfield 30, 3) := by decide +kernel
theorem dX4_afterChapter_14 : decode cX4_afterChapter 14 = .ok (.if_icmp .ge 77, 3) := by decide +kernel
theorem dX4_afterChapter_17 : decode cX4_afterChapter 17 = .ok (.iconst 0, 1) := by decide +kernel
theorem dX4_afterChapter_18 : decode cX4_afterChapter 18 = .ok (.istore 5, 2) := by decide +kernel
theorem dX4_afterChapter_20 : decode cX4_afterChapter 20 = .ok (.iload 5, 2) := by decide +kernel
theorem dX4_afterChapter_22 : decode cX4_afterChapter 22 = .ok (.aload_n 0, 1) := by decide +kernel
theorem dX4_afterChapter_23 : decode cX4_afterChapter 23 = .ok (.getfield 9, 3) := by decide +kernel
theorem dX4_afterChapter_26 : decode cX4_afterChapter 26 = .ok (.getfield 15, 3) := by decide +kernel
theorem dX4_afterChapter_29 : decode cX4_afterChapter 29 = .ok (.iload 4, 2) := by decide +kernel
theorem dX4_afterChapter_31 : decode cX4_afterChapter 31 = .ok (.invokevirtual 21, 3) := by decide +kernel
theorem dX4_afterChapter_34 : decode cX4_afterChapter 34 = .ok (.if_icmp .ge 51, 3) := by decide +kernel
theorem dX4_afterChapter_37 : decode cX4_afterChapter 37 = .ok (.aload_n 0, 1) := by decide +kernel
theorem dX4_afterChapter_38 : decode cX4_afterChapter 38 = .ok (.getfield 9, 3) := by decide +kernel
theorem dX4_afterChapter_41 : decode cX4_afterChapter 41 = .ok (.iload 4, 2) := by decide +kernel
theorem dX4_afterChapter_43 : decode cX4_afterChapter 43 = .ok (.iload 5, 2) := by decide +kernel
theorem dX4_afterChapter_45 : decode cX4_afterChapter 45 = .ok (.invokevirtual 42, 3) := by decide +kernel
theorem dX4_afterChapter_48 : decode cX4_afterChapter 48 = .ok (.iload_n 2, 1) := by decide +kernel
theorem dX4_afterChapter_49 : decode cX4_afterChapter 49 = .ok (.if_icmp .ne 30, 3) := by decide +kernel
theorem dX4_afterChapter_52 : decode cX4_afterChapter 52 = .ok (.iconst 1, 1) := by decide +kernel
theorem dX4_afterChapter_53 : decode cX4_afterChapter 53 = .ok (.iload 4, 2) := by decide +kernel
theorem dX4_afterChapter_55 : decode cX4_afterChapter 55 = .ok (.ishl, 1) := by decide +kernel
theorem dX4_afterChapter_56 : decode cX4_afterChapter 56 = .ok (.istore 6, 2) := by decide +kernel
theorem dX4_afterChapter_58 : decode cX4_afterChapter 58 = .ok (.iload 5, 2) := by decide +kernel
theorem dX4_afterChapter_60 : decode cX4_afterChapter 60 = .ok (.iconst 2, 1) := by decide +kernel
theorem dX4_afterChapter_61 : decode cX4_afterChapter 61 = .ok (.irem, 1) := by decide +kernel
theorem dX4_afterChapter_62 : decode cX4_afterChapter 62 = .ok (.ifCond .ne 10, 3) := by decide +kernel
theorem dX4_afterChapter_65 : decode cX4_afterChapter 65 = .ok (.iload_n 3, 1) := by decide +kernel
theorem dX4_afterChapter_66 : decode cX4_afterChapter 66 = .ok (.iload 6, 2) := by decide +kernel
theorem dX4_afterChapter_68 : decode cX4_afterChapter 68 = .ok (.ior, 1) := by decide +kernel
theorem dX4_afterChapter_69 : decode cX4_afterChapter 69 = .ok (.goto 9, 3) := by decide +kernel
theorem dX4_afterChapter_72 : decode cX4_afterChapter 72 = .ok (.iload_n 3, 1) := by decide +kernel
theorem dX4_afterChapter_73 : decode cX4_afterChapter 73 = .ok (.iload 6, 2) := by decide +kernel
theorem dX4_afterChapter_75 : decode cX4_afterChapter 75 = .ok (.iconst (-1), 1) := by decide +kernel
theorem dX4_afterChapter_76 : decode cX4_afterChapter 76 = .ok (.ixor, 1) := by decide +kernel
theorem dX4_afterChapter_77 : decode cX4_afterChapter 77 = .ok (.iand, 1) := by decide +kernel
theorem dX4_afterChapter_78 : decode cX4_afterChapter 78 = .ok (.istore_n 3, 1) := by decide +kernel
theorem dX4_afterChapter_79 : decode cX4_afterChapter 79 = .ok (.iinc 5 1, 3) := by decide +kernel
theorem dX4_afterChapter_82 : decode cX4_afterChapter 82 = .ok (.goto (-62), 3) := by decide +kernel
theorem dX4_afterChapter_85 : decode cX4_afterChapter 85 = .ok (.iinc 4 1, 3) := by decide +kernel
theorem dX4_afterChapter_88 : decode cX4_afterChapter 88 = .ok (.goto (-83), 3) := by decide +kernel
theorem dX4_afterChapter_91 : decode cX4_afterChapter 91 = .ok (.iload_n 3, 1) := by decide +kernel
theorem dX4_afterChapter_92 : decode cX4_afterChapter 92 = .ok (.ireturn, 1) := by decide +kernel
theorem e_104 (r : Nat) (a0 : Int32) (a1 : Int32) (ws : ai_W) : ai_Call 104 [.ref r, .int a0, .int a1] ws = if ai_isob ws r 4 = true then ai_Run 104 0 [.ref r, .int a0, .int a1, .null, .null, .null, .null] [] ws else none := R_entV hk_104 ⟨⟨rfl, rfl⟩, Nat.le_of_ble_eq_true rfl⟩ rfl
theorem r_104_0 (l0 l2 l3 l4 l5 l6 : Value) (a : Int32) (st : List Value) (ws : ai_W) : ai_Run 104 0 [l0, .int a, l2, l3, l4, l5, l6] st ws = ai_Run 104 1 [l0, .int a, l2, l3, l4, l5, l6] (.int a :: st) ws := R_iload_n hc_104 dX4_afterChapter_0 rfl rfl
theorem r_104_1 (l0 l1 l2 l3 l4 l5 l6 : Value) (a : Int32) (st : List Value) (ws : ai_W) : ai_Run 104 1 [l0, l1, l2, l3, l4, l5, l6] (.int a :: st) ws = ai_Run 104 2 [l0, l1, l2, .int a, l4, l5, l6] st ws := R_istore_n hc_104 dX4_afterChapter_1 (Nat.le_of_ble_eq_true rfl) rfl rfl
theorem r_104_2 (ls st : List Value) (ws : ai_W) : ai_Run 104 2 ls st ws = ai_Run 104 3 ls (.int 0 :: st) ws := R_iconst hc_104 dX4_afterChapter_2 (by decide) rfl
theorem r_104_3 (l0 l1 l2 l3 l4 l5 l6 : Value) (a : Int32) (st : List Value) (ws : ai_W) : ai_Run 104 3 [l0, l1, l2, l3, l4, l5, l6] (.int a :: st) ws = ai_Run 104 5 [l0, l1, l2, l3, .int a, l5, l6] st ws := R_istore hc_104 dX4_afterChapter_3 (Nat.le_of_ble_eq_true rfl) rfl rfl
theorem r_104_5 (l0 l1 l2 l3 l5 l6 : Value) (a : Int32) (st : List Value) (ws : ai_W) : ai_Run 104 5 [l0, l1, l2, l3, .int a, l5, l6] st ws = ai_Run 104 7 [l0, l1, l2, l3, .int a, l5, l6] (.int a :: st) ws := R_iload hc_104 dX4_afterChapter_5 rfl rfl
theorem r_104_7 (l1 l2 l3 l4 l5 l6 : Value) (a : Nat) (st : List Value) (ws : ai_W) : ai_Run 104 7 [.ref a, l1, l2, l3, l4, l5, l6] st ws = ai_Run 104 8 [.ref a, l1, l2, l3, l4, l5, l6] (.ref a :: st) ws := R_aload_n hc_104 dX4_afterChapter_7 rfl rfl
theorem r_104_8 (ls st : List Value) (a : Nat) (ws : ai_W) : ai_Run 104 8 ls (.ref a :: st) ws = (ai_fget ws a 4 0).bind fun q => ai_Run 104 11 ls (q :: st) ws := R_getf hc_104 dX4_afterChapter_8 hv_104 (w := 522) rfl rfl
theorem r_104_11 (ls st : List Value) (a : Nat) (ws : ai_W) : ai_Run 104 11 ls (.ref a :: st) ws = (ai_fget ws a 0 0).bind fun q => ai_Run 104 14 ls (q :: st) ws := R_getf hc_104 dX4_afterChapter_11 hv_104 (w := 465) rfl rfl
theorem r_104_14 (ls st : List Value) (a b : Int32) (ws : ai_W) : ai_Run 104 14 ls (.int b :: .int a :: st) ws = if a < b then ai_Run 104 17 ls st ws else ai_Run 104 91 ls st ws := R_cmp_ge hc_104 dX4_afterChapter_14 rfl rfl
theorem r_104_17 (ls st : List Value) (ws : ai_W) : ai_Run 104 17 ls st ws = ai_Run 104 18 ls (.int 0 :: st) ws := R_iconst hc_104 dX4_afterChapter_17 (by decide) rfl
theorem r_104_18 (l0 l1 l2 l3 l4 l5 l6 : Value) (a : Int32) (st : List Value) (ws : ai_W) : ai_Run 104 18 [l0, l1, l2, l3, l4, l5, l6] (.int a :: st) ws = ai_Run 104 20 [l0, l1, l2, l3, l4, .int a, l6] st ws := R_istore hc_104 dX4_afterChapter_18 (Nat.le_of_ble_eq_true rfl) rfl rfl
theorem r_104_20 (l0 l1 l2 l3 l4 l6 : Value) (a : Int32) (st : List Value) (ws : ai_W) : ai_Run 104 20 [l0, l1, l2, l3, l4, .int a, l6] st ws = ai_Run 104 22 [l0, l1, l2, l3, l4, .int a, l6] (.int a :: st) ws := R_iload hc_104 dX4_afterChapter_20 rfl rfl
theorem r_104_22 (l1 l2 l3 l4 l5 l6 : Value) (a : Nat) (st : List Value) (ws : ai_W) : ai_Run 104 22 [.ref a, l1, l2, l3, l4, l5, l6] st ws = ai_Run 104 23 [.ref a, l1, l2, l3, l4, l5, l6] (.ref a :: st) ws := R_aload_n hc_104 dX4_afterChapter_22 rfl rfl
theorem r_104_23 (ls st : List Value) (a : Nat) (ws : ai_W) : ai_Run 104 23 ls (.ref a :: st) ws = (ai_fget ws a 4 0).bind fun q => ai_Run 104 26 ls (q :: st) ws := R_getf hc_104 dX4_afterChapter_23 hv_104 (w := 522) rfl rfl
theorem r_104_26 (ls st : List Value) (a : Nat) (ws : ai_W) : ai_Run 104 26 ls (.ref a :: st) ws = (ai_fget ws a 0 3).bind fun q => ai_Run 104 29 ls (q :: st) ws := R_getf hc_104 dX4_afterChapter_26 hv_104 (w := 476) rfl rfl
theorem r_104_29 (l0 l1 l2 l3 l5 l6 : Value) (a : Int32) (st : List Value) (ws : ai_W) : ai_Run 104 29 [l0, l1, l2, l3, .int a, l5, l6] st ws = ai_Run 104 31 [l0, l1, l2, l3, .int a, l5, l6] (.int a :: st) ws := R_iload hc_104 dX4_afterChapter_29 rfl rfl
theorem r_104_31 (ls : List Value) (r : Nat) (b0 : Int32) (s0 : Value) (ws : ai_W) : ai_Run 104 31 ls [.int b0, .ref r, s0] ws = (ai_Call 12 [.ref r, .int b0] ws).bind fun q => ai_Run 104 34 ls (q.1.toList ++ [s0]) q.2 := R_callV hc_104 dX4_afterChapter_31 hv_104 (w := 233) rfl (ai_lt3 hf_12 hf_104 hL_12 ho_12 ho_104 rfl) hk_12 (by rw [hn_12]; rfl) rfl (Nat.le_of_ble_eq_true rfl) rfl
theorem r_104_34 (ls st : List Value) (a b : Int32) (ws : ai_W) : ai_Run 104 34 ls (.int b :: .int a :: st) ws = if a < b then ai_Run 104 37 ls st ws else ai_Run 104 85 ls st ws := R_cmp_ge hc_104 dX4_afterChapter_34 rfl rfl
theorem r_104_37 (l1 l2 l3 l4 l5 l6 : Value) (a : Nat) (st : List Value) (ws : ai_W) : ai_Run 104 37 [.ref a, l1, l2, l3, l4, l5, l6] st ws = ai_Run 104 38 [.ref a, l1, l2, l3, l4, l5, l6] (.ref a :: st) ws := R_aload_n hc_104 dX4_afterChapter_37 rfl rfl
theorem r_104_38 (ls st : List Value) (a : Nat) (ws : ai_W) : ai_Run 104 38 ls (.ref a :: st) ws = (ai_fget ws a 4 0).bind fun q => ai_Run 104 41 ls (q :: st) ws := R_getf hc_104 dX4_afterChapter_38 hv_104 (w := 522) rfl rfl
theorem r_104_41 (l0 l1 l2 l3 l5 l6 : Value) (a : Int32) (st : List Value) (ws : ai_W) : ai_Run 104 41 [l0, l1, l2, l3, .int a, l5, l6] st ws = ai_Run 104 43 [l0, l1, l2, l3, .int a, l5, l6] (.int a :: st) ws := R_iload hc_104 dX4_afterChapter_41 rfl rfl
theorem r_104_43 (l0 l1 l2 l3 l4 l6 : Value) (a : Int32) (st : List Value) (ws : ai_W) : ai_Run 104 43 [l0, l1, l2, l3, l4, .int a, l6] st ws = ai_Run 104 45 [l0, l1, l2, l3, l4, .int a, l6] (.int a :: st) ws := R_iload hc_104 dX4_afterChapter_43 rfl rfl
theorem r_104_45 (ls : List Value) (r : Nat) (b0 : Int32) (b1 : Int32) (ws : ai_W) : ai_Run 104 45 ls [.int b1, .int b0, .ref r] ws = (ai_Call 33 [.ref r, .int b0, .int b1] ws).bind fun q => ai_Run 104 48 ls (q.1.toList ++ []) q.2 := R_callV hc_104 dX4_afterChapter_45 hv_104 (w := 1204) rfl (ai_lt3 hf_33 hf_104 hL_33 ho_33 ho_104 rfl) hk_33 (by rw [hn_33]; rfl) rfl (Nat.le_of_ble_eq_true rfl) rfl
theorem r_104_48 (l0 l1 l3 l4 l5 l6 : Value) (a : Int32) (st : List Value) (ws : ai_W) : ai_Run 104 48 [l0, l1, .int a, l3, l4, l5, l6] st ws = ai_Run 104 49 [l0, l1, .int a, l3, l4, l5, l6] (.int a :: st) ws := R_iload_n hc_104 dX4_afterChapter_48 rfl rfl
theorem r_104_49 (ls st : List Value) (a b : Int32) (ws : ai_W) : ai_Run 104 49 ls (.int b :: .int a :: st) ws = if a = b then ai_Run 104 52 ls st ws else ai_Run 104 79 ls st ws := R_cmp_ne hc_104 dX4_afterChapter_49 rfl rfl
theorem r_104_52 (ls st : List Value) (ws : ai_W) : ai_Run 104 52 ls st ws = ai_Run 104 53 ls (.int 1 :: st) ws := R_iconst hc_104 dX4_afterChapter_52 (by decide) rfl
theorem r_104_53 (l0 l1 l2 l3 l5 l6 : Value) (a : Int32) (st : List Value) (ws : ai_W) : ai_Run 104 53 [l0, l1, l2, l3, .int a, l5, l6] st ws = ai_Run 104 55 [l0, l1, l2, l3, .int a, l5, l6] (.int a :: st) ws := R_iload hc_104 dX4_afterChapter_53 rfl rfl
theorem r_104_55 (ls st : List Value) (a b : Int32) (ws : ai_W) : ai_Run 104 55 ls (.int b :: .int a :: st) ws = ai_Run 104 56 ls (.int (a <<< (b &&& 31)) :: st) ws := R_ishl hc_104 dX4_afterChapter_55 rfl
theorem r_104_56 (l0 l1 l2 l3 l4 l5 l6 : Value) (a : Int32) (st : List Value) (ws : ai_W) : ai_Run 104 56 [l0, l1, l2, l3, l4, l5, l6] (.int a :: st) ws = ai_Run 104 58 [l0, l1, l2, l3, l4, l5, .int a] st ws := R_istore hc_104 dX4_afterChapter_56 (Nat.le_of_ble_eq_true rfl) rfl rfl
theorem r_104_58 (l0 l1 l2 l3 l4 l6 : Value) (a : Int32) (st : List Value) (ws : ai_W) : ai_Run 104 58 [l0, l1, l2, l3, l4, .int a, l6] st ws = ai_Run 104 60 [l0, l1, l2, l3, l4, .int a, l6] (.int a :: st) ws := R_iload hc_104 dX4_afterChapter_58 rfl rfl
theorem r_104_60 (ls st : List Value) (ws : ai_W) : ai_Run 104 60 ls st ws = ai_Run 104 61 ls (.int 2 :: st) ws := R_iconst hc_104 dX4_afterChapter_60 (by decide) rfl
theorem r_104_61 (ls st : List Value) (a : Int32) (ws : ai_W) : ai_Run 104 61 ls (.int 2 :: .int a :: st) ws = ai_Run 104 62 ls (.int (a - a / 2 * 2) :: st) ws := R_irem hc_104 dX4_afterChapter_61 (by decide) rfl
theorem r_104_62 (ls st : List Value) (a : Int32) (ws : ai_W) : ai_Run 104 62 ls (.int a :: st) ws = if a = 0 then ai_Run 104 65 ls st ws else ai_Run 104 72 ls st ws := R_if_ne hc_104 dX4_afterChapter_62 rfl rfl
theorem r_104_65 (l0 l1 l2 l4 l5 l6 : Value) (a : Int32) (st : List Value) (ws : ai_W) : ai_Run 104 65 [l0, l1, l2, .int a, l4, l5, l6] st ws = ai_Run 104 66 [l0, l1, l2, .int a, l4, l5, l6] (.int a :: st) ws := R_iload_n hc_104 dX4_afterChapter_65 rfl rfl
theorem r_104_66 (l0 l1 l2 l3 l4 l5 : Value) (a : Int32) (st : List Value) (ws : ai_W) : ai_Run 104 66 [l0, l1, l2, l3, l4, l5, .int a] st ws = ai_Run 104 68 [l0, l1, l2, l3, l4, l5, .int a] (.int a :: st) ws := R_iload hc_104 dX4_afterChapter_66 rfl rfl
theorem r_104_68 (ls st : List Value) (a b : Int32) (ws : ai_W) : ai_Run 104 68 ls (.int b :: .int a :: st) ws = ai_Run 104 69 ls (.int (a ||| b) :: st) ws := R_ior hc_104 dX4_afterChapter_68 rfl
theorem r_104_69 (ls st : List Value) (ws : ai_W) : ai_Run 104 69 ls st ws = ai_Run 104 78 ls st ws := R_goto hc_104 dX4_afterChapter_69 rfl
theorem r_104_72 (l0 l1 l2 l4 l5 l6 : Value) (a : Int32) (st : List Value) (ws : ai_W) : ai_Run 104 72 [l0, l1, l2, .int a, l4, l5, l6] st ws = ai_Run 104 73 [l0, l1, l2, .int a, l4, l5, l6] (.int a :: st) ws := R_iload_n hc_104 dX4_afterChapter_72 rfl rfl
theorem r_104_73 (l0 l1 l2 l3 l4 l5 : Value) (a : Int32) (st : List Value) (ws : ai_W) : ai_Run 104 73 [l0, l1, l2, l3, l4, l5, .int a] st ws = ai_Run 104 75 [l0, l1, l2, l3, l4, l5, .int a] (.int a :: st) ws := R_iload hc_104 dX4_afterChapter_73 rfl rfl
theorem r_104_75 (ls st : List Value) (ws : ai_W) : ai_Run 104 75 ls st ws = ai_Run 104 76 ls (.int (-1) :: st) ws := R_iconst hc_104 dX4_afterChapter_75 (by decide) rfl
theorem r_104_76 (ls st : List Value) (a b : Int32) (ws : ai_W) : ai_Run 104 76 ls (.int b :: .int a :: st) ws = ai_Run 104 77 ls (.int (a ^^^ b) :: st) ws := R_ixor hc_104 dX4_afterChapter_76 rfl
theorem r_104_77 (ls st : List Value) (a b : Int32) (ws : ai_W) : ai_Run 104 77 ls (.int b :: .int a :: st) ws = ai_Run 104 78 ls (.int (a &&& b) :: st) ws := R_iand hc_104 dX4_afterChapter_77 rfl
theorem r_104_78 (l0 l1 l2 l3 l4 l5 l6 : Value) (a : Int32) (st : List Value) (ws : ai_W) : ai_Run 104 78 [l0, l1, l2, l3, l4, l5, l6] (.int a :: st) ws = ai_Run 104 79 [l0, l1, l2, .int a, l4, l5, l6] st ws := R_istore_n hc_104 dX4_afterChapter_78 (Nat.le_of_ble_eq_true rfl) rfl rfl
theorem r_104_79 (l0 l1 l2 l3 l4 l6 : Value) (a : Int32) (st : List Value) (ws : ai_W) : ai_Run 104 79 [l0, l1, l2, l3, l4, .int a, l6] st ws = ai_Run 104 82 [l0, l1, l2, l3, l4, .int (a + 1), l6] st ws := R_iinc hc_104 dX4_afterChapter_79 rfl (by decide) rfl rfl
theorem r_104_82 (ls st : List Value) (ws : ai_W) : ai_Run 104 82 ls st ws = ai_Run 104 20 ls st ws := R_goto hc_104 dX4_afterChapter_82 rfl
theorem r_104_85 (l0 l1 l2 l3 l5 l6 : Value) (a : Int32) (st : List Value) (ws : ai_W) : ai_Run 104 85 [l0, l1, l2, l3, .int a, l5, l6] st ws = ai_Run 104 88 [l0, l1, l2, l3, .int (a + 1), l5, l6] st ws := R_iinc hc_104 dX4_afterChapter_85 rfl (by decide) rfl rfl
theorem r_104_88 (ls st : List Value) (ws : ai_W) : ai_Run 104 88 ls st ws = ai_Run 104 5 ls st ws := R_goto hc_104 dX4_afterChapter_88 rfl
theorem r_104_91 (l0 l1 l2 l4 l5 l6 : Value) (a : Int32) (st : List Value) (ws : ai_W) : ai_Run 104 91 [l0, l1, l2, .int a, l4, l5, l6] st ws = ai_Run 104 92 [l0, l1, l2, .int a, l4, l5, l6] (.int a :: st) ws := R_iload_n hc_104 dX4_afterChapter_91 rfl rfl
theorem r_104_92 (ls : List Value) (x : Int32) (ws : ai_W) : ai_Run 104 92 ls [.int x] ws = some (some (.int x), ws) := R_iret hc_104 dX4_afterChapter_92 ht_104
theorem dX4_deadByChapters_0 : decode cX4_deadByChapters 0 = .ok (.iconst 0, 1) := by decide +kernel
theorem dX4_deadByChapters_1 : decode cX4_deadByChapters 1 = .ok (.istore_n 2, 1) := by decide +kernel
theorem dX4_deadByChapters_2 : decode cX4_deadByChapters 2 = .ok (.iconst 1, 1) := by decide +kernel
theorem dX4_deadByChapters_3 : decode cX4_deadByChapters 3 = .ok (.istore_n 3, 1) := by decide +kernel
theorem dX4_deadByChapters_4 : decode cX4_deadByChapters 4 = .ok (.iload_n 3, 1) := by decide +kernel
theorem dX4_deadByChapters_5 : decode cX4_deadByChapters 5 = .ok (.iload_n 1, 1) := by decide +kernel
theorem dX4_deadByChapters_6 : decode cX4_deadByChapters 6 = .ok (.if_icmp .gt 22, 3) := by decide +kernel
theorem dX4_deadByChapters_9 : decode cX4_deadByChapters 9 = .ok (.iload_n 3, 1) := by decide +kernel
theorem dX4_deadByChapters_10 : decode cX4_deadByChapters 10 = .ok (.bipush 30, 2) := by decide +kernel
theorem dX4_deadByChapters_12 : decode cX4_deadByChapters 12 = .ok (.if_icmp .gt 16, 3) := by decide +kernel
theorem dX4_deadByChapters_15 : decode cX4_deadByChapters 15 = .ok (.aload_n 0, 1) := by decide +kernel
theorem dX4_deadByChapters_16 : decode cX4_deadByChapters 16 = .ok (.iload_n 2, 1) := by decide +kernel
theorem dX4_deadByChapters_17 : decode cX4_deadByChapters 17 = .ok (.iload_n 3, 1) := by decide +kernel
theorem dX4_deadByChapters_18 : decode cX4_deadByChapters 18 = .ok (.invokevirtual 38, 3) := by decide +kernel
theorem dX4_deadByChapters_21 : decode cX4_deadByChapters 21 = .ok (.istore_n 2, 1) := by decide +kernel
theorem dX4_deadByChapters_22 : decode cX4_deadByChapters 22 = .ok (.iinc 3 1, 3) := by decide +kernel
theorem dX4_deadByChapters_25 : decode cX4_deadByChapters 25 = .ok (.goto (-21), 3) := by decide +kernel
theorem dX4_deadByChapters_28 : decode cX4_deadByChapters 28 = .ok (.iload_n 2, 1) := by decide +kernel
theorem dX4_deadByChapters_29 : decode cX4_deadByChapters 29 = .ok (.ireturn, 1) := by decide +kernel
theorem e_105 (r : Nat) (a0 : Int32) (ws : ai_W) : ai_Call 105 [.ref r, .int a0] ws = if ai_isob ws r 4 = true then ai_Run 105 0 [.ref r, .int a0, .null, .null] [] ws else none := R_entV hk_105 ⟨⟨rfl, rfl⟩, Nat.le_of_ble_eq_true rfl⟩ rfl
theorem r_105_0 (ls st : List Value) (ws : ai_W) : ai_Run 105 0 ls st ws = ai_Run 105 1 ls (.int 0 :: st) ws := R_iconst hc_105 dX4_deadByChapters_0 (by decide) rfl
theorem r_105_1 (l0 l1 l2 l3 : Value) (a : Int32) (st : List Value) (ws : ai_W) : ai_Run 105 1 [l0, l1, l2, l3] (.int a :: st) ws = ai_Run 105 2 [l0, l1, .int a, l3] st ws := R_istore_n hc_105 dX4_deadByChapters_1 (Nat.le_of_ble_eq_true rfl) rfl rfl
theorem r_105_2 (ls st : List Value) (ws : ai_W) : ai_Run 105 2 ls st ws = ai_Run 105 3 ls (.int 1 :: st) ws := R_iconst hc_105 dX4_deadByChapters_2 (by decide) rfl
theorem r_105_3 (l0 l1 l2 l3 : Value) (a : Int32) (st : List Value) (ws : ai_W) : ai_Run 105 3 [l0, l1, l2, l3] (.int a :: st) ws = ai_Run 105 4 [l0, l1, l2, .int a] st ws := R_istore_n hc_105 dX4_deadByChapters_3 (Nat.le_of_ble_eq_true rfl) rfl rfl
theorem r_105_4 (l0 l1 l2 : Value) (a : Int32) (st : List Value) (ws : ai_W) : ai_Run 105 4 [l0, l1, l2, .int a] st ws = ai_Run 105 5 [l0, l1, l2, .int a] (.int a :: st) ws := R_iload_n hc_105 dX4_deadByChapters_4 rfl rfl
theorem r_105_5 (l0 l2 l3 : Value) (a : Int32) (st : List Value) (ws : ai_W) : ai_Run 105 5 [l0, .int a, l2, l3] st ws = ai_Run 105 6 [l0, .int a, l2, l3] (.int a :: st) ws := R_iload_n hc_105 dX4_deadByChapters_5 rfl rfl
theorem r_105_6 (ls st : List Value) (a b : Int32) (ws : ai_W) : ai_Run 105 6 ls (.int b :: .int a :: st) ws = if b < a then ai_Run 105 28 ls st ws else ai_Run 105 9 ls st ws := R_cmp_gt hc_105 dX4_deadByChapters_6 rfl rfl
theorem r_105_9 (l0 l1 l2 : Value) (a : Int32) (st : List Value) (ws : ai_W) : ai_Run 105 9 [l0, l1, l2, .int a] st ws = ai_Run 105 10 [l0, l1, l2, .int a] (.int a :: st) ws := R_iload_n hc_105 dX4_deadByChapters_9 rfl rfl
theorem r_105_10 (ls st : List Value) (ws : ai_W) : ai_Run 105 10 ls st ws = ai_Run 105 12 ls (.int 30 :: st) ws := R_bipush hc_105 dX4_deadByChapters_10 (by decide) rfl
theorem r_105_12 (ls st : List Value) (a b : Int32) (ws : ai_W) : ai_Run 105 12 ls (.int b :: .int a :: st) ws = if b < a then ai_Run 105 28 ls st ws else ai_Run 105 15 ls st ws := R_cmp_gt hc_105 dX4_deadByChapters_12 rfl rfl
theorem r_105_15 (l1 l2 l3 : Value) (a : Nat) (st : List Value) (ws : ai_W) : ai_Run 105 15 [.ref a, l1, l2, l3] st ws = ai_Run 105 16 [.ref a, l1, l2, l3] (.ref a :: st) ws := R_aload_n hc_105 dX4_deadByChapters_15 rfl rfl
theorem r_105_16 (l0 l1 l3 : Value) (a : Int32) (st : List Value) (ws : ai_W) : ai_Run 105 16 [l0, l1, .int a, l3] st ws = ai_Run 105 17 [l0, l1, .int a, l3] (.int a :: st) ws := R_iload_n hc_105 dX4_deadByChapters_16 rfl rfl
theorem r_105_17 (l0 l1 l2 : Value) (a : Int32) (st : List Value) (ws : ai_W) : ai_Run 105 17 [l0, l1, l2, .int a] st ws = ai_Run 105 18 [l0, l1, l2, .int a] (.int a :: st) ws := R_iload_n hc_105 dX4_deadByChapters_17 rfl rfl
theorem r_105_18 (ls : List Value) (r : Nat) (b0 : Int32) (b1 : Int32) (ws : ai_W) : ai_Run 105 18 ls [.int b1, .int b0, .ref r] ws = (ai_Call 104 [.ref r, .int b0, .int b1] ws).bind fun q => ai_Run 105 21 ls (q.1.toList ++ []) q.2 := R_callV hc_105 dX4_deadByChapters_18 hv_105 (w := 1200) rfl (ai_lt3 hf_104 hf_105 hL_104 ho_104 ho_105 rfl) hk_104 (by rw [hn_104]; rfl) rfl (Nat.le_of_ble_eq_true rfl) rfl
theorem r_105_21 (l0 l1 l2 l3 : Value) (a : Int32) (st : List Value) (ws : ai_W) : ai_Run 105 21 [l0, l1, l2, l3] (.int a :: st) ws = ai_Run 105 22 [l0, l1, .int a, l3] st ws := R_istore_n hc_105 dX4_deadByChapters_21 (Nat.le_of_ble_eq_true rfl) rfl rfl
theorem r_105_22 (l0 l1 l2 : Value) (a : Int32) (st : List Value) (ws : ai_W) : ai_Run 105 22 [l0, l1, l2, .int a] st ws = ai_Run 105 25 [l0, l1, l2, .int (a + 1)] st ws := R_iinc hc_105 dX4_deadByChapters_22 rfl (by decide) rfl rfl
theorem r_105_25 (ls st : List Value) (ws : ai_W) : ai_Run 105 25 ls st ws = ai_Run 105 4 ls st ws := R_goto hc_105 dX4_deadByChapters_25 rfl
theorem r_105_28 (l0 l1 l3 : Value) (a : Int32) (st : List Value) (ws : ai_W) : ai_Run 105 28 [l0, l1, .int a, l3] st ws = ai_Run 105 29 [l0, l1, .int a, l3] (.int a :: st) ws := R_iload_n hc_105 dX4_deadByChapters_28 rfl rfl
theorem r_105_29 (ls : List Value) (x : Int32) (ws : ai_W) : ai_Run 105 29 ls [.int x] ws = some (some (.int x), ws) := R_iret hc_105 dX4_deadByChapters_29 ht_105
theorem dX4_possibleCulprits_0 : decode cX4_possibleCulprits 0 = .ok (.iconst 0, 1) := by decide +kernel
theorem dX4_possibleCulprits_1 : decode cX4_possibleCulprits 1 = .ok (.istore_n 3, 1) := by decide +kernel
theorem dX4_possibleCulprits_2 : decode cX4_possibleCulprits 2 = .ok (.iconst 0, 1) := by decide +kernel
theorem dX4_possibleCulprits_3 : decode cX4_possibleCulprits 3 = .ok (.istore 4, 2) := by decide +kernel
theorem dX4_possibleCulprits_5 : decode cX4_possibleCulprits 5 = .ok (.iload 4, 2) := by decide +kernel
theorem dX4_possibleCulprits_7 : decode cX4_possibleCulprits 7 = .ok (.aload_n 0, 1) := by decide +kernel
theorem dX4_possibleCulprits_8 : decode cX4_possibleCulprits 8 = .ok (.getfield 9, 3) := by decide +kernel
theorem dX4_possibleCulprits_11 : decode cX4_possibleCulprits 11 = .ok (.getfield 30, 3) := by decide +kernel
theorem dX4_possibleCulprits_14 : decode cX4_possibleCulprits 14 = .ok (.if_icmp .ge 23, 3) := by decide +kernel
theorem dX4_possibleCulprits_17 : decode cX4_possibleCulprits 17 = .ok (.aload_n 0, 1) := by decide +kernel
theorem dX4_possibleCulprits_18 : decode cX4_possibleCulprits 18 = .ok (.iload 4, 2) := by decide +kernel
theorem dX4_possibleCulprits_20 : decode cX4_possibleCulprits 20 = .ok (.iload_n 1, 1) := by decide +kernel
theorem dX4_possibleCulprits_21 : decode cX4_possibleCulprits 21 = .ok (.iload_n 2, 1) := by decide +kernel
theorem dX4_possibleCulprits_22 : decode cX4_possibleCulprits 22 = .ok (.invokevirtual 59, 3) := by decide +kernel
theorem dX4_possibleCulprits_25 : decode cX4_possibleCulprits 25 = .ok (.ifCond .eq 6, 3) := by decide +kernel
theorem dX4_possibleCulprits_28 : decode cX4_possibleCulprits 28 = .ok (.iinc 3 1, 3) := by decide +kernel
theorem dX4_possibleCulprits_31 : decode cX4_possibleCulprits 31 = .ok (.iinc 4 1, 3) := by decide +kernel
theorem dX4_possibleCulprits_34 : decode cX4_possibleCulprits 34 = .ok (.goto (-29), 3) := by decide +kernel
theorem dX4_possibleCulprits_37 : decode cX4_possibleCulprits 37 = .ok (.iload_n 3, 1) := by decide +kernel
theorem dX4_possibleCulprits_38 : decode cX4_possibleCulprits 38 = .ok (.ireturn, 1) := by decide +kernel
theorem e_107 (r : Nat) (a0 : Int32) (a1 : Int32) (ws : ai_W) : ai_Call 107 [.ref r, .int a0, .int a1] ws = if ai_isob ws r 4 = true then ai_Run 107 0 [.ref r, .int a0, .int a1, .null, .null] [] ws else none := R_entV hk_107 ⟨⟨rfl, rfl⟩, Nat.le_of_ble_eq_true rfl⟩ rfl
theorem r_107_0 (ls st : List Value) (ws : ai_W) : ai_Run 107 0 ls st ws = ai_Run 107 1 ls (.int 0 :: st) ws := R_iconst hc_107 dX4_possibleCulprits_0 (by decide) rfl
theorem r_107_1 (l0 l1 l2 l3 l4 : Value) (a : Int32) (st : List Value) (ws : ai_W) : ai_Run 107 1 [l0, l1, l2, l3, l4] (.int a :: st) ws = ai_Run 107 2 [l0, l1, l2, .int a, l4] st ws := R_istore_n hc_107 dX4_possibleCulprits_1 (Nat.le_of_ble_eq_true rfl) rfl rfl
theorem r_107_2 (ls st : List Value) (ws : ai_W) : ai_Run 107 2 ls st ws = ai_Run 107 3 ls (.int 0 :: st) ws := R_iconst hc_107 dX4_possibleCulprits_2 (by decide) rfl
theorem r_107_3 (l0 l1 l2 l3 l4 : Value) (a : Int32) (st : List Value) (ws : ai_W) : ai_Run 107 3 [l0, l1, l2, l3, l4] (.int a :: st) ws = ai_Run 107 5 [l0, l1, l2, l3, .int a] st ws := R_istore hc_107 dX4_possibleCulprits_3 (Nat.le_of_ble_eq_true rfl) rfl rfl
theorem r_107_5 (l0 l1 l2 l3 : Value) (a : Int32) (st : List Value) (ws : ai_W) : ai_Run 107 5 [l0, l1, l2, l3, .int a] st ws = ai_Run 107 7 [l0, l1, l2, l3, .int a] (.int a :: st) ws := R_iload hc_107 dX4_possibleCulprits_5 rfl rfl
theorem r_107_7 (l1 l2 l3 l4 : Value) (a : Nat) (st : List Value) (ws : ai_W) : ai_Run 107 7 [.ref a, l1, l2, l3, l4] st ws = ai_Run 107 8 [.ref a, l1, l2, l3, l4] (.ref a :: st) ws := R_aload_n hc_107 dX4_possibleCulprits_7 rfl rfl
theorem r_107_8 (ls st : List Value) (a : Nat) (ws : ai_W) : ai_Run 107 8 ls (.ref a :: st) ws = (ai_fget ws a 4 0).bind fun q => ai_Run 107 11 ls (q :: st) ws := R_getf hc_107 dX4_possibleCulprits_8 hv_107 (w := 522) rfl rfl
theorem r_107_11 (ls st : List Value) (a : Nat) (ws : ai_W) : ai_Run 107 11 ls (.ref a :: st) ws = (ai_fget ws a 0 0).bind fun q => ai_Run 107 14 ls (q :: st) ws := R_getf hc_107 dX4_possibleCulprits_11 hv_107 (w := 465) rfl rfl
theorem r_107_14 (ls st : List Value) (a b : Int32) (ws : ai_W) : ai_Run 107 14 ls (.int b :: .int a :: st) ws = if a < b then ai_Run 107 17 ls st ws else ai_Run 107 37 ls st ws := R_cmp_ge hc_107 dX4_possibleCulprits_14 rfl rfl
theorem r_107_17 (l1 l2 l3 l4 : Value) (a : Nat) (st : List Value) (ws : ai_W) : ai_Run 107 17 [.ref a, l1, l2, l3, l4] st ws = ai_Run 107 18 [.ref a, l1, l2, l3, l4] (.ref a :: st) ws := R_aload_n hc_107 dX4_possibleCulprits_17 rfl rfl
theorem r_107_18 (l0 l1 l2 l3 : Value) (a : Int32) (st : List Value) (ws : ai_W) : ai_Run 107 18 [l0, l1, l2, l3, .int a] st ws = ai_Run 107 20 [l0, l1, l2, l3, .int a] (.int a :: st) ws := R_iload hc_107 dX4_possibleCulprits_18 rfl rfl
theorem r_107_20 (l0 l2 l3 l4 : Value) (a : Int32) (st : List Value) (ws : ai_W) : ai_Run 107 20 [l0, .int a, l2, l3, l4] st ws = ai_Run 107 21 [l0, .int a, l2, l3, l4] (.int a :: st) ws := R_iload_n hc_107 dX4_possibleCulprits_20 rfl rfl
theorem r_107_21 (l0 l1 l3 l4 : Value) (a : Int32) (st : List Value) (ws : ai_W) : ai_Run 107 21 [l0, l1, .int a, l3, l4] st ws = ai_Run 107 22 [l0, l1, .int a, l3, l4] (.int a :: st) ws := R_iload_n hc_107 dX4_possibleCulprits_21 rfl rfl
theorem r_107_22 (ls : List Value) (r : Nat) (b0 : Int32) (b1 : Int32) (b2 : Int32) (ws : ai_W) : ai_Run 107 22 ls [.int b2, .int b1, .int b0, .ref r] ws = (ai_Call 85 [.ref r, .int b0, .int b1, .int b2] ws).bind fun q => ai_Run 107 25 ls (q.1.toList ++ []) q.2 := R_callV hc_107 dX4_possibleCulprits_22 hv_107 (w := 220) rfl (ai_lt3 hf_85 hf_107 hL_85 ho_85 ho_107 rfl) hk_85 (by rw [hn_85]; rfl) rfl (Nat.le_of_ble_eq_true rfl) rfl
theorem r_107_25 (ls st : List Value) (a : Int32) (ws : ai_W) : ai_Run 107 25 ls (.int a :: st) ws = if a = 0 then ai_Run 107 31 ls st ws else ai_Run 107 28 ls st ws := R_if_eq hc_107 dX4_possibleCulprits_25 rfl rfl
theorem r_107_28 (l0 l1 l2 l4 : Value) (a : Int32) (st : List Value) (ws : ai_W) : ai_Run 107 28 [l0, l1, l2, .int a, l4] st ws = ai_Run 107 31 [l0, l1, l2, .int (a + 1), l4] st ws := R_iinc hc_107 dX4_possibleCulprits_28 rfl (by decide) rfl rfl
theorem r_107_31 (l0 l1 l2 l3 : Value) (a : Int32) (st : List Value) (ws : ai_W) : ai_Run 107 31 [l0, l1, l2, l3, .int a] st ws = ai_Run 107 34 [l0, l1, l2, l3, .int (a + 1)] st ws := R_iinc hc_107 dX4_possibleCulprits_31 rfl (by decide) rfl rfl
theorem r_107_34 (ls st : List Value) (ws : ai_W) : ai_Run 107 34 ls st ws = ai_Run 107 5 ls st ws := R_goto hc_107 dX4_possibleCulprits_34 rfl
theorem r_107_37 (l0 l1 l2 l4 : Value) (a : Int32) (st : List Value) (ws : ai_W) : ai_Run 107 37 [l0, l1, l2, .int a, l4] st ws = ai_Run 107 38 [l0, l1, l2, .int a, l4] (.int a :: st) ws := R_iload_n hc_107 dX4_possibleCulprits_37 rfl rfl
theorem r_107_38 (ls : List Value) (x : Int32) (ws : ai_W) : ai_Run 107 38 ls [.int x] ws = some (some (.int x), ws) := R_iret hc_107 dX4_possibleCulprits_38 ht_107
theorem dX4_deadAgree_0 : decode cX4_deadAgree 0 = .ok (.iconst 0, 1) := by decide +kernel
theorem dX4_deadAgree_1 : decode cX4_deadAgree 1 = .ok (.istore_n 1, 1) := by decide +kernel
theorem dX4_deadAgree_2 : decode cX4_deadAgree 2 = .ok (.iconst 1, 1) := by decide +kernel
theorem dX4_deadAgree_3 : decode cX4_deadAgree 3 = .ok (.istore_n 2, 1) := by decide +kernel
theorem dX4_deadAgree_4 : decode cX4_deadAgree 4 = .ok (.iload_n 2, 1) := by decide +kernel
theorem dX4_deadAgree_5 : decode cX4_deadAgree 5 = .ok (.bipush 30, 2) := by decide +kernel
theorem dX4_deadAgree_7 : decode cX4_deadAgree 7 = .ok (.if_icmp .gt 27, 3) := by decide +kernel
theorem dX4_deadAgree_10 : decode cX4_deadAgree 10 = .ok (.aload_n 0, 1) := by decide +kernel
theorem dX4_deadAgree_11 : decode cX4_deadAgree 11 = .ok (.iload_n 1, 1) := by decide +kernel
theorem dX4_deadAgree_12 : decode cX4_deadAgree 12 = .ok (.iload_n 2, 1) := by decide +kernel
theorem dX4_deadAgree_13 : decode cX4_deadAgree 13 = .ok (.invokevirtual 38, 3) := by decide +kernel
theorem dX4_deadAgree_16 : decode cX4_deadAgree 16 = .ok (.istore_n 1, 1) := by decide +kernel
theorem dX4_deadAgree_17 : decode cX4_deadAgree 17 = .ok (.aload_n 0, 1) := by decide +kernel
theorem dX4_deadAgree_18 : decode cX4_deadAgree 18 = .ok (.iload_n 2, 1) := by decide +kernel
theorem dX4_deadAgree_19 : decode cX4_deadAgree 19 = .ok (.invokevirtual 45, 3) := by decide +kernel
theorem dX4_deadAgree_22 : decode cX4_deadAgree 22 = .ok (.iload_n 1, 1) := by decide +kernel
theorem dX4_deadAgree_23 : decode cX4_deadAgree 23 = .ok (.if_icmp .eq 5, 3) := by decide +kernel
theorem dX4_deadAgree_26 : decode cX4_deadAgree 26 = .ok (.iconst 0, 1) := by decide +kernel
theorem dX4_deadAgree_27 : decode cX4_deadAgree 27 = .ok (.ireturn, 1) := by decide +kernel
theorem dX4_deadAgree_28 : decode cX4_deadAgree 28 = .ok (.iinc 2 1, 3) := by decide +kernel
theorem dX4_deadAgree_31 : decode cX4_deadAgree 31 = .ok (.goto (-27), 3) := by decide +kernel
theorem dX4_deadAgree_34 : decode cX4_deadAgree 34 = .ok (.iconst 1, 1) := by decide +kernel
theorem dX4_deadAgree_35 : decode cX4_deadAgree 35 = .ok (.ireturn, 1) := by decide +kernel
theorem e_111 (r : Nat)  (ws : ai_W) : ai_Call 111 [.ref r] ws = if ai_isob ws r 4 = true then ai_Run 111 0 [.ref r, .null, .null] [] ws else none := R_entV hk_111 ⟨⟨rfl, rfl⟩, Nat.le_of_ble_eq_true rfl⟩ rfl
theorem r_111_0 (ls st : List Value) (ws : ai_W) : ai_Run 111 0 ls st ws = ai_Run 111 1 ls (.int 0 :: st) ws := R_iconst hc_111 dX4_deadAgree_0 (by decide) rfl
theorem r_111_1 (l0 l1 l2 : Value) (a : Int32) (st : List Value) (ws : ai_W) : ai_Run 111 1 [l0, l1, l2] (.int a :: st) ws = ai_Run 111 2 [l0, .int a, l2] st ws := R_istore_n hc_111 dX4_deadAgree_1 (Nat.le_of_ble_eq_true rfl) rfl rfl
theorem r_111_2 (ls st : List Value) (ws : ai_W) : ai_Run 111 2 ls st ws = ai_Run 111 3 ls (.int 1 :: st) ws := R_iconst hc_111 dX4_deadAgree_2 (by decide) rfl
theorem r_111_3 (l0 l1 l2 : Value) (a : Int32) (st : List Value) (ws : ai_W) : ai_Run 111 3 [l0, l1, l2] (.int a :: st) ws = ai_Run 111 4 [l0, l1, .int a] st ws := R_istore_n hc_111 dX4_deadAgree_3 (Nat.le_of_ble_eq_true rfl) rfl rfl
theorem r_111_4 (l0 l1 : Value) (a : Int32) (st : List Value) (ws : ai_W) : ai_Run 111 4 [l0, l1, .int a] st ws = ai_Run 111 5 [l0, l1, .int a] (.int a :: st) ws := R_iload_n hc_111 dX4_deadAgree_4 rfl rfl
theorem r_111_5 (ls st : List Value) (ws : ai_W) : ai_Run 111 5 ls st ws = ai_Run 111 7 ls (.int 30 :: st) ws := R_bipush hc_111 dX4_deadAgree_5 (by decide) rfl
theorem r_111_7 (ls st : List Value) (a b : Int32) (ws : ai_W) : ai_Run 111 7 ls (.int b :: .int a :: st) ws = if b < a then ai_Run 111 34 ls st ws else ai_Run 111 10 ls st ws := R_cmp_gt hc_111 dX4_deadAgree_7 rfl rfl
theorem r_111_10 (l1 l2 : Value) (a : Nat) (st : List Value) (ws : ai_W) : ai_Run 111 10 [.ref a, l1, l2] st ws = ai_Run 111 11 [.ref a, l1, l2] (.ref a :: st) ws := R_aload_n hc_111 dX4_deadAgree_10 rfl rfl
theorem r_111_11 (l0 l2 : Value) (a : Int32) (st : List Value) (ws : ai_W) : ai_Run 111 11 [l0, .int a, l2] st ws = ai_Run 111 12 [l0, .int a, l2] (.int a :: st) ws := R_iload_n hc_111 dX4_deadAgree_11 rfl rfl
theorem r_111_12 (l0 l1 : Value) (a : Int32) (st : List Value) (ws : ai_W) : ai_Run 111 12 [l0, l1, .int a] st ws = ai_Run 111 13 [l0, l1, .int a] (.int a :: st) ws := R_iload_n hc_111 dX4_deadAgree_12 rfl rfl
theorem r_111_13 (ls : List Value) (r : Nat) (b0 : Int32) (b1 : Int32) (ws : ai_W) : ai_Run 111 13 ls [.int b1, .int b0, .ref r] ws = (ai_Call 104 [.ref r, .int b0, .int b1] ws).bind fun q => ai_Run 111 16 ls (q.1.toList ++ []) q.2 := R_callV hc_111 dX4_deadAgree_13 hv_111 (w := 1200) rfl (ai_lt3 hf_104 hf_111 hL_104 ho_104 ho_111 rfl) hk_104 (by rw [hn_104]; rfl) rfl (Nat.le_of_ble_eq_true rfl) rfl
theorem r_111_16 (l0 l1 l2 : Value) (a : Int32) (st : List Value) (ws : ai_W) : ai_Run 111 16 [l0, l1, l2] (.int a :: st) ws = ai_Run 111 17 [l0, .int a, l2] st ws := R_istore_n hc_111 dX4_deadAgree_16 (Nat.le_of_ble_eq_true rfl) rfl rfl
theorem r_111_17 (l1 l2 : Value) (a : Nat) (st : List Value) (ws : ai_W) : ai_Run 111 17 [.ref a, l1, l2] st ws = ai_Run 111 18 [.ref a, l1, l2] (.ref a :: st) ws := R_aload_n hc_111 dX4_deadAgree_17 rfl rfl
theorem r_111_18 (l0 l1 : Value) (a : Int32) (st : List Value) (ws : ai_W) : ai_Run 111 18 [l0, l1, .int a] st ws = ai_Run 111 19 [l0, l1, .int a] (.int a :: st) ws := R_iload_n hc_111 dX4_deadAgree_18 rfl rfl
theorem r_111_19 (ls : List Value) (r : Nat) (b0 : Int32) (ws : ai_W) : ai_Run 111 19 ls [.int b0, .ref r] ws = (ai_Call 99 [.ref r, .int b0] ws).bind fun q => ai_Run 111 22 ls (q.1.toList ++ []) q.2 := R_callV hc_111 dX4_deadAgree_19 hv_111 (w := 1239) rfl (ai_lt3 hf_99 hf_111 hL_99 ho_99 ho_111 rfl) hk_99 (by rw [hn_99]; rfl) rfl (Nat.le_of_ble_eq_true rfl) rfl
theorem r_111_22 (l0 l2 : Value) (a : Int32) (st : List Value) (ws : ai_W) : ai_Run 111 22 [l0, .int a, l2] st ws = ai_Run 111 23 [l0, .int a, l2] (.int a :: st) ws := R_iload_n hc_111 dX4_deadAgree_22 rfl rfl
theorem r_111_23 (ls st : List Value) (a b : Int32) (ws : ai_W) : ai_Run 111 23 ls (.int b :: .int a :: st) ws = if a = b then ai_Run 111 28 ls st ws else ai_Run 111 26 ls st ws := R_cmp_eq hc_111 dX4_deadAgree_23 rfl rfl
theorem r_111_26 (ls st : List Value) (ws : ai_W) : ai_Run 111 26 ls st ws = ai_Run 111 27 ls (.int 0 :: st) ws := R_iconst hc_111 dX4_deadAgree_26 (by decide) rfl
theorem r_111_27 (ls : List Value) (x : Int32) (ws : ai_W) : ai_Run 111 27 ls [.int x] ws = if ai_pb x = true then some (some (.int x), ws) else none := R_zret hc_111 dX4_deadAgree_27 ht_111
theorem r_111_28 (l0 l1 : Value) (a : Int32) (st : List Value) (ws : ai_W) : ai_Run 111 28 [l0, l1, .int a] st ws = ai_Run 111 31 [l0, l1, .int (a + 1)] st ws := R_iinc hc_111 dX4_deadAgree_28 rfl (by decide) rfl rfl
theorem r_111_31 (ls st : List Value) (ws : ai_W) : ai_Run 111 31 ls st ws = ai_Run 111 4 ls st ws := R_goto hc_111 dX4_deadAgree_31 rfl
theorem r_111_34 (ls st : List Value) (ws : ai_W) : ai_Run 111 34 ls st ws = ai_Run 111 35 ls (.int 1 :: st) ws := R_iconst hc_111 dX4_deadAgree_34 (by decide) rfl
theorem r_111_35 (ls : List Value) (x : Int32) (ws : ai_W) : ai_Run 111 35 ls [.int x] ws = if ai_pb x = true then some (some (.int x), ws) else none := R_zret hc_111 dX4_deadAgree_35 ht_111
theorem dX4_suspectByCharacters_0 : decode cX4_suspectByCharacters 0 = .ok (.bipush (-4), 2) := by decide +kernel
theorem dX4_suspectByCharacters_2 : decode cX4_suspectByCharacters 2 = .ok (.istore_n 3, 1) := by decide +kernel
theorem dX4_suspectByCharacters_3 : decode cX4_suspectByCharacters 3 = .ok (.iconst 0, 1) := by decide +kernel
theorem dX4_suspectByCharacters_4 : decode cX4_suspectByCharacters 4 = .ok (.istore 4, 2) := by decide +kernel
theorem dX4_suspectByCharacters_6 : decode cX4_suspectByCharacters 6 = .ok (.iconst 0, 1) := by decide +kernel
theorem dX4_suspectByCharacters_7 : decode cX4_suspectByCharacters 7 = .ok (.istore 5, 2) := by decide +kernel
theorem dX4_suspectByCharacters_9 : decode cX4_suspectByCharacters 9 = .ok (.iload 5, 2) := by decide +kernel
theorem dX4_suspectByCharacters_11 : decode cX4_suspectByCharacters 11 = .ok (.aload_n 0, 1) := by decide +kernel
theorem dX4_suspectByCharacters_12 : decode cX4_suspectByCharacters 12 = .ok (.getfield 9, 3) := by decide +kernel
theorem dX4_suspectByCharacters_15 : decode cX4_suspectByCharacters 15 = .ok (.getfield 30, 3) := by decide +kernel
theorem dX4_suspectByCharacters_18 : decode cX4_suspectByCharacters 18 = .ok (.if_icmp .ge 46, 3) := by decide +kernel
theorem dX4_suspectByCharacters_21 : decode cX4_suspectByCharacters 21 = .ok (.aload_n 0, 1) := by decide +kernel
theorem dX4_suspectByCharacters_22 : decode cX4_suspectByCharacters 22 = .ok (.getfield 9, 3) := by decide +kernel
theorem dX4_suspectByCharacters_25 : decode cX4_suspectByCharacters 25 = .ok (.iload 5, 2) := by decide +kernel
theorem dX4_suspectByCharacters_27 : decode cX4_suspectByCharacters 27 = .ok (.iload_n 1, 1) := by decide +kernel
theorem dX4_suspectByCharacters_28 : decode cX4_suspectByCharacters 28 = .ok (.invokevirtual 53, 3) := by decide +kernel
theorem dX4_suspectByCharacters_31 : decode cX4_suspectByCharacters 31 = .ok (.istore 6, 2) := by decide +kernel
theorem dX4_suspectByCharacters_33 : decode cX4_suspectByCharacters 33 = .ok (.iload 6, 2) := by decide +kernel
theorem dX4_suspectByCharacters_35 : decode cX4_suspectByCharacters 35 = .ok (.iload 4, 2) := by decide +kernel
theorem dX4_suspectByCharacters_37 : decode cX4_suspectByCharacters 37 = .ok (.if_icmp .le 21, 3) := by decide +kernel
theorem dX4_suspectByCharacters_40 : decode cX4_suspectByCharacters 40 = .ok (.aload_n 0, 1) := by decide +kernel
theorem dX4_suspectByCharacters_41 : decode cX4_suspectByCharacters 41 = .ok (.iload 5, 2) := by decide +kernel
theorem dX4_suspectByCharacters_43 : decode cX4_suspectByCharacters 43 = .ok (.iload_n 1, 1) := by decide +kernel
theorem dX4_suspectByCharacters_44 : decode cX4_suspectByCharacters 44 = .ok (.iload_n 2, 1) := by decide +kernel
theorem dX4_suspectByCharacters_45 : decode cX4_suspectByCharacters 45 = .ok (.invokevirtual 59, 3) := by decide +kernel
theorem dX4_suspectByCharacters_48 : decode cX4_suspectByCharacters 48 = .ok (.ifCond .eq 10, 3) := by decide +kernel
theorem dX4_suspectByCharacters_51 : decode cX4_suspectByCharacters 51 = .ok (.iload 6, 2) := by decide +kernel
theorem dX4_suspectByCharacters_53 : decode cX4_suspectByCharacters 53 = .ok (.istore 4, 2) := by decide +kernel
theorem dX4_suspectByCharacters_55 : decode cX4_suspectByCharacters 55 = .ok (.iload 5, 2) := by decide +kernel
theorem dX4_suspectByCharacters_57 : decode cX4_suspectByCharacters 57 = .ok (.istore_n 3, 1) := by decide +kernel
theorem dX4_suspectByCharacters_58 : decode cX4_suspectByCharacters 58 = .ok (.iinc 5 1, 3) := by decide +kernel
theorem dX4_suspectByCharacters_61 : decode cX4_suspectByCharacters 61 = .ok (.goto (-52), 3) := by decide +kernel
theorem dX4_suspectByCharacters_64 : decode cX4_suspectByCharacters 64 = .ok (.iload_n 3, 1) := by decide +kernel
theorem dX4_suspectByCharacters_65 : decode cX4_suspectByCharacters 65 = .ok (.ireturn, 1) := by decide +kernel
theorem e_112 (r : Nat) (a0 : Int32) (a1 : Int32) (ws : ai_W) : ai_Call 112 [.ref r, .int a0, .int a1] ws = if ai_isob ws r 4 = true then ai_Run 112 0 [.ref r, .int a0, .int a1, .null, .null, .null, .null] [] ws else none := R_entV hk_112 ⟨⟨rfl, rfl⟩, Nat.le_of_ble_eq_true rfl⟩ rfl
theorem r_112_0 (ls st : List Value) (ws : ai_W) : ai_Run 112 0 ls st ws = ai_Run 112 2 ls (.int (-4) :: st) ws := R_bipush hc_112 dX4_suspectByCharacters_0 (by decide) rfl
theorem r_112_2 (l0 l1 l2 l3 l4 l5 l6 : Value) (a : Int32) (st : List Value) (ws : ai_W) : ai_Run 112 2 [l0, l1, l2, l3, l4, l5, l6] (.int a :: st) ws = ai_Run 112 3 [l0, l1, l2, .int a, l4, l5, l6] st ws := R_istore_n hc_112 dX4_suspectByCharacters_2 (Nat.le_of_ble_eq_true rfl) rfl rfl
theorem r_112_3 (ls st : List Value) (ws : ai_W) : ai_Run 112 3 ls st ws = ai_Run 112 4 ls (.int 0 :: st) ws := R_iconst hc_112 dX4_suspectByCharacters_3 (by decide) rfl
theorem r_112_4 (l0 l1 l2 l3 l4 l5 l6 : Value) (a : Int32) (st : List Value) (ws : ai_W) : ai_Run 112 4 [l0, l1, l2, l3, l4, l5, l6] (.int a :: st) ws = ai_Run 112 6 [l0, l1, l2, l3, .int a, l5, l6] st ws := R_istore hc_112 dX4_suspectByCharacters_4 (Nat.le_of_ble_eq_true rfl) rfl rfl
theorem r_112_6 (ls st : List Value) (ws : ai_W) : ai_Run 112 6 ls st ws = ai_Run 112 7 ls (.int 0 :: st) ws := R_iconst hc_112 dX4_suspectByCharacters_6 (by decide) rfl
theorem r_112_7 (l0 l1 l2 l3 l4 l5 l6 : Value) (a : Int32) (st : List Value) (ws : ai_W) : ai_Run 112 7 [l0, l1, l2, l3, l4, l5, l6] (.int a :: st) ws = ai_Run 112 9 [l0, l1, l2, l3, l4, .int a, l6] st ws := R_istore hc_112 dX4_suspectByCharacters_7 (Nat.le_of_ble_eq_true rfl) rfl rfl
theorem r_112_9 (l0 l1 l2 l3 l4 l6 : Value) (a : Int32) (st : List Value) (ws : ai_W) : ai_Run 112 9 [l0, l1, l2, l3, l4, .int a, l6] st ws = ai_Run 112 11 [l0, l1, l2, l3, l4, .int a, l6] (.int a :: st) ws := R_iload hc_112 dX4_suspectByCharacters_9 rfl rfl
theorem r_112_11 (l1 l2 l3 l4 l5 l6 : Value) (a : Nat) (st : List Value) (ws : ai_W) : ai_Run 112 11 [.ref a, l1, l2, l3, l4, l5, l6] st ws = ai_Run 112 12 [.ref a, l1, l2, l3, l4, l5, l6] (.ref a :: st) ws := R_aload_n hc_112 dX4_suspectByCharacters_11 rfl rfl
theorem r_112_12 (ls st : List Value) (a : Nat) (ws : ai_W) : ai_Run 112 12 ls (.ref a :: st) ws = (ai_fget ws a 4 0).bind fun q => ai_Run 112 15 ls (q :: st) ws := R_getf hc_112 dX4_suspectByCharacters_12 hv_112 (w := 522) rfl rfl
theorem r_112_15 (ls st : List Value) (a : Nat) (ws : ai_W) : ai_Run 112 15 ls (.ref a :: st) ws = (ai_fget ws a 0 0).bind fun q => ai_Run 112 18 ls (q :: st) ws := R_getf hc_112 dX4_suspectByCharacters_15 hv_112 (w := 465) rfl rfl
theorem r_112_18 (ls st : List Value) (a b : Int32) (ws : ai_W) : ai_Run 112 18 ls (.int b :: .int a :: st) ws = if a < b then ai_Run 112 21 ls st ws else ai_Run 112 64 ls st ws := R_cmp_ge hc_112 dX4_suspectByCharacters_18 rfl rfl
theorem r_112_21 (l1 l2 l3 l4 l5 l6 : Value) (a : Nat) (st : List Value) (ws : ai_W) : ai_Run 112 21 [.ref a, l1, l2, l3, l4, l5, l6] st ws = ai_Run 112 22 [.ref a, l1, l2, l3, l4, l5, l6] (.ref a :: st) ws := R_aload_n hc_112 dX4_suspectByCharacters_21 rfl rfl
theorem r_112_22 (ls st : List Value) (a : Nat) (ws : ai_W) : ai_Run 112 22 ls (.ref a :: st) ws = (ai_fget ws a 4 0).bind fun q => ai_Run 112 25 ls (q :: st) ws := R_getf hc_112 dX4_suspectByCharacters_22 hv_112 (w := 522) rfl rfl
theorem r_112_25 (l0 l1 l2 l3 l4 l6 : Value) (a : Int32) (st : List Value) (ws : ai_W) : ai_Run 112 25 [l0, l1, l2, l3, l4, .int a, l6] st ws = ai_Run 112 27 [l0, l1, l2, l3, l4, .int a, l6] (.int a :: st) ws := R_iload hc_112 dX4_suspectByCharacters_25 rfl rfl
theorem r_112_27 (l0 l2 l3 l4 l5 l6 : Value) (a : Int32) (st : List Value) (ws : ai_W) : ai_Run 112 27 [l0, .int a, l2, l3, l4, l5, l6] st ws = ai_Run 112 28 [l0, .int a, l2, l3, l4, l5, l6] (.int a :: st) ws := R_iload_n hc_112 dX4_suspectByCharacters_27 rfl rfl
theorem r_112_28 (ls : List Value) (r : Nat) (b0 : Int32) (b1 : Int32) (ws : ai_W) : ai_Run 112 28 ls [.int b1, .int b0, .ref r] ws = (ai_Call 76 [.ref r, .int b0, .int b1] ws).bind fun q => ai_Run 112 31 ls (q.1.toList ++ []) q.2 := R_callV hc_112 dX4_suspectByCharacters_28 hv_112 (w := 224) rfl (ai_lt3 hf_76 hf_112 hL_76 ho_76 ho_112 rfl) hk_76 (by rw [hn_76]; rfl) rfl (Nat.le_of_ble_eq_true rfl) rfl
theorem r_112_31 (l0 l1 l2 l3 l4 l5 l6 : Value) (a : Int32) (st : List Value) (ws : ai_W) : ai_Run 112 31 [l0, l1, l2, l3, l4, l5, l6] (.int a :: st) ws = ai_Run 112 33 [l0, l1, l2, l3, l4, l5, .int a] st ws := R_istore hc_112 dX4_suspectByCharacters_31 (Nat.le_of_ble_eq_true rfl) rfl rfl
theorem r_112_33 (l0 l1 l2 l3 l4 l5 : Value) (a : Int32) (st : List Value) (ws : ai_W) : ai_Run 112 33 [l0, l1, l2, l3, l4, l5, .int a] st ws = ai_Run 112 35 [l0, l1, l2, l3, l4, l5, .int a] (.int a :: st) ws := R_iload hc_112 dX4_suspectByCharacters_33 rfl rfl
theorem r_112_35 (l0 l1 l2 l3 l5 l6 : Value) (a : Int32) (st : List Value) (ws : ai_W) : ai_Run 112 35 [l0, l1, l2, l3, .int a, l5, l6] st ws = ai_Run 112 37 [l0, l1, l2, l3, .int a, l5, l6] (.int a :: st) ws := R_iload hc_112 dX4_suspectByCharacters_35 rfl rfl
theorem r_112_37 (ls st : List Value) (a b : Int32) (ws : ai_W) : ai_Run 112 37 ls (.int b :: .int a :: st) ws = if b < a then ai_Run 112 40 ls st ws else ai_Run 112 58 ls st ws := R_cmp_le hc_112 dX4_suspectByCharacters_37 rfl rfl
theorem r_112_40 (l1 l2 l3 l4 l5 l6 : Value) (a : Nat) (st : List Value) (ws : ai_W) : ai_Run 112 40 [.ref a, l1, l2, l3, l4, l5, l6] st ws = ai_Run 112 41 [.ref a, l1, l2, l3, l4, l5, l6] (.ref a :: st) ws := R_aload_n hc_112 dX4_suspectByCharacters_40 rfl rfl
theorem r_112_41 (l0 l1 l2 l3 l4 l6 : Value) (a : Int32) (st : List Value) (ws : ai_W) : ai_Run 112 41 [l0, l1, l2, l3, l4, .int a, l6] st ws = ai_Run 112 43 [l0, l1, l2, l3, l4, .int a, l6] (.int a :: st) ws := R_iload hc_112 dX4_suspectByCharacters_41 rfl rfl
theorem r_112_43 (l0 l2 l3 l4 l5 l6 : Value) (a : Int32) (st : List Value) (ws : ai_W) : ai_Run 112 43 [l0, .int a, l2, l3, l4, l5, l6] st ws = ai_Run 112 44 [l0, .int a, l2, l3, l4, l5, l6] (.int a :: st) ws := R_iload_n hc_112 dX4_suspectByCharacters_43 rfl rfl
theorem r_112_44 (l0 l1 l3 l4 l5 l6 : Value) (a : Int32) (st : List Value) (ws : ai_W) : ai_Run 112 44 [l0, l1, .int a, l3, l4, l5, l6] st ws = ai_Run 112 45 [l0, l1, .int a, l3, l4, l5, l6] (.int a :: st) ws := R_iload_n hc_112 dX4_suspectByCharacters_44 rfl rfl
theorem r_112_45 (ls : List Value) (r : Nat) (b0 : Int32) (b1 : Int32) (b2 : Int32) (ws : ai_W) : ai_Run 112 45 ls [.int b2, .int b1, .int b0, .ref r] ws = (ai_Call 85 [.ref r, .int b0, .int b1, .int b2] ws).bind fun q => ai_Run 112 48 ls (q.1.toList ++ []) q.2 := R_callV hc_112 dX4_suspectByCharacters_45 hv_112 (w := 220) rfl (ai_lt3 hf_85 hf_112 hL_85 ho_85 ho_112 rfl) hk_85 (by rw [hn_85]; rfl) rfl (Nat.le_of_ble_eq_true rfl) rfl
theorem r_112_48 (ls st : List Value) (a : Int32) (ws : ai_W) : ai_Run 112 48 ls (.int a :: st) ws = if a = 0 then ai_Run 112 58 ls st ws else ai_Run 112 51 ls st ws := R_if_eq hc_112 dX4_suspectByCharacters_48 rfl rfl
theorem r_112_51 (l0 l1 l2 l3 l4 l5 : Value) (a : Int32) (st : List Value) (ws : ai_W) : ai_Run 112 51 [l0, l1, l2, l3, l4, l5, .int a] st ws = ai_Run 112 53 [l0, l1, l2, l3, l4, l5, .int a] (.int a :: st) ws := R_iload hc_112 dX4_suspectByCharacters_51 rfl rfl
theorem r_112_53 (l0 l1 l2 l3 l4 l5 l6 : Value) (a : Int32) (st : List Value) (ws : ai_W) : ai_Run 112 53 [l0, l1, l2, l3, l4, l5, l6] (.int a :: st) ws = ai_Run 112 55 [l0, l1, l2, l3, .int a, l5, l6] st ws := R_istore hc_112 dX4_suspectByCharacters_53 (Nat.le_of_ble_eq_true rfl) rfl rfl
theorem r_112_55 (l0 l1 l2 l3 l4 l6 : Value) (a : Int32) (st : List Value) (ws : ai_W) : ai_Run 112 55 [l0, l1, l2, l3, l4, .int a, l6] st ws = ai_Run 112 57 [l0, l1, l2, l3, l4, .int a, l6] (.int a :: st) ws := R_iload hc_112 dX4_suspectByCharacters_55 rfl rfl
theorem r_112_57 (l0 l1 l2 l3 l4 l5 l6 : Value) (a : Int32) (st : List Value) (ws : ai_W) : ai_Run 112 57 [l0, l1, l2, l3, l4, l5, l6] (.int a :: st) ws = ai_Run 112 58 [l0, l1, l2, .int a, l4, l5, l6] st ws := R_istore_n hc_112 dX4_suspectByCharacters_57 (Nat.le_of_ble_eq_true rfl) rfl rfl
theorem r_112_58 (l0 l1 l2 l3 l4 l6 : Value) (a : Int32) (st : List Value) (ws : ai_W) : ai_Run 112 58 [l0, l1, l2, l3, l4, .int a, l6] st ws = ai_Run 112 61 [l0, l1, l2, l3, l4, .int (a + 1), l6] st ws := R_iinc hc_112 dX4_suspectByCharacters_58 rfl (by decide) rfl rfl
theorem r_112_61 (ls st : List Value) (ws : ai_W) : ai_Run 112 61 ls st ws = ai_Run 112 9 ls st ws := R_goto hc_112 dX4_suspectByCharacters_61 rfl
theorem r_112_64 (l0 l1 l2 l4 l5 l6 : Value) (a : Int32) (st : List Value) (ws : ai_W) : ai_Run 112 64 [l0, l1, l2, .int a, l4, l5, l6] st ws = ai_Run 112 65 [l0, l1, l2, .int a, l4, l5, l6] (.int a :: st) ws := R_iload_n hc_112 dX4_suspectByCharacters_64 rfl rfl
theorem r_112_65 (ls : List Value) (x : Int32) (ws : ai_W) : ai_Run 112 65 ls [.int x] ws = some (some (.int x), ws) := R_iret hc_112 dX4_suspectByCharacters_65 ht_112
theorem dX4_suspectByPages_0 : decode cX4_suspectByPages 0 = .ok (.bipush 9, 2) := by decide +kernel
theorem dX4_suspectByPages_2 : decode cX4_suspectByPages 2 = .ok (.istore_n 3, 1) := by decide +kernel
theorem dX4_suspectByPages_3 : decode cX4_suspectByPages 3 = .ok (.iload_n 3, 1) := by decide +kernel
theorem dX4_suspectByPages_4 : decode cX4_suspectByPages 4 = .ok (.ifCond .le 58, 3) := by decide +kernel
theorem dX4_suspectByPages_7 : decode cX4_suspectByPages 7 = .ok (.iconst 0, 1) := by decide +kernel
theorem dX4_suspectByPages_8 : decode cX4_suspectByPages 8 = .ok (.istore 4, 2) := by decide +kernel
theorem dX4_suspectByPages_10 : decode cX4_suspectByPages 10 = .ok (.iload 4, 2) := by decide +kernel
theorem dX4_suspectByPages_12 : decode cX4_suspectByPages 12 = .ok (.aload_n 0, 1) := by decide +kernel
theorem dX4_suspectByPages_13 : decode cX4_suspectByPages 13 = .ok (.getfield 9, 3) := by decide +kernel
theorem dX4_suspectByPages_16 : decode cX4_suspectByPages 16 = .ok (.getfield 30, 3) := by decide +kernel
theorem dX4_suspectByPages_19 : decode cX4_suspectByPages 19 = .ok (.if_icmp .ge 37, 3) := by decide +kernel
theorem dX4_suspectByPages_22 : decode cX4_suspectByPages 22 = .ok (.aload_n 0, 1) := by decide +kernel
theorem dX4_suspectByPages_23 : decode cX4_suspectByPages 23 = .ok (.getfield 9, 3) := by decide +kernel
theorem dX4_suspectByPages_26 : decode cX4_suspectByPages 26 = .ok (.iload 4, 2) := by decide +kernel
theorem dX4_suspectByPages_28 : decode cX4_suspectByPages 28 = .ok (.iload_n 1, 1) := by decide +kernel
theorem dX4_suspectByPages_29 : decode cX4_suspectByPages 29 = .ok (.invokevirtual 53, 3) := by decide +kernel
theorem dX4_suspectByPages_32 : decode cX4_suspectByPages 32 = .ok (.iload_n 3, 1) := by decide +kernel
theorem dX4_suspectByPages_33 : decode cX4_suspectByPages 33 = .ok (.if_icmp .ne 17, 3) := by decide +kernel
theorem dX4_suspectByPages_36 : decode cX4_suspectByPages 36 = .ok (.aload_n 0, 1) := by decide +kernel
theorem dX4_suspectByPages_37 : decode cX4_suspectByPages 37 = .ok (.iload 4, 2) := by decide +kernel
theorem dX4_suspectByPages_39 : decode cX4_suspectByPages 39 = .ok (.iload_n 1, 1) := by decide +kernel
theorem dX4_suspectByPages_40 : decode cX4_suspectByPages 40 = .ok (.iload_n 2, 1) := by decide +kernel
theorem dX4_suspectByPages_41 : decode cX4_suspectByPages 41 = .ok (.invokevirtual 59, 3) := by decide +kernel
theorem dX4_suspectByPages_44 : decode cX4_suspectByPages 44 = .ok (.ifCond .eq 6, 3) := by decide +kernel
theorem dX4_suspectByPages_47 : decode cX4_suspectByPages 47 = .ok (.iload 4, 2) := by decide +kernel
theorem dX4_suspectByPages_49 : decode cX4_suspectByPages 49 = .ok (.ireturn, 1) := by decide +kernel
theorem dX4_suspectByPages_50 : decode cX4_suspectByPages 50 = .ok (.iinc 4 1, 3) := by decide +kernel
theorem dX4_suspectByPages_53 : decode cX4_suspectByPages 53 = .ok (.goto (-43), 3) := by decide +kernel
theorem dX4_suspectByPages_56 : decode cX4_suspectByPages 56 = .ok (.iinc 3 (-1), 3) := by decide +kernel
theorem dX4_suspectByPages_59 : decode cX4_suspectByPages 59 = .ok (.goto (-56), 3) := by decide +kernel
theorem dX4_suspectByPages_62 : decode cX4_suspectByPages 62 = .ok (.bipush (-4), 2) := by decide +kernel
theorem dX4_suspectByPages_64 : decode cX4_suspectByPages 64 = .ok (.ireturn, 1) := by decide +kernel
theorem e_113 (r : Nat) (a0 : Int32) (a1 : Int32) (ws : ai_W) : ai_Call 113 [.ref r, .int a0, .int a1] ws = if ai_isob ws r 4 = true then ai_Run 113 0 [.ref r, .int a0, .int a1, .null, .null] [] ws else none := R_entV hk_113 ⟨⟨rfl, rfl⟩, Nat.le_of_ble_eq_true rfl⟩ rfl
theorem r_113_0 (ls st : List Value) (ws : ai_W) : ai_Run 113 0 ls st ws = ai_Run 113 2 ls (.int 9 :: st) ws := R_bipush hc_113 dX4_suspectByPages_0 (by decide) rfl
theorem r_113_2 (l0 l1 l2 l3 l4 : Value) (a : Int32) (st : List Value) (ws : ai_W) : ai_Run 113 2 [l0, l1, l2, l3, l4] (.int a :: st) ws = ai_Run 113 3 [l0, l1, l2, .int a, l4] st ws := R_istore_n hc_113 dX4_suspectByPages_2 (Nat.le_of_ble_eq_true rfl) rfl rfl
theorem r_113_3 (l0 l1 l2 l4 : Value) (a : Int32) (st : List Value) (ws : ai_W) : ai_Run 113 3 [l0, l1, l2, .int a, l4] st ws = ai_Run 113 4 [l0, l1, l2, .int a, l4] (.int a :: st) ws := R_iload_n hc_113 dX4_suspectByPages_3 rfl rfl
theorem r_113_4 (ls st : List Value) (a : Int32) (ws : ai_W) : ai_Run 113 4 ls (.int a :: st) ws = if 0 < a then ai_Run 113 7 ls st ws else ai_Run 113 62 ls st ws := R_if_le hc_113 dX4_suspectByPages_4 rfl rfl
theorem r_113_7 (ls st : List Value) (ws : ai_W) : ai_Run 113 7 ls st ws = ai_Run 113 8 ls (.int 0 :: st) ws := R_iconst hc_113 dX4_suspectByPages_7 (by decide) rfl
theorem r_113_8 (l0 l1 l2 l3 l4 : Value) (a : Int32) (st : List Value) (ws : ai_W) : ai_Run 113 8 [l0, l1, l2, l3, l4] (.int a :: st) ws = ai_Run 113 10 [l0, l1, l2, l3, .int a] st ws := R_istore hc_113 dX4_suspectByPages_8 (Nat.le_of_ble_eq_true rfl) rfl rfl
theorem r_113_10 (l0 l1 l2 l3 : Value) (a : Int32) (st : List Value) (ws : ai_W) : ai_Run 113 10 [l0, l1, l2, l3, .int a] st ws = ai_Run 113 12 [l0, l1, l2, l3, .int a] (.int a :: st) ws := R_iload hc_113 dX4_suspectByPages_10 rfl rfl
theorem r_113_12 (l1 l2 l3 l4 : Value) (a : Nat) (st : List Value) (ws : ai_W) : ai_Run 113 12 [.ref a, l1, l2, l3, l4] st ws = ai_Run 113 13 [.ref a, l1, l2, l3, l4] (.ref a :: st) ws := R_aload_n hc_113 dX4_suspectByPages_12 rfl rfl
theorem r_113_13 (ls st : List Value) (a : Nat) (ws : ai_W) : ai_Run 113 13 ls (.ref a :: st) ws = (ai_fget ws a 4 0).bind fun q => ai_Run 113 16 ls (q :: st) ws := R_getf hc_113 dX4_suspectByPages_13 hv_113 (w := 522) rfl rfl
theorem r_113_16 (ls st : List Value) (a : Nat) (ws : ai_W) : ai_Run 113 16 ls (.ref a :: st) ws = (ai_fget ws a 0 0).bind fun q => ai_Run 113 19 ls (q :: st) ws := R_getf hc_113 dX4_suspectByPages_16 hv_113 (w := 465) rfl rfl
theorem r_113_19 (ls st : List Value) (a b : Int32) (ws : ai_W) : ai_Run 113 19 ls (.int b :: .int a :: st) ws = if a < b then ai_Run 113 22 ls st ws else ai_Run 113 56 ls st ws := R_cmp_ge hc_113 dX4_suspectByPages_19 rfl rfl
theorem r_113_22 (l1 l2 l3 l4 : Value) (a : Nat) (st : List Value) (ws : ai_W) : ai_Run 113 22 [.ref a, l1, l2, l3, l4] st ws = ai_Run 113 23 [.ref a, l1, l2, l3, l4] (.ref a :: st) ws := R_aload_n hc_113 dX4_suspectByPages_22 rfl rfl
theorem r_113_23 (ls st : List Value) (a : Nat) (ws : ai_W) : ai_Run 113 23 ls (.ref a :: st) ws = (ai_fget ws a 4 0).bind fun q => ai_Run 113 26 ls (q :: st) ws := R_getf hc_113 dX4_suspectByPages_23 hv_113 (w := 522) rfl rfl
theorem r_113_26 (l0 l1 l2 l3 : Value) (a : Int32) (st : List Value) (ws : ai_W) : ai_Run 113 26 [l0, l1, l2, l3, .int a] st ws = ai_Run 113 28 [l0, l1, l2, l3, .int a] (.int a :: st) ws := R_iload hc_113 dX4_suspectByPages_26 rfl rfl
theorem r_113_28 (l0 l2 l3 l4 : Value) (a : Int32) (st : List Value) (ws : ai_W) : ai_Run 113 28 [l0, .int a, l2, l3, l4] st ws = ai_Run 113 29 [l0, .int a, l2, l3, l4] (.int a :: st) ws := R_iload_n hc_113 dX4_suspectByPages_28 rfl rfl
theorem r_113_29 (ls : List Value) (r : Nat) (b0 : Int32) (b1 : Int32) (ws : ai_W) : ai_Run 113 29 ls [.int b1, .int b0, .ref r] ws = (ai_Call 76 [.ref r, .int b0, .int b1] ws).bind fun q => ai_Run 113 32 ls (q.1.toList ++ []) q.2 := R_callV hc_113 dX4_suspectByPages_29 hv_113 (w := 224) rfl (ai_lt3 hf_76 hf_113 hL_76 ho_76 ho_113 rfl) hk_76 (by rw [hn_76]; rfl) rfl (Nat.le_of_ble_eq_true rfl) rfl
theorem r_113_32 (l0 l1 l2 l4 : Value) (a : Int32) (st : List Value) (ws : ai_W) : ai_Run 113 32 [l0, l1, l2, .int a, l4] st ws = ai_Run 113 33 [l0, l1, l2, .int a, l4] (.int a :: st) ws := R_iload_n hc_113 dX4_suspectByPages_32 rfl rfl
theorem r_113_33 (ls st : List Value) (a b : Int32) (ws : ai_W) : ai_Run 113 33 ls (.int b :: .int a :: st) ws = if a = b then ai_Run 113 36 ls st ws else ai_Run 113 50 ls st ws := R_cmp_ne hc_113 dX4_suspectByPages_33 rfl rfl
theorem r_113_36 (l1 l2 l3 l4 : Value) (a : Nat) (st : List Value) (ws : ai_W) : ai_Run 113 36 [.ref a, l1, l2, l3, l4] st ws = ai_Run 113 37 [.ref a, l1, l2, l3, l4] (.ref a :: st) ws := R_aload_n hc_113 dX4_suspectByPages_36 rfl rfl
theorem r_113_37 (l0 l1 l2 l3 : Value) (a : Int32) (st : List Value) (ws : ai_W) : ai_Run 113 37 [l0, l1, l2, l3, .int a] st ws = ai_Run 113 39 [l0, l1, l2, l3, .int a] (.int a :: st) ws := R_iload hc_113 dX4_suspectByPages_37 rfl rfl
theorem r_113_39 (l0 l2 l3 l4 : Value) (a : Int32) (st : List Value) (ws : ai_W) : ai_Run 113 39 [l0, .int a, l2, l3, l4] st ws = ai_Run 113 40 [l0, .int a, l2, l3, l4] (.int a :: st) ws := R_iload_n hc_113 dX4_suspectByPages_39 rfl rfl
theorem r_113_40 (l0 l1 l3 l4 : Value) (a : Int32) (st : List Value) (ws : ai_W) : ai_Run 113 40 [l0, l1, .int a, l3, l4] st ws = ai_Run 113 41 [l0, l1, .int a, l3, l4] (.int a :: st) ws := R_iload_n hc_113 dX4_suspectByPages_40 rfl rfl
theorem r_113_41 (ls : List Value) (r : Nat) (b0 : Int32) (b1 : Int32) (b2 : Int32) (ws : ai_W) : ai_Run 113 41 ls [.int b2, .int b1, .int b0, .ref r] ws = (ai_Call 85 [.ref r, .int b0, .int b1, .int b2] ws).bind fun q => ai_Run 113 44 ls (q.1.toList ++ []) q.2 := R_callV hc_113 dX4_suspectByPages_41 hv_113 (w := 220) rfl (ai_lt3 hf_85 hf_113 hL_85 ho_85 ho_113 rfl) hk_85 (by rw [hn_85]; rfl) rfl (Nat.le_of_ble_eq_true rfl) rfl
theorem r_113_44 (ls st : List Value) (a : Int32) (ws : ai_W) : ai_Run 113 44 ls (.int a :: st) ws = if a = 0 then ai_Run 113 50 ls st ws else ai_Run 113 47 ls st ws := R_if_eq hc_113 dX4_suspectByPages_44 rfl rfl
theorem r_113_47 (l0 l1 l2 l3 : Value) (a : Int32) (st : List Value) (ws : ai_W) : ai_Run 113 47 [l0, l1, l2, l3, .int a] st ws = ai_Run 113 49 [l0, l1, l2, l3, .int a] (.int a :: st) ws := R_iload hc_113 dX4_suspectByPages_47 rfl rfl
theorem r_113_49 (ls : List Value) (x : Int32) (ws : ai_W) : ai_Run 113 49 ls [.int x] ws = some (some (.int x), ws) := R_iret hc_113 dX4_suspectByPages_49 ht_113
theorem r_113_50 (l0 l1 l2 l3 : Value) (a : Int32) (st : List Value) (ws : ai_W) : ai_Run 113 50 [l0, l1, l2, l3, .int a] st ws = ai_Run 113 53 [l0, l1, l2, l3, .int (a + 1)] st ws := R_iinc hc_113 dX4_suspectByPages_50 rfl (by decide) rfl rfl
theorem r_113_53 (ls st : List Value) (ws : ai_W) : ai_Run 113 53 ls st ws = ai_Run 113 10 ls st ws := R_goto hc_113 dX4_suspectByPages_53 rfl
theorem r_113_56 (l0 l1 l2 l4 : Value) (a : Int32) (st : List Value) (ws : ai_W) : ai_Run 113 56 [l0, l1, l2, .int a, l4] st ws = ai_Run 113 59 [l0, l1, l2, .int (a + (-1)), l4] st ws := R_iinc hc_113 dX4_suspectByPages_56 rfl (by decide) rfl rfl
theorem r_113_59 (ls st : List Value) (ws : ai_W) : ai_Run 113 59 ls st ws = ai_Run 113 3 ls st ws := R_goto hc_113 dX4_suspectByPages_59 rfl
theorem r_113_62 (ls st : List Value) (ws : ai_W) : ai_Run 113 62 ls st ws = ai_Run 113 64 ls (.int (-4) :: st) ws := R_bipush hc_113 dX4_suspectByPages_62 (by decide) rfl
theorem r_113_64 (ls : List Value) (x : Int32) (ws : ai_W) : ai_Run 113 64 ls [.int x] ws = some (some (.int x), ws) := R_iret hc_113 dX4_suspectByPages_64 ht_113
theorem dX4_suspectsAgree_0 : decode cX4_suspectsAgree 0 = .ok (.iconst 0, 1) := by decide +kernel
theorem dX4_suspectsAgree_1 : decode cX4_suspectsAgree 1 = .ok (.istore_n 1, 1) := by decide +kernel
theorem dX4_suspectsAgree_2 : decode cX4_suspectsAgree 2 = .ok (.iload_n 1, 1) := by decide +kernel
theorem dX4_suspectsAgree_3 : decode cX4_suspectsAgree 3 = .ok (.aload_n 0, 1) := by decide +kernel
theorem dX4_suspectsAgree_4 : decode cX4_suspectsAgree 4 = .ok (.getfield 9, 3) := by decide +kernel
theorem dX4_suspectsAgree_7 : decode cX4_suspectsAgree 7 = .ok (.getfield 30, 3) := by decide +kernel
theorem dX4_suspectsAgree_10 : decode cX4_suspectsAgree 10 = .ok (.if_icmp .ge 46, 3) := by decide +kernel
theorem dX4_suspectsAgree_13 : decode cX4_suspectsAgree 13 = .ok (.iconst 0, 1) := by decide +kernel
theorem dX4_suspectsAgree_14 : decode cX4_suspectsAgree 14 = .ok (.istore_n 2, 1) := by decide +kernel
theorem dX4_suspectsAgree_15 : decode cX4_suspectsAgree 15 = .ok (.iload_n 2, 1) := by decide +kernel
theorem dX4_suspectsAgree_16 : decode cX4_suspectsAgree 16 = .ok (.aload_n 0, 1) := by decide +kernel
theorem dX4_suspectsAgree_17 : decode cX4_suspectsAgree 17 = .ok (.getfield 9, 3) := by decide +kernel
theorem dX4_suspectsAgree_20 : decode cX4_suspectsAgree 20 = .ok (.iload_n 1, 1) := by decide +kernel
theorem dX4_suspectsAgree_21 : decode cX4_suspectsAgree 21 = .ok (.invokevirtual 67, 3) := by decide +kernel
theorem dX4_suspectsAgree_24 : decode cX4_suspectsAgree 24 = .ok (.if_icmp .ge 26, 3) := by decide +kernel
theorem dX4_suspectsAgree_27 : decode cX4_suspectsAgree 27 = .ok (.aload_n 0, 1) := by decide +kernel
theorem dX4_suspectsAgree_28 : decode cX4_suspectsAgree 28 = .ok (.iload_n 1, 1) := by decide +kernel
theorem dX4_suspectsAgree_29 : decode cX4_suspectsAgree 29 = .ok (.iload_n 2, 1) := by decide +kernel
theorem dX4_suspectsAgree_30 : decode cX4_suspectsAgree 30 = .ok (.invokevirtual 70, 3) := by decide +kernel
theorem dX4_suspectsAgree_33 : decode cX4_suspectsAgree 33 = .ok (.aload_n 0, 1) := by decide +kernel
theorem dX4_suspectsAgree_34 : decode cX4_suspectsAgree 34 = .ok (.iload_n 1, 1) := by decide +kernel
theorem dX4_suspectsAgree_35 : decode cX4_suspectsAgree 35 = .ok (.iload_n 2, 1) := by decide +kernel
theorem dX4_suspectsAgree_36 : decode cX4_suspectsAgree 36 = .ok (.invokevirtual 73, 3) := by decide +kernel
theorem dX4_suspectsAgree_39 : decode cX4_suspectsAgree 39 = .ok (.if_icmp .eq 5, 3) := by decide +kernel
theorem dX4_suspectsAgree_42 : decode cX4_suspectsAgree 42 = .ok (.iconst 0, 1) := by decide +kernel
theorem dX4_suspectsAgree_43 : decode cX4_suspectsAgree 43 = .ok (.ireturn, 1) := by decide +kernel
theorem dX4_suspectsAgree_44 : decode cX4_suspectsAgree 44 = .ok (.iinc 2 1, 3) := by decide +kernel
theorem dX4_suspectsAgree_47 : decode cX4_suspectsAgree 47 = .ok (.goto (-32), 3) := by decide +kernel
theorem dX4_suspectsAgree_50 : decode cX4_suspectsAgree 50 = .ok (.iinc 1 1, 3) := by decide +kernel
theorem dX4_suspectsAgree_53 : decode cX4_suspectsAgree 53 = .ok (.goto (-51), 3) := by decide +kernel
theorem dX4_suspectsAgree_56 : decode cX4_suspectsAgree 56 = .ok (.iconst 1, 1) := by decide +kernel
theorem dX4_suspectsAgree_57 : decode cX4_suspectsAgree 57 = .ok (.ireturn, 1) := by decide +kernel
theorem e_114 (r : Nat)  (ws : ai_W) : ai_Call 114 [.ref r] ws = if ai_isob ws r 4 = true then ai_Run 114 0 [.ref r, .null, .null] [] ws else none := R_entV hk_114 ⟨⟨rfl, rfl⟩, Nat.le_of_ble_eq_true rfl⟩ rfl
theorem r_114_0 (ls st : List Value) (ws : ai_W) : ai_Run 114 0 ls st ws = ai_Run 114 1 ls (.int 0 :: st) ws := R_iconst hc_114 dX4_suspectsAgree_0 (by decide) rfl
theorem r_114_1 (l0 l1 l2 : Value) (a : Int32) (st : List Value) (ws : ai_W) : ai_Run 114 1 [l0, l1, l2] (.int a :: st) ws = ai_Run 114 2 [l0, .int a, l2] st ws := R_istore_n hc_114 dX4_suspectsAgree_1 (Nat.le_of_ble_eq_true rfl) rfl rfl
theorem r_114_2 (l0 l2 : Value) (a : Int32) (st : List Value) (ws : ai_W) : ai_Run 114 2 [l0, .int a, l2] st ws = ai_Run 114 3 [l0, .int a, l2] (.int a :: st) ws := R_iload_n hc_114 dX4_suspectsAgree_2 rfl rfl
theorem r_114_3 (l1 l2 : Value) (a : Nat) (st : List Value) (ws : ai_W) : ai_Run 114 3 [.ref a, l1, l2] st ws = ai_Run 114 4 [.ref a, l1, l2] (.ref a :: st) ws := R_aload_n hc_114 dX4_suspectsAgree_3 rfl rfl
theorem r_114_4 (ls st : List Value) (a : Nat) (ws : ai_W) : ai_Run 114 4 ls (.ref a :: st) ws = (ai_fget ws a 4 0).bind fun q => ai_Run 114 7 ls (q :: st) ws := R_getf hc_114 dX4_suspectsAgree_4 hv_114 (w := 522) rfl rfl
theorem r_114_7 (ls st : List Value) (a : Nat) (ws : ai_W) : ai_Run 114 7 ls (.ref a :: st) ws = (ai_fget ws a 0 0).bind fun q => ai_Run 114 10 ls (q :: st) ws := R_getf hc_114 dX4_suspectsAgree_7 hv_114 (w := 465) rfl rfl
theorem r_114_10 (ls st : List Value) (a b : Int32) (ws : ai_W) : ai_Run 114 10 ls (.int b :: .int a :: st) ws = if a < b then ai_Run 114 13 ls st ws else ai_Run 114 56 ls st ws := R_cmp_ge hc_114 dX4_suspectsAgree_10 rfl rfl
theorem r_114_13 (ls st : List Value) (ws : ai_W) : ai_Run 114 13 ls st ws = ai_Run 114 14 ls (.int 0 :: st) ws := R_iconst hc_114 dX4_suspectsAgree_13 (by decide) rfl
theorem r_114_14 (l0 l1 l2 : Value) (a : Int32) (st : List Value) (ws : ai_W) : ai_Run 114 14 [l0, l1, l2] (.int a :: st) ws = ai_Run 114 15 [l0, l1, .int a] st ws := R_istore_n hc_114 dX4_suspectsAgree_14 (Nat.le_of_ble_eq_true rfl) rfl rfl
theorem r_114_15 (l0 l1 : Value) (a : Int32) (st : List Value) (ws : ai_W) : ai_Run 114 15 [l0, l1, .int a] st ws = ai_Run 114 16 [l0, l1, .int a] (.int a :: st) ws := R_iload_n hc_114 dX4_suspectsAgree_15 rfl rfl
theorem r_114_16 (l1 l2 : Value) (a : Nat) (st : List Value) (ws : ai_W) : ai_Run 114 16 [.ref a, l1, l2] st ws = ai_Run 114 17 [.ref a, l1, l2] (.ref a :: st) ws := R_aload_n hc_114 dX4_suspectsAgree_16 rfl rfl
theorem r_114_17 (ls st : List Value) (a : Nat) (ws : ai_W) : ai_Run 114 17 ls (.ref a :: st) ws = (ai_fget ws a 4 0).bind fun q => ai_Run 114 20 ls (q :: st) ws := R_getf hc_114 dX4_suspectsAgree_17 hv_114 (w := 522) rfl rfl
theorem r_114_20 (l0 l2 : Value) (a : Int32) (st : List Value) (ws : ai_W) : ai_Run 114 20 [l0, .int a, l2] st ws = ai_Run 114 21 [l0, .int a, l2] (.int a :: st) ws := R_iload_n hc_114 dX4_suspectsAgree_20 rfl rfl
theorem r_114_21 (ls : List Value) (r : Nat) (b0 : Int32) (s0 : Value) (ws : ai_W) : ai_Run 114 21 ls [.int b0, .ref r, s0] ws = (ai_Call 13 [.ref r, .int b0] ws).bind fun q => ai_Run 114 24 ls (q.1.toList ++ [s0]) q.2 := R_callV hc_114 dX4_suspectsAgree_21 hv_114 (w := 1254) rfl (ai_lt3 hf_13 hf_114 hL_13 ho_13 ho_114 rfl) hk_13 (by rw [hn_13]; rfl) rfl (Nat.le_of_ble_eq_true rfl) rfl
theorem r_114_24 (ls st : List Value) (a b : Int32) (ws : ai_W) : ai_Run 114 24 ls (.int b :: .int a :: st) ws = if a < b then ai_Run 114 27 ls st ws else ai_Run 114 50 ls st ws := R_cmp_ge hc_114 dX4_suspectsAgree_24 rfl rfl
theorem r_114_27 (l1 l2 : Value) (a : Nat) (st : List Value) (ws : ai_W) : ai_Run 114 27 [.ref a, l1, l2] st ws = ai_Run 114 28 [.ref a, l1, l2] (.ref a :: st) ws := R_aload_n hc_114 dX4_suspectsAgree_27 rfl rfl
theorem r_114_28 (l0 l2 : Value) (a : Int32) (st : List Value) (ws : ai_W) : ai_Run 114 28 [l0, .int a, l2] st ws = ai_Run 114 29 [l0, .int a, l2] (.int a :: st) ws := R_iload_n hc_114 dX4_suspectsAgree_28 rfl rfl
theorem r_114_29 (l0 l1 : Value) (a : Int32) (st : List Value) (ws : ai_W) : ai_Run 114 29 [l0, l1, .int a] st ws = ai_Run 114 30 [l0, l1, .int a] (.int a :: st) ws := R_iload_n hc_114 dX4_suspectsAgree_29 rfl rfl
theorem r_114_30 (ls : List Value) (r : Nat) (b0 : Int32) (b1 : Int32) (ws : ai_W) : ai_Run 114 30 ls [.int b1, .int b0, .ref r] ws = (ai_Call 112 [.ref r, .int b0, .int b1] ws).bind fun q => ai_Run 114 33 ls (q.1.toList ++ []) q.2 := R_callV hc_114 dX4_suspectsAgree_30 hv_114 (w := 1255) rfl (ai_lt3 hf_112 hf_114 hL_112 ho_112 ho_114 rfl) hk_112 (by rw [hn_112]; rfl) rfl (Nat.le_of_ble_eq_true rfl) rfl
theorem r_114_33 (l1 l2 : Value) (a : Nat) (st : List Value) (ws : ai_W) : ai_Run 114 33 [.ref a, l1, l2] st ws = ai_Run 114 34 [.ref a, l1, l2] (.ref a :: st) ws := R_aload_n hc_114 dX4_suspectsAgree_33 rfl rfl
theorem r_114_34 (l0 l2 : Value) (a : Int32) (st : List Value) (ws : ai_W) : ai_Run 114 34 [l0, .int a, l2] st ws = ai_Run 114 35 [l0, .int a, l2] (.int a :: st) ws := R_iload_n hc_114 dX4_suspectsAgree_34 rfl rfl
theorem r_114_35 (l0 l1 : Value) (a : Int32) (st : List Value) (ws : ai_W) : ai_Run 114 35 [l0, l1, .int a] st ws = ai_Run 114 36 [l0, l1, .int a] (.int a :: st) ws := R_iload_n hc_114 dX4_suspectsAgree_35 rfl rfl
theorem r_114_36 (ls : List Value) (r : Nat) (b0 : Int32) (b1 : Int32) (s0 : Value) (ws : ai_W) : ai_Run 114 36 ls [.int b1, .int b0, .ref r, s0] ws = (ai_Call 113 [.ref r, .int b0, .int b1] ws).bind fun q => ai_Run 114 39 ls (q.1.toList ++ [s0]) q.2 := R_callV hc_114 dX4_suspectsAgree_36 hv_114 (w := 1256) rfl (ai_lt3 hf_113 hf_114 hL_113 ho_113 ho_114 rfl) hk_113 (by rw [hn_113]; rfl) rfl (Nat.le_of_ble_eq_true rfl) rfl
theorem r_114_39 (ls st : List Value) (a b : Int32) (ws : ai_W) : ai_Run 114 39 ls (.int b :: .int a :: st) ws = if a = b then ai_Run 114 44 ls st ws else ai_Run 114 42 ls st ws := R_cmp_eq hc_114 dX4_suspectsAgree_39 rfl rfl
theorem r_114_42 (ls st : List Value) (ws : ai_W) : ai_Run 114 42 ls st ws = ai_Run 114 43 ls (.int 0 :: st) ws := R_iconst hc_114 dX4_suspectsAgree_42 (by decide) rfl
theorem r_114_43 (ls : List Value) (x : Int32) (ws : ai_W) : ai_Run 114 43 ls [.int x] ws = if ai_pb x = true then some (some (.int x), ws) else none := R_zret hc_114 dX4_suspectsAgree_43 ht_114
theorem r_114_44 (l0 l1 : Value) (a : Int32) (st : List Value) (ws : ai_W) : ai_Run 114 44 [l0, l1, .int a] st ws = ai_Run 114 47 [l0, l1, .int (a + 1)] st ws := R_iinc hc_114 dX4_suspectsAgree_44 rfl (by decide) rfl rfl
theorem r_114_47 (ls st : List Value) (ws : ai_W) : ai_Run 114 47 ls st ws = ai_Run 114 15 ls st ws := R_goto hc_114 dX4_suspectsAgree_47 rfl
theorem r_114_50 (l0 l2 : Value) (a : Int32) (st : List Value) (ws : ai_W) : ai_Run 114 50 [l0, .int a, l2] st ws = ai_Run 114 53 [l0, .int (a + 1), l2] st ws := R_iinc hc_114 dX4_suspectsAgree_50 rfl (by decide) rfl rfl
theorem r_114_53 (ls st : List Value) (ws : ai_W) : ai_Run 114 53 ls st ws = ai_Run 114 2 ls st ws := R_goto hc_114 dX4_suspectsAgree_53 rfl
theorem r_114_56 (ls st : List Value) (ws : ai_W) : ai_Run 114 56 ls st ws = ai_Run 114 57 ls (.int 1 :: st) ws := R_iconst hc_114 dX4_suspectsAgree_56 (by decide) rfl
theorem r_114_57 (ls : List Value) (x : Int32) (ws : ai_W) : ai_Run 114 57 ls [.int x] ws = if ai_pb x = true then some (some (.int x), ws) else none := R_zret hc_114 dX4_suspectsAgree_57 ht_114
theorem dX4_turnsAreInOrder_0 : decode cX4_turnsAreInOrder 0 = .ok (.iconst 0, 1) := by decide +kernel
theorem dX4_turnsAreInOrder_1 : decode cX4_turnsAreInOrder 1 = .ok (.istore_n 1, 1) := by decide +kernel
theorem dX4_turnsAreInOrder_2 : decode cX4_turnsAreInOrder 2 = .ok (.iload_n 1, 1) := by decide +kernel
theorem dX4_turnsAreInOrder_3 : decode cX4_turnsAreInOrder 3 = .ok (.aload_n 0, 1) := by decide +kernel
theorem dX4_turnsAreInOrder_4 : decode cX4_turnsAreInOrder 4 = .ok (.getfield 9, 3) := by decide +kernel
theorem dX4_turnsAreInOrder_7 : decode cX4_turnsAreInOrder 7 = .ok (.getfield 30, 3) := by decide +kernel
theorem dX4_turnsAreInOrder_10 : decode cX4_turnsAreInOrder 10 = .ok (.if_icmp .ge 56, 3) := by decide +kernel
theorem dX4_turnsAreInOrder_13 : decode cX4_turnsAreInOrder 13 = .ok (.iconst 0, 1) := by decide +kernel
theorem dX4_turnsAreInOrder_14 : decode cX4_turnsAreInOrder 14 = .ok (.istore_n 2, 1) := by decide +kernel
theorem dX4_turnsAreInOrder_15 : decode cX4_turnsAreInOrder 15 = .ok (.iconst 0, 1) := by decide +kernel
theorem dX4_turnsAreInOrder_16 : decode cX4_turnsAreInOrder 16 = .ok (.istore_n 3, 1) := by decide +kernel
theorem dX4_turnsAreInOrder_17 : decode cX4_turnsAreInOrder 17 = .ok (.iload_n 3, 1) := by decide +kernel
theorem dX4_turnsAreInOrder_18 : decode cX4_turnsAreInOrder 18 = .ok (.aload_n 0, 1) := by decide +kernel
theorem dX4_turnsAreInOrder_19 : decode cX4_turnsAreInOrder 19 = .ok (.getfield 9, 3) := by decide +kernel
theorem dX4_turnsAreInOrder_22 : decode cX4_turnsAreInOrder 22 = .ok (.getfield 15, 3) := by decide +kernel
theorem dX4_turnsAreInOrder_25 : decode cX4_turnsAreInOrder 25 = .ok (.iload_n 1, 1) := by decide +kernel
theorem dX4_turnsAreInOrder_26 : decode cX4_turnsAreInOrder 26 = .ok (.invokevirtual 21, 3) := by decide +kernel
theorem dX4_turnsAreInOrder_29 : decode cX4_turnsAreInOrder 29 = .ok (.if_icmp .ge 31, 3) := by decide +kernel
theorem dX4_turnsAreInOrder_32 : decode cX4_turnsAreInOrder 32 = .ok (.aload_n 0, 1) := by decide +kernel
theorem dX4_turnsAreInOrder_33 : decode cX4_turnsAreInOrder 33 = .ok (.getfield 9, 3) := by decide +kernel
theorem dX4_turnsAreInOrder_36 : decode cX4_turnsAreInOrder 36 = .ok (.iload_n 1, 1) := by decide +kernel
theorem dX4_turnsAreInOrder_37 : decode cX4_turnsAreInOrder 37 = .ok (.iload_n 3, 1) := by decide +kernel
theorem dX4_turnsAreInOrder_38 : decode cX4_turnsAreInOrder 38 = .ok (.invokevirtual 42, 3) := by decide +kernel
theorem dX4_turnsAreInOrder_41 : decode cX4_turnsAreInOrder 41 = .ok (.istore 4, 2) := by decide +kernel
theorem dX4_turnsAreInOrder_43 : decode cX4_turnsAreInOrder 43 = .ok (.iload 4, 2) := by decide +kernel
theorem dX4_turnsAreInOrder_45 : decode cX4_turnsAreInOrder 45 = .ok (.iload_n 2, 1) := by decide +kernel
theorem dX4_turnsAreInOrder_46 : decode cX4_turnsAreInOrder 46 = .ok (.if_icmp .gt 5, 3) := by decide +kernel
theorem dX4_turnsAreInOrder_49 : decode cX4_turnsAreInOrder 49 = .ok (.iconst 0, 1) := by decide +kernel
theorem dX4_turnsAreInOrder_50 : decode cX4_turnsAreInOrder 50 = .ok (.ireturn, 1) := by decide +kernel
theorem dX4_turnsAreInOrder_51 : decode cX4_turnsAreInOrder 51 = .ok (.iload 4, 2) := by decide +kernel
theorem dX4_turnsAreInOrder_53 : decode cX4_turnsAreInOrder 53 = .ok (.istore_n 2, 1) := by decide +kernel
theorem dX4_turnsAreInOrder_54 : decode cX4_turnsAreInOrder 54 = .ok (.iinc 3 1, 3) := by decide +kernel
theorem dX4_turnsAreInOrder_57 : decode cX4_turnsAreInOrder 57 = .ok (.goto (-40), 3) := by decide +kernel
theorem dX4_turnsAreInOrder_60 : decode cX4_turnsAreInOrder 60 = .ok (.iinc 1 1, 3) := by decide +kernel
theorem dX4_turnsAreInOrder_63 : decode cX4_turnsAreInOrder 63 = .ok (.goto (-61), 3) := by decide +kernel
theorem dX4_turnsAreInOrder_66 : decode cX4_turnsAreInOrder 66 = .ok (.iconst 1, 1) := by decide +kernel
theorem dX4_turnsAreInOrder_67 : decode cX4_turnsAreInOrder 67 = .ok (.ireturn, 1) := by decide +kernel
theorem e_115 (r : Nat)  (ws : ai_W) : ai_Call 115 [.ref r] ws = if ai_isob ws r 4 = true then ai_Run 115 0 [.ref r, .null, .null, .null, .null] [] ws else none := R_entV hk_115 ⟨⟨rfl, rfl⟩, Nat.le_of_ble_eq_true rfl⟩ rfl
theorem r_115_0 (ls st : List Value) (ws : ai_W) : ai_Run 115 0 ls st ws = ai_Run 115 1 ls (.int 0 :: st) ws := R_iconst hc_115 dX4_turnsAreInOrder_0 (by decide) rfl
theorem r_115_1 (l0 l1 l2 l3 l4 : Value) (a : Int32) (st : List Value) (ws : ai_W) : ai_Run 115 1 [l0, l1, l2, l3, l4] (.int a :: st) ws = ai_Run 115 2 [l0, .int a, l2, l3, l4] st ws := R_istore_n hc_115 dX4_turnsAreInOrder_1 (Nat.le_of_ble_eq_true rfl) rfl rfl
theorem r_115_2 (l0 l2 l3 l4 : Value) (a : Int32) (st : List Value) (ws : ai_W) : ai_Run 115 2 [l0, .int a, l2, l3, l4] st ws = ai_Run 115 3 [l0, .int a, l2, l3, l4] (.int a :: st) ws := R_iload_n hc_115 dX4_turnsAreInOrder_2 rfl rfl
theorem r_115_3 (l1 l2 l3 l4 : Value) (a : Nat) (st : List Value) (ws : ai_W) : ai_Run 115 3 [.ref a, l1, l2, l3, l4] st ws = ai_Run 115 4 [.ref a, l1, l2, l3, l4] (.ref a :: st) ws := R_aload_n hc_115 dX4_turnsAreInOrder_3 rfl rfl
theorem r_115_4 (ls st : List Value) (a : Nat) (ws : ai_W) : ai_Run 115 4 ls (.ref a :: st) ws = (ai_fget ws a 4 0).bind fun q => ai_Run 115 7 ls (q :: st) ws := R_getf hc_115 dX4_turnsAreInOrder_4 hv_115 (w := 522) rfl rfl
theorem r_115_7 (ls st : List Value) (a : Nat) (ws : ai_W) : ai_Run 115 7 ls (.ref a :: st) ws = (ai_fget ws a 0 0).bind fun q => ai_Run 115 10 ls (q :: st) ws := R_getf hc_115 dX4_turnsAreInOrder_7 hv_115 (w := 465) rfl rfl
theorem r_115_10 (ls st : List Value) (a b : Int32) (ws : ai_W) : ai_Run 115 10 ls (.int b :: .int a :: st) ws = if a < b then ai_Run 115 13 ls st ws else ai_Run 115 66 ls st ws := R_cmp_ge hc_115 dX4_turnsAreInOrder_10 rfl rfl
theorem r_115_13 (ls st : List Value) (ws : ai_W) : ai_Run 115 13 ls st ws = ai_Run 115 14 ls (.int 0 :: st) ws := R_iconst hc_115 dX4_turnsAreInOrder_13 (by decide) rfl
theorem r_115_14 (l0 l1 l2 l3 l4 : Value) (a : Int32) (st : List Value) (ws : ai_W) : ai_Run 115 14 [l0, l1, l2, l3, l4] (.int a :: st) ws = ai_Run 115 15 [l0, l1, .int a, l3, l4] st ws := R_istore_n hc_115 dX4_turnsAreInOrder_14 (Nat.le_of_ble_eq_true rfl) rfl rfl
theorem r_115_15 (ls st : List Value) (ws : ai_W) : ai_Run 115 15 ls st ws = ai_Run 115 16 ls (.int 0 :: st) ws := R_iconst hc_115 dX4_turnsAreInOrder_15 (by decide) rfl
theorem r_115_16 (l0 l1 l2 l3 l4 : Value) (a : Int32) (st : List Value) (ws : ai_W) : ai_Run 115 16 [l0, l1, l2, l3, l4] (.int a :: st) ws = ai_Run 115 17 [l0, l1, l2, .int a, l4] st ws := R_istore_n hc_115 dX4_turnsAreInOrder_16 (Nat.le_of_ble_eq_true rfl) rfl rfl
theorem r_115_17 (l0 l1 l2 l4 : Value) (a : Int32) (st : List Value) (ws : ai_W) : ai_Run 115 17 [l0, l1, l2, .int a, l4] st ws = ai_Run 115 18 [l0, l1, l2, .int a, l4] (.int a :: st) ws := R_iload_n hc_115 dX4_turnsAreInOrder_17 rfl rfl
theorem r_115_18 (l1 l2 l3 l4 : Value) (a : Nat) (st : List Value) (ws : ai_W) : ai_Run 115 18 [.ref a, l1, l2, l3, l4] st ws = ai_Run 115 19 [.ref a, l1, l2, l3, l4] (.ref a :: st) ws := R_aload_n hc_115 dX4_turnsAreInOrder_18 rfl rfl
theorem r_115_19 (ls st : List Value) (a : Nat) (ws : ai_W) : ai_Run 115 19 ls (.ref a :: st) ws = (ai_fget ws a 4 0).bind fun q => ai_Run 115 22 ls (q :: st) ws := R_getf hc_115 dX4_turnsAreInOrder_19 hv_115 (w := 522) rfl rfl
theorem r_115_22 (ls st : List Value) (a : Nat) (ws : ai_W) : ai_Run 115 22 ls (.ref a :: st) ws = (ai_fget ws a 0 3).bind fun q => ai_Run 115 25 ls (q :: st) ws := R_getf hc_115 dX4_turnsAreInOrder_22 hv_115 (w := 476) rfl rfl
theorem r_115_25 (l0 l2 l3 l4 : Value) (a : Int32) (st : List Value) (ws : ai_W) : ai_Run 115 25 [l0, .int a, l2, l3, l4] st ws = ai_Run 115 26 [l0, .int a, l2, l3, l4] (.int a :: st) ws := R_iload_n hc_115 dX4_turnsAreInOrder_25 rfl rfl
theorem r_115_26 (ls : List Value) (r : Nat) (b0 : Int32) (s0 : Value) (ws : ai_W) : ai_Run 115 26 ls [.int b0, .ref r, s0] ws = (ai_Call 12 [.ref r, .int b0] ws).bind fun q => ai_Run 115 29 ls (q.1.toList ++ [s0]) q.2 := R_callV hc_115 dX4_turnsAreInOrder_26 hv_115 (w := 233) rfl (ai_lt3 hf_12 hf_115 hL_12 ho_12 ho_115 rfl) hk_12 (by rw [hn_12]; rfl) rfl (Nat.le_of_ble_eq_true rfl) rfl
theorem r_115_29 (ls st : List Value) (a b : Int32) (ws : ai_W) : ai_Run 115 29 ls (.int b :: .int a :: st) ws = if a < b then ai_Run 115 32 ls st ws else ai_Run 115 60 ls st ws := R_cmp_ge hc_115 dX4_turnsAreInOrder_29 rfl rfl
theorem r_115_32 (l1 l2 l3 l4 : Value) (a : Nat) (st : List Value) (ws : ai_W) : ai_Run 115 32 [.ref a, l1, l2, l3, l4] st ws = ai_Run 115 33 [.ref a, l1, l2, l3, l4] (.ref a :: st) ws := R_aload_n hc_115 dX4_turnsAreInOrder_32 rfl rfl
theorem r_115_33 (ls st : List Value) (a : Nat) (ws : ai_W) : ai_Run 115 33 ls (.ref a :: st) ws = (ai_fget ws a 4 0).bind fun q => ai_Run 115 36 ls (q :: st) ws := R_getf hc_115 dX4_turnsAreInOrder_33 hv_115 (w := 522) rfl rfl
theorem r_115_36 (l0 l2 l3 l4 : Value) (a : Int32) (st : List Value) (ws : ai_W) : ai_Run 115 36 [l0, .int a, l2, l3, l4] st ws = ai_Run 115 37 [l0, .int a, l2, l3, l4] (.int a :: st) ws := R_iload_n hc_115 dX4_turnsAreInOrder_36 rfl rfl
theorem r_115_37 (l0 l1 l2 l4 : Value) (a : Int32) (st : List Value) (ws : ai_W) : ai_Run 115 37 [l0, l1, l2, .int a, l4] st ws = ai_Run 115 38 [l0, l1, l2, .int a, l4] (.int a :: st) ws := R_iload_n hc_115 dX4_turnsAreInOrder_37 rfl rfl
theorem r_115_38 (ls : List Value) (r : Nat) (b0 : Int32) (b1 : Int32) (ws : ai_W) : ai_Run 115 38 ls [.int b1, .int b0, .ref r] ws = (ai_Call 33 [.ref r, .int b0, .int b1] ws).bind fun q => ai_Run 115 41 ls (q.1.toList ++ []) q.2 := R_callV hc_115 dX4_turnsAreInOrder_38 hv_115 (w := 1204) rfl (ai_lt3 hf_33 hf_115 hL_33 ho_33 ho_115 rfl) hk_33 (by rw [hn_33]; rfl) rfl (Nat.le_of_ble_eq_true rfl) rfl
theorem r_115_41 (l0 l1 l2 l3 l4 : Value) (a : Int32) (st : List Value) (ws : ai_W) : ai_Run 115 41 [l0, l1, l2, l3, l4] (.int a :: st) ws = ai_Run 115 43 [l0, l1, l2, l3, .int a] st ws := R_istore hc_115 dX4_turnsAreInOrder_41 (Nat.le_of_ble_eq_true rfl) rfl rfl
theorem r_115_43 (l0 l1 l2 l3 : Value) (a : Int32) (st : List Value) (ws : ai_W) : ai_Run 115 43 [l0, l1, l2, l3, .int a] st ws = ai_Run 115 45 [l0, l1, l2, l3, .int a] (.int a :: st) ws := R_iload hc_115 dX4_turnsAreInOrder_43 rfl rfl
theorem r_115_45 (l0 l1 l3 l4 : Value) (a : Int32) (st : List Value) (ws : ai_W) : ai_Run 115 45 [l0, l1, .int a, l3, l4] st ws = ai_Run 115 46 [l0, l1, .int a, l3, l4] (.int a :: st) ws := R_iload_n hc_115 dX4_turnsAreInOrder_45 rfl rfl
theorem r_115_46 (ls st : List Value) (a b : Int32) (ws : ai_W) : ai_Run 115 46 ls (.int b :: .int a :: st) ws = if b < a then ai_Run 115 51 ls st ws else ai_Run 115 49 ls st ws := R_cmp_gt hc_115 dX4_turnsAreInOrder_46 rfl rfl
theorem r_115_49 (ls st : List Value) (ws : ai_W) : ai_Run 115 49 ls st ws = ai_Run 115 50 ls (.int 0 :: st) ws := R_iconst hc_115 dX4_turnsAreInOrder_49 (by decide) rfl
theorem r_115_50 (ls : List Value) (x : Int32) (ws : ai_W) : ai_Run 115 50 ls [.int x] ws = if ai_pb x = true then some (some (.int x), ws) else none := R_zret hc_115 dX4_turnsAreInOrder_50 ht_115
theorem r_115_51 (l0 l1 l2 l3 : Value) (a : Int32) (st : List Value) (ws : ai_W) : ai_Run 115 51 [l0, l1, l2, l3, .int a] st ws = ai_Run 115 53 [l0, l1, l2, l3, .int a] (.int a :: st) ws := R_iload hc_115 dX4_turnsAreInOrder_51 rfl rfl
theorem r_115_53 (l0 l1 l2 l3 l4 : Value) (a : Int32) (st : List Value) (ws : ai_W) : ai_Run 115 53 [l0, l1, l2, l3, l4] (.int a :: st) ws = ai_Run 115 54 [l0, l1, .int a, l3, l4] st ws := R_istore_n hc_115 dX4_turnsAreInOrder_53 (Nat.le_of_ble_eq_true rfl) rfl rfl
theorem r_115_54 (l0 l1 l2 l4 : Value) (a : Int32) (st : List Value) (ws : ai_W) : ai_Run 115 54 [l0, l1, l2, .int a, l4] st ws = ai_Run 115 57 [l0, l1, l2, .int (a + 1), l4] st ws := R_iinc hc_115 dX4_turnsAreInOrder_54 rfl (by decide) rfl rfl
theorem r_115_57 (ls st : List Value) (ws : ai_W) : ai_Run 115 57 ls st ws = ai_Run 115 17 ls st ws := R_goto hc_115 dX4_turnsAreInOrder_57 rfl
theorem r_115_60 (l0 l2 l3 l4 : Value) (a : Int32) (st : List Value) (ws : ai_W) : ai_Run 115 60 [l0, .int a, l2, l3, l4] st ws = ai_Run 115 63 [l0, .int (a + 1), l2, l3, l4] st ws := R_iinc hc_115 dX4_turnsAreInOrder_60 rfl (by decide) rfl rfl
theorem r_115_63 (ls st : List Value) (ws : ai_W) : ai_Run 115 63 ls st ws = ai_Run 115 2 ls st ws := R_goto hc_115 dX4_turnsAreInOrder_63 rfl
theorem r_115_66 (ls st : List Value) (ws : ai_W) : ai_Run 115 66 ls st ws = ai_Run 115 67 ls (.int 1 :: st) ws := R_iconst hc_115 dX4_turnsAreInOrder_66 (by decide) rfl
theorem r_115_67 (ls : List Value) (x : Int32) (ws : ai_W) : ai_Run 115 67 ls [.int x] ws = if ai_pb x = true then some (some (.int x), ws) else none := R_zret hc_115 dX4_turnsAreInOrder_67 ht_115
theorem dX2_key_0 : decode cX2_key 0 = .ok (.iload_n 1, 1) := by decide +kernel
theorem dX2_key_1 : decode cX2_key 1 = .ok (.tableswitch 49 0 2 #[27, 36, 43], 27) := by decide +kernel
theorem dX2_key_28 : decode cX2_key 28 = .ok (.aload_n 0, 1) := by decide +kernel
theorem dX2_key_29 : decode cX2_key 29 = .ok (.getfield 20, 3) := by decide +kernel
theorem dX2_key_32 : decode cX2_key 32 = .ok (.iload_n 2, 1) := by decide +kernel
theorem dX2_key_33 : decode cX2_key 33 = .ok (.invokevirtual 24, 3) := by decide +kernel
theorem dX2_key_36 : decode cX2_key 36 = .ok (.ireturn, 1) := by decide +kernel
theorem dX2_key_37 : decode cX2_key 37 = .ok (.aload_n 0, 1) := by decide +kernel
theorem dX2_key_38 : decode cX2_key 38 = .ok (.iload_n 2, 1) := by decide +kernel
theorem dX2_key_39 : decode cX2_key 39 = .ok (.invokevirtual 82, 3) := by decide +kernel
theorem dX2_key_42 : decode cX2_key 42 = .ok (.ineg, 1) := by decide +kernel
theorem dX2_key_43 : decode cX2_key 43 = .ok (.ireturn, 1) := by decide +kernel
theorem dX2_key_44 : decode cX2_key 44 = .ok (.aload_n 0, 1) := by decide +kernel
theorem dX2_key_45 : decode cX2_key 45 = .ok (.iload_n 2, 1) := by decide +kernel
theorem dX2_key_46 : decode cX2_key 46 = .ok (.invokevirtual 85, 3) := by decide +kernel
theorem dX2_key_49 : decode cX2_key 49 = .ok (.ireturn, 1) := by decide +kernel
theorem dX2_key_50 : decode cX2_key 50 = .ok (.aload_n 0, 1) := by decide +kernel
theorem dX2_key_51 : decode cX2_key 51 = .ok (.iload_n 2, 1) := by decide +kernel
theorem dX2_key_52 : decode cX2_key 52 = .ok (.invokevirtual 88, 3) := by decide +kernel
theorem dX2_key_55 : decode cX2_key 55 = .ok (.ireturn, 1) := by decide +kernel
theorem e_120 (r : Nat) (a0 : Int32) (a1 : Int32) (ws : ai_W) : ai_Call 120 [.ref r, .int a0, .int a1] ws = if ai_isob ws r 2 = true then ai_Run 120 0 [.ref r, .int a0, .int a1] [] ws else none := R_entV hk_120 ⟨⟨rfl, rfl⟩, Nat.le_of_ble_eq_true rfl⟩ rfl
theorem r_120_0 (l0 l2 : Value) (a : Int32) (st : List Value) (ws : ai_W) : ai_Run 120 0 [l0, .int a, l2] st ws = ai_Run 120 1 [l0, .int a, l2] (.int a :: st) ws := R_iload_n hc_120 dX2_key_0 rfl rfl
theorem r_120_1 (ls st : List Value) (x : Int32) (ws : ai_W) : ai_Run 120 1 ls (.int x :: st) ws = if x = 0 then ai_Run 120 28 ls st ws else if x = 1 then ai_Run 120 37 ls st ws else if x = 2 then ai_Run 120 44 ls st ws else ai_Run 120 50 ls st ws := by
  by_cases h0 : x = 0
  · subst h0; rw [if_pos rfl]; exact R_switch hc_120 dX2_key_1 (by decide +kernel)
  rw [if_neg h0]
  by_cases h1 : x = 1
  · subst h1; rw [if_pos rfl]; exact R_switch hc_120 dX2_key_1 (by decide +kernel)
  rw [if_neg h1]
  by_cases h2 : x = 2
  · subst h2; rw [if_pos rfl]; exact R_switch hc_120 dX2_key_1 (by decide +kernel)
  rw [if_neg h2]
  have q0 : x.toInt ≠ 0 := fun e => h0 (Int32.toInt_inj.mp e)
  have q1 : x.toInt ≠ 1 := fun e => h1 (Int32.toInt_inj.mp e)
  have q2 : x.toInt ≠ 2 := fun e => h2 (Int32.toInt_inj.mp e)
  refine R_switch hc_120 dX2_key_1 (t := 50) ?_
  unfold ai_sw
  rw [if_pos (by omega)]
  rfl
theorem r_120_28 (l1 l2 : Value) (a : Nat) (st : List Value) (ws : ai_W) : ai_Run 120 28 [.ref a, l1, l2] st ws = ai_Run 120 29 [.ref a, l1, l2] (.ref a :: st) ws := R_aload_n hc_120 dX2_key_28 rfl rfl
theorem r_120_29 (ls st : List Value) (a : Nat) (ws : ai_W) : ai_Run 120 29 ls (.ref a :: st) ws = (ai_fget ws a 2 0).bind fun q => ai_Run 120 32 ls (q :: st) ws := R_getf hc_120 dX2_key_29 hv_120 (w := 561) rfl rfl
theorem r_120_32 (l0 l1 : Value) (a : Int32) (st : List Value) (ws : ai_W) : ai_Run 120 32 [l0, l1, .int a] st ws = ai_Run 120 33 [l0, l1, .int a] (.int a :: st) ws := R_iload_n hc_120 dX2_key_32 rfl rfl
theorem r_120_33 (ls : List Value) (r : Nat) (b0 : Int32) (ws : ai_W) : ai_Run 120 33 ls [.int b0, .ref r] ws = (ai_Call 13 [.ref r, .int b0] ws).bind fun q => ai_Run 120 36 ls (q.1.toList ++ []) q.2 := R_callV hc_120 dX2_key_33 hv_120 (w := 275) rfl (ai_lt3 hf_13 hf_120 hL_13 ho_13 ho_120 rfl) hk_13 (by rw [hn_13]; rfl) rfl (Nat.le_of_ble_eq_true rfl) rfl
theorem r_120_36 (ls : List Value) (x : Int32) (ws : ai_W) : ai_Run 120 36 ls [.int x] ws = some (some (.int x), ws) := R_iret hc_120 dX2_key_36 ht_120
theorem r_120_37 (l1 l2 : Value) (a : Nat) (st : List Value) (ws : ai_W) : ai_Run 120 37 [.ref a, l1, l2] st ws = ai_Run 120 38 [.ref a, l1, l2] (.ref a :: st) ws := R_aload_n hc_120 dX2_key_37 rfl rfl
theorem r_120_38 (l0 l1 : Value) (a : Int32) (st : List Value) (ws : ai_W) : ai_Run 120 38 [l0, l1, .int a] st ws = ai_Run 120 39 [l0, l1, .int a] (.int a :: st) ws := R_iload_n hc_120 dX2_key_38 rfl rfl
theorem r_120_39 (ls : List Value) (r : Nat) (b0 : Int32) (ws : ai_W) : ai_Run 120 39 ls [.int b0, .ref r] ws = (ai_Call 94 [.ref r, .int b0] ws).bind fun q => ai_Run 120 42 ls (q.1.toList ++ []) q.2 := R_callV hc_120 dX2_key_39 hv_120 (w := 276) rfl (ai_lt3 hf_94 hf_120 hL_94 ho_94 ho_120 rfl) hk_94 (by rw [hn_94]; rfl) rfl (Nat.le_of_ble_eq_true rfl) rfl
theorem r_120_42 (ls st : List Value) (a : Int32) (ws : ai_W) : ai_Run 120 42 ls (.int a :: st) ws = ai_Run 120 43 ls (.int (-a) :: st) ws := R_ineg hc_120 dX2_key_42 rfl
theorem r_120_43 (ls : List Value) (x : Int32) (ws : ai_W) : ai_Run 120 43 ls [.int x] ws = some (some (.int x), ws) := R_iret hc_120 dX2_key_43 ht_120
theorem r_120_44 (l1 l2 : Value) (a : Nat) (st : List Value) (ws : ai_W) : ai_Run 120 44 [.ref a, l1, l2] st ws = ai_Run 120 45 [.ref a, l1, l2] (.ref a :: st) ws := R_aload_n hc_120 dX2_key_44 rfl rfl
theorem r_120_45 (l0 l1 : Value) (a : Int32) (st : List Value) (ws : ai_W) : ai_Run 120 45 [l0, l1, .int a] st ws = ai_Run 120 46 [l0, l1, .int a] (.int a :: st) ws := R_iload_n hc_120 dX2_key_45 rfl rfl
theorem r_120_46 (ls : List Value) (r : Nat) (b0 : Int32) (ws : ai_W) : ai_Run 120 46 ls [.int b0, .ref r] ws = (ai_Call 95 [.ref r, .int b0] ws).bind fun q => ai_Run 120 49 ls (q.1.toList ++ []) q.2 := R_callV hc_120 dX2_key_46 hv_120 (w := 285) rfl (ai_lt3 hf_95 hf_120 hL_95 ho_95 ho_120 rfl) hk_95 (by rw [hn_95]; rfl) rfl (Nat.le_of_ble_eq_true rfl) rfl
theorem r_120_49 (ls : List Value) (x : Int32) (ws : ai_W) : ai_Run 120 49 ls [.int x] ws = some (some (.int x), ws) := R_iret hc_120 dX2_key_49 ht_120
theorem r_120_50 (l1 l2 : Value) (a : Nat) (st : List Value) (ws : ai_W) : ai_Run 120 50 [.ref a, l1, l2] st ws = ai_Run 120 51 [.ref a, l1, l2] (.ref a :: st) ws := R_aload_n hc_120 dX2_key_50 rfl rfl
theorem r_120_51 (l0 l1 : Value) (a : Int32) (st : List Value) (ws : ai_W) : ai_Run 120 51 [l0, l1, .int a] st ws = ai_Run 120 52 [l0, l1, .int a] (.int a :: st) ws := R_iload_n hc_120 dX2_key_51 rfl rfl
theorem r_120_52 (ls : List Value) (r : Nat) (b0 : Int32) (ws : ai_W) : ai_Run 120 52 ls [.int b0, .ref r] ws = (ai_Call 55 [.ref r, .int b0] ws).bind fun q => ai_Run 120 55 ls (q.1.toList ++ []) q.2 := R_callV hc_120 dX2_key_52 hv_120 (w := 293) rfl (ai_lt3 hf_55 hf_120 hL_55 ho_55 ho_120 rfl) hk_55 (by rw [hn_55]; rfl) rfl (Nat.le_of_ble_eq_true rfl) rfl
theorem r_120_55 (ls : List Value) (x : Int32) (ws : ai_W) : ai_Run 120 55 ls [.int x] ws = some (some (.int x), ws) := R_iret hc_120 dX2_key_55 ht_120
theorem dX2_aheadOf_0 : decode cX2_aheadOf 0 = .ok (.iconst 0, 1) := by decide +kernel
theorem dX2_aheadOf_1 : decode cX2_aheadOf 1 = .ok (.istore_n 3, 1) := by decide +kernel
theorem dX2_aheadOf_2 : decode cX2_aheadOf 2 = .ok (.aload_n 0, 1) := by decide +kernel
theorem dX2_aheadOf_3 : decode cX2_aheadOf 3 = .ok (.getfield 14, 3) := by decide +kernel
theorem dX2_aheadOf_6 : decode cX2_aheadOf 6 = .ok (.iload_n 1, 1) := by decide +kernel
theorem dX2_aheadOf_7 : decode cX2_aheadOf 7 = .ok (.invokevirtual 54, 3) := by decide +kernel
theorem dX2_aheadOf_10 : decode cX2_aheadOf 10 = .ok (.istore 4, 2) := by decide +kernel
theorem dX2_aheadOf_12 : decode cX2_aheadOf 12 = .ok (.iconst 0, 1) := by decide +kernel
theorem dX2_aheadOf_13 : decode cX2_aheadOf 13 = .ok (.istore 5, 2) := by decide +kernel
theorem dX2_aheadOf_15 : decode cX2_aheadOf 15 = .ok (.iload 5, 2) := by decide +kernel
theorem dX2_aheadOf_17 : decode cX2_aheadOf 17 = .ok (.iload_n 2, 1) := by decide +kernel
theorem dX2_aheadOf_18 : decode cX2_aheadOf 18 = .ok (.if_icmp .ge 43, 3) := by decide +kernel
theorem dX2_aheadOf_21 : decode cX2_aheadOf 21 = .ok (.aload_n 0, 1) := by decide +kernel
theorem dX2_aheadOf_22 : decode cX2_aheadOf 22 = .ok (.getfield 14, 3) := by decide +kernel
theorem dX2_aheadOf_25 : decode cX2_aheadOf 25 = .ok (.iload 5, 2) := by decide +kernel
theorem dX2_aheadOf_27 : decode cX2_aheadOf 27 = .ok (.invokevirtual 54, 3) := by decide +kernel
theorem dX2_aheadOf_30 : decode cX2_aheadOf 30 = .ok (.istore 6, 2) := by decide +kernel
theorem dX2_aheadOf_32 : decode cX2_aheadOf 32 = .ok (.iload 6, 2) := by decide +kernel
theorem dX2_aheadOf_34 : decode cX2_aheadOf 34 = .ok (.iload 4, 2) := by decide +kernel
theorem dX2_aheadOf_36 : decode cX2_aheadOf 36 = .ok (.if_icmp .gt 16, 3) := by decide +kernel
theorem dX2_aheadOf_39 : decode cX2_aheadOf 39 = .ok (.iload 6, 2) := by decide +kernel
theorem dX2_aheadOf_41 : decode cX2_aheadOf 41 = .ok (.iload 4, 2) := by decide +kernel
theorem dX2_aheadOf_43 : decode cX2_aheadOf 43 = .ok (.if_icmp .ne 12, 3) := by decide +kernel
theorem dX2_aheadOf_46 : decode cX2_aheadOf 46 = .ok (.iload 5, 2) := by decide +kernel
theorem dX2_aheadOf_48 : decode cX2_aheadOf 48 = .ok (.iload_n 1, 1) := by decide +kernel
theorem dX2_aheadOf_49 : decode cX2_aheadOf 49 = .ok (.if_icmp .ge 6, 3) := by decide +kernel
theorem dX2_aheadOf_52 : decode cX2_aheadOf 52 = .ok (.iinc 3 1, 3) := by decide +kernel
theorem dX2_aheadOf_55 : decode cX2_aheadOf 55 = .ok (.iinc 5 1, 3) := by decide +kernel
theorem dX2_aheadOf_58 : decode cX2_aheadOf 58 = .ok (.goto (-43), 3) := by decide +kernel
theorem dX2_aheadOf_61 : decode cX2_aheadOf 61 = .ok (.iload_n 3, 1) := by decide +kernel
theorem dX2_aheadOf_62 : decode cX2_aheadOf 62 = .ok (.ireturn, 1) := by decide +kernel
theorem e_121 (r : Nat) (a0 : Int32) (a1 : Int32) (ws : ai_W) : ai_Call 121 [.ref r, .int a0, .int a1] ws = if ai_isob ws r 2 = true then ai_Run 121 0 [.ref r, .int a0, .int a1, .null, .null, .null, .null] [] ws else none := R_entV hk_121 ⟨⟨rfl, rfl⟩, Nat.le_of_ble_eq_true rfl⟩ rfl
theorem r_121_0 (ls st : List Value) (ws : ai_W) : ai_Run 121 0 ls st ws = ai_Run 121 1 ls (.int 0 :: st) ws := R_iconst hc_121 dX2_aheadOf_0 (by decide) rfl
theorem r_121_1 (l0 l1 l2 l3 l4 l5 l6 : Value) (a : Int32) (st : List Value) (ws : ai_W) : ai_Run 121 1 [l0, l1, l2, l3, l4, l5, l6] (.int a :: st) ws = ai_Run 121 2 [l0, l1, l2, .int a, l4, l5, l6] st ws := R_istore_n hc_121 dX2_aheadOf_1 (Nat.le_of_ble_eq_true rfl) rfl rfl
theorem r_121_2 (l1 l2 l3 l4 l5 l6 : Value) (a : Nat) (st : List Value) (ws : ai_W) : ai_Run 121 2 [.ref a, l1, l2, l3, l4, l5, l6] st ws = ai_Run 121 3 [.ref a, l1, l2, l3, l4, l5, l6] (.ref a :: st) ws := R_aload_n hc_121 dX2_aheadOf_2 rfl rfl
theorem r_121_3 (ls st : List Value) (a : Nat) (ws : ai_W) : ai_Run 121 3 ls (.ref a :: st) ws = (ai_fget ws a 2 1).bind fun q => ai_Run 121 6 ls (q :: st) ws := R_getf hc_121 dX2_aheadOf_3 hv_121 (w := 562) rfl rfl
theorem r_121_6 (l0 l2 l3 l4 l5 l6 : Value) (a : Int32) (st : List Value) (ws : ai_W) : ai_Run 121 6 [l0, .int a, l2, l3, l4, l5, l6] st ws = ai_Run 121 7 [l0, .int a, l2, l3, l4, l5, l6] (.int a :: st) ws := R_iload_n hc_121 dX2_aheadOf_6 rfl rfl
theorem r_121_7 (ls : List Value) (r : Nat) (b0 : Int32) (ws : ai_W) : ai_Run 121 7 ls [.int b0, .ref r] ws = (ai_Call 12 [.ref r, .int b0] ws).bind fun q => ai_Run 121 10 ls (q.1.toList ++ []) q.2 := R_callV hc_121 dX2_aheadOf_7 hv_121 (w := 301) rfl (ai_lt3 hf_12 hf_121 hL_12 ho_12 ho_121 rfl) hk_12 (by rw [hn_12]; rfl) rfl (Nat.le_of_ble_eq_true rfl) rfl
theorem r_121_10 (l0 l1 l2 l3 l4 l5 l6 : Value) (a : Int32) (st : List Value) (ws : ai_W) : ai_Run 121 10 [l0, l1, l2, l3, l4, l5, l6] (.int a :: st) ws = ai_Run 121 12 [l0, l1, l2, l3, .int a, l5, l6] st ws := R_istore hc_121 dX2_aheadOf_10 (Nat.le_of_ble_eq_true rfl) rfl rfl
theorem r_121_12 (ls st : List Value) (ws : ai_W) : ai_Run 121 12 ls st ws = ai_Run 121 13 ls (.int 0 :: st) ws := R_iconst hc_121 dX2_aheadOf_12 (by decide) rfl
theorem r_121_13 (l0 l1 l2 l3 l4 l5 l6 : Value) (a : Int32) (st : List Value) (ws : ai_W) : ai_Run 121 13 [l0, l1, l2, l3, l4, l5, l6] (.int a :: st) ws = ai_Run 121 15 [l0, l1, l2, l3, l4, .int a, l6] st ws := R_istore hc_121 dX2_aheadOf_13 (Nat.le_of_ble_eq_true rfl) rfl rfl
theorem r_121_15 (l0 l1 l2 l3 l4 l6 : Value) (a : Int32) (st : List Value) (ws : ai_W) : ai_Run 121 15 [l0, l1, l2, l3, l4, .int a, l6] st ws = ai_Run 121 17 [l0, l1, l2, l3, l4, .int a, l6] (.int a :: st) ws := R_iload hc_121 dX2_aheadOf_15 rfl rfl
theorem r_121_17 (l0 l1 l3 l4 l5 l6 : Value) (a : Int32) (st : List Value) (ws : ai_W) : ai_Run 121 17 [l0, l1, .int a, l3, l4, l5, l6] st ws = ai_Run 121 18 [l0, l1, .int a, l3, l4, l5, l6] (.int a :: st) ws := R_iload_n hc_121 dX2_aheadOf_17 rfl rfl
theorem r_121_18 (ls st : List Value) (a b : Int32) (ws : ai_W) : ai_Run 121 18 ls (.int b :: .int a :: st) ws = if a < b then ai_Run 121 21 ls st ws else ai_Run 121 61 ls st ws := R_cmp_ge hc_121 dX2_aheadOf_18 rfl rfl
theorem r_121_21 (l1 l2 l3 l4 l5 l6 : Value) (a : Nat) (st : List Value) (ws : ai_W) : ai_Run 121 21 [.ref a, l1, l2, l3, l4, l5, l6] st ws = ai_Run 121 22 [.ref a, l1, l2, l3, l4, l5, l6] (.ref a :: st) ws := R_aload_n hc_121 dX2_aheadOf_21 rfl rfl
theorem r_121_22 (ls st : List Value) (a : Nat) (ws : ai_W) : ai_Run 121 22 ls (.ref a :: st) ws = (ai_fget ws a 2 1).bind fun q => ai_Run 121 25 ls (q :: st) ws := R_getf hc_121 dX2_aheadOf_22 hv_121 (w := 562) rfl rfl
theorem r_121_25 (l0 l1 l2 l3 l4 l6 : Value) (a : Int32) (st : List Value) (ws : ai_W) : ai_Run 121 25 [l0, l1, l2, l3, l4, .int a, l6] st ws = ai_Run 121 27 [l0, l1, l2, l3, l4, .int a, l6] (.int a :: st) ws := R_iload hc_121 dX2_aheadOf_25 rfl rfl
theorem r_121_27 (ls : List Value) (r : Nat) (b0 : Int32) (ws : ai_W) : ai_Run 121 27 ls [.int b0, .ref r] ws = (ai_Call 12 [.ref r, .int b0] ws).bind fun q => ai_Run 121 30 ls (q.1.toList ++ []) q.2 := R_callV hc_121 dX2_aheadOf_27 hv_121 (w := 301) rfl (ai_lt3 hf_12 hf_121 hL_12 ho_12 ho_121 rfl) hk_12 (by rw [hn_12]; rfl) rfl (Nat.le_of_ble_eq_true rfl) rfl
theorem r_121_30 (l0 l1 l2 l3 l4 l5 l6 : Value) (a : Int32) (st : List Value) (ws : ai_W) : ai_Run 121 30 [l0, l1, l2, l3, l4, l5, l6] (.int a :: st) ws = ai_Run 121 32 [l0, l1, l2, l3, l4, l5, .int a] st ws := R_istore hc_121 dX2_aheadOf_30 (Nat.le_of_ble_eq_true rfl) rfl rfl
theorem r_121_32 (l0 l1 l2 l3 l4 l5 : Value) (a : Int32) (st : List Value) (ws : ai_W) : ai_Run 121 32 [l0, l1, l2, l3, l4, l5, .int a] st ws = ai_Run 121 34 [l0, l1, l2, l3, l4, l5, .int a] (.int a :: st) ws := R_iload hc_121 dX2_aheadOf_32 rfl rfl
theorem r_121_34 (l0 l1 l2 l3 l5 l6 : Value) (a : Int32) (st : List Value) (ws : ai_W) : ai_Run 121 34 [l0, l1, l2, l3, .int a, l5, l6] st ws = ai_Run 121 36 [l0, l1, l2, l3, .int a, l5, l6] (.int a :: st) ws := R_iload hc_121 dX2_aheadOf_34 rfl rfl
theorem r_121_36 (ls st : List Value) (a b : Int32) (ws : ai_W) : ai_Run 121 36 ls (.int b :: .int a :: st) ws = if b < a then ai_Run 121 52 ls st ws else ai_Run 121 39 ls st ws := R_cmp_gt hc_121 dX2_aheadOf_36 rfl rfl
theorem r_121_39 (l0 l1 l2 l3 l4 l5 : Value) (a : Int32) (st : List Value) (ws : ai_W) : ai_Run 121 39 [l0, l1, l2, l3, l4, l5, .int a] st ws = ai_Run 121 41 [l0, l1, l2, l3, l4, l5, .int a] (.int a :: st) ws := R_iload hc_121 dX2_aheadOf_39 rfl rfl
theorem r_121_41 (l0 l1 l2 l3 l5 l6 : Value) (a : Int32) (st : List Value) (ws : ai_W) : ai_Run 121 41 [l0, l1, l2, l3, .int a, l5, l6] st ws = ai_Run 121 43 [l0, l1, l2, l3, .int a, l5, l6] (.int a :: st) ws := R_iload hc_121 dX2_aheadOf_41 rfl rfl
theorem r_121_43 (ls st : List Value) (a b : Int32) (ws : ai_W) : ai_Run 121 43 ls (.int b :: .int a :: st) ws = if a = b then ai_Run 121 46 ls st ws else ai_Run 121 55 ls st ws := R_cmp_ne hc_121 dX2_aheadOf_43 rfl rfl
theorem r_121_46 (l0 l1 l2 l3 l4 l6 : Value) (a : Int32) (st : List Value) (ws : ai_W) : ai_Run 121 46 [l0, l1, l2, l3, l4, .int a, l6] st ws = ai_Run 121 48 [l0, l1, l2, l3, l4, .int a, l6] (.int a :: st) ws := R_iload hc_121 dX2_aheadOf_46 rfl rfl
theorem r_121_48 (l0 l2 l3 l4 l5 l6 : Value) (a : Int32) (st : List Value) (ws : ai_W) : ai_Run 121 48 [l0, .int a, l2, l3, l4, l5, l6] st ws = ai_Run 121 49 [l0, .int a, l2, l3, l4, l5, l6] (.int a :: st) ws := R_iload_n hc_121 dX2_aheadOf_48 rfl rfl
theorem r_121_49 (ls st : List Value) (a b : Int32) (ws : ai_W) : ai_Run 121 49 ls (.int b :: .int a :: st) ws = if a < b then ai_Run 121 52 ls st ws else ai_Run 121 55 ls st ws := R_cmp_ge hc_121 dX2_aheadOf_49 rfl rfl
theorem r_121_52 (l0 l1 l2 l4 l5 l6 : Value) (a : Int32) (st : List Value) (ws : ai_W) : ai_Run 121 52 [l0, l1, l2, .int a, l4, l5, l6] st ws = ai_Run 121 55 [l0, l1, l2, .int (a + 1), l4, l5, l6] st ws := R_iinc hc_121 dX2_aheadOf_52 rfl (by decide) rfl rfl
theorem r_121_55 (l0 l1 l2 l3 l4 l6 : Value) (a : Int32) (st : List Value) (ws : ai_W) : ai_Run 121 55 [l0, l1, l2, l3, l4, .int a, l6] st ws = ai_Run 121 58 [l0, l1, l2, l3, l4, .int (a + 1), l6] st ws := R_iinc hc_121 dX2_aheadOf_55 rfl (by decide) rfl rfl
theorem r_121_58 (ls st : List Value) (ws : ai_W) : ai_Run 121 58 ls st ws = ai_Run 121 15 ls st ws := R_goto hc_121 dX2_aheadOf_58 rfl
theorem r_121_61 (l0 l1 l2 l4 l5 l6 : Value) (a : Int32) (st : List Value) (ws : ai_W) : ai_Run 121 61 [l0, l1, l2, .int a, l4, l5, l6] st ws = ai_Run 121 62 [l0, l1, l2, .int a, l4, l5, l6] (.int a :: st) ws := R_iload_n hc_121 dX2_aheadOf_61 rfl rfl
theorem r_121_62 (ls : List Value) (x : Int32) (ws : ai_W) : ai_Run 121 62 ls [.int x] ws = some (some (.int x), ws) := R_iret hc_121 dX2_aheadOf_62 ht_121
theorem dX2_atPlace_0 : decode cX2_atPlace 0 = .ok (.iload_n 1, 1) := by decide +kernel
theorem dX2_atPlace_1 : decode cX2_atPlace 1 = .ok (.iconst 3, 1) := by decide +kernel
theorem dX2_atPlace_2 : decode cX2_atPlace 2 = .ok (.if_icmp .ne 13, 3) := by decide +kernel
theorem dX2_atPlace_5 : decode cX2_atPlace 5 = .ok (.aload_n 0, 1) := by decide +kernel
theorem dX2_atPlace_6 : decode cX2_atPlace 6 = .ok (.getfield 20, 3) := by decide +kernel
theorem dX2_atPlace_9 : decode cX2_atPlace 9 = .ok (.getfield 70, 3) := by decide +kernel
theorem dX2_atPlace_12 : decode cX2_atPlace 12 = .ok (.goto 10, 3) := by decide +kernel
theorem dX2_atPlace_15 : decode cX2_atPlace 15 = .ok (.aload_n 0, 1) := by decide +kernel
theorem dX2_atPlace_16 : decode cX2_atPlace 16 = .ok (.getfield 20, 3) := by decide +kernel
theorem dX2_atPlace_19 : decode cX2_atPlace 19 = .ok (.getfield 41, 3) := by decide +kernel
theorem dX2_atPlace_22 : decode cX2_atPlace 22 = .ok (.istore_n 3, 1) := by decide +kernel
theorem dX2_atPlace_23 : decode cX2_atPlace 23 = .ok (.iconst 0, 1) := by decide +kernel
theorem dX2_atPlace_24 : decode cX2_atPlace 24 = .ok (.istore 4, 2) := by decide +kernel
theorem dX2_atPlace_26 : decode cX2_atPlace 26 = .ok (.iload 4, 2) := by decide +kernel
theorem dX2_atPlace_28 : decode cX2_atPlace 28 = .ok (.iload_n 3, 1) := by decide +kernel
theorem dX2_atPlace_29 : decode cX2_atPlace 29 = .ok (.if_icmp .ge 25, 3) := by decide +kernel
theorem dX2_atPlace_32 : decode cX2_atPlace 32 = .ok (.aload_n 0, 1) := by decide +kernel
theorem dX2_atPlace_33 : decode cX2_atPlace 33 = .ok (.getfield 14, 3) := by decide +kernel
theorem dX2_atPlace_36 : decode cX2_atPlace 36 = .ok (.iload 4, 2) := by decide +kernel
theorem dX2_atPlace_38 : decode cX2_atPlace 38 = .ok (.aload_n 0, 1) := by decide +kernel
theorem dX2_atPlace_39 : decode cX2_atPlace 39 = .ok (.iload_n 1, 1) := by decide +kernel
theorem dX2_atPlace_40 : decode cX2_atPlace 40 = .ok (.iload 4, 2) := by decide +kernel
theorem dX2_atPlace_42 : decode cX2_atPlace 42 = .ok (.invokevirtual 73, 3) := by decide +kernel
theorem dX2_atPlace_45 : decode cX2_atPlace 45 = .ok (.invokevirtual 76, 3) := by decide +kernel
theorem dX2_atPlace_48 : decode cX2_atPlace 48 = .ok (.iinc 4 1, 3) := by decide +kernel
theorem dX2_atPlace_51 : decode cX2_atPlace 51 = .ok (.goto (-25), 3) := by decide +kernel
theorem dX2_atPlace_54 : decode cX2_atPlace 54 = .ok (.iconst 0, 1) := by decide +kernel
theorem dX2_atPlace_55 : decode cX2_atPlace 55 = .ok (.istore 4, 2) := by decide +kernel
theorem dX2_atPlace_57 : decode cX2_atPlace 57 = .ok (.iload 4, 2) := by decide +kernel
theorem dX2_atPlace_59 : decode cX2_atPlace 59 = .ok (.iload_n 3, 1) := by decide +kernel
theorem dX2_atPlace_60 : decode cX2_atPlace 60 = .ok (.if_icmp .ge 23, 3) := by decide +kernel
theorem dX2_atPlace_63 : decode cX2_atPlace 63 = .ok (.aload_n 0, 1) := by decide +kernel
theorem dX2_atPlace_64 : decode cX2_atPlace 64 = .ok (.iload 4, 2) := by decide +kernel
theorem dX2_atPlace_66 : decode cX2_atPlace 66 = .ok (.iload_n 3, 1) := by decide +kernel
theorem dX2_atPlace_67 : decode cX2_atPlace 67 = .ok (.invokevirtual 79, 3) := by decide +kernel
theorem dX2_atPlace_70 : decode cX2_atPlace 70 = .ok (.iload_n 2, 1) := by decide +kernel
theorem dX2_atPlace_71 : decode cX2_atPlace 71 = .ok (.if_icmp .ne 6, 3) := by decide +kernel
theorem dX2_atPlace_74 : decode cX2_atPlace 74 = .ok (.iload 4, 2) := by decide +kernel
theorem dX2_atPlace_76 : decode cX2_atPlace 76 = .ok (.ireturn, 1) := by decide +kernel
theorem dX2_atPlace_77 : decode cX2_atPlace 77 = .ok (.iinc 4 1, 3) := by decide +kernel
theorem dX2_atPlace_80 : decode cX2_atPlace 80 = .ok (.goto (-23), 3) := by decide +kernel
theorem dX2_atPlace_83 : decode cX2_atPlace 83 = .ok (.iconst (-1), 1) := by decide +kernel
theorem dX2_atPlace_84 : decode cX2_atPlace 84 = .ok (.ireturn, 1) := by decide +kernel
theorem e_122 (r : Nat) (a0 : Int32) (a1 : Int32) (ws : ai_W) : ai_Call 122 [.ref r, .int a0, .int a1] ws = if ai_isob ws r 2 = true then ai_Run 122 0 [.ref r, .int a0, .int a1, .null, .null] [] ws else none := R_entV hk_122 ⟨⟨rfl, rfl⟩, Nat.le_of_ble_eq_true rfl⟩ rfl
theorem r_122_0 (l0 l2 l3 l4 : Value) (a : Int32) (st : List Value) (ws : ai_W) : ai_Run 122 0 [l0, .int a, l2, l3, l4] st ws = ai_Run 122 1 [l0, .int a, l2, l3, l4] (.int a :: st) ws := R_iload_n hc_122 dX2_atPlace_0 rfl rfl
theorem r_122_1 (ls st : List Value) (ws : ai_W) : ai_Run 122 1 ls st ws = ai_Run 122 2 ls (.int 3 :: st) ws := R_iconst hc_122 dX2_atPlace_1 (by decide) rfl
theorem r_122_2 (ls st : List Value) (a b : Int32) (ws : ai_W) : ai_Run 122 2 ls (.int b :: .int a :: st) ws = if a = b then ai_Run 122 5 ls st ws else ai_Run 122 15 ls st ws := R_cmp_ne hc_122 dX2_atPlace_2 rfl rfl
theorem r_122_5 (l1 l2 l3 l4 : Value) (a : Nat) (st : List Value) (ws : ai_W) : ai_Run 122 5 [.ref a, l1, l2, l3, l4] st ws = ai_Run 122 6 [.ref a, l1, l2, l3, l4] (.ref a :: st) ws := R_aload_n hc_122 dX2_atPlace_5 rfl rfl
theorem r_122_6 (ls st : List Value) (a : Nat) (ws : ai_W) : ai_Run 122 6 ls (.ref a :: st) ws = (ai_fget ws a 2 0).bind fun q => ai_Run 122 9 ls (q :: st) ws := R_getf hc_122 dX2_atPlace_6 hv_122 (w := 561) rfl rfl
theorem r_122_9 (ls st : List Value) (a : Nat) (ws : ai_W) : ai_Run 122 9 ls (.ref a :: st) ws = (ai_fget ws a 0 1).bind fun q => ai_Run 122 12 ls (q :: st) ws := R_getf hc_122 dX2_atPlace_9 hv_122 (w := 470) rfl rfl
theorem r_122_12 (ls st : List Value) (ws : ai_W) : ai_Run 122 12 ls st ws = ai_Run 122 22 ls st ws := R_goto hc_122 dX2_atPlace_12 rfl
theorem r_122_15 (l1 l2 l3 l4 : Value) (a : Nat) (st : List Value) (ws : ai_W) : ai_Run 122 15 [.ref a, l1, l2, l3, l4] st ws = ai_Run 122 16 [.ref a, l1, l2, l3, l4] (.ref a :: st) ws := R_aload_n hc_122 dX2_atPlace_15 rfl rfl
theorem r_122_16 (ls st : List Value) (a : Nat) (ws : ai_W) : ai_Run 122 16 ls (.ref a :: st) ws = (ai_fget ws a 2 0).bind fun q => ai_Run 122 19 ls (q :: st) ws := R_getf hc_122 dX2_atPlace_16 hv_122 (w := 561) rfl rfl
theorem r_122_19 (ls st : List Value) (a : Nat) (ws : ai_W) : ai_Run 122 19 ls (.ref a :: st) ws = (ai_fget ws a 0 0).bind fun q => ai_Run 122 22 ls (q :: st) ws := R_getf hc_122 dX2_atPlace_19 hv_122 (w := 466) rfl rfl
theorem r_122_22 (l0 l1 l2 l3 l4 : Value) (a : Int32) (st : List Value) (ws : ai_W) : ai_Run 122 22 [l0, l1, l2, l3, l4] (.int a :: st) ws = ai_Run 122 23 [l0, l1, l2, .int a, l4] st ws := R_istore_n hc_122 dX2_atPlace_22 (Nat.le_of_ble_eq_true rfl) rfl rfl
theorem r_122_23 (ls st : List Value) (ws : ai_W) : ai_Run 122 23 ls st ws = ai_Run 122 24 ls (.int 0 :: st) ws := R_iconst hc_122 dX2_atPlace_23 (by decide) rfl
theorem r_122_24 (l0 l1 l2 l3 l4 : Value) (a : Int32) (st : List Value) (ws : ai_W) : ai_Run 122 24 [l0, l1, l2, l3, l4] (.int a :: st) ws = ai_Run 122 26 [l0, l1, l2, l3, .int a] st ws := R_istore hc_122 dX2_atPlace_24 (Nat.le_of_ble_eq_true rfl) rfl rfl
theorem r_122_26 (l0 l1 l2 l3 : Value) (a : Int32) (st : List Value) (ws : ai_W) : ai_Run 122 26 [l0, l1, l2, l3, .int a] st ws = ai_Run 122 28 [l0, l1, l2, l3, .int a] (.int a :: st) ws := R_iload hc_122 dX2_atPlace_26 rfl rfl
theorem r_122_28 (l0 l1 l2 l4 : Value) (a : Int32) (st : List Value) (ws : ai_W) : ai_Run 122 28 [l0, l1, l2, .int a, l4] st ws = ai_Run 122 29 [l0, l1, l2, .int a, l4] (.int a :: st) ws := R_iload_n hc_122 dX2_atPlace_28 rfl rfl
theorem r_122_29 (ls st : List Value) (a b : Int32) (ws : ai_W) : ai_Run 122 29 ls (.int b :: .int a :: st) ws = if a < b then ai_Run 122 32 ls st ws else ai_Run 122 54 ls st ws := R_cmp_ge hc_122 dX2_atPlace_29 rfl rfl
theorem r_122_32 (l1 l2 l3 l4 : Value) (a : Nat) (st : List Value) (ws : ai_W) : ai_Run 122 32 [.ref a, l1, l2, l3, l4] st ws = ai_Run 122 33 [.ref a, l1, l2, l3, l4] (.ref a :: st) ws := R_aload_n hc_122 dX2_atPlace_32 rfl rfl
theorem r_122_33 (ls st : List Value) (a : Nat) (ws : ai_W) : ai_Run 122 33 ls (.ref a :: st) ws = (ai_fget ws a 2 1).bind fun q => ai_Run 122 36 ls (q :: st) ws := R_getf hc_122 dX2_atPlace_33 hv_122 (w := 562) rfl rfl
theorem r_122_36 (l0 l1 l2 l3 : Value) (a : Int32) (st : List Value) (ws : ai_W) : ai_Run 122 36 [l0, l1, l2, l3, .int a] st ws = ai_Run 122 38 [l0, l1, l2, l3, .int a] (.int a :: st) ws := R_iload hc_122 dX2_atPlace_36 rfl rfl
theorem r_122_38 (l1 l2 l3 l4 : Value) (a : Nat) (st : List Value) (ws : ai_W) : ai_Run 122 38 [.ref a, l1, l2, l3, l4] st ws = ai_Run 122 39 [.ref a, l1, l2, l3, l4] (.ref a :: st) ws := R_aload_n hc_122 dX2_atPlace_38 rfl rfl
theorem r_122_39 (l0 l2 l3 l4 : Value) (a : Int32) (st : List Value) (ws : ai_W) : ai_Run 122 39 [l0, .int a, l2, l3, l4] st ws = ai_Run 122 40 [l0, .int a, l2, l3, l4] (.int a :: st) ws := R_iload_n hc_122 dX2_atPlace_39 rfl rfl
theorem r_122_40 (l0 l1 l2 l3 : Value) (a : Int32) (st : List Value) (ws : ai_W) : ai_Run 122 40 [l0, l1, l2, l3, .int a] st ws = ai_Run 122 42 [l0, l1, l2, l3, .int a] (.int a :: st) ws := R_iload hc_122 dX2_atPlace_40 rfl rfl
theorem r_122_42 (ls : List Value) (r : Nat) (b0 : Int32) (b1 : Int32) (s0 s1 : Value) (ws : ai_W) : ai_Run 122 42 ls [.int b1, .int b0, .ref r, s0, s1] ws = (ai_Call 120 [.ref r, .int b0, .int b1] ws).bind fun q => ai_Run 122 45 ls (q.1.toList ++ [s0, s1]) q.2 := R_callV hc_122 dX2_atPlace_42 hv_122 (w := 270) rfl (ai_lt3 hf_120 hf_122 hL_120 ho_120 ho_122 rfl) hk_120 (by rw [hn_120]; rfl) rfl (Nat.le_of_ble_eq_true rfl) rfl
theorem r_122_45 (ls : List Value) (r : Nat) (b0 : Int32) (b1 : Int32) (ws : ai_W) : ai_Run 122 45 ls [.int b1, .int b0, .ref r] ws = (ai_Call 29 [.ref r, .int b0, .int b1] ws).bind fun q => ai_Run 122 48 ls (q.1.toList ++ []) q.2 := R_callV hc_122 dX2_atPlace_45 hv_122 (w := 302) rfl (ai_lt3 hf_29 hf_122 hL_29 ho_29 ho_122 rfl) hk_29 (by rw [hn_29]; rfl) rfl (Nat.le_of_ble_eq_true rfl) rfl
theorem r_122_48 (l0 l1 l2 l3 : Value) (a : Int32) (st : List Value) (ws : ai_W) : ai_Run 122 48 [l0, l1, l2, l3, .int a] st ws = ai_Run 122 51 [l0, l1, l2, l3, .int (a + 1)] st ws := R_iinc hc_122 dX2_atPlace_48 rfl (by decide) rfl rfl
theorem r_122_51 (ls st : List Value) (ws : ai_W) : ai_Run 122 51 ls st ws = ai_Run 122 26 ls st ws := R_goto hc_122 dX2_atPlace_51 rfl
theorem r_122_54 (ls st : List Value) (ws : ai_W) : ai_Run 122 54 ls st ws = ai_Run 122 55 ls (.int 0 :: st) ws := R_iconst hc_122 dX2_atPlace_54 (by decide) rfl
theorem r_122_55 (l0 l1 l2 l3 l4 : Value) (a : Int32) (st : List Value) (ws : ai_W) : ai_Run 122 55 [l0, l1, l2, l3, l4] (.int a :: st) ws = ai_Run 122 57 [l0, l1, l2, l3, .int a] st ws := R_istore hc_122 dX2_atPlace_55 (Nat.le_of_ble_eq_true rfl) rfl rfl
theorem r_122_57 (l0 l1 l2 l3 : Value) (a : Int32) (st : List Value) (ws : ai_W) : ai_Run 122 57 [l0, l1, l2, l3, .int a] st ws = ai_Run 122 59 [l0, l1, l2, l3, .int a] (.int a :: st) ws := R_iload hc_122 dX2_atPlace_57 rfl rfl
theorem r_122_59 (l0 l1 l2 l4 : Value) (a : Int32) (st : List Value) (ws : ai_W) : ai_Run 122 59 [l0, l1, l2, .int a, l4] st ws = ai_Run 122 60 [l0, l1, l2, .int a, l4] (.int a :: st) ws := R_iload_n hc_122 dX2_atPlace_59 rfl rfl
theorem r_122_60 (ls st : List Value) (a b : Int32) (ws : ai_W) : ai_Run 122 60 ls (.int b :: .int a :: st) ws = if a < b then ai_Run 122 63 ls st ws else ai_Run 122 83 ls st ws := R_cmp_ge hc_122 dX2_atPlace_60 rfl rfl
theorem r_122_63 (l1 l2 l3 l4 : Value) (a : Nat) (st : List Value) (ws : ai_W) : ai_Run 122 63 [.ref a, l1, l2, l3, l4] st ws = ai_Run 122 64 [.ref a, l1, l2, l3, l4] (.ref a :: st) ws := R_aload_n hc_122 dX2_atPlace_63 rfl rfl
theorem r_122_64 (l0 l1 l2 l3 : Value) (a : Int32) (st : List Value) (ws : ai_W) : ai_Run 122 64 [l0, l1, l2, l3, .int a] st ws = ai_Run 122 66 [l0, l1, l2, l3, .int a] (.int a :: st) ws := R_iload hc_122 dX2_atPlace_64 rfl rfl
theorem r_122_66 (l0 l1 l2 l4 : Value) (a : Int32) (st : List Value) (ws : ai_W) : ai_Run 122 66 [l0, l1, l2, .int a, l4] st ws = ai_Run 122 67 [l0, l1, l2, .int a, l4] (.int a :: st) ws := R_iload_n hc_122 dX2_atPlace_66 rfl rfl
theorem r_122_67 (ls : List Value) (r : Nat) (b0 : Int32) (b1 : Int32) (ws : ai_W) : ai_Run 122 67 ls [.int b1, .int b0, .ref r] ws = (ai_Call 121 [.ref r, .int b0, .int b1] ws).bind fun q => ai_Run 122 70 ls (q.1.toList ++ []) q.2 := R_callV hc_122 dX2_atPlace_67 hv_122 (w := 303) rfl (ai_lt3 hf_121 hf_122 hL_121 ho_121 ho_122 rfl) hk_121 (by rw [hn_121]; rfl) rfl (Nat.le_of_ble_eq_true rfl) rfl
theorem r_122_70 (l0 l1 l3 l4 : Value) (a : Int32) (st : List Value) (ws : ai_W) : ai_Run 122 70 [l0, l1, .int a, l3, l4] st ws = ai_Run 122 71 [l0, l1, .int a, l3, l4] (.int a :: st) ws := R_iload_n hc_122 dX2_atPlace_70 rfl rfl
theorem r_122_71 (ls st : List Value) (a b : Int32) (ws : ai_W) : ai_Run 122 71 ls (.int b :: .int a :: st) ws = if a = b then ai_Run 122 74 ls st ws else ai_Run 122 77 ls st ws := R_cmp_ne hc_122 dX2_atPlace_71 rfl rfl
theorem r_122_74 (l0 l1 l2 l3 : Value) (a : Int32) (st : List Value) (ws : ai_W) : ai_Run 122 74 [l0, l1, l2, l3, .int a] st ws = ai_Run 122 76 [l0, l1, l2, l3, .int a] (.int a :: st) ws := R_iload hc_122 dX2_atPlace_74 rfl rfl
theorem r_122_76 (ls : List Value) (x : Int32) (ws : ai_W) : ai_Run 122 76 ls [.int x] ws = some (some (.int x), ws) := R_iret hc_122 dX2_atPlace_76 ht_122
theorem r_122_77 (l0 l1 l2 l3 : Value) (a : Int32) (st : List Value) (ws : ai_W) : ai_Run 122 77 [l0, l1, l2, l3, .int a] st ws = ai_Run 122 80 [l0, l1, l2, l3, .int (a + 1)] st ws := R_iinc hc_122 dX2_atPlace_77 rfl (by decide) rfl rfl
theorem r_122_80 (ls st : List Value) (ws : ai_W) : ai_Run 122 80 ls st ws = ai_Run 122 57 ls st ws := R_goto hc_122 dX2_atPlace_80 rfl
theorem r_122_83 (ls st : List Value) (ws : ai_W) : ai_Run 122 83 ls st ws = ai_Run 122 84 ls (.int (-1) :: st) ws := R_iconst hc_122 dX2_atPlace_83 (by decide) rfl
theorem r_122_84 (ls : List Value) (x : Int32) (ws : ai_W) : ai_Run 122 84 ls [.int x] ws = some (some (.int x), ws) := R_iret hc_122 dX2_atPlace_84 ht_122
theorem dX9_ahead_0 : decode cX9_ahead 0 = .ok (.aload_n 0, 1) := by decide +kernel
theorem dX9_ahead_1 : decode cX9_ahead 1 = .ok (.getfield 40, 3) := by decide +kernel
theorem dX9_ahead_4 : decode cX9_ahead 4 = .ok (.aload_n 0, 1) := by decide +kernel
theorem dX9_ahead_5 : decode cX9_ahead 5 = .ok (.getfield 26, 3) := by decide +kernel
theorem dX9_ahead_8 : decode cX9_ahead 8 = .ok (.if_icmp .ge 17, 3) := by decide +kernel
theorem dX9_ahead_11 : decode cX9_ahead 11 = .ok (.aload_n 0, 1) := by decide +kernel
theorem dX9_ahead_12 : decode cX9_ahead 12 = .ok (.getfield 14, 3) := by decide +kernel
theorem dX9_ahead_15 : decode cX9_ahead 15 = .ok (.aload_n 0, 1) := by decide +kernel
theorem dX9_ahead_16 : decode cX9_ahead 16 = .ok (.getfield 40, 3) := by decide +kernel
theorem dX9_ahead_19 : decode cX9_ahead 19 = .ok (.invokevirtual 36, 3) := by decide +kernel
theorem dX9_ahead_22 : decode cX9_ahead 22 = .ok (.goto 4, 3) := by decide +kernel
theorem dX9_ahead_25 : decode cX9_ahead 25 = .ok (.iconst 0, 1) := by decide +kernel
theorem dX9_ahead_26 : decode cX9_ahead 26 = .ok (.ireturn, 1) := by decide +kernel
theorem e_124 (r : Nat)  (ws : ai_W) : ai_Call 124 [.ref r] ws = if ai_isob ws r 9 = true then ai_Run 124 0 [.ref r] [] ws else none := R_entV hk_124 ⟨⟨rfl, rfl⟩, Nat.le_of_ble_eq_true rfl⟩ rfl
theorem r_124_0 (a : Nat) (st : List Value) (ws : ai_W) : ai_Run 124 0 [.ref a] st ws = ai_Run 124 1 [.ref a] (.ref a :: st) ws := R_aload_n hc_124 dX9_ahead_0 rfl rfl
theorem r_124_1 (ls st : List Value) (a : Nat) (ws : ai_W) : ai_Run 124 1 ls (.ref a :: st) ws = (ai_fget ws a 9 5).bind fun q => ai_Run 124 4 ls (q :: st) ws := R_getf hc_124 dX9_ahead_1 hv_124 (w := 623) rfl rfl
theorem r_124_4 (a : Nat) (st : List Value) (ws : ai_W) : ai_Run 124 4 [.ref a] st ws = ai_Run 124 5 [.ref a] (.ref a :: st) ws := R_aload_n hc_124 dX9_ahead_4 rfl rfl
theorem r_124_5 (ls st : List Value) (a : Nat) (ws : ai_W) : ai_Run 124 5 ls (.ref a :: st) ws = (ai_fget ws a 9 3).bind fun q => ai_Run 124 8 ls (q :: st) ws := R_getf hc_124 dX9_ahead_5 hv_124 (w := 621) rfl rfl
theorem r_124_8 (ls st : List Value) (a b : Int32) (ws : ai_W) : ai_Run 124 8 ls (.int b :: .int a :: st) ws = if a < b then ai_Run 124 11 ls st ws else ai_Run 124 25 ls st ws := R_cmp_ge hc_124 dX9_ahead_8 rfl rfl
theorem r_124_11 (a : Nat) (st : List Value) (ws : ai_W) : ai_Run 124 11 [.ref a] st ws = ai_Run 124 12 [.ref a] (.ref a :: st) ws := R_aload_n hc_124 dX9_ahead_11 rfl rfl
theorem r_124_12 (ls st : List Value) (a : Nat) (ws : ai_W) : ai_Run 124 12 ls (.ref a :: st) ws = (ai_fget ws a 9 0).bind fun q => ai_Run 124 15 ls (q :: st) ws := R_getf hc_124 dX9_ahead_12 hv_124 (w := 618) rfl rfl
theorem r_124_15 (a : Nat) (st : List Value) (ws : ai_W) : ai_Run 124 15 [.ref a] st ws = ai_Run 124 16 [.ref a] (.ref a :: st) ws := R_aload_n hc_124 dX9_ahead_15 rfl rfl
theorem r_124_16 (ls st : List Value) (a : Nat) (ws : ai_W) : ai_Run 124 16 ls (.ref a :: st) ws = (ai_fget ws a 9 5).bind fun q => ai_Run 124 19 ls (q :: st) ws := R_getf hc_124 dX9_ahead_16 hv_124 (w := 623) rfl rfl
theorem r_124_19 (ls : List Value) (r : Nat) (b0 : Int32) (ws : ai_W) : ai_Run 124 19 ls [.int b0, .ref r] ws = (ai_Call 12 [.ref r, .int b0] ws).bind fun q => ai_Run 124 22 ls (q.1.toList ++ []) q.2 := R_callV hc_124 dX9_ahead_19 hv_124 (w := 1050) rfl (ai_lt3 hf_12 hf_124 hL_12 ho_12 ho_124 rfl) hk_12 (by rw [hn_12]; rfl) rfl (Nat.le_of_ble_eq_true rfl) rfl
theorem r_124_22 (ls st : List Value) (ws : ai_W) : ai_Run 124 22 ls st ws = ai_Run 124 26 ls st ws := R_goto hc_124 dX9_ahead_22 rfl
theorem r_124_25 (ls st : List Value) (ws : ai_W) : ai_Run 124 25 ls st ws = ai_Run 124 26 ls (.int 0 :: st) ws := R_iconst hc_124 dX9_ahead_25 (by decide) rfl
theorem r_124_26 (ls : List Value) (x : Int32) (ws : ai_W) : ai_Run 124 26 ls [.int x] ws = some (some (.int x), ws) := R_iret hc_124 dX9_ahead_26 ht_124
theorem dX9_take_0 : decode cX9_take 0 = .ok (.aload_n 0, 1) := by decide +kernel
theorem dX9_take_1 : decode cX9_take 1 = .ok (.invokevirtual 51, 3) := by decide +kernel
theorem dX9_take_4 : decode cX9_take 4 = .ok (.iload_n 1, 1) := by decide +kernel
theorem dX9_take_5 : decode cX9_take 5 = .ok (.if_icmp .eq 5, 3) := by decide +kernel
theorem dX9_take_8 : decode cX9_take 8 = .ok (.iconst 0, 1) := by decide +kernel
theorem dX9_take_9 : decode cX9_take 9 = .ok (.ireturn, 1) := by decide +kernel
theorem dX9_take_10 : decode cX9_take 10 = .ok (.aload_n 0, 1) := by decide +kernel
theorem dX9_take_11 : decode cX9_take 11 = .ok (.dup, 1) := by decide +kernel
theorem dX9_take_12 : decode cX9_take 12 = .ok (.getfield 40, 3) := by decide +kernel
theorem dX9_take_15 : decode cX9_take 15 = .ok (.iconst 1, 1) := by decide +kernel
theorem dX9_take_16 : decode cX9_take 16 = .ok (.iadd, 1) := by decide +kernel
theorem dX9_take_17 : decode cX9_take 17 = .ok (.putfield 40, 3) := by decide +kernel
theorem dX9_take_20 : decode cX9_take 20 = .ok (.iconst 1, 1) := by decide +kernel
theorem dX9_take_21 : decode cX9_take 21 = .ok (.ireturn, 1) := by decide +kernel
theorem e_125 (r : Nat) (a0 : Int32) (ws : ai_W) : ai_Call 125 [.ref r, .int a0] ws = if ai_isob ws r 9 = true then ai_Run 125 0 [.ref r, .int a0] [] ws else none := R_entV hk_125 ⟨⟨rfl, rfl⟩, Nat.le_of_ble_eq_true rfl⟩ rfl
theorem r_125_0 (l1 : Value) (a : Nat) (st : List Value) (ws : ai_W) : ai_Run 125 0 [.ref a, l1] st ws = ai_Run 125 1 [.ref a, l1] (.ref a :: st) ws := R_aload_n hc_125 dX9_take_0 rfl rfl
theorem r_125_1 (ls : List Value) (r : Nat) (ws : ai_W) : ai_Run 125 1 ls [.ref r] ws = (ai_Call 124 [.ref r] ws).bind fun q => ai_Run 125 4 ls (q.1.toList ++ []) q.2 := R_callV hc_125 dX9_take_1 hv_125 (w := 1046) rfl (ai_lt3 hf_124 hf_125 hL_124 ho_124 ho_125 rfl) hk_124 (by rw [hn_124]; rfl) rfl (Nat.le_of_ble_eq_true rfl) rfl
theorem r_125_4 (l0 : Value) (a : Int32) (st : List Value) (ws : ai_W) : ai_Run 125 4 [l0, .int a] st ws = ai_Run 125 5 [l0, .int a] (.int a :: st) ws := R_iload_n hc_125 dX9_take_4 rfl rfl
theorem r_125_5 (ls st : List Value) (a b : Int32) (ws : ai_W) : ai_Run 125 5 ls (.int b :: .int a :: st) ws = if a = b then ai_Run 125 10 ls st ws else ai_Run 125 8 ls st ws := R_cmp_eq hc_125 dX9_take_5 rfl rfl
theorem r_125_8 (ls st : List Value) (ws : ai_W) : ai_Run 125 8 ls st ws = ai_Run 125 9 ls (.int 0 :: st) ws := R_iconst hc_125 dX9_take_8 (by decide) rfl
theorem r_125_9 (ls : List Value) (x : Int32) (ws : ai_W) : ai_Run 125 9 ls [.int x] ws = if ai_pb x = true then some (some (.int x), ws) else none := R_zret hc_125 dX9_take_9 ht_125
theorem r_125_10 (l1 : Value) (a : Nat) (st : List Value) (ws : ai_W) : ai_Run 125 10 [.ref a, l1] st ws = ai_Run 125 11 [.ref a, l1] (.ref a :: st) ws := R_aload_n hc_125 dX9_take_10 rfl rfl
theorem r_125_11 (ls st : List Value) (a : Nat) (ws : ai_W) : ai_Run 125 11 ls (.ref a :: st) ws = ai_Run 125 12 ls (.ref a :: .ref a :: st) ws := R_dup hc_125 dX9_take_11 rfl
theorem r_125_12 (ls st : List Value) (a : Nat) (ws : ai_W) : ai_Run 125 12 ls (.ref a :: st) ws = (ai_fget ws a 9 5).bind fun q => ai_Run 125 15 ls (q :: st) ws := R_getf hc_125 dX9_take_12 hv_125 (w := 623) rfl rfl
theorem r_125_15 (ls st : List Value) (ws : ai_W) : ai_Run 125 15 ls st ws = ai_Run 125 16 ls (.int 1 :: st) ws := R_iconst hc_125 dX9_take_15 (by decide) rfl
theorem r_125_16 (ls st : List Value) (a b : Int32) (ws : ai_W) : ai_Run 125 16 ls (.int b :: .int a :: st) ws = ai_Run 125 17 ls (.int (a + b) :: st) ws := R_iadd hc_125 dX9_take_16 rfl
theorem r_125_17 (ls st : List Value) (a : Nat) (x : Value) (ws : ai_W) : ai_Run 125 17 ls (x :: .ref a :: st) ws = (ai_fput ws a 9 5 x).bind fun ws => ai_Run 125 20 ls st ws := R_putf hc_125 dX9_take_17 hv_125 (w := 623) rfl rfl rfl
theorem r_125_20 (ls st : List Value) (ws : ai_W) : ai_Run 125 20 ls st ws = ai_Run 125 21 ls (.int 1 :: st) ws := R_iconst hc_125 dX9_take_20 (by decide) rfl
theorem r_125_21 (ls : List Value) (x : Int32) (ws : ai_W) : ai_Run 125 21 ls [.int x] ws = if ai_pb x = true then some (some (.int x), ws) else none := R_zret hc_125 dX9_take_21 ht_125
theorem dX9_isDigit_0 : decode cX9_isDigit 0 = .ok (.iload_n 0, 1) := by decide +kernel
theorem dX9_isDigit_1 : decode cX9_isDigit 1 = .ok (.bipush 48, 2) := by decide +kernel
theorem dX9_isDigit_3 : decode cX9_isDigit 3 = .ok (.if_icmp .lt 13, 3) := by decide +kernel
theorem dX9_isDigit_6 : decode cX9_isDigit 6 = .ok (.iload_n 0, 1) := by decide +kernel
theorem dX9_isDigit_7 : decode cX9_isDigit 7 = .ok (.bipush 57, 2) := by decide +kernel
theorem dX9_isDigit_9 : decode cX9_isDigit 9 = .ok (.if_icmp .gt 7, 3) := by decide +kernel
theorem dX9_isDigit_12 : decode cX9_isDigit 12 = .ok (.iconst 1, 1) := by decide +kernel
theorem dX9_isDigit_13 : decode cX9_isDigit 13 = .ok (.goto 4, 3) := by decide +kernel
theorem dX9_isDigit_16 : decode cX9_isDigit 16 = .ok (.iconst 0, 1) := by decide +kernel
theorem dX9_isDigit_17 : decode cX9_isDigit 17 = .ok (.ireturn, 1) := by decide +kernel
theorem e_126 (a0 : Int32) (ws : ai_W) : ai_Call 126 [.int a0] ws = ai_Run 126 0 [.int a0] [] ws := R_entS hk_126 ⟨⟨rfl, rfl⟩, Nat.le_of_ble_eq_true rfl⟩ rfl
theorem r_126_0 (a : Int32) (st : List Value) (ws : ai_W) : ai_Run 126 0 [.int a] st ws = ai_Run 126 1 [.int a] (.int a :: st) ws := R_iload_n hc_126 dX9_isDigit_0 rfl rfl
theorem r_126_1 (ls st : List Value) (ws : ai_W) : ai_Run 126 1 ls st ws = ai_Run 126 3 ls (.int 48 :: st) ws := R_bipush hc_126 dX9_isDigit_1 (by decide) rfl
theorem r_126_3 (ls st : List Value) (a b : Int32) (ws : ai_W) : ai_Run 126 3 ls (.int b :: .int a :: st) ws = if a < b then ai_Run 126 16 ls st ws else ai_Run 126 6 ls st ws := R_cmp_lt hc_126 dX9_isDigit_3 rfl rfl
theorem r_126_6 (a : Int32) (st : List Value) (ws : ai_W) : ai_Run 126 6 [.int a] st ws = ai_Run 126 7 [.int a] (.int a :: st) ws := R_iload_n hc_126 dX9_isDigit_6 rfl rfl
theorem r_126_7 (ls st : List Value) (ws : ai_W) : ai_Run 126 7 ls st ws = ai_Run 126 9 ls (.int 57 :: st) ws := R_bipush hc_126 dX9_isDigit_7 (by decide) rfl
theorem r_126_9 (ls st : List Value) (a b : Int32) (ws : ai_W) : ai_Run 126 9 ls (.int b :: .int a :: st) ws = if b < a then ai_Run 126 16 ls st ws else ai_Run 126 12 ls st ws := R_cmp_gt hc_126 dX9_isDigit_9 rfl rfl
theorem r_126_12 (ls st : List Value) (ws : ai_W) : ai_Run 126 12 ls st ws = ai_Run 126 13 ls (.int 1 :: st) ws := R_iconst hc_126 dX9_isDigit_12 (by decide) rfl
theorem r_126_13 (ls st : List Value) (ws : ai_W) : ai_Run 126 13 ls st ws = ai_Run 126 17 ls st ws := R_goto hc_126 dX9_isDigit_13 rfl
theorem r_126_16 (ls st : List Value) (ws : ai_W) : ai_Run 126 16 ls st ws = ai_Run 126 17 ls (.int 0 :: st) ws := R_iconst hc_126 dX9_isDigit_16 (by decide) rfl
theorem r_126_17 (ls : List Value) (x : Int32) (ws : ai_W) : ai_Run 126 17 ls [.int x] ws = if ai_pb x = true then some (some (.int x), ws) else none := R_zret hc_126 dX9_isDigit_17 ht_126
theorem dX9_give_0 : decode cX9_give 0 = .ok (.aload_n 0, 1) := by decide +kernel
theorem dX9_give_1 : decode cX9_give 1 = .ok (.getfield 23, 3) := by decide +kernel
theorem dX9_give_4 : decode cX9_give 4 = .ok (.aload_n 0, 1) := by decide +kernel
theorem dX9_give_5 : decode cX9_give 5 = .ok (.getfield 33, 3) := by decide +kernel
theorem dX9_give_8 : decode cX9_give 8 = .ok (.iconst 3, 1) := by decide +kernel
theorem dX9_give_9 : decode cX9_give 9 = .ok (.imul, 1) := by decide +kernel
theorem dX9_give_10 : decode cX9_give 10 = .ok (.aload_n 0, 1) := by decide +kernel
theorem dX9_give_11 : decode cX9_give 11 = .ok (.getfield 55, 3) := by decide +kernel
theorem dX9_give_14 : decode cX9_give 14 = .ok (.iadd, 1) := by decide +kernel
theorem dX9_give_15 : decode cX9_give 15 = .ok (.iload_n 1, 1) := by decide +kernel
theorem dX9_give_16 : decode cX9_give 16 = .ok (.invokevirtual 30, 3) := by decide +kernel
theorem dX9_give_19 : decode cX9_give 19 = .ok (.aload_n 0, 1) := by decide +kernel
theorem dX9_give_20 : decode cX9_give 20 = .ok (.dup, 1) := by decide +kernel
theorem dX9_give_21 : decode cX9_give 21 = .ok (.getfield 55, 3) := by decide +kernel
theorem dX9_give_24 : decode cX9_give 24 = .ok (.iconst 1, 1) := by decide +kernel
theorem dX9_give_25 : decode cX9_give 25 = .ok (.iadd, 1) := by decide +kernel
theorem dX9_give_26 : decode cX9_give 26 = .ok (.putfield 55, 3) := by decide +kernel
theorem dX9_give_29 : decode cX9_give 29 = .ok (.return_, 1) := by decide +kernel
theorem e_127 (r : Nat) (a0 : Int32) (ws : ai_W) : ai_Call 127 [.ref r, .int a0] ws = if ai_isob ws r 9 = true then ai_Run 127 0 [.ref r, .int a0] [] ws else none := R_entV hk_127 ⟨⟨rfl, rfl⟩, Nat.le_of_ble_eq_true rfl⟩ rfl
theorem r_127_0 (l1 : Value) (a : Nat) (st : List Value) (ws : ai_W) : ai_Run 127 0 [.ref a, l1] st ws = ai_Run 127 1 [.ref a, l1] (.ref a :: st) ws := R_aload_n hc_127 dX9_give_0 rfl rfl
theorem r_127_1 (ls st : List Value) (a : Nat) (ws : ai_W) : ai_Run 127 1 ls (.ref a :: st) ws = (ai_fget ws a 9 2).bind fun q => ai_Run 127 4 ls (q :: st) ws := R_getf hc_127 dX9_give_1 hv_127 (w := 620) rfl rfl
theorem r_127_4 (l1 : Value) (a : Nat) (st : List Value) (ws : ai_W) : ai_Run 127 4 [.ref a, l1] st ws = ai_Run 127 5 [.ref a, l1] (.ref a :: st) ws := R_aload_n hc_127 dX9_give_4 rfl rfl
theorem r_127_5 (ls st : List Value) (a : Nat) (ws : ai_W) : ai_Run 127 5 ls (.ref a :: st) ws = (ai_fget ws a 9 4).bind fun q => ai_Run 127 8 ls (q :: st) ws := R_getf hc_127 dX9_give_5 hv_127 (w := 622) rfl rfl
theorem r_127_8 (ls st : List Value) (ws : ai_W) : ai_Run 127 8 ls st ws = ai_Run 127 9 ls (.int 3 :: st) ws := R_iconst hc_127 dX9_give_8 (by decide) rfl
theorem r_127_9 (ls st : List Value) (a b : Int32) (ws : ai_W) : ai_Run 127 9 ls (.int b :: .int a :: st) ws = ai_Run 127 10 ls (.int (a * b) :: st) ws := R_imul hc_127 dX9_give_9 rfl
theorem r_127_10 (l1 : Value) (a : Nat) (st : List Value) (ws : ai_W) : ai_Run 127 10 [.ref a, l1] st ws = ai_Run 127 11 [.ref a, l1] (.ref a :: st) ws := R_aload_n hc_127 dX9_give_10 rfl rfl
theorem r_127_11 (ls st : List Value) (a : Nat) (ws : ai_W) : ai_Run 127 11 ls (.ref a :: st) ws = (ai_fget ws a 9 6).bind fun q => ai_Run 127 14 ls (q :: st) ws := R_getf hc_127 dX9_give_11 hv_127 (w := 624) rfl rfl
theorem r_127_14 (ls st : List Value) (a b : Int32) (ws : ai_W) : ai_Run 127 14 ls (.int b :: .int a :: st) ws = ai_Run 127 15 ls (.int (a + b) :: st) ws := R_iadd hc_127 dX9_give_14 rfl
theorem r_127_15 (l0 : Value) (a : Int32) (st : List Value) (ws : ai_W) : ai_Run 127 15 [l0, .int a] st ws = ai_Run 127 16 [l0, .int a] (.int a :: st) ws := R_iload_n hc_127 dX9_give_15 rfl rfl
theorem r_127_16 (ls : List Value) (r : Nat) (b0 : Int32) (b1 : Int32) (ws : ai_W) : ai_Run 127 16 ls [.int b1, .int b0, .ref r] ws = (ai_Call 29 [.ref r, .int b0, .int b1] ws).bind fun q => ai_Run 127 19 ls (q.1.toList ++ []) q.2 := R_callV hc_127 dX9_give_16 hv_127 (w := 1032) rfl (ai_lt3 hf_29 hf_127 hL_29 ho_29 ho_127 rfl) hk_29 (by rw [hn_29]; rfl) rfl (Nat.le_of_ble_eq_true rfl) rfl
theorem r_127_19 (l1 : Value) (a : Nat) (st : List Value) (ws : ai_W) : ai_Run 127 19 [.ref a, l1] st ws = ai_Run 127 20 [.ref a, l1] (.ref a :: st) ws := R_aload_n hc_127 dX9_give_19 rfl rfl
theorem r_127_20 (ls st : List Value) (a : Nat) (ws : ai_W) : ai_Run 127 20 ls (.ref a :: st) ws = ai_Run 127 21 ls (.ref a :: .ref a :: st) ws := R_dup hc_127 dX9_give_20 rfl
theorem r_127_21 (ls st : List Value) (a : Nat) (ws : ai_W) : ai_Run 127 21 ls (.ref a :: st) ws = (ai_fget ws a 9 6).bind fun q => ai_Run 127 24 ls (q :: st) ws := R_getf hc_127 dX9_give_21 hv_127 (w := 624) rfl rfl
theorem r_127_24 (ls st : List Value) (ws : ai_W) : ai_Run 127 24 ls st ws = ai_Run 127 25 ls (.int 1 :: st) ws := R_iconst hc_127 dX9_give_24 (by decide) rfl
theorem r_127_25 (ls st : List Value) (a b : Int32) (ws : ai_W) : ai_Run 127 25 ls (.int b :: .int a :: st) ws = ai_Run 127 26 ls (.int (a + b) :: st) ws := R_iadd hc_127 dX9_give_25 rfl
theorem r_127_26 (ls st : List Value) (a : Nat) (x : Value) (ws : ai_W) : ai_Run 127 26 ls (x :: .ref a :: st) ws = (ai_fput ws a 9 6 x).bind fun ws => ai_Run 127 29 ls st ws := R_putf hc_127 dX9_give_26 hv_127 (w := 624) rfl rfl rfl
theorem r_127_29 (ls : List Value) (ws : ai_W) : ai_Run 127 29 ls [] ws = some (none, ws) := R_vret hc_127 dX9_give_29 ht_127
theorem dX9_takeDigit_0 : decode cX9_takeDigit 0 = .ok (.aload_n 0, 1) := by decide +kernel
theorem dX9_takeDigit_1 : decode cX9_takeDigit 1 = .ok (.invokevirtual 51, 3) := by decide +kernel
theorem dX9_takeDigit_4 : decode cX9_takeDigit 4 = .ok (.istore_n 1, 1) := by decide +kernel
theorem dX9_takeDigit_5 : decode cX9_takeDigit 5 = .ok (.iload_n 1, 1) := by decide +kernel
theorem dX9_takeDigit_6 : decode cX9_takeDigit 6 = .ok (.invokestatic 70, 3) := by decide +kernel
theorem dX9_takeDigit_9 : decode cX9_takeDigit 9 = .ok (.ifCond .ne 5, 3) := by decide +kernel
theorem dX9_takeDigit_12 : decode cX9_takeDigit 12 = .ok (.iconst 0, 1) := by decide +kernel
theorem dX9_takeDigit_13 : decode cX9_takeDigit 13 = .ok (.ireturn, 1) := by decide +kernel
theorem dX9_takeDigit_14 : decode cX9_takeDigit 14 = .ok (.aload_n 0, 1) := by decide +kernel
theorem dX9_takeDigit_15 : decode cX9_takeDigit 15 = .ok (.dup, 1) := by decide +kernel
theorem dX9_takeDigit_16 : decode cX9_takeDigit 16 = .ok (.getfield 40, 3) := by decide +kernel
theorem dX9_takeDigit_19 : decode cX9_takeDigit 19 = .ok (.iconst 1, 1) := by decide +kernel
theorem dX9_takeDigit_20 : decode cX9_takeDigit 20 = .ok (.iadd, 1) := by decide +kernel
theorem dX9_takeDigit_21 : decode cX9_takeDigit 21 = .ok (.putfield 40, 3) := by decide +kernel
theorem dX9_takeDigit_24 : decode cX9_takeDigit 24 = .ok (.aload_n 0, 1) := by decide +kernel
theorem dX9_takeDigit_25 : decode cX9_takeDigit 25 = .ok (.iload_n 1, 1) := by decide +kernel
theorem dX9_takeDigit_26 : decode cX9_takeDigit 26 = .ok (.bipush 48, 2) := by decide +kernel
theorem dX9_takeDigit_28 : decode cX9_takeDigit 28 = .ok (.isub, 1) := by decide +kernel
theorem dX9_takeDigit_29 : decode cX9_takeDigit 29 = .ok (.invokevirtual 73, 3) := by decide +kernel
theorem dX9_takeDigit_32 : decode cX9_takeDigit 32 = .ok (.iconst 1, 1) := by decide +kernel
theorem dX9_takeDigit_33 : decode cX9_takeDigit 33 = .ok (.ireturn, 1) := by decide +kernel
theorem e_128 (r : Nat)  (ws : ai_W) : ai_Call 128 [.ref r] ws = if ai_isob ws r 9 = true then ai_Run 128 0 [.ref r, .null] [] ws else none := R_entV hk_128 ⟨⟨rfl, rfl⟩, Nat.le_of_ble_eq_true rfl⟩ rfl
theorem r_128_0 (l1 : Value) (a : Nat) (st : List Value) (ws : ai_W) : ai_Run 128 0 [.ref a, l1] st ws = ai_Run 128 1 [.ref a, l1] (.ref a :: st) ws := R_aload_n hc_128 dX9_takeDigit_0 rfl rfl
theorem r_128_1 (ls : List Value) (r : Nat) (ws : ai_W) : ai_Run 128 1 ls [.ref r] ws = (ai_Call 124 [.ref r] ws).bind fun q => ai_Run 128 4 ls (q.1.toList ++ []) q.2 := R_callV hc_128 dX9_takeDigit_1 hv_128 (w := 1046) rfl (ai_lt3 hf_124 hf_128 hL_124 ho_124 ho_128 rfl) hk_124 (by rw [hn_124]; rfl) rfl (Nat.le_of_ble_eq_true rfl) rfl
theorem r_128_4 (l0 l1 : Value) (a : Int32) (st : List Value) (ws : ai_W) : ai_Run 128 4 [l0, l1] (.int a :: st) ws = ai_Run 128 5 [l0, .int a] st ws := R_istore_n hc_128 dX9_takeDigit_4 (Nat.le_of_ble_eq_true rfl) rfl rfl
theorem r_128_5 (l0 : Value) (a : Int32) (st : List Value) (ws : ai_W) : ai_Run 128 5 [l0, .int a] st ws = ai_Run 128 6 [l0, .int a] (.int a :: st) ws := R_iload_n hc_128 dX9_takeDigit_5 rfl rfl
theorem r_128_6 (ls : List Value) (b0 : Int32) (ws : ai_W) : ai_Run 128 6 ls [.int b0] ws = (ai_Call 126 [.int b0] ws).bind fun q => ai_Run 128 9 ls (q.1.toList ++ []) q.2 := R_callS hc_128 dX9_takeDigit_6 hv_128 (w := 1059) rfl (ai_lt3 hf_126 hf_128 hL_126 ho_126 ho_128 rfl) hk_126 (by rw [hn_126]; rfl) rfl (Nat.le_of_ble_eq_true rfl) rfl
theorem r_128_9 (ls st : List Value) (a : Int32) (ws : ai_W) : ai_Run 128 9 ls (.int a :: st) ws = if a = 0 then ai_Run 128 12 ls st ws else ai_Run 128 14 ls st ws := R_if_ne hc_128 dX9_takeDigit_9 rfl rfl
theorem r_128_12 (ls st : List Value) (ws : ai_W) : ai_Run 128 12 ls st ws = ai_Run 128 13 ls (.int 0 :: st) ws := R_iconst hc_128 dX9_takeDigit_12 (by decide) rfl
theorem r_128_13 (ls : List Value) (x : Int32) (ws : ai_W) : ai_Run 128 13 ls [.int x] ws = if ai_pb x = true then some (some (.int x), ws) else none := R_zret hc_128 dX9_takeDigit_13 ht_128
theorem r_128_14 (l1 : Value) (a : Nat) (st : List Value) (ws : ai_W) : ai_Run 128 14 [.ref a, l1] st ws = ai_Run 128 15 [.ref a, l1] (.ref a :: st) ws := R_aload_n hc_128 dX9_takeDigit_14 rfl rfl
theorem r_128_15 (ls st : List Value) (a : Nat) (ws : ai_W) : ai_Run 128 15 ls (.ref a :: st) ws = ai_Run 128 16 ls (.ref a :: .ref a :: st) ws := R_dup hc_128 dX9_takeDigit_15 rfl
theorem r_128_16 (ls st : List Value) (a : Nat) (ws : ai_W) : ai_Run 128 16 ls (.ref a :: st) ws = (ai_fget ws a 9 5).bind fun q => ai_Run 128 19 ls (q :: st) ws := R_getf hc_128 dX9_takeDigit_16 hv_128 (w := 623) rfl rfl
theorem r_128_19 (ls st : List Value) (ws : ai_W) : ai_Run 128 19 ls st ws = ai_Run 128 20 ls (.int 1 :: st) ws := R_iconst hc_128 dX9_takeDigit_19 (by decide) rfl
theorem r_128_20 (ls st : List Value) (a b : Int32) (ws : ai_W) : ai_Run 128 20 ls (.int b :: .int a :: st) ws = ai_Run 128 21 ls (.int (a + b) :: st) ws := R_iadd hc_128 dX9_takeDigit_20 rfl
theorem r_128_21 (ls st : List Value) (a : Nat) (x : Value) (ws : ai_W) : ai_Run 128 21 ls (x :: .ref a :: st) ws = (ai_fput ws a 9 5 x).bind fun ws => ai_Run 128 24 ls st ws := R_putf hc_128 dX9_takeDigit_21 hv_128 (w := 623) rfl rfl rfl
theorem r_128_24 (l1 : Value) (a : Nat) (st : List Value) (ws : ai_W) : ai_Run 128 24 [.ref a, l1] st ws = ai_Run 128 25 [.ref a, l1] (.ref a :: st) ws := R_aload_n hc_128 dX9_takeDigit_24 rfl rfl
theorem r_128_25 (l0 : Value) (a : Int32) (st : List Value) (ws : ai_W) : ai_Run 128 25 [l0, .int a] st ws = ai_Run 128 26 [l0, .int a] (.int a :: st) ws := R_iload_n hc_128 dX9_takeDigit_25 rfl rfl
theorem r_128_26 (ls st : List Value) (ws : ai_W) : ai_Run 128 26 ls st ws = ai_Run 128 28 ls (.int 48 :: st) ws := R_bipush hc_128 dX9_takeDigit_26 (by decide) rfl
theorem r_128_28 (ls st : List Value) (a b : Int32) (ws : ai_W) : ai_Run 128 28 ls (.int b :: .int a :: st) ws = ai_Run 128 29 ls (.int (a - b) :: st) ws := R_isub hc_128 dX9_takeDigit_28 rfl
theorem r_128_29 (ls : List Value) (r : Nat) (b0 : Int32) (ws : ai_W) : ai_Run 128 29 ls [.int b0, .ref r] ws = (ai_Call 127 [.ref r, .int b0] ws).bind fun q => ai_Run 128 32 ls (q.1.toList ++ []) q.2 := R_callV hc_128 dX9_takeDigit_29 hv_128 (w := 1062) rfl (ai_lt3 hf_127 hf_128 hL_127 ho_127 ho_128 rfl) hk_127 (by rw [hn_127]; rfl) rfl (Nat.le_of_ble_eq_true rfl) rfl
theorem r_128_32 (ls st : List Value) (ws : ai_W) : ai_Run 128 32 ls st ws = ai_Run 128 33 ls (.int 1 :: st) ws := R_iconst hc_128 dX9_takeDigit_32 (by decide) rfl
theorem r_128_33 (ls : List Value) (x : Int32) (ws : ai_W) : ai_Run 128 33 ls [.int x] ws = if ai_pb x = true then some (some (.int x), ws) else none := R_zret hc_128 dX9_takeDigit_33 ht_128
theorem dX9_takeNumber_0 : decode cX9_takeNumber 0 = .ok (.aload_n 0, 1) := by decide +kernel
theorem dX9_takeNumber_1 : decode cX9_takeNumber 1 = .ok (.invokevirtual 51, 3) := by decide +kernel
theorem dX9_takeNumber_4 : decode cX9_takeNumber 4 = .ok (.istore_n 1, 1) := by decide +kernel
theorem dX9_takeNumber_5 : decode cX9_takeNumber 5 = .ok (.iload_n 1, 1) := by decide +kernel
theorem dX9_takeNumber_6 : decode cX9_takeNumber 6 = .ok (.invokestatic 70, 3) := by decide +kernel
theorem dX9_takeNumber_9 : decode cX9_takeNumber 9 = .ok (.ifCond .ne 5, 3) := by decide +kernel
theorem dX9_takeNumber_12 : decode cX9_takeNumber 12 = .ok (.iconst 0, 1) := by decide +kernel
theorem dX9_takeNumber_13 : decode cX9_takeNumber 13 = .ok (.ireturn, 1) := by decide +kernel
theorem dX9_takeNumber_14 : decode cX9_takeNumber 14 = .ok (.aload_n 0, 1) := by decide +kernel
theorem dX9_takeNumber_15 : decode cX9_takeNumber 15 = .ok (.dup, 1) := by decide +kernel
theorem dX9_takeNumber_16 : decode cX9_takeNumber 16 = .ok (.getfield 40, 3) := by decide +kernel
theorem dX9_takeNumber_19 : decode cX9_takeNumber 19 = .ok (.iconst 1, 1) := by decide +kernel
theorem dX9_takeNumber_20 : decode cX9_takeNumber 20 = .ok (.iadd, 1) := by decide +kernel
theorem dX9_takeNumber_21 : decode cX9_takeNumber 21 = .ok (.putfield 40, 3) := by decide +kernel
theorem dX9_takeNumber_24 : decode cX9_takeNumber 24 = .ok (.iload_n 1, 1) := by decide +kernel
theorem dX9_takeNumber_25 : decode cX9_takeNumber 25 = .ok (.bipush 48, 2) := by decide +kernel
theorem dX9_takeNumber_27 : decode cX9_takeNumber 27 = .ok (.isub, 1) := by decide +kernel
theorem dX9_takeNumber_28 : decode cX9_takeNumber 28 = .ok (.istore_n 2, 1) := by decide +kernel
theorem dX9_takeNumber_29 : decode cX9_takeNumber 29 = .ok (.aload_n 0, 1) := by decide +kernel
theorem dX9_takeNumber_30 : decode cX9_takeNumber 30 = .ok (.invokevirtual 51, 3) := by decide +kernel
theorem dX9_takeNumber_33 : decode cX9_takeNumber 33 = .ok (.istore_n 3, 1) := by decide +kernel
theorem dX9_takeNumber_34 : decode cX9_takeNumber 34 = .ok (.iload_n 3, 1) := by decide +kernel
theorem dX9_takeNumber_35 : decode cX9_takeNumber 35 = .ok (.invokestatic 70, 3) := by decide +kernel
theorem dX9_takeNumber_38 : decode cX9_takeNumber 38 = .ok (.ifCond .eq 23, 3) := by decide +kernel
theorem dX9_takeNumber_41 : decode cX9_takeNumber 41 = .ok (.aload_n 0, 1) := by decide +kernel
theorem dX9_takeNumber_42 : decode cX9_takeNumber 42 = .ok (.dup, 1) := by decide +kernel
theorem dX9_takeNumber_43 : decode cX9_takeNumber 43 = .ok (.getfield 40, 3) := by decide +kernel
theorem dX9_takeNumber_46 : decode cX9_takeNumber 46 = .ok (.iconst 1, 1) := by decide +kernel
theorem dX9_takeNumber_47 : decode cX9_takeNumber 47 = .ok (.iadd, 1) := by decide +kernel
theorem dX9_takeNumber_48 : decode cX9_takeNumber 48 = .ok (.putfield 40, 3) := by decide +kernel
theorem dX9_takeNumber_51 : decode cX9_takeNumber 51 = .ok (.bipush 10, 2) := by decide +kernel
theorem dX9_takeNumber_53 : decode cX9_takeNumber 53 = .ok (.iload_n 2, 1) := by decide +kernel
theorem dX9_takeNumber_54 : decode cX9_takeNumber 54 = .ok (.imul, 1) := by decide +kernel
theorem dX9_takeNumber_55 : decode cX9_takeNumber 55 = .ok (.iload_n 3, 1) := by decide +kernel
theorem dX9_takeNumber_56 : decode cX9_takeNumber 56 = .ok (.iadd, 1) := by decide +kernel
theorem dX9_takeNumber_57 : decode cX9_takeNumber 57 = .ok (.bipush 48, 2) := by decide +kernel
theorem dX9_takeNumber_59 : decode cX9_takeNumber 59 = .ok (.isub, 1) := by decide +kernel
theorem dX9_takeNumber_60 : decode cX9_takeNumber 60 = .ok (.istore_n 2, 1) := by decide +kernel
theorem dX9_takeNumber_61 : decode cX9_takeNumber 61 = .ok (.aload_n 0, 1) := by decide +kernel
theorem dX9_takeNumber_62 : decode cX9_takeNumber 62 = .ok (.iload_n 2, 1) := by decide +kernel
theorem dX9_takeNumber_63 : decode cX9_takeNumber 63 = .ok (.invokevirtual 73, 3) := by decide +kernel
theorem dX9_takeNumber_66 : decode cX9_takeNumber 66 = .ok (.iconst 1, 1) := by decide +kernel
theorem dX9_takeNumber_67 : decode cX9_takeNumber 67 = .ok (.ireturn, 1) := by decide +kernel
theorem e_129 (r : Nat)  (ws : ai_W) : ai_Call 129 [.ref r] ws = if ai_isob ws r 9 = true then ai_Run 129 0 [.ref r, .null, .null, .null] [] ws else none := R_entV hk_129 ⟨⟨rfl, rfl⟩, Nat.le_of_ble_eq_true rfl⟩ rfl
theorem r_129_0 (l1 l2 l3 : Value) (a : Nat) (st : List Value) (ws : ai_W) : ai_Run 129 0 [.ref a, l1, l2, l3] st ws = ai_Run 129 1 [.ref a, l1, l2, l3] (.ref a :: st) ws := R_aload_n hc_129 dX9_takeNumber_0 rfl rfl
theorem r_129_1 (ls : List Value) (r : Nat) (ws : ai_W) : ai_Run 129 1 ls [.ref r] ws = (ai_Call 124 [.ref r] ws).bind fun q => ai_Run 129 4 ls (q.1.toList ++ []) q.2 := R_callV hc_129 dX9_takeNumber_1 hv_129 (w := 1046) rfl (ai_lt3 hf_124 hf_129 hL_124 ho_124 ho_129 rfl) hk_124 (by rw [hn_124]; rfl) rfl (Nat.le_of_ble_eq_true rfl) rfl
theorem r_129_4 (l0 l1 l2 l3 : Value) (a : Int32) (st : List Value) (ws : ai_W) : ai_Run 129 4 [l0, l1, l2, l3] (.int a :: st) ws = ai_Run 129 5 [l0, .int a, l2, l3] st ws := R_istore_n hc_129 dX9_takeNumber_4 (Nat.le_of_ble_eq_true rfl) rfl rfl
theorem r_129_5 (l0 l2 l3 : Value) (a : Int32) (st : List Value) (ws : ai_W) : ai_Run 129 5 [l0, .int a, l2, l3] st ws = ai_Run 129 6 [l0, .int a, l2, l3] (.int a :: st) ws := R_iload_n hc_129 dX9_takeNumber_5 rfl rfl
theorem r_129_6 (ls : List Value) (b0 : Int32) (ws : ai_W) : ai_Run 129 6 ls [.int b0] ws = (ai_Call 126 [.int b0] ws).bind fun q => ai_Run 129 9 ls (q.1.toList ++ []) q.2 := R_callS hc_129 dX9_takeNumber_6 hv_129 (w := 1059) rfl (ai_lt3 hf_126 hf_129 hL_126 ho_126 ho_129 rfl) hk_126 (by rw [hn_126]; rfl) rfl (Nat.le_of_ble_eq_true rfl) rfl
theorem r_129_9 (ls st : List Value) (a : Int32) (ws : ai_W) : ai_Run 129 9 ls (.int a :: st) ws = if a = 0 then ai_Run 129 12 ls st ws else ai_Run 129 14 ls st ws := R_if_ne hc_129 dX9_takeNumber_9 rfl rfl
theorem r_129_12 (ls st : List Value) (ws : ai_W) : ai_Run 129 12 ls st ws = ai_Run 129 13 ls (.int 0 :: st) ws := R_iconst hc_129 dX9_takeNumber_12 (by decide) rfl
theorem r_129_13 (ls : List Value) (x : Int32) (ws : ai_W) : ai_Run 129 13 ls [.int x] ws = if ai_pb x = true then some (some (.int x), ws) else none := R_zret hc_129 dX9_takeNumber_13 ht_129
theorem r_129_14 (l1 l2 l3 : Value) (a : Nat) (st : List Value) (ws : ai_W) : ai_Run 129 14 [.ref a, l1, l2, l3] st ws = ai_Run 129 15 [.ref a, l1, l2, l3] (.ref a :: st) ws := R_aload_n hc_129 dX9_takeNumber_14 rfl rfl
theorem r_129_15 (ls st : List Value) (a : Nat) (ws : ai_W) : ai_Run 129 15 ls (.ref a :: st) ws = ai_Run 129 16 ls (.ref a :: .ref a :: st) ws := R_dup hc_129 dX9_takeNumber_15 rfl
theorem r_129_16 (ls st : List Value) (a : Nat) (ws : ai_W) : ai_Run 129 16 ls (.ref a :: st) ws = (ai_fget ws a 9 5).bind fun q => ai_Run 129 19 ls (q :: st) ws := R_getf hc_129 dX9_takeNumber_16 hv_129 (w := 623) rfl rfl
theorem r_129_19 (ls st : List Value) (ws : ai_W) : ai_Run 129 19 ls st ws = ai_Run 129 20 ls (.int 1 :: st) ws := R_iconst hc_129 dX9_takeNumber_19 (by decide) rfl
theorem r_129_20 (ls st : List Value) (a b : Int32) (ws : ai_W) : ai_Run 129 20 ls (.int b :: .int a :: st) ws = ai_Run 129 21 ls (.int (a + b) :: st) ws := R_iadd hc_129 dX9_takeNumber_20 rfl
theorem r_129_21 (ls st : List Value) (a : Nat) (x : Value) (ws : ai_W) : ai_Run 129 21 ls (x :: .ref a :: st) ws = (ai_fput ws a 9 5 x).bind fun ws => ai_Run 129 24 ls st ws := R_putf hc_129 dX9_takeNumber_21 hv_129 (w := 623) rfl rfl rfl
theorem r_129_24 (l0 l2 l3 : Value) (a : Int32) (st : List Value) (ws : ai_W) : ai_Run 129 24 [l0, .int a, l2, l3] st ws = ai_Run 129 25 [l0, .int a, l2, l3] (.int a :: st) ws := R_iload_n hc_129 dX9_takeNumber_24 rfl rfl
theorem r_129_25 (ls st : List Value) (ws : ai_W) : ai_Run 129 25 ls st ws = ai_Run 129 27 ls (.int 48 :: st) ws := R_bipush hc_129 dX9_takeNumber_25 (by decide) rfl
theorem r_129_27 (ls st : List Value) (a b : Int32) (ws : ai_W) : ai_Run 129 27 ls (.int b :: .int a :: st) ws = ai_Run 129 28 ls (.int (a - b) :: st) ws := R_isub hc_129 dX9_takeNumber_27 rfl
theorem r_129_28 (l0 l1 l2 l3 : Value) (a : Int32) (st : List Value) (ws : ai_W) : ai_Run 129 28 [l0, l1, l2, l3] (.int a :: st) ws = ai_Run 129 29 [l0, l1, .int a, l3] st ws := R_istore_n hc_129 dX9_takeNumber_28 (Nat.le_of_ble_eq_true rfl) rfl rfl
theorem r_129_29 (l1 l2 l3 : Value) (a : Nat) (st : List Value) (ws : ai_W) : ai_Run 129 29 [.ref a, l1, l2, l3] st ws = ai_Run 129 30 [.ref a, l1, l2, l3] (.ref a :: st) ws := R_aload_n hc_129 dX9_takeNumber_29 rfl rfl
theorem r_129_30 (ls : List Value) (r : Nat) (ws : ai_W) : ai_Run 129 30 ls [.ref r] ws = (ai_Call 124 [.ref r] ws).bind fun q => ai_Run 129 33 ls (q.1.toList ++ []) q.2 := R_callV hc_129 dX9_takeNumber_30 hv_129 (w := 1046) rfl (ai_lt3 hf_124 hf_129 hL_124 ho_124 ho_129 rfl) hk_124 (by rw [hn_124]; rfl) rfl (Nat.le_of_ble_eq_true rfl) rfl
theorem r_129_33 (l0 l1 l2 l3 : Value) (a : Int32) (st : List Value) (ws : ai_W) : ai_Run 129 33 [l0, l1, l2, l3] (.int a :: st) ws = ai_Run 129 34 [l0, l1, l2, .int a] st ws := R_istore_n hc_129 dX9_takeNumber_33 (Nat.le_of_ble_eq_true rfl) rfl rfl
theorem r_129_34 (l0 l1 l2 : Value) (a : Int32) (st : List Value) (ws : ai_W) : ai_Run 129 34 [l0, l1, l2, .int a] st ws = ai_Run 129 35 [l0, l1, l2, .int a] (.int a :: st) ws := R_iload_n hc_129 dX9_takeNumber_34 rfl rfl
theorem r_129_35 (ls : List Value) (b0 : Int32) (ws : ai_W) : ai_Run 129 35 ls [.int b0] ws = (ai_Call 126 [.int b0] ws).bind fun q => ai_Run 129 38 ls (q.1.toList ++ []) q.2 := R_callS hc_129 dX9_takeNumber_35 hv_129 (w := 1059) rfl (ai_lt3 hf_126 hf_129 hL_126 ho_126 ho_129 rfl) hk_126 (by rw [hn_126]; rfl) rfl (Nat.le_of_ble_eq_true rfl) rfl
theorem r_129_38 (ls st : List Value) (a : Int32) (ws : ai_W) : ai_Run 129 38 ls (.int a :: st) ws = if a = 0 then ai_Run 129 61 ls st ws else ai_Run 129 41 ls st ws := R_if_eq hc_129 dX9_takeNumber_38 rfl rfl
theorem r_129_41 (l1 l2 l3 : Value) (a : Nat) (st : List Value) (ws : ai_W) : ai_Run 129 41 [.ref a, l1, l2, l3] st ws = ai_Run 129 42 [.ref a, l1, l2, l3] (.ref a :: st) ws := R_aload_n hc_129 dX9_takeNumber_41 rfl rfl
theorem r_129_42 (ls st : List Value) (a : Nat) (ws : ai_W) : ai_Run 129 42 ls (.ref a :: st) ws = ai_Run 129 43 ls (.ref a :: .ref a :: st) ws := R_dup hc_129 dX9_takeNumber_42 rfl
theorem r_129_43 (ls st : List Value) (a : Nat) (ws : ai_W) : ai_Run 129 43 ls (.ref a :: st) ws = (ai_fget ws a 9 5).bind fun q => ai_Run 129 46 ls (q :: st) ws := R_getf hc_129 dX9_takeNumber_43 hv_129 (w := 623) rfl rfl
theorem r_129_46 (ls st : List Value) (ws : ai_W) : ai_Run 129 46 ls st ws = ai_Run 129 47 ls (.int 1 :: st) ws := R_iconst hc_129 dX9_takeNumber_46 (by decide) rfl
theorem r_129_47 (ls st : List Value) (a b : Int32) (ws : ai_W) : ai_Run 129 47 ls (.int b :: .int a :: st) ws = ai_Run 129 48 ls (.int (a + b) :: st) ws := R_iadd hc_129 dX9_takeNumber_47 rfl
theorem r_129_48 (ls st : List Value) (a : Nat) (x : Value) (ws : ai_W) : ai_Run 129 48 ls (x :: .ref a :: st) ws = (ai_fput ws a 9 5 x).bind fun ws => ai_Run 129 51 ls st ws := R_putf hc_129 dX9_takeNumber_48 hv_129 (w := 623) rfl rfl rfl
theorem r_129_51 (ls st : List Value) (ws : ai_W) : ai_Run 129 51 ls st ws = ai_Run 129 53 ls (.int 10 :: st) ws := R_bipush hc_129 dX9_takeNumber_51 (by decide) rfl
theorem r_129_53 (l0 l1 l3 : Value) (a : Int32) (st : List Value) (ws : ai_W) : ai_Run 129 53 [l0, l1, .int a, l3] st ws = ai_Run 129 54 [l0, l1, .int a, l3] (.int a :: st) ws := R_iload_n hc_129 dX9_takeNumber_53 rfl rfl
theorem r_129_54 (ls st : List Value) (a b : Int32) (ws : ai_W) : ai_Run 129 54 ls (.int b :: .int a :: st) ws = ai_Run 129 55 ls (.int (a * b) :: st) ws := R_imul hc_129 dX9_takeNumber_54 rfl
theorem r_129_55 (l0 l1 l2 : Value) (a : Int32) (st : List Value) (ws : ai_W) : ai_Run 129 55 [l0, l1, l2, .int a] st ws = ai_Run 129 56 [l0, l1, l2, .int a] (.int a :: st) ws := R_iload_n hc_129 dX9_takeNumber_55 rfl rfl
theorem r_129_56 (ls st : List Value) (a b : Int32) (ws : ai_W) : ai_Run 129 56 ls (.int b :: .int a :: st) ws = ai_Run 129 57 ls (.int (a + b) :: st) ws := R_iadd hc_129 dX9_takeNumber_56 rfl
theorem r_129_57 (ls st : List Value) (ws : ai_W) : ai_Run 129 57 ls st ws = ai_Run 129 59 ls (.int 48 :: st) ws := R_bipush hc_129 dX9_takeNumber_57 (by decide) rfl
theorem r_129_59 (ls st : List Value) (a b : Int32) (ws : ai_W) : ai_Run 129 59 ls (.int b :: .int a :: st) ws = ai_Run 129 60 ls (.int (a - b) :: st) ws := R_isub hc_129 dX9_takeNumber_59 rfl
theorem r_129_60 (l0 l1 l2 l3 : Value) (a : Int32) (st : List Value) (ws : ai_W) : ai_Run 129 60 [l0, l1, l2, l3] (.int a :: st) ws = ai_Run 129 61 [l0, l1, .int a, l3] st ws := R_istore_n hc_129 dX9_takeNumber_60 (Nat.le_of_ble_eq_true rfl) rfl rfl
theorem r_129_61 (l1 l2 l3 : Value) (a : Nat) (st : List Value) (ws : ai_W) : ai_Run 129 61 [.ref a, l1, l2, l3] st ws = ai_Run 129 62 [.ref a, l1, l2, l3] (.ref a :: st) ws := R_aload_n hc_129 dX9_takeNumber_61 rfl rfl
theorem r_129_62 (l0 l1 l3 : Value) (a : Int32) (st : List Value) (ws : ai_W) : ai_Run 129 62 [l0, l1, .int a, l3] st ws = ai_Run 129 63 [l0, l1, .int a, l3] (.int a :: st) ws := R_iload_n hc_129 dX9_takeNumber_62 rfl rfl
theorem r_129_63 (ls : List Value) (r : Nat) (b0 : Int32) (ws : ai_W) : ai_Run 129 63 ls [.int b0, .ref r] ws = (ai_Call 127 [.ref r, .int b0] ws).bind fun q => ai_Run 129 66 ls (q.1.toList ++ []) q.2 := R_callV hc_129 dX9_takeNumber_63 hv_129 (w := 1062) rfl (ai_lt3 hf_127 hf_129 hL_127 ho_127 ho_129 rfl) hk_127 (by rw [hn_127]; rfl) rfl (Nat.le_of_ble_eq_true rfl) rfl
theorem r_129_66 (ls st : List Value) (ws : ai_W) : ai_Run 129 66 ls st ws = ai_Run 129 67 ls (.int 1 :: st) ws := R_iconst hc_129 dX9_takeNumber_66 (by decide) rfl
theorem r_129_67 (ls : List Value) (x : Int32) (ws : ai_W) : ai_Run 129 67 ls [.int x] ws = if ai_pb x = true then some (some (.int x), ws) else none := R_zret hc_129 dX9_takeNumber_67 ht_129
theorem dX9_takePlusOrMinus_0 : decode cX9_takePlusOrMinus 0 = .ok (.aload_n 0, 1) := by decide +kernel
theorem dX9_takePlusOrMinus_1 : decode cX9_takePlusOrMinus 1 = .ok (.aload_n 0, 1) := by decide +kernel
theorem dX9_takePlusOrMinus_2 : decode cX9_takePlusOrMinus 2 = .ok (.invokevirtual 51, 3) := by decide +kernel
theorem dX9_takePlusOrMinus_5 : decode cX9_takePlusOrMinus 5 = .ok (.bipush 43, 2) := by decide +kernel
theorem dX9_takePlusOrMinus_7 : decode cX9_takePlusOrMinus 7 = .ok (.if_icmp .ne 7, 3) := by decide +kernel
theorem dX9_takePlusOrMinus_10 : decode cX9_takePlusOrMinus 10 = .ok (.iconst 1, 1) := by decide +kernel
theorem dX9_takePlusOrMinus_11 : decode cX9_takePlusOrMinus 11 = .ok (.goto 4, 3) := by decide +kernel
theorem dX9_takePlusOrMinus_14 : decode cX9_takePlusOrMinus 14 = .ok (.iconst 0, 1) := by decide +kernel
theorem dX9_takePlusOrMinus_15 : decode cX9_takePlusOrMinus 15 = .ok (.invokevirtual 73, 3) := by decide +kernel
theorem dX9_takePlusOrMinus_18 : decode cX9_takePlusOrMinus 18 = .ok (.aload_n 0, 1) := by decide +kernel
theorem dX9_takePlusOrMinus_19 : decode cX9_takePlusOrMinus 19 = .ok (.bipush 43, 2) := by decide +kernel
theorem dX9_takePlusOrMinus_21 : decode cX9_takePlusOrMinus 21 = .ok (.invokevirtual 47, 3) := by decide +kernel
theorem dX9_takePlusOrMinus_24 : decode cX9_takePlusOrMinus 24 = .ok (.ifCond .ne 12, 3) := by decide +kernel
theorem dX9_takePlusOrMinus_27 : decode cX9_takePlusOrMinus 27 = .ok (.aload_n 0, 1) := by decide +kernel
theorem dX9_takePlusOrMinus_28 : decode cX9_takePlusOrMinus 28 = .ok (.bipush 45, 2) := by decide +kernel
theorem dX9_takePlusOrMinus_30 : decode cX9_takePlusOrMinus 30 = .ok (.invokevirtual 47, 3) := by decide +kernel
theorem dX9_takePlusOrMinus_33 : decode cX9_takePlusOrMinus 33 = .ok (.ifCond .eq 7, 3) := by decide +kernel
theorem dX9_takePlusOrMinus_36 : decode cX9_takePlusOrMinus 36 = .ok (.iconst 1, 1) := by decide +kernel
theorem dX9_takePlusOrMinus_37 : decode cX9_takePlusOrMinus 37 = .ok (.goto 4, 3) := by decide +kernel
theorem dX9_takePlusOrMinus_40 : decode cX9_takePlusOrMinus 40 = .ok (.iconst 0, 1) := by decide +kernel
theorem dX9_takePlusOrMinus_41 : decode cX9_takePlusOrMinus 41 = .ok (.ireturn, 1) := by decide +kernel
theorem e_130 (r : Nat)  (ws : ai_W) : ai_Call 130 [.ref r] ws = if ai_isob ws r 9 = true then ai_Run 130 0 [.ref r] [] ws else none := R_entV hk_130 ⟨⟨rfl, rfl⟩, Nat.le_of_ble_eq_true rfl⟩ rfl
theorem r_130_0 (a : Nat) (st : List Value) (ws : ai_W) : ai_Run 130 0 [.ref a] st ws = ai_Run 130 1 [.ref a] (.ref a :: st) ws := R_aload_n hc_130 dX9_takePlusOrMinus_0 rfl rfl
theorem r_130_1 (a : Nat) (st : List Value) (ws : ai_W) : ai_Run 130 1 [.ref a] st ws = ai_Run 130 2 [.ref a] (.ref a :: st) ws := R_aload_n hc_130 dX9_takePlusOrMinus_1 rfl rfl
theorem r_130_2 (ls : List Value) (r : Nat) (s0 : Value) (ws : ai_W) : ai_Run 130 2 ls [.ref r, s0] ws = (ai_Call 124 [.ref r] ws).bind fun q => ai_Run 130 5 ls (q.1.toList ++ [s0]) q.2 := R_callV hc_130 dX9_takePlusOrMinus_2 hv_130 (w := 1046) rfl (ai_lt3 hf_124 hf_130 hL_124 ho_124 ho_130 rfl) hk_124 (by rw [hn_124]; rfl) rfl (Nat.le_of_ble_eq_true rfl) rfl
theorem r_130_5 (ls st : List Value) (ws : ai_W) : ai_Run 130 5 ls st ws = ai_Run 130 7 ls (.int 43 :: st) ws := R_bipush hc_130 dX9_takePlusOrMinus_5 (by decide) rfl
theorem r_130_7 (ls st : List Value) (a b : Int32) (ws : ai_W) : ai_Run 130 7 ls (.int b :: .int a :: st) ws = if a = b then ai_Run 130 10 ls st ws else ai_Run 130 14 ls st ws := R_cmp_ne hc_130 dX9_takePlusOrMinus_7 rfl rfl
theorem r_130_10 (ls st : List Value) (ws : ai_W) : ai_Run 130 10 ls st ws = ai_Run 130 11 ls (.int 1 :: st) ws := R_iconst hc_130 dX9_takePlusOrMinus_10 (by decide) rfl
theorem r_130_11 (ls st : List Value) (ws : ai_W) : ai_Run 130 11 ls st ws = ai_Run 130 15 ls st ws := R_goto hc_130 dX9_takePlusOrMinus_11 rfl
theorem r_130_14 (ls st : List Value) (ws : ai_W) : ai_Run 130 14 ls st ws = ai_Run 130 15 ls (.int 0 :: st) ws := R_iconst hc_130 dX9_takePlusOrMinus_14 (by decide) rfl
theorem r_130_15 (ls : List Value) (r : Nat) (b0 : Int32) (ws : ai_W) : ai_Run 130 15 ls [.int b0, .ref r] ws = (ai_Call 127 [.ref r, .int b0] ws).bind fun q => ai_Run 130 18 ls (q.1.toList ++ []) q.2 := R_callV hc_130 dX9_takePlusOrMinus_15 hv_130 (w := 1062) rfl (ai_lt3 hf_127 hf_130 hL_127 ho_127 ho_130 rfl) hk_127 (by rw [hn_127]; rfl) rfl (Nat.le_of_ble_eq_true rfl) rfl
theorem r_130_18 (a : Nat) (st : List Value) (ws : ai_W) : ai_Run 130 18 [.ref a] st ws = ai_Run 130 19 [.ref a] (.ref a :: st) ws := R_aload_n hc_130 dX9_takePlusOrMinus_18 rfl rfl
theorem r_130_19 (ls st : List Value) (ws : ai_W) : ai_Run 130 19 ls st ws = ai_Run 130 21 ls (.int 43 :: st) ws := R_bipush hc_130 dX9_takePlusOrMinus_19 (by decide) rfl
theorem r_130_21 (ls : List Value) (r : Nat) (b0 : Int32) (ws : ai_W) : ai_Run 130 21 ls [.int b0, .ref r] ws = (ai_Call 125 [.ref r, .int b0] ws).bind fun q => ai_Run 130 24 ls (q.1.toList ++ []) q.2 := R_callV hc_130 dX9_takePlusOrMinus_21 hv_130 (w := 1051) rfl (ai_lt3 hf_125 hf_130 hL_125 ho_125 ho_130 rfl) hk_125 (by rw [hn_125]; rfl) rfl (Nat.le_of_ble_eq_true rfl) rfl
theorem r_130_24 (ls st : List Value) (a : Int32) (ws : ai_W) : ai_Run 130 24 ls (.int a :: st) ws = if a = 0 then ai_Run 130 27 ls st ws else ai_Run 130 36 ls st ws := R_if_ne hc_130 dX9_takePlusOrMinus_24 rfl rfl
theorem r_130_27 (a : Nat) (st : List Value) (ws : ai_W) : ai_Run 130 27 [.ref a] st ws = ai_Run 130 28 [.ref a] (.ref a :: st) ws := R_aload_n hc_130 dX9_takePlusOrMinus_27 rfl rfl
theorem r_130_28 (ls st : List Value) (ws : ai_W) : ai_Run 130 28 ls st ws = ai_Run 130 30 ls (.int 45 :: st) ws := R_bipush hc_130 dX9_takePlusOrMinus_28 (by decide) rfl
theorem r_130_30 (ls : List Value) (r : Nat) (b0 : Int32) (ws : ai_W) : ai_Run 130 30 ls [.int b0, .ref r] ws = (ai_Call 125 [.ref r, .int b0] ws).bind fun q => ai_Run 130 33 ls (q.1.toList ++ []) q.2 := R_callV hc_130 dX9_takePlusOrMinus_30 hv_130 (w := 1051) rfl (ai_lt3 hf_125 hf_130 hL_125 ho_125 ho_130 rfl) hk_125 (by rw [hn_125]; rfl) rfl (Nat.le_of_ble_eq_true rfl) rfl
theorem r_130_33 (ls st : List Value) (a : Int32) (ws : ai_W) : ai_Run 130 33 ls (.int a :: st) ws = if a = 0 then ai_Run 130 40 ls st ws else ai_Run 130 36 ls st ws := R_if_eq hc_130 dX9_takePlusOrMinus_33 rfl rfl
theorem r_130_36 (ls st : List Value) (ws : ai_W) : ai_Run 130 36 ls st ws = ai_Run 130 37 ls (.int 1 :: st) ws := R_iconst hc_130 dX9_takePlusOrMinus_36 (by decide) rfl
theorem r_130_37 (ls st : List Value) (ws : ai_W) : ai_Run 130 37 ls st ws = ai_Run 130 41 ls st ws := R_goto hc_130 dX9_takePlusOrMinus_37 rfl
theorem r_130_40 (ls st : List Value) (ws : ai_W) : ai_Run 130 40 ls st ws = ai_Run 130 41 ls (.int 0 :: st) ws := R_iconst hc_130 dX9_takePlusOrMinus_40 (by decide) rfl
theorem r_130_41 (ls : List Value) (x : Int32) (ws : ai_W) : ai_Run 130 41 ls [.int x] ws = if ai_pb x = true then some (some (.int x), ws) else none := R_zret hc_130 dX9_takePlusOrMinus_41 ht_130
theorem dX9_takeSeverityOrMinus_0 : decode cX9_takeSeverityOrMinus 0 = .ok (.aload_n 0, 1) := by decide +kernel
theorem dX9_takeSeverityOrMinus_1 : decode cX9_takeSeverityOrMinus 1 = .ok (.bipush 45, 2) := by decide +kernel
theorem dX9_takeSeverityOrMinus_3 : decode cX9_takeSeverityOrMinus 3 = .ok (.invokevirtual 47, 3) := by decide +kernel
theorem dX9_takeSeverityOrMinus_6 : decode cX9_takeSeverityOrMinus 6 = .ok (.ifCond .eq 10, 3) := by decide +kernel
theorem dX9_takeSeverityOrMinus_9 : decode cX9_takeSeverityOrMinus 9 = .ok (.aload_n 0, 1) := by decide +kernel
theorem dX9_takeSeverityOrMinus_10 : decode cX9_takeSeverityOrMinus 10 = .ok (.iconst (-1), 1) := by decide +kernel
theorem dX9_takeSeverityOrMinus_11 : decode cX9_takeSeverityOrMinus 11 = .ok (.invokevirtual 73, 3) := by decide +kernel
theorem dX9_takeSeverityOrMinus_14 : decode cX9_takeSeverityOrMinus 14 = .ok (.iconst 1, 1) := by decide +kernel
theorem dX9_takeSeverityOrMinus_15 : decode cX9_takeSeverityOrMinus 15 = .ok (.ireturn, 1) := by decide +kernel
theorem dX9_takeSeverityOrMinus_16 : decode cX9_takeSeverityOrMinus 16 = .ok (.aload_n 0, 1) := by decide +kernel
theorem dX9_takeSeverityOrMinus_17 : decode cX9_takeSeverityOrMinus 17 = .ok (.bipush 61, 2) := by decide +kernel
theorem dX9_takeSeverityOrMinus_19 : decode cX9_takeSeverityOrMinus 19 = .ok (.invokevirtual 47, 3) := by decide +kernel
theorem dX9_takeSeverityOrMinus_22 : decode cX9_takeSeverityOrMinus 22 = .ok (.ifCond .eq 14, 3) := by decide +kernel
theorem dX9_takeSeverityOrMinus_25 : decode cX9_takeSeverityOrMinus 25 = .ok (.aload_n 0, 1) := by decide +kernel
theorem dX9_takeSeverityOrMinus_26 : decode cX9_takeSeverityOrMinus 26 = .ok (.invokevirtual 58, 3) := by decide +kernel
theorem dX9_takeSeverityOrMinus_29 : decode cX9_takeSeverityOrMinus 29 = .ok (.ifCond .eq 7, 3) := by decide +kernel
theorem dX9_takeSeverityOrMinus_32 : decode cX9_takeSeverityOrMinus 32 = .ok (.iconst 1, 1) := by decide +kernel
theorem dX9_takeSeverityOrMinus_33 : decode cX9_takeSeverityOrMinus 33 = .ok (.goto 4, 3) := by decide +kernel
theorem dX9_takeSeverityOrMinus_36 : decode cX9_takeSeverityOrMinus 36 = .ok (.iconst 0, 1) := by decide +kernel
theorem dX9_takeSeverityOrMinus_37 : decode cX9_takeSeverityOrMinus 37 = .ok (.ireturn, 1) := by decide +kernel
theorem e_131 (r : Nat)  (ws : ai_W) : ai_Call 131 [.ref r] ws = if ai_isob ws r 9 = true then ai_Run 131 0 [.ref r] [] ws else none := R_entV hk_131 ⟨⟨rfl, rfl⟩, Nat.le_of_ble_eq_true rfl⟩ rfl
theorem r_131_0 (a : Nat) (st : List Value) (ws : ai_W) : ai_Run 131 0 [.ref a] st ws = ai_Run 131 1 [.ref a] (.ref a :: st) ws := R_aload_n hc_131 dX9_takeSeverityOrMinus_0 rfl rfl
theorem r_131_1 (ls st : List Value) (ws : ai_W) : ai_Run 131 1 ls st ws = ai_Run 131 3 ls (.int 45 :: st) ws := R_bipush hc_131 dX9_takeSeverityOrMinus_1 (by decide) rfl
theorem r_131_3 (ls : List Value) (r : Nat) (b0 : Int32) (ws : ai_W) : ai_Run 131 3 ls [.int b0, .ref r] ws = (ai_Call 125 [.ref r, .int b0] ws).bind fun q => ai_Run 131 6 ls (q.1.toList ++ []) q.2 := R_callV hc_131 dX9_takeSeverityOrMinus_3 hv_131 (w := 1051) rfl (ai_lt3 hf_125 hf_131 hL_125 ho_125 ho_131 rfl) hk_125 (by rw [hn_125]; rfl) rfl (Nat.le_of_ble_eq_true rfl) rfl
theorem r_131_6 (ls st : List Value) (a : Int32) (ws : ai_W) : ai_Run 131 6 ls (.int a :: st) ws = if a = 0 then ai_Run 131 16 ls st ws else ai_Run 131 9 ls st ws := R_if_eq hc_131 dX9_takeSeverityOrMinus_6 rfl rfl
theorem r_131_9 (a : Nat) (st : List Value) (ws : ai_W) : ai_Run 131 9 [.ref a] st ws = ai_Run 131 10 [.ref a] (.ref a :: st) ws := R_aload_n hc_131 dX9_takeSeverityOrMinus_9 rfl rfl
theorem r_131_10 (ls st : List Value) (ws : ai_W) : ai_Run 131 10 ls st ws = ai_Run 131 11 ls (.int (-1) :: st) ws := R_iconst hc_131 dX9_takeSeverityOrMinus_10 (by decide) rfl
theorem r_131_11 (ls : List Value) (r : Nat) (b0 : Int32) (ws : ai_W) : ai_Run 131 11 ls [.int b0, .ref r] ws = (ai_Call 127 [.ref r, .int b0] ws).bind fun q => ai_Run 131 14 ls (q.1.toList ++ []) q.2 := R_callV hc_131 dX9_takeSeverityOrMinus_11 hv_131 (w := 1062) rfl (ai_lt3 hf_127 hf_131 hL_127 ho_127 ho_131 rfl) hk_127 (by rw [hn_127]; rfl) rfl (Nat.le_of_ble_eq_true rfl) rfl
theorem r_131_14 (ls st : List Value) (ws : ai_W) : ai_Run 131 14 ls st ws = ai_Run 131 15 ls (.int 1 :: st) ws := R_iconst hc_131 dX9_takeSeverityOrMinus_14 (by decide) rfl
theorem r_131_15 (ls : List Value) (x : Int32) (ws : ai_W) : ai_Run 131 15 ls [.int x] ws = if ai_pb x = true then some (some (.int x), ws) else none := R_zret hc_131 dX9_takeSeverityOrMinus_15 ht_131
theorem r_131_16 (a : Nat) (st : List Value) (ws : ai_W) : ai_Run 131 16 [.ref a] st ws = ai_Run 131 17 [.ref a] (.ref a :: st) ws := R_aload_n hc_131 dX9_takeSeverityOrMinus_16 rfl rfl
theorem r_131_17 (ls st : List Value) (ws : ai_W) : ai_Run 131 17 ls st ws = ai_Run 131 19 ls (.int 61 :: st) ws := R_bipush hc_131 dX9_takeSeverityOrMinus_17 (by decide) rfl
theorem r_131_19 (ls : List Value) (r : Nat) (b0 : Int32) (ws : ai_W) : ai_Run 131 19 ls [.int b0, .ref r] ws = (ai_Call 125 [.ref r, .int b0] ws).bind fun q => ai_Run 131 22 ls (q.1.toList ++ []) q.2 := R_callV hc_131 dX9_takeSeverityOrMinus_19 hv_131 (w := 1051) rfl (ai_lt3 hf_125 hf_131 hL_125 ho_125 ho_131 rfl) hk_125 (by rw [hn_125]; rfl) rfl (Nat.le_of_ble_eq_true rfl) rfl
theorem r_131_22 (ls st : List Value) (a : Int32) (ws : ai_W) : ai_Run 131 22 ls (.int a :: st) ws = if a = 0 then ai_Run 131 36 ls st ws else ai_Run 131 25 ls st ws := R_if_eq hc_131 dX9_takeSeverityOrMinus_22 rfl rfl
theorem r_131_25 (a : Nat) (st : List Value) (ws : ai_W) : ai_Run 131 25 [.ref a] st ws = ai_Run 131 26 [.ref a] (.ref a :: st) ws := R_aload_n hc_131 dX9_takeSeverityOrMinus_25 rfl rfl
theorem r_131_26 (ls : List Value) (r : Nat) (ws : ai_W) : ai_Run 131 26 ls [.ref r] ws = (ai_Call 128 [.ref r] ws).bind fun q => ai_Run 131 29 ls (q.1.toList ++ []) q.2 := R_callV hc_131 dX9_takeSeverityOrMinus_26 hv_131 (w := 1055) rfl (ai_lt3 hf_128 hf_131 hL_128 ho_128 ho_131 rfl) hk_128 (by rw [hn_128]; rfl) rfl (Nat.le_of_ble_eq_true rfl) rfl
theorem r_131_29 (ls st : List Value) (a : Int32) (ws : ai_W) : ai_Run 131 29 ls (.int a :: st) ws = if a = 0 then ai_Run 131 36 ls st ws else ai_Run 131 32 ls st ws := R_if_eq hc_131 dX9_takeSeverityOrMinus_29 rfl rfl
theorem r_131_32 (ls st : List Value) (ws : ai_W) : ai_Run 131 32 ls st ws = ai_Run 131 33 ls (.int 1 :: st) ws := R_iconst hc_131 dX9_takeSeverityOrMinus_32 (by decide) rfl
theorem r_131_33 (ls st : List Value) (ws : ai_W) : ai_Run 131 33 ls st ws = ai_Run 131 37 ls st ws := R_goto hc_131 dX9_takeSeverityOrMinus_33 rfl
theorem r_131_36 (ls st : List Value) (ws : ai_W) : ai_Run 131 36 ls st ws = ai_Run 131 37 ls (.int 0 :: st) ws := R_iconst hc_131 dX9_takeSeverityOrMinus_36 (by decide) rfl
theorem r_131_37 (ls : List Value) (x : Int32) (ws : ai_W) : ai_Run 131 37 ls [.int x] ws = if ai_pb x = true then some (some (.int x), ws) else none := R_zret hc_131 dX9_takeSeverityOrMinus_37 ht_131
theorem dX9_takeCommand_0 : decode cX9_takeCommand 0 = .ok (.aload_n 0, 1) := by decide +kernel
theorem dX9_takeCommand_1 : decode cX9_takeCommand 1 = .ok (.invokevirtual 51, 3) := by decide +kernel
theorem dX9_takeCommand_4 : decode cX9_takeCommand 4 = .ok (.istore_n 1, 1) := by decide +kernel
theorem dX9_takeCommand_5 : decode cX9_takeCommand 5 = .ok (.aload_n 0, 1) := by decide +kernel
theorem dX9_takeCommand_6 : decode cX9_takeCommand 6 = .ok (.getfield 20, 3) := by decide +kernel
theorem dX9_takeCommand_9 : decode cX9_takeCommand 9 = .ok (.aload_n 0, 1) := by decide +kernel
theorem dX9_takeCommand_10 : decode cX9_takeCommand 10 = .ok (.getfield 33, 3) := by decide +kernel
theorem dX9_takeCommand_13 : decode cX9_takeCommand 13 = .ok (.iload_n 1, 1) := by decide +kernel
theorem dX9_takeCommand_14 : decode cX9_takeCommand 14 = .ok (.invokevirtual 30, 3) := by decide +kernel
theorem dX9_takeCommand_17 : decode cX9_takeCommand 17 = .ok (.aload_n 0, 1) := by decide +kernel
theorem dX9_takeCommand_18 : decode cX9_takeCommand 18 = .ok (.iconst 0, 1) := by decide +kernel
theorem dX9_takeCommand_19 : decode cX9_takeCommand 19 = .ok (.putfield 55, 3) := by decide +kernel
theorem dX9_takeCommand_22 : decode cX9_takeCommand 22 = .ok (.iload_n 1, 1) := by decide +kernel
theorem dX9_takeCommand_23 : decode cX9_takeCommand 23 = .ok (.tableswitch 345 97 120 #[109, 345, 109, 115, 345, 345, 345, 345, 345, 282, 345, 345, 238, 345, 210, 345, 345, 115, 345, 310, 345, 345, 173, 152], 109) := by decide +kernel
theorem dX9_takeCommand_132 : decode cX9_takeCommand 132 = .ok (.aload_n 0, 1) := by decide +kernel
theorem dX9_takeCommand_133 : decode cX9_takeCommand 133 = .ok (.iload_n 1, 1) := by decide +kernel
theorem dX9_takeCommand_134 : decode cX9_takeCommand 134 = .ok (.invokevirtual 47, 3) := by decide +kernel
theorem dX9_takeCommand_137 : decode cX9_takeCommand 137 = .ok (.ireturn, 1) := by decide +kernel
theorem dX9_takeCommand_138 : decode cX9_takeCommand 138 = .ok (.aload_n 0, 1) := by decide +kernel
theorem dX9_takeCommand_139 : decode cX9_takeCommand 139 = .ok (.iload_n 1, 1) := by decide +kernel
theorem dX9_takeCommand_140 : decode cX9_takeCommand 140 = .ok (.invokevirtual 47, 3) := by decide +kernel
theorem dX9_takeCommand_143 : decode cX9_takeCommand 143 = .ok (.ifCond .eq 30, 3) := by decide +kernel
theorem dX9_takeCommand_146 : decode cX9_takeCommand 146 = .ok (.aload_n 0, 1) := by decide +kernel
theorem dX9_takeCommand_147 : decode cX9_takeCommand 147 = .ok (.invokevirtual 58, 3) := by decide +kernel
theorem dX9_takeCommand_150 : decode cX9_takeCommand 150 = .ok (.ifCond .eq 23, 3) := by decide +kernel
theorem dX9_takeCommand_153 : decode cX9_takeCommand 153 = .ok (.aload_n 0, 1) := by decide +kernel
theorem dX9_takeCommand_154 : decode cX9_takeCommand 154 = .ok (.bipush 64, 2) := by decide +kernel
theorem dX9_takeCommand_156 : decode cX9_takeCommand 156 = .ok (.invokevirtual 47, 3) := by decide +kernel
theorem dX9_takeCommand_159 : decode cX9_takeCommand 159 = .ok (.ifCond .eq 14, 3) := by decide +kernel
theorem dX9_takeCommand_162 : decode cX9_takeCommand 162 = .ok (.aload_n 0, 1) := by decide +kernel
theorem dX9_takeCommand_163 : decode cX9_takeCommand 163 = .ok (.invokevirtual 61, 3) := by decide +kernel
theorem dX9_takeCommand_166 : decode cX9_takeCommand 166 = .ok (.ifCond .eq 7, 3) := by decide +kernel
theorem dX9_takeCommand_169 : decode cX9_takeCommand 169 = .ok (.iconst 1, 1) := by decide +kernel
theorem dX9_takeCommand_170 : decode cX9_takeCommand 170 = .ok (.goto 4, 3) := by decide +kernel
theorem dX9_takeCommand_173 : decode cX9_takeCommand 173 = .ok (.iconst 0, 1) := by decide +kernel
theorem dX9_takeCommand_174 : decode cX9_takeCommand 174 = .ok (.ireturn, 1) := by decide +kernel
theorem dX9_takeCommand_175 : decode cX9_takeCommand 175 = .ok (.aload_n 0, 1) := by decide +kernel
theorem dX9_takeCommand_176 : decode cX9_takeCommand 176 = .ok (.iload_n 1, 1) := by decide +kernel
theorem dX9_takeCommand_177 : decode cX9_takeCommand 177 = .ok (.invokevirtual 47, 3) := by decide +kernel
theorem dX9_takeCommand_180 : decode cX9_takeCommand 180 = .ok (.ifCond .eq 14, 3) := by decide +kernel
theorem dX9_takeCommand_183 : decode cX9_takeCommand 183 = .ok (.aload_n 0, 1) := by decide +kernel
theorem dX9_takeCommand_184 : decode cX9_takeCommand 184 = .ok (.invokevirtual 58, 3) := by decide +kernel
theorem dX9_takeCommand_187 : decode cX9_takeCommand 187 = .ok (.ifCond .eq 7, 3) := by decide +kernel
theorem dX9_takeCommand_190 : decode cX9_takeCommand 190 = .ok (.iconst 1, 1) := by decide +kernel
theorem dX9_takeCommand_191 : decode cX9_takeCommand 191 = .ok (.goto 4, 3) := by decide +kernel
theorem dX9_takeCommand_194 : decode cX9_takeCommand 194 = .ok (.iconst 0, 1) := by decide +kernel
theorem dX9_takeCommand_195 : decode cX9_takeCommand 195 = .ok (.ireturn, 1) := by decide +kernel
theorem dX9_takeCommand_196 : decode cX9_takeCommand 196 = .ok (.aload_n 0, 1) := by decide +kernel
theorem dX9_takeCommand_197 : decode cX9_takeCommand 197 = .ok (.iload_n 1, 1) := by decide +kernel
theorem dX9_takeCommand_198 : decode cX9_takeCommand 198 = .ok (.invokevirtual 47, 3) := by decide +kernel
theorem dX9_takeCommand_201 : decode cX9_takeCommand 201 = .ok (.ifCond .eq 30, 3) := by decide +kernel
theorem dX9_takeCommand_204 : decode cX9_takeCommand 204 = .ok (.aload_n 0, 1) := by decide +kernel
theorem dX9_takeCommand_205 : decode cX9_takeCommand 205 = .ok (.invokevirtual 61, 3) := by decide +kernel
theorem dX9_takeCommand_208 : decode cX9_takeCommand 208 = .ok (.ifCond .eq 23, 3) := by decide +kernel
theorem dX9_takeCommand_211 : decode cX9_takeCommand 211 = .ok (.aload_n 0, 1) := by decide +kernel
theorem dX9_takeCommand_212 : decode cX9_takeCommand 212 = .ok (.bipush 64, 2) := by decide +kernel
theorem dX9_takeCommand_214 : decode cX9_takeCommand 214 = .ok (.invokevirtual 47, 3) := by decide +kernel
theorem dX9_takeCommand_217 : decode cX9_takeCommand 217 = .ok (.ifCond .eq 14, 3) := by decide +kernel
theorem dX9_takeCommand_220 : decode cX9_takeCommand 220 = .ok (.aload_n 0, 1) := by decide +kernel
theorem dX9_takeCommand_221 : decode cX9_takeCommand 221 = .ok (.invokevirtual 58, 3) := by decide +kernel
theorem dX9_takeCommand_224 : decode cX9_takeCommand 224 = .ok (.ifCond .eq 7, 3) := by decide +kernel
theorem dX9_takeCommand_227 : decode cX9_takeCommand 227 = .ok (.iconst 1, 1) := by decide +kernel
theorem dX9_takeCommand_228 : decode cX9_takeCommand 228 = .ok (.goto 4, 3) := by decide +kernel
theorem dX9_takeCommand_231 : decode cX9_takeCommand 231 = .ok (.iconst 0, 1) := by decide +kernel
theorem dX9_takeCommand_232 : decode cX9_takeCommand 232 = .ok (.ireturn, 1) := by decide +kernel
theorem dX9_takeCommand_233 : decode cX9_takeCommand 233 = .ok (.aload_n 0, 1) := by decide +kernel
theorem dX9_takeCommand_234 : decode cX9_takeCommand 234 = .ok (.iload_n 1, 1) := by decide +kernel
theorem dX9_takeCommand_235 : decode cX9_takeCommand 235 = .ok (.invokevirtual 47, 3) := by decide +kernel
theorem dX9_takeCommand_238 : decode cX9_takeCommand 238 = .ok (.ifCond .eq 21, 3) := by decide +kernel
theorem dX9_takeCommand_241 : decode cX9_takeCommand 241 = .ok (.aload_n 0, 1) := by decide +kernel
theorem dX9_takeCommand_242 : decode cX9_takeCommand 242 = .ok (.invokevirtual 58, 3) := by decide +kernel
theorem dX9_takeCommand_245 : decode cX9_takeCommand 245 = .ok (.ifCond .eq 14, 3) := by decide +kernel
theorem dX9_takeCommand_248 : decode cX9_takeCommand 248 = .ok (.aload_n 0, 1) := by decide +kernel
theorem dX9_takeCommand_249 : decode cX9_takeCommand 249 = .ok (.invokevirtual 64, 3) := by decide +kernel
theorem dX9_takeCommand_252 : decode cX9_takeCommand 252 = .ok (.ifCond .eq 7, 3) := by decide +kernel
theorem dX9_takeCommand_255 : decode cX9_takeCommand 255 = .ok (.iconst 1, 1) := by decide +kernel
theorem dX9_takeCommand_256 : decode cX9_takeCommand 256 = .ok (.goto 4, 3) := by decide +kernel
theorem dX9_takeCommand_259 : decode cX9_takeCommand 259 = .ok (.iconst 0, 1) := by decide +kernel
theorem dX9_takeCommand_260 : decode cX9_takeCommand 260 = .ok (.ireturn, 1) := by decide +kernel
theorem dX9_takeCommand_261 : decode cX9_takeCommand 261 = .ok (.aload_n 0, 1) := by decide +kernel
theorem dX9_takeCommand_262 : decode cX9_takeCommand 262 = .ok (.iload_n 1, 1) := by decide +kernel
theorem dX9_takeCommand_263 : decode cX9_takeCommand 263 = .ok (.invokevirtual 47, 3) := by decide +kernel
theorem dX9_takeCommand_266 : decode cX9_takeCommand 266 = .ok (.ifCond .eq 37, 3) := by decide +kernel
theorem dX9_takeCommand_269 : decode cX9_takeCommand 269 = .ok (.aload_n 0, 1) := by decide +kernel
theorem dX9_takeCommand_270 : decode cX9_takeCommand 270 = .ok (.invokevirtual 58, 3) := by decide +kernel
theorem dX9_takeCommand_273 : decode cX9_takeCommand 273 = .ok (.ifCond .eq 30, 3) := by decide +kernel
theorem dX9_takeCommand_276 : decode cX9_takeCommand 276 = .ok (.aload_n 0, 1) := by decide +kernel
theorem dX9_takeCommand_277 : decode cX9_takeCommand 277 = .ok (.invokevirtual 58, 3) := by decide +kernel
theorem dX9_takeCommand_280 : decode cX9_takeCommand 280 = .ok (.ifCond .eq 23, 3) := by decide +kernel
theorem dX9_takeCommand_283 : decode cX9_takeCommand 283 = .ok (.aload_n 0, 1) := by decide +kernel
theorem dX9_takeCommand_284 : decode cX9_takeCommand 284 = .ok (.bipush 61, 2) := by decide +kernel
theorem dX9_takeCommand_286 : decode cX9_takeCommand 286 = .ok (.invokevirtual 47, 3) := by decide +kernel
theorem dX9_takeCommand_289 : decode cX9_takeCommand 289 = .ok (.ifCond .eq 14, 3) := by decide +kernel
theorem dX9_takeCommand_292 : decode cX9_takeCommand 292 = .ok (.aload_n 0, 1) := by decide +kernel
theorem dX9_takeCommand_293 : decode cX9_takeCommand 293 = .ok (.invokevirtual 58, 3) := by decide +kernel
theorem dX9_takeCommand_296 : decode cX9_takeCommand 296 = .ok (.ifCond .eq 7, 3) := by decide +kernel
theorem dX9_takeCommand_299 : decode cX9_takeCommand 299 = .ok (.iconst 1, 1) := by decide +kernel
theorem dX9_takeCommand_300 : decode cX9_takeCommand 300 = .ok (.goto 4, 3) := by decide +kernel
theorem dX9_takeCommand_303 : decode cX9_takeCommand 303 = .ok (.iconst 0, 1) := by decide +kernel
theorem dX9_takeCommand_304 : decode cX9_takeCommand 304 = .ok (.ireturn, 1) := by decide +kernel
theorem dX9_takeCommand_305 : decode cX9_takeCommand 305 = .ok (.aload_n 0, 1) := by decide +kernel
theorem dX9_takeCommand_306 : decode cX9_takeCommand 306 = .ok (.iload_n 1, 1) := by decide +kernel
theorem dX9_takeCommand_307 : decode cX9_takeCommand 307 = .ok (.invokevirtual 47, 3) := by decide +kernel
theorem dX9_takeCommand_310 : decode cX9_takeCommand 310 = .ok (.ifCond .eq 21, 3) := by decide +kernel
theorem dX9_takeCommand_313 : decode cX9_takeCommand 313 = .ok (.aload_n 0, 1) := by decide +kernel
theorem dX9_takeCommand_314 : decode cX9_takeCommand 314 = .ok (.invokevirtual 58, 3) := by decide +kernel
theorem dX9_takeCommand_317 : decode cX9_takeCommand 317 = .ok (.ifCond .eq 14, 3) := by decide +kernel
theorem dX9_takeCommand_320 : decode cX9_takeCommand 320 = .ok (.aload_n 0, 1) := by decide +kernel
theorem dX9_takeCommand_321 : decode cX9_takeCommand 321 = .ok (.invokevirtual 67, 3) := by decide +kernel
theorem dX9_takeCommand_324 : decode cX9_takeCommand 324 = .ok (.ifCond .eq 7, 3) := by decide +kernel
theorem dX9_takeCommand_327 : decode cX9_takeCommand 327 = .ok (.iconst 1, 1) := by decide +kernel
theorem dX9_takeCommand_328 : decode cX9_takeCommand 328 = .ok (.goto 4, 3) := by decide +kernel
theorem dX9_takeCommand_331 : decode cX9_takeCommand 331 = .ok (.iconst 0, 1) := by decide +kernel
theorem dX9_takeCommand_332 : decode cX9_takeCommand 332 = .ok (.ireturn, 1) := by decide +kernel
theorem dX9_takeCommand_333 : decode cX9_takeCommand 333 = .ok (.aload_n 0, 1) := by decide +kernel
theorem dX9_takeCommand_334 : decode cX9_takeCommand 334 = .ok (.iload_n 1, 1) := by decide +kernel
theorem dX9_takeCommand_335 : decode cX9_takeCommand 335 = .ok (.invokevirtual 47, 3) := by decide +kernel
theorem dX9_takeCommand_338 : decode cX9_takeCommand 338 = .ok (.ifCond .eq 28, 3) := by decide +kernel
theorem dX9_takeCommand_341 : decode cX9_takeCommand 341 = .ok (.aload_n 0, 1) := by decide +kernel
theorem dX9_takeCommand_342 : decode cX9_takeCommand 342 = .ok (.invokevirtual 58, 3) := by decide +kernel
theorem dX9_takeCommand_345 : decode cX9_takeCommand 345 = .ok (.ifCond .eq 21, 3) := by decide +kernel
theorem dX9_takeCommand_348 : decode cX9_takeCommand 348 = .ok (.aload_n 0, 1) := by decide +kernel
theorem dX9_takeCommand_349 : decode cX9_takeCommand 349 = .ok (.invokevirtual 58, 3) := by decide +kernel
theorem dX9_takeCommand_352 : decode cX9_takeCommand 352 = .ok (.ifCond .eq 14, 3) := by decide +kernel
theorem dX9_takeCommand_355 : decode cX9_takeCommand 355 = .ok (.aload_n 0, 1) := by decide +kernel
theorem dX9_takeCommand_356 : decode cX9_takeCommand 356 = .ok (.invokevirtual 58, 3) := by decide +kernel
theorem dX9_takeCommand_359 : decode cX9_takeCommand 359 = .ok (.ifCond .eq 7, 3) := by decide +kernel
theorem dX9_takeCommand_362 : decode cX9_takeCommand 362 = .ok (.iconst 1, 1) := by decide +kernel
theorem dX9_takeCommand_363 : decode cX9_takeCommand 363 = .ok (.goto 4, 3) := by decide +kernel
theorem dX9_takeCommand_366 : decode cX9_takeCommand 366 = .ok (.iconst 0, 1) := by decide +kernel
theorem dX9_takeCommand_367 : decode cX9_takeCommand 367 = .ok (.ireturn, 1) := by decide +kernel
theorem dX9_takeCommand_368 : decode cX9_takeCommand 368 = .ok (.iconst 0, 1) := by decide +kernel
theorem dX9_takeCommand_369 : decode cX9_takeCommand 369 = .ok (.ireturn, 1) := by decide +kernel
theorem e_132 (r : Nat)  (ws : ai_W) : ai_Call 132 [.ref r] ws = if ai_isob ws r 9 = true then ai_Run 132 0 [.ref r, .null] [] ws else none := R_entV hk_132 ⟨⟨rfl, rfl⟩, Nat.le_of_ble_eq_true rfl⟩ rfl
theorem r_132_0 (l1 : Value) (a : Nat) (st : List Value) (ws : ai_W) : ai_Run 132 0 [.ref a, l1] st ws = ai_Run 132 1 [.ref a, l1] (.ref a :: st) ws := R_aload_n hc_132 dX9_takeCommand_0 rfl rfl
theorem r_132_1 (ls : List Value) (r : Nat) (ws : ai_W) : ai_Run 132 1 ls [.ref r] ws = (ai_Call 124 [.ref r] ws).bind fun q => ai_Run 132 4 ls (q.1.toList ++ []) q.2 := R_callV hc_132 dX9_takeCommand_1 hv_132 (w := 1046) rfl (ai_lt3 hf_124 hf_132 hL_124 ho_124 ho_132 rfl) hk_124 (by rw [hn_124]; rfl) rfl (Nat.le_of_ble_eq_true rfl) rfl
theorem r_132_4 (l0 l1 : Value) (a : Int32) (st : List Value) (ws : ai_W) : ai_Run 132 4 [l0, l1] (.int a :: st) ws = ai_Run 132 5 [l0, .int a] st ws := R_istore_n hc_132 dX9_takeCommand_4 (Nat.le_of_ble_eq_true rfl) rfl rfl
theorem r_132_5 (l1 : Value) (a : Nat) (st : List Value) (ws : ai_W) : ai_Run 132 5 [.ref a, l1] st ws = ai_Run 132 6 [.ref a, l1] (.ref a :: st) ws := R_aload_n hc_132 dX9_takeCommand_5 rfl rfl
theorem r_132_6 (ls st : List Value) (a : Nat) (ws : ai_W) : ai_Run 132 6 ls (.ref a :: st) ws = (ai_fget ws a 9 1).bind fun q => ai_Run 132 9 ls (q :: st) ws := R_getf hc_132 dX9_takeCommand_6 hv_132 (w := 619) rfl rfl
theorem r_132_9 (l1 : Value) (a : Nat) (st : List Value) (ws : ai_W) : ai_Run 132 9 [.ref a, l1] st ws = ai_Run 132 10 [.ref a, l1] (.ref a :: st) ws := R_aload_n hc_132 dX9_takeCommand_9 rfl rfl
theorem r_132_10 (ls st : List Value) (a : Nat) (ws : ai_W) : ai_Run 132 10 ls (.ref a :: st) ws = (ai_fget ws a 9 4).bind fun q => ai_Run 132 13 ls (q :: st) ws := R_getf hc_132 dX9_takeCommand_10 hv_132 (w := 622) rfl rfl
theorem r_132_13 (l0 : Value) (a : Int32) (st : List Value) (ws : ai_W) : ai_Run 132 13 [l0, .int a] st ws = ai_Run 132 14 [l0, .int a] (.int a :: st) ws := R_iload_n hc_132 dX9_takeCommand_13 rfl rfl
theorem r_132_14 (ls : List Value) (r : Nat) (b0 : Int32) (b1 : Int32) (ws : ai_W) : ai_Run 132 14 ls [.int b1, .int b0, .ref r] ws = (ai_Call 29 [.ref r, .int b0, .int b1] ws).bind fun q => ai_Run 132 17 ls (q.1.toList ++ []) q.2 := R_callV hc_132 dX9_takeCommand_14 hv_132 (w := 1032) rfl (ai_lt3 hf_29 hf_132 hL_29 ho_29 ho_132 rfl) hk_29 (by rw [hn_29]; rfl) rfl (Nat.le_of_ble_eq_true rfl) rfl
theorem r_132_17 (l1 : Value) (a : Nat) (st : List Value) (ws : ai_W) : ai_Run 132 17 [.ref a, l1] st ws = ai_Run 132 18 [.ref a, l1] (.ref a :: st) ws := R_aload_n hc_132 dX9_takeCommand_17 rfl rfl
theorem r_132_18 (ls st : List Value) (ws : ai_W) : ai_Run 132 18 ls st ws = ai_Run 132 19 ls (.int 0 :: st) ws := R_iconst hc_132 dX9_takeCommand_18 (by decide) rfl
theorem r_132_19 (ls st : List Value) (a : Nat) (x : Value) (ws : ai_W) : ai_Run 132 19 ls (x :: .ref a :: st) ws = (ai_fput ws a 9 6 x).bind fun ws => ai_Run 132 22 ls st ws := R_putf hc_132 dX9_takeCommand_19 hv_132 (w := 624) rfl rfl rfl
theorem r_132_22 (l0 : Value) (a : Int32) (st : List Value) (ws : ai_W) : ai_Run 132 22 [l0, .int a] st ws = ai_Run 132 23 [l0, .int a] (.int a :: st) ws := R_iload_n hc_132 dX9_takeCommand_22 rfl rfl
theorem r_132_23 (ls st : List Value) (x : Int32) (ws : ai_W) : ai_Run 132 23 ls (.int x :: st) ws = if x = 97 then ai_Run 132 132 ls st ws else if x = 99 then ai_Run 132 132 ls st ws else if x = 100 then ai_Run 132 138 ls st ws else if x = 106 then ai_Run 132 305 ls st ws else if x = 109 then ai_Run 132 261 ls st ws else if x = 111 then ai_Run 132 233 ls st ws else if x = 114 then ai_Run 132 138 ls st ws else if x = 116 then ai_Run 132 333 ls st ws else if x = 119 then ai_Run 132 196 ls st ws else if x = 120 then ai_Run 132 175 ls st ws else ai_Run 132 368 ls st ws := by
  by_cases h97 : x = 97
  · subst h97; rw [if_pos rfl]; exact R_switch hc_132 dX9_takeCommand_23 (by decide +kernel)
  rw [if_neg h97]
  by_cases h99 : x = 99
  · subst h99; rw [if_pos rfl]; exact R_switch hc_132 dX9_takeCommand_23 (by decide +kernel)
  rw [if_neg h99]
  by_cases h100 : x = 100
  · subst h100; rw [if_pos rfl]; exact R_switch hc_132 dX9_takeCommand_23 (by decide +kernel)
  rw [if_neg h100]
  by_cases h106 : x = 106
  · subst h106; rw [if_pos rfl]; exact R_switch hc_132 dX9_takeCommand_23 (by decide +kernel)
  rw [if_neg h106]
  by_cases h109 : x = 109
  · subst h109; rw [if_pos rfl]; exact R_switch hc_132 dX9_takeCommand_23 (by decide +kernel)
  rw [if_neg h109]
  by_cases h111 : x = 111
  · subst h111; rw [if_pos rfl]; exact R_switch hc_132 dX9_takeCommand_23 (by decide +kernel)
  rw [if_neg h111]
  by_cases h114 : x = 114
  · subst h114; rw [if_pos rfl]; exact R_switch hc_132 dX9_takeCommand_23 (by decide +kernel)
  rw [if_neg h114]
  by_cases h116 : x = 116
  · subst h116; rw [if_pos rfl]; exact R_switch hc_132 dX9_takeCommand_23 (by decide +kernel)
  rw [if_neg h116]
  by_cases h119 : x = 119
  · subst h119; rw [if_pos rfl]; exact R_switch hc_132 dX9_takeCommand_23 (by decide +kernel)
  rw [if_neg h119]
  by_cases h120 : x = 120
  · subst h120; rw [if_pos rfl]; exact R_switch hc_132 dX9_takeCommand_23 (by decide +kernel)
  rw [if_neg h120]
  by_cases h98 : x = 98
  · subst h98; exact R_switch hc_132 dX9_takeCommand_23 (by decide +kernel)
  by_cases h101 : x = 101
  · subst h101; exact R_switch hc_132 dX9_takeCommand_23 (by decide +kernel)
  by_cases h102 : x = 102
  · subst h102; exact R_switch hc_132 dX9_takeCommand_23 (by decide +kernel)
  by_cases h103 : x = 103
  · subst h103; exact R_switch hc_132 dX9_takeCommand_23 (by decide +kernel)
  by_cases h104 : x = 104
  · subst h104; exact R_switch hc_132 dX9_takeCommand_23 (by decide +kernel)
  by_cases h105 : x = 105
  · subst h105; exact R_switch hc_132 dX9_takeCommand_23 (by decide +kernel)
  by_cases h107 : x = 107
  · subst h107; exact R_switch hc_132 dX9_takeCommand_23 (by decide +kernel)
  by_cases h108 : x = 108
  · subst h108; exact R_switch hc_132 dX9_takeCommand_23 (by decide +kernel)
  by_cases h110 : x = 110
  · subst h110; exact R_switch hc_132 dX9_takeCommand_23 (by decide +kernel)
  by_cases h112 : x = 112
  · subst h112; exact R_switch hc_132 dX9_takeCommand_23 (by decide +kernel)
  by_cases h113 : x = 113
  · subst h113; exact R_switch hc_132 dX9_takeCommand_23 (by decide +kernel)
  by_cases h115 : x = 115
  · subst h115; exact R_switch hc_132 dX9_takeCommand_23 (by decide +kernel)
  by_cases h117 : x = 117
  · subst h117; exact R_switch hc_132 dX9_takeCommand_23 (by decide +kernel)
  by_cases h118 : x = 118
  · subst h118; exact R_switch hc_132 dX9_takeCommand_23 (by decide +kernel)
  have q97 : x.toInt ≠ 97 := fun e => h97 (Int32.toInt_inj.mp e)
  have q98 : x.toInt ≠ 98 := fun e => h98 (Int32.toInt_inj.mp e)
  have q99 : x.toInt ≠ 99 := fun e => h99 (Int32.toInt_inj.mp e)
  have q100 : x.toInt ≠ 100 := fun e => h100 (Int32.toInt_inj.mp e)
  have q101 : x.toInt ≠ 101 := fun e => h101 (Int32.toInt_inj.mp e)
  have q102 : x.toInt ≠ 102 := fun e => h102 (Int32.toInt_inj.mp e)
  have q103 : x.toInt ≠ 103 := fun e => h103 (Int32.toInt_inj.mp e)
  have q104 : x.toInt ≠ 104 := fun e => h104 (Int32.toInt_inj.mp e)
  have q105 : x.toInt ≠ 105 := fun e => h105 (Int32.toInt_inj.mp e)
  have q106 : x.toInt ≠ 106 := fun e => h106 (Int32.toInt_inj.mp e)
  have q107 : x.toInt ≠ 107 := fun e => h107 (Int32.toInt_inj.mp e)
  have q108 : x.toInt ≠ 108 := fun e => h108 (Int32.toInt_inj.mp e)
  have q109 : x.toInt ≠ 109 := fun e => h109 (Int32.toInt_inj.mp e)
  have q110 : x.toInt ≠ 110 := fun e => h110 (Int32.toInt_inj.mp e)
  have q111 : x.toInt ≠ 111 := fun e => h111 (Int32.toInt_inj.mp e)
  have q112 : x.toInt ≠ 112 := fun e => h112 (Int32.toInt_inj.mp e)
  have q113 : x.toInt ≠ 113 := fun e => h113 (Int32.toInt_inj.mp e)
  have q114 : x.toInt ≠ 114 := fun e => h114 (Int32.toInt_inj.mp e)
  have q115 : x.toInt ≠ 115 := fun e => h115 (Int32.toInt_inj.mp e)
  have q116 : x.toInt ≠ 116 := fun e => h116 (Int32.toInt_inj.mp e)
  have q117 : x.toInt ≠ 117 := fun e => h117 (Int32.toInt_inj.mp e)
  have q118 : x.toInt ≠ 118 := fun e => h118 (Int32.toInt_inj.mp e)
  have q119 : x.toInt ≠ 119 := fun e => h119 (Int32.toInt_inj.mp e)
  have q120 : x.toInt ≠ 120 := fun e => h120 (Int32.toInt_inj.mp e)
  refine R_switch hc_132 dX9_takeCommand_23 (t := 368) ?_
  unfold ai_sw
  rw [if_pos (by omega)]
  rfl
theorem r_132_132 (l1 : Value) (a : Nat) (st : List Value) (ws : ai_W) : ai_Run 132 132 [.ref a, l1] st ws = ai_Run 132 133 [.ref a, l1] (.ref a :: st) ws := R_aload_n hc_132 dX9_takeCommand_132 rfl rfl
theorem r_132_133 (l0 : Value) (a : Int32) (st : List Value) (ws : ai_W) : ai_Run 132 133 [l0, .int a] st ws = ai_Run 132 134 [l0, .int a] (.int a :: st) ws := R_iload_n hc_132 dX9_takeCommand_133 rfl rfl
theorem r_132_134 (ls : List Value) (r : Nat) (b0 : Int32) (ws : ai_W) : ai_Run 132 134 ls [.int b0, .ref r] ws = (ai_Call 125 [.ref r, .int b0] ws).bind fun q => ai_Run 132 137 ls (q.1.toList ++ []) q.2 := R_callV hc_132 dX9_takeCommand_134 hv_132 (w := 1051) rfl (ai_lt3 hf_125 hf_132 hL_125 ho_125 ho_132 rfl) hk_125 (by rw [hn_125]; rfl) rfl (Nat.le_of_ble_eq_true rfl) rfl
theorem r_132_137 (ls : List Value) (x : Int32) (ws : ai_W) : ai_Run 132 137 ls [.int x] ws = if ai_pb x = true then some (some (.int x), ws) else none := R_zret hc_132 dX9_takeCommand_137 ht_132
theorem r_132_138 (l1 : Value) (a : Nat) (st : List Value) (ws : ai_W) : ai_Run 132 138 [.ref a, l1] st ws = ai_Run 132 139 [.ref a, l1] (.ref a :: st) ws := R_aload_n hc_132 dX9_takeCommand_138 rfl rfl
theorem r_132_139 (l0 : Value) (a : Int32) (st : List Value) (ws : ai_W) : ai_Run 132 139 [l0, .int a] st ws = ai_Run 132 140 [l0, .int a] (.int a :: st) ws := R_iload_n hc_132 dX9_takeCommand_139 rfl rfl
theorem r_132_140 (ls : List Value) (r : Nat) (b0 : Int32) (ws : ai_W) : ai_Run 132 140 ls [.int b0, .ref r] ws = (ai_Call 125 [.ref r, .int b0] ws).bind fun q => ai_Run 132 143 ls (q.1.toList ++ []) q.2 := R_callV hc_132 dX9_takeCommand_140 hv_132 (w := 1051) rfl (ai_lt3 hf_125 hf_132 hL_125 ho_125 ho_132 rfl) hk_125 (by rw [hn_125]; rfl) rfl (Nat.le_of_ble_eq_true rfl) rfl
theorem r_132_143 (ls st : List Value) (a : Int32) (ws : ai_W) : ai_Run 132 143 ls (.int a :: st) ws = if a = 0 then ai_Run 132 173 ls st ws else ai_Run 132 146 ls st ws := R_if_eq hc_132 dX9_takeCommand_143 rfl rfl
theorem r_132_146 (l1 : Value) (a : Nat) (st : List Value) (ws : ai_W) : ai_Run 132 146 [.ref a, l1] st ws = ai_Run 132 147 [.ref a, l1] (.ref a :: st) ws := R_aload_n hc_132 dX9_takeCommand_146 rfl rfl
theorem r_132_147 (ls : List Value) (r : Nat) (ws : ai_W) : ai_Run 132 147 ls [.ref r] ws = (ai_Call 128 [.ref r] ws).bind fun q => ai_Run 132 150 ls (q.1.toList ++ []) q.2 := R_callV hc_132 dX9_takeCommand_147 hv_132 (w := 1055) rfl (ai_lt3 hf_128 hf_132 hL_128 ho_128 ho_132 rfl) hk_128 (by rw [hn_128]; rfl) rfl (Nat.le_of_ble_eq_true rfl) rfl
theorem r_132_150 (ls st : List Value) (a : Int32) (ws : ai_W) : ai_Run 132 150 ls (.int a :: st) ws = if a = 0 then ai_Run 132 173 ls st ws else ai_Run 132 153 ls st ws := R_if_eq hc_132 dX9_takeCommand_150 rfl rfl
theorem r_132_153 (l1 : Value) (a : Nat) (st : List Value) (ws : ai_W) : ai_Run 132 153 [.ref a, l1] st ws = ai_Run 132 154 [.ref a, l1] (.ref a :: st) ws := R_aload_n hc_132 dX9_takeCommand_153 rfl rfl
theorem r_132_154 (ls st : List Value) (ws : ai_W) : ai_Run 132 154 ls st ws = ai_Run 132 156 ls (.int 64 :: st) ws := R_bipush hc_132 dX9_takeCommand_154 (by decide) rfl
theorem r_132_156 (ls : List Value) (r : Nat) (b0 : Int32) (ws : ai_W) : ai_Run 132 156 ls [.int b0, .ref r] ws = (ai_Call 125 [.ref r, .int b0] ws).bind fun q => ai_Run 132 159 ls (q.1.toList ++ []) q.2 := R_callV hc_132 dX9_takeCommand_156 hv_132 (w := 1051) rfl (ai_lt3 hf_125 hf_132 hL_125 ho_125 ho_132 rfl) hk_125 (by rw [hn_125]; rfl) rfl (Nat.le_of_ble_eq_true rfl) rfl
theorem r_132_159 (ls st : List Value) (a : Int32) (ws : ai_W) : ai_Run 132 159 ls (.int a :: st) ws = if a = 0 then ai_Run 132 173 ls st ws else ai_Run 132 162 ls st ws := R_if_eq hc_132 dX9_takeCommand_159 rfl rfl
theorem r_132_162 (l1 : Value) (a : Nat) (st : List Value) (ws : ai_W) : ai_Run 132 162 [.ref a, l1] st ws = ai_Run 132 163 [.ref a, l1] (.ref a :: st) ws := R_aload_n hc_132 dX9_takeCommand_162 rfl rfl
theorem r_132_163 (ls : List Value) (r : Nat) (ws : ai_W) : ai_Run 132 163 ls [.ref r] ws = (ai_Call 129 [.ref r] ws).bind fun q => ai_Run 132 166 ls (q.1.toList ++ []) q.2 := R_callV hc_132 dX9_takeCommand_163 hv_132 (w := 1066) rfl (ai_lt3 hf_129 hf_132 hL_129 ho_129 ho_132 rfl) hk_129 (by rw [hn_129]; rfl) rfl (Nat.le_of_ble_eq_true rfl) rfl
theorem r_132_166 (ls st : List Value) (a : Int32) (ws : ai_W) : ai_Run 132 166 ls (.int a :: st) ws = if a = 0 then ai_Run 132 173 ls st ws else ai_Run 132 169 ls st ws := R_if_eq hc_132 dX9_takeCommand_166 rfl rfl
theorem r_132_169 (ls st : List Value) (ws : ai_W) : ai_Run 132 169 ls st ws = ai_Run 132 170 ls (.int 1 :: st) ws := R_iconst hc_132 dX9_takeCommand_169 (by decide) rfl
theorem r_132_170 (ls st : List Value) (ws : ai_W) : ai_Run 132 170 ls st ws = ai_Run 132 174 ls st ws := R_goto hc_132 dX9_takeCommand_170 rfl
theorem r_132_173 (ls st : List Value) (ws : ai_W) : ai_Run 132 173 ls st ws = ai_Run 132 174 ls (.int 0 :: st) ws := R_iconst hc_132 dX9_takeCommand_173 (by decide) rfl
theorem r_132_174 (ls : List Value) (x : Int32) (ws : ai_W) : ai_Run 132 174 ls [.int x] ws = if ai_pb x = true then some (some (.int x), ws) else none := R_zret hc_132 dX9_takeCommand_174 ht_132
theorem r_132_175 (l1 : Value) (a : Nat) (st : List Value) (ws : ai_W) : ai_Run 132 175 [.ref a, l1] st ws = ai_Run 132 176 [.ref a, l1] (.ref a :: st) ws := R_aload_n hc_132 dX9_takeCommand_175 rfl rfl
theorem r_132_176 (l0 : Value) (a : Int32) (st : List Value) (ws : ai_W) : ai_Run 132 176 [l0, .int a] st ws = ai_Run 132 177 [l0, .int a] (.int a :: st) ws := R_iload_n hc_132 dX9_takeCommand_176 rfl rfl
theorem r_132_177 (ls : List Value) (r : Nat) (b0 : Int32) (ws : ai_W) : ai_Run 132 177 ls [.int b0, .ref r] ws = (ai_Call 125 [.ref r, .int b0] ws).bind fun q => ai_Run 132 180 ls (q.1.toList ++ []) q.2 := R_callV hc_132 dX9_takeCommand_177 hv_132 (w := 1051) rfl (ai_lt3 hf_125 hf_132 hL_125 ho_125 ho_132 rfl) hk_125 (by rw [hn_125]; rfl) rfl (Nat.le_of_ble_eq_true rfl) rfl
theorem r_132_180 (ls st : List Value) (a : Int32) (ws : ai_W) : ai_Run 132 180 ls (.int a :: st) ws = if a = 0 then ai_Run 132 194 ls st ws else ai_Run 132 183 ls st ws := R_if_eq hc_132 dX9_takeCommand_180 rfl rfl
theorem r_132_183 (l1 : Value) (a : Nat) (st : List Value) (ws : ai_W) : ai_Run 132 183 [.ref a, l1] st ws = ai_Run 132 184 [.ref a, l1] (.ref a :: st) ws := R_aload_n hc_132 dX9_takeCommand_183 rfl rfl
theorem r_132_184 (ls : List Value) (r : Nat) (ws : ai_W) : ai_Run 132 184 ls [.ref r] ws = (ai_Call 128 [.ref r] ws).bind fun q => ai_Run 132 187 ls (q.1.toList ++ []) q.2 := R_callV hc_132 dX9_takeCommand_184 hv_132 (w := 1055) rfl (ai_lt3 hf_128 hf_132 hL_128 ho_128 ho_132 rfl) hk_128 (by rw [hn_128]; rfl) rfl (Nat.le_of_ble_eq_true rfl) rfl
theorem r_132_187 (ls st : List Value) (a : Int32) (ws : ai_W) : ai_Run 132 187 ls (.int a :: st) ws = if a = 0 then ai_Run 132 194 ls st ws else ai_Run 132 190 ls st ws := R_if_eq hc_132 dX9_takeCommand_187 rfl rfl
theorem r_132_190 (ls st : List Value) (ws : ai_W) : ai_Run 132 190 ls st ws = ai_Run 132 191 ls (.int 1 :: st) ws := R_iconst hc_132 dX9_takeCommand_190 (by decide) rfl
theorem r_132_191 (ls st : List Value) (ws : ai_W) : ai_Run 132 191 ls st ws = ai_Run 132 195 ls st ws := R_goto hc_132 dX9_takeCommand_191 rfl
theorem r_132_194 (ls st : List Value) (ws : ai_W) : ai_Run 132 194 ls st ws = ai_Run 132 195 ls (.int 0 :: st) ws := R_iconst hc_132 dX9_takeCommand_194 (by decide) rfl
theorem r_132_195 (ls : List Value) (x : Int32) (ws : ai_W) : ai_Run 132 195 ls [.int x] ws = if ai_pb x = true then some (some (.int x), ws) else none := R_zret hc_132 dX9_takeCommand_195 ht_132
theorem r_132_196 (l1 : Value) (a : Nat) (st : List Value) (ws : ai_W) : ai_Run 132 196 [.ref a, l1] st ws = ai_Run 132 197 [.ref a, l1] (.ref a :: st) ws := R_aload_n hc_132 dX9_takeCommand_196 rfl rfl
theorem r_132_197 (l0 : Value) (a : Int32) (st : List Value) (ws : ai_W) : ai_Run 132 197 [l0, .int a] st ws = ai_Run 132 198 [l0, .int a] (.int a :: st) ws := R_iload_n hc_132 dX9_takeCommand_197 rfl rfl
theorem r_132_198 (ls : List Value) (r : Nat) (b0 : Int32) (ws : ai_W) : ai_Run 132 198 ls [.int b0, .ref r] ws = (ai_Call 125 [.ref r, .int b0] ws).bind fun q => ai_Run 132 201 ls (q.1.toList ++ []) q.2 := R_callV hc_132 dX9_takeCommand_198 hv_132 (w := 1051) rfl (ai_lt3 hf_125 hf_132 hL_125 ho_125 ho_132 rfl) hk_125 (by rw [hn_125]; rfl) rfl (Nat.le_of_ble_eq_true rfl) rfl
theorem r_132_201 (ls st : List Value) (a : Int32) (ws : ai_W) : ai_Run 132 201 ls (.int a :: st) ws = if a = 0 then ai_Run 132 231 ls st ws else ai_Run 132 204 ls st ws := R_if_eq hc_132 dX9_takeCommand_201 rfl rfl
theorem r_132_204 (l1 : Value) (a : Nat) (st : List Value) (ws : ai_W) : ai_Run 132 204 [.ref a, l1] st ws = ai_Run 132 205 [.ref a, l1] (.ref a :: st) ws := R_aload_n hc_132 dX9_takeCommand_204 rfl rfl
theorem r_132_205 (ls : List Value) (r : Nat) (ws : ai_W) : ai_Run 132 205 ls [.ref r] ws = (ai_Call 129 [.ref r] ws).bind fun q => ai_Run 132 208 ls (q.1.toList ++ []) q.2 := R_callV hc_132 dX9_takeCommand_205 hv_132 (w := 1066) rfl (ai_lt3 hf_129 hf_132 hL_129 ho_129 ho_132 rfl) hk_129 (by rw [hn_129]; rfl) rfl (Nat.le_of_ble_eq_true rfl) rfl
theorem r_132_208 (ls st : List Value) (a : Int32) (ws : ai_W) : ai_Run 132 208 ls (.int a :: st) ws = if a = 0 then ai_Run 132 231 ls st ws else ai_Run 132 211 ls st ws := R_if_eq hc_132 dX9_takeCommand_208 rfl rfl
theorem r_132_211 (l1 : Value) (a : Nat) (st : List Value) (ws : ai_W) : ai_Run 132 211 [.ref a, l1] st ws = ai_Run 132 212 [.ref a, l1] (.ref a :: st) ws := R_aload_n hc_132 dX9_takeCommand_211 rfl rfl
theorem r_132_212 (ls st : List Value) (ws : ai_W) : ai_Run 132 212 ls st ws = ai_Run 132 214 ls (.int 64 :: st) ws := R_bipush hc_132 dX9_takeCommand_212 (by decide) rfl
theorem r_132_214 (ls : List Value) (r : Nat) (b0 : Int32) (ws : ai_W) : ai_Run 132 214 ls [.int b0, .ref r] ws = (ai_Call 125 [.ref r, .int b0] ws).bind fun q => ai_Run 132 217 ls (q.1.toList ++ []) q.2 := R_callV hc_132 dX9_takeCommand_214 hv_132 (w := 1051) rfl (ai_lt3 hf_125 hf_132 hL_125 ho_125 ho_132 rfl) hk_125 (by rw [hn_125]; rfl) rfl (Nat.le_of_ble_eq_true rfl) rfl
theorem r_132_217 (ls st : List Value) (a : Int32) (ws : ai_W) : ai_Run 132 217 ls (.int a :: st) ws = if a = 0 then ai_Run 132 231 ls st ws else ai_Run 132 220 ls st ws := R_if_eq hc_132 dX9_takeCommand_217 rfl rfl
theorem r_132_220 (l1 : Value) (a : Nat) (st : List Value) (ws : ai_W) : ai_Run 132 220 [.ref a, l1] st ws = ai_Run 132 221 [.ref a, l1] (.ref a :: st) ws := R_aload_n hc_132 dX9_takeCommand_220 rfl rfl
theorem r_132_221 (ls : List Value) (r : Nat) (ws : ai_W) : ai_Run 132 221 ls [.ref r] ws = (ai_Call 128 [.ref r] ws).bind fun q => ai_Run 132 224 ls (q.1.toList ++ []) q.2 := R_callV hc_132 dX9_takeCommand_221 hv_132 (w := 1055) rfl (ai_lt3 hf_128 hf_132 hL_128 ho_128 ho_132 rfl) hk_128 (by rw [hn_128]; rfl) rfl (Nat.le_of_ble_eq_true rfl) rfl
theorem r_132_224 (ls st : List Value) (a : Int32) (ws : ai_W) : ai_Run 132 224 ls (.int a :: st) ws = if a = 0 then ai_Run 132 231 ls st ws else ai_Run 132 227 ls st ws := R_if_eq hc_132 dX9_takeCommand_224 rfl rfl
theorem r_132_227 (ls st : List Value) (ws : ai_W) : ai_Run 132 227 ls st ws = ai_Run 132 228 ls (.int 1 :: st) ws := R_iconst hc_132 dX9_takeCommand_227 (by decide) rfl
theorem r_132_228 (ls st : List Value) (ws : ai_W) : ai_Run 132 228 ls st ws = ai_Run 132 232 ls st ws := R_goto hc_132 dX9_takeCommand_228 rfl
theorem r_132_231 (ls st : List Value) (ws : ai_W) : ai_Run 132 231 ls st ws = ai_Run 132 232 ls (.int 0 :: st) ws := R_iconst hc_132 dX9_takeCommand_231 (by decide) rfl
theorem r_132_232 (ls : List Value) (x : Int32) (ws : ai_W) : ai_Run 132 232 ls [.int x] ws = if ai_pb x = true then some (some (.int x), ws) else none := R_zret hc_132 dX9_takeCommand_232 ht_132
theorem r_132_233 (l1 : Value) (a : Nat) (st : List Value) (ws : ai_W) : ai_Run 132 233 [.ref a, l1] st ws = ai_Run 132 234 [.ref a, l1] (.ref a :: st) ws := R_aload_n hc_132 dX9_takeCommand_233 rfl rfl
theorem r_132_234 (l0 : Value) (a : Int32) (st : List Value) (ws : ai_W) : ai_Run 132 234 [l0, .int a] st ws = ai_Run 132 235 [l0, .int a] (.int a :: st) ws := R_iload_n hc_132 dX9_takeCommand_234 rfl rfl
theorem r_132_235 (ls : List Value) (r : Nat) (b0 : Int32) (ws : ai_W) : ai_Run 132 235 ls [.int b0, .ref r] ws = (ai_Call 125 [.ref r, .int b0] ws).bind fun q => ai_Run 132 238 ls (q.1.toList ++ []) q.2 := R_callV hc_132 dX9_takeCommand_235 hv_132 (w := 1051) rfl (ai_lt3 hf_125 hf_132 hL_125 ho_125 ho_132 rfl) hk_125 (by rw [hn_125]; rfl) rfl (Nat.le_of_ble_eq_true rfl) rfl
theorem r_132_238 (ls st : List Value) (a : Int32) (ws : ai_W) : ai_Run 132 238 ls (.int a :: st) ws = if a = 0 then ai_Run 132 259 ls st ws else ai_Run 132 241 ls st ws := R_if_eq hc_132 dX9_takeCommand_238 rfl rfl
theorem r_132_241 (l1 : Value) (a : Nat) (st : List Value) (ws : ai_W) : ai_Run 132 241 [.ref a, l1] st ws = ai_Run 132 242 [.ref a, l1] (.ref a :: st) ws := R_aload_n hc_132 dX9_takeCommand_241 rfl rfl
theorem r_132_242 (ls : List Value) (r : Nat) (ws : ai_W) : ai_Run 132 242 ls [.ref r] ws = (ai_Call 128 [.ref r] ws).bind fun q => ai_Run 132 245 ls (q.1.toList ++ []) q.2 := R_callV hc_132 dX9_takeCommand_242 hv_132 (w := 1055) rfl (ai_lt3 hf_128 hf_132 hL_128 ho_128 ho_132 rfl) hk_128 (by rw [hn_128]; rfl) rfl (Nat.le_of_ble_eq_true rfl) rfl
theorem r_132_245 (ls st : List Value) (a : Int32) (ws : ai_W) : ai_Run 132 245 ls (.int a :: st) ws = if a = 0 then ai_Run 132 259 ls st ws else ai_Run 132 248 ls st ws := R_if_eq hc_132 dX9_takeCommand_245 rfl rfl
theorem r_132_248 (l1 : Value) (a : Nat) (st : List Value) (ws : ai_W) : ai_Run 132 248 [.ref a, l1] st ws = ai_Run 132 249 [.ref a, l1] (.ref a :: st) ws := R_aload_n hc_132 dX9_takeCommand_248 rfl rfl
theorem r_132_249 (ls : List Value) (r : Nat) (ws : ai_W) : ai_Run 132 249 ls [.ref r] ws = (ai_Call 130 [.ref r] ws).bind fun q => ai_Run 132 252 ls (q.1.toList ++ []) q.2 := R_callV hc_132 dX9_takeCommand_249 hv_132 (w := 1070) rfl (ai_lt3 hf_130 hf_132 hL_130 ho_130 ho_132 rfl) hk_130 (by rw [hn_130]; rfl) rfl (Nat.le_of_ble_eq_true rfl) rfl
theorem r_132_252 (ls st : List Value) (a : Int32) (ws : ai_W) : ai_Run 132 252 ls (.int a :: st) ws = if a = 0 then ai_Run 132 259 ls st ws else ai_Run 132 255 ls st ws := R_if_eq hc_132 dX9_takeCommand_252 rfl rfl
theorem r_132_255 (ls st : List Value) (ws : ai_W) : ai_Run 132 255 ls st ws = ai_Run 132 256 ls (.int 1 :: st) ws := R_iconst hc_132 dX9_takeCommand_255 (by decide) rfl
theorem r_132_256 (ls st : List Value) (ws : ai_W) : ai_Run 132 256 ls st ws = ai_Run 132 260 ls st ws := R_goto hc_132 dX9_takeCommand_256 rfl
theorem r_132_259 (ls st : List Value) (ws : ai_W) : ai_Run 132 259 ls st ws = ai_Run 132 260 ls (.int 0 :: st) ws := R_iconst hc_132 dX9_takeCommand_259 (by decide) rfl
theorem r_132_260 (ls : List Value) (x : Int32) (ws : ai_W) : ai_Run 132 260 ls [.int x] ws = if ai_pb x = true then some (some (.int x), ws) else none := R_zret hc_132 dX9_takeCommand_260 ht_132
theorem r_132_261 (l1 : Value) (a : Nat) (st : List Value) (ws : ai_W) : ai_Run 132 261 [.ref a, l1] st ws = ai_Run 132 262 [.ref a, l1] (.ref a :: st) ws := R_aload_n hc_132 dX9_takeCommand_261 rfl rfl
theorem r_132_262 (l0 : Value) (a : Int32) (st : List Value) (ws : ai_W) : ai_Run 132 262 [l0, .int a] st ws = ai_Run 132 263 [l0, .int a] (.int a :: st) ws := R_iload_n hc_132 dX9_takeCommand_262 rfl rfl
theorem r_132_263 (ls : List Value) (r : Nat) (b0 : Int32) (ws : ai_W) : ai_Run 132 263 ls [.int b0, .ref r] ws = (ai_Call 125 [.ref r, .int b0] ws).bind fun q => ai_Run 132 266 ls (q.1.toList ++ []) q.2 := R_callV hc_132 dX9_takeCommand_263 hv_132 (w := 1051) rfl (ai_lt3 hf_125 hf_132 hL_125 ho_125 ho_132 rfl) hk_125 (by rw [hn_125]; rfl) rfl (Nat.le_of_ble_eq_true rfl) rfl
theorem r_132_266 (ls st : List Value) (a : Int32) (ws : ai_W) : ai_Run 132 266 ls (.int a :: st) ws = if a = 0 then ai_Run 132 303 ls st ws else ai_Run 132 269 ls st ws := R_if_eq hc_132 dX9_takeCommand_266 rfl rfl
theorem r_132_269 (l1 : Value) (a : Nat) (st : List Value) (ws : ai_W) : ai_Run 132 269 [.ref a, l1] st ws = ai_Run 132 270 [.ref a, l1] (.ref a :: st) ws := R_aload_n hc_132 dX9_takeCommand_269 rfl rfl
theorem r_132_270 (ls : List Value) (r : Nat) (ws : ai_W) : ai_Run 132 270 ls [.ref r] ws = (ai_Call 128 [.ref r] ws).bind fun q => ai_Run 132 273 ls (q.1.toList ++ []) q.2 := R_callV hc_132 dX9_takeCommand_270 hv_132 (w := 1055) rfl (ai_lt3 hf_128 hf_132 hL_128 ho_128 ho_132 rfl) hk_128 (by rw [hn_128]; rfl) rfl (Nat.le_of_ble_eq_true rfl) rfl
theorem r_132_273 (ls st : List Value) (a : Int32) (ws : ai_W) : ai_Run 132 273 ls (.int a :: st) ws = if a = 0 then ai_Run 132 303 ls st ws else ai_Run 132 276 ls st ws := R_if_eq hc_132 dX9_takeCommand_273 rfl rfl
theorem r_132_276 (l1 : Value) (a : Nat) (st : List Value) (ws : ai_W) : ai_Run 132 276 [.ref a, l1] st ws = ai_Run 132 277 [.ref a, l1] (.ref a :: st) ws := R_aload_n hc_132 dX9_takeCommand_276 rfl rfl
theorem r_132_277 (ls : List Value) (r : Nat) (ws : ai_W) : ai_Run 132 277 ls [.ref r] ws = (ai_Call 128 [.ref r] ws).bind fun q => ai_Run 132 280 ls (q.1.toList ++ []) q.2 := R_callV hc_132 dX9_takeCommand_277 hv_132 (w := 1055) rfl (ai_lt3 hf_128 hf_132 hL_128 ho_128 ho_132 rfl) hk_128 (by rw [hn_128]; rfl) rfl (Nat.le_of_ble_eq_true rfl) rfl
theorem r_132_280 (ls st : List Value) (a : Int32) (ws : ai_W) : ai_Run 132 280 ls (.int a :: st) ws = if a = 0 then ai_Run 132 303 ls st ws else ai_Run 132 283 ls st ws := R_if_eq hc_132 dX9_takeCommand_280 rfl rfl
theorem r_132_283 (l1 : Value) (a : Nat) (st : List Value) (ws : ai_W) : ai_Run 132 283 [.ref a, l1] st ws = ai_Run 132 284 [.ref a, l1] (.ref a :: st) ws := R_aload_n hc_132 dX9_takeCommand_283 rfl rfl
theorem r_132_284 (ls st : List Value) (ws : ai_W) : ai_Run 132 284 ls st ws = ai_Run 132 286 ls (.int 61 :: st) ws := R_bipush hc_132 dX9_takeCommand_284 (by decide) rfl
theorem r_132_286 (ls : List Value) (r : Nat) (b0 : Int32) (ws : ai_W) : ai_Run 132 286 ls [.int b0, .ref r] ws = (ai_Call 125 [.ref r, .int b0] ws).bind fun q => ai_Run 132 289 ls (q.1.toList ++ []) q.2 := R_callV hc_132 dX9_takeCommand_286 hv_132 (w := 1051) rfl (ai_lt3 hf_125 hf_132 hL_125 ho_125 ho_132 rfl) hk_125 (by rw [hn_125]; rfl) rfl (Nat.le_of_ble_eq_true rfl) rfl
theorem r_132_289 (ls st : List Value) (a : Int32) (ws : ai_W) : ai_Run 132 289 ls (.int a :: st) ws = if a = 0 then ai_Run 132 303 ls st ws else ai_Run 132 292 ls st ws := R_if_eq hc_132 dX9_takeCommand_289 rfl rfl
theorem r_132_292 (l1 : Value) (a : Nat) (st : List Value) (ws : ai_W) : ai_Run 132 292 [.ref a, l1] st ws = ai_Run 132 293 [.ref a, l1] (.ref a :: st) ws := R_aload_n hc_132 dX9_takeCommand_292 rfl rfl
theorem r_132_293 (ls : List Value) (r : Nat) (ws : ai_W) : ai_Run 132 293 ls [.ref r] ws = (ai_Call 128 [.ref r] ws).bind fun q => ai_Run 132 296 ls (q.1.toList ++ []) q.2 := R_callV hc_132 dX9_takeCommand_293 hv_132 (w := 1055) rfl (ai_lt3 hf_128 hf_132 hL_128 ho_128 ho_132 rfl) hk_128 (by rw [hn_128]; rfl) rfl (Nat.le_of_ble_eq_true rfl) rfl
theorem r_132_296 (ls st : List Value) (a : Int32) (ws : ai_W) : ai_Run 132 296 ls (.int a :: st) ws = if a = 0 then ai_Run 132 303 ls st ws else ai_Run 132 299 ls st ws := R_if_eq hc_132 dX9_takeCommand_296 rfl rfl
theorem r_132_299 (ls st : List Value) (ws : ai_W) : ai_Run 132 299 ls st ws = ai_Run 132 300 ls (.int 1 :: st) ws := R_iconst hc_132 dX9_takeCommand_299 (by decide) rfl
theorem r_132_300 (ls st : List Value) (ws : ai_W) : ai_Run 132 300 ls st ws = ai_Run 132 304 ls st ws := R_goto hc_132 dX9_takeCommand_300 rfl
theorem r_132_303 (ls st : List Value) (ws : ai_W) : ai_Run 132 303 ls st ws = ai_Run 132 304 ls (.int 0 :: st) ws := R_iconst hc_132 dX9_takeCommand_303 (by decide) rfl
theorem r_132_304 (ls : List Value) (x : Int32) (ws : ai_W) : ai_Run 132 304 ls [.int x] ws = if ai_pb x = true then some (some (.int x), ws) else none := R_zret hc_132 dX9_takeCommand_304 ht_132
theorem r_132_305 (l1 : Value) (a : Nat) (st : List Value) (ws : ai_W) : ai_Run 132 305 [.ref a, l1] st ws = ai_Run 132 306 [.ref a, l1] (.ref a :: st) ws := R_aload_n hc_132 dX9_takeCommand_305 rfl rfl
theorem r_132_306 (l0 : Value) (a : Int32) (st : List Value) (ws : ai_W) : ai_Run 132 306 [l0, .int a] st ws = ai_Run 132 307 [l0, .int a] (.int a :: st) ws := R_iload_n hc_132 dX9_takeCommand_306 rfl rfl
theorem r_132_307 (ls : List Value) (r : Nat) (b0 : Int32) (ws : ai_W) : ai_Run 132 307 ls [.int b0, .ref r] ws = (ai_Call 125 [.ref r, .int b0] ws).bind fun q => ai_Run 132 310 ls (q.1.toList ++ []) q.2 := R_callV hc_132 dX9_takeCommand_307 hv_132 (w := 1051) rfl (ai_lt3 hf_125 hf_132 hL_125 ho_125 ho_132 rfl) hk_125 (by rw [hn_125]; rfl) rfl (Nat.le_of_ble_eq_true rfl) rfl
theorem r_132_310 (ls st : List Value) (a : Int32) (ws : ai_W) : ai_Run 132 310 ls (.int a :: st) ws = if a = 0 then ai_Run 132 331 ls st ws else ai_Run 132 313 ls st ws := R_if_eq hc_132 dX9_takeCommand_310 rfl rfl
theorem r_132_313 (l1 : Value) (a : Nat) (st : List Value) (ws : ai_W) : ai_Run 132 313 [.ref a, l1] st ws = ai_Run 132 314 [.ref a, l1] (.ref a :: st) ws := R_aload_n hc_132 dX9_takeCommand_313 rfl rfl
theorem r_132_314 (ls : List Value) (r : Nat) (ws : ai_W) : ai_Run 132 314 ls [.ref r] ws = (ai_Call 128 [.ref r] ws).bind fun q => ai_Run 132 317 ls (q.1.toList ++ []) q.2 := R_callV hc_132 dX9_takeCommand_314 hv_132 (w := 1055) rfl (ai_lt3 hf_128 hf_132 hL_128 ho_128 ho_132 rfl) hk_128 (by rw [hn_128]; rfl) rfl (Nat.le_of_ble_eq_true rfl) rfl
theorem r_132_317 (ls st : List Value) (a : Int32) (ws : ai_W) : ai_Run 132 317 ls (.int a :: st) ws = if a = 0 then ai_Run 132 331 ls st ws else ai_Run 132 320 ls st ws := R_if_eq hc_132 dX9_takeCommand_317 rfl rfl
theorem r_132_320 (l1 : Value) (a : Nat) (st : List Value) (ws : ai_W) : ai_Run 132 320 [.ref a, l1] st ws = ai_Run 132 321 [.ref a, l1] (.ref a :: st) ws := R_aload_n hc_132 dX9_takeCommand_320 rfl rfl
theorem r_132_321 (ls : List Value) (r : Nat) (ws : ai_W) : ai_Run 132 321 ls [.ref r] ws = (ai_Call 131 [.ref r] ws).bind fun q => ai_Run 132 324 ls (q.1.toList ++ []) q.2 := R_callV hc_132 dX9_takeCommand_321 hv_132 (w := 1074) rfl (ai_lt3 hf_131 hf_132 hL_131 ho_131 ho_132 rfl) hk_131 (by rw [hn_131]; rfl) rfl (Nat.le_of_ble_eq_true rfl) rfl
theorem r_132_324 (ls st : List Value) (a : Int32) (ws : ai_W) : ai_Run 132 324 ls (.int a :: st) ws = if a = 0 then ai_Run 132 331 ls st ws else ai_Run 132 327 ls st ws := R_if_eq hc_132 dX9_takeCommand_324 rfl rfl
theorem r_132_327 (ls st : List Value) (ws : ai_W) : ai_Run 132 327 ls st ws = ai_Run 132 328 ls (.int 1 :: st) ws := R_iconst hc_132 dX9_takeCommand_327 (by decide) rfl
theorem r_132_328 (ls st : List Value) (ws : ai_W) : ai_Run 132 328 ls st ws = ai_Run 132 332 ls st ws := R_goto hc_132 dX9_takeCommand_328 rfl
theorem r_132_331 (ls st : List Value) (ws : ai_W) : ai_Run 132 331 ls st ws = ai_Run 132 332 ls (.int 0 :: st) ws := R_iconst hc_132 dX9_takeCommand_331 (by decide) rfl
theorem r_132_332 (ls : List Value) (x : Int32) (ws : ai_W) : ai_Run 132 332 ls [.int x] ws = if ai_pb x = true then some (some (.int x), ws) else none := R_zret hc_132 dX9_takeCommand_332 ht_132
theorem r_132_333 (l1 : Value) (a : Nat) (st : List Value) (ws : ai_W) : ai_Run 132 333 [.ref a, l1] st ws = ai_Run 132 334 [.ref a, l1] (.ref a :: st) ws := R_aload_n hc_132 dX9_takeCommand_333 rfl rfl
theorem r_132_334 (l0 : Value) (a : Int32) (st : List Value) (ws : ai_W) : ai_Run 132 334 [l0, .int a] st ws = ai_Run 132 335 [l0, .int a] (.int a :: st) ws := R_iload_n hc_132 dX9_takeCommand_334 rfl rfl
theorem r_132_335 (ls : List Value) (r : Nat) (b0 : Int32) (ws : ai_W) : ai_Run 132 335 ls [.int b0, .ref r] ws = (ai_Call 125 [.ref r, .int b0] ws).bind fun q => ai_Run 132 338 ls (q.1.toList ++ []) q.2 := R_callV hc_132 dX9_takeCommand_335 hv_132 (w := 1051) rfl (ai_lt3 hf_125 hf_132 hL_125 ho_125 ho_132 rfl) hk_125 (by rw [hn_125]; rfl) rfl (Nat.le_of_ble_eq_true rfl) rfl
theorem r_132_338 (ls st : List Value) (a : Int32) (ws : ai_W) : ai_Run 132 338 ls (.int a :: st) ws = if a = 0 then ai_Run 132 366 ls st ws else ai_Run 132 341 ls st ws := R_if_eq hc_132 dX9_takeCommand_338 rfl rfl
theorem r_132_341 (l1 : Value) (a : Nat) (st : List Value) (ws : ai_W) : ai_Run 132 341 [.ref a, l1] st ws = ai_Run 132 342 [.ref a, l1] (.ref a :: st) ws := R_aload_n hc_132 dX9_takeCommand_341 rfl rfl
theorem r_132_342 (ls : List Value) (r : Nat) (ws : ai_W) : ai_Run 132 342 ls [.ref r] ws = (ai_Call 128 [.ref r] ws).bind fun q => ai_Run 132 345 ls (q.1.toList ++ []) q.2 := R_callV hc_132 dX9_takeCommand_342 hv_132 (w := 1055) rfl (ai_lt3 hf_128 hf_132 hL_128 ho_128 ho_132 rfl) hk_128 (by rw [hn_128]; rfl) rfl (Nat.le_of_ble_eq_true rfl) rfl
theorem r_132_345 (ls st : List Value) (a : Int32) (ws : ai_W) : ai_Run 132 345 ls (.int a :: st) ws = if a = 0 then ai_Run 132 366 ls st ws else ai_Run 132 348 ls st ws := R_if_eq hc_132 dX9_takeCommand_345 rfl rfl
theorem r_132_348 (l1 : Value) (a : Nat) (st : List Value) (ws : ai_W) : ai_Run 132 348 [.ref a, l1] st ws = ai_Run 132 349 [.ref a, l1] (.ref a :: st) ws := R_aload_n hc_132 dX9_takeCommand_348 rfl rfl
theorem r_132_349 (ls : List Value) (r : Nat) (ws : ai_W) : ai_Run 132 349 ls [.ref r] ws = (ai_Call 128 [.ref r] ws).bind fun q => ai_Run 132 352 ls (q.1.toList ++ []) q.2 := R_callV hc_132 dX9_takeCommand_349 hv_132 (w := 1055) rfl (ai_lt3 hf_128 hf_132 hL_128 ho_128 ho_132 rfl) hk_128 (by rw [hn_128]; rfl) rfl (Nat.le_of_ble_eq_true rfl) rfl
theorem r_132_352 (ls st : List Value) (a : Int32) (ws : ai_W) : ai_Run 132 352 ls (.int a :: st) ws = if a = 0 then ai_Run 132 366 ls st ws else ai_Run 132 355 ls st ws := R_if_eq hc_132 dX9_takeCommand_352 rfl rfl
theorem r_132_355 (l1 : Value) (a : Nat) (st : List Value) (ws : ai_W) : ai_Run 132 355 [.ref a, l1] st ws = ai_Run 132 356 [.ref a, l1] (.ref a :: st) ws := R_aload_n hc_132 dX9_takeCommand_355 rfl rfl
theorem r_132_356 (ls : List Value) (r : Nat) (ws : ai_W) : ai_Run 132 356 ls [.ref r] ws = (ai_Call 128 [.ref r] ws).bind fun q => ai_Run 132 359 ls (q.1.toList ++ []) q.2 := R_callV hc_132 dX9_takeCommand_356 hv_132 (w := 1055) rfl (ai_lt3 hf_128 hf_132 hL_128 ho_128 ho_132 rfl) hk_128 (by rw [hn_128]; rfl) rfl (Nat.le_of_ble_eq_true rfl) rfl
theorem r_132_359 (ls st : List Value) (a : Int32) (ws : ai_W) : ai_Run 132 359 ls (.int a :: st) ws = if a = 0 then ai_Run 132 366 ls st ws else ai_Run 132 362 ls st ws := R_if_eq hc_132 dX9_takeCommand_359 rfl rfl
theorem r_132_362 (ls st : List Value) (ws : ai_W) : ai_Run 132 362 ls st ws = ai_Run 132 363 ls (.int 1 :: st) ws := R_iconst hc_132 dX9_takeCommand_362 (by decide) rfl
theorem r_132_363 (ls st : List Value) (ws : ai_W) : ai_Run 132 363 ls st ws = ai_Run 132 367 ls st ws := R_goto hc_132 dX9_takeCommand_363 rfl
theorem r_132_366 (ls st : List Value) (ws : ai_W) : ai_Run 132 366 ls st ws = ai_Run 132 367 ls (.int 0 :: st) ws := R_iconst hc_132 dX9_takeCommand_366 (by decide) rfl
theorem r_132_367 (ls : List Value) (x : Int32) (ws : ai_W) : ai_Run 132 367 ls [.int x] ws = if ai_pb x = true then some (some (.int x), ws) else none := R_zret hc_132 dX9_takeCommand_367 ht_132
theorem r_132_368 (ls st : List Value) (ws : ai_W) : ai_Run 132 368 ls st ws = ai_Run 132 369 ls (.int 0 :: st) ws := R_iconst hc_132 dX9_takeCommand_368 (by decide) rfl
theorem r_132_369 (ls : List Value) (x : Int32) (ws : ai_W) : ai_Run 132 369 ls [.int x] ws = if ai_pb x = true then some (some (.int x), ws) else none := R_zret hc_132 dX9_takeCommand_369 ht_132
theorem dX9_parse_0 : decode cX9_parse 0 = .ok (.aload_n 0, 1) := by decide +kernel
theorem dX9_parse_1 : decode cX9_parse 1 = .ok (.iconst 0, 1) := by decide +kernel
theorem dX9_parse_2 : decode cX9_parse 2 = .ok (.putfield 40, 3) := by decide +kernel
theorem dX9_parse_5 : decode cX9_parse 5 = .ok (.aload_n 0, 1) := by decide +kernel
theorem dX9_parse_6 : decode cX9_parse 6 = .ok (.iconst 0, 1) := by decide +kernel
theorem dX9_parse_7 : decode cX9_parse 7 = .ok (.putfield 33, 3) := by decide +kernel
theorem dX9_parse_10 : decode cX9_parse 10 = .ok (.iconst 0, 1) := by decide +kernel
theorem dX9_parse_11 : decode cX9_parse 11 = .ok (.istore_n 1, 1) := by decide +kernel
theorem dX9_parse_12 : decode cX9_parse 12 = .ok (.iload_n 1, 1) := by decide +kernel
theorem dX9_parse_13 : decode cX9_parse 13 = .ok (.bipush 35, 2) := by decide +kernel
theorem dX9_parse_15 : decode cX9_parse 15 = .ok (.if_icmp .ge 58, 3) := by decide +kernel
theorem dX9_parse_18 : decode cX9_parse 18 = .ok (.aload_n 0, 1) := by decide +kernel
theorem dX9_parse_19 : decode cX9_parse 19 = .ok (.invokevirtual 43, 3) := by decide +kernel
theorem dX9_parse_22 : decode cX9_parse 22 = .ok (.ifCond .ne 8, 3) := by decide +kernel
theorem dX9_parse_25 : decode cX9_parse 25 = .ok (.aload_n 0, 1) := by decide +kernel
theorem dX9_parse_26 : decode cX9_parse 26 = .ok (.getfield 40, 3) := by decide +kernel
theorem dX9_parse_29 : decode cX9_parse 29 = .ok (.ireturn, 1) := by decide +kernel
theorem dX9_parse_30 : decode cX9_parse 30 = .ok (.aload_n 0, 1) := by decide +kernel
theorem dX9_parse_31 : decode cX9_parse 31 = .ok (.dup, 1) := by decide +kernel
theorem dX9_parse_32 : decode cX9_parse 32 = .ok (.getfield 33, 3) := by decide +kernel
theorem dX9_parse_35 : decode cX9_parse 35 = .ok (.iconst 1, 1) := by decide +kernel
theorem dX9_parse_36 : decode cX9_parse 36 = .ok (.iadd, 1) := by decide +kernel
theorem dX9_parse_37 : decode cX9_parse 37 = .ok (.putfield 33, 3) := by decide +kernel
theorem dX9_parse_40 : decode cX9_parse 40 = .ok (.aload_n 0, 1) := by decide +kernel
theorem dX9_parse_41 : decode cX9_parse 41 = .ok (.getfield 40, 3) := by decide +kernel
theorem dX9_parse_44 : decode cX9_parse 44 = .ok (.aload_n 0, 1) := by decide +kernel
theorem dX9_parse_45 : decode cX9_parse 45 = .ok (.getfield 26, 3) := by decide +kernel
theorem dX9_parse_48 : decode cX9_parse 48 = .ok (.if_icmp .ne 5, 3) := by decide +kernel
theorem dX9_parse_51 : decode cX9_parse 51 = .ok (.iconst (-1), 1) := by decide +kernel
theorem dX9_parse_52 : decode cX9_parse 52 = .ok (.ireturn, 1) := by decide +kernel
theorem dX9_parse_53 : decode cX9_parse 53 = .ok (.aload_n 0, 1) := by decide +kernel
theorem dX9_parse_54 : decode cX9_parse 54 = .ok (.bipush 59, 2) := by decide +kernel
theorem dX9_parse_56 : decode cX9_parse 56 = .ok (.invokevirtual 47, 3) := by decide +kernel
theorem dX9_parse_59 : decode cX9_parse 59 = .ok (.ifCond .ne 8, 3) := by decide +kernel
theorem dX9_parse_62 : decode cX9_parse 62 = .ok (.aload_n 0, 1) := by decide +kernel
theorem dX9_parse_63 : decode cX9_parse 63 = .ok (.getfield 40, 3) := by decide +kernel
theorem dX9_parse_66 : decode cX9_parse 66 = .ok (.ireturn, 1) := by decide +kernel
theorem dX9_parse_67 : decode cX9_parse 67 = .ok (.iinc 1 1, 3) := by decide +kernel
theorem dX9_parse_70 : decode cX9_parse 70 = .ok (.goto (-58), 3) := by decide +kernel
theorem dX9_parse_73 : decode cX9_parse 73 = .ok (.aload_n 0, 1) := by decide +kernel
theorem dX9_parse_74 : decode cX9_parse 74 = .ok (.getfield 40, 3) := by decide +kernel
theorem dX9_parse_77 : decode cX9_parse 77 = .ok (.ireturn, 1) := by decide +kernel
theorem e_133 (r : Nat)  (ws : ai_W) : ai_Call 133 [.ref r] ws = if ai_isob ws r 9 = true then ai_Run 133 0 [.ref r, .null] [] ws else none := R_entV hk_133 ⟨⟨rfl, rfl⟩, Nat.le_of_ble_eq_true rfl⟩ rfl
theorem r_133_0 (l1 : Value) (a : Nat) (st : List Value) (ws : ai_W) : ai_Run 133 0 [.ref a, l1] st ws = ai_Run 133 1 [.ref a, l1] (.ref a :: st) ws := R_aload_n hc_133 dX9_parse_0 rfl rfl
theorem r_133_1 (ls st : List Value) (ws : ai_W) : ai_Run 133 1 ls st ws = ai_Run 133 2 ls (.int 0 :: st) ws := R_iconst hc_133 dX9_parse_1 (by decide) rfl
theorem r_133_2 (ls st : List Value) (a : Nat) (x : Value) (ws : ai_W) : ai_Run 133 2 ls (x :: .ref a :: st) ws = (ai_fput ws a 9 5 x).bind fun ws => ai_Run 133 5 ls st ws := R_putf hc_133 dX9_parse_2 hv_133 (w := 623) rfl rfl rfl
theorem r_133_5 (l1 : Value) (a : Nat) (st : List Value) (ws : ai_W) : ai_Run 133 5 [.ref a, l1] st ws = ai_Run 133 6 [.ref a, l1] (.ref a :: st) ws := R_aload_n hc_133 dX9_parse_5 rfl rfl
theorem r_133_6 (ls st : List Value) (ws : ai_W) : ai_Run 133 6 ls st ws = ai_Run 133 7 ls (.int 0 :: st) ws := R_iconst hc_133 dX9_parse_6 (by decide) rfl
theorem r_133_7 (ls st : List Value) (a : Nat) (x : Value) (ws : ai_W) : ai_Run 133 7 ls (x :: .ref a :: st) ws = (ai_fput ws a 9 4 x).bind fun ws => ai_Run 133 10 ls st ws := R_putf hc_133 dX9_parse_7 hv_133 (w := 622) rfl rfl rfl
theorem r_133_10 (ls st : List Value) (ws : ai_W) : ai_Run 133 10 ls st ws = ai_Run 133 11 ls (.int 0 :: st) ws := R_iconst hc_133 dX9_parse_10 (by decide) rfl
theorem r_133_11 (l0 l1 : Value) (a : Int32) (st : List Value) (ws : ai_W) : ai_Run 133 11 [l0, l1] (.int a :: st) ws = ai_Run 133 12 [l0, .int a] st ws := R_istore_n hc_133 dX9_parse_11 (Nat.le_of_ble_eq_true rfl) rfl rfl
theorem r_133_12 (l0 : Value) (a : Int32) (st : List Value) (ws : ai_W) : ai_Run 133 12 [l0, .int a] st ws = ai_Run 133 13 [l0, .int a] (.int a :: st) ws := R_iload_n hc_133 dX9_parse_12 rfl rfl
theorem r_133_13 (ls st : List Value) (ws : ai_W) : ai_Run 133 13 ls st ws = ai_Run 133 15 ls (.int 35 :: st) ws := R_bipush hc_133 dX9_parse_13 (by decide) rfl
theorem r_133_15 (ls st : List Value) (a b : Int32) (ws : ai_W) : ai_Run 133 15 ls (.int b :: .int a :: st) ws = if a < b then ai_Run 133 18 ls st ws else ai_Run 133 73 ls st ws := R_cmp_ge hc_133 dX9_parse_15 rfl rfl
theorem r_133_18 (l1 : Value) (a : Nat) (st : List Value) (ws : ai_W) : ai_Run 133 18 [.ref a, l1] st ws = ai_Run 133 19 [.ref a, l1] (.ref a :: st) ws := R_aload_n hc_133 dX9_parse_18 rfl rfl
theorem r_133_19 (ls : List Value) (r : Nat) (ws : ai_W) : ai_Run 133 19 ls [.ref r] ws = (ai_Call 132 [.ref r] ws).bind fun q => ai_Run 133 22 ls (q.1.toList ++ []) q.2 := R_callV hc_133 dX9_parse_19 hv_133 (w := 1042) rfl (ai_lt3 hf_132 hf_133 hL_132 ho_132 ho_133 rfl) hk_132 (by rw [hn_132]; rfl) rfl (Nat.le_of_ble_eq_true rfl) rfl
theorem r_133_22 (ls st : List Value) (a : Int32) (ws : ai_W) : ai_Run 133 22 ls (.int a :: st) ws = if a = 0 then ai_Run 133 25 ls st ws else ai_Run 133 30 ls st ws := R_if_ne hc_133 dX9_parse_22 rfl rfl
theorem r_133_25 (l1 : Value) (a : Nat) (st : List Value) (ws : ai_W) : ai_Run 133 25 [.ref a, l1] st ws = ai_Run 133 26 [.ref a, l1] (.ref a :: st) ws := R_aload_n hc_133 dX9_parse_25 rfl rfl
theorem r_133_26 (ls st : List Value) (a : Nat) (ws : ai_W) : ai_Run 133 26 ls (.ref a :: st) ws = (ai_fget ws a 9 5).bind fun q => ai_Run 133 29 ls (q :: st) ws := R_getf hc_133 dX9_parse_26 hv_133 (w := 623) rfl rfl
theorem r_133_29 (ls : List Value) (x : Int32) (ws : ai_W) : ai_Run 133 29 ls [.int x] ws = some (some (.int x), ws) := R_iret hc_133 dX9_parse_29 ht_133
theorem r_133_30 (l1 : Value) (a : Nat) (st : List Value) (ws : ai_W) : ai_Run 133 30 [.ref a, l1] st ws = ai_Run 133 31 [.ref a, l1] (.ref a :: st) ws := R_aload_n hc_133 dX9_parse_30 rfl rfl
theorem r_133_31 (ls st : List Value) (a : Nat) (ws : ai_W) : ai_Run 133 31 ls (.ref a :: st) ws = ai_Run 133 32 ls (.ref a :: .ref a :: st) ws := R_dup hc_133 dX9_parse_31 rfl
theorem r_133_32 (ls st : List Value) (a : Nat) (ws : ai_W) : ai_Run 133 32 ls (.ref a :: st) ws = (ai_fget ws a 9 4).bind fun q => ai_Run 133 35 ls (q :: st) ws := R_getf hc_133 dX9_parse_32 hv_133 (w := 622) rfl rfl
theorem r_133_35 (ls st : List Value) (ws : ai_W) : ai_Run 133 35 ls st ws = ai_Run 133 36 ls (.int 1 :: st) ws := R_iconst hc_133 dX9_parse_35 (by decide) rfl
theorem r_133_36 (ls st : List Value) (a b : Int32) (ws : ai_W) : ai_Run 133 36 ls (.int b :: .int a :: st) ws = ai_Run 133 37 ls (.int (a + b) :: st) ws := R_iadd hc_133 dX9_parse_36 rfl
theorem r_133_37 (ls st : List Value) (a : Nat) (x : Value) (ws : ai_W) : ai_Run 133 37 ls (x :: .ref a :: st) ws = (ai_fput ws a 9 4 x).bind fun ws => ai_Run 133 40 ls st ws := R_putf hc_133 dX9_parse_37 hv_133 (w := 622) rfl rfl rfl
theorem r_133_40 (l1 : Value) (a : Nat) (st : List Value) (ws : ai_W) : ai_Run 133 40 [.ref a, l1] st ws = ai_Run 133 41 [.ref a, l1] (.ref a :: st) ws := R_aload_n hc_133 dX9_parse_40 rfl rfl
theorem r_133_41 (ls st : List Value) (a : Nat) (ws : ai_W) : ai_Run 133 41 ls (.ref a :: st) ws = (ai_fget ws a 9 5).bind fun q => ai_Run 133 44 ls (q :: st) ws := R_getf hc_133 dX9_parse_41 hv_133 (w := 623) rfl rfl
theorem r_133_44 (l1 : Value) (a : Nat) (st : List Value) (ws : ai_W) : ai_Run 133 44 [.ref a, l1] st ws = ai_Run 133 45 [.ref a, l1] (.ref a :: st) ws := R_aload_n hc_133 dX9_parse_44 rfl rfl
theorem r_133_45 (ls st : List Value) (a : Nat) (ws : ai_W) : ai_Run 133 45 ls (.ref a :: st) ws = (ai_fget ws a 9 3).bind fun q => ai_Run 133 48 ls (q :: st) ws := R_getf hc_133 dX9_parse_45 hv_133 (w := 621) rfl rfl
theorem r_133_48 (ls st : List Value) (a b : Int32) (ws : ai_W) : ai_Run 133 48 ls (.int b :: .int a :: st) ws = if a = b then ai_Run 133 51 ls st ws else ai_Run 133 53 ls st ws := R_cmp_ne hc_133 dX9_parse_48 rfl rfl
theorem r_133_51 (ls st : List Value) (ws : ai_W) : ai_Run 133 51 ls st ws = ai_Run 133 52 ls (.int (-1) :: st) ws := R_iconst hc_133 dX9_parse_51 (by decide) rfl
theorem r_133_52 (ls : List Value) (x : Int32) (ws : ai_W) : ai_Run 133 52 ls [.int x] ws = some (some (.int x), ws) := R_iret hc_133 dX9_parse_52 ht_133
theorem r_133_53 (l1 : Value) (a : Nat) (st : List Value) (ws : ai_W) : ai_Run 133 53 [.ref a, l1] st ws = ai_Run 133 54 [.ref a, l1] (.ref a :: st) ws := R_aload_n hc_133 dX9_parse_53 rfl rfl
theorem r_133_54 (ls st : List Value) (ws : ai_W) : ai_Run 133 54 ls st ws = ai_Run 133 56 ls (.int 59 :: st) ws := R_bipush hc_133 dX9_parse_54 (by decide) rfl
theorem r_133_56 (ls : List Value) (r : Nat) (b0 : Int32) (ws : ai_W) : ai_Run 133 56 ls [.int b0, .ref r] ws = (ai_Call 125 [.ref r, .int b0] ws).bind fun q => ai_Run 133 59 ls (q.1.toList ++ []) q.2 := R_callV hc_133 dX9_parse_56 hv_133 (w := 1051) rfl (ai_lt3 hf_125 hf_133 hL_125 ho_125 ho_133 rfl) hk_125 (by rw [hn_125]; rfl) rfl (Nat.le_of_ble_eq_true rfl) rfl
theorem r_133_59 (ls st : List Value) (a : Int32) (ws : ai_W) : ai_Run 133 59 ls (.int a :: st) ws = if a = 0 then ai_Run 133 62 ls st ws else ai_Run 133 67 ls st ws := R_if_ne hc_133 dX9_parse_59 rfl rfl
theorem r_133_62 (l1 : Value) (a : Nat) (st : List Value) (ws : ai_W) : ai_Run 133 62 [.ref a, l1] st ws = ai_Run 133 63 [.ref a, l1] (.ref a :: st) ws := R_aload_n hc_133 dX9_parse_62 rfl rfl
theorem r_133_63 (ls st : List Value) (a : Nat) (ws : ai_W) : ai_Run 133 63 ls (.ref a :: st) ws = (ai_fget ws a 9 5).bind fun q => ai_Run 133 66 ls (q :: st) ws := R_getf hc_133 dX9_parse_63 hv_133 (w := 623) rfl rfl
theorem r_133_66 (ls : List Value) (x : Int32) (ws : ai_W) : ai_Run 133 66 ls [.int x] ws = some (some (.int x), ws) := R_iret hc_133 dX9_parse_66 ht_133
theorem r_133_67 (l0 : Value) (a : Int32) (st : List Value) (ws : ai_W) : ai_Run 133 67 [l0, .int a] st ws = ai_Run 133 70 [l0, .int (a + 1)] st ws := R_iinc hc_133 dX9_parse_67 rfl (by decide) rfl rfl
theorem r_133_70 (ls st : List Value) (ws : ai_W) : ai_Run 133 70 ls st ws = ai_Run 133 12 ls st ws := R_goto hc_133 dX9_parse_70 rfl
theorem r_133_73 (l1 : Value) (a : Nat) (st : List Value) (ws : ai_W) : ai_Run 133 73 [.ref a, l1] st ws = ai_Run 133 74 [.ref a, l1] (.ref a :: st) ws := R_aload_n hc_133 dX9_parse_73 rfl rfl
theorem r_133_74 (ls st : List Value) (a : Nat) (ws : ai_W) : ai_Run 133 74 ls (.ref a :: st) ws = (ai_fget ws a 9 5).bind fun q => ai_Run 133 77 ls (q :: st) ws := R_getf hc_133 dX9_parse_74 hv_133 (w := 623) rfl rfl
theorem r_133_77 (ls : List Value) (x : Int32) (ws : ai_W) : ai_Run 133 77 ls [.int x] ws = some (some (.int x), ws) := R_iret hc_133 dX9_parse_77 ht_133
theorem dX9_clear_0 : decode cX9_clear 0 = .ok (.aload_n 0, 1) := by decide +kernel
theorem dX9_clear_1 : decode cX9_clear 1 = .ok (.iconst 0, 1) := by decide +kernel
theorem dX9_clear_2 : decode cX9_clear 2 = .ok (.putfield 26, 3) := by decide +kernel
theorem dX9_clear_5 : decode cX9_clear 5 = .ok (.return_, 1) := by decide +kernel
theorem e_134 (r : Nat)  (ws : ai_W) : ai_Call 134 [.ref r] ws = if ai_isob ws r 9 = true then ai_Run 134 0 [.ref r] [] ws else none := R_entV hk_134 ⟨⟨rfl, rfl⟩, Nat.le_of_ble_eq_true rfl⟩ rfl
theorem r_134_0 (a : Nat) (st : List Value) (ws : ai_W) : ai_Run 134 0 [.ref a] st ws = ai_Run 134 1 [.ref a] (.ref a :: st) ws := R_aload_n hc_134 dX9_clear_0 rfl rfl
theorem r_134_1 (ls st : List Value) (ws : ai_W) : ai_Run 134 1 ls st ws = ai_Run 134 2 ls (.int 0 :: st) ws := R_iconst hc_134 dX9_clear_1 (by decide) rfl
theorem r_134_2 (ls st : List Value) (a : Nat) (x : Value) (ws : ai_W) : ai_Run 134 2 ls (x :: .ref a :: st) ws = (ai_fput ws a 9 3 x).bind fun ws => ai_Run 134 5 ls st ws := R_putf hc_134 dX9_clear_2 hv_134 (w := 621) rfl rfl rfl
theorem r_134_5 (ls : List Value) (ws : ai_W) : ai_Run 134 5 ls [] ws = some (none, ws) := R_vret hc_134 dX9_clear_5 ht_134
theorem dX9_commands_0 : decode cX9_commands 0 = .ok (.aload_n 0, 1) := by decide +kernel
theorem dX9_commands_1 : decode cX9_commands 1 = .ok (.getfield 33, 3) := by decide +kernel
theorem dX9_commands_4 : decode cX9_commands 4 = .ok (.ireturn, 1) := by decide +kernel
theorem e_135 (r : Nat)  (ws : ai_W) : ai_Call 135 [.ref r] ws = if ai_isob ws r 9 = true then ai_Run 135 0 [.ref r] [] ws else none := R_entV hk_135 ⟨⟨rfl, rfl⟩, Nat.le_of_ble_eq_true rfl⟩ rfl
theorem r_135_0 (a : Nat) (st : List Value) (ws : ai_W) : ai_Run 135 0 [.ref a] st ws = ai_Run 135 1 [.ref a] (.ref a :: st) ws := R_aload_n hc_135 dX9_commands_0 rfl rfl
theorem r_135_1 (ls st : List Value) (a : Nat) (ws : ai_W) : ai_Run 135 1 ls (.ref a :: st) ws = (ai_fget ws a 9 4).bind fun q => ai_Run 135 4 ls (q :: st) ws := R_getf hc_135 dX9_commands_1 hv_135 (w := 622) rfl rfl
theorem r_135_4 (ls : List Value) (x : Int32) (ws : ai_W) : ai_Run 135 4 ls [.int x] ws = some (some (.int x), ws) := R_iret hc_135 dX9_commands_4 ht_135
theorem dX3_takeBack_0 : decode cX3_takeBack 0 = .ok (.aload_n 0, 1) := by decide +kernel
theorem dX3_takeBack_1 : decode cX3_takeBack 1 = .ok (.aload_n 0, 1) := by decide +kernel
theorem dX3_takeBack_2 : decode cX3_takeBack 2 = .ok (.getfield 26, 3) := by decide +kernel
theorem dX3_takeBack_5 : decode cX3_takeBack 5 = .ok (.invokevirtual 29, 3) := by decide +kernel
theorem dX3_takeBack_8 : decode cX3_takeBack 8 = .ok (.ifCond .eq 16, 3) := by decide +kernel
theorem dX3_takeBack_11 : decode cX3_takeBack 11 = .ok (.aload_n 1, 1) := by decide +kernel
theorem dX3_takeBack_12 : decode cX3_takeBack 12 = .ok (.aload_n 0, 1) := by decide +kernel
theorem dX3_takeBack_13 : decode cX3_takeBack 13 = .ok (.getfield 11, 3) := by decide +kernel
theorem dX3_takeBack_16 : decode cX3_takeBack 16 = .ok (.aload_n 0, 1) := by decide +kernel
theorem dX3_takeBack_17 : decode cX3_takeBack 17 = .ok (.getfield 26, 3) := by decide +kernel
theorem dX3_takeBack_20 : decode cX3_takeBack 20 = .ok (.aaload, 1) := by decide +kernel
theorem dX3_takeBack_21 : decode cX3_takeBack 21 = .ok (.invokevirtual 33, 3) := by decide +kernel
theorem dX3_takeBack_24 : decode cX3_takeBack 24 = .ok (.return_, 1) := by decide +kernel
theorem e_136 (r : Nat) (a0 : Nat) (ws : ai_W) : ai_Call 136 [.ref r, .ref a0] ws = if ai_isob ws r 3 = true then ai_Run 136 0 [.ref r, .ref a0] [] ws else none := R_entV hk_136 ⟨⟨rfl, rfl⟩, Nat.le_of_ble_eq_true rfl⟩ rfl
theorem r_136_0 (l1 : Value) (a : Nat) (st : List Value) (ws : ai_W) : ai_Run 136 0 [.ref a, l1] st ws = ai_Run 136 1 [.ref a, l1] (.ref a :: st) ws := R_aload_n hc_136 dX3_takeBack_0 rfl rfl
theorem r_136_1 (l1 : Value) (a : Nat) (st : List Value) (ws : ai_W) : ai_Run 136 1 [.ref a, l1] st ws = ai_Run 136 2 [.ref a, l1] (.ref a :: st) ws := R_aload_n hc_136 dX3_takeBack_1 rfl rfl
theorem r_136_2 (ls st : List Value) (a : Nat) (ws : ai_W) : ai_Run 136 2 ls (.ref a :: st) ws = (ai_fget ws a 3 2).bind fun q => ai_Run 136 5 ls (q :: st) ws := R_getf hc_136 dX3_takeBack_2 hv_136 (w := 596) rfl rfl
theorem r_136_5 (ls : List Value) (r : Nat) (b0 : Int32) (ws : ai_W) : ai_Run 136 5 ls [.int b0, .ref r] ws = (ai_Call 41 [.ref r, .int b0] ws).bind fun q => ai_Run 136 8 ls (q.1.toList ++ []) q.2 := R_callV hc_136 dX3_takeBack_5 hv_136 (w := 61) rfl (ai_lt3 hf_41 hf_136 hL_41 ho_41 ho_136 rfl) hk_41 (by rw [hn_41]; rfl) rfl (Nat.le_of_ble_eq_true rfl) rfl
theorem r_136_8 (ls st : List Value) (a : Int32) (ws : ai_W) : ai_Run 136 8 ls (.int a :: st) ws = if a = 0 then ai_Run 136 24 ls st ws else ai_Run 136 11 ls st ws := R_if_eq hc_136 dX3_takeBack_8 rfl rfl
theorem r_136_11 (l0 : Value) (a : Nat) (st : List Value) (ws : ai_W) : ai_Run 136 11 [l0, .ref a] st ws = ai_Run 136 12 [l0, .ref a] (.ref a :: st) ws := R_aload_n hc_136 dX3_takeBack_11 rfl rfl
theorem r_136_12 (l1 : Value) (a : Nat) (st : List Value) (ws : ai_W) : ai_Run 136 12 [.ref a, l1] st ws = ai_Run 136 13 [.ref a, l1] (.ref a :: st) ws := R_aload_n hc_136 dX3_takeBack_12 rfl rfl
theorem r_136_13 (ls st : List Value) (a : Nat) (ws : ai_W) : ai_Run 136 13 ls (.ref a :: st) ws = (ai_fget ws a 3 0).bind fun q => ai_Run 136 16 ls (q :: st) ws := R_getf hc_136 dX3_takeBack_13 hv_136 (w := 594) rfl rfl
theorem r_136_16 (l1 : Value) (a : Nat) (st : List Value) (ws : ai_W) : ai_Run 136 16 [.ref a, l1] st ws = ai_Run 136 17 [.ref a, l1] (.ref a :: st) ws := R_aload_n hc_136 dX3_takeBack_16 rfl rfl
theorem r_136_17 (ls st : List Value) (a : Nat) (ws : ai_W) : ai_Run 136 17 ls (.ref a :: st) ws = (ai_fget ws a 3 2).bind fun q => ai_Run 136 20 ls (q :: st) ws := R_getf hc_136 dX3_takeBack_17 hv_136 (w := 596) rfl rfl
theorem r_136_20 (ls st : List Value) (a : Nat) (i : Int32) (ws : ai_W) : ai_Run 136 20 ls (.int i :: .ref a :: st) ws = (ai_qget ws a i).bind fun q => ai_Run 136 21 ls (q :: st) ws := R_aaload hc_136 dX3_takeBack_20 rfl
theorem r_136_21 (ls : List Value) (r : Nat) (b0 : Nat) (ws : ai_W) : ai_Run 136 21 ls [.ref b0, .ref r] ws = (ai_Call 44 [.ref r, .ref b0] ws).bind fun q => ai_Run 136 24 ls (q.1.toList ++ []) q.2 := R_callV hc_136 dX3_takeBack_21 hv_136 (w := 66) rfl (ai_lt3 hf_44 hf_136 hL_44 ho_44 ho_136 rfl) hk_44 (by rw [hn_44]; rfl) rfl (Nat.le_of_ble_eq_true rfl) rfl
theorem r_136_24 (ls : List Value) (ws : ai_W) : ai_Run 136 24 ls [] ws = some (none, ws) := R_vret hc_136 dX3_takeBack_24 ht_136
theorem dX3_restoreSnapshot_0 : decode cX3_restoreSnapshot 0 = .ok (.aload_n 0, 1) := by decide +kernel
theorem dX3_restoreSnapshot_1 : decode cX3_restoreSnapshot 1 = .ok (.getfield 46, 3) := by decide +kernel
theorem dX3_restoreSnapshot_4 : decode cX3_restoreSnapshot 4 = .ok (.ifCond .ne 5, 3) := by decide +kernel
theorem dX3_restoreSnapshot_7 : decode cX3_restoreSnapshot 7 = .ok (.iconst 0, 1) := by decide +kernel
theorem dX3_restoreSnapshot_8 : decode cX3_restoreSnapshot 8 = .ok (.ireturn, 1) := by decide +kernel
theorem dX3_restoreSnapshot_9 : decode cX3_restoreSnapshot 9 = .ok (.aload_n 1, 1) := by decide +kernel
theorem dX3_restoreSnapshot_10 : decode cX3_restoreSnapshot 10 = .ok (.aload_n 0, 1) := by decide +kernel
theorem dX3_restoreSnapshot_11 : decode cX3_restoreSnapshot 11 = .ok (.getfield 18, 3) := by decide +kernel
theorem dX3_restoreSnapshot_14 : decode cX3_restoreSnapshot 14 = .ok (.invokevirtual 33, 3) := by decide +kernel
theorem dX3_restoreSnapshot_17 : decode cX3_restoreSnapshot 17 = .ok (.aload_n 0, 1) := by decide +kernel
theorem dX3_restoreSnapshot_18 : decode cX3_restoreSnapshot 18 = .ok (.iconst 0, 1) := by decide +kernel
theorem dX3_restoreSnapshot_19 : decode cX3_restoreSnapshot 19 = .ok (.putfield 22, 3) := by decide +kernel
theorem dX3_restoreSnapshot_22 : decode cX3_restoreSnapshot 22 = .ok (.iconst 1, 1) := by decide +kernel
theorem dX3_restoreSnapshot_23 : decode cX3_restoreSnapshot 23 = .ok (.ireturn, 1) := by decide +kernel
theorem e_138 (r : Nat) (a0 : Nat) (ws : ai_W) : ai_Call 138 [.ref r, .ref a0] ws = if ai_isob ws r 3 = true then ai_Run 138 0 [.ref r, .ref a0] [] ws else none := R_entV hk_138 ⟨⟨rfl, rfl⟩, Nat.le_of_ble_eq_true rfl⟩ rfl
theorem r_138_0 (l1 : Value) (a : Nat) (st : List Value) (ws : ai_W) : ai_Run 138 0 [.ref a, l1] st ws = ai_Run 138 1 [.ref a, l1] (.ref a :: st) ws := R_aload_n hc_138 dX3_restoreSnapshot_0 rfl rfl
theorem r_138_1 (ls st : List Value) (a : Nat) (ws : ai_W) : ai_Run 138 1 ls (.ref a :: st) ws = (ai_fget ws a 3 4).bind fun q => ai_Run 138 4 ls (q :: st) ws := R_getf hc_138 dX3_restoreSnapshot_1 hv_138 (w := 598) rfl rfl
theorem r_138_4 (ls st : List Value) (a : Int32) (ws : ai_W) : ai_Run 138 4 ls (.int a :: st) ws = if a = 0 then ai_Run 138 7 ls st ws else ai_Run 138 9 ls st ws := R_if_ne hc_138 dX3_restoreSnapshot_4 rfl rfl
theorem r_138_7 (ls st : List Value) (ws : ai_W) : ai_Run 138 7 ls st ws = ai_Run 138 8 ls (.int 0 :: st) ws := R_iconst hc_138 dX3_restoreSnapshot_7 (by decide) rfl
theorem r_138_8 (ls : List Value) (x : Int32) (ws : ai_W) : ai_Run 138 8 ls [.int x] ws = if ai_pb x = true then some (some (.int x), ws) else none := R_zret hc_138 dX3_restoreSnapshot_8 ht_138
theorem r_138_9 (l0 : Value) (a : Nat) (st : List Value) (ws : ai_W) : ai_Run 138 9 [l0, .ref a] st ws = ai_Run 138 10 [l0, .ref a] (.ref a :: st) ws := R_aload_n hc_138 dX3_restoreSnapshot_9 rfl rfl
theorem r_138_10 (l1 : Value) (a : Nat) (st : List Value) (ws : ai_W) : ai_Run 138 10 [.ref a, l1] st ws = ai_Run 138 11 [.ref a, l1] (.ref a :: st) ws := R_aload_n hc_138 dX3_restoreSnapshot_10 rfl rfl
theorem r_138_11 (ls st : List Value) (a : Nat) (ws : ai_W) : ai_Run 138 11 ls (.ref a :: st) ws = (ai_fget ws a 3 1).bind fun q => ai_Run 138 14 ls (q :: st) ws := R_getf hc_138 dX3_restoreSnapshot_11 hv_138 (w := 595) rfl rfl
theorem r_138_14 (ls : List Value) (r : Nat) (b0 : Nat) (ws : ai_W) : ai_Run 138 14 ls [.ref b0, .ref r] ws = (ai_Call 44 [.ref r, .ref b0] ws).bind fun q => ai_Run 138 17 ls (q.1.toList ++ []) q.2 := R_callV hc_138 dX3_restoreSnapshot_14 hv_138 (w := 66) rfl (ai_lt3 hf_44 hf_138 hL_44 ho_44 ho_138 rfl) hk_44 (by rw [hn_44]; rfl) rfl (Nat.le_of_ble_eq_true rfl) rfl
theorem r_138_17 (l1 : Value) (a : Nat) (st : List Value) (ws : ai_W) : ai_Run 138 17 [.ref a, l1] st ws = ai_Run 138 18 [.ref a, l1] (.ref a :: st) ws := R_aload_n hc_138 dX3_restoreSnapshot_17 rfl rfl
theorem r_138_18 (ls st : List Value) (ws : ai_W) : ai_Run 138 18 ls st ws = ai_Run 138 19 ls (.int 0 :: st) ws := R_iconst hc_138 dX3_restoreSnapshot_18 (by decide) rfl
theorem r_138_19 (ls st : List Value) (a : Nat) (x : Value) (ws : ai_W) : ai_Run 138 19 ls (x :: .ref a :: st) ws = (ai_fput ws a 3 3 x).bind fun ws => ai_Run 138 22 ls st ws := R_putf hc_138 dX3_restoreSnapshot_19 hv_138 (w := 597) rfl rfl rfl
theorem r_138_22 (ls st : List Value) (ws : ai_W) : ai_Run 138 22 ls st ws = ai_Run 138 23 ls (.int 1 :: st) ws := R_iconst hc_138 dX3_restoreSnapshot_22 (by decide) rfl
theorem r_138_23 (ls : List Value) (x : Int32) (ws : ai_W) : ai_Run 138 23 ls [.int x] ws = if ai_pb x = true then some (some (.int x), ws) else none := R_zret hc_138 dX3_restoreSnapshot_23 ht_138
theorem dX3_saveSnapshot_0 : decode cX3_saveSnapshot 0 = .ok (.aload_n 0, 1) := by decide +kernel
theorem dX3_saveSnapshot_1 : decode cX3_saveSnapshot 1 = .ok (.getfield 18, 3) := by decide +kernel
theorem dX3_saveSnapshot_4 : decode cX3_saveSnapshot 4 = .ok (.aload_n 1, 1) := by decide +kernel
theorem dX3_saveSnapshot_5 : decode cX3_saveSnapshot 5 = .ok (.invokevirtual 33, 3) := by decide +kernel
theorem dX3_saveSnapshot_8 : decode cX3_saveSnapshot 8 = .ok (.aload_n 0, 1) := by decide +kernel
theorem dX3_saveSnapshot_9 : decode cX3_saveSnapshot 9 = .ok (.iconst 1, 1) := by decide +kernel
theorem dX3_saveSnapshot_10 : decode cX3_saveSnapshot 10 = .ok (.putfield 46, 3) := by decide +kernel
theorem dX3_saveSnapshot_13 : decode cX3_saveSnapshot 13 = .ok (.return_, 1) := by decide +kernel
theorem e_141 (r : Nat) (a0 : Nat) (ws : ai_W) : ai_Call 141 [.ref r, .ref a0] ws = if ai_isob ws r 3 = true then ai_Run 141 0 [.ref r, .ref a0] [] ws else none := R_entV hk_141 ⟨⟨rfl, rfl⟩, Nat.le_of_ble_eq_true rfl⟩ rfl
theorem r_141_0 (l1 : Value) (a : Nat) (st : List Value) (ws : ai_W) : ai_Run 141 0 [.ref a, l1] st ws = ai_Run 141 1 [.ref a, l1] (.ref a :: st) ws := R_aload_n hc_141 dX3_saveSnapshot_0 rfl rfl
theorem r_141_1 (ls st : List Value) (a : Nat) (ws : ai_W) : ai_Run 141 1 ls (.ref a :: st) ws = (ai_fget ws a 3 1).bind fun q => ai_Run 141 4 ls (q :: st) ws := R_getf hc_141 dX3_saveSnapshot_1 hv_141 (w := 595) rfl rfl
theorem r_141_4 (l0 : Value) (a : Nat) (st : List Value) (ws : ai_W) : ai_Run 141 4 [l0, .ref a] st ws = ai_Run 141 5 [l0, .ref a] (.ref a :: st) ws := R_aload_n hc_141 dX3_saveSnapshot_4 rfl rfl
theorem r_141_5 (ls : List Value) (r : Nat) (b0 : Nat) (ws : ai_W) : ai_Run 141 5 ls [.ref b0, .ref r] ws = (ai_Call 44 [.ref r, .ref b0] ws).bind fun q => ai_Run 141 8 ls (q.1.toList ++ []) q.2 := R_callV hc_141 dX3_saveSnapshot_5 hv_141 (w := 66) rfl (ai_lt3 hf_44 hf_141 hL_44 ho_44 ho_141 rfl) hk_44 (by rw [hn_44]; rfl) rfl (Nat.le_of_ble_eq_true rfl) rfl
theorem r_141_8 (l1 : Value) (a : Nat) (st : List Value) (ws : ai_W) : ai_Run 141 8 [.ref a, l1] st ws = ai_Run 141 9 [.ref a, l1] (.ref a :: st) ws := R_aload_n hc_141 dX3_saveSnapshot_8 rfl rfl
theorem r_141_9 (ls st : List Value) (ws : ai_W) : ai_Run 141 9 ls st ws = ai_Run 141 10 ls (.int 1 :: st) ws := R_iconst hc_141 dX3_saveSnapshot_9 (by decide) rfl
theorem r_141_10 (ls st : List Value) (a : Nat) (x : Value) (ws : ai_W) : ai_Run 141 10 ls (x :: .ref a :: st) ws = (ai_fput ws a 3 4 x).bind fun ws => ai_Run 141 13 ls st ws := R_putf hc_141 dX3_saveSnapshot_10 hv_141 (w := 598) rfl rfl rfl
theorem r_141_13 (ls : List Value) (ws : ai_W) : ai_Run 141 13 ls [] ws = some (none, ws) := R_vret hc_141 dX3_saveSnapshot_13 ht_141
theorem dX6_codeAt_0 : decode cX6_codeAt 0 = .ok (.iload_n 1, 1) := by decide +kernel
theorem dX6_codeAt_1 : decode cX6_codeAt 1 = .ok (.ifCond .lt 22, 3) := by decide +kernel
theorem dX6_codeAt_4 : decode cX6_codeAt 4 = .ok (.iload_n 1, 1) := by decide +kernel
theorem dX6_codeAt_5 : decode cX6_codeAt 5 = .ok (.aload_n 0, 1) := by decide +kernel
theorem dX6_codeAt_6 : decode cX6_codeAt 6 = .ok (.getfield 20, 3) := by decide +kernel
theorem dX6_codeAt_9 : decode cX6_codeAt 9 = .ok (.if_icmp .ge 14, 3) := by decide +kernel
theorem dX6_codeAt_12 : decode cX6_codeAt 12 = .ok (.aload_n 0, 1) := by decide +kernel
theorem dX6_codeAt_13 : decode cX6_codeAt 13 = .ok (.getfield 14, 3) := by decide +kernel
theorem dX6_codeAt_16 : decode cX6_codeAt 16 = .ok (.iload_n 1, 1) := by decide +kernel
theorem dX6_codeAt_17 : decode cX6_codeAt 17 = .ok (.invokevirtual 24, 3) := by decide +kernel
theorem dX6_codeAt_20 : decode cX6_codeAt 20 = .ok (.goto 4, 3) := by decide +kernel
theorem dX6_codeAt_23 : decode cX6_codeAt 23 = .ok (.iconst (-1), 1) := by decide +kernel
theorem dX6_codeAt_24 : decode cX6_codeAt 24 = .ok (.ireturn, 1) := by decide +kernel
theorem e_145 (r : Nat) (a0 : Int32) (ws : ai_W) : ai_Call 145 [.ref r, .int a0] ws = if ai_isob ws r 6 = true then ai_Run 145 0 [.ref r, .int a0] [] ws else none := R_entV hk_145 ⟨⟨rfl, rfl⟩, Nat.le_of_ble_eq_true rfl⟩ rfl
theorem r_145_0 (l0 : Value) (a : Int32) (st : List Value) (ws : ai_W) : ai_Run 145 0 [l0, .int a] st ws = ai_Run 145 1 [l0, .int a] (.int a :: st) ws := R_iload_n hc_145 dX6_codeAt_0 rfl rfl
theorem r_145_1 (ls st : List Value) (a : Int32) (ws : ai_W) : ai_Run 145 1 ls (.int a :: st) ws = if a < 0 then ai_Run 145 23 ls st ws else ai_Run 145 4 ls st ws := R_if_lt hc_145 dX6_codeAt_1 rfl rfl
theorem r_145_4 (l0 : Value) (a : Int32) (st : List Value) (ws : ai_W) : ai_Run 145 4 [l0, .int a] st ws = ai_Run 145 5 [l0, .int a] (.int a :: st) ws := R_iload_n hc_145 dX6_codeAt_4 rfl rfl
theorem r_145_5 (l1 : Value) (a : Nat) (st : List Value) (ws : ai_W) : ai_Run 145 5 [.ref a, l1] st ws = ai_Run 145 6 [.ref a, l1] (.ref a :: st) ws := R_aload_n hc_145 dX6_codeAt_5 rfl rfl
theorem r_145_6 (ls st : List Value) (a : Nat) (ws : ai_W) : ai_Run 145 6 ls (.ref a :: st) ws = (ai_fget ws a 6 1).bind fun q => ai_Run 145 9 ls (q :: st) ws := R_getf hc_145 dX6_codeAt_6 hv_145 (w := 649) rfl rfl
theorem r_145_9 (ls st : List Value) (a b : Int32) (ws : ai_W) : ai_Run 145 9 ls (.int b :: .int a :: st) ws = if a < b then ai_Run 145 12 ls st ws else ai_Run 145 23 ls st ws := R_cmp_ge hc_145 dX6_codeAt_9 rfl rfl
theorem r_145_12 (l1 : Value) (a : Nat) (st : List Value) (ws : ai_W) : ai_Run 145 12 [.ref a, l1] st ws = ai_Run 145 13 [.ref a, l1] (.ref a :: st) ws := R_aload_n hc_145 dX6_codeAt_12 rfl rfl
theorem r_145_13 (ls st : List Value) (a : Nat) (ws : ai_W) : ai_Run 145 13 ls (.ref a :: st) ws = (ai_fget ws a 6 0).bind fun q => ai_Run 145 16 ls (q :: st) ws := R_getf hc_145 dX6_codeAt_13 hv_145 (w := 648) rfl rfl
theorem r_145_16 (l0 : Value) (a : Int32) (st : List Value) (ws : ai_W) : ai_Run 145 16 [l0, .int a] st ws = ai_Run 145 17 [l0, .int a] (.int a :: st) ws := R_iload_n hc_145 dX6_codeAt_16 rfl rfl
theorem r_145_17 (ls : List Value) (r : Nat) (b0 : Int32) (ws : ai_W) : ai_Run 145 17 ls [.int b0, .ref r] ws = (ai_Call 12 [.ref r, .int b0] ws).bind fun q => ai_Run 145 20 ls (q.1.toList ++ []) q.2 := R_callV hc_145 dX6_codeAt_17 hv_145 (w := 1164) rfl (ai_lt3 hf_12 hf_145 hL_12 ho_12 ho_145 rfl) hk_12 (by rw [hn_12]; rfl) rfl (Nat.le_of_ble_eq_true rfl) rfl
theorem r_145_20 (ls st : List Value) (ws : ai_W) : ai_Run 145 20 ls st ws = ai_Run 145 24 ls st ws := R_goto hc_145 dX6_codeAt_20 rfl
theorem r_145_23 (ls st : List Value) (ws : ai_W) : ai_Run 145 23 ls st ws = ai_Run 145 24 ls (.int (-1) :: st) ws := R_iconst hc_145 dX6_codeAt_23 (by decide) rfl
theorem r_145_24 (ls : List Value) (x : Int32) (ws : ai_W) : ai_Run 145 24 ls [.int x] ws = some (some (.int x), ws) := R_iret hc_145 dX6_codeAt_24 ht_145
theorem dX6_clear_0 : decode cX6_clear 0 = .ok (.aload_n 0, 1) := by decide +kernel
theorem dX6_clear_1 : decode cX6_clear 1 = .ok (.iconst 0, 1) := by decide +kernel
theorem dX6_clear_2 : decode cX6_clear 2 = .ok (.putfield 20, 3) := by decide +kernel
theorem dX6_clear_5 : decode cX6_clear 5 = .ok (.return_, 1) := by decide +kernel
theorem e_151 (r : Nat)  (ws : ai_W) : ai_Call 151 [.ref r] ws = if ai_isob ws r 6 = true then ai_Run 151 0 [.ref r] [] ws else none := R_entV hk_151 ⟨⟨rfl, rfl⟩, Nat.le_of_ble_eq_true rfl⟩ rfl
theorem r_151_0 (a : Nat) (st : List Value) (ws : ai_W) : ai_Run 151 0 [.ref a] st ws = ai_Run 151 1 [.ref a] (.ref a :: st) ws := R_aload_n hc_151 dX6_clear_0 rfl rfl
theorem r_151_1 (ls st : List Value) (ws : ai_W) : ai_Run 151 1 ls st ws = ai_Run 151 2 ls (.int 0 :: st) ws := R_iconst hc_151 dX6_clear_1 (by decide) rfl
theorem r_151_2 (ls st : List Value) (a : Nat) (x : Value) (ws : ai_W) : ai_Run 151 2 ls (x :: .ref a :: st) ws = (ai_fput ws a 6 1 x).bind fun ws => ai_Run 151 5 ls st ws := R_putf hc_151 dX6_clear_2 hv_151 (w := 649) rfl rfl rfl
theorem r_151_5 (ls : List Value) (ws : ai_W) : ai_Run 151 5 ls [] ws = some (none, ws) := R_vret hc_151 dX6_clear_5 ht_151
theorem dX6_size_0 : decode cX6_size 0 = .ok (.aload_n 0, 1) := by decide +kernel
theorem dX6_size_1 : decode cX6_size 1 = .ok (.getfield 20, 3) := by decide +kernel
theorem dX6_size_4 : decode cX6_size 4 = .ok (.ireturn, 1) := by decide +kernel
theorem e_152 (r : Nat)  (ws : ai_W) : ai_Call 152 [.ref r] ws = if ai_isob ws r 6 = true then ai_Run 152 0 [.ref r] [] ws else none := R_entV hk_152 ⟨⟨rfl, rfl⟩, Nat.le_of_ble_eq_true rfl⟩ rfl
theorem r_152_0 (a : Nat) (st : List Value) (ws : ai_W) : ai_Run 152 0 [.ref a] st ws = ai_Run 152 1 [.ref a] (.ref a :: st) ws := R_aload_n hc_152 dX6_size_0 rfl rfl
theorem r_152_1 (ls st : List Value) (a : Nat) (ws : ai_W) : ai_Run 152 1 ls (.ref a :: st) ws = (ai_fget ws a 6 1).bind fun q => ai_Run 152 4 ls (q :: st) ws := R_getf hc_152 dX6_size_1 hv_152 (w := 649) rfl rfl
theorem r_152_4 (ls : List Value) (x : Int32) (ws : ai_W) : ai_Run 152 4 ls [.int x] ws = some (some (.int x), ws) := R_iret hc_152 dX6_size_4 ht_152
theorem dX3_stepBack_0 : decode cX3_stepBack 0 = .ok (.aload_n 0, 1) := by decide +kernel
theorem dX3_stepBack_1 : decode cX3_stepBack 1 = .ok (.getfield 22, 3) := by decide +kernel
theorem dX3_stepBack_4 : decode cX3_stepBack 4 = .ok (.ifCond .ne 5, 3) := by decide +kernel
theorem dX3_stepBack_7 : decode cX3_stepBack 7 = .ok (.iconst 0, 1) := by decide +kernel
theorem dX3_stepBack_8 : decode cX3_stepBack 8 = .ok (.ireturn, 1) := by decide +kernel
theorem dX3_stepBack_9 : decode cX3_stepBack 9 = .ok (.aload_n 0, 1) := by decide +kernel
theorem dX3_stepBack_10 : decode cX3_stepBack 10 = .ok (.aload_n 0, 1) := by decide +kernel
theorem dX3_stepBack_11 : decode cX3_stepBack 11 = .ok (.getfield 26, 3) := by decide +kernel
theorem dX3_stepBack_14 : decode cX3_stepBack 14 = .ok (.ifCond .le 12, 3) := by decide +kernel
theorem dX3_stepBack_17 : decode cX3_stepBack 17 = .ok (.aload_n 0, 1) := by decide +kernel
theorem dX3_stepBack_18 : decode cX3_stepBack 18 = .ok (.getfield 26, 3) := by decide +kernel
theorem dX3_stepBack_21 : decode cX3_stepBack 21 = .ok (.iconst 1, 1) := by decide +kernel
theorem dX3_stepBack_22 : decode cX3_stepBack 22 = .ok (.isub, 1) := by decide +kernel
theorem dX3_stepBack_23 : decode cX3_stepBack 23 = .ok (.goto 5, 3) := by decide +kernel
theorem dX3_stepBack_26 : decode cX3_stepBack 26 = .ok (.bipush 8, 2) := by decide +kernel
theorem dX3_stepBack_28 : decode cX3_stepBack 28 = .ok (.putfield 26, 3) := by decide +kernel
theorem dX3_stepBack_31 : decode cX3_stepBack 31 = .ok (.aload_n 0, 1) := by decide +kernel
theorem dX3_stepBack_32 : decode cX3_stepBack 32 = .ok (.dup, 1) := by decide +kernel
theorem dX3_stepBack_33 : decode cX3_stepBack 33 = .ok (.getfield 22, 3) := by decide +kernel
theorem dX3_stepBack_36 : decode cX3_stepBack 36 = .ok (.iconst 1, 1) := by decide +kernel
theorem dX3_stepBack_37 : decode cX3_stepBack 37 = .ok (.isub, 1) := by decide +kernel
theorem dX3_stepBack_38 : decode cX3_stepBack 38 = .ok (.putfield 22, 3) := by decide +kernel
theorem dX3_stepBack_41 : decode cX3_stepBack 41 = .ok (.aload_n 0, 1) := by decide +kernel
theorem dX3_stepBack_42 : decode cX3_stepBack 42 = .ok (.aload_n 1, 1) := by decide +kernel
theorem dX3_stepBack_43 : decode cX3_stepBack 43 = .ok (.invokevirtual 43, 3) := by decide +kernel
theorem dX3_stepBack_46 : decode cX3_stepBack 46 = .ok (.iconst 1, 1) := by decide +kernel
theorem dX3_stepBack_47 : decode cX3_stepBack 47 = .ok (.ireturn, 1) := by decide +kernel
theorem e_157 (r : Nat) (a0 : Nat) (ws : ai_W) : ai_Call 157 [.ref r, .ref a0] ws = if ai_isob ws r 3 = true then ai_Run 157 0 [.ref r, .ref a0] [] ws else none := R_entV hk_157 ⟨⟨rfl, rfl⟩, Nat.le_of_ble_eq_true rfl⟩ rfl
theorem r_157_0 (l1 : Value) (a : Nat) (st : List Value) (ws : ai_W) : ai_Run 157 0 [.ref a, l1] st ws = ai_Run 157 1 [.ref a, l1] (.ref a :: st) ws := R_aload_n hc_157 dX3_stepBack_0 rfl rfl
theorem r_157_1 (ls st : List Value) (a : Nat) (ws : ai_W) : ai_Run 157 1 ls (.ref a :: st) ws = (ai_fget ws a 3 3).bind fun q => ai_Run 157 4 ls (q :: st) ws := R_getf hc_157 dX3_stepBack_1 hv_157 (w := 597) rfl rfl
theorem r_157_4 (ls st : List Value) (a : Int32) (ws : ai_W) : ai_Run 157 4 ls (.int a :: st) ws = if a = 0 then ai_Run 157 7 ls st ws else ai_Run 157 9 ls st ws := R_if_ne hc_157 dX3_stepBack_4 rfl rfl
theorem r_157_7 (ls st : List Value) (ws : ai_W) : ai_Run 157 7 ls st ws = ai_Run 157 8 ls (.int 0 :: st) ws := R_iconst hc_157 dX3_stepBack_7 (by decide) rfl
theorem r_157_8 (ls : List Value) (x : Int32) (ws : ai_W) : ai_Run 157 8 ls [.int x] ws = if ai_pb x = true then some (some (.int x), ws) else none := R_zret hc_157 dX3_stepBack_8 ht_157
theorem r_157_9 (l1 : Value) (a : Nat) (st : List Value) (ws : ai_W) : ai_Run 157 9 [.ref a, l1] st ws = ai_Run 157 10 [.ref a, l1] (.ref a :: st) ws := R_aload_n hc_157 dX3_stepBack_9 rfl rfl
theorem r_157_10 (l1 : Value) (a : Nat) (st : List Value) (ws : ai_W) : ai_Run 157 10 [.ref a, l1] st ws = ai_Run 157 11 [.ref a, l1] (.ref a :: st) ws := R_aload_n hc_157 dX3_stepBack_10 rfl rfl
theorem r_157_11 (ls st : List Value) (a : Nat) (ws : ai_W) : ai_Run 157 11 ls (.ref a :: st) ws = (ai_fget ws a 3 2).bind fun q => ai_Run 157 14 ls (q :: st) ws := R_getf hc_157 dX3_stepBack_11 hv_157 (w := 596) rfl rfl
theorem r_157_14 (ls st : List Value) (a : Int32) (ws : ai_W) : ai_Run 157 14 ls (.int a :: st) ws = if 0 < a then ai_Run 157 17 ls st ws else ai_Run 157 26 ls st ws := R_if_le hc_157 dX3_stepBack_14 rfl rfl
theorem r_157_17 (l1 : Value) (a : Nat) (st : List Value) (ws : ai_W) : ai_Run 157 17 [.ref a, l1] st ws = ai_Run 157 18 [.ref a, l1] (.ref a :: st) ws := R_aload_n hc_157 dX3_stepBack_17 rfl rfl
theorem r_157_18 (ls st : List Value) (a : Nat) (ws : ai_W) : ai_Run 157 18 ls (.ref a :: st) ws = (ai_fget ws a 3 2).bind fun q => ai_Run 157 21 ls (q :: st) ws := R_getf hc_157 dX3_stepBack_18 hv_157 (w := 596) rfl rfl
theorem r_157_21 (ls st : List Value) (ws : ai_W) : ai_Run 157 21 ls st ws = ai_Run 157 22 ls (.int 1 :: st) ws := R_iconst hc_157 dX3_stepBack_21 (by decide) rfl
theorem r_157_22 (ls st : List Value) (a b : Int32) (ws : ai_W) : ai_Run 157 22 ls (.int b :: .int a :: st) ws = ai_Run 157 23 ls (.int (a - b) :: st) ws := R_isub hc_157 dX3_stepBack_22 rfl
theorem r_157_23 (ls st : List Value) (ws : ai_W) : ai_Run 157 23 ls st ws = ai_Run 157 28 ls st ws := R_goto hc_157 dX3_stepBack_23 rfl
theorem r_157_26 (ls st : List Value) (ws : ai_W) : ai_Run 157 26 ls st ws = ai_Run 157 28 ls (.int 8 :: st) ws := R_bipush hc_157 dX3_stepBack_26 (by decide) rfl
theorem r_157_28 (ls st : List Value) (a : Nat) (x : Value) (ws : ai_W) : ai_Run 157 28 ls (x :: .ref a :: st) ws = (ai_fput ws a 3 2 x).bind fun ws => ai_Run 157 31 ls st ws := R_putf hc_157 dX3_stepBack_28 hv_157 (w := 596) rfl rfl rfl
theorem r_157_31 (l1 : Value) (a : Nat) (st : List Value) (ws : ai_W) : ai_Run 157 31 [.ref a, l1] st ws = ai_Run 157 32 [.ref a, l1] (.ref a :: st) ws := R_aload_n hc_157 dX3_stepBack_31 rfl rfl
theorem r_157_32 (ls st : List Value) (a : Nat) (ws : ai_W) : ai_Run 157 32 ls (.ref a :: st) ws = ai_Run 157 33 ls (.ref a :: .ref a :: st) ws := R_dup hc_157 dX3_stepBack_32 rfl
theorem r_157_33 (ls st : List Value) (a : Nat) (ws : ai_W) : ai_Run 157 33 ls (.ref a :: st) ws = (ai_fget ws a 3 3).bind fun q => ai_Run 157 36 ls (q :: st) ws := R_getf hc_157 dX3_stepBack_33 hv_157 (w := 597) rfl rfl
theorem r_157_36 (ls st : List Value) (ws : ai_W) : ai_Run 157 36 ls st ws = ai_Run 157 37 ls (.int 1 :: st) ws := R_iconst hc_157 dX3_stepBack_36 (by decide) rfl
theorem r_157_37 (ls st : List Value) (a b : Int32) (ws : ai_W) : ai_Run 157 37 ls (.int b :: .int a :: st) ws = ai_Run 157 38 ls (.int (a - b) :: st) ws := R_isub hc_157 dX3_stepBack_37 rfl
theorem r_157_38 (ls st : List Value) (a : Nat) (x : Value) (ws : ai_W) : ai_Run 157 38 ls (x :: .ref a :: st) ws = (ai_fput ws a 3 3 x).bind fun ws => ai_Run 157 41 ls st ws := R_putf hc_157 dX3_stepBack_38 hv_157 (w := 597) rfl rfl rfl
theorem r_157_41 (l1 : Value) (a : Nat) (st : List Value) (ws : ai_W) : ai_Run 157 41 [.ref a, l1] st ws = ai_Run 157 42 [.ref a, l1] (.ref a :: st) ws := R_aload_n hc_157 dX3_stepBack_41 rfl rfl
theorem r_157_42 (l0 : Value) (a : Nat) (st : List Value) (ws : ai_W) : ai_Run 157 42 [l0, .ref a] st ws = ai_Run 157 43 [l0, .ref a] (.ref a :: st) ws := R_aload_n hc_157 dX3_stepBack_42 rfl rfl
theorem r_157_43 (ls : List Value) (r : Nat) (b0 : Nat) (ws : ai_W) : ai_Run 157 43 ls [.ref b0, .ref r] ws = (ai_Call 136 [.ref r, .ref b0] ws).bind fun q => ai_Run 157 46 ls (q.1.toList ++ []) q.2 := R_callV hc_157 dX3_stepBack_43 hv_157 (w := 401) rfl (ai_lt3 hf_136 hf_157 hL_136 ho_136 ho_157 rfl) hk_136 (by rw [hn_136]; rfl) rfl (Nat.le_of_ble_eq_true rfl) rfl
theorem r_157_46 (ls st : List Value) (ws : ai_W) : ai_Run 157 46 ls st ws = ai_Run 157 47 ls (.int 1 :: st) ws := R_iconst hc_157 dX3_stepBack_46 (by decide) rfl
theorem r_157_47 (ls : List Value) (x : Int32) (ws : ai_W) : ai_Run 157 47 ls [.int x] ws = if ai_pb x = true then some (some (.int x), ws) else none := R_zret hc_157 dX3_stepBack_47 ht_157
theorem dX5_wouldFindGuilty_0 : decode cX5_wouldFindGuilty 0 = .ok (.aload_n 0, 1) := by decide +kernel
theorem dX5_wouldFindGuilty_1 : decode cX5_wouldFindGuilty 1 = .ok (.iload_n 3, 1) := by decide +kernel
theorem dX5_wouldFindGuilty_2 : decode cX5_wouldFindGuilty 2 = .ok (.invokevirtual 35, 3) := by decide +kernel
theorem dX5_wouldFindGuilty_5 : decode cX5_wouldFindGuilty 5 = .ok (.aload_n 0, 1) := by decide +kernel
theorem dX5_wouldFindGuilty_6 : decode cX5_wouldFindGuilty 6 = .ok (.iload_n 1, 1) := by decide +kernel
theorem dX5_wouldFindGuilty_7 : decode cX5_wouldFindGuilty 7 = .ok (.iload_n 3, 1) := by decide +kernel
theorem dX5_wouldFindGuilty_8 : decode cX5_wouldFindGuilty 8 = .ok (.invokevirtual 31, 3) := by decide +kernel
theorem dX5_wouldFindGuilty_11 : decode cX5_wouldFindGuilty 11 = .ok (.isub, 1) := by decide +kernel
theorem dX5_wouldFindGuilty_12 : decode cX5_wouldFindGuilty 12 = .ok (.istore 4, 2) := by decide +kernel
theorem dX5_wouldFindGuilty_14 : decode cX5_wouldFindGuilty 14 = .ok (.iload 4, 2) := by decide +kernel
theorem dX5_wouldFindGuilty_16 : decode cX5_wouldFindGuilty 16 = .ok (.iload_n 3, 1) := by decide +kernel
theorem dX5_wouldFindGuilty_17 : decode cX5_wouldFindGuilty 17 = .ok (.iload_n 2, 1) := by decide +kernel
theorem dX5_wouldFindGuilty_18 : decode cX5_wouldFindGuilty 18 = .ok (.if_icmp .lt 7, 3) := by decide +kernel
theorem dX5_wouldFindGuilty_21 : decode cX5_wouldFindGuilty 21 = .ok (.iconst 1, 1) := by decide +kernel
theorem dX5_wouldFindGuilty_22 : decode cX5_wouldFindGuilty 22 = .ok (.goto 4, 3) := by decide +kernel
theorem dX5_wouldFindGuilty_25 : decode cX5_wouldFindGuilty 25 = .ok (.iconst 0, 1) := by decide +kernel
theorem dX5_wouldFindGuilty_26 : decode cX5_wouldFindGuilty 26 = .ok (.iadd, 1) := by decide +kernel
theorem dX5_wouldFindGuilty_27 : decode cX5_wouldFindGuilty 27 = .ok (.istore 5, 2) := by decide +kernel
theorem dX5_wouldFindGuilty_29 : decode cX5_wouldFindGuilty 29 = .ok (.aload_n 0, 1) := by decide +kernel
theorem dX5_wouldFindGuilty_30 : decode cX5_wouldFindGuilty 30 = .ok (.iload_n 1, 1) := by decide +kernel
theorem dX5_wouldFindGuilty_31 : decode cX5_wouldFindGuilty 31 = .ok (.invokevirtual 27, 3) := by decide +kernel
theorem dX5_wouldFindGuilty_34 : decode cX5_wouldFindGuilty 34 = .ok (.ifCond .eq 10, 3) := by decide +kernel
theorem dX5_wouldFindGuilty_37 : decode cX5_wouldFindGuilty 37 = .ok (.aload_n 0, 1) := by decide +kernel
theorem dX5_wouldFindGuilty_38 : decode cX5_wouldFindGuilty 38 = .ok (.invokevirtual 38, 3) := by decide +kernel
theorem dX5_wouldFindGuilty_41 : decode cX5_wouldFindGuilty 41 = .ok (.goto 9, 3) := by decide +kernel
theorem dX5_wouldFindGuilty_44 : decode cX5_wouldFindGuilty 44 = .ok (.aload_n 0, 1) := by decide +kernel
theorem dX5_wouldFindGuilty_45 : decode cX5_wouldFindGuilty 45 = .ok (.invokevirtual 38, 3) := by decide +kernel
theorem dX5_wouldFindGuilty_48 : decode cX5_wouldFindGuilty 48 = .ok (.iconst 1, 1) := by decide +kernel
theorem dX5_wouldFindGuilty_49 : decode cX5_wouldFindGuilty 49 = .ok (.iadd, 1) := by decide +kernel
theorem dX5_wouldFindGuilty_50 : decode cX5_wouldFindGuilty 50 = .ok (.istore 6, 2) := by decide +kernel
theorem dX5_wouldFindGuilty_52 : decode cX5_wouldFindGuilty 52 = .ok (.iconst 2, 1) := by decide +kernel
theorem dX5_wouldFindGuilty_53 : decode cX5_wouldFindGuilty 53 = .ok (.iload 5, 2) := by decide +kernel
theorem dX5_wouldFindGuilty_55 : decode cX5_wouldFindGuilty 55 = .ok (.imul, 1) := by decide +kernel
theorem dX5_wouldFindGuilty_56 : decode cX5_wouldFindGuilty 56 = .ok (.iload 6, 2) := by decide +kernel
theorem dX5_wouldFindGuilty_58 : decode cX5_wouldFindGuilty 58 = .ok (.if_icmp .le 7, 3) := by decide +kernel
theorem dX5_wouldFindGuilty_61 : decode cX5_wouldFindGuilty 61 = .ok (.iconst 1, 1) := by decide +kernel
theorem dX5_wouldFindGuilty_62 : decode cX5_wouldFindGuilty 62 = .ok (.goto 4, 3) := by decide +kernel
theorem dX5_wouldFindGuilty_65 : decode cX5_wouldFindGuilty 65 = .ok (.iconst 0, 1) := by decide +kernel
theorem dX5_wouldFindGuilty_66 : decode cX5_wouldFindGuilty 66 = .ok (.ireturn, 1) := by decide +kernel
theorem e_159 (r : Nat) (a0 : Int32) (a1 : Int32) (a2 : Int32) (ws : ai_W) : ai_Call 159 [.ref r, .int a0, .int a1, .int a2] ws = if ai_isob ws r 5 = true then ai_Run 159 0 [.ref r, .int a0, .int a1, .int a2, .null, .null, .null] [] ws else none := R_entV hk_159 ⟨⟨rfl, rfl⟩, Nat.le_of_ble_eq_true rfl⟩ rfl
theorem r_159_0 (l1 l2 l3 l4 l5 l6 : Value) (a : Nat) (st : List Value) (ws : ai_W) : ai_Run 159 0 [.ref a, l1, l2, l3, l4, l5, l6] st ws = ai_Run 159 1 [.ref a, l1, l2, l3, l4, l5, l6] (.ref a :: st) ws := R_aload_n hc_159 dX5_wouldFindGuilty_0 rfl rfl
theorem r_159_1 (l0 l1 l2 l4 l5 l6 : Value) (a : Int32) (st : List Value) (ws : ai_W) : ai_Run 159 1 [l0, l1, l2, .int a, l4, l5, l6] st ws = ai_Run 159 2 [l0, l1, l2, .int a, l4, l5, l6] (.int a :: st) ws := R_iload_n hc_159 dX5_wouldFindGuilty_1 rfl rfl
theorem r_159_2 (ls : List Value) (r : Nat) (b0 : Int32) (ws : ai_W) : ai_Run 159 2 ls [.int b0, .ref r] ws = (ai_Call 88 [.ref r, .int b0] ws).bind fun q => ai_Run 159 5 ls (q.1.toList ++ []) q.2 := R_callV hc_159 dX5_wouldFindGuilty_2 hv_159 (w := 260) rfl (ai_lt3 hf_88 hf_159 hL_88 ho_88 ho_159 rfl) hk_88 (by rw [hn_88]; rfl) rfl (Nat.le_of_ble_eq_true rfl) rfl
theorem r_159_5 (l1 l2 l3 l4 l5 l6 : Value) (a : Nat) (st : List Value) (ws : ai_W) : ai_Run 159 5 [.ref a, l1, l2, l3, l4, l5, l6] st ws = ai_Run 159 6 [.ref a, l1, l2, l3, l4, l5, l6] (.ref a :: st) ws := R_aload_n hc_159 dX5_wouldFindGuilty_5 rfl rfl
theorem r_159_6 (l0 l2 l3 l4 l5 l6 : Value) (a : Int32) (st : List Value) (ws : ai_W) : ai_Run 159 6 [l0, .int a, l2, l3, l4, l5, l6] st ws = ai_Run 159 7 [l0, .int a, l2, l3, l4, l5, l6] (.int a :: st) ws := R_iload_n hc_159 dX5_wouldFindGuilty_6 rfl rfl
theorem r_159_7 (l0 l1 l2 l4 l5 l6 : Value) (a : Int32) (st : List Value) (ws : ai_W) : ai_Run 159 7 [l0, l1, l2, .int a, l4, l5, l6] st ws = ai_Run 159 8 [l0, l1, l2, .int a, l4, l5, l6] (.int a :: st) ws := R_iload_n hc_159 dX5_wouldFindGuilty_7 rfl rfl
theorem r_159_8 (ls : List Value) (r : Nat) (b0 : Int32) (b1 : Int32) (s0 : Value) (ws : ai_W) : ai_Run 159 8 ls [.int b1, .int b0, .ref r, s0] ws = (ai_Call 87 [.ref r, .int b0, .int b1] ws).bind fun q => ai_Run 159 11 ls (q.1.toList ++ [s0]) q.2 := R_callV hc_159 dX5_wouldFindGuilty_8 hv_159 (w := 243) rfl (ai_lt3 hf_87 hf_159 hL_87 ho_87 ho_159 rfl) hk_87 (by rw [hn_87]; rfl) rfl (Nat.le_of_ble_eq_true rfl) rfl
theorem r_159_11 (ls st : List Value) (a b : Int32) (ws : ai_W) : ai_Run 159 11 ls (.int b :: .int a :: st) ws = ai_Run 159 12 ls (.int (a - b) :: st) ws := R_isub hc_159 dX5_wouldFindGuilty_11 rfl
theorem r_159_12 (l0 l1 l2 l3 l4 l5 l6 : Value) (a : Int32) (st : List Value) (ws : ai_W) : ai_Run 159 12 [l0, l1, l2, l3, l4, l5, l6] (.int a :: st) ws = ai_Run 159 14 [l0, l1, l2, l3, .int a, l5, l6] st ws := R_istore hc_159 dX5_wouldFindGuilty_12 (Nat.le_of_ble_eq_true rfl) rfl rfl
theorem r_159_14 (l0 l1 l2 l3 l5 l6 : Value) (a : Int32) (st : List Value) (ws : ai_W) : ai_Run 159 14 [l0, l1, l2, l3, .int a, l5, l6] st ws = ai_Run 159 16 [l0, l1, l2, l3, .int a, l5, l6] (.int a :: st) ws := R_iload hc_159 dX5_wouldFindGuilty_14 rfl rfl
theorem r_159_16 (l0 l1 l2 l4 l5 l6 : Value) (a : Int32) (st : List Value) (ws : ai_W) : ai_Run 159 16 [l0, l1, l2, .int a, l4, l5, l6] st ws = ai_Run 159 17 [l0, l1, l2, .int a, l4, l5, l6] (.int a :: st) ws := R_iload_n hc_159 dX5_wouldFindGuilty_16 rfl rfl
theorem r_159_17 (l0 l1 l3 l4 l5 l6 : Value) (a : Int32) (st : List Value) (ws : ai_W) : ai_Run 159 17 [l0, l1, .int a, l3, l4, l5, l6] st ws = ai_Run 159 18 [l0, l1, .int a, l3, l4, l5, l6] (.int a :: st) ws := R_iload_n hc_159 dX5_wouldFindGuilty_17 rfl rfl
theorem r_159_18 (ls st : List Value) (a b : Int32) (ws : ai_W) : ai_Run 159 18 ls (.int b :: .int a :: st) ws = if a < b then ai_Run 159 25 ls st ws else ai_Run 159 21 ls st ws := R_cmp_lt hc_159 dX5_wouldFindGuilty_18 rfl rfl
theorem r_159_21 (ls st : List Value) (ws : ai_W) : ai_Run 159 21 ls st ws = ai_Run 159 22 ls (.int 1 :: st) ws := R_iconst hc_159 dX5_wouldFindGuilty_21 (by decide) rfl
theorem r_159_22 (ls st : List Value) (ws : ai_W) : ai_Run 159 22 ls st ws = ai_Run 159 26 ls st ws := R_goto hc_159 dX5_wouldFindGuilty_22 rfl
theorem r_159_25 (ls st : List Value) (ws : ai_W) : ai_Run 159 25 ls st ws = ai_Run 159 26 ls (.int 0 :: st) ws := R_iconst hc_159 dX5_wouldFindGuilty_25 (by decide) rfl
theorem r_159_26 (ls st : List Value) (a b : Int32) (ws : ai_W) : ai_Run 159 26 ls (.int b :: .int a :: st) ws = ai_Run 159 27 ls (.int (a + b) :: st) ws := R_iadd hc_159 dX5_wouldFindGuilty_26 rfl
theorem r_159_27 (l0 l1 l2 l3 l4 l5 l6 : Value) (a : Int32) (st : List Value) (ws : ai_W) : ai_Run 159 27 [l0, l1, l2, l3, l4, l5, l6] (.int a :: st) ws = ai_Run 159 29 [l0, l1, l2, l3, l4, .int a, l6] st ws := R_istore hc_159 dX5_wouldFindGuilty_27 (Nat.le_of_ble_eq_true rfl) rfl rfl
theorem r_159_29 (l1 l2 l3 l4 l5 l6 : Value) (a : Nat) (st : List Value) (ws : ai_W) : ai_Run 159 29 [.ref a, l1, l2, l3, l4, l5, l6] st ws = ai_Run 159 30 [.ref a, l1, l2, l3, l4, l5, l6] (.ref a :: st) ws := R_aload_n hc_159 dX5_wouldFindGuilty_29 rfl rfl
theorem r_159_30 (l0 l2 l3 l4 l5 l6 : Value) (a : Int32) (st : List Value) (ws : ai_W) : ai_Run 159 30 [l0, .int a, l2, l3, l4, l5, l6] st ws = ai_Run 159 31 [l0, .int a, l2, l3, l4, l5, l6] (.int a :: st) ws := R_iload_n hc_159 dX5_wouldFindGuilty_30 rfl rfl
theorem r_159_31 (ls : List Value) (r : Nat) (b0 : Int32) (ws : ai_W) : ai_Run 159 31 ls [.int b0, .ref r] ws = (ai_Call 21 [.ref r, .int b0] ws).bind fun q => ai_Run 159 34 ls (q.1.toList ++ []) q.2 := R_callV hc_159 dX5_wouldFindGuilty_31 hv_159 (w := 201) rfl (ai_lt3 hf_21 hf_159 hL_21 ho_21 ho_159 rfl) hk_21 (by rw [hn_21]; rfl) rfl (Nat.le_of_ble_eq_true rfl) rfl
theorem r_159_34 (ls st : List Value) (a : Int32) (ws : ai_W) : ai_Run 159 34 ls (.int a :: st) ws = if a = 0 then ai_Run 159 44 ls st ws else ai_Run 159 37 ls st ws := R_if_eq hc_159 dX5_wouldFindGuilty_34 rfl rfl
theorem r_159_37 (l1 l2 l3 l4 l5 l6 : Value) (a : Nat) (st : List Value) (ws : ai_W) : ai_Run 159 37 [.ref a, l1, l2, l3, l4, l5, l6] st ws = ai_Run 159 38 [.ref a, l1, l2, l3, l4, l5, l6] (.ref a :: st) ws := R_aload_n hc_159 dX5_wouldFindGuilty_37 rfl rfl
theorem r_159_38 (ls : List Value) (r : Nat) (ws : ai_W) : ai_Run 159 38 ls [.ref r] ws = (ai_Call 22 [.ref r] ws).bind fun q => ai_Run 159 41 ls (q.1.toList ++ []) q.2 := R_callV hc_159 dX5_wouldFindGuilty_38 hv_159 (w := 261) rfl (ai_lt3 hf_22 hf_159 hL_22 ho_22 ho_159 rfl) hk_22 (by rw [hn_22]; rfl) rfl (Nat.le_of_ble_eq_true rfl) rfl
theorem r_159_41 (ls st : List Value) (ws : ai_W) : ai_Run 159 41 ls st ws = ai_Run 159 50 ls st ws := R_goto hc_159 dX5_wouldFindGuilty_41 rfl
theorem r_159_44 (l1 l2 l3 l4 l5 l6 : Value) (a : Nat) (st : List Value) (ws : ai_W) : ai_Run 159 44 [.ref a, l1, l2, l3, l4, l5, l6] st ws = ai_Run 159 45 [.ref a, l1, l2, l3, l4, l5, l6] (.ref a :: st) ws := R_aload_n hc_159 dX5_wouldFindGuilty_44 rfl rfl
theorem r_159_45 (ls : List Value) (r : Nat) (ws : ai_W) : ai_Run 159 45 ls [.ref r] ws = (ai_Call 22 [.ref r] ws).bind fun q => ai_Run 159 48 ls (q.1.toList ++ []) q.2 := R_callV hc_159 dX5_wouldFindGuilty_45 hv_159 (w := 261) rfl (ai_lt3 hf_22 hf_159 hL_22 ho_22 ho_159 rfl) hk_22 (by rw [hn_22]; rfl) rfl (Nat.le_of_ble_eq_true rfl) rfl
theorem r_159_48 (ls st : List Value) (ws : ai_W) : ai_Run 159 48 ls st ws = ai_Run 159 49 ls (.int 1 :: st) ws := R_iconst hc_159 dX5_wouldFindGuilty_48 (by decide) rfl
theorem r_159_49 (ls st : List Value) (a b : Int32) (ws : ai_W) : ai_Run 159 49 ls (.int b :: .int a :: st) ws = ai_Run 159 50 ls (.int (a + b) :: st) ws := R_iadd hc_159 dX5_wouldFindGuilty_49 rfl
theorem r_159_50 (l0 l1 l2 l3 l4 l5 l6 : Value) (a : Int32) (st : List Value) (ws : ai_W) : ai_Run 159 50 [l0, l1, l2, l3, l4, l5, l6] (.int a :: st) ws = ai_Run 159 52 [l0, l1, l2, l3, l4, l5, .int a] st ws := R_istore hc_159 dX5_wouldFindGuilty_50 (Nat.le_of_ble_eq_true rfl) rfl rfl
theorem r_159_52 (ls st : List Value) (ws : ai_W) : ai_Run 159 52 ls st ws = ai_Run 159 53 ls (.int 2 :: st) ws := R_iconst hc_159 dX5_wouldFindGuilty_52 (by decide) rfl
theorem r_159_53 (l0 l1 l2 l3 l4 l6 : Value) (a : Int32) (st : List Value) (ws : ai_W) : ai_Run 159 53 [l0, l1, l2, l3, l4, .int a, l6] st ws = ai_Run 159 55 [l0, l1, l2, l3, l4, .int a, l6] (.int a :: st) ws := R_iload hc_159 dX5_wouldFindGuilty_53 rfl rfl
theorem r_159_55 (ls st : List Value) (a b : Int32) (ws : ai_W) : ai_Run 159 55 ls (.int b :: .int a :: st) ws = ai_Run 159 56 ls (.int (a * b) :: st) ws := R_imul hc_159 dX5_wouldFindGuilty_55 rfl
theorem r_159_56 (l0 l1 l2 l3 l4 l5 : Value) (a : Int32) (st : List Value) (ws : ai_W) : ai_Run 159 56 [l0, l1, l2, l3, l4, l5, .int a] st ws = ai_Run 159 58 [l0, l1, l2, l3, l4, l5, .int a] (.int a :: st) ws := R_iload hc_159 dX5_wouldFindGuilty_56 rfl rfl
theorem r_159_58 (ls st : List Value) (a b : Int32) (ws : ai_W) : ai_Run 159 58 ls (.int b :: .int a :: st) ws = if b < a then ai_Run 159 61 ls st ws else ai_Run 159 65 ls st ws := R_cmp_le hc_159 dX5_wouldFindGuilty_58 rfl rfl
theorem r_159_61 (ls st : List Value) (ws : ai_W) : ai_Run 159 61 ls st ws = ai_Run 159 62 ls (.int 1 :: st) ws := R_iconst hc_159 dX5_wouldFindGuilty_61 (by decide) rfl
theorem r_159_62 (ls st : List Value) (ws : ai_W) : ai_Run 159 62 ls st ws = ai_Run 159 66 ls st ws := R_goto hc_159 dX5_wouldFindGuilty_62 rfl
theorem r_159_65 (ls st : List Value) (ws : ai_W) : ai_Run 159 65 ls st ws = ai_Run 159 66 ls (.int 0 :: st) ws := R_iconst hc_159 dX5_wouldFindGuilty_65 (by decide) rfl
theorem r_159_66 (ls : List Value) (x : Int32) (ws : ai_W) : ai_Run 159 66 ls [.int x] ws = if ai_pb x = true then some (some (.int x), ws) else none := R_zret hc_159 dX5_wouldFindGuilty_66 ht_159
