/-! rules: printed by gen2.py -/
theorem dL_areAlike_0 : decode cL_areAlike 0 = .ok (.bipush 10, 2) := by decide +kernel
theorem dL_areAlike_2 : decode cL_areAlike 2 = .ok (.istore_n 2, 1) := by decide +kernel
theorem dL_areAlike_3 : decode cL_areAlike 3 = .ok (.iload_n 2, 1) := by decide +kernel
theorem dL_areAlike_4 : decode cL_areAlike 4 = .ok (.aload_n 0, 1) := by decide +kernel
theorem dL_areAlike_5 : decode cL_areAlike 5 = .ok (.arraylength, 1) := by decide +kernel
theorem dL_areAlike_6 : decode cL_areAlike 6 = .ok (.if_icmp .ge 20, 3) := by decide +kernel
theorem dL_areAlike_9 : decode cL_areAlike 9 = .ok (.aload_n 0, 1) := by decide +kernel
theorem dL_areAlike_10 : decode cL_areAlike 10 = .ok (.iload_n 2, 1) := by decide +kernel
theorem dL_areAlike_11 : decode cL_areAlike 11 = .ok (.iaload, 1) := by decide +kernel
theorem dL_areAlike_12 : decode cL_areAlike 12 = .ok (.aload_n 1, 1) := by decide +kernel
theorem dL_areAlike_13 : decode cL_areAlike 13 = .ok (.iload_n 2, 1) := by decide +kernel
theorem dL_areAlike_14 : decode cL_areAlike 14 = .ok (.iaload, 1) := by decide +kernel
theorem dL_areAlike_15 : decode cL_areAlike 15 = .ok (.if_icmp .eq 5, 3) := by decide +kernel
theorem dL_areAlike_18 : decode cL_areAlike 18 = .ok (.iconst 0, 1) := by decide +kernel
theorem dL_areAlike_19 : decode cL_areAlike 19 = .ok (.ireturn, 1) := by decide +kernel
theorem dL_areAlike_20 : decode cL_areAlike 20 = .ok (.iinc 2 1, 3) := by decide +kernel
theorem dL_areAlike_23 : decode cL_areAlike 23 = .ok (.goto (-20), 3) := by decide +kernel
theorem dL_areAlike_26 : decode cL_areAlike 26 = .ok (.iconst 0, 1) := by decide +kernel
theorem dL_areAlike_27 : decode cL_areAlike 27 = .ok (.istore_n 2, 1) := by decide +kernel
theorem dL_areAlike_28 : decode cL_areAlike 28 = .ok (.iload_n 2, 1) := by decide +kernel
theorem dL_areAlike_29 : decode cL_areAlike 29 = .ok (.bipush 9, 2) := by decide +kernel
theorem dL_areAlike_31 : decode cL_areAlike 31 = .ok (.if_icmp .ge 20, 3) := by decide +kernel
theorem dL_areAlike_34 : decode cL_areAlike 34 = .ok (.aload_n 0, 1) := by decide +kernel
theorem dL_areAlike_35 : decode cL_areAlike 35 = .ok (.iload_n 2, 1) := by decide +kernel
theorem dL_areAlike_36 : decode cL_areAlike 36 = .ok (.iaload, 1) := by decide +kernel
theorem dL_areAlike_37 : decode cL_areAlike 37 = .ok (.aload_n 1, 1) := by decide +kernel
theorem dL_areAlike_38 : decode cL_areAlike 38 = .ok (.iload_n 2, 1) := by decide +kernel
theorem dL_areAlike_39 : decode cL_areAlike 39 = .ok (.iaload, 1) := by decide +kernel
theorem dL_areAlike_40 : decode cL_areAlike 40 = .ok (.if_icmp .eq 5, 3) := by decide +kernel
theorem dL_areAlike_43 : decode cL_areAlike 43 = .ok (.iconst 0, 1) := by decide +kernel
theorem dL_areAlike_44 : decode cL_areAlike 44 = .ok (.ireturn, 1) := by decide +kernel
theorem dL_areAlike_45 : decode cL_areAlike 45 = .ok (.iinc 2 1, 3) := by decide +kernel
theorem dL_areAlike_48 : decode cL_areAlike 48 = .ok (.goto (-20), 3) := by decide +kernel
theorem dL_areAlike_51 : decode cL_areAlike 51 = .ok (.iconst 1, 1) := by decide +kernel
theorem dL_areAlike_52 : decode cL_areAlike 52 = .ok (.ireturn, 1) := by decide +kernel
theorem e_162 (a0 : Nat) (a1 : Nat) (ws : ai_W) : ai_Call 162 [.ref a0, .ref a1] ws = ai_Run 162 0 [.ref a0, .ref a1, .null] [] ws := R_entS hk_162 ⟨⟨rfl, rfl⟩, Nat.le_of_ble_eq_true rfl⟩ rfl
theorem r_162_0 (ls st : List Value) (ws : ai_W) : ai_Run 162 0 ls st ws = ai_Run 162 2 ls (.int 10 :: st) ws := R_bipush hc_162 dL_areAlike_0 (by decide) rfl
theorem r_162_2 (l0 l1 l2 : Value) (a : Int32) (st : List Value) (ws : ai_W) : ai_Run 162 2 [l0, l1, l2] (.int a :: st) ws = ai_Run 162 3 [l0, l1, .int a] st ws := R_istore_n hc_162 dL_areAlike_2 (Nat.le_of_ble_eq_true rfl) rfl rfl
theorem r_162_3 (l0 l1 : Value) (a : Int32) (st : List Value) (ws : ai_W) : ai_Run 162 3 [l0, l1, .int a] st ws = ai_Run 162 4 [l0, l1, .int a] (.int a :: st) ws := R_iload_n hc_162 dL_areAlike_3 rfl rfl
theorem r_162_4 (l1 l2 : Value) (a : Nat) (st : List Value) (ws : ai_W) : ai_Run 162 4 [.ref a, l1, l2] st ws = ai_Run 162 5 [.ref a, l1, l2] (.ref a :: st) ws := R_aload_n hc_162 dL_areAlike_4 rfl rfl
theorem rx_162_4 (l1 l2 : Value) {a : Nat} (hq : ¬ a = 23) (st : List Value) (ws : ai_W) : ai_Run 162 4 [.retAddr a, l1, l2] st ws = ai_Run 162 5 [.retAddr a, l1, l2] (.retAddr a :: st) ws := R_aload_nX hq hc_162 dL_areAlike_4 rfl rfl
theorem r_162_5 (ls st : List Value) (a : Nat) (ws : ai_W) : ai_Run 162 5 ls (.ref a :: st) ws = (ai_len ws a).bind fun q => ai_Run 162 6 ls (.int q :: st) ws := R_arraylength hc_162 dL_areAlike_5 rfl
theorem rx_162_5 (ls st : List Value) (a : Nat) (ws : ai_W) : ai_Run 162 5 ls (.retAddr a :: st) ws = (ai_xlen a).bind fun q => ai_Run 162 6 ls (.int q :: st) ws := R_alenX hc_162 dL_areAlike_5 rfl
theorem r_162_6 (ls st : List Value) (a b : Int32) (ws : ai_W) : ai_Run 162 6 ls (.int b :: .int a :: st) ws = if a < b then ai_Run 162 9 ls st ws else ai_Run 162 26 ls st ws := R_cmp_ge hc_162 dL_areAlike_6 rfl rfl
theorem r_162_9 (l1 l2 : Value) (a : Nat) (st : List Value) (ws : ai_W) : ai_Run 162 9 [.ref a, l1, l2] st ws = ai_Run 162 10 [.ref a, l1, l2] (.ref a :: st) ws := R_aload_n hc_162 dL_areAlike_9 rfl rfl
theorem rx_162_9 (l1 l2 : Value) {a : Nat} (hq : ¬ a = 23) (st : List Value) (ws : ai_W) : ai_Run 162 9 [.retAddr a, l1, l2] st ws = ai_Run 162 10 [.retAddr a, l1, l2] (.retAddr a :: st) ws := R_aload_nX hq hc_162 dL_areAlike_9 rfl rfl
theorem r_162_10 (l0 l1 : Value) (a : Int32) (st : List Value) (ws : ai_W) : ai_Run 162 10 [l0, l1, .int a] st ws = ai_Run 162 11 [l0, l1, .int a] (.int a :: st) ws := R_iload_n hc_162 dL_areAlike_10 rfl rfl
theorem r_162_11 (ls st : List Value) (a : Nat) (i : Int32) (ws : ai_W) : ai_Run 162 11 ls (.int i :: .ref a :: st) ws = (ai_aget ws a i).bind fun q => ai_Run 162 12 ls (.int q :: st) ws := R_iaload hc_162 dL_areAlike_11 rfl
theorem rx_162_11 (ls st : List Value) (a : Nat) (i : Int32) (ws : ai_W) : ai_Run 162 11 ls (.int i :: .retAddr a :: st) ws = (ai_xaget a i).bind fun q => ai_Run 162 12 ls (.int q :: st) ws := R_ialoadX hc_162 dL_areAlike_11 rfl
theorem r_162_12 (l0 l2 : Value) (a : Nat) (st : List Value) (ws : ai_W) : ai_Run 162 12 [l0, .ref a, l2] st ws = ai_Run 162 13 [l0, .ref a, l2] (.ref a :: st) ws := R_aload_n hc_162 dL_areAlike_12 rfl rfl
theorem rx_162_12 (l0 l2 : Value) {a : Nat} (hq : ¬ a = 23) (st : List Value) (ws : ai_W) : ai_Run 162 12 [l0, .retAddr a, l2] st ws = ai_Run 162 13 [l0, .retAddr a, l2] (.retAddr a :: st) ws := R_aload_nX hq hc_162 dL_areAlike_12 rfl rfl
theorem r_162_13 (l0 l1 : Value) (a : Int32) (st : List Value) (ws : ai_W) : ai_Run 162 13 [l0, l1, .int a] st ws = ai_Run 162 14 [l0, l1, .int a] (.int a :: st) ws := R_iload_n hc_162 dL_areAlike_13 rfl rfl
theorem r_162_14 (ls st : List Value) (a : Nat) (i : Int32) (ws : ai_W) : ai_Run 162 14 ls (.int i :: .ref a :: st) ws = (ai_aget ws a i).bind fun q => ai_Run 162 15 ls (.int q :: st) ws := R_iaload hc_162 dL_areAlike_14 rfl
theorem rx_162_14 (ls st : List Value) (a : Nat) (i : Int32) (ws : ai_W) : ai_Run 162 14 ls (.int i :: .retAddr a :: st) ws = (ai_xaget a i).bind fun q => ai_Run 162 15 ls (.int q :: st) ws := R_ialoadX hc_162 dL_areAlike_14 rfl
theorem r_162_15 (ls st : List Value) (a b : Int32) (ws : ai_W) : ai_Run 162 15 ls (.int b :: .int a :: st) ws = if a = b then ai_Run 162 20 ls st ws else ai_Run 162 18 ls st ws := R_cmp_eq hc_162 dL_areAlike_15 rfl rfl
theorem r_162_18 (ls st : List Value) (ws : ai_W) : ai_Run 162 18 ls st ws = ai_Run 162 19 ls (.int 0 :: st) ws := R_iconst hc_162 dL_areAlike_18 (by decide) rfl
theorem r_162_19 (ls : List Value) (x : Int32) (ws : ai_W) : ai_Run 162 19 ls [.int x] ws = if ai_pb x = true then some (some (.int x), ws) else none := R_zret hc_162 dL_areAlike_19 ht_162
theorem r_162_20 (l0 l1 : Value) (a : Int32) (st : List Value) (ws : ai_W) : ai_Run 162 20 [l0, l1, .int a] st ws = ai_Run 162 23 [l0, l1, .int (a + 1)] st ws := R_iinc hc_162 dL_areAlike_20 rfl (by decide) rfl rfl
theorem r_162_23 (ls st : List Value) (ws : ai_W) : ai_Run 162 23 ls st ws = ai_Run 162 3 ls st ws := R_goto hc_162 dL_areAlike_23 rfl
theorem r_162_26 (ls st : List Value) (ws : ai_W) : ai_Run 162 26 ls st ws = ai_Run 162 27 ls (.int 0 :: st) ws := R_iconst hc_162 dL_areAlike_26 (by decide) rfl
theorem r_162_27 (l0 l1 l2 : Value) (a : Int32) (st : List Value) (ws : ai_W) : ai_Run 162 27 [l0, l1, l2] (.int a :: st) ws = ai_Run 162 28 [l0, l1, .int a] st ws := R_istore_n hc_162 dL_areAlike_27 (Nat.le_of_ble_eq_true rfl) rfl rfl
theorem r_162_28 (l0 l1 : Value) (a : Int32) (st : List Value) (ws : ai_W) : ai_Run 162 28 [l0, l1, .int a] st ws = ai_Run 162 29 [l0, l1, .int a] (.int a :: st) ws := R_iload_n hc_162 dL_areAlike_28 rfl rfl
theorem r_162_29 (ls st : List Value) (ws : ai_W) : ai_Run 162 29 ls st ws = ai_Run 162 31 ls (.int 9 :: st) ws := R_bipush hc_162 dL_areAlike_29 (by decide) rfl
theorem r_162_31 (ls st : List Value) (a b : Int32) (ws : ai_W) : ai_Run 162 31 ls (.int b :: .int a :: st) ws = if a < b then ai_Run 162 34 ls st ws else ai_Run 162 51 ls st ws := R_cmp_ge hc_162 dL_areAlike_31 rfl rfl
theorem r_162_34 (l1 l2 : Value) (a : Nat) (st : List Value) (ws : ai_W) : ai_Run 162 34 [.ref a, l1, l2] st ws = ai_Run 162 35 [.ref a, l1, l2] (.ref a :: st) ws := R_aload_n hc_162 dL_areAlike_34 rfl rfl
theorem rx_162_34 (l1 l2 : Value) {a : Nat} (hq : ¬ a = 23) (st : List Value) (ws : ai_W) : ai_Run 162 34 [.retAddr a, l1, l2] st ws = ai_Run 162 35 [.retAddr a, l1, l2] (.retAddr a :: st) ws := R_aload_nX hq hc_162 dL_areAlike_34 rfl rfl
theorem r_162_35 (l0 l1 : Value) (a : Int32) (st : List Value) (ws : ai_W) : ai_Run 162 35 [l0, l1, .int a] st ws = ai_Run 162 36 [l0, l1, .int a] (.int a :: st) ws := R_iload_n hc_162 dL_areAlike_35 rfl rfl
theorem r_162_36 (ls st : List Value) (a : Nat) (i : Int32) (ws : ai_W) : ai_Run 162 36 ls (.int i :: .ref a :: st) ws = (ai_aget ws a i).bind fun q => ai_Run 162 37 ls (.int q :: st) ws := R_iaload hc_162 dL_areAlike_36 rfl
theorem rx_162_36 (ls st : List Value) (a : Nat) (i : Int32) (ws : ai_W) : ai_Run 162 36 ls (.int i :: .retAddr a :: st) ws = (ai_xaget a i).bind fun q => ai_Run 162 37 ls (.int q :: st) ws := R_ialoadX hc_162 dL_areAlike_36 rfl
theorem r_162_37 (l0 l2 : Value) (a : Nat) (st : List Value) (ws : ai_W) : ai_Run 162 37 [l0, .ref a, l2] st ws = ai_Run 162 38 [l0, .ref a, l2] (.ref a :: st) ws := R_aload_n hc_162 dL_areAlike_37 rfl rfl
theorem rx_162_37 (l0 l2 : Value) {a : Nat} (hq : ¬ a = 23) (st : List Value) (ws : ai_W) : ai_Run 162 37 [l0, .retAddr a, l2] st ws = ai_Run 162 38 [l0, .retAddr a, l2] (.retAddr a :: st) ws := R_aload_nX hq hc_162 dL_areAlike_37 rfl rfl
theorem r_162_38 (l0 l1 : Value) (a : Int32) (st : List Value) (ws : ai_W) : ai_Run 162 38 [l0, l1, .int a] st ws = ai_Run 162 39 [l0, l1, .int a] (.int a :: st) ws := R_iload_n hc_162 dL_areAlike_38 rfl rfl
theorem r_162_39 (ls st : List Value) (a : Nat) (i : Int32) (ws : ai_W) : ai_Run 162 39 ls (.int i :: .ref a :: st) ws = (ai_aget ws a i).bind fun q => ai_Run 162 40 ls (.int q :: st) ws := R_iaload hc_162 dL_areAlike_39 rfl
theorem rx_162_39 (ls st : List Value) (a : Nat) (i : Int32) (ws : ai_W) : ai_Run 162 39 ls (.int i :: .retAddr a :: st) ws = (ai_xaget a i).bind fun q => ai_Run 162 40 ls (.int q :: st) ws := R_ialoadX hc_162 dL_areAlike_39 rfl
theorem r_162_40 (ls st : List Value) (a b : Int32) (ws : ai_W) : ai_Run 162 40 ls (.int b :: .int a :: st) ws = if a = b then ai_Run 162 45 ls st ws else ai_Run 162 43 ls st ws := R_cmp_eq hc_162 dL_areAlike_40 rfl rfl
theorem r_162_43 (ls st : List Value) (ws : ai_W) : ai_Run 162 43 ls st ws = ai_Run 162 44 ls (.int 0 :: st) ws := R_iconst hc_162 dL_areAlike_43 (by decide) rfl
theorem r_162_44 (ls : List Value) (x : Int32) (ws : ai_W) : ai_Run 162 44 ls [.int x] ws = if ai_pb x = true then some (some (.int x), ws) else none := R_zret hc_162 dL_areAlike_44 ht_162
theorem r_162_45 (l0 l1 : Value) (a : Int32) (st : List Value) (ws : ai_W) : ai_Run 162 45 [l0, l1, .int a] st ws = ai_Run 162 48 [l0, l1, .int (a + 1)] st ws := R_iinc hc_162 dL_areAlike_45 rfl (by decide) rfl rfl
theorem r_162_48 (ls st : List Value) (ws : ai_W) : ai_Run 162 48 ls st ws = ai_Run 162 28 ls st ws := R_goto hc_162 dL_areAlike_48 rfl
theorem r_162_51 (ls st : List Value) (ws : ai_W) : ai_Run 162 51 ls st ws = ai_Run 162 52 ls (.int 1 :: st) ws := R_iconst hc_162 dL_areAlike_51 (by decide) rfl
theorem r_162_52 (ls : List Value) (x : Int32) (ws : ai_W) : ai_Run 162 52 ls [.int x] ws = if ai_pb x = true then some (some (.int x), ws) else none := R_zret hc_162 dL_areAlike_52 ht_162
theorem dL_cell_0 : decode cL_cell 0 = .ok (.ldc 7, 2) := by decide +kernel
theorem dL_cell_2 : decode cL_cell 2 = .ok (.iload_n 1, 1) := by decide +kernel
theorem dL_cell_3 : decode cL_cell 3 = .ok (.aload_n 0, 1) := by decide +kernel
theorem dL_cell_4 : decode cL_cell 4 = .ok (.arraylength, 1) := by decide +kernel
theorem dL_cell_5 : decode cL_cell 5 = .ok (.if_icmp .ge 9, 3) := by decide +kernel
theorem dL_cell_8 : decode cL_cell 8 = .ok (.aload_n 0, 1) := by decide +kernel
theorem dL_cell_9 : decode cL_cell 9 = .ok (.iload_n 1, 1) := by decide +kernel
theorem dL_cell_10 : decode cL_cell 10 = .ok (.iaload, 1) := by decide +kernel
theorem dL_cell_11 : decode cL_cell 11 = .ok (.goto 4, 3) := by decide +kernel
theorem dL_cell_14 : decode cL_cell 14 = .ok (.iconst 0, 1) := by decide +kernel
theorem dL_cell_15 : decode cL_cell 15 = .ok (.sipush 1009, 3) := by decide +kernel
theorem dL_cell_18 : decode cL_cell 18 = .ok (.iload_n 1, 1) := by decide +kernel
theorem dL_cell_19 : decode cL_cell 19 = .ok (.imul, 1) := by decide +kernel
theorem dL_cell_20 : decode cL_cell 20 = .ok (.iadd, 1) := by decide +kernel
theorem dL_cell_21 : decode cL_cell 21 = .ok (.imul, 1) := by decide +kernel
theorem dL_cell_22 : decode cL_cell 22 = .ok (.sipush 12345, 3) := by decide +kernel
theorem dL_cell_25 : decode cL_cell 25 = .ok (.iadd, 1) := by decide +kernel
theorem dL_cell_26 : decode cL_cell 26 = .ok (.istore_n 2, 1) := by decide +kernel
theorem dL_cell_27 : decode cL_cell 27 = .ok (.iload_n 2, 1) := by decide +kernel
theorem dL_cell_28 : decode cL_cell 28 = .ok (.iload_n 2, 1) := by decide +kernel
theorem dL_cell_29 : decode cL_cell 29 = .ok (.bipush 13, 2) := by decide +kernel
theorem dL_cell_31 : decode cL_cell 31 = .ok (.iushr, 1) := by decide +kernel
theorem dL_cell_32 : decode cL_cell 32 = .ok (.ixor, 1) := by decide +kernel
theorem dL_cell_33 : decode cL_cell 33 = .ok (.ldc 8, 2) := by decide +kernel
theorem dL_cell_35 : decode cL_cell 35 = .ok (.imul, 1) := by decide +kernel
theorem dL_cell_36 : decode cL_cell 36 = .ok (.istore_n 2, 1) := by decide +kernel
theorem dL_cell_37 : decode cL_cell 37 = .ok (.iload_n 2, 1) := by decide +kernel
theorem dL_cell_38 : decode cL_cell 38 = .ok (.iload_n 2, 1) := by decide +kernel
theorem dL_cell_39 : decode cL_cell 39 = .ok (.bipush 16, 2) := by decide +kernel
theorem dL_cell_41 : decode cL_cell 41 = .ok (.iushr, 1) := by decide +kernel
theorem dL_cell_42 : decode cL_cell 42 = .ok (.ixor, 1) := by decide +kernel
theorem dL_cell_43 : decode cL_cell 43 = .ok (.ireturn, 1) := by decide +kernel
theorem e_163 (a0 : Nat) (a1 : Int32) (ws : ai_W) : ai_Call 163 [.ref a0, .int a1] ws = ai_Run 163 0 [.ref a0, .int a1, .null] [] ws := R_entS hk_163 ⟨⟨rfl, rfl⟩, Nat.le_of_ble_eq_true rfl⟩ rfl
theorem ex_163 (a0 : Nat) (a1 : Int32) (ws : ai_W) : ai_Call 163 [.retAddr a0, .int a1] ws = ai_Run 163 0 [.retAddr a0, .int a1, .null] [] ws := R_entS hk_163 ⟨⟨rfl, rfl⟩, Nat.le_of_ble_eq_true rfl⟩ rfl
theorem r_163_0 (ls st : List Value) (ws : ai_W) : ai_Run 163 0 ls st ws = ai_Run 163 2 ls (.int 69069 :: st) ws := R_ldci hc_163 dL_cell_0 rfl rfl rfl
theorem r_163_2 (l0 l2 : Value) (a : Int32) (st : List Value) (ws : ai_W) : ai_Run 163 2 [l0, .int a, l2] st ws = ai_Run 163 3 [l0, .int a, l2] (.int a :: st) ws := R_iload_n hc_163 dL_cell_2 rfl rfl
theorem r_163_3 (l1 l2 : Value) (a : Nat) (st : List Value) (ws : ai_W) : ai_Run 163 3 [.ref a, l1, l2] st ws = ai_Run 163 4 [.ref a, l1, l2] (.ref a :: st) ws := R_aload_n hc_163 dL_cell_3 rfl rfl
theorem rx_163_3 (l1 l2 : Value) {a : Nat} (hq : ¬ a = 23) (st : List Value) (ws : ai_W) : ai_Run 163 3 [.retAddr a, l1, l2] st ws = ai_Run 163 4 [.retAddr a, l1, l2] (.retAddr a :: st) ws := R_aload_nX hq hc_163 dL_cell_3 rfl rfl
theorem r_163_4 (ls st : List Value) (a : Nat) (ws : ai_W) : ai_Run 163 4 ls (.ref a :: st) ws = (ai_len ws a).bind fun q => ai_Run 163 5 ls (.int q :: st) ws := R_arraylength hc_163 dL_cell_4 rfl
theorem rx_163_4 (ls st : List Value) (a : Nat) (ws : ai_W) : ai_Run 163 4 ls (.retAddr a :: st) ws = (ai_xlen a).bind fun q => ai_Run 163 5 ls (.int q :: st) ws := R_alenX hc_163 dL_cell_4 rfl
theorem r_163_5 (ls st : List Value) (a b : Int32) (ws : ai_W) : ai_Run 163 5 ls (.int b :: .int a :: st) ws = if a < b then ai_Run 163 8 ls st ws else ai_Run 163 14 ls st ws := R_cmp_ge hc_163 dL_cell_5 rfl rfl
theorem r_163_8 (l1 l2 : Value) (a : Nat) (st : List Value) (ws : ai_W) : ai_Run 163 8 [.ref a, l1, l2] st ws = ai_Run 163 9 [.ref a, l1, l2] (.ref a :: st) ws := R_aload_n hc_163 dL_cell_8 rfl rfl
theorem rx_163_8 (l1 l2 : Value) {a : Nat} (hq : ¬ a = 23) (st : List Value) (ws : ai_W) : ai_Run 163 8 [.retAddr a, l1, l2] st ws = ai_Run 163 9 [.retAddr a, l1, l2] (.retAddr a :: st) ws := R_aload_nX hq hc_163 dL_cell_8 rfl rfl
theorem r_163_9 (l0 l2 : Value) (a : Int32) (st : List Value) (ws : ai_W) : ai_Run 163 9 [l0, .int a, l2] st ws = ai_Run 163 10 [l0, .int a, l2] (.int a :: st) ws := R_iload_n hc_163 dL_cell_9 rfl rfl
theorem r_163_10 (ls st : List Value) (a : Nat) (i : Int32) (ws : ai_W) : ai_Run 163 10 ls (.int i :: .ref a :: st) ws = (ai_aget ws a i).bind fun q => ai_Run 163 11 ls (.int q :: st) ws := R_iaload hc_163 dL_cell_10 rfl
theorem rx_163_10 (ls st : List Value) (a : Nat) (i : Int32) (ws : ai_W) : ai_Run 163 10 ls (.int i :: .retAddr a :: st) ws = (ai_xaget a i).bind fun q => ai_Run 163 11 ls (.int q :: st) ws := R_ialoadX hc_163 dL_cell_10 rfl
theorem r_163_11 (ls st : List Value) (ws : ai_W) : ai_Run 163 11 ls st ws = ai_Run 163 15 ls st ws := R_goto hc_163 dL_cell_11 rfl
theorem r_163_14 (ls st : List Value) (ws : ai_W) : ai_Run 163 14 ls st ws = ai_Run 163 15 ls (.int 0 :: st) ws := R_iconst hc_163 dL_cell_14 (by decide) rfl
theorem r_163_15 (ls st : List Value) (ws : ai_W) : ai_Run 163 15 ls st ws = ai_Run 163 18 ls (.int 1009 :: st) ws := R_sipush hc_163 dL_cell_15 (by decide) rfl
theorem r_163_18 (l0 l2 : Value) (a : Int32) (st : List Value) (ws : ai_W) : ai_Run 163 18 [l0, .int a, l2] st ws = ai_Run 163 19 [l0, .int a, l2] (.int a :: st) ws := R_iload_n hc_163 dL_cell_18 rfl rfl
theorem r_163_19 (ls st : List Value) (a b : Int32) (ws : ai_W) : ai_Run 163 19 ls (.int b :: .int a :: st) ws = ai_Run 163 20 ls (.int (a * b) :: st) ws := R_imul hc_163 dL_cell_19 rfl
theorem r_163_20 (ls st : List Value) (a b : Int32) (ws : ai_W) : ai_Run 163 20 ls (.int b :: .int a :: st) ws = ai_Run 163 21 ls (.int (a + b) :: st) ws := R_iadd hc_163 dL_cell_20 rfl
theorem r_163_21 (ls st : List Value) (a b : Int32) (ws : ai_W) : ai_Run 163 21 ls (.int b :: .int a :: st) ws = ai_Run 163 22 ls (.int (a * b) :: st) ws := R_imul hc_163 dL_cell_21 rfl
theorem r_163_22 (ls st : List Value) (ws : ai_W) : ai_Run 163 22 ls st ws = ai_Run 163 25 ls (.int 12345 :: st) ws := R_sipush hc_163 dL_cell_22 (by decide) rfl
theorem r_163_25 (ls st : List Value) (a b : Int32) (ws : ai_W) : ai_Run 163 25 ls (.int b :: .int a :: st) ws = ai_Run 163 26 ls (.int (a + b) :: st) ws := R_iadd hc_163 dL_cell_25 rfl
theorem r_163_26 (l0 l1 l2 : Value) (a : Int32) (st : List Value) (ws : ai_W) : ai_Run 163 26 [l0, l1, l2] (.int a :: st) ws = ai_Run 163 27 [l0, l1, .int a] st ws := R_istore_n hc_163 dL_cell_26 (Nat.le_of_ble_eq_true rfl) rfl rfl
theorem r_163_27 (l0 l1 : Value) (a : Int32) (st : List Value) (ws : ai_W) : ai_Run 163 27 [l0, l1, .int a] st ws = ai_Run 163 28 [l0, l1, .int a] (.int a :: st) ws := R_iload_n hc_163 dL_cell_27 rfl rfl
theorem r_163_28 (l0 l1 : Value) (a : Int32) (st : List Value) (ws : ai_W) : ai_Run 163 28 [l0, l1, .int a] st ws = ai_Run 163 29 [l0, l1, .int a] (.int a :: st) ws := R_iload_n hc_163 dL_cell_28 rfl rfl
theorem r_163_29 (ls st : List Value) (ws : ai_W) : ai_Run 163 29 ls st ws = ai_Run 163 31 ls (.int 13 :: st) ws := R_bipush hc_163 dL_cell_29 (by decide) rfl
theorem r_163_31 (ls st : List Value) (a b : Int32) (ws : ai_W) : ai_Run 163 31 ls (.int b :: .int a :: st) ws = ai_Run 163 32 ls (.int ((a.toUInt32 >>> (b.toUInt32 &&& Int32.toUInt32 31)).toInt32) :: st) ws := R_iushr hc_163 dL_cell_31 rfl
theorem r_163_32 (ls st : List Value) (a b : Int32) (ws : ai_W) : ai_Run 163 32 ls (.int b :: .int a :: st) ws = ai_Run 163 33 ls (.int (a ^^^ b) :: st) ws := R_ixor hc_163 dL_cell_32 rfl
theorem r_163_33 (ls st : List Value) (ws : ai_W) : ai_Run 163 33 ls st ws = ai_Run 163 35 ls (.int 1103515245 :: st) ws := R_ldci hc_163 dL_cell_33 rfl rfl rfl
theorem r_163_35 (ls st : List Value) (a b : Int32) (ws : ai_W) : ai_Run 163 35 ls (.int b :: .int a :: st) ws = ai_Run 163 36 ls (.int (a * b) :: st) ws := R_imul hc_163 dL_cell_35 rfl
theorem r_163_36 (l0 l1 l2 : Value) (a : Int32) (st : List Value) (ws : ai_W) : ai_Run 163 36 [l0, l1, l2] (.int a :: st) ws = ai_Run 163 37 [l0, l1, .int a] st ws := R_istore_n hc_163 dL_cell_36 (Nat.le_of_ble_eq_true rfl) rfl rfl
theorem r_163_37 (l0 l1 : Value) (a : Int32) (st : List Value) (ws : ai_W) : ai_Run 163 37 [l0, l1, .int a] st ws = ai_Run 163 38 [l0, l1, .int a] (.int a :: st) ws := R_iload_n hc_163 dL_cell_37 rfl rfl
theorem r_163_38 (l0 l1 : Value) (a : Int32) (st : List Value) (ws : ai_W) : ai_Run 163 38 [l0, l1, .int a] st ws = ai_Run 163 39 [l0, l1, .int a] (.int a :: st) ws := R_iload_n hc_163 dL_cell_38 rfl rfl
theorem r_163_39 (ls st : List Value) (ws : ai_W) : ai_Run 163 39 ls st ws = ai_Run 163 41 ls (.int 16 :: st) ws := R_bipush hc_163 dL_cell_39 (by decide) rfl
theorem r_163_41 (ls st : List Value) (a b : Int32) (ws : ai_W) : ai_Run 163 41 ls (.int b :: .int a :: st) ws = ai_Run 163 42 ls (.int ((a.toUInt32 >>> (b.toUInt32 &&& Int32.toUInt32 31)).toInt32) :: st) ws := R_iushr hc_163 dL_cell_41 rfl
theorem r_163_42 (ls st : List Value) (a b : Int32) (ws : ai_W) : ai_Run 163 42 ls (.int b :: .int a :: st) ws = ai_Run 163 43 ls (.int (a ^^^ b) :: st) ws := R_ixor hc_163 dL_cell_42 rfl
theorem r_163_43 (ls : List Value) (x : Int32) (ws : ai_W) : ai_Run 163 43 ls [.int x] ws = some (some (.int x), ws) := R_iret hc_163 dL_cell_43 ht_163
theorem dL_in_0 : decode cL_in 0 = .ok (.aload_n 0, 1) := by decide +kernel
theorem dL_in_1 : decode cL_in 1 = .ok (.iload_n 1, 1) := by decide +kernel
theorem dL_in_2 : decode cL_in 2 = .ok (.invokestatic 9, 3) := by decide +kernel
theorem dL_in_5 : decode cL_in 5 = .ok (.ldc 15, 2) := by decide +kernel
theorem dL_in_7 : decode cL_in 7 = .ok (.iand, 1) := by decide +kernel
theorem dL_in_8 : decode cL_in 8 = .ok (.iload_n 2, 1) := by decide +kernel
theorem dL_in_9 : decode cL_in 9 = .ok (.irem, 1) := by decide +kernel
theorem dL_in_10 : decode cL_in 10 = .ok (.ireturn, 1) := by decide +kernel
theorem e_164 (a0 : Nat) (a1 : Int32) (a2 : Int32) (ws : ai_W) : ai_Call 164 [.ref a0, .int a1, .int a2] ws = ai_Run 164 0 [.ref a0, .int a1, .int a2] [] ws := R_entS hk_164 ⟨⟨rfl, rfl⟩, Nat.le_of_ble_eq_true rfl⟩ rfl
theorem ex_164 (a0 : Nat) (a1 : Int32) (a2 : Int32) (ws : ai_W) : ai_Call 164 [.retAddr a0, .int a1, .int a2] ws = ai_Run 164 0 [.retAddr a0, .int a1, .int a2] [] ws := R_entS hk_164 ⟨⟨rfl, rfl⟩, Nat.le_of_ble_eq_true rfl⟩ rfl
theorem r_164_0 (l1 l2 : Value) (a : Nat) (st : List Value) (ws : ai_W) : ai_Run 164 0 [.ref a, l1, l2] st ws = ai_Run 164 1 [.ref a, l1, l2] (.ref a :: st) ws := R_aload_n hc_164 dL_in_0 rfl rfl
theorem rx_164_0 (l1 l2 : Value) {a : Nat} (hq : ¬ a = 23) (st : List Value) (ws : ai_W) : ai_Run 164 0 [.retAddr a, l1, l2] st ws = ai_Run 164 1 [.retAddr a, l1, l2] (.retAddr a :: st) ws := R_aload_nX hq hc_164 dL_in_0 rfl rfl
theorem r_164_1 (l0 l2 : Value) (a : Int32) (st : List Value) (ws : ai_W) : ai_Run 164 1 [l0, .int a, l2] st ws = ai_Run 164 2 [l0, .int a, l2] (.int a :: st) ws := R_iload_n hc_164 dL_in_1 rfl rfl
theorem r_164_2 (ls : List Value) (b0 : Value) (b1 : Int32) (ws : ai_W) : ai_Run 164 2 ls [.int b1, b0] ws = (ai_Call 163 [b0, .int b1] ws).bind fun q => ai_Run 164 5 ls (q.1.toList ++ []) q.2 := R_callS hc_164 dL_in_2 hv_164 (w := 424) rfl (ai_lt3 hf_163 hf_164 hL_163 ho_163 ho_164 rfl) hk_163 (by rw [hn_163]; rfl) rfl (Nat.le_of_ble_eq_true rfl) rfl
theorem r_164_5 (ls st : List Value) (ws : ai_W) : ai_Run 164 5 ls st ws = ai_Run 164 7 ls (.int 2147483647 :: st) ws := R_ldci hc_164 dL_in_5 rfl rfl rfl
theorem r_164_7 (ls st : List Value) (a b : Int32) (ws : ai_W) : ai_Run 164 7 ls (.int b :: .int a :: st) ws = ai_Run 164 8 ls (.int (a &&& b) :: st) ws := R_iand hc_164 dL_in_7 rfl
theorem r_164_8 (l0 l1 : Value) (a : Int32) (st : List Value) (ws : ai_W) : ai_Run 164 8 [l0, l1, .int a] st ws = ai_Run 164 9 [l0, l1, .int a] (.int a :: st) ws := R_iload_n hc_164 dL_in_8 rfl rfl
theorem r_164_9 {b : Int32} (hb : ¬ b = 0) (ls st : List Value) (a : Int32) (ws : ai_W) : ai_Run 164 9 ls (.int b :: .int a :: st) ws = ai_Run 164 10 ls (.int (a - a / b * b) :: st) ws := R_irem hc_164 dL_in_9 hb rfl
theorem r_164_10 (ls : List Value) (x : Int32) (ws : ai_W) : ai_Run 164 10 ls [.int x] ws = some (some (.int x), ws) := R_iret hc_164 dL_in_10 ht_164
theorem dL_begun_0 : decode cL_begun 0 = .ok (.new 27, 3) := by decide +kernel
theorem dL_begun_3 : decode cL_begun 3 = .ok (.dup, 1) := by decide +kernel
theorem dL_begun_4 : decode cL_begun 4 = .ok (.invokespecial 36, 3) := by decide +kernel
theorem dL_begun_7 : decode cL_begun 7 = .ok (.astore_n 1, 1) := by decide +kernel
theorem dL_begun_8 : decode cL_begun 8 = .ok (.iconst 0, 1) := by decide +kernel
theorem dL_begun_9 : decode cL_begun 9 = .ok (.istore_n 2, 1) := by decide +kernel
theorem dL_begun_10 : decode cL_begun 10 = .ok (.iconst 3, 1) := by decide +kernel
theorem dL_begun_11 : decode cL_begun 11 = .ok (.aload_n 0, 1) := by decide +kernel
theorem dL_begun_12 : decode cL_begun 12 = .ok (.iconst 0, 1) := by decide +kernel
theorem dL_begun_13 : decode cL_begun 13 = .ok (.iconst 3, 1) := by decide +kernel
theorem dL_begun_14 : decode cL_begun 14 = .ok (.invokestatic 37, 3) := by decide +kernel
theorem dL_begun_17 : decode cL_begun 17 = .ok (.iadd, 1) := by decide +kernel
theorem dL_begun_18 : decode cL_begun 18 = .ok (.istore_n 3, 1) := by decide +kernel
theorem dL_begun_19 : decode cL_begun 19 = .ok (.iconst 0, 1) := by decide +kernel
theorem dL_begun_20 : decode cL_begun 20 = .ok (.istore 4, 2) := by decide +kernel
theorem dL_begun_22 : decode cL_begun 22 = .ok (.iload 4, 2) := by decide +kernel
theorem dL_begun_24 : decode cL_begun 24 = .ok (.iload_n 3, 1) := by decide +kernel
theorem dL_begun_25 : decode cL_begun 25 = .ok (.if_icmp .ge 77, 3) := by decide +kernel
theorem dL_begun_28 : decode cL_begun 28 = .ok (.iload_n 2, 1) := by decide +kernel
theorem dL_begun_29 : decode cL_begun 29 = .ok (.aload_n 1, 1) := by decide +kernel
theorem dL_begun_30 : decode cL_begun 30 = .ok (.invokevirtual 41, 3) := by decide +kernel
theorem dL_begun_33 : decode cL_begun 33 = .ok (.iadd, 1) := by decide +kernel
theorem dL_begun_34 : decode cL_begun 34 = .ok (.istore_n 2, 1) := by decide +kernel
theorem dL_begun_35 : decode cL_begun 35 = .ok (.iload_n 2, 1) := by decide +kernel
theorem dL_begun_36 : decode cL_begun 36 = .ok (.aload_n 1, 1) := by decide +kernel
theorem dL_begun_37 : decode cL_begun 37 = .ok (.iload 4, 2) := by decide +kernel
theorem dL_begun_39 : decode cL_begun 39 = .ok (.iconst 1, 1) := by decide +kernel
theorem dL_begun_40 : decode cL_begun 40 = .ok (.aload_n 0, 1) := by decide +kernel
theorem dL_begun_41 : decode cL_begun 41 = .ok (.iconst 1, 1) := by decide +kernel
theorem dL_begun_42 : decode cL_begun 42 = .ok (.iload 4, 2) := by decide +kernel
theorem dL_begun_44 : decode cL_begun 44 = .ok (.iadd, 1) := by decide +kernel
theorem dL_begun_45 : decode cL_begun 45 = .ok (.bipush 12, 2) := by decide +kernel
theorem dL_begun_47 : decode cL_begun 47 = .ok (.invokestatic 37, 3) := by decide +kernel
theorem dL_begun_50 : decode cL_begun 50 = .ok (.iadd, 1) := by decide +kernel
theorem dL_begun_51 : decode cL_begun 51 = .ok (.invokevirtual 44, 3) := by decide +kernel
theorem dL_begun_54 : decode cL_begun 54 = .ok (.iadd, 1) := by decide +kernel
theorem dL_begun_55 : decode cL_begun 55 = .ok (.istore_n 2, 1) := by decide +kernel
theorem dL_begun_56 : decode cL_begun 56 = .ok (.iload_n 2, 1) := by decide +kernel
theorem dL_begun_57 : decode cL_begun 57 = .ok (.aload_n 0, 1) := by decide +kernel
theorem dL_begun_58 : decode cL_begun 58 = .ok (.bipush 6, 2) := by decide +kernel
theorem dL_begun_60 : decode cL_begun 60 = .ok (.iload 4, 2) := by decide +kernel
theorem dL_begun_62 : decode cL_begun 62 = .ok (.iadd, 1) := by decide +kernel
theorem dL_begun_63 : decode cL_begun 63 = .ok (.iconst 2, 1) := by decide +kernel
theorem dL_begun_64 : decode cL_begun 64 = .ok (.invokestatic 37, 3) := by decide +kernel
theorem dL_begun_67 : decode cL_begun 67 = .ok (.ifCond .ne 26, 3) := by decide +kernel
theorem dL_begun_70 : decode cL_begun 70 = .ok (.aload_n 1, 1) := by decide +kernel
theorem dL_begun_71 : decode cL_begun 71 = .ok (.iload 4, 2) := by decide +kernel
theorem dL_begun_73 : decode cL_begun 73 = .ok (.bipush 10, 2) := by decide +kernel
theorem dL_begun_75 : decode cL_begun 75 = .ok (.aload_n 0, 1) := by decide +kernel
theorem dL_begun_76 : decode cL_begun 76 = .ok (.bipush 11, 2) := by decide +kernel
theorem dL_begun_78 : decode cL_begun 78 = .ok (.iload 4, 2) := by decide +kernel
theorem dL_begun_80 : decode cL_begun 80 = .ok (.iadd, 1) := by decide +kernel
theorem dL_begun_81 : decode cL_begun 81 = .ok (.bipush 10, 2) := by decide +kernel
theorem dL_begun_83 : decode cL_begun 83 = .ok (.invokestatic 37, 3) := by decide +kernel
theorem dL_begun_86 : decode cL_begun 86 = .ok (.iadd, 1) := by decide +kernel
theorem dL_begun_87 : decode cL_begun 87 = .ok (.invokevirtual 48, 3) := by decide +kernel
theorem dL_begun_90 : decode cL_begun 90 = .ok (.goto 4, 3) := by decide +kernel
theorem dL_begun_93 : decode cL_begun 93 = .ok (.iconst 0, 1) := by decide +kernel
theorem dL_begun_94 : decode cL_begun 94 = .ok (.iadd, 1) := by decide +kernel
theorem dL_begun_95 : decode cL_begun 95 = .ok (.istore_n 2, 1) := by decide +kernel
theorem dL_begun_96 : decode cL_begun 96 = .ok (.iinc 4 1, 3) := by decide +kernel
theorem dL_begun_99 : decode cL_begun 99 = .ok (.goto (-77), 3) := by decide +kernel
theorem dL_begun_102 : decode cL_begun 102 = .ok (.iconst 0, 1) := by decide +kernel
theorem dL_begun_103 : decode cL_begun 103 = .ok (.istore 4, 2) := by decide +kernel
theorem dL_begun_105 : decode cL_begun 105 = .ok (.iload 4, 2) := by decide +kernel
theorem dL_begun_107 : decode cL_begun 107 = .ok (.iconst 3, 1) := by decide +kernel
theorem dL_begun_108 : decode cL_begun 108 = .ok (.if_icmp .ge 65, 3) := by decide +kernel
theorem dL_begun_111 : decode cL_begun 111 = .ok (.iload_n 2, 1) := by decide +kernel
theorem dL_begun_112 : decode cL_begun 112 = .ok (.aload_n 1, 1) := by decide +kernel
theorem dL_begun_113 : decode cL_begun 113 = .ok (.invokevirtual 51, 3) := by decide +kernel
theorem dL_begun_116 : decode cL_begun 116 = .ok (.iadd, 1) := by decide +kernel
theorem dL_begun_117 : decode cL_begun 117 = .ok (.istore_n 2, 1) := by decide +kernel
theorem dL_begun_118 : decode cL_begun 118 = .ok (.iload_n 2, 1) := by decide +kernel
theorem dL_begun_119 : decode cL_begun 119 = .ok (.aload_n 0, 1) := by decide +kernel
theorem dL_begun_120 : decode cL_begun 120 = .ok (.bipush 16, 2) := by decide +kernel
theorem dL_begun_122 : decode cL_begun 122 = .ok (.iload 4, 2) := by decide +kernel
theorem dL_begun_124 : decode cL_begun 124 = .ok (.iadd, 1) := by decide +kernel
theorem dL_begun_125 : decode cL_begun 125 = .ok (.iconst 2, 1) := by decide +kernel
theorem dL_begun_126 : decode cL_begun 126 = .ok (.invokestatic 37, 3) := by decide +kernel
theorem dL_begun_129 : decode cL_begun 129 = .ok (.ifCond .ne 13, 3) := by decide +kernel
theorem dL_begun_132 : decode cL_begun 132 = .ok (.aload_n 1, 1) := by decide +kernel
theorem dL_begun_133 : decode cL_begun 133 = .ok (.iload 4, 2) := by decide +kernel
theorem dL_begun_135 : decode cL_begun 135 = .ok (.iconst 1, 1) := by decide +kernel
theorem dL_begun_136 : decode cL_begun 136 = .ok (.invokevirtual 54, 3) := by decide +kernel
theorem dL_begun_139 : decode cL_begun 139 = .ok (.goto 4, 3) := by decide +kernel
theorem dL_begun_142 : decode cL_begun 142 = .ok (.iconst 0, 1) := by decide +kernel
theorem dL_begun_143 : decode cL_begun 143 = .ok (.iadd, 1) := by decide +kernel
theorem dL_begun_144 : decode cL_begun 144 = .ok (.istore_n 2, 1) := by decide +kernel
theorem dL_begun_145 : decode cL_begun 145 = .ok (.iload_n 2, 1) := by decide +kernel
theorem dL_begun_146 : decode cL_begun 146 = .ok (.aload_n 1, 1) := by decide +kernel
theorem dL_begun_147 : decode cL_begun 147 = .ok (.iconst 1, 1) := by decide +kernel
theorem dL_begun_148 : decode cL_begun 148 = .ok (.aload_n 0, 1) := by decide +kernel
theorem dL_begun_149 : decode cL_begun 149 = .ok (.bipush 19, 2) := by decide +kernel
theorem dL_begun_151 : decode cL_begun 151 = .ok (.iload 4, 2) := by decide +kernel
theorem dL_begun_153 : decode cL_begun 153 = .ok (.iadd, 1) := by decide +kernel
theorem dL_begun_154 : decode cL_begun 154 = .ok (.bipush 12, 2) := by decide +kernel
theorem dL_begun_156 : decode cL_begun 156 = .ok (.invokestatic 37, 3) := by decide +kernel
theorem dL_begun_159 : decode cL_begun 159 = .ok (.iadd, 1) := by decide +kernel
theorem dL_begun_160 : decode cL_begun 160 = .ok (.iload 4, 2) := by decide +kernel
theorem dL_begun_162 : decode cL_begun 162 = .ok (.invokevirtual 57, 3) := by decide +kernel
theorem dL_begun_165 : decode cL_begun 165 = .ok (.iadd, 1) := by decide +kernel
theorem dL_begun_166 : decode cL_begun 166 = .ok (.istore_n 2, 1) := by decide +kernel
theorem dL_begun_167 : decode cL_begun 167 = .ok (.iinc 4 1, 3) := by decide +kernel
theorem dL_begun_170 : decode cL_begun 170 = .ok (.goto (-65), 3) := by decide +kernel
theorem dL_begun_173 : decode cL_begun 173 = .ok (.iconst 0, 1) := by decide +kernel
theorem dL_begun_174 : decode cL_begun 174 = .ok (.istore 4, 2) := by decide +kernel
theorem dL_begun_176 : decode cL_begun 176 = .ok (.iload 4, 2) := by decide +kernel
theorem dL_begun_178 : decode cL_begun 178 = .ok (.bipush 6, 2) := by decide +kernel
theorem dL_begun_180 : decode cL_begun 180 = .ok (.if_icmp .ge 49, 3) := by decide +kernel
theorem dL_begun_183 : decode cL_begun 183 = .ok (.iload_n 2, 1) := by decide +kernel
theorem dL_begun_184 : decode cL_begun 184 = .ok (.aload_n 1, 1) := by decide +kernel
theorem dL_begun_185 : decode cL_begun 185 = .ok (.aload_n 0, 1) := by decide +kernel
theorem dL_begun_186 : decode cL_begun 186 = .ok (.bipush 22, 2) := by decide +kernel
theorem dL_begun_188 : decode cL_begun 188 = .ok (.iload 4, 2) := by decide +kernel
theorem dL_begun_190 : decode cL_begun 190 = .ok (.iadd, 1) := by decide +kernel
theorem dL_begun_191 : decode cL_begun 191 = .ok (.iload_n 3, 1) := by decide +kernel
theorem dL_begun_192 : decode cL_begun 192 = .ok (.invokestatic 37, 3) := by decide +kernel
theorem dL_begun_195 : decode cL_begun 195 = .ok (.aload_n 0, 1) := by decide +kernel
theorem dL_begun_196 : decode cL_begun 196 = .ok (.bipush 28, 2) := by decide +kernel
theorem dL_begun_198 : decode cL_begun 198 = .ok (.iload 4, 2) := by decide +kernel
theorem dL_begun_200 : decode cL_begun 200 = .ok (.iadd, 1) := by decide +kernel
theorem dL_begun_201 : decode cL_begun 201 = .ok (.iload_n 3, 1) := by decide +kernel
theorem dL_begun_202 : decode cL_begun 202 = .ok (.invokestatic 37, 3) := by decide +kernel
theorem dL_begun_205 : decode cL_begun 205 = .ok (.iconst 1, 1) := by decide +kernel
theorem dL_begun_206 : decode cL_begun 206 = .ok (.aload_n 0, 1) := by decide +kernel
theorem dL_begun_207 : decode cL_begun 207 = .ok (.bipush 34, 2) := by decide +kernel
theorem dL_begun_209 : decode cL_begun 209 = .ok (.iload 4, 2) := by decide +kernel
theorem dL_begun_211 : decode cL_begun 211 = .ok (.iadd, 1) := by decide +kernel
theorem dL_begun_212 : decode cL_begun 212 = .ok (.bipush 9, 2) := by decide +kernel
theorem dL_begun_214 : decode cL_begun 214 = .ok (.invokestatic 37, 3) := by decide +kernel
theorem dL_begun_217 : decode cL_begun 217 = .ok (.iadd, 1) := by decide +kernel
theorem dL_begun_218 : decode cL_begun 218 = .ok (.invokevirtual 60, 3) := by decide +kernel
theorem dL_begun_221 : decode cL_begun 221 = .ok (.iadd, 1) := by decide +kernel
theorem dL_begun_222 : decode cL_begun 222 = .ok (.istore_n 2, 1) := by decide +kernel
theorem dL_begun_223 : decode cL_begun 223 = .ok (.iinc 4 1, 3) := by decide +kernel
theorem dL_begun_226 : decode cL_begun 226 = .ok (.goto (-50), 3) := by decide +kernel
theorem dL_begun_229 : decode cL_begun 229 = .ok (.iconst 0, 1) := by decide +kernel
theorem dL_begun_230 : decode cL_begun 230 = .ok (.istore 4, 2) := by decide +kernel
theorem dL_begun_232 : decode cL_begun 232 = .ok (.iload 4, 2) := by decide +kernel
theorem dL_begun_234 : decode cL_begun 234 = .ok (.iconst 4, 1) := by decide +kernel
theorem dL_begun_235 : decode cL_begun 235 = .ok (.if_icmp .ge 40, 3) := by decide +kernel
theorem dL_begun_238 : decode cL_begun 238 = .ok (.iload_n 2, 1) := by decide +kernel
theorem dL_begun_239 : decode cL_begun 239 = .ok (.aload_n 1, 1) := by decide +kernel
theorem dL_begun_240 : decode cL_begun 240 = .ok (.aload_n 0, 1) := by decide +kernel
theorem dL_begun_241 : decode cL_begun 241 = .ok (.bipush 40, 2) := by decide +kernel
theorem dL_begun_243 : decode cL_begun 243 = .ok (.iload 4, 2) := by decide +kernel
theorem dL_begun_245 : decode cL_begun 245 = .ok (.iadd, 1) := by decide +kernel
theorem dL_begun_246 : decode cL_begun 246 = .ok (.bipush 7, 2) := by decide +kernel
theorem dL_begun_248 : decode cL_begun 248 = .ok (.invokestatic 37, 3) := by decide +kernel
theorem dL_begun_251 : decode cL_begun 251 = .ok (.iconst 1, 1) := by decide +kernel
theorem dL_begun_252 : decode cL_begun 252 = .ok (.aload_n 0, 1) := by decide +kernel
theorem dL_begun_253 : decode cL_begun 253 = .ok (.bipush 44, 2) := by decide +kernel
theorem dL_begun_255 : decode cL_begun 255 = .ok (.iload 4, 2) := by decide +kernel
theorem dL_begun_257 : decode cL_begun 257 = .ok (.iadd, 1) := by decide +kernel
theorem dL_begun_258 : decode cL_begun 258 = .ok (.bipush 9, 2) := by decide +kernel
theorem dL_begun_260 : decode cL_begun 260 = .ok (.invokestatic 37, 3) := by decide +kernel
theorem dL_begun_263 : decode cL_begun 263 = .ok (.iadd, 1) := by decide +kernel
theorem dL_begun_264 : decode cL_begun 264 = .ok (.invokevirtual 64, 3) := by decide +kernel
theorem dL_begun_267 : decode cL_begun 267 = .ok (.iadd, 1) := by decide +kernel
theorem dL_begun_268 : decode cL_begun 268 = .ok (.istore_n 2, 1) := by decide +kernel
theorem dL_begun_269 : decode cL_begun 269 = .ok (.iinc 4 1, 3) := by decide +kernel
theorem dL_begun_272 : decode cL_begun 272 = .ok (.goto (-40), 3) := by decide +kernel
theorem dL_begun_275 : decode cL_begun 275 = .ok (.iload_n 2, 1) := by decide +kernel
theorem dL_begun_276 : decode cL_begun 276 = .ok (.ldc 67, 2) := by decide +kernel
theorem dL_begun_278 : decode cL_begun 278 = .ok (.if_icmp .ge 7, 3) := by decide +kernel
theorem dL_begun_281 : decode cL_begun 281 = .ok (.aconst_null, 1) := by decide +kernel
theorem dL_begun_282 : decode cL_begun 282 = .ok (.goto 4, 3) := by decide +kernel
theorem dL_begun_285 : decode cL_begun 285 = .ok (.aload_n 1, 1) := by decide +kernel
theorem dL_begun_286 : decode cL_begun 286 = .ok (.areturn, 1) := by decide +kernel
theorem e_165 (a0 : Nat) (ws : ai_W) : ai_Call 165 [.ref a0] ws = ai_Run 165 0 [.ref a0, .null, .null, .null, .null] [] ws := R_entS hk_165 ⟨⟨rfl, rfl⟩, Nat.le_of_ble_eq_true rfl⟩ rfl
theorem ex_165 (a0 : Nat) (ws : ai_W) : ai_Call 165 [.retAddr a0] ws = ai_Run 165 0 [.retAddr a0, .null, .null, .null, .null] [] ws := R_entS hk_165 ⟨⟨rfl, rfl⟩, Nat.le_of_ble_eq_true rfl⟩ rfl
theorem r_165_0 (ls st : List Value) (ws : ai_W) : ai_Run 165 0 ls st ws = ai_Run 165 3 ls (.ref ws.length :: st) (ws ++ [ai_blank 10]) := R_new hc_165 dL_begun_0 hv_165 (w1 := 436) (w2 := 51) (w3 := 22) rfl rfl
theorem r_165_3 (ls st : List Value) (a : Nat) (ws : ai_W) : ai_Run 165 3 ls (.ref a :: st) ws = ai_Run 165 4 ls (.ref a :: .ref a :: st) ws := R_dup hc_165 dL_begun_3 rfl
theorem r_165_4 (ls : List Value) (r : Value) (s0 : Value) (ws : ai_W) : ai_Run 165 4 ls [r, s0] ws = (ai_Call 11 [r] ws).bind fun q => ai_Run 165 7 ls (q.1.toList ++ [s0]) q.2 := R_callI hc_165 dL_begun_4 hv_165 (w := 437) (Or.inl rfl) (ai_lt3 hf_11 hf_165 hL_11 ho_11 ho_165 rfl) hk_11 (by rw [hn_11]; rfl) rfl (Nat.le_of_ble_eq_true rfl) rfl
theorem r_165_7 (l0 l1 l2 l3 l4 : Value) (a : Nat) (st : List Value) (ws : ai_W) : ai_Run 165 7 [l0, l1, l2, l3, l4] (.ref a :: st) ws = ai_Run 165 8 [l0, .ref a, l2, l3, l4] st ws := R_astore_n hc_165 dL_begun_7 (Nat.le_of_ble_eq_true rfl) rfl rfl
theorem r_165_8 (ls st : List Value) (ws : ai_W) : ai_Run 165 8 ls st ws = ai_Run 165 9 ls (.int 0 :: st) ws := R_iconst hc_165 dL_begun_8 (by decide) rfl
theorem r_165_9 (l0 l1 l2 l3 l4 : Value) (a : Int32) (st : List Value) (ws : ai_W) : ai_Run 165 9 [l0, l1, l2, l3, l4] (.int a :: st) ws = ai_Run 165 10 [l0, l1, .int a, l3, l4] st ws := R_istore_n hc_165 dL_begun_9 (Nat.le_of_ble_eq_true rfl) rfl rfl
theorem r_165_10 (ls st : List Value) (ws : ai_W) : ai_Run 165 10 ls st ws = ai_Run 165 11 ls (.int 3 :: st) ws := R_iconst hc_165 dL_begun_10 (by decide) rfl
theorem r_165_11 (l1 l2 l3 l4 : Value) (a : Nat) (st : List Value) (ws : ai_W) : ai_Run 165 11 [.ref a, l1, l2, l3, l4] st ws = ai_Run 165 12 [.ref a, l1, l2, l3, l4] (.ref a :: st) ws := R_aload_n hc_165 dL_begun_11 rfl rfl
theorem rx_165_11 (l1 l2 l3 l4 : Value) {a : Nat} (hq : ¬ a = 23) (st : List Value) (ws : ai_W) : ai_Run 165 11 [.retAddr a, l1, l2, l3, l4] st ws = ai_Run 165 12 [.retAddr a, l1, l2, l3, l4] (.retAddr a :: st) ws := R_aload_nX hq hc_165 dL_begun_11 rfl rfl
theorem r_165_12 (ls st : List Value) (ws : ai_W) : ai_Run 165 12 ls st ws = ai_Run 165 13 ls (.int 0 :: st) ws := R_iconst hc_165 dL_begun_12 (by decide) rfl
theorem r_165_13 (ls st : List Value) (ws : ai_W) : ai_Run 165 13 ls st ws = ai_Run 165 14 ls (.int 3 :: st) ws := R_iconst hc_165 dL_begun_13 (by decide) rfl
theorem r_165_14 (ls : List Value) (b0 : Value) (b1 : Int32) (b2 : Int32) (s0 : Value) (ws : ai_W) : ai_Run 165 14 ls [.int b2, .int b1, b0, s0] ws = (ai_Call 164 [b0, .int b1, .int b2] ws).bind fun q => ai_Run 165 17 ls (q.1.toList ++ [s0]) q.2 := R_callS hc_165 dL_begun_14 hv_165 (w := 421) rfl (ai_lt3 hf_164 hf_165 hL_164 ho_164 ho_165 rfl) hk_164 (by rw [hn_164]; rfl) rfl (Nat.le_of_ble_eq_true rfl) rfl
theorem r_165_17 (ls st : List Value) (a b : Int32) (ws : ai_W) : ai_Run 165 17 ls (.int b :: .int a :: st) ws = ai_Run 165 18 ls (.int (a + b) :: st) ws := R_iadd hc_165 dL_begun_17 rfl
theorem r_165_18 (l0 l1 l2 l3 l4 : Value) (a : Int32) (st : List Value) (ws : ai_W) : ai_Run 165 18 [l0, l1, l2, l3, l4] (.int a :: st) ws = ai_Run 165 19 [l0, l1, l2, .int a, l4] st ws := R_istore_n hc_165 dL_begun_18 (Nat.le_of_ble_eq_true rfl) rfl rfl
theorem r_165_19 (ls st : List Value) (ws : ai_W) : ai_Run 165 19 ls st ws = ai_Run 165 20 ls (.int 0 :: st) ws := R_iconst hc_165 dL_begun_19 (by decide) rfl
theorem r_165_20 (l0 l1 l2 l3 l4 : Value) (a : Int32) (st : List Value) (ws : ai_W) : ai_Run 165 20 [l0, l1, l2, l3, l4] (.int a :: st) ws = ai_Run 165 22 [l0, l1, l2, l3, .int a] st ws := R_istore hc_165 dL_begun_20 (Nat.le_of_ble_eq_true rfl) rfl rfl
theorem r_165_22 (l0 l1 l2 l3 : Value) (a : Int32) (st : List Value) (ws : ai_W) : ai_Run 165 22 [l0, l1, l2, l3, .int a] st ws = ai_Run 165 24 [l0, l1, l2, l3, .int a] (.int a :: st) ws := R_iload hc_165 dL_begun_22 rfl rfl
theorem r_165_24 (l0 l1 l2 l4 : Value) (a : Int32) (st : List Value) (ws : ai_W) : ai_Run 165 24 [l0, l1, l2, .int a, l4] st ws = ai_Run 165 25 [l0, l1, l2, .int a, l4] (.int a :: st) ws := R_iload_n hc_165 dL_begun_24 rfl rfl
theorem r_165_25 (ls st : List Value) (a b : Int32) (ws : ai_W) : ai_Run 165 25 ls (.int b :: .int a :: st) ws = if a < b then ai_Run 165 28 ls st ws else ai_Run 165 102 ls st ws := R_cmp_ge hc_165 dL_begun_25 rfl rfl
theorem r_165_28 (l0 l1 l3 l4 : Value) (a : Int32) (st : List Value) (ws : ai_W) : ai_Run 165 28 [l0, l1, .int a, l3, l4] st ws = ai_Run 165 29 [l0, l1, .int a, l3, l4] (.int a :: st) ws := R_iload_n hc_165 dL_begun_28 rfl rfl
theorem r_165_29 (l0 l2 l3 l4 : Value) (a : Nat) (st : List Value) (ws : ai_W) : ai_Run 165 29 [l0, .ref a, l2, l3, l4] st ws = ai_Run 165 30 [l0, .ref a, l2, l3, l4] (.ref a :: st) ws := R_aload_n hc_165 dL_begun_29 rfl rfl
theorem rx_165_29 (l0 l2 l3 l4 : Value) {a : Nat} (hq : ¬ a = 23) (st : List Value) (ws : ai_W) : ai_Run 165 29 [l0, .retAddr a, l2, l3, l4] st ws = ai_Run 165 30 [l0, .retAddr a, l2, l3, l4] (.retAddr a :: st) ws := R_aload_nX hq hc_165 dL_begun_29 rfl rfl
theorem r_165_30 (ls : List Value) (r : Value) (s0 : Value) (ws : ai_W) : ai_Run 165 30 ls [r, s0] ws = (ai_Call 92 [r] ws).bind fun q => ai_Run 165 33 ls (q.1.toList ++ [s0]) q.2 := R_callV hc_165 dL_begun_30 hv_165 (w := 44) rfl (ai_lt3 hf_92 hf_165 hL_92 ho_92 ho_165 rfl) hk_92 (by rw [hn_92]; rfl) rfl (Nat.le_of_ble_eq_true rfl) rfl
theorem r_165_33 (ls st : List Value) (a b : Int32) (ws : ai_W) : ai_Run 165 33 ls (.int b :: .int a :: st) ws = ai_Run 165 34 ls (.int (a + b) :: st) ws := R_iadd hc_165 dL_begun_33 rfl
theorem r_165_34 (l0 l1 l2 l3 l4 : Value) (a : Int32) (st : List Value) (ws : ai_W) : ai_Run 165 34 [l0, l1, l2, l3, l4] (.int a :: st) ws = ai_Run 165 35 [l0, l1, .int a, l3, l4] st ws := R_istore_n hc_165 dL_begun_34 (Nat.le_of_ble_eq_true rfl) rfl rfl
theorem r_165_35 (l0 l1 l3 l4 : Value) (a : Int32) (st : List Value) (ws : ai_W) : ai_Run 165 35 [l0, l1, .int a, l3, l4] st ws = ai_Run 165 36 [l0, l1, .int a, l3, l4] (.int a :: st) ws := R_iload_n hc_165 dL_begun_35 rfl rfl
theorem r_165_36 (l0 l2 l3 l4 : Value) (a : Nat) (st : List Value) (ws : ai_W) : ai_Run 165 36 [l0, .ref a, l2, l3, l4] st ws = ai_Run 165 37 [l0, .ref a, l2, l3, l4] (.ref a :: st) ws := R_aload_n hc_165 dL_begun_36 rfl rfl
theorem rx_165_36 (l0 l2 l3 l4 : Value) {a : Nat} (hq : ¬ a = 23) (st : List Value) (ws : ai_W) : ai_Run 165 36 [l0, .retAddr a, l2, l3, l4] st ws = ai_Run 165 37 [l0, .retAddr a, l2, l3, l4] (.retAddr a :: st) ws := R_aload_nX hq hc_165 dL_begun_36 rfl rfl
theorem r_165_37 (l0 l1 l2 l3 : Value) (a : Int32) (st : List Value) (ws : ai_W) : ai_Run 165 37 [l0, l1, l2, l3, .int a] st ws = ai_Run 165 39 [l0, l1, l2, l3, .int a] (.int a :: st) ws := R_iload hc_165 dL_begun_37 rfl rfl
theorem r_165_39 (ls st : List Value) (ws : ai_W) : ai_Run 165 39 ls st ws = ai_Run 165 40 ls (.int 1 :: st) ws := R_iconst hc_165 dL_begun_39 (by decide) rfl
theorem r_165_40 (l1 l2 l3 l4 : Value) (a : Nat) (st : List Value) (ws : ai_W) : ai_Run 165 40 [.ref a, l1, l2, l3, l4] st ws = ai_Run 165 41 [.ref a, l1, l2, l3, l4] (.ref a :: st) ws := R_aload_n hc_165 dL_begun_40 rfl rfl
theorem rx_165_40 (l1 l2 l3 l4 : Value) {a : Nat} (hq : ¬ a = 23) (st : List Value) (ws : ai_W) : ai_Run 165 40 [.retAddr a, l1, l2, l3, l4] st ws = ai_Run 165 41 [.retAddr a, l1, l2, l3, l4] (.retAddr a :: st) ws := R_aload_nX hq hc_165 dL_begun_40 rfl rfl
theorem r_165_41 (ls st : List Value) (ws : ai_W) : ai_Run 165 41 ls st ws = ai_Run 165 42 ls (.int 1 :: st) ws := R_iconst hc_165 dL_begun_41 (by decide) rfl
theorem r_165_42 (l0 l1 l2 l3 : Value) (a : Int32) (st : List Value) (ws : ai_W) : ai_Run 165 42 [l0, l1, l2, l3, .int a] st ws = ai_Run 165 44 [l0, l1, l2, l3, .int a] (.int a :: st) ws := R_iload hc_165 dL_begun_42 rfl rfl
theorem r_165_44 (ls st : List Value) (a b : Int32) (ws : ai_W) : ai_Run 165 44 ls (.int b :: .int a :: st) ws = ai_Run 165 45 ls (.int (a + b) :: st) ws := R_iadd hc_165 dL_begun_44 rfl
theorem r_165_45 (ls st : List Value) (ws : ai_W) : ai_Run 165 45 ls st ws = ai_Run 165 47 ls (.int 12 :: st) ws := R_bipush hc_165 dL_begun_45 (by decide) rfl
theorem r_165_47 (ls : List Value) (b0 : Value) (b1 : Int32) (b2 : Int32) (s0 s1 s2 s3 : Value) (ws : ai_W) : ai_Run 165 47 ls [.int b2, .int b1, b0, s0, s1, s2, s3] ws = (ai_Call 164 [b0, .int b1, .int b2] ws).bind fun q => ai_Run 165 50 ls (q.1.toList ++ [s0, s1, s2, s3]) q.2 := R_callS hc_165 dL_begun_47 hv_165 (w := 421) rfl (ai_lt3 hf_164 hf_165 hL_164 ho_164 ho_165 rfl) hk_164 (by rw [hn_164]; rfl) rfl (Nat.le_of_ble_eq_true rfl) rfl
theorem r_165_50 (ls st : List Value) (a b : Int32) (ws : ai_W) : ai_Run 165 50 ls (.int b :: .int a :: st) ws = ai_Run 165 51 ls (.int (a + b) :: st) ws := R_iadd hc_165 dL_begun_50 rfl
theorem r_165_51 (ls : List Value) (r : Value) (b0 : Int32) (b1 : Int32) (s0 : Value) (ws : ai_W) : ai_Run 165 51 ls [.int b1, .int b0, r, s0] ws = (ai_Call 109 [r, .int b0, .int b1] ws).bind fun q => ai_Run 165 54 ls (q.1.toList ++ [s0]) q.2 := R_callV hc_165 dL_begun_51 hv_165 (w := 683) rfl (ai_lt3 hf_109 hf_165 hL_109 ho_109 ho_165 rfl) hk_109 (by rw [hn_109]; rfl) rfl (Nat.le_of_ble_eq_true rfl) rfl
theorem r_165_54 (ls st : List Value) (a b : Int32) (ws : ai_W) : ai_Run 165 54 ls (.int b :: .int a :: st) ws = ai_Run 165 55 ls (.int (a + b) :: st) ws := R_iadd hc_165 dL_begun_54 rfl
theorem r_165_55 (l0 l1 l2 l3 l4 : Value) (a : Int32) (st : List Value) (ws : ai_W) : ai_Run 165 55 [l0, l1, l2, l3, l4] (.int a :: st) ws = ai_Run 165 56 [l0, l1, .int a, l3, l4] st ws := R_istore_n hc_165 dL_begun_55 (Nat.le_of_ble_eq_true rfl) rfl rfl
theorem r_165_56 (l0 l1 l3 l4 : Value) (a : Int32) (st : List Value) (ws : ai_W) : ai_Run 165 56 [l0, l1, .int a, l3, l4] st ws = ai_Run 165 57 [l0, l1, .int a, l3, l4] (.int a :: st) ws := R_iload_n hc_165 dL_begun_56 rfl rfl
theorem r_165_57 (l1 l2 l3 l4 : Value) (a : Nat) (st : List Value) (ws : ai_W) : ai_Run 165 57 [.ref a, l1, l2, l3, l4] st ws = ai_Run 165 58 [.ref a, l1, l2, l3, l4] (.ref a :: st) ws := R_aload_n hc_165 dL_begun_57 rfl rfl
theorem rx_165_57 (l1 l2 l3 l4 : Value) {a : Nat} (hq : ¬ a = 23) (st : List Value) (ws : ai_W) : ai_Run 165 57 [.retAddr a, l1, l2, l3, l4] st ws = ai_Run 165 58 [.retAddr a, l1, l2, l3, l4] (.retAddr a :: st) ws := R_aload_nX hq hc_165 dL_begun_57 rfl rfl
theorem r_165_58 (ls st : List Value) (ws : ai_W) : ai_Run 165 58 ls st ws = ai_Run 165 60 ls (.int 6 :: st) ws := R_bipush hc_165 dL_begun_58 (by decide) rfl
theorem r_165_60 (l0 l1 l2 l3 : Value) (a : Int32) (st : List Value) (ws : ai_W) : ai_Run 165 60 [l0, l1, l2, l3, .int a] st ws = ai_Run 165 62 [l0, l1, l2, l3, .int a] (.int a :: st) ws := R_iload hc_165 dL_begun_60 rfl rfl
theorem r_165_62 (ls st : List Value) (a b : Int32) (ws : ai_W) : ai_Run 165 62 ls (.int b :: .int a :: st) ws = ai_Run 165 63 ls (.int (a + b) :: st) ws := R_iadd hc_165 dL_begun_62 rfl
theorem r_165_63 (ls st : List Value) (ws : ai_W) : ai_Run 165 63 ls st ws = ai_Run 165 64 ls (.int 2 :: st) ws := R_iconst hc_165 dL_begun_63 (by decide) rfl
theorem r_165_64 (ls : List Value) (b0 : Value) (b1 : Int32) (b2 : Int32) (s0 : Value) (ws : ai_W) : ai_Run 165 64 ls [.int b2, .int b1, b0, s0] ws = (ai_Call 164 [b0, .int b1, .int b2] ws).bind fun q => ai_Run 165 67 ls (q.1.toList ++ [s0]) q.2 := R_callS hc_165 dL_begun_64 hv_165 (w := 421) rfl (ai_lt3 hf_164 hf_165 hL_164 ho_164 ho_165 rfl) hk_164 (by rw [hn_164]; rfl) rfl (Nat.le_of_ble_eq_true rfl) rfl
theorem r_165_67 (ls st : List Value) (a : Int32) (ws : ai_W) : ai_Run 165 67 ls (.int a :: st) ws = if a = 0 then ai_Run 165 70 ls st ws else ai_Run 165 93 ls st ws := R_if_ne hc_165 dL_begun_67 rfl rfl
theorem r_165_70 (l0 l2 l3 l4 : Value) (a : Nat) (st : List Value) (ws : ai_W) : ai_Run 165 70 [l0, .ref a, l2, l3, l4] st ws = ai_Run 165 71 [l0, .ref a, l2, l3, l4] (.ref a :: st) ws := R_aload_n hc_165 dL_begun_70 rfl rfl
theorem rx_165_70 (l0 l2 l3 l4 : Value) {a : Nat} (hq : ¬ a = 23) (st : List Value) (ws : ai_W) : ai_Run 165 70 [l0, .retAddr a, l2, l3, l4] st ws = ai_Run 165 71 [l0, .retAddr a, l2, l3, l4] (.retAddr a :: st) ws := R_aload_nX hq hc_165 dL_begun_70 rfl rfl
theorem r_165_71 (l0 l1 l2 l3 : Value) (a : Int32) (st : List Value) (ws : ai_W) : ai_Run 165 71 [l0, l1, l2, l3, .int a] st ws = ai_Run 165 73 [l0, l1, l2, l3, .int a] (.int a :: st) ws := R_iload hc_165 dL_begun_71 rfl rfl
theorem r_165_73 (ls st : List Value) (ws : ai_W) : ai_Run 165 73 ls st ws = ai_Run 165 75 ls (.int 10 :: st) ws := R_bipush hc_165 dL_begun_73 (by decide) rfl
theorem r_165_75 (l1 l2 l3 l4 : Value) (a : Nat) (st : List Value) (ws : ai_W) : ai_Run 165 75 [.ref a, l1, l2, l3, l4] st ws = ai_Run 165 76 [.ref a, l1, l2, l3, l4] (.ref a :: st) ws := R_aload_n hc_165 dL_begun_75 rfl rfl
theorem rx_165_75 (l1 l2 l3 l4 : Value) {a : Nat} (hq : ¬ a = 23) (st : List Value) (ws : ai_W) : ai_Run 165 75 [.retAddr a, l1, l2, l3, l4] st ws = ai_Run 165 76 [.retAddr a, l1, l2, l3, l4] (.retAddr a :: st) ws := R_aload_nX hq hc_165 dL_begun_75 rfl rfl
theorem r_165_76 (ls st : List Value) (ws : ai_W) : ai_Run 165 76 ls st ws = ai_Run 165 78 ls (.int 11 :: st) ws := R_bipush hc_165 dL_begun_76 (by decide) rfl
theorem r_165_78 (l0 l1 l2 l3 : Value) (a : Int32) (st : List Value) (ws : ai_W) : ai_Run 165 78 [l0, l1, l2, l3, .int a] st ws = ai_Run 165 80 [l0, l1, l2, l3, .int a] (.int a :: st) ws := R_iload hc_165 dL_begun_78 rfl rfl
theorem r_165_80 (ls st : List Value) (a b : Int32) (ws : ai_W) : ai_Run 165 80 ls (.int b :: .int a :: st) ws = ai_Run 165 81 ls (.int (a + b) :: st) ws := R_iadd hc_165 dL_begun_80 rfl
theorem r_165_81 (ls st : List Value) (ws : ai_W) : ai_Run 165 81 ls st ws = ai_Run 165 83 ls (.int 10 :: st) ws := R_bipush hc_165 dL_begun_81 (by decide) rfl
theorem r_165_83 (ls : List Value) (b0 : Value) (b1 : Int32) (b2 : Int32) (s0 s1 s2 s3 : Value) (ws : ai_W) : ai_Run 165 83 ls [.int b2, .int b1, b0, s0, s1, s2, s3] ws = (ai_Call 164 [b0, .int b1, .int b2] ws).bind fun q => ai_Run 165 86 ls (q.1.toList ++ [s0, s1, s2, s3]) q.2 := R_callS hc_165 dL_begun_83 hv_165 (w := 421) rfl (ai_lt3 hf_164 hf_165 hL_164 ho_164 ho_165 rfl) hk_164 (by rw [hn_164]; rfl) rfl (Nat.le_of_ble_eq_true rfl) rfl
theorem r_165_86 (ls st : List Value) (a b : Int32) (ws : ai_W) : ai_Run 165 86 ls (.int b :: .int a :: st) ws = ai_Run 165 87 ls (.int (a + b) :: st) ws := R_iadd hc_165 dL_begun_86 rfl
theorem r_165_87 (ls : List Value) (r : Value) (b0 : Int32) (b1 : Int32) (s0 : Value) (ws : ai_W) : ai_Run 165 87 ls [.int b1, .int b0, r, s0] ws = (ai_Call 140 [r, .int b0, .int b1] ws).bind fun q => ai_Run 165 90 ls (q.1.toList ++ [s0]) q.2 := R_callV hc_165 dL_begun_87 hv_165 (w := 100) rfl (ai_lt3 hf_140 hf_165 hL_140 ho_140 ho_165 rfl) hk_140 (by rw [hn_140]; rfl) rfl (Nat.le_of_ble_eq_true rfl) rfl
theorem r_165_90 (ls st : List Value) (ws : ai_W) : ai_Run 165 90 ls st ws = ai_Run 165 94 ls st ws := R_goto hc_165 dL_begun_90 rfl
theorem r_165_93 (ls st : List Value) (ws : ai_W) : ai_Run 165 93 ls st ws = ai_Run 165 94 ls (.int 0 :: st) ws := R_iconst hc_165 dL_begun_93 (by decide) rfl
theorem r_165_94 (ls st : List Value) (a b : Int32) (ws : ai_W) : ai_Run 165 94 ls (.int b :: .int a :: st) ws = ai_Run 165 95 ls (.int (a + b) :: st) ws := R_iadd hc_165 dL_begun_94 rfl
theorem r_165_95 (l0 l1 l2 l3 l4 : Value) (a : Int32) (st : List Value) (ws : ai_W) : ai_Run 165 95 [l0, l1, l2, l3, l4] (.int a :: st) ws = ai_Run 165 96 [l0, l1, .int a, l3, l4] st ws := R_istore_n hc_165 dL_begun_95 (Nat.le_of_ble_eq_true rfl) rfl rfl
theorem r_165_96 (l0 l1 l2 l3 : Value) (a : Int32) (st : List Value) (ws : ai_W) : ai_Run 165 96 [l0, l1, l2, l3, .int a] st ws = ai_Run 165 99 [l0, l1, l2, l3, .int (a + 1)] st ws := R_iinc hc_165 dL_begun_96 rfl (by decide) rfl rfl
theorem r_165_99 (ls st : List Value) (ws : ai_W) : ai_Run 165 99 ls st ws = ai_Run 165 22 ls st ws := R_goto hc_165 dL_begun_99 rfl
theorem r_165_102 (ls st : List Value) (ws : ai_W) : ai_Run 165 102 ls st ws = ai_Run 165 103 ls (.int 0 :: st) ws := R_iconst hc_165 dL_begun_102 (by decide) rfl
theorem r_165_103 (l0 l1 l2 l3 l4 : Value) (a : Int32) (st : List Value) (ws : ai_W) : ai_Run 165 103 [l0, l1, l2, l3, l4] (.int a :: st) ws = ai_Run 165 105 [l0, l1, l2, l3, .int a] st ws := R_istore hc_165 dL_begun_103 (Nat.le_of_ble_eq_true rfl) rfl rfl
theorem r_165_105 (l0 l1 l2 l3 : Value) (a : Int32) (st : List Value) (ws : ai_W) : ai_Run 165 105 [l0, l1, l2, l3, .int a] st ws = ai_Run 165 107 [l0, l1, l2, l3, .int a] (.int a :: st) ws := R_iload hc_165 dL_begun_105 rfl rfl
theorem r_165_107 (ls st : List Value) (ws : ai_W) : ai_Run 165 107 ls st ws = ai_Run 165 108 ls (.int 3 :: st) ws := R_iconst hc_165 dL_begun_107 (by decide) rfl
theorem r_165_108 (ls st : List Value) (a b : Int32) (ws : ai_W) : ai_Run 165 108 ls (.int b :: .int a :: st) ws = if a < b then ai_Run 165 111 ls st ws else ai_Run 165 173 ls st ws := R_cmp_ge hc_165 dL_begun_108 rfl rfl
theorem r_165_111 (l0 l1 l3 l4 : Value) (a : Int32) (st : List Value) (ws : ai_W) : ai_Run 165 111 [l0, l1, .int a, l3, l4] st ws = ai_Run 165 112 [l0, l1, .int a, l3, l4] (.int a :: st) ws := R_iload_n hc_165 dL_begun_111 rfl rfl
theorem r_165_112 (l0 l2 l3 l4 : Value) (a : Nat) (st : List Value) (ws : ai_W) : ai_Run 165 112 [l0, .ref a, l2, l3, l4] st ws = ai_Run 165 113 [l0, .ref a, l2, l3, l4] (.ref a :: st) ws := R_aload_n hc_165 dL_begun_112 rfl rfl
theorem rx_165_112 (l0 l2 l3 l4 : Value) {a : Nat} (hq : ¬ a = 23) (st : List Value) (ws : ai_W) : ai_Run 165 112 [l0, .retAddr a, l2, l3, l4] st ws = ai_Run 165 113 [l0, .retAddr a, l2, l3, l4] (.retAddr a :: st) ws := R_aload_nX hq hc_165 dL_begun_112 rfl rfl
theorem r_165_113 (ls : List Value) (r : Value) (s0 : Value) (ws : ai_W) : ai_Run 165 113 ls [r, s0] ws = (ai_Call 52 [r] ws).bind fun q => ai_Run 165 116 ls (q.1.toList ++ [s0]) q.2 := R_callV hc_165 dL_begun_113 hv_165 (w := 691) rfl (ai_lt3 hf_52 hf_165 hL_52 ho_52 ho_165 rfl) hk_52 (by rw [hn_52]; rfl) rfl (Nat.le_of_ble_eq_true rfl) rfl
theorem r_165_116 (ls st : List Value) (a b : Int32) (ws : ai_W) : ai_Run 165 116 ls (.int b :: .int a :: st) ws = ai_Run 165 117 ls (.int (a + b) :: st) ws := R_iadd hc_165 dL_begun_116 rfl
theorem r_165_117 (l0 l1 l2 l3 l4 : Value) (a : Int32) (st : List Value) (ws : ai_W) : ai_Run 165 117 [l0, l1, l2, l3, l4] (.int a :: st) ws = ai_Run 165 118 [l0, l1, .int a, l3, l4] st ws := R_istore_n hc_165 dL_begun_117 (Nat.le_of_ble_eq_true rfl) rfl rfl
theorem r_165_118 (l0 l1 l3 l4 : Value) (a : Int32) (st : List Value) (ws : ai_W) : ai_Run 165 118 [l0, l1, .int a, l3, l4] st ws = ai_Run 165 119 [l0, l1, .int a, l3, l4] (.int a :: st) ws := R_iload_n hc_165 dL_begun_118 rfl rfl
theorem r_165_119 (l1 l2 l3 l4 : Value) (a : Nat) (st : List Value) (ws : ai_W) : ai_Run 165 119 [.ref a, l1, l2, l3, l4] st ws = ai_Run 165 120 [.ref a, l1, l2, l3, l4] (.ref a :: st) ws := R_aload_n hc_165 dL_begun_119 rfl rfl
theorem rx_165_119 (l1 l2 l3 l4 : Value) {a : Nat} (hq : ¬ a = 23) (st : List Value) (ws : ai_W) : ai_Run 165 119 [.retAddr a, l1, l2, l3, l4] st ws = ai_Run 165 120 [.retAddr a, l1, l2, l3, l4] (.retAddr a :: st) ws := R_aload_nX hq hc_165 dL_begun_119 rfl rfl
theorem r_165_120 (ls st : List Value) (ws : ai_W) : ai_Run 165 120 ls st ws = ai_Run 165 122 ls (.int 16 :: st) ws := R_bipush hc_165 dL_begun_120 (by decide) rfl
theorem r_165_122 (l0 l1 l2 l3 : Value) (a : Int32) (st : List Value) (ws : ai_W) : ai_Run 165 122 [l0, l1, l2, l3, .int a] st ws = ai_Run 165 124 [l0, l1, l2, l3, .int a] (.int a :: st) ws := R_iload hc_165 dL_begun_122 rfl rfl
theorem r_165_124 (ls st : List Value) (a b : Int32) (ws : ai_W) : ai_Run 165 124 ls (.int b :: .int a :: st) ws = ai_Run 165 125 ls (.int (a + b) :: st) ws := R_iadd hc_165 dL_begun_124 rfl
theorem r_165_125 (ls st : List Value) (ws : ai_W) : ai_Run 165 125 ls st ws = ai_Run 165 126 ls (.int 2 :: st) ws := R_iconst hc_165 dL_begun_125 (by decide) rfl
theorem r_165_126 (ls : List Value) (b0 : Value) (b1 : Int32) (b2 : Int32) (s0 : Value) (ws : ai_W) : ai_Run 165 126 ls [.int b2, .int b1, b0, s0] ws = (ai_Call 164 [b0, .int b1, .int b2] ws).bind fun q => ai_Run 165 129 ls (q.1.toList ++ [s0]) q.2 := R_callS hc_165 dL_begun_126 hv_165 (w := 421) rfl (ai_lt3 hf_164 hf_165 hL_164 ho_164 ho_165 rfl) hk_164 (by rw [hn_164]; rfl) rfl (Nat.le_of_ble_eq_true rfl) rfl
theorem r_165_129 (ls st : List Value) (a : Int32) (ws : ai_W) : ai_Run 165 129 ls (.int a :: st) ws = if a = 0 then ai_Run 165 132 ls st ws else ai_Run 165 142 ls st ws := R_if_ne hc_165 dL_begun_129 rfl rfl
theorem r_165_132 (l0 l2 l3 l4 : Value) (a : Nat) (st : List Value) (ws : ai_W) : ai_Run 165 132 [l0, .ref a, l2, l3, l4] st ws = ai_Run 165 133 [l0, .ref a, l2, l3, l4] (.ref a :: st) ws := R_aload_n hc_165 dL_begun_132 rfl rfl
theorem rx_165_132 (l0 l2 l3 l4 : Value) {a : Nat} (hq : ¬ a = 23) (st : List Value) (ws : ai_W) : ai_Run 165 132 [l0, .retAddr a, l2, l3, l4] st ws = ai_Run 165 133 [l0, .retAddr a, l2, l3, l4] (.retAddr a :: st) ws := R_aload_nX hq hc_165 dL_begun_132 rfl rfl
theorem r_165_133 (l0 l1 l2 l3 : Value) (a : Int32) (st : List Value) (ws : ai_W) : ai_Run 165 133 [l0, l1, l2, l3, .int a] st ws = ai_Run 165 135 [l0, l1, l2, l3, .int a] (.int a :: st) ws := R_iload hc_165 dL_begun_133 rfl rfl
theorem r_165_135 (ls st : List Value) (ws : ai_W) : ai_Run 165 135 ls st ws = ai_Run 165 136 ls (.int 1 :: st) ws := R_iconst hc_165 dL_begun_135 (by decide) rfl
theorem r_165_136 (ls : List Value) (r : Value) (b0 : Int32) (b1 : Int32) (s0 : Value) (ws : ai_W) : ai_Run 165 136 ls [.int b1, .int b0, r, s0] ws = (ai_Call 150 [r, .int b0, .int b1] ws).bind fun q => ai_Run 165 139 ls (q.1.toList ++ [s0]) q.2 := R_callV hc_165 dL_begun_136 hv_165 (w := 149) rfl (ai_lt3 hf_150 hf_165 hL_150 ho_150 ho_165 rfl) hk_150 (by rw [hn_150]; rfl) rfl (Nat.le_of_ble_eq_true rfl) rfl
theorem r_165_139 (ls st : List Value) (ws : ai_W) : ai_Run 165 139 ls st ws = ai_Run 165 143 ls st ws := R_goto hc_165 dL_begun_139 rfl
theorem r_165_142 (ls st : List Value) (ws : ai_W) : ai_Run 165 142 ls st ws = ai_Run 165 143 ls (.int 0 :: st) ws := R_iconst hc_165 dL_begun_142 (by decide) rfl
theorem r_165_143 (ls st : List Value) (a b : Int32) (ws : ai_W) : ai_Run 165 143 ls (.int b :: .int a :: st) ws = ai_Run 165 144 ls (.int (a + b) :: st) ws := R_iadd hc_165 dL_begun_143 rfl
theorem r_165_144 (l0 l1 l2 l3 l4 : Value) (a : Int32) (st : List Value) (ws : ai_W) : ai_Run 165 144 [l0, l1, l2, l3, l4] (.int a :: st) ws = ai_Run 165 145 [l0, l1, .int a, l3, l4] st ws := R_istore_n hc_165 dL_begun_144 (Nat.le_of_ble_eq_true rfl) rfl rfl
theorem r_165_145 (l0 l1 l3 l4 : Value) (a : Int32) (st : List Value) (ws : ai_W) : ai_Run 165 145 [l0, l1, .int a, l3, l4] st ws = ai_Run 165 146 [l0, l1, .int a, l3, l4] (.int a :: st) ws := R_iload_n hc_165 dL_begun_145 rfl rfl
theorem r_165_146 (l0 l2 l3 l4 : Value) (a : Nat) (st : List Value) (ws : ai_W) : ai_Run 165 146 [l0, .ref a, l2, l3, l4] st ws = ai_Run 165 147 [l0, .ref a, l2, l3, l4] (.ref a :: st) ws := R_aload_n hc_165 dL_begun_146 rfl rfl
theorem rx_165_146 (l0 l2 l3 l4 : Value) {a : Nat} (hq : ¬ a = 23) (st : List Value) (ws : ai_W) : ai_Run 165 146 [l0, .retAddr a, l2, l3, l4] st ws = ai_Run 165 147 [l0, .retAddr a, l2, l3, l4] (.retAddr a :: st) ws := R_aload_nX hq hc_165 dL_begun_146 rfl rfl
theorem r_165_147 (ls st : List Value) (ws : ai_W) : ai_Run 165 147 ls st ws = ai_Run 165 148 ls (.int 1 :: st) ws := R_iconst hc_165 dL_begun_147 (by decide) rfl
theorem r_165_148 (l1 l2 l3 l4 : Value) (a : Nat) (st : List Value) (ws : ai_W) : ai_Run 165 148 [.ref a, l1, l2, l3, l4] st ws = ai_Run 165 149 [.ref a, l1, l2, l3, l4] (.ref a :: st) ws := R_aload_n hc_165 dL_begun_148 rfl rfl
theorem rx_165_148 (l1 l2 l3 l4 : Value) {a : Nat} (hq : ¬ a = 23) (st : List Value) (ws : ai_W) : ai_Run 165 148 [.retAddr a, l1, l2, l3, l4] st ws = ai_Run 165 149 [.retAddr a, l1, l2, l3, l4] (.retAddr a :: st) ws := R_aload_nX hq hc_165 dL_begun_148 rfl rfl
theorem r_165_149 (ls st : List Value) (ws : ai_W) : ai_Run 165 149 ls st ws = ai_Run 165 151 ls (.int 19 :: st) ws := R_bipush hc_165 dL_begun_149 (by decide) rfl
theorem r_165_151 (l0 l1 l2 l3 : Value) (a : Int32) (st : List Value) (ws : ai_W) : ai_Run 165 151 [l0, l1, l2, l3, .int a] st ws = ai_Run 165 153 [l0, l1, l2, l3, .int a] (.int a :: st) ws := R_iload hc_165 dL_begun_151 rfl rfl
theorem r_165_153 (ls st : List Value) (a b : Int32) (ws : ai_W) : ai_Run 165 153 ls (.int b :: .int a :: st) ws = ai_Run 165 154 ls (.int (a + b) :: st) ws := R_iadd hc_165 dL_begun_153 rfl
theorem r_165_154 (ls st : List Value) (ws : ai_W) : ai_Run 165 154 ls st ws = ai_Run 165 156 ls (.int 12 :: st) ws := R_bipush hc_165 dL_begun_154 (by decide) rfl
theorem r_165_156 (ls : List Value) (b0 : Value) (b1 : Int32) (b2 : Int32) (s0 s1 s2 : Value) (ws : ai_W) : ai_Run 165 156 ls [.int b2, .int b1, b0, s0, s1, s2] ws = (ai_Call 164 [b0, .int b1, .int b2] ws).bind fun q => ai_Run 165 159 ls (q.1.toList ++ [s0, s1, s2]) q.2 := R_callS hc_165 dL_begun_156 hv_165 (w := 421) rfl (ai_lt3 hf_164 hf_165 hL_164 ho_164 ho_165 rfl) hk_164 (by rw [hn_164]; rfl) rfl (Nat.le_of_ble_eq_true rfl) rfl
theorem r_165_159 (ls st : List Value) (a b : Int32) (ws : ai_W) : ai_Run 165 159 ls (.int b :: .int a :: st) ws = ai_Run 165 160 ls (.int (a + b) :: st) ws := R_iadd hc_165 dL_begun_159 rfl
theorem r_165_160 (l0 l1 l2 l3 : Value) (a : Int32) (st : List Value) (ws : ai_W) : ai_Run 165 160 [l0, l1, l2, l3, .int a] st ws = ai_Run 165 162 [l0, l1, l2, l3, .int a] (.int a :: st) ws := R_iload hc_165 dL_begun_160 rfl rfl
theorem r_165_162 (ls : List Value) (r : Value) (b0 : Int32) (b1 : Int32) (s0 : Value) (ws : ai_W) : ai_Run 165 162 ls [.int b1, .int b0, r, s0] ws = (ai_Call 161 [r, .int b0, .int b1] ws).bind fun q => ai_Run 165 165 ls (q.1.toList ++ [s0]) q.2 := R_callV hc_165 dL_begun_162 hv_165 (w := 699) rfl (ai_lt3 hf_161 hf_165 hL_161 ho_161 ho_165 rfl) hk_161 (by rw [hn_161]; rfl) rfl (Nat.le_of_ble_eq_true rfl) rfl
theorem r_165_165 (ls st : List Value) (a b : Int32) (ws : ai_W) : ai_Run 165 165 ls (.int b :: .int a :: st) ws = ai_Run 165 166 ls (.int (a + b) :: st) ws := R_iadd hc_165 dL_begun_165 rfl
theorem r_165_166 (l0 l1 l2 l3 l4 : Value) (a : Int32) (st : List Value) (ws : ai_W) : ai_Run 165 166 [l0, l1, l2, l3, l4] (.int a :: st) ws = ai_Run 165 167 [l0, l1, .int a, l3, l4] st ws := R_istore_n hc_165 dL_begun_166 (Nat.le_of_ble_eq_true rfl) rfl rfl
theorem r_165_167 (l0 l1 l2 l3 : Value) (a : Int32) (st : List Value) (ws : ai_W) : ai_Run 165 167 [l0, l1, l2, l3, .int a] st ws = ai_Run 165 170 [l0, l1, l2, l3, .int (a + 1)] st ws := R_iinc hc_165 dL_begun_167 rfl (by decide) rfl rfl
theorem r_165_170 (ls st : List Value) (ws : ai_W) : ai_Run 165 170 ls st ws = ai_Run 165 105 ls st ws := R_goto hc_165 dL_begun_170 rfl
theorem r_165_173 (ls st : List Value) (ws : ai_W) : ai_Run 165 173 ls st ws = ai_Run 165 174 ls (.int 0 :: st) ws := R_iconst hc_165 dL_begun_173 (by decide) rfl
theorem r_165_174 (l0 l1 l2 l3 l4 : Value) (a : Int32) (st : List Value) (ws : ai_W) : ai_Run 165 174 [l0, l1, l2, l3, l4] (.int a :: st) ws = ai_Run 165 176 [l0, l1, l2, l3, .int a] st ws := R_istore hc_165 dL_begun_174 (Nat.le_of_ble_eq_true rfl) rfl rfl
theorem r_165_176 (l0 l1 l2 l3 : Value) (a : Int32) (st : List Value) (ws : ai_W) : ai_Run 165 176 [l0, l1, l2, l3, .int a] st ws = ai_Run 165 178 [l0, l1, l2, l3, .int a] (.int a :: st) ws := R_iload hc_165 dL_begun_176 rfl rfl
theorem r_165_178 (ls st : List Value) (ws : ai_W) : ai_Run 165 178 ls st ws = ai_Run 165 180 ls (.int 6 :: st) ws := R_bipush hc_165 dL_begun_178 (by decide) rfl
theorem r_165_180 (ls st : List Value) (a b : Int32) (ws : ai_W) : ai_Run 165 180 ls (.int b :: .int a :: st) ws = if a < b then ai_Run 165 183 ls st ws else ai_Run 165 229 ls st ws := R_cmp_ge hc_165 dL_begun_180 rfl rfl
theorem r_165_183 (l0 l1 l3 l4 : Value) (a : Int32) (st : List Value) (ws : ai_W) : ai_Run 165 183 [l0, l1, .int a, l3, l4] st ws = ai_Run 165 184 [l0, l1, .int a, l3, l4] (.int a :: st) ws := R_iload_n hc_165 dL_begun_183 rfl rfl
theorem r_165_184 (l0 l2 l3 l4 : Value) (a : Nat) (st : List Value) (ws : ai_W) : ai_Run 165 184 [l0, .ref a, l2, l3, l4] st ws = ai_Run 165 185 [l0, .ref a, l2, l3, l4] (.ref a :: st) ws := R_aload_n hc_165 dL_begun_184 rfl rfl
theorem rx_165_184 (l0 l2 l3 l4 : Value) {a : Nat} (hq : ¬ a = 23) (st : List Value) (ws : ai_W) : ai_Run 165 184 [l0, .retAddr a, l2, l3, l4] st ws = ai_Run 165 185 [l0, .retAddr a, l2, l3, l4] (.retAddr a :: st) ws := R_aload_nX hq hc_165 dL_begun_184 rfl rfl
theorem r_165_185 (l1 l2 l3 l4 : Value) (a : Nat) (st : List Value) (ws : ai_W) : ai_Run 165 185 [.ref a, l1, l2, l3, l4] st ws = ai_Run 165 186 [.ref a, l1, l2, l3, l4] (.ref a :: st) ws := R_aload_n hc_165 dL_begun_185 rfl rfl
theorem rx_165_185 (l1 l2 l3 l4 : Value) {a : Nat} (hq : ¬ a = 23) (st : List Value) (ws : ai_W) : ai_Run 165 185 [.retAddr a, l1, l2, l3, l4] st ws = ai_Run 165 186 [.retAddr a, l1, l2, l3, l4] (.retAddr a :: st) ws := R_aload_nX hq hc_165 dL_begun_185 rfl rfl
theorem r_165_186 (ls st : List Value) (ws : ai_W) : ai_Run 165 186 ls st ws = ai_Run 165 188 ls (.int 22 :: st) ws := R_bipush hc_165 dL_begun_186 (by decide) rfl
theorem r_165_188 (l0 l1 l2 l3 : Value) (a : Int32) (st : List Value) (ws : ai_W) : ai_Run 165 188 [l0, l1, l2, l3, .int a] st ws = ai_Run 165 190 [l0, l1, l2, l3, .int a] (.int a :: st) ws := R_iload hc_165 dL_begun_188 rfl rfl
theorem r_165_190 (ls st : List Value) (a b : Int32) (ws : ai_W) : ai_Run 165 190 ls (.int b :: .int a :: st) ws = ai_Run 165 191 ls (.int (a + b) :: st) ws := R_iadd hc_165 dL_begun_190 rfl
theorem r_165_191 (l0 l1 l2 l4 : Value) (a : Int32) (st : List Value) (ws : ai_W) : ai_Run 165 191 [l0, l1, l2, .int a, l4] st ws = ai_Run 165 192 [l0, l1, l2, .int a, l4] (.int a :: st) ws := R_iload_n hc_165 dL_begun_191 rfl rfl
theorem r_165_192 (ls : List Value) (b0 : Value) (b1 : Int32) (b2 : Int32) (s0 s1 : Value) (ws : ai_W) : ai_Run 165 192 ls [.int b2, .int b1, b0, s0, s1] ws = (ai_Call 164 [b0, .int b1, .int b2] ws).bind fun q => ai_Run 165 195 ls (q.1.toList ++ [s0, s1]) q.2 := R_callS hc_165 dL_begun_192 hv_165 (w := 421) rfl (ai_lt3 hf_164 hf_165 hL_164 ho_164 ho_165 rfl) hk_164 (by rw [hn_164]; rfl) rfl (Nat.le_of_ble_eq_true rfl) rfl
theorem r_165_195 (l1 l2 l3 l4 : Value) (a : Nat) (st : List Value) (ws : ai_W) : ai_Run 165 195 [.ref a, l1, l2, l3, l4] st ws = ai_Run 165 196 [.ref a, l1, l2, l3, l4] (.ref a :: st) ws := R_aload_n hc_165 dL_begun_195 rfl rfl
theorem rx_165_195 (l1 l2 l3 l4 : Value) {a : Nat} (hq : ¬ a = 23) (st : List Value) (ws : ai_W) : ai_Run 165 195 [.retAddr a, l1, l2, l3, l4] st ws = ai_Run 165 196 [.retAddr a, l1, l2, l3, l4] (.retAddr a :: st) ws := R_aload_nX hq hc_165 dL_begun_195 rfl rfl
theorem r_165_196 (ls st : List Value) (ws : ai_W) : ai_Run 165 196 ls st ws = ai_Run 165 198 ls (.int 28 :: st) ws := R_bipush hc_165 dL_begun_196 (by decide) rfl
theorem r_165_198 (l0 l1 l2 l3 : Value) (a : Int32) (st : List Value) (ws : ai_W) : ai_Run 165 198 [l0, l1, l2, l3, .int a] st ws = ai_Run 165 200 [l0, l1, l2, l3, .int a] (.int a :: st) ws := R_iload hc_165 dL_begun_198 rfl rfl
theorem r_165_200 (ls st : List Value) (a b : Int32) (ws : ai_W) : ai_Run 165 200 ls (.int b :: .int a :: st) ws = ai_Run 165 201 ls (.int (a + b) :: st) ws := R_iadd hc_165 dL_begun_200 rfl
theorem r_165_201 (l0 l1 l2 l4 : Value) (a : Int32) (st : List Value) (ws : ai_W) : ai_Run 165 201 [l0, l1, l2, .int a, l4] st ws = ai_Run 165 202 [l0, l1, l2, .int a, l4] (.int a :: st) ws := R_iload_n hc_165 dL_begun_201 rfl rfl
theorem r_165_202 (ls : List Value) (b0 : Value) (b1 : Int32) (b2 : Int32) (s0 s1 s2 : Value) (ws : ai_W) : ai_Run 165 202 ls [.int b2, .int b1, b0, s0, s1, s2] ws = (ai_Call 164 [b0, .int b1, .int b2] ws).bind fun q => ai_Run 165 205 ls (q.1.toList ++ [s0, s1, s2]) q.2 := R_callS hc_165 dL_begun_202 hv_165 (w := 421) rfl (ai_lt3 hf_164 hf_165 hL_164 ho_164 ho_165 rfl) hk_164 (by rw [hn_164]; rfl) rfl (Nat.le_of_ble_eq_true rfl) rfl
theorem r_165_205 (ls st : List Value) (ws : ai_W) : ai_Run 165 205 ls st ws = ai_Run 165 206 ls (.int 1 :: st) ws := R_iconst hc_165 dL_begun_205 (by decide) rfl
theorem r_165_206 (l1 l2 l3 l4 : Value) (a : Nat) (st : List Value) (ws : ai_W) : ai_Run 165 206 [.ref a, l1, l2, l3, l4] st ws = ai_Run 165 207 [.ref a, l1, l2, l3, l4] (.ref a :: st) ws := R_aload_n hc_165 dL_begun_206 rfl rfl
theorem rx_165_206 (l1 l2 l3 l4 : Value) {a : Nat} (hq : ¬ a = 23) (st : List Value) (ws : ai_W) : ai_Run 165 206 [.retAddr a, l1, l2, l3, l4] st ws = ai_Run 165 207 [.retAddr a, l1, l2, l3, l4] (.retAddr a :: st) ws := R_aload_nX hq hc_165 dL_begun_206 rfl rfl
theorem r_165_207 (ls st : List Value) (ws : ai_W) : ai_Run 165 207 ls st ws = ai_Run 165 209 ls (.int 34 :: st) ws := R_bipush hc_165 dL_begun_207 (by decide) rfl
theorem r_165_209 (l0 l1 l2 l3 : Value) (a : Int32) (st : List Value) (ws : ai_W) : ai_Run 165 209 [l0, l1, l2, l3, .int a] st ws = ai_Run 165 211 [l0, l1, l2, l3, .int a] (.int a :: st) ws := R_iload hc_165 dL_begun_209 rfl rfl
theorem r_165_211 (ls st : List Value) (a b : Int32) (ws : ai_W) : ai_Run 165 211 ls (.int b :: .int a :: st) ws = ai_Run 165 212 ls (.int (a + b) :: st) ws := R_iadd hc_165 dL_begun_211 rfl
theorem r_165_212 (ls st : List Value) (ws : ai_W) : ai_Run 165 212 ls st ws = ai_Run 165 214 ls (.int 9 :: st) ws := R_bipush hc_165 dL_begun_212 (by decide) rfl
theorem r_165_214 (ls : List Value) (b0 : Value) (b1 : Int32) (b2 : Int32) (s0 s1 s2 : Int32) (s3 : Nat) (s4 : Int32) (ws : ai_W) : ai_Run 165 214 ls [.int b2, .int b1, b0, .int s0, .int s1, .int s2, .ref s3, .int s4] ws = (ai_Call 164 [b0, .int b1, .int b2] ws).bind fun q => ai_Run 165 217 ls (q.1.toList ++ [.int s0, .int s1, .int s2, .ref s3, .int s4]) q.2 := R_callS8 hc_165 dL_begun_214 hv_165 (w := 421) rfl (ai_lt3 hf_164 hf_165 hL_164 ho_164 ho_165 rfl) hk_164 (by rw [hn_164]; rfl) rfl (Nat.le_of_ble_eq_true rfl) rfl
theorem r_165_217 (ls st : List Value) (a b : Int32) (ws : ai_W) : ai_Run 165 217 ls (.int b :: .int a :: st) ws = ai_Run 165 218 ls (.int (a + b) :: st) ws := R_iadd hc_165 dL_begun_217 rfl
theorem r_165_218 (ls : List Value) (r : Value) (b0 : Int32) (b1 : Int32) (b2 : Int32) (s0 : Value) (ws : ai_W) : ai_Run 165 218 ls [.int b2, .int b1, .int b0, r, s0] ws = (ai_Call 118 [r, .int b0, .int b1, .int b2] ws).bind fun q => ai_Run 165 221 ls (q.1.toList ++ [s0]) q.2 := R_callV hc_165 dL_begun_218 hv_165 (w := 169) rfl (ai_lt3 hf_118 hf_165 hL_118 ho_118 ho_165 rfl) hk_118 (by rw [hn_118]; rfl) rfl (Nat.le_of_ble_eq_true rfl) rfl
theorem r_165_221 (ls st : List Value) (a b : Int32) (ws : ai_W) : ai_Run 165 221 ls (.int b :: .int a :: st) ws = ai_Run 165 222 ls (.int (a + b) :: st) ws := R_iadd hc_165 dL_begun_221 rfl
theorem r_165_222 (l0 l1 l2 l3 l4 : Value) (a : Int32) (st : List Value) (ws : ai_W) : ai_Run 165 222 [l0, l1, l2, l3, l4] (.int a :: st) ws = ai_Run 165 223 [l0, l1, .int a, l3, l4] st ws := R_istore_n hc_165 dL_begun_222 (Nat.le_of_ble_eq_true rfl) rfl rfl
theorem r_165_223 (l0 l1 l2 l3 : Value) (a : Int32) (st : List Value) (ws : ai_W) : ai_Run 165 223 [l0, l1, l2, l3, .int a] st ws = ai_Run 165 226 [l0, l1, l2, l3, .int (a + 1)] st ws := R_iinc hc_165 dL_begun_223 rfl (by decide) rfl rfl
theorem r_165_226 (ls st : List Value) (ws : ai_W) : ai_Run 165 226 ls st ws = ai_Run 165 176 ls st ws := R_goto hc_165 dL_begun_226 rfl
theorem r_165_229 (ls st : List Value) (ws : ai_W) : ai_Run 165 229 ls st ws = ai_Run 165 230 ls (.int 0 :: st) ws := R_iconst hc_165 dL_begun_229 (by decide) rfl
theorem r_165_230 (l0 l1 l2 l3 l4 : Value) (a : Int32) (st : List Value) (ws : ai_W) : ai_Run 165 230 [l0, l1, l2, l3, l4] (.int a :: st) ws = ai_Run 165 232 [l0, l1, l2, l3, .int a] st ws := R_istore hc_165 dL_begun_230 (Nat.le_of_ble_eq_true rfl) rfl rfl
theorem r_165_232 (l0 l1 l2 l3 : Value) (a : Int32) (st : List Value) (ws : ai_W) : ai_Run 165 232 [l0, l1, l2, l3, .int a] st ws = ai_Run 165 234 [l0, l1, l2, l3, .int a] (.int a :: st) ws := R_iload hc_165 dL_begun_232 rfl rfl
theorem r_165_234 (ls st : List Value) (ws : ai_W) : ai_Run 165 234 ls st ws = ai_Run 165 235 ls (.int 4 :: st) ws := R_iconst hc_165 dL_begun_234 (by decide) rfl
theorem r_165_235 (ls st : List Value) (a b : Int32) (ws : ai_W) : ai_Run 165 235 ls (.int b :: .int a :: st) ws = if a < b then ai_Run 165 238 ls st ws else ai_Run 165 275 ls st ws := R_cmp_ge hc_165 dL_begun_235 rfl rfl
theorem r_165_238 (l0 l1 l3 l4 : Value) (a : Int32) (st : List Value) (ws : ai_W) : ai_Run 165 238 [l0, l1, .int a, l3, l4] st ws = ai_Run 165 239 [l0, l1, .int a, l3, l4] (.int a :: st) ws := R_iload_n hc_165 dL_begun_238 rfl rfl
theorem r_165_239 (l0 l2 l3 l4 : Value) (a : Nat) (st : List Value) (ws : ai_W) : ai_Run 165 239 [l0, .ref a, l2, l3, l4] st ws = ai_Run 165 240 [l0, .ref a, l2, l3, l4] (.ref a :: st) ws := R_aload_n hc_165 dL_begun_239 rfl rfl
theorem rx_165_239 (l0 l2 l3 l4 : Value) {a : Nat} (hq : ¬ a = 23) (st : List Value) (ws : ai_W) : ai_Run 165 239 [l0, .retAddr a, l2, l3, l4] st ws = ai_Run 165 240 [l0, .retAddr a, l2, l3, l4] (.retAddr a :: st) ws := R_aload_nX hq hc_165 dL_begun_239 rfl rfl
theorem r_165_240 (l1 l2 l3 l4 : Value) (a : Nat) (st : List Value) (ws : ai_W) : ai_Run 165 240 [.ref a, l1, l2, l3, l4] st ws = ai_Run 165 241 [.ref a, l1, l2, l3, l4] (.ref a :: st) ws := R_aload_n hc_165 dL_begun_240 rfl rfl
theorem rx_165_240 (l1 l2 l3 l4 : Value) {a : Nat} (hq : ¬ a = 23) (st : List Value) (ws : ai_W) : ai_Run 165 240 [.retAddr a, l1, l2, l3, l4] st ws = ai_Run 165 241 [.retAddr a, l1, l2, l3, l4] (.retAddr a :: st) ws := R_aload_nX hq hc_165 dL_begun_240 rfl rfl
theorem r_165_241 (ls st : List Value) (ws : ai_W) : ai_Run 165 241 ls st ws = ai_Run 165 243 ls (.int 40 :: st) ws := R_bipush hc_165 dL_begun_241 (by decide) rfl
theorem r_165_243 (l0 l1 l2 l3 : Value) (a : Int32) (st : List Value) (ws : ai_W) : ai_Run 165 243 [l0, l1, l2, l3, .int a] st ws = ai_Run 165 245 [l0, l1, l2, l3, .int a] (.int a :: st) ws := R_iload hc_165 dL_begun_243 rfl rfl
theorem r_165_245 (ls st : List Value) (a b : Int32) (ws : ai_W) : ai_Run 165 245 ls (.int b :: .int a :: st) ws = ai_Run 165 246 ls (.int (a + b) :: st) ws := R_iadd hc_165 dL_begun_245 rfl
theorem r_165_246 (ls st : List Value) (ws : ai_W) : ai_Run 165 246 ls st ws = ai_Run 165 248 ls (.int 7 :: st) ws := R_bipush hc_165 dL_begun_246 (by decide) rfl
theorem r_165_248 (ls : List Value) (b0 : Value) (b1 : Int32) (b2 : Int32) (s0 s1 : Value) (ws : ai_W) : ai_Run 165 248 ls [.int b2, .int b1, b0, s0, s1] ws = (ai_Call 164 [b0, .int b1, .int b2] ws).bind fun q => ai_Run 165 251 ls (q.1.toList ++ [s0, s1]) q.2 := R_callS hc_165 dL_begun_248 hv_165 (w := 421) rfl (ai_lt3 hf_164 hf_165 hL_164 ho_164 ho_165 rfl) hk_164 (by rw [hn_164]; rfl) rfl (Nat.le_of_ble_eq_true rfl) rfl
theorem r_165_251 (ls st : List Value) (ws : ai_W) : ai_Run 165 251 ls st ws = ai_Run 165 252 ls (.int 1 :: st) ws := R_iconst hc_165 dL_begun_251 (by decide) rfl
theorem r_165_252 (l1 l2 l3 l4 : Value) (a : Nat) (st : List Value) (ws : ai_W) : ai_Run 165 252 [.ref a, l1, l2, l3, l4] st ws = ai_Run 165 253 [.ref a, l1, l2, l3, l4] (.ref a :: st) ws := R_aload_n hc_165 dL_begun_252 rfl rfl
theorem rx_165_252 (l1 l2 l3 l4 : Value) {a : Nat} (hq : ¬ a = 23) (st : List Value) (ws : ai_W) : ai_Run 165 252 [.retAddr a, l1, l2, l3, l4] st ws = ai_Run 165 253 [.retAddr a, l1, l2, l3, l4] (.retAddr a :: st) ws := R_aload_nX hq hc_165 dL_begun_252 rfl rfl
theorem r_165_253 (ls st : List Value) (ws : ai_W) : ai_Run 165 253 ls st ws = ai_Run 165 255 ls (.int 44 :: st) ws := R_bipush hc_165 dL_begun_253 (by decide) rfl
theorem r_165_255 (l0 l1 l2 l3 : Value) (a : Int32) (st : List Value) (ws : ai_W) : ai_Run 165 255 [l0, l1, l2, l3, .int a] st ws = ai_Run 165 257 [l0, l1, l2, l3, .int a] (.int a :: st) ws := R_iload hc_165 dL_begun_255 rfl rfl
theorem r_165_257 (ls st : List Value) (a b : Int32) (ws : ai_W) : ai_Run 165 257 ls (.int b :: .int a :: st) ws = ai_Run 165 258 ls (.int (a + b) :: st) ws := R_iadd hc_165 dL_begun_257 rfl
theorem r_165_258 (ls st : List Value) (ws : ai_W) : ai_Run 165 258 ls st ws = ai_Run 165 260 ls (.int 9 :: st) ws := R_bipush hc_165 dL_begun_258 (by decide) rfl
theorem r_165_260 (ls : List Value) (b0 : Value) (b1 : Int32) (b2 : Int32) (s0 s1 s2 s3 : Value) (ws : ai_W) : ai_Run 165 260 ls [.int b2, .int b1, b0, s0, s1, s2, s3] ws = (ai_Call 164 [b0, .int b1, .int b2] ws).bind fun q => ai_Run 165 263 ls (q.1.toList ++ [s0, s1, s2, s3]) q.2 := R_callS hc_165 dL_begun_260 hv_165 (w := 421) rfl (ai_lt3 hf_164 hf_165 hL_164 ho_164 ho_165 rfl) hk_164 (by rw [hn_164]; rfl) rfl (Nat.le_of_ble_eq_true rfl) rfl
theorem r_165_263 (ls st : List Value) (a b : Int32) (ws : ai_W) : ai_Run 165 263 ls (.int b :: .int a :: st) ws = ai_Run 165 264 ls (.int (a + b) :: st) ws := R_iadd hc_165 dL_begun_263 rfl
theorem r_165_264 (ls : List Value) (r : Value) (b0 : Int32) (b1 : Int32) (s0 : Value) (ws : ai_W) : ai_Run 165 264 ls [.int b1, .int b0, r, s0] ws = (ai_Call 143 [r, .int b0, .int b1] ws).bind fun q => ai_Run 165 267 ls (q.1.toList ++ [s0]) q.2 := R_callV hc_165 dL_begun_264 hv_165 (w := 707) rfl (ai_lt3 hf_143 hf_165 hL_143 ho_143 ho_165 rfl) hk_143 (by rw [hn_143]; rfl) rfl (Nat.le_of_ble_eq_true rfl) rfl
theorem r_165_267 (ls st : List Value) (a b : Int32) (ws : ai_W) : ai_Run 165 267 ls (.int b :: .int a :: st) ws = ai_Run 165 268 ls (.int (a + b) :: st) ws := R_iadd hc_165 dL_begun_267 rfl
theorem r_165_268 (l0 l1 l2 l3 l4 : Value) (a : Int32) (st : List Value) (ws : ai_W) : ai_Run 165 268 [l0, l1, l2, l3, l4] (.int a :: st) ws = ai_Run 165 269 [l0, l1, .int a, l3, l4] st ws := R_istore_n hc_165 dL_begun_268 (Nat.le_of_ble_eq_true rfl) rfl rfl
theorem r_165_269 (l0 l1 l2 l3 : Value) (a : Int32) (st : List Value) (ws : ai_W) : ai_Run 165 269 [l0, l1, l2, l3, .int a] st ws = ai_Run 165 272 [l0, l1, l2, l3, .int (a + 1)] st ws := R_iinc hc_165 dL_begun_269 rfl (by decide) rfl rfl
theorem r_165_272 (ls st : List Value) (ws : ai_W) : ai_Run 165 272 ls st ws = ai_Run 165 232 ls st ws := R_goto hc_165 dL_begun_272 rfl
theorem r_165_275 (l0 l1 l3 l4 : Value) (a : Int32) (st : List Value) (ws : ai_W) : ai_Run 165 275 [l0, l1, .int a, l3, l4] st ws = ai_Run 165 276 [l0, l1, .int a, l3, l4] (.int a :: st) ws := R_iload_n hc_165 dL_begun_275 rfl rfl
theorem r_165_276 (ls st : List Value) (ws : ai_W) : ai_Run 165 276 ls st ws = ai_Run 165 278 ls (.int (-90000) :: st) ws := R_ldci hc_165 dL_begun_276 rfl rfl rfl
theorem r_165_278 (ls st : List Value) (a b : Int32) (ws : ai_W) : ai_Run 165 278 ls (.int b :: .int a :: st) ws = if a < b then ai_Run 165 281 ls st ws else ai_Run 165 285 ls st ws := R_cmp_ge hc_165 dL_begun_278 rfl rfl
theorem r_165_281 (ls st : List Value) (ws : ai_W) : ai_Run 165 281 ls st ws = ai_Run 165 282 ls (.null :: st) ws := R_null hc_165 dL_begun_281 rfl
theorem r_165_282 (ls st : List Value) (ws : ai_W) : ai_Run 165 282 ls st ws = ai_Run 165 286 ls st ws := R_goto hc_165 dL_begun_282 rfl
theorem r_165_285 (l0 l2 l3 l4 : Value) (a : Nat) (st : List Value) (ws : ai_W) : ai_Run 165 285 [l0, .ref a, l2, l3, l4] st ws = ai_Run 165 286 [l0, .ref a, l2, l3, l4] (.ref a :: st) ws := R_aload_n hc_165 dL_begun_285 rfl rfl
theorem rx_165_285 (l0 l2 l3 l4 : Value) {a : Nat} (hq : ¬ a = 23) (st : List Value) (ws : ai_W) : ai_Run 165 285 [l0, .retAddr a, l2, l3, l4] st ws = ai_Run 165 286 [l0, .retAddr a, l2, l3, l4] (.retAddr a :: st) ws := R_aload_nX hq hc_165 dL_begun_285 rfl rfl
theorem r_165_286 (ls : List Value) (a : Nat) (ws : ai_W) : ai_Run 165 286 ls [.ref a] ws = some (some (.ref a), ws) := R_aret hc_165 dL_begun_286 ht_165 rfl
theorem dL_isDead_0 : decode cL_isDead 0 = .ok (.iconst 0, 1) := by decide +kernel
theorem dL_isDead_1 : decode cL_isDead 1 = .ok (.istore_n 3, 1) := by decide +kernel
theorem dL_isDead_2 : decode cL_isDead 2 = .ok (.iload_n 3, 1) := by decide +kernel
theorem dL_isDead_3 : decode cL_isDead 3 = .ok (.aload_n 0, 1) := by decide +kernel
theorem dL_isDead_4 : decode cL_isDead 4 = .ok (.iload_n 1, 1) := by decide +kernel
theorem dL_isDead_5 : decode cL_isDead 5 = .ok (.iconst 0, 1) := by decide +kernel
theorem dL_isDead_6 : decode cL_isDead 6 = .ok (.invokevirtual 138, 3) := by decide +kernel
theorem dL_isDead_9 : decode cL_isDead 9 = .ok (.if_icmp .ge 44, 3) := by decide +kernel
theorem dL_isDead_12 : decode cL_isDead 12 = .ok (.aload_n 0, 1) := by decide +kernel
theorem dL_isDead_13 : decode cL_isDead 13 = .ok (.iload_n 1, 1) := by decide +kernel
theorem dL_isDead_14 : decode cL_isDead 14 = .ok (.iload_n 3, 1) := by decide +kernel
theorem dL_isDead_15 : decode cL_isDead 15 = .ok (.iconst 4, 1) := by decide +kernel
theorem dL_isDead_16 : decode cL_isDead 16 = .ok (.invokevirtual 123, 3) := by decide +kernel
theorem dL_isDead_19 : decode cL_isDead 19 = .ok (.istore 4, 2) := by decide +kernel
theorem dL_isDead_21 : decode cL_isDead 21 = .ok (.aload_n 0, 1) := by decide +kernel
theorem dL_isDead_22 : decode cL_isDead 22 = .ok (.iload_n 1, 1) := by decide +kernel
theorem dL_isDead_23 : decode cL_isDead 23 = .ok (.iload_n 3, 1) := by decide +kernel
theorem dL_isDead_24 : decode cL_isDead 24 = .ok (.iconst 0, 1) := by decide +kernel
theorem dL_isDead_25 : decode cL_isDead 25 = .ok (.invokevirtual 123, 3) := by decide +kernel
theorem dL_isDead_28 : decode cL_isDead 28 = .ok (.iload_n 2, 1) := by decide +kernel
theorem dL_isDead_29 : decode cL_isDead 29 = .ok (.if_icmp .gt 18, 3) := by decide +kernel
theorem dL_isDead_32 : decode cL_isDead 32 = .ok (.iload 4, 2) := by decide +kernel
theorem dL_isDead_34 : decode cL_isDead 34 = .ok (.bipush (-4), 2) := by decide +kernel
theorem dL_isDead_36 : decode cL_isDead 36 = .ok (.if_icmp .eq 9, 3) := by decide +kernel
theorem dL_isDead_39 : decode cL_isDead 39 = .ok (.iload_n 2, 1) := by decide +kernel
theorem dL_isDead_40 : decode cL_isDead 40 = .ok (.iload 4, 2) := by decide +kernel
theorem dL_isDead_42 : decode cL_isDead 42 = .ok (.if_icmp .ge 5, 3) := by decide +kernel
theorem dL_isDead_45 : decode cL_isDead 45 = .ok (.iconst 1, 1) := by decide +kernel
theorem dL_isDead_46 : decode cL_isDead 46 = .ok (.ireturn, 1) := by decide +kernel
theorem dL_isDead_47 : decode cL_isDead 47 = .ok (.iinc 3 1, 3) := by decide +kernel
theorem dL_isDead_50 : decode cL_isDead 50 = .ok (.goto (-48), 3) := by decide +kernel
theorem dL_isDead_53 : decode cL_isDead 53 = .ok (.iconst 0, 1) := by decide +kernel
theorem dL_isDead_54 : decode cL_isDead 54 = .ok (.ireturn, 1) := by decide +kernel
theorem e_166 (a0 : Nat) (a1 : Int32) (a2 : Int32) (ws : ai_W) : ai_Call 166 [.ref a0, .int a1, .int a2] ws = ai_Run 166 0 [.ref a0, .int a1, .int a2, .null, .null] [] ws := R_entS hk_166 ⟨⟨rfl, rfl⟩, Nat.le_of_ble_eq_true rfl⟩ rfl
theorem r_166_0 (ls st : List Value) (ws : ai_W) : ai_Run 166 0 ls st ws = ai_Run 166 1 ls (.int 0 :: st) ws := R_iconst hc_166 dL_isDead_0 (by decide) rfl
theorem r_166_1 (l0 l1 l2 l3 l4 : Value) (a : Int32) (st : List Value) (ws : ai_W) : ai_Run 166 1 [l0, l1, l2, l3, l4] (.int a :: st) ws = ai_Run 166 2 [l0, l1, l2, .int a, l4] st ws := R_istore_n hc_166 dL_isDead_1 (Nat.le_of_ble_eq_true rfl) rfl rfl
theorem r_166_2 (l0 l1 l2 l4 : Value) (a : Int32) (st : List Value) (ws : ai_W) : ai_Run 166 2 [l0, l1, l2, .int a, l4] st ws = ai_Run 166 3 [l0, l1, l2, .int a, l4] (.int a :: st) ws := R_iload_n hc_166 dL_isDead_2 rfl rfl
theorem r_166_3 (l1 l2 l3 l4 : Value) (a : Nat) (st : List Value) (ws : ai_W) : ai_Run 166 3 [.ref a, l1, l2, l3, l4] st ws = ai_Run 166 4 [.ref a, l1, l2, l3, l4] (.ref a :: st) ws := R_aload_n hc_166 dL_isDead_3 rfl rfl
theorem rx_166_3 (l1 l2 l3 l4 : Value) {a : Nat} (hq : ¬ a = 23) (st : List Value) (ws : ai_W) : ai_Run 166 3 [.retAddr a, l1, l2, l3, l4] st ws = ai_Run 166 4 [.retAddr a, l1, l2, l3, l4] (.retAddr a :: st) ws := R_aload_nX hq hc_166 dL_isDead_3 rfl rfl
theorem r_166_4 (l0 l2 l3 l4 : Value) (a : Int32) (st : List Value) (ws : ai_W) : ai_Run 166 4 [l0, .int a, l2, l3, l4] st ws = ai_Run 166 5 [l0, .int a, l2, l3, l4] (.int a :: st) ws := R_iload_n hc_166 dL_isDead_4 rfl rfl
theorem r_166_5 (ls st : List Value) (ws : ai_W) : ai_Run 166 5 ls st ws = ai_Run 166 6 ls (.int 0 :: st) ws := R_iconst hc_166 dL_isDead_5 (by decide) rfl
theorem r_166_6 (ls : List Value) (r : Value) (b0 : Int32) (b1 : Int32) (s0 : Value) (ws : ai_W) : ai_Run 166 6 ls [.int b1, .int b0, r, s0] ws = (ai_Call 98 [r, .int b0, .int b1] ws).bind fun q => ai_Run 166 9 ls (q.1.toList ++ [s0]) q.2 := R_callV hc_166 dL_isDead_6 hv_166 (w := 1174) rfl (ai_lt3 hf_98 hf_166 hL_98 ho_98 ho_166 rfl) hk_98 (by rw [hn_98]; rfl) rfl (Nat.le_of_ble_eq_true rfl) rfl
theorem r_166_9 (ls st : List Value) (a b : Int32) (ws : ai_W) : ai_Run 166 9 ls (.int b :: .int a :: st) ws = if a < b then ai_Run 166 12 ls st ws else ai_Run 166 53 ls st ws := R_cmp_ge hc_166 dL_isDead_9 rfl rfl
theorem r_166_12 (l1 l2 l3 l4 : Value) (a : Nat) (st : List Value) (ws : ai_W) : ai_Run 166 12 [.ref a, l1, l2, l3, l4] st ws = ai_Run 166 13 [.ref a, l1, l2, l3, l4] (.ref a :: st) ws := R_aload_n hc_166 dL_isDead_12 rfl rfl
theorem rx_166_12 (l1 l2 l3 l4 : Value) {a : Nat} (hq : ¬ a = 23) (st : List Value) (ws : ai_W) : ai_Run 166 12 [.retAddr a, l1, l2, l3, l4] st ws = ai_Run 166 13 [.retAddr a, l1, l2, l3, l4] (.retAddr a :: st) ws := R_aload_nX hq hc_166 dL_isDead_12 rfl rfl
theorem r_166_13 (l0 l2 l3 l4 : Value) (a : Int32) (st : List Value) (ws : ai_W) : ai_Run 166 13 [l0, .int a, l2, l3, l4] st ws = ai_Run 166 14 [l0, .int a, l2, l3, l4] (.int a :: st) ws := R_iload_n hc_166 dL_isDead_13 rfl rfl
theorem r_166_14 (l0 l1 l2 l4 : Value) (a : Int32) (st : List Value) (ws : ai_W) : ai_Run 166 14 [l0, l1, l2, .int a, l4] st ws = ai_Run 166 15 [l0, l1, l2, .int a, l4] (.int a :: st) ws := R_iload_n hc_166 dL_isDead_14 rfl rfl
theorem r_166_15 (ls st : List Value) (ws : ai_W) : ai_Run 166 15 ls st ws = ai_Run 166 16 ls (.int 4 :: st) ws := R_iconst hc_166 dL_isDead_15 (by decide) rfl
theorem r_166_16 (ls : List Value) (r : Value) (b0 : Int32) (b1 : Int32) (b2 : Int32) (ws : ai_W) : ai_Run 166 16 ls [.int b2, .int b1, .int b0, r] ws = (ai_Call 108 [r, .int b0, .int b1, .int b2] ws).bind fun q => ai_Run 166 19 ls (q.1.toList ++ []) q.2 := R_callV hc_166 dL_isDead_16 hv_166 (w := 1125) rfl (ai_lt3 hf_108 hf_166 hL_108 ho_108 ho_166 rfl) hk_108 (by rw [hn_108]; rfl) rfl (Nat.le_of_ble_eq_true rfl) rfl
theorem r_166_19 (l0 l1 l2 l3 l4 : Value) (a : Int32) (st : List Value) (ws : ai_W) : ai_Run 166 19 [l0, l1, l2, l3, l4] (.int a :: st) ws = ai_Run 166 21 [l0, l1, l2, l3, .int a] st ws := R_istore hc_166 dL_isDead_19 (Nat.le_of_ble_eq_true rfl) rfl rfl
theorem r_166_21 (l1 l2 l3 l4 : Value) (a : Nat) (st : List Value) (ws : ai_W) : ai_Run 166 21 [.ref a, l1, l2, l3, l4] st ws = ai_Run 166 22 [.ref a, l1, l2, l3, l4] (.ref a :: st) ws := R_aload_n hc_166 dL_isDead_21 rfl rfl
theorem rx_166_21 (l1 l2 l3 l4 : Value) {a : Nat} (hq : ¬ a = 23) (st : List Value) (ws : ai_W) : ai_Run 166 21 [.retAddr a, l1, l2, l3, l4] st ws = ai_Run 166 22 [.retAddr a, l1, l2, l3, l4] (.retAddr a :: st) ws := R_aload_nX hq hc_166 dL_isDead_21 rfl rfl
theorem r_166_22 (l0 l2 l3 l4 : Value) (a : Int32) (st : List Value) (ws : ai_W) : ai_Run 166 22 [l0, .int a, l2, l3, l4] st ws = ai_Run 166 23 [l0, .int a, l2, l3, l4] (.int a :: st) ws := R_iload_n hc_166 dL_isDead_22 rfl rfl
theorem r_166_23 (l0 l1 l2 l4 : Value) (a : Int32) (st : List Value) (ws : ai_W) : ai_Run 166 23 [l0, l1, l2, .int a, l4] st ws = ai_Run 166 24 [l0, l1, l2, .int a, l4] (.int a :: st) ws := R_iload_n hc_166 dL_isDead_23 rfl rfl
theorem r_166_24 (ls st : List Value) (ws : ai_W) : ai_Run 166 24 ls st ws = ai_Run 166 25 ls (.int 0 :: st) ws := R_iconst hc_166 dL_isDead_24 (by decide) rfl
theorem r_166_25 (ls : List Value) (r : Value) (b0 : Int32) (b1 : Int32) (b2 : Int32) (ws : ai_W) : ai_Run 166 25 ls [.int b2, .int b1, .int b0, r] ws = (ai_Call 108 [r, .int b0, .int b1, .int b2] ws).bind fun q => ai_Run 166 28 ls (q.1.toList ++ []) q.2 := R_callV hc_166 dL_isDead_25 hv_166 (w := 1125) rfl (ai_lt3 hf_108 hf_166 hL_108 ho_108 ho_166 rfl) hk_108 (by rw [hn_108]; rfl) rfl (Nat.le_of_ble_eq_true rfl) rfl
theorem r_166_28 (l0 l1 l3 l4 : Value) (a : Int32) (st : List Value) (ws : ai_W) : ai_Run 166 28 [l0, l1, .int a, l3, l4] st ws = ai_Run 166 29 [l0, l1, .int a, l3, l4] (.int a :: st) ws := R_iload_n hc_166 dL_isDead_28 rfl rfl
theorem r_166_29 (ls st : List Value) (a b : Int32) (ws : ai_W) : ai_Run 166 29 ls (.int b :: .int a :: st) ws = if b < a then ai_Run 166 47 ls st ws else ai_Run 166 32 ls st ws := R_cmp_gt hc_166 dL_isDead_29 rfl rfl
theorem r_166_32 (l0 l1 l2 l3 : Value) (a : Int32) (st : List Value) (ws : ai_W) : ai_Run 166 32 [l0, l1, l2, l3, .int a] st ws = ai_Run 166 34 [l0, l1, l2, l3, .int a] (.int a :: st) ws := R_iload hc_166 dL_isDead_32 rfl rfl
theorem r_166_34 (ls st : List Value) (ws : ai_W) : ai_Run 166 34 ls st ws = ai_Run 166 36 ls (.int (-4) :: st) ws := R_bipush hc_166 dL_isDead_34 (by decide) rfl
theorem r_166_36 (ls st : List Value) (a b : Int32) (ws : ai_W) : ai_Run 166 36 ls (.int b :: .int a :: st) ws = if a = b then ai_Run 166 45 ls st ws else ai_Run 166 39 ls st ws := R_cmp_eq hc_166 dL_isDead_36 rfl rfl
theorem r_166_39 (l0 l1 l3 l4 : Value) (a : Int32) (st : List Value) (ws : ai_W) : ai_Run 166 39 [l0, l1, .int a, l3, l4] st ws = ai_Run 166 40 [l0, l1, .int a, l3, l4] (.int a :: st) ws := R_iload_n hc_166 dL_isDead_39 rfl rfl
theorem r_166_40 (l0 l1 l2 l3 : Value) (a : Int32) (st : List Value) (ws : ai_W) : ai_Run 166 40 [l0, l1, l2, l3, .int a] st ws = ai_Run 166 42 [l0, l1, l2, l3, .int a] (.int a :: st) ws := R_iload hc_166 dL_isDead_40 rfl rfl
theorem r_166_42 (ls st : List Value) (a b : Int32) (ws : ai_W) : ai_Run 166 42 ls (.int b :: .int a :: st) ws = if a < b then ai_Run 166 45 ls st ws else ai_Run 166 47 ls st ws := R_cmp_ge hc_166 dL_isDead_42 rfl rfl
theorem r_166_45 (ls st : List Value) (ws : ai_W) : ai_Run 166 45 ls st ws = ai_Run 166 46 ls (.int 1 :: st) ws := R_iconst hc_166 dL_isDead_45 (by decide) rfl
theorem r_166_46 (ls : List Value) (x : Int32) (ws : ai_W) : ai_Run 166 46 ls [.int x] ws = if ai_pb x = true then some (some (.int x), ws) else none := R_zret hc_166 dL_isDead_46 ht_166
theorem r_166_47 (l0 l1 l2 l4 : Value) (a : Int32) (st : List Value) (ws : ai_W) : ai_Run 166 47 [l0, l1, l2, .int a, l4] st ws = ai_Run 166 50 [l0, l1, l2, .int (a + 1), l4] st ws := R_iinc hc_166 dL_isDead_47 rfl (by decide) rfl rfl
theorem r_166_50 (ls st : List Value) (ws : ai_W) : ai_Run 166 50 ls st ws = ai_Run 166 2 ls st ws := R_goto hc_166 dL_isDead_50 rfl
theorem r_166_53 (ls st : List Value) (ws : ai_W) : ai_Run 166 53 ls st ws = ai_Run 166 54 ls (.int 0 :: st) ws := R_iconst hc_166 dL_isDead_53 (by decide) rfl
theorem r_166_54 (ls : List Value) (x : Int32) (ws : ai_W) : ai_Run 166 54 ls [.int x] ws = if ai_pb x = true then some (some (.int x), ws) else none := R_zret hc_166 dL_isDead_54 ht_166
theorem dL_could_0 : decode cL_could 0 = .ok (.aload_n 0, 1) := by decide +kernel
theorem dL_could_1 : decode cL_could 1 = .ok (.iload_n 1, 1) := by decide +kernel
theorem dL_could_2 : decode cL_could 2 = .ok (.iload_n 2, 1) := by decide +kernel
theorem dL_could_3 : decode cL_could 3 = .ok (.invokevirtual 126, 3) := by decide +kernel
theorem dL_could_6 : decode cL_could 6 = .ok (.ifCond .le 24, 3) := by decide +kernel
theorem dL_could_9 : decode cL_could 9 = .ok (.aload_n 0, 1) := by decide +kernel
theorem dL_could_10 : decode cL_could 10 = .ok (.iload_n 1, 1) := by decide +kernel
theorem dL_could_11 : decode cL_could 11 = .ok (.aload_n 0, 1) := by decide +kernel
theorem dL_could_12 : decode cL_could 12 = .ok (.iload_n 2, 1) := by decide +kernel
theorem dL_could_13 : decode cL_could 13 = .ok (.iload_n 3, 1) := by decide +kernel
theorem dL_could_14 : decode cL_could 14 = .ok (.iconst 0, 1) := by decide +kernel
theorem dL_could_15 : decode cL_could 15 = .ok (.invokevirtual 123, 3) := by decide +kernel
theorem dL_could_18 : decode cL_could 18 = .ok (.iconst 1, 1) := by decide +kernel
theorem dL_could_19 : decode cL_could 19 = .ok (.isub, 1) := by decide +kernel
theorem dL_could_20 : decode cL_could 20 = .ok (.invokestatic 141, 3) := by decide +kernel
theorem dL_could_23 : decode cL_could 23 = .ok (.ifCond .ne 7, 3) := by decide +kernel
theorem dL_could_26 : decode cL_could 26 = .ok (.iconst 1, 1) := by decide +kernel
theorem dL_could_27 : decode cL_could 27 = .ok (.goto 4, 3) := by decide +kernel
theorem dL_could_30 : decode cL_could 30 = .ok (.iconst 0, 1) := by decide +kernel
theorem dL_could_31 : decode cL_could 31 = .ok (.ireturn, 1) := by decide +kernel
theorem e_167 (a0 : Nat) (a1 : Int32) (a2 : Int32) (a3 : Int32) (ws : ai_W) : ai_Call 167 [.ref a0, .int a1, .int a2, .int a3] ws = ai_Run 167 0 [.ref a0, .int a1, .int a2, .int a3] [] ws := R_entS hk_167 ⟨⟨rfl, rfl⟩, Nat.le_of_ble_eq_true rfl⟩ rfl
theorem r_167_0 (l1 l2 l3 : Value) (a : Nat) (st : List Value) (ws : ai_W) : ai_Run 167 0 [.ref a, l1, l2, l3] st ws = ai_Run 167 1 [.ref a, l1, l2, l3] (.ref a :: st) ws := R_aload_n hc_167 dL_could_0 rfl rfl
theorem rx_167_0 (l1 l2 l3 : Value) {a : Nat} (hq : ¬ a = 23) (st : List Value) (ws : ai_W) : ai_Run 167 0 [.retAddr a, l1, l2, l3] st ws = ai_Run 167 1 [.retAddr a, l1, l2, l3] (.retAddr a :: st) ws := R_aload_nX hq hc_167 dL_could_0 rfl rfl
theorem r_167_1 (l0 l2 l3 : Value) (a : Int32) (st : List Value) (ws : ai_W) : ai_Run 167 1 [l0, .int a, l2, l3] st ws = ai_Run 167 2 [l0, .int a, l2, l3] (.int a :: st) ws := R_iload_n hc_167 dL_could_1 rfl rfl
theorem r_167_2 (l0 l1 l3 : Value) (a : Int32) (st : List Value) (ws : ai_W) : ai_Run 167 2 [l0, l1, .int a, l3] st ws = ai_Run 167 3 [l0, l1, .int a, l3] (.int a :: st) ws := R_iload_n hc_167 dL_could_2 rfl rfl
theorem r_167_3 (ls : List Value) (r : Value) (b0 : Int32) (b1 : Int32) (ws : ai_W) : ai_Run 167 3 ls [.int b1, .int b0, r] ws = (ai_Call 119 [r, .int b0, .int b1] ws).bind fun q => ai_Run 167 6 ls (q.1.toList ++ []) q.2 := R_callV hc_167 dL_could_3 hv_167 (w := 1136) rfl (ai_lt3 hf_119 hf_167 hL_119 ho_119 ho_167 rfl) hk_119 (by rw [hn_119]; rfl) rfl (Nat.le_of_ble_eq_true rfl) rfl
theorem r_167_6 (ls st : List Value) (a : Int32) (ws : ai_W) : ai_Run 167 6 ls (.int a :: st) ws = if 0 < a then ai_Run 167 9 ls st ws else ai_Run 167 30 ls st ws := R_if_le hc_167 dL_could_6 rfl rfl
theorem r_167_9 (l1 l2 l3 : Value) (a : Nat) (st : List Value) (ws : ai_W) : ai_Run 167 9 [.ref a, l1, l2, l3] st ws = ai_Run 167 10 [.ref a, l1, l2, l3] (.ref a :: st) ws := R_aload_n hc_167 dL_could_9 rfl rfl
theorem rx_167_9 (l1 l2 l3 : Value) {a : Nat} (hq : ¬ a = 23) (st : List Value) (ws : ai_W) : ai_Run 167 9 [.retAddr a, l1, l2, l3] st ws = ai_Run 167 10 [.retAddr a, l1, l2, l3] (.retAddr a :: st) ws := R_aload_nX hq hc_167 dL_could_9 rfl rfl
theorem r_167_10 (l0 l2 l3 : Value) (a : Int32) (st : List Value) (ws : ai_W) : ai_Run 167 10 [l0, .int a, l2, l3] st ws = ai_Run 167 11 [l0, .int a, l2, l3] (.int a :: st) ws := R_iload_n hc_167 dL_could_10 rfl rfl
theorem r_167_11 (l1 l2 l3 : Value) (a : Nat) (st : List Value) (ws : ai_W) : ai_Run 167 11 [.ref a, l1, l2, l3] st ws = ai_Run 167 12 [.ref a, l1, l2, l3] (.ref a :: st) ws := R_aload_n hc_167 dL_could_11 rfl rfl
theorem rx_167_11 (l1 l2 l3 : Value) {a : Nat} (hq : ¬ a = 23) (st : List Value) (ws : ai_W) : ai_Run 167 11 [.retAddr a, l1, l2, l3] st ws = ai_Run 167 12 [.retAddr a, l1, l2, l3] (.retAddr a :: st) ws := R_aload_nX hq hc_167 dL_could_11 rfl rfl
theorem r_167_12 (l0 l1 l3 : Value) (a : Int32) (st : List Value) (ws : ai_W) : ai_Run 167 12 [l0, l1, .int a, l3] st ws = ai_Run 167 13 [l0, l1, .int a, l3] (.int a :: st) ws := R_iload_n hc_167 dL_could_12 rfl rfl
theorem r_167_13 (l0 l1 l2 : Value) (a : Int32) (st : List Value) (ws : ai_W) : ai_Run 167 13 [l0, l1, l2, .int a] st ws = ai_Run 167 14 [l0, l1, l2, .int a] (.int a :: st) ws := R_iload_n hc_167 dL_could_13 rfl rfl
theorem r_167_14 (ls st : List Value) (ws : ai_W) : ai_Run 167 14 ls st ws = ai_Run 167 15 ls (.int 0 :: st) ws := R_iconst hc_167 dL_could_14 (by decide) rfl
theorem r_167_15 (ls : List Value) (r : Value) (b0 : Int32) (b1 : Int32) (b2 : Int32) (s0 s1 : Value) (ws : ai_W) : ai_Run 167 15 ls [.int b2, .int b1, .int b0, r, s0, s1] ws = (ai_Call 108 [r, .int b0, .int b1, .int b2] ws).bind fun q => ai_Run 167 18 ls (q.1.toList ++ [s0, s1]) q.2 := R_callV hc_167 dL_could_15 hv_167 (w := 1125) rfl (ai_lt3 hf_108 hf_167 hL_108 ho_108 ho_167 rfl) hk_108 (by rw [hn_108]; rfl) rfl (Nat.le_of_ble_eq_true rfl) rfl
theorem r_167_18 (ls st : List Value) (ws : ai_W) : ai_Run 167 18 ls st ws = ai_Run 167 19 ls (.int 1 :: st) ws := R_iconst hc_167 dL_could_18 (by decide) rfl
theorem r_167_19 (ls st : List Value) (a b : Int32) (ws : ai_W) : ai_Run 167 19 ls (.int b :: .int a :: st) ws = ai_Run 167 20 ls (.int (a - b) :: st) ws := R_isub hc_167 dL_could_19 rfl
theorem r_167_20 (ls : List Value) (b0 : Value) (b1 : Int32) (b2 : Int32) (ws : ai_W) : ai_Run 167 20 ls [.int b2, .int b1, b0] ws = (ai_Call 166 [b0, .int b1, .int b2] ws).bind fun q => ai_Run 167 23 ls (q.1.toList ++ []) q.2 := R_callS hc_167 dL_could_20 hv_167 (w := 1171) rfl (ai_lt3 hf_166 hf_167 hL_166 ho_166 ho_167 rfl) hk_166 (by rw [hn_166]; rfl) rfl (Nat.le_of_ble_eq_true rfl) rfl
theorem r_167_23 (ls st : List Value) (a : Int32) (ws : ai_W) : ai_Run 167 23 ls (.int a :: st) ws = if a = 0 then ai_Run 167 26 ls st ws else ai_Run 167 30 ls st ws := R_if_ne hc_167 dL_could_23 rfl rfl
theorem r_167_26 (ls st : List Value) (ws : ai_W) : ai_Run 167 26 ls st ws = ai_Run 167 27 ls (.int 1 :: st) ws := R_iconst hc_167 dL_could_26 (by decide) rfl
theorem r_167_27 (ls st : List Value) (ws : ai_W) : ai_Run 167 27 ls st ws = ai_Run 167 31 ls st ws := R_goto hc_167 dL_could_27 rfl
theorem r_167_30 (ls st : List Value) (ws : ai_W) : ai_Run 167 30 ls st ws = ai_Run 167 31 ls (.int 0 :: st) ws := R_iconst hc_167 dL_could_30 (by decide) rfl
theorem r_167_31 (ls : List Value) (x : Int32) (ws : ai_W) : ai_Run 167 31 ls [.int x] ws = if ai_pb x = true then some (some (.int x), ws) else none := R_zret hc_167 dL_could_31 ht_167
theorem dL_reads_0 : decode cL_reads 0 = .ok (.iconst 0, 1) := by decide +kernel
theorem dL_reads_1 : decode cL_reads 1 = .ok (.istore_n 2, 1) := by decide +kernel
theorem dL_reads_2 : decode cL_reads 2 = .ok (.iconst 0, 1) := by decide +kernel
theorem dL_reads_3 : decode cL_reads 3 = .ok (.istore_n 3, 1) := by decide +kernel
theorem dL_reads_4 : decode cL_reads 4 = .ok (.iload_n 3, 1) := by decide +kernel
theorem dL_reads_5 : decode cL_reads 5 = .ok (.aload_n 1, 1) := by decide +kernel
theorem dL_reads_6 : decode cL_reads 6 = .ok (.invokevirtual 16, 3) := by decide +kernel
theorem dL_reads_9 : decode cL_reads 9 = .ok (.if_icmp .ge 21, 3) := by decide +kernel
theorem dL_reads_12 : decode cL_reads 12 = .ok (.iload_n 2, 1) := by decide +kernel
theorem dL_reads_13 : decode cL_reads 13 = .ok (.aload_n 0, 1) := by decide +kernel
theorem dL_reads_14 : decode cL_reads 14 = .ok (.aload_n 1, 1) := by decide +kernel
theorem dL_reads_15 : decode cL_reads 15 = .ok (.iload_n 3, 1) := by decide +kernel
theorem dL_reads_16 : decode cL_reads 16 = .ok (.invokevirtual 22, 3) := by decide +kernel
theorem dL_reads_19 : decode cL_reads 19 = .ok (.invokevirtual 26, 3) := by decide +kernel
theorem dL_reads_22 : decode cL_reads 22 = .ok (.iadd, 1) := by decide +kernel
theorem dL_reads_23 : decode cL_reads 23 = .ok (.istore_n 2, 1) := by decide +kernel
theorem dL_reads_24 : decode cL_reads 24 = .ok (.iinc 3 1, 3) := by decide +kernel
theorem dL_reads_27 : decode cL_reads 27 = .ok (.goto (-23), 3) := by decide +kernel
theorem dL_reads_30 : decode cL_reads 30 = .ok (.iload_n 2, 1) := by decide +kernel
theorem dL_reads_31 : decode cL_reads 31 = .ok (.ifCond .ge 8, 3) := by decide +kernel
theorem dL_reads_34 : decode cL_reads 34 = .ok (.ldc 32, 2) := by decide +kernel
theorem dL_reads_36 : decode cL_reads 36 = .ok (.goto 7, 3) := by decide +kernel
theorem dL_reads_39 : decode cL_reads 39 = .ok (.aload_n 0, 1) := by decide +kernel
theorem dL_reads_40 : decode cL_reads 40 = .ok (.invokevirtual 33, 3) := by decide +kernel
theorem dL_reads_43 : decode cL_reads 43 = .ok (.ireturn, 1) := by decide +kernel
theorem e_197 (a0 : Nat) (a1 : Nat) (ws : ai_W) : ai_Call 197 [.ref a0, .ref a1] ws = ai_Run 197 0 [.ref a0, .ref a1, .null, .null] [] ws := R_entS hk_197 ⟨⟨rfl, rfl⟩, Nat.le_of_ble_eq_true rfl⟩ rfl
theorem r_197_0 (ls st : List Value) (ws : ai_W) : ai_Run 197 0 ls st ws = ai_Run 197 1 ls (.int 0 :: st) ws := R_iconst hc_197 dL_reads_0 (by decide) rfl
theorem r_197_1 (l0 l1 l2 l3 : Value) (a : Int32) (st : List Value) (ws : ai_W) : ai_Run 197 1 [l0, l1, l2, l3] (.int a :: st) ws = ai_Run 197 2 [l0, l1, .int a, l3] st ws := R_istore_n hc_197 dL_reads_1 (Nat.le_of_ble_eq_true rfl) rfl rfl
theorem r_197_2 (ls st : List Value) (ws : ai_W) : ai_Run 197 2 ls st ws = ai_Run 197 3 ls (.int 0 :: st) ws := R_iconst hc_197 dL_reads_2 (by decide) rfl
theorem r_197_3 (l0 l1 l2 l3 : Value) (a : Int32) (st : List Value) (ws : ai_W) : ai_Run 197 3 [l0, l1, l2, l3] (.int a :: st) ws = ai_Run 197 4 [l0, l1, l2, .int a] st ws := R_istore_n hc_197 dL_reads_3 (Nat.le_of_ble_eq_true rfl) rfl rfl
theorem r_197_4 (l0 l1 l2 : Value) (a : Int32) (st : List Value) (ws : ai_W) : ai_Run 197 4 [l0, l1, l2, .int a] st ws = ai_Run 197 5 [l0, l1, l2, .int a] (.int a :: st) ws := R_iload_n hc_197 dL_reads_4 rfl rfl
theorem r_197_5 (l0 l2 l3 : Value) (a : Nat) (st : List Value) (ws : ai_W) : ai_Run 197 5 [l0, .ref a, l2, l3] st ws = ai_Run 197 6 [l0, .ref a, l2, l3] (.ref a :: st) ws := R_aload_n hc_197 dL_reads_5 rfl rfl
theorem rx_197_5 (l0 l2 l3 : Value) {a : Nat} (hq : ¬ a = 23) (st : List Value) (ws : ai_W) : ai_Run 197 5 [l0, .retAddr a, l2, l3] st ws = ai_Run 197 6 [l0, .retAddr a, l2, l3] (.retAddr a :: st) ws := R_aload_nX hq hc_197 dL_reads_5 rfl rfl
theorem r_197_6 (ls : List Value) (r : Value) (s0 : Value) (ws : ai_W) : ai_Run 197 6 ls [r, s0] ws = (ai_Call 171 [r] ws).bind fun q => ai_Run 197 9 ls (q.1.toList ++ [s0]) q.2 := R_callV hc_197 dL_reads_6 hv_197 (w := 999) rfl (ai_lt3 hf_171 hf_197 hL_171 ho_171 ho_197 rfl) hk_171 (by rw [hn_171]; rfl) rfl (Nat.le_of_ble_eq_true rfl) rfl
theorem r_197_9 (ls st : List Value) (a b : Int32) (ws : ai_W) : ai_Run 197 9 ls (.int b :: .int a :: st) ws = if a < b then ai_Run 197 12 ls st ws else ai_Run 197 30 ls st ws := R_cmp_ge hc_197 dL_reads_9 rfl rfl
theorem r_197_12 (l0 l1 l3 : Value) (a : Int32) (st : List Value) (ws : ai_W) : ai_Run 197 12 [l0, l1, .int a, l3] st ws = ai_Run 197 13 [l0, l1, .int a, l3] (.int a :: st) ws := R_iload_n hc_197 dL_reads_12 rfl rfl
theorem r_197_13 (l1 l2 l3 : Value) (a : Nat) (st : List Value) (ws : ai_W) : ai_Run 197 13 [.ref a, l1, l2, l3] st ws = ai_Run 197 14 [.ref a, l1, l2, l3] (.ref a :: st) ws := R_aload_n hc_197 dL_reads_13 rfl rfl
theorem rx_197_13 (l1 l2 l3 : Value) {a : Nat} (hq : ¬ a = 23) (st : List Value) (ws : ai_W) : ai_Run 197 13 [.retAddr a, l1, l2, l3] st ws = ai_Run 197 14 [.retAddr a, l1, l2, l3] (.retAddr a :: st) ws := R_aload_nX hq hc_197 dL_reads_13 rfl rfl
theorem r_197_14 (l0 l2 l3 : Value) (a : Nat) (st : List Value) (ws : ai_W) : ai_Run 197 14 [l0, .ref a, l2, l3] st ws = ai_Run 197 15 [l0, .ref a, l2, l3] (.ref a :: st) ws := R_aload_n hc_197 dL_reads_14 rfl rfl
theorem rx_197_14 (l0 l2 l3 : Value) {a : Nat} (hq : ¬ a = 23) (st : List Value) (ws : ai_W) : ai_Run 197 14 [l0, .retAddr a, l2, l3] st ws = ai_Run 197 15 [l0, .retAddr a, l2, l3] (.retAddr a :: st) ws := R_aload_nX hq hc_197 dL_reads_14 rfl rfl
theorem r_197_15 (l0 l1 l2 : Value) (a : Int32) (st : List Value) (ws : ai_W) : ai_Run 197 15 [l0, l1, l2, .int a] st ws = ai_Run 197 16 [l0, l1, l2, .int a] (.int a :: st) ws := R_iload_n hc_197 dL_reads_15 rfl rfl
theorem r_197_16 (ls : List Value) (r : Value) (b0 : Int32) (s0 s1 : Value) (ws : ai_W) : ai_Run 197 16 ls [.int b0, r, s0, s1] ws = (ai_Call 196 [r, .int b0] ws).bind fun q => ai_Run 197 19 ls (q.1.toList ++ [s0, s1]) q.2 := R_callV hc_197 dL_reads_16 hv_197 (w := 1000) rfl (ai_lt3 hf_196 hf_197 hL_196 ho_196 ho_197 rfl) hk_196 (by rw [hn_196]; rfl) rfl (Nat.le_of_ble_eq_true rfl) rfl
theorem r_197_19 (ls : List Value) (r : Value) (b0 : Int32) (s0 : Value) (ws : ai_W) : ai_Run 197 19 ls [.int b0, r, s0] ws = (ai_Call 39 [r, .int b0] ws).bind fun q => ai_Run 197 22 ls (q.1.toList ++ [s0]) q.2 := R_callV hc_197 dL_reads_19 hv_197 (w := 1024) rfl (ai_lt3 hf_39 hf_197 hL_39 ho_39 ho_197 rfl) hk_39 (by rw [hn_39]; rfl) rfl (Nat.le_of_ble_eq_true rfl) rfl
theorem r_197_22 (ls st : List Value) (a b : Int32) (ws : ai_W) : ai_Run 197 22 ls (.int b :: .int a :: st) ws = ai_Run 197 23 ls (.int (a + b) :: st) ws := R_iadd hc_197 dL_reads_22 rfl
theorem r_197_23 (l0 l1 l2 l3 : Value) (a : Int32) (st : List Value) (ws : ai_W) : ai_Run 197 23 [l0, l1, l2, l3] (.int a :: st) ws = ai_Run 197 24 [l0, l1, .int a, l3] st ws := R_istore_n hc_197 dL_reads_23 (Nat.le_of_ble_eq_true rfl) rfl rfl
theorem r_197_24 (l0 l1 l2 : Value) (a : Int32) (st : List Value) (ws : ai_W) : ai_Run 197 24 [l0, l1, l2, .int a] st ws = ai_Run 197 27 [l0, l1, l2, .int (a + 1)] st ws := R_iinc hc_197 dL_reads_24 rfl (by decide) rfl rfl
theorem r_197_27 (ls st : List Value) (ws : ai_W) : ai_Run 197 27 ls st ws = ai_Run 197 4 ls st ws := R_goto hc_197 dL_reads_27 rfl
theorem r_197_30 (l0 l1 l3 : Value) (a : Int32) (st : List Value) (ws : ai_W) : ai_Run 197 30 [l0, l1, .int a, l3] st ws = ai_Run 197 31 [l0, l1, .int a, l3] (.int a :: st) ws := R_iload_n hc_197 dL_reads_30 rfl rfl
theorem r_197_31 (ls st : List Value) (a : Int32) (ws : ai_W) : ai_Run 197 31 ls (.int a :: st) ws = if a < 0 then ai_Run 197 34 ls st ws else ai_Run 197 39 ls st ws := R_if_ge hc_197 dL_reads_31 rfl rfl
theorem r_197_34 (ls st : List Value) (ws : ai_W) : ai_Run 197 34 ls st ws = ai_Run 197 36 ls (.int (-99999) :: st) ws := R_ldci hc_197 dL_reads_34 rfl rfl rfl
theorem r_197_36 (ls st : List Value) (ws : ai_W) : ai_Run 197 36 ls st ws = ai_Run 197 43 ls st ws := R_goto hc_197 dL_reads_36 rfl
theorem r_197_39 (l1 l2 l3 : Value) (a : Nat) (st : List Value) (ws : ai_W) : ai_Run 197 39 [.ref a, l1, l2, l3] st ws = ai_Run 197 40 [.ref a, l1, l2, l3] (.ref a :: st) ws := R_aload_n hc_197 dL_reads_39 rfl rfl
theorem rx_197_39 (l1 l2 l3 : Value) {a : Nat} (hq : ¬ a = 23) (st : List Value) (ws : ai_W) : ai_Run 197 39 [.retAddr a, l1, l2, l3] st ws = ai_Run 197 40 [.retAddr a, l1, l2, l3] (.retAddr a :: st) ws := R_aload_nX hq hc_197 dL_reads_39 rfl rfl
theorem r_197_40 (ls : List Value) (r : Value) (ws : ai_W) : ai_Run 197 40 ls [r] ws = (ai_Call 137 [r] ws).bind fun q => ai_Run 197 43 ls (q.1.toList ++ []) q.2 := R_callV hc_197 dL_reads_40 hv_197 (w := 1034) rfl (ai_lt3 hf_137 hf_197 hL_137 ho_137 ho_197 rfl) hk_137 (by rw [hn_137]; rfl) rfl (Nat.le_of_ble_eq_true rfl) rfl
theorem r_197_43 (ls : List Value) (x : Int32) (ws : ai_W) : ai_Run 197 43 ls [.int x] ws = some (some (.int x), ws) := R_iret hc_197 dL_reads_43 ht_197
theorem dL_does_0 : decode cL_does 0 = .ok (.aload_n 1, 1) := by decide +kernel
theorem dL_does_1 : decode cL_does 1 = .ok (.iload_n 2, 1) := by decide +kernel
theorem dL_does_2 : decode cL_does 2 = .ok (.iconst 1, 1) := by decide +kernel
theorem dL_does_3 : decode cL_does 3 = .ok (.iadd, 1) := by decide +kernel
theorem dL_does_4 : decode cL_does 4 = .ok (.bipush 6, 2) := by decide +kernel
theorem dL_does_6 : decode cL_does 6 = .ok (.invokestatic 37, 3) := by decide +kernel
theorem dL_does_9 : decode cL_does 9 = .ok (.istore_n 3, 1) := by decide +kernel
theorem dL_does_10 : decode cL_does 10 = .ok (.aload_n 1, 1) := by decide +kernel
theorem dL_does_11 : decode cL_does 11 = .ok (.iload_n 2, 1) := by decide +kernel
theorem dL_does_12 : decode cL_does 12 = .ok (.iconst 2, 1) := by decide +kernel
theorem dL_does_13 : decode cL_does 13 = .ok (.iadd, 1) := by decide +kernel
theorem dL_does_14 : decode cL_does 14 = .ok (.bipush 6, 2) := by decide +kernel
theorem dL_does_16 : decode cL_does 16 = .ok (.invokestatic 37, 3) := by decide +kernel
theorem dL_does_19 : decode cL_does 19 = .ok (.istore 4, 2) := by decide +kernel
theorem dL_does_21 : decode cL_does 21 = .ok (.aload_n 1, 1) := by decide +kernel
theorem dL_does_22 : decode cL_does 22 = .ok (.iload_n 2, 1) := by decide +kernel
theorem dL_does_23 : decode cL_does 23 = .ok (.iconst 3, 1) := by decide +kernel
theorem dL_does_24 : decode cL_does 24 = .ok (.iadd, 1) := by decide +kernel
theorem dL_does_25 : decode cL_does 25 = .ok (.bipush 32, 2) := by decide +kernel
theorem dL_does_27 : decode cL_does 27 = .ok (.invokestatic 37, 3) := by decide +kernel
theorem dL_does_30 : decode cL_does 30 = .ok (.istore 5, 2) := by decide +kernel
theorem dL_does_32 : decode cL_does 32 = .ok (.aload_n 1, 1) := by decide +kernel
theorem dL_does_33 : decode cL_does 33 = .ok (.iload_n 2, 1) := by decide +kernel
theorem dL_does_34 : decode cL_does 34 = .ok (.bipush 26, 2) := by decide +kernel
theorem dL_does_36 : decode cL_does 36 = .ok (.invokestatic 37, 3) := by decide +kernel
theorem dL_does_39 : decode cL_does 39 = .ok (.tableswitch 201 0 21 #[101, 106, 111, 111, 119, 119, 119, 127, 127, 133, 133, 142, 142, 153, 153, 153, 166, 180, 189, 189, 189, 189], 101) := by decide +kernel
theorem dL_does_140 : decode cL_does 140 = .ok (.aload_n 0, 1) := by decide +kernel
theorem dL_does_141 : decode cL_does 141 = .ok (.invokevirtual 41, 3) := by decide +kernel
theorem dL_does_144 : decode cL_does 144 = .ok (.ireturn, 1) := by decide +kernel
theorem dL_does_145 : decode cL_does 145 = .ok (.aload_n 0, 1) := by decide +kernel
theorem dL_does_146 : decode cL_does 146 = .ok (.invokevirtual 51, 3) := by decide +kernel
theorem dL_does_149 : decode cL_does 149 = .ok (.ireturn, 1) := by decide +kernel
theorem dL_does_150 : decode cL_does 150 = .ok (.aload_n 0, 1) := by decide +kernel
theorem dL_does_151 : decode cL_does 151 = .ok (.iload_n 3, 1) := by decide +kernel
theorem dL_does_152 : decode cL_does 152 = .ok (.iload 5, 2) := by decide +kernel
theorem dL_does_154 : decode cL_does 154 = .ok (.invokevirtual 44, 3) := by decide +kernel
theorem dL_does_157 : decode cL_does 157 = .ok (.ireturn, 1) := by decide +kernel
theorem dL_does_158 : decode cL_does 158 = .ok (.aload_n 0, 1) := by decide +kernel
theorem dL_does_159 : decode cL_does 159 = .ok (.iload_n 3, 1) := by decide +kernel
theorem dL_does_160 : decode cL_does 160 = .ok (.iload 5, 2) := by decide +kernel
theorem dL_does_162 : decode cL_does 162 = .ok (.invokevirtual 48, 3) := by decide +kernel
theorem dL_does_165 : decode cL_does 165 = .ok (.ireturn, 1) := by decide +kernel
theorem dL_does_166 : decode cL_does 166 = .ok (.aload_n 0, 1) := by decide +kernel
theorem dL_does_167 : decode cL_does 167 = .ok (.iload_n 3, 1) := by decide +kernel
theorem dL_does_168 : decode cL_does 168 = .ok (.invokevirtual 68, 3) := by decide +kernel
theorem dL_does_171 : decode cL_does 171 = .ok (.ireturn, 1) := by decide +kernel
theorem dL_does_172 : decode cL_does 172 = .ok (.aload_n 0, 1) := by decide +kernel
theorem dL_does_173 : decode cL_does 173 = .ok (.iload 5, 2) := by decide +kernel
theorem dL_does_175 : decode cL_does 175 = .ok (.iload 4, 2) := by decide +kernel
theorem dL_does_177 : decode cL_does 177 = .ok (.invokevirtual 57, 3) := by decide +kernel
theorem dL_does_180 : decode cL_does 180 = .ok (.ireturn, 1) := by decide +kernel
theorem dL_does_181 : decode cL_does 181 = .ok (.aload_n 0, 1) := by decide +kernel
theorem dL_does_182 : decode cL_does 182 = .ok (.iload 4, 2) := by decide +kernel
theorem dL_does_184 : decode cL_does 184 = .ok (.iload 5, 2) := by decide +kernel
theorem dL_does_186 : decode cL_does 186 = .ok (.iconst 3, 1) := by decide +kernel
theorem dL_does_187 : decode cL_does 187 = .ok (.irem, 1) := by decide +kernel
theorem dL_does_188 : decode cL_does 188 = .ok (.invokevirtual 54, 3) := by decide +kernel
theorem dL_does_191 : decode cL_does 191 = .ok (.ireturn, 1) := by decide +kernel
theorem dL_does_192 : decode cL_does 192 = .ok (.aload_n 0, 1) := by decide +kernel
theorem dL_does_193 : decode cL_does 193 = .ok (.iload_n 3, 1) := by decide +kernel
theorem dL_does_194 : decode cL_does 194 = .ok (.iload 4, 2) := by decide +kernel
theorem dL_does_196 : decode cL_does 196 = .ok (.iload 5, 2) := by decide +kernel
theorem dL_does_198 : decode cL_does 198 = .ok (.bipush 11, 2) := by decide +kernel
theorem dL_does_200 : decode cL_does 200 = .ok (.irem, 1) := by decide +kernel
theorem dL_does_201 : decode cL_does 201 = .ok (.invokevirtual 60, 3) := by decide +kernel
theorem dL_does_204 : decode cL_does 204 = .ok (.ireturn, 1) := by decide +kernel
theorem dL_does_205 : decode cL_does 205 = .ok (.aload_n 0, 1) := by decide +kernel
theorem dL_does_206 : decode cL_does 206 = .ok (.iload_n 3, 1) := by decide +kernel
theorem dL_does_207 : decode cL_does 207 = .ok (.iload 4, 2) := by decide +kernel
theorem dL_does_209 : decode cL_does 209 = .ok (.iadd, 1) := by decide +kernel
theorem dL_does_210 : decode cL_does 210 = .ok (.iload 5, 2) := by decide +kernel
theorem dL_does_212 : decode cL_does 212 = .ok (.bipush 11, 2) := by decide +kernel
theorem dL_does_214 : decode cL_does 214 = .ok (.irem, 1) := by decide +kernel
theorem dL_does_215 : decode cL_does 215 = .ok (.invokevirtual 64, 3) := by decide +kernel
theorem dL_does_218 : decode cL_does 218 = .ok (.ireturn, 1) := by decide +kernel
theorem dL_does_219 : decode cL_does 219 = .ok (.aload_n 0, 1) := by decide +kernel
theorem dL_does_220 : decode cL_does 220 = .ok (.iload_n 3, 1) := by decide +kernel
theorem dL_does_221 : decode cL_does 221 = .ok (.iload 4, 2) := by decide +kernel
theorem dL_does_223 : decode cL_does 223 = .ok (.iadd, 1) := by decide +kernel
theorem dL_does_224 : decode cL_does 224 = .ok (.invokevirtual 71, 3) := by decide +kernel
theorem dL_does_227 : decode cL_does 227 = .ok (.ireturn, 1) := by decide +kernel
theorem dL_does_228 : decode cL_does 228 = .ok (.aload_n 0, 1) := by decide +kernel
theorem dL_does_229 : decode cL_does 229 = .ok (.iload_n 3, 1) := by decide +kernel
theorem dL_does_230 : decode cL_does 230 = .ok (.iload 4, 2) := by decide +kernel
theorem dL_does_232 : decode cL_does 232 = .ok (.iload 5, 2) := by decide +kernel
theorem dL_does_234 : decode cL_does 234 = .ok (.iconst 3, 1) := by decide +kernel
theorem dL_does_235 : decode cL_does 235 = .ok (.irem, 1) := by decide +kernel
theorem dL_does_236 : decode cL_does 236 = .ok (.invokevirtual 74, 3) := by decide +kernel
theorem dL_does_239 : decode cL_does 239 = .ok (.ireturn, 1) := by decide +kernel
theorem dL_does_240 : decode cL_does 240 = .ok (.aload_n 0, 1) := by decide +kernel
theorem dL_does_241 : decode cL_does 241 = .ok (.new 77, 3) := by decide +kernel
theorem dL_does_244 : decode cL_does 244 = .ok (.dup, 1) := by decide +kernel
theorem dL_does_245 : decode cL_does 245 = .ok (.invokespecial 79, 3) := by decide +kernel
theorem dL_does_248 : decode cL_does 248 = .ok (.ldc 80, 2) := by decide +kernel
theorem dL_does_250 : decode cL_does 250 = .ok (.invokevirtual 82, 3) := by decide +kernel
theorem dL_does_253 : decode cL_does 253 = .ok (.iload_n 3, 1) := by decide +kernel
theorem dL_does_254 : decode cL_does 254 = .ok (.invokevirtual 85, 3) := by decide +kernel
theorem dL_does_257 : decode cL_does 257 = .ok (.iload 4, 2) := by decide +kernel
theorem dL_does_259 : decode cL_does 259 = .ok (.invokevirtual 85, 3) := by decide +kernel
theorem dL_does_262 : decode cL_does 262 = .ok (.ldc 88, 2) := by decide +kernel
theorem dL_does_264 : decode cL_does 264 = .ok (.invokevirtual 82, 3) := by decide +kernel
theorem dL_does_267 : decode cL_does 267 = .ok (.iload 5, 2) := by decide +kernel
theorem dL_does_269 : decode cL_does 269 = .ok (.bipush 10, 2) := by decide +kernel
theorem dL_does_271 : decode cL_does 271 = .ok (.irem, 1) := by decide +kernel
theorem dL_does_272 : decode cL_does 272 = .ok (.invokevirtual 85, 3) := by decide +kernel
theorem dL_does_275 : decode cL_does 275 = .ok (.iload 5, 2) := by decide +kernel
theorem dL_does_277 : decode cL_does 277 = .ok (.iconst 3, 1) := by decide +kernel
theorem dL_does_278 : decode cL_does 278 = .ok (.irem, 1) := by decide +kernel
theorem dL_does_279 : decode cL_does 279 = .ok (.ifCond .ne 35, 3) := by decide +kernel
theorem dL_does_282 : decode cL_does 282 = .ok (.new 77, 3) := by decide +kernel
theorem dL_does_285 : decode cL_does 285 = .ok (.dup, 1) := by decide +kernel
theorem dL_does_286 : decode cL_does 286 = .ok (.invokespecial 79, 3) := by decide +kernel
theorem dL_does_289 : decode cL_does 289 = .ok (.ldc 90, 2) := by decide +kernel
theorem dL_does_291 : decode cL_does 291 = .ok (.invokevirtual 82, 3) := by decide +kernel
theorem dL_does_294 : decode cL_does 294 = .ok (.iload_n 3, 1) := by decide +kernel
theorem dL_does_295 : decode cL_does 295 = .ok (.invokevirtual 85, 3) := by decide +kernel
theorem dL_does_298 : decode cL_does 298 = .ok (.iload 4, 2) := by decide +kernel
theorem dL_does_300 : decode cL_does 300 = .ok (.invokevirtual 85, 3) := by decide +kernel
theorem dL_does_303 : decode cL_does 303 = .ok (.ldc 92, 2) := by decide +kernel
theorem dL_does_305 : decode cL_does 305 = .ok (.invokevirtual 82, 3) := by decide +kernel
theorem dL_does_308 : decode cL_does 308 = .ok (.invokevirtual 94, 3) := by decide +kernel
theorem dL_does_311 : decode cL_does 311 = .ok (.goto 128, 3) := by decide +kernel
theorem dL_does_314 : decode cL_does 314 = .ok (.iload 5, 2) := by decide +kernel
theorem dL_does_316 : decode cL_does 316 = .ok (.iconst 3, 1) := by decide +kernel
theorem dL_does_317 : decode cL_does 317 = .ok (.irem, 1) := by decide +kernel
theorem dL_does_318 : decode cL_does 318 = .ok (.iconst 1, 1) := by decide +kernel
theorem dL_does_319 : decode cL_does 319 = .ok (.if_icmp .ne 46, 3) := by decide +kernel
theorem dL_does_322 : decode cL_does 322 = .ok (.new 77, 3) := by decide +kernel
theorem dL_does_325 : decode cL_does 325 = .ok (.dup, 1) := by decide +kernel
theorem dL_does_326 : decode cL_does 326 = .ok (.invokespecial 79, 3) := by decide +kernel
theorem dL_does_329 : decode cL_does 329 = .ok (.ldc 98, 2) := by decide +kernel
theorem dL_does_331 : decode cL_does 331 = .ok (.invokevirtual 82, 3) := by decide +kernel
theorem dL_does_334 : decode cL_does 334 = .ok (.iload 4, 2) := by decide +kernel
theorem dL_does_336 : decode cL_does 336 = .ok (.invokevirtual 85, 3) := by decide +kernel
theorem dL_does_339 : decode cL_does 339 = .ok (.ldc 100, 2) := by decide +kernel
theorem dL_does_341 : decode cL_does 341 = .ok (.invokevirtual 82, 3) := by decide +kernel
theorem dL_does_344 : decode cL_does 344 = .ok (.iload 4, 2) := by decide +kernel
theorem dL_does_346 : decode cL_does 346 = .ok (.invokevirtual 85, 3) := by decide +kernel
theorem dL_does_349 : decode cL_does 349 = .ok (.ldc 102, 2) := by decide +kernel
theorem dL_does_351 : decode cL_does 351 = .ok (.invokevirtual 82, 3) := by decide +kernel
theorem dL_does_354 : decode cL_does 354 = .ok (.iload 5, 2) := by decide +kernel
theorem dL_does_356 : decode cL_does 356 = .ok (.invokevirtual 85, 3) := by decide +kernel
theorem dL_does_359 : decode cL_does 359 = .ok (.invokevirtual 94, 3) := by decide +kernel
theorem dL_does_362 : decode cL_does 362 = .ok (.goto 77, 3) := by decide +kernel
theorem dL_does_365 : decode cL_does 365 = .ok (.new 77, 3) := by decide +kernel
theorem dL_does_368 : decode cL_does 368 = .ok (.dup, 1) := by decide +kernel
theorem dL_does_369 : decode cL_does 369 = .ok (.invokespecial 79, 3) := by decide +kernel
theorem dL_does_372 : decode cL_does 372 = .ok (.ldc 104, 2) := by decide +kernel
theorem dL_does_374 : decode cL_does 374 = .ok (.invokevirtual 82, 3) := by decide +kernel
theorem dL_does_377 : decode cL_does 377 = .ok (.iload 5, 2) := by decide +kernel
theorem dL_does_379 : decode cL_does 379 = .ok (.invokevirtual 85, 3) := by decide +kernel
theorem dL_does_382 : decode cL_does 382 = .ok (.ldc 102, 2) := by decide +kernel
theorem dL_does_384 : decode cL_does 384 = .ok (.invokevirtual 82, 3) := by decide +kernel
theorem dL_does_387 : decode cL_does 387 = .ok (.iload 4, 2) := by decide +kernel
theorem dL_does_389 : decode cL_does 389 = .ok (.invokevirtual 85, 3) := by decide +kernel
theorem dL_does_392 : decode cL_does 392 = .ok (.ldc 106, 2) := by decide +kernel
theorem dL_does_394 : decode cL_does 394 = .ok (.invokevirtual 82, 3) := by decide +kernel
theorem dL_does_397 : decode cL_does 397 = .ok (.iload_n 3, 1) := by decide +kernel
theorem dL_does_398 : decode cL_does 398 = .ok (.invokevirtual 85, 3) := by decide +kernel
theorem dL_does_401 : decode cL_does 401 = .ok (.iload 5, 2) := by decide +kernel
theorem dL_does_403 : decode cL_does 403 = .ok (.iconst 2, 1) := by decide +kernel
theorem dL_does_404 : decode cL_does 404 = .ok (.irem, 1) := by decide +kernel
theorem dL_does_405 : decode cL_does 405 = .ok (.ifCond .ne 8, 3) := by decide +kernel
theorem dL_does_408 : decode cL_does 408 = .ok (.ldc 108, 2) := by decide +kernel
theorem dL_does_410 : decode cL_does 410 = .ok (.goto 23, 3) := by decide +kernel
theorem dL_does_413 : decode cL_does 413 = .ok (.new 77, 3) := by decide +kernel
theorem dL_does_416 : decode cL_does 416 = .ok (.dup, 1) := by decide +kernel
theorem dL_does_417 : decode cL_does 417 = .ok (.invokespecial 79, 3) := by decide +kernel
theorem dL_does_420 : decode cL_does 420 = .ok (.ldc 88, 2) := by decide +kernel
theorem dL_does_422 : decode cL_does 422 = .ok (.invokevirtual 82, 3) := by decide +kernel
theorem dL_does_425 : decode cL_does 425 = .ok (.iload 4, 2) := by decide +kernel
theorem dL_does_427 : decode cL_does 427 = .ok (.invokevirtual 85, 3) := by decide +kernel
theorem dL_does_430 : decode cL_does 430 = .ok (.invokevirtual 94, 3) := by decide +kernel
theorem dL_does_433 : decode cL_does 433 = .ok (.invokevirtual 82, 3) := by decide +kernel
theorem dL_does_436 : decode cL_does 436 = .ok (.invokevirtual 94, 3) := by decide +kernel
theorem dL_does_439 : decode cL_does 439 = .ok (.invokevirtual 82, 3) := by decide +kernel
theorem dL_does_442 : decode cL_does 442 = .ok (.invokevirtual 94, 3) := by decide +kernel
theorem dL_does_445 : decode cL_does 445 = .ok (.invokestatic 110, 3) := by decide +kernel
theorem dL_does_448 : decode cL_does 448 = .ok (.ireturn, 1) := by decide +kernel
theorem e_198 (a0 : Nat) (a1 : Nat) (a2 : Int32) (ws : ai_W) : ai_Call 198 [.ref a0, .ref a1, .int a2] ws = ai_Run 198 0 [.ref a0, .ref a1, .int a2, .null, .null, .null] [] ws := R_entS hk_198 ⟨⟨rfl, rfl⟩, Nat.le_of_ble_eq_true rfl⟩ rfl
theorem ex_198 (a0 : Nat) (a1 : Nat) (a2 : Int32) (ws : ai_W) : ai_Call 198 [.ref a0, .retAddr a1, .int a2] ws = ai_Run 198 0 [.ref a0, .retAddr a1, .int a2, .null, .null, .null] [] ws := R_entS hk_198 ⟨⟨rfl, rfl⟩, Nat.le_of_ble_eq_true rfl⟩ rfl
theorem r_198_0 (l0 l2 l3 l4 l5 : Value) (a : Nat) (st : List Value) (ws : ai_W) : ai_Run 198 0 [l0, .ref a, l2, l3, l4, l5] st ws = ai_Run 198 1 [l0, .ref a, l2, l3, l4, l5] (.ref a :: st) ws := R_aload_n hc_198 dL_does_0 rfl rfl
theorem rx_198_0 (l0 l2 l3 l4 l5 : Value) {a : Nat} (hq : ¬ a = 23) (st : List Value) (ws : ai_W) : ai_Run 198 0 [l0, .retAddr a, l2, l3, l4, l5] st ws = ai_Run 198 1 [l0, .retAddr a, l2, l3, l4, l5] (.retAddr a :: st) ws := R_aload_nX hq hc_198 dL_does_0 rfl rfl
theorem r_198_1 (l0 l1 l3 l4 l5 : Value) (a : Int32) (st : List Value) (ws : ai_W) : ai_Run 198 1 [l0, l1, .int a, l3, l4, l5] st ws = ai_Run 198 2 [l0, l1, .int a, l3, l4, l5] (.int a :: st) ws := R_iload_n hc_198 dL_does_1 rfl rfl
theorem r_198_2 (ls st : List Value) (ws : ai_W) : ai_Run 198 2 ls st ws = ai_Run 198 3 ls (.int 1 :: st) ws := R_iconst hc_198 dL_does_2 (by decide) rfl
theorem r_198_3 (ls st : List Value) (a b : Int32) (ws : ai_W) : ai_Run 198 3 ls (.int b :: .int a :: st) ws = ai_Run 198 4 ls (.int (a + b) :: st) ws := R_iadd hc_198 dL_does_3 rfl
theorem r_198_4 (ls st : List Value) (ws : ai_W) : ai_Run 198 4 ls st ws = ai_Run 198 6 ls (.int 6 :: st) ws := R_bipush hc_198 dL_does_4 (by decide) rfl
theorem r_198_6 (ls : List Value) (b0 : Value) (b1 : Int32) (b2 : Int32) (ws : ai_W) : ai_Run 198 6 ls [.int b2, .int b1, b0] ws = (ai_Call 164 [b0, .int b1, .int b2] ws).bind fun q => ai_Run 198 9 ls (q.1.toList ++ []) q.2 := R_callS hc_198 dL_does_6 hv_198 (w := 421) rfl (ai_lt3 hf_164 hf_198 hL_164 ho_164 ho_198 rfl) hk_164 (by rw [hn_164]; rfl) rfl (Nat.le_of_ble_eq_true rfl) rfl
theorem r_198_9 (l0 l1 l2 l3 l4 l5 : Value) (a : Int32) (st : List Value) (ws : ai_W) : ai_Run 198 9 [l0, l1, l2, l3, l4, l5] (.int a :: st) ws = ai_Run 198 10 [l0, l1, l2, .int a, l4, l5] st ws := R_istore_n hc_198 dL_does_9 (Nat.le_of_ble_eq_true rfl) rfl rfl
theorem r_198_10 (l0 l2 l3 l4 l5 : Value) (a : Nat) (st : List Value) (ws : ai_W) : ai_Run 198 10 [l0, .ref a, l2, l3, l4, l5] st ws = ai_Run 198 11 [l0, .ref a, l2, l3, l4, l5] (.ref a :: st) ws := R_aload_n hc_198 dL_does_10 rfl rfl
theorem rx_198_10 (l0 l2 l3 l4 l5 : Value) {a : Nat} (hq : ¬ a = 23) (st : List Value) (ws : ai_W) : ai_Run 198 10 [l0, .retAddr a, l2, l3, l4, l5] st ws = ai_Run 198 11 [l0, .retAddr a, l2, l3, l4, l5] (.retAddr a :: st) ws := R_aload_nX hq hc_198 dL_does_10 rfl rfl
theorem r_198_11 (l0 l1 l3 l4 l5 : Value) (a : Int32) (st : List Value) (ws : ai_W) : ai_Run 198 11 [l0, l1, .int a, l3, l4, l5] st ws = ai_Run 198 12 [l0, l1, .int a, l3, l4, l5] (.int a :: st) ws := R_iload_n hc_198 dL_does_11 rfl rfl
theorem r_198_12 (ls st : List Value) (ws : ai_W) : ai_Run 198 12 ls st ws = ai_Run 198 13 ls (.int 2 :: st) ws := R_iconst hc_198 dL_does_12 (by decide) rfl
theorem r_198_13 (ls st : List Value) (a b : Int32) (ws : ai_W) : ai_Run 198 13 ls (.int b :: .int a :: st) ws = ai_Run 198 14 ls (.int (a + b) :: st) ws := R_iadd hc_198 dL_does_13 rfl
theorem r_198_14 (ls st : List Value) (ws : ai_W) : ai_Run 198 14 ls st ws = ai_Run 198 16 ls (.int 6 :: st) ws := R_bipush hc_198 dL_does_14 (by decide) rfl
theorem r_198_16 (ls : List Value) (b0 : Value) (b1 : Int32) (b2 : Int32) (ws : ai_W) : ai_Run 198 16 ls [.int b2, .int b1, b0] ws = (ai_Call 164 [b0, .int b1, .int b2] ws).bind fun q => ai_Run 198 19 ls (q.1.toList ++ []) q.2 := R_callS hc_198 dL_does_16 hv_198 (w := 421) rfl (ai_lt3 hf_164 hf_198 hL_164 ho_164 ho_198 rfl) hk_164 (by rw [hn_164]; rfl) rfl (Nat.le_of_ble_eq_true rfl) rfl
theorem r_198_19 (l0 l1 l2 l3 l4 l5 : Value) (a : Int32) (st : List Value) (ws : ai_W) : ai_Run 198 19 [l0, l1, l2, l3, l4, l5] (.int a :: st) ws = ai_Run 198 21 [l0, l1, l2, l3, .int a, l5] st ws := R_istore hc_198 dL_does_19 (Nat.le_of_ble_eq_true rfl) rfl rfl
theorem r_198_21 (l0 l2 l3 l4 l5 : Value) (a : Nat) (st : List Value) (ws : ai_W) : ai_Run 198 21 [l0, .ref a, l2, l3, l4, l5] st ws = ai_Run 198 22 [l0, .ref a, l2, l3, l4, l5] (.ref a :: st) ws := R_aload_n hc_198 dL_does_21 rfl rfl
theorem rx_198_21 (l0 l2 l3 l4 l5 : Value) {a : Nat} (hq : ¬ a = 23) (st : List Value) (ws : ai_W) : ai_Run 198 21 [l0, .retAddr a, l2, l3, l4, l5] st ws = ai_Run 198 22 [l0, .retAddr a, l2, l3, l4, l5] (.retAddr a :: st) ws := R_aload_nX hq hc_198 dL_does_21 rfl rfl
theorem r_198_22 (l0 l1 l3 l4 l5 : Value) (a : Int32) (st : List Value) (ws : ai_W) : ai_Run 198 22 [l0, l1, .int a, l3, l4, l5] st ws = ai_Run 198 23 [l0, l1, .int a, l3, l4, l5] (.int a :: st) ws := R_iload_n hc_198 dL_does_22 rfl rfl
theorem r_198_23 (ls st : List Value) (ws : ai_W) : ai_Run 198 23 ls st ws = ai_Run 198 24 ls (.int 3 :: st) ws := R_iconst hc_198 dL_does_23 (by decide) rfl
theorem r_198_24 (ls st : List Value) (a b : Int32) (ws : ai_W) : ai_Run 198 24 ls (.int b :: .int a :: st) ws = ai_Run 198 25 ls (.int (a + b) :: st) ws := R_iadd hc_198 dL_does_24 rfl
theorem r_198_25 (ls st : List Value) (ws : ai_W) : ai_Run 198 25 ls st ws = ai_Run 198 27 ls (.int 32 :: st) ws := R_bipush hc_198 dL_does_25 (by decide) rfl
theorem r_198_27 (ls : List Value) (b0 : Value) (b1 : Int32) (b2 : Int32) (ws : ai_W) : ai_Run 198 27 ls [.int b2, .int b1, b0] ws = (ai_Call 164 [b0, .int b1, .int b2] ws).bind fun q => ai_Run 198 30 ls (q.1.toList ++ []) q.2 := R_callS hc_198 dL_does_27 hv_198 (w := 421) rfl (ai_lt3 hf_164 hf_198 hL_164 ho_164 ho_198 rfl) hk_164 (by rw [hn_164]; rfl) rfl (Nat.le_of_ble_eq_true rfl) rfl
theorem r_198_30 (l0 l1 l2 l3 l4 l5 : Value) (a : Int32) (st : List Value) (ws : ai_W) : ai_Run 198 30 [l0, l1, l2, l3, l4, l5] (.int a :: st) ws = ai_Run 198 32 [l0, l1, l2, l3, l4, .int a] st ws := R_istore hc_198 dL_does_30 (Nat.le_of_ble_eq_true rfl) rfl rfl
theorem r_198_32 (l0 l2 l3 l4 l5 : Value) (a : Nat) (st : List Value) (ws : ai_W) : ai_Run 198 32 [l0, .ref a, l2, l3, l4, l5] st ws = ai_Run 198 33 [l0, .ref a, l2, l3, l4, l5] (.ref a :: st) ws := R_aload_n hc_198 dL_does_32 rfl rfl
theorem rx_198_32 (l0 l2 l3 l4 l5 : Value) {a : Nat} (hq : ¬ a = 23) (st : List Value) (ws : ai_W) : ai_Run 198 32 [l0, .retAddr a, l2, l3, l4, l5] st ws = ai_Run 198 33 [l0, .retAddr a, l2, l3, l4, l5] (.retAddr a :: st) ws := R_aload_nX hq hc_198 dL_does_32 rfl rfl
theorem r_198_33 (l0 l1 l3 l4 l5 : Value) (a : Int32) (st : List Value) (ws : ai_W) : ai_Run 198 33 [l0, l1, .int a, l3, l4, l5] st ws = ai_Run 198 34 [l0, l1, .int a, l3, l4, l5] (.int a :: st) ws := R_iload_n hc_198 dL_does_33 rfl rfl
theorem r_198_34 (ls st : List Value) (ws : ai_W) : ai_Run 198 34 ls st ws = ai_Run 198 36 ls (.int 26 :: st) ws := R_bipush hc_198 dL_does_34 (by decide) rfl
theorem r_198_36 (ls : List Value) (b0 : Value) (b1 : Int32) (b2 : Int32) (ws : ai_W) : ai_Run 198 36 ls [.int b2, .int b1, b0] ws = (ai_Call 164 [b0, .int b1, .int b2] ws).bind fun q => ai_Run 198 39 ls (q.1.toList ++ []) q.2 := R_callS hc_198 dL_does_36 hv_198 (w := 421) rfl (ai_lt3 hf_164 hf_198 hL_164 ho_164 ho_198 rfl) hk_164 (by rw [hn_164]; rfl) rfl (Nat.le_of_ble_eq_true rfl) rfl
theorem r_198_39 (ls st : List Value) (x : Int32) (ws : ai_W) : ai_Run 198 39 ls (.int x :: st) ws = if x = 0 then ai_Run 198 140 ls st ws else if x = 1 then ai_Run 198 145 ls st ws else if x = 2 then ai_Run 198 150 ls st ws else if x = 3 then ai_Run 198 150 ls st ws else if x = 4 then ai_Run 198 158 ls st ws else if x = 5 then ai_Run 198 158 ls st ws else if x = 6 then ai_Run 198 158 ls st ws else if x = 7 then ai_Run 198 166 ls st ws else if x = 8 then ai_Run 198 166 ls st ws else if x = 9 then ai_Run 198 172 ls st ws else if x = 10 then ai_Run 198 172 ls st ws else if x = 11 then ai_Run 198 181 ls st ws else if x = 12 then ai_Run 198 181 ls st ws else if x = 13 then ai_Run 198 192 ls st ws else if x = 14 then ai_Run 198 192 ls st ws else if x = 15 then ai_Run 198 192 ls st ws else if x = 16 then ai_Run 198 205 ls st ws else if x = 17 then ai_Run 198 219 ls st ws else if x = 18 then ai_Run 198 228 ls st ws else if x = 19 then ai_Run 198 228 ls st ws else if x = 20 then ai_Run 198 228 ls st ws else if x = 21 then ai_Run 198 228 ls st ws else ai_Run 198 240 ls st ws := by
  by_cases h0 : x = 0
  · subst h0; rw [if_pos rfl]; exact R_switch hc_198 dL_does_39 (by decide +kernel)
  rw [if_neg h0]
  by_cases h1 : x = 1
  · subst h1; rw [if_pos rfl]; exact R_switch hc_198 dL_does_39 (by decide +kernel)
  rw [if_neg h1]
  by_cases h2 : x = 2
  · subst h2; rw [if_pos rfl]; exact R_switch hc_198 dL_does_39 (by decide +kernel)
  rw [if_neg h2]
  by_cases h3 : x = 3
  · subst h3; rw [if_pos rfl]; exact R_switch hc_198 dL_does_39 (by decide +kernel)
  rw [if_neg h3]
  by_cases h4 : x = 4
  · subst h4; rw [if_pos rfl]; exact R_switch hc_198 dL_does_39 (by decide +kernel)
  rw [if_neg h4]
  by_cases h5 : x = 5
  · subst h5; rw [if_pos rfl]; exact R_switch hc_198 dL_does_39 (by decide +kernel)
  rw [if_neg h5]
  by_cases h6 : x = 6
  · subst h6; rw [if_pos rfl]; exact R_switch hc_198 dL_does_39 (by decide +kernel)
  rw [if_neg h6]
  by_cases h7 : x = 7
  · subst h7; rw [if_pos rfl]; exact R_switch hc_198 dL_does_39 (by decide +kernel)
  rw [if_neg h7]
  by_cases h8 : x = 8
  · subst h8; rw [if_pos rfl]; exact R_switch hc_198 dL_does_39 (by decide +kernel)
  rw [if_neg h8]
  by_cases h9 : x = 9
  · subst h9; rw [if_pos rfl]; exact R_switch hc_198 dL_does_39 (by decide +kernel)
  rw [if_neg h9]
  by_cases h10 : x = 10
  · subst h10; rw [if_pos rfl]; exact R_switch hc_198 dL_does_39 (by decide +kernel)
  rw [if_neg h10]
  by_cases h11 : x = 11
  · subst h11; rw [if_pos rfl]; exact R_switch hc_198 dL_does_39 (by decide +kernel)
  rw [if_neg h11]
  by_cases h12 : x = 12
  · subst h12; rw [if_pos rfl]; exact R_switch hc_198 dL_does_39 (by decide +kernel)
  rw [if_neg h12]
  by_cases h13 : x = 13
  · subst h13; rw [if_pos rfl]; exact R_switch hc_198 dL_does_39 (by decide +kernel)
  rw [if_neg h13]
  by_cases h14 : x = 14
  · subst h14; rw [if_pos rfl]; exact R_switch hc_198 dL_does_39 (by decide +kernel)
  rw [if_neg h14]
  by_cases h15 : x = 15
  · subst h15; rw [if_pos rfl]; exact R_switch hc_198 dL_does_39 (by decide +kernel)
  rw [if_neg h15]
  by_cases h16 : x = 16
  · subst h16; rw [if_pos rfl]; exact R_switch hc_198 dL_does_39 (by decide +kernel)
  rw [if_neg h16]
  by_cases h17 : x = 17
  · subst h17; rw [if_pos rfl]; exact R_switch hc_198 dL_does_39 (by decide +kernel)
  rw [if_neg h17]
  by_cases h18 : x = 18
  · subst h18; rw [if_pos rfl]; exact R_switch hc_198 dL_does_39 (by decide +kernel)
  rw [if_neg h18]
  by_cases h19 : x = 19
  · subst h19; rw [if_pos rfl]; exact R_switch hc_198 dL_does_39 (by decide +kernel)
  rw [if_neg h19]
  by_cases h20 : x = 20
  · subst h20; rw [if_pos rfl]; exact R_switch hc_198 dL_does_39 (by decide +kernel)
  rw [if_neg h20]
  by_cases h21 : x = 21
  · subst h21; rw [if_pos rfl]; exact R_switch hc_198 dL_does_39 (by decide +kernel)
  rw [if_neg h21]
  have q0 : x.toInt ≠ 0 := fun e => h0 (Int32.toInt_inj.mp e)
  have q1 : x.toInt ≠ 1 := fun e => h1 (Int32.toInt_inj.mp e)
  have q2 : x.toInt ≠ 2 := fun e => h2 (Int32.toInt_inj.mp e)
  have q3 : x.toInt ≠ 3 := fun e => h3 (Int32.toInt_inj.mp e)
  have q4 : x.toInt ≠ 4 := fun e => h4 (Int32.toInt_inj.mp e)
  have q5 : x.toInt ≠ 5 := fun e => h5 (Int32.toInt_inj.mp e)
  have q6 : x.toInt ≠ 6 := fun e => h6 (Int32.toInt_inj.mp e)
  have q7 : x.toInt ≠ 7 := fun e => h7 (Int32.toInt_inj.mp e)
  have q8 : x.toInt ≠ 8 := fun e => h8 (Int32.toInt_inj.mp e)
  have q9 : x.toInt ≠ 9 := fun e => h9 (Int32.toInt_inj.mp e)
  have q10 : x.toInt ≠ 10 := fun e => h10 (Int32.toInt_inj.mp e)
  have q11 : x.toInt ≠ 11 := fun e => h11 (Int32.toInt_inj.mp e)
  have q12 : x.toInt ≠ 12 := fun e => h12 (Int32.toInt_inj.mp e)
  have q13 : x.toInt ≠ 13 := fun e => h13 (Int32.toInt_inj.mp e)
  have q14 : x.toInt ≠ 14 := fun e => h14 (Int32.toInt_inj.mp e)
  have q15 : x.toInt ≠ 15 := fun e => h15 (Int32.toInt_inj.mp e)
  have q16 : x.toInt ≠ 16 := fun e => h16 (Int32.toInt_inj.mp e)
  have q17 : x.toInt ≠ 17 := fun e => h17 (Int32.toInt_inj.mp e)
  have q18 : x.toInt ≠ 18 := fun e => h18 (Int32.toInt_inj.mp e)
  have q19 : x.toInt ≠ 19 := fun e => h19 (Int32.toInt_inj.mp e)
  have q20 : x.toInt ≠ 20 := fun e => h20 (Int32.toInt_inj.mp e)
  have q21 : x.toInt ≠ 21 := fun e => h21 (Int32.toInt_inj.mp e)
  refine R_switch hc_198 dL_does_39 (t := 240) ?_
  unfold ai_sw
  rw [if_pos (by omega)]
  rfl
theorem r_198_140 (l1 l2 l3 l4 l5 : Value) (a : Nat) (st : List Value) (ws : ai_W) : ai_Run 198 140 [.ref a, l1, l2, l3, l4, l5] st ws = ai_Run 198 141 [.ref a, l1, l2, l3, l4, l5] (.ref a :: st) ws := R_aload_n hc_198 dL_does_140 rfl rfl
theorem rx_198_140 (l1 l2 l3 l4 l5 : Value) {a : Nat} (hq : ¬ a = 23) (st : List Value) (ws : ai_W) : ai_Run 198 140 [.retAddr a, l1, l2, l3, l4, l5] st ws = ai_Run 198 141 [.retAddr a, l1, l2, l3, l4, l5] (.retAddr a :: st) ws := R_aload_nX hq hc_198 dL_does_140 rfl rfl
theorem r_198_141 (ls : List Value) (r : Value) (ws : ai_W) : ai_Run 198 141 ls [r] ws = (ai_Call 92 [r] ws).bind fun q => ai_Run 198 144 ls (q.1.toList ++ []) q.2 := R_callV hc_198 dL_does_141 hv_198 (w := 44) rfl (ai_lt3 hf_92 hf_198 hL_92 ho_92 ho_198 rfl) hk_92 (by rw [hn_92]; rfl) rfl (Nat.le_of_ble_eq_true rfl) rfl
theorem r_198_144 (ls : List Value) (x : Int32) (ws : ai_W) : ai_Run 198 144 ls [.int x] ws = some (some (.int x), ws) := R_iret hc_198 dL_does_144 ht_198
theorem r_198_145 (l1 l2 l3 l4 l5 : Value) (a : Nat) (st : List Value) (ws : ai_W) : ai_Run 198 145 [.ref a, l1, l2, l3, l4, l5] st ws = ai_Run 198 146 [.ref a, l1, l2, l3, l4, l5] (.ref a :: st) ws := R_aload_n hc_198 dL_does_145 rfl rfl
theorem rx_198_145 (l1 l2 l3 l4 l5 : Value) {a : Nat} (hq : ¬ a = 23) (st : List Value) (ws : ai_W) : ai_Run 198 145 [.retAddr a, l1, l2, l3, l4, l5] st ws = ai_Run 198 146 [.retAddr a, l1, l2, l3, l4, l5] (.retAddr a :: st) ws := R_aload_nX hq hc_198 dL_does_145 rfl rfl
theorem r_198_146 (ls : List Value) (r : Value) (ws : ai_W) : ai_Run 198 146 ls [r] ws = (ai_Call 52 [r] ws).bind fun q => ai_Run 198 149 ls (q.1.toList ++ []) q.2 := R_callV hc_198 dL_does_146 hv_198 (w := 691) rfl (ai_lt3 hf_52 hf_198 hL_52 ho_52 ho_198 rfl) hk_52 (by rw [hn_52]; rfl) rfl (Nat.le_of_ble_eq_true rfl) rfl
theorem r_198_149 (ls : List Value) (x : Int32) (ws : ai_W) : ai_Run 198 149 ls [.int x] ws = some (some (.int x), ws) := R_iret hc_198 dL_does_149 ht_198
theorem r_198_150 (l1 l2 l3 l4 l5 : Value) (a : Nat) (st : List Value) (ws : ai_W) : ai_Run 198 150 [.ref a, l1, l2, l3, l4, l5] st ws = ai_Run 198 151 [.ref a, l1, l2, l3, l4, l5] (.ref a :: st) ws := R_aload_n hc_198 dL_does_150 rfl rfl
theorem rx_198_150 (l1 l2 l3 l4 l5 : Value) {a : Nat} (hq : ¬ a = 23) (st : List Value) (ws : ai_W) : ai_Run 198 150 [.retAddr a, l1, l2, l3, l4, l5] st ws = ai_Run 198 151 [.retAddr a, l1, l2, l3, l4, l5] (.retAddr a :: st) ws := R_aload_nX hq hc_198 dL_does_150 rfl rfl
theorem r_198_151 (l0 l1 l2 l4 l5 : Value) (a : Int32) (st : List Value) (ws : ai_W) : ai_Run 198 151 [l0, l1, l2, .int a, l4, l5] st ws = ai_Run 198 152 [l0, l1, l2, .int a, l4, l5] (.int a :: st) ws := R_iload_n hc_198 dL_does_151 rfl rfl
theorem r_198_152 (l0 l1 l2 l3 l4 : Value) (a : Int32) (st : List Value) (ws : ai_W) : ai_Run 198 152 [l0, l1, l2, l3, l4, .int a] st ws = ai_Run 198 154 [l0, l1, l2, l3, l4, .int a] (.int a :: st) ws := R_iload hc_198 dL_does_152 rfl rfl
theorem r_198_154 (ls : List Value) (r : Value) (b0 : Int32) (b1 : Int32) (ws : ai_W) : ai_Run 198 154 ls [.int b1, .int b0, r] ws = (ai_Call 109 [r, .int b0, .int b1] ws).bind fun q => ai_Run 198 157 ls (q.1.toList ++ []) q.2 := R_callV hc_198 dL_does_154 hv_198 (w := 683) rfl (ai_lt3 hf_109 hf_198 hL_109 ho_109 ho_198 rfl) hk_109 (by rw [hn_109]; rfl) rfl (Nat.le_of_ble_eq_true rfl) rfl
theorem r_198_157 (ls : List Value) (x : Int32) (ws : ai_W) : ai_Run 198 157 ls [.int x] ws = some (some (.int x), ws) := R_iret hc_198 dL_does_157 ht_198
theorem r_198_158 (l1 l2 l3 l4 l5 : Value) (a : Nat) (st : List Value) (ws : ai_W) : ai_Run 198 158 [.ref a, l1, l2, l3, l4, l5] st ws = ai_Run 198 159 [.ref a, l1, l2, l3, l4, l5] (.ref a :: st) ws := R_aload_n hc_198 dL_does_158 rfl rfl
theorem rx_198_158 (l1 l2 l3 l4 l5 : Value) {a : Nat} (hq : ¬ a = 23) (st : List Value) (ws : ai_W) : ai_Run 198 158 [.retAddr a, l1, l2, l3, l4, l5] st ws = ai_Run 198 159 [.retAddr a, l1, l2, l3, l4, l5] (.retAddr a :: st) ws := R_aload_nX hq hc_198 dL_does_158 rfl rfl
theorem r_198_159 (l0 l1 l2 l4 l5 : Value) (a : Int32) (st : List Value) (ws : ai_W) : ai_Run 198 159 [l0, l1, l2, .int a, l4, l5] st ws = ai_Run 198 160 [l0, l1, l2, .int a, l4, l5] (.int a :: st) ws := R_iload_n hc_198 dL_does_159 rfl rfl
theorem r_198_160 (l0 l1 l2 l3 l4 : Value) (a : Int32) (st : List Value) (ws : ai_W) : ai_Run 198 160 [l0, l1, l2, l3, l4, .int a] st ws = ai_Run 198 162 [l0, l1, l2, l3, l4, .int a] (.int a :: st) ws := R_iload hc_198 dL_does_160 rfl rfl
theorem r_198_162 (ls : List Value) (r : Value) (b0 : Int32) (b1 : Int32) (ws : ai_W) : ai_Run 198 162 ls [.int b1, .int b0, r] ws = (ai_Call 140 [r, .int b0, .int b1] ws).bind fun q => ai_Run 198 165 ls (q.1.toList ++ []) q.2 := R_callV hc_198 dL_does_162 hv_198 (w := 100) rfl (ai_lt3 hf_140 hf_198 hL_140 ho_140 ho_198 rfl) hk_140 (by rw [hn_140]; rfl) rfl (Nat.le_of_ble_eq_true rfl) rfl
theorem r_198_165 (ls : List Value) (x : Int32) (ws : ai_W) : ai_Run 198 165 ls [.int x] ws = some (some (.int x), ws) := R_iret hc_198 dL_does_165 ht_198
theorem r_198_166 (l1 l2 l3 l4 l5 : Value) (a : Nat) (st : List Value) (ws : ai_W) : ai_Run 198 166 [.ref a, l1, l2, l3, l4, l5] st ws = ai_Run 198 167 [.ref a, l1, l2, l3, l4, l5] (.ref a :: st) ws := R_aload_n hc_198 dL_does_166 rfl rfl
theorem rx_198_166 (l1 l2 l3 l4 l5 : Value) {a : Nat} (hq : ¬ a = 23) (st : List Value) (ws : ai_W) : ai_Run 198 166 [.retAddr a, l1, l2, l3, l4, l5] st ws = ai_Run 198 167 [.retAddr a, l1, l2, l3, l4, l5] (.retAddr a :: st) ws := R_aload_nX hq hc_198 dL_does_166 rfl rfl
theorem r_198_167 (l0 l1 l2 l4 l5 : Value) (a : Int32) (st : List Value) (ws : ai_W) : ai_Run 198 167 [l0, l1, l2, .int a, l4, l5] st ws = ai_Run 198 168 [l0, l1, l2, .int a, l4, l5] (.int a :: st) ws := R_iload_n hc_198 dL_does_167 rfl rfl
theorem r_198_168 (ls : List Value) (r : Value) (b0 : Int32) (ws : ai_W) : ai_Run 198 168 ls [.int b0, r] ws = (ai_Call 147 [r, .int b0] ws).bind fun q => ai_Run 198 171 ls (q.1.toList ++ []) q.2 := R_callV hc_198 dL_does_168 hv_198 (w := 720) rfl (ai_lt3 hf_147 hf_198 hL_147 ho_147 ho_198 rfl) hk_147 (by rw [hn_147]; rfl) rfl (Nat.le_of_ble_eq_true rfl) rfl
theorem r_198_171 (ls : List Value) (x : Int32) (ws : ai_W) : ai_Run 198 171 ls [.int x] ws = some (some (.int x), ws) := R_iret hc_198 dL_does_171 ht_198
theorem r_198_172 (l1 l2 l3 l4 l5 : Value) (a : Nat) (st : List Value) (ws : ai_W) : ai_Run 198 172 [.ref a, l1, l2, l3, l4, l5] st ws = ai_Run 198 173 [.ref a, l1, l2, l3, l4, l5] (.ref a :: st) ws := R_aload_n hc_198 dL_does_172 rfl rfl
theorem rx_198_172 (l1 l2 l3 l4 l5 : Value) {a : Nat} (hq : ¬ a = 23) (st : List Value) (ws : ai_W) : ai_Run 198 172 [.retAddr a, l1, l2, l3, l4, l5] st ws = ai_Run 198 173 [.retAddr a, l1, l2, l3, l4, l5] (.retAddr a :: st) ws := R_aload_nX hq hc_198 dL_does_172 rfl rfl
theorem r_198_173 (l0 l1 l2 l3 l4 : Value) (a : Int32) (st : List Value) (ws : ai_W) : ai_Run 198 173 [l0, l1, l2, l3, l4, .int a] st ws = ai_Run 198 175 [l0, l1, l2, l3, l4, .int a] (.int a :: st) ws := R_iload hc_198 dL_does_173 rfl rfl
theorem r_198_175 (l0 l1 l2 l3 l5 : Value) (a : Int32) (st : List Value) (ws : ai_W) : ai_Run 198 175 [l0, l1, l2, l3, .int a, l5] st ws = ai_Run 198 177 [l0, l1, l2, l3, .int a, l5] (.int a :: st) ws := R_iload hc_198 dL_does_175 rfl rfl
theorem r_198_177 (ls : List Value) (r : Value) (b0 : Int32) (b1 : Int32) (ws : ai_W) : ai_Run 198 177 ls [.int b1, .int b0, r] ws = (ai_Call 161 [r, .int b0, .int b1] ws).bind fun q => ai_Run 198 180 ls (q.1.toList ++ []) q.2 := R_callV hc_198 dL_does_177 hv_198 (w := 699) rfl (ai_lt3 hf_161 hf_198 hL_161 ho_161 ho_198 rfl) hk_161 (by rw [hn_161]; rfl) rfl (Nat.le_of_ble_eq_true rfl) rfl
theorem r_198_180 (ls : List Value) (x : Int32) (ws : ai_W) : ai_Run 198 180 ls [.int x] ws = some (some (.int x), ws) := R_iret hc_198 dL_does_180 ht_198
theorem r_198_181 (l1 l2 l3 l4 l5 : Value) (a : Nat) (st : List Value) (ws : ai_W) : ai_Run 198 181 [.ref a, l1, l2, l3, l4, l5] st ws = ai_Run 198 182 [.ref a, l1, l2, l3, l4, l5] (.ref a :: st) ws := R_aload_n hc_198 dL_does_181 rfl rfl
theorem rx_198_181 (l1 l2 l3 l4 l5 : Value) {a : Nat} (hq : ¬ a = 23) (st : List Value) (ws : ai_W) : ai_Run 198 181 [.retAddr a, l1, l2, l3, l4, l5] st ws = ai_Run 198 182 [.retAddr a, l1, l2, l3, l4, l5] (.retAddr a :: st) ws := R_aload_nX hq hc_198 dL_does_181 rfl rfl
theorem r_198_182 (l0 l1 l2 l3 l5 : Value) (a : Int32) (st : List Value) (ws : ai_W) : ai_Run 198 182 [l0, l1, l2, l3, .int a, l5] st ws = ai_Run 198 184 [l0, l1, l2, l3, .int a, l5] (.int a :: st) ws := R_iload hc_198 dL_does_182 rfl rfl
theorem r_198_184 (l0 l1 l2 l3 l4 : Value) (a : Int32) (st : List Value) (ws : ai_W) : ai_Run 198 184 [l0, l1, l2, l3, l4, .int a] st ws = ai_Run 198 186 [l0, l1, l2, l3, l4, .int a] (.int a :: st) ws := R_iload hc_198 dL_does_184 rfl rfl
theorem r_198_186 (ls st : List Value) (ws : ai_W) : ai_Run 198 186 ls st ws = ai_Run 198 187 ls (.int 3 :: st) ws := R_iconst hc_198 dL_does_186 (by decide) rfl
theorem r_198_187 (ls st : List Value) (a : Int32) (ws : ai_W) : ai_Run 198 187 ls (.int 3 :: .int a :: st) ws = ai_Run 198 188 ls (.int (a - a / 3 * 3) :: st) ws := R_irem hc_198 dL_does_187 (by decide) rfl
theorem r_198_188 (ls : List Value) (r : Value) (b0 : Int32) (b1 : Int32) (ws : ai_W) : ai_Run 198 188 ls [.int b1, .int b0, r] ws = (ai_Call 150 [r, .int b0, .int b1] ws).bind fun q => ai_Run 198 191 ls (q.1.toList ++ []) q.2 := R_callV hc_198 dL_does_188 hv_198 (w := 149) rfl (ai_lt3 hf_150 hf_198 hL_150 ho_150 ho_198 rfl) hk_150 (by rw [hn_150]; rfl) rfl (Nat.le_of_ble_eq_true rfl) rfl
theorem r_198_191 (ls : List Value) (x : Int32) (ws : ai_W) : ai_Run 198 191 ls [.int x] ws = some (some (.int x), ws) := R_iret hc_198 dL_does_191 ht_198
theorem r_198_192 (l1 l2 l3 l4 l5 : Value) (a : Nat) (st : List Value) (ws : ai_W) : ai_Run 198 192 [.ref a, l1, l2, l3, l4, l5] st ws = ai_Run 198 193 [.ref a, l1, l2, l3, l4, l5] (.ref a :: st) ws := R_aload_n hc_198 dL_does_192 rfl rfl
theorem rx_198_192 (l1 l2 l3 l4 l5 : Value) {a : Nat} (hq : ¬ a = 23) (st : List Value) (ws : ai_W) : ai_Run 198 192 [.retAddr a, l1, l2, l3, l4, l5] st ws = ai_Run 198 193 [.retAddr a, l1, l2, l3, l4, l5] (.retAddr a :: st) ws := R_aload_nX hq hc_198 dL_does_192 rfl rfl
theorem r_198_193 (l0 l1 l2 l4 l5 : Value) (a : Int32) (st : List Value) (ws : ai_W) : ai_Run 198 193 [l0, l1, l2, .int a, l4, l5] st ws = ai_Run 198 194 [l0, l1, l2, .int a, l4, l5] (.int a :: st) ws := R_iload_n hc_198 dL_does_193 rfl rfl
theorem r_198_194 (l0 l1 l2 l3 l5 : Value) (a : Int32) (st : List Value) (ws : ai_W) : ai_Run 198 194 [l0, l1, l2, l3, .int a, l5] st ws = ai_Run 198 196 [l0, l1, l2, l3, .int a, l5] (.int a :: st) ws := R_iload hc_198 dL_does_194 rfl rfl
theorem r_198_196 (l0 l1 l2 l3 l4 : Value) (a : Int32) (st : List Value) (ws : ai_W) : ai_Run 198 196 [l0, l1, l2, l3, l4, .int a] st ws = ai_Run 198 198 [l0, l1, l2, l3, l4, .int a] (.int a :: st) ws := R_iload hc_198 dL_does_196 rfl rfl
theorem r_198_198 (ls st : List Value) (ws : ai_W) : ai_Run 198 198 ls st ws = ai_Run 198 200 ls (.int 11 :: st) ws := R_bipush hc_198 dL_does_198 (by decide) rfl
theorem r_198_200 (ls st : List Value) (a : Int32) (ws : ai_W) : ai_Run 198 200 ls (.int 11 :: .int a :: st) ws = ai_Run 198 201 ls (.int (a - a / 11 * 11) :: st) ws := R_irem hc_198 dL_does_200 (by decide) rfl
theorem r_198_201 (ls : List Value) (r : Value) (b0 : Int32) (b1 : Int32) (b2 : Int32) (ws : ai_W) : ai_Run 198 201 ls [.int b2, .int b1, .int b0, r] ws = (ai_Call 118 [r, .int b0, .int b1, .int b2] ws).bind fun q => ai_Run 198 204 ls (q.1.toList ++ []) q.2 := R_callV hc_198 dL_does_201 hv_198 (w := 169) rfl (ai_lt3 hf_118 hf_198 hL_118 ho_118 ho_198 rfl) hk_118 (by rw [hn_118]; rfl) rfl (Nat.le_of_ble_eq_true rfl) rfl
theorem r_198_204 (ls : List Value) (x : Int32) (ws : ai_W) : ai_Run 198 204 ls [.int x] ws = some (some (.int x), ws) := R_iret hc_198 dL_does_204 ht_198
theorem r_198_205 (l1 l2 l3 l4 l5 : Value) (a : Nat) (st : List Value) (ws : ai_W) : ai_Run 198 205 [.ref a, l1, l2, l3, l4, l5] st ws = ai_Run 198 206 [.ref a, l1, l2, l3, l4, l5] (.ref a :: st) ws := R_aload_n hc_198 dL_does_205 rfl rfl
theorem rx_198_205 (l1 l2 l3 l4 l5 : Value) {a : Nat} (hq : ¬ a = 23) (st : List Value) (ws : ai_W) : ai_Run 198 205 [.retAddr a, l1, l2, l3, l4, l5] st ws = ai_Run 198 206 [.retAddr a, l1, l2, l3, l4, l5] (.retAddr a :: st) ws := R_aload_nX hq hc_198 dL_does_205 rfl rfl
theorem r_198_206 (l0 l1 l2 l4 l5 : Value) (a : Int32) (st : List Value) (ws : ai_W) : ai_Run 198 206 [l0, l1, l2, .int a, l4, l5] st ws = ai_Run 198 207 [l0, l1, l2, .int a, l4, l5] (.int a :: st) ws := R_iload_n hc_198 dL_does_206 rfl rfl
theorem r_198_207 (l0 l1 l2 l3 l5 : Value) (a : Int32) (st : List Value) (ws : ai_W) : ai_Run 198 207 [l0, l1, l2, l3, .int a, l5] st ws = ai_Run 198 209 [l0, l1, l2, l3, .int a, l5] (.int a :: st) ws := R_iload hc_198 dL_does_207 rfl rfl
theorem r_198_209 (ls st : List Value) (a b : Int32) (ws : ai_W) : ai_Run 198 209 ls (.int b :: .int a :: st) ws = ai_Run 198 210 ls (.int (a + b) :: st) ws := R_iadd hc_198 dL_does_209 rfl
theorem r_198_210 (l0 l1 l2 l3 l4 : Value) (a : Int32) (st : List Value) (ws : ai_W) : ai_Run 198 210 [l0, l1, l2, l3, l4, .int a] st ws = ai_Run 198 212 [l0, l1, l2, l3, l4, .int a] (.int a :: st) ws := R_iload hc_198 dL_does_210 rfl rfl
theorem r_198_212 (ls st : List Value) (ws : ai_W) : ai_Run 198 212 ls st ws = ai_Run 198 214 ls (.int 11 :: st) ws := R_bipush hc_198 dL_does_212 (by decide) rfl
theorem r_198_214 (ls st : List Value) (a : Int32) (ws : ai_W) : ai_Run 198 214 ls (.int 11 :: .int a :: st) ws = ai_Run 198 215 ls (.int (a - a / 11 * 11) :: st) ws := R_irem hc_198 dL_does_214 (by decide) rfl
theorem r_198_215 (ls : List Value) (r : Value) (b0 : Int32) (b1 : Int32) (ws : ai_W) : ai_Run 198 215 ls [.int b1, .int b0, r] ws = (ai_Call 143 [r, .int b0, .int b1] ws).bind fun q => ai_Run 198 218 ls (q.1.toList ++ []) q.2 := R_callV hc_198 dL_does_215 hv_198 (w := 707) rfl (ai_lt3 hf_143 hf_198 hL_143 ho_143 ho_198 rfl) hk_143 (by rw [hn_143]; rfl) rfl (Nat.le_of_ble_eq_true rfl) rfl
theorem r_198_218 (ls : List Value) (x : Int32) (ws : ai_W) : ai_Run 198 218 ls [.int x] ws = some (some (.int x), ws) := R_iret hc_198 dL_does_218 ht_198
theorem r_198_219 (l1 l2 l3 l4 l5 : Value) (a : Nat) (st : List Value) (ws : ai_W) : ai_Run 198 219 [.ref a, l1, l2, l3, l4, l5] st ws = ai_Run 198 220 [.ref a, l1, l2, l3, l4, l5] (.ref a :: st) ws := R_aload_n hc_198 dL_does_219 rfl rfl
theorem rx_198_219 (l1 l2 l3 l4 l5 : Value) {a : Nat} (hq : ¬ a = 23) (st : List Value) (ws : ai_W) : ai_Run 198 219 [.retAddr a, l1, l2, l3, l4, l5] st ws = ai_Run 198 220 [.retAddr a, l1, l2, l3, l4, l5] (.retAddr a :: st) ws := R_aload_nX hq hc_198 dL_does_219 rfl rfl
theorem r_198_220 (l0 l1 l2 l4 l5 : Value) (a : Int32) (st : List Value) (ws : ai_W) : ai_Run 198 220 [l0, l1, l2, .int a, l4, l5] st ws = ai_Run 198 221 [l0, l1, l2, .int a, l4, l5] (.int a :: st) ws := R_iload_n hc_198 dL_does_220 rfl rfl
theorem r_198_221 (l0 l1 l2 l3 l5 : Value) (a : Int32) (st : List Value) (ws : ai_W) : ai_Run 198 221 [l0, l1, l2, l3, .int a, l5] st ws = ai_Run 198 223 [l0, l1, l2, l3, .int a, l5] (.int a :: st) ws := R_iload hc_198 dL_does_221 rfl rfl
theorem r_198_223 (ls st : List Value) (a b : Int32) (ws : ai_W) : ai_Run 198 223 ls (.int b :: .int a :: st) ws = ai_Run 198 224 ls (.int (a + b) :: st) ws := R_iadd hc_198 dL_does_223 rfl
theorem r_198_224 (ls : List Value) (r : Value) (b0 : Int32) (ws : ai_W) : ai_Run 198 224 ls [.int b0, r] ws = (ai_Call 117 [r, .int b0] ws).bind fun q => ai_Run 198 227 ls (q.1.toList ++ []) q.2 := R_callV hc_198 dL_does_224 hv_198 (w := 181) rfl (ai_lt3 hf_117 hf_198 hL_117 ho_117 ho_198 rfl) hk_117 (by rw [hn_117]; rfl) rfl (Nat.le_of_ble_eq_true rfl) rfl
theorem r_198_227 (ls : List Value) (x : Int32) (ws : ai_W) : ai_Run 198 227 ls [.int x] ws = some (some (.int x), ws) := R_iret hc_198 dL_does_227 ht_198
theorem r_198_228 (l1 l2 l3 l4 l5 : Value) (a : Nat) (st : List Value) (ws : ai_W) : ai_Run 198 228 [.ref a, l1, l2, l3, l4, l5] st ws = ai_Run 198 229 [.ref a, l1, l2, l3, l4, l5] (.ref a :: st) ws := R_aload_n hc_198 dL_does_228 rfl rfl
theorem rx_198_228 (l1 l2 l3 l4 l5 : Value) {a : Nat} (hq : ¬ a = 23) (st : List Value) (ws : ai_W) : ai_Run 198 228 [.retAddr a, l1, l2, l3, l4, l5] st ws = ai_Run 198 229 [.retAddr a, l1, l2, l3, l4, l5] (.retAddr a :: st) ws := R_aload_nX hq hc_198 dL_does_228 rfl rfl
theorem r_198_229 (l0 l1 l2 l4 l5 : Value) (a : Int32) (st : List Value) (ws : ai_W) : ai_Run 198 229 [l0, l1, l2, .int a, l4, l5] st ws = ai_Run 198 230 [l0, l1, l2, .int a, l4, l5] (.int a :: st) ws := R_iload_n hc_198 dL_does_229 rfl rfl
theorem r_198_230 (l0 l1 l2 l3 l5 : Value) (a : Int32) (st : List Value) (ws : ai_W) : ai_Run 198 230 [l0, l1, l2, l3, .int a, l5] st ws = ai_Run 198 232 [l0, l1, l2, l3, .int a, l5] (.int a :: st) ws := R_iload hc_198 dL_does_230 rfl rfl
theorem r_198_232 (l0 l1 l2 l3 l4 : Value) (a : Int32) (st : List Value) (ws : ai_W) : ai_Run 198 232 [l0, l1, l2, l3, l4, .int a] st ws = ai_Run 198 234 [l0, l1, l2, l3, l4, .int a] (.int a :: st) ws := R_iload hc_198 dL_does_232 rfl rfl
theorem r_198_234 (ls st : List Value) (ws : ai_W) : ai_Run 198 234 ls st ws = ai_Run 198 235 ls (.int 3 :: st) ws := R_iconst hc_198 dL_does_234 (by decide) rfl
theorem r_198_235 (ls st : List Value) (a : Int32) (ws : ai_W) : ai_Run 198 235 ls (.int 3 :: .int a :: st) ws = ai_Run 198 236 ls (.int (a - a / 3 * 3) :: st) ws := R_irem hc_198 dL_does_235 (by decide) rfl
theorem r_198_236 (ls : List Value) (r : Value) (b0 : Int32) (b1 : Int32) (b2 : Int32) (ws : ai_W) : ai_Run 198 236 ls [.int b2, .int b1, .int b0, r] ws = (ai_Call 156 [r, .int b0, .int b1, .int b2] ws).bind fun q => ai_Run 198 239 ls (q.1.toList ++ []) q.2 := R_callV hc_198 dL_does_236 hv_198 (w := 736) rfl (ai_lt3 hf_156 hf_198 hL_156 ho_156 ho_198 rfl) hk_156 (by rw [hn_156]; rfl) rfl (Nat.le_of_ble_eq_true rfl) rfl
theorem r_198_239 (ls : List Value) (x : Int32) (ws : ai_W) : ai_Run 198 239 ls [.int x] ws = some (some (.int x), ws) := R_iret hc_198 dL_does_239 ht_198
theorem r_198_240 (l1 l2 l3 l4 l5 : Value) (a : Nat) (st : List Value) (ws : ai_W) : ai_Run 198 240 [.ref a, l1, l2, l3, l4, l5] st ws = ai_Run 198 241 [.ref a, l1, l2, l3, l4, l5] (.ref a :: st) ws := R_aload_n hc_198 dL_does_240 rfl rfl
theorem rx_198_240 (l1 l2 l3 l4 l5 : Value) {a : Nat} (hq : ¬ a = 23) (st : List Value) (ws : ai_W) : ai_Run 198 240 [.retAddr a, l1, l2, l3, l4, l5] st ws = ai_Run 198 241 [.retAddr a, l1, l2, l3, l4, l5] (.retAddr a :: st) ws := R_aload_nX hq hc_198 dL_does_240 rfl rfl
theorem r_198_241 (ls st : List Value) (ws : ai_W) : ai_Run 198 241 ls st ws = ai_Run 198 244 ls (.ref ws.length :: st) (ws ++ [ai_blank 11]) := R_new hc_198 dL_does_241 hv_198 (w1 := 755) (w2 := 756) (w3 := 37) rfl rfl
theorem r_198_244 (ls st : List Value) (a : Nat) (ws : ai_W) : ai_Run 198 244 ls (.ref a :: st) ws = ai_Run 198 245 ls (.ref a :: .ref a :: st) ws := R_dup hc_198 dL_does_244 rfl
theorem r_198_245 (ls : List Value) (r : Value) (s0 s1 : Value) (ws : ai_W) : ai_Run 198 245 ls [r, s0, s1] ws = (ai_Call 169 [r] ws).bind fun q => ai_Run 198 248 ls (q.1.toList ++ [s0, s1]) q.2 := R_callI hc_198 dL_does_245 hv_198 (w := 757) (Or.inl rfl) (ai_lt3 hf_169 hf_198 hL_169 ho_169 ho_198 rfl) hk_169 (by rw [hn_169]; rfl) rfl (Nat.le_of_ble_eq_true rfl) rfl
theorem r_198_248 (ls st : List Value) (ws : ai_W) : ai_Run 198 248 ls st ws = ai_Run 198 250 ls (.retAddr 1 :: st) ws := R_ldcs (k := 0) hc_198 dL_does_248 rfl (by decide) rfl
theorem r_198_250 (ls : List Value) (r : Value) (b0 : Value) (s0 : Value) (ws : ai_W) : ai_Run 198 250 ls [b0, r, s0] ws = (ai_Call 177 [r, b0] ws).bind fun q => ai_Run 198 253 ls (q.1.toList ++ [s0]) q.2 := R_callV hc_198 dL_does_250 hv_198 (w := 788) rfl (ai_lt3 hf_177 hf_198 hL_177 ho_177 ho_198 rfl) hk_177 (by rw [hn_177]; rfl) rfl (Nat.le_of_ble_eq_true rfl) rfl
theorem r_198_253 (l0 l1 l2 l4 l5 : Value) (a : Int32) (st : List Value) (ws : ai_W) : ai_Run 198 253 [l0, l1, l2, .int a, l4, l5] st ws = ai_Run 198 254 [l0, l1, l2, .int a, l4, l5] (.int a :: st) ws := R_iload_n hc_198 dL_does_253 rfl rfl
theorem r_198_254 (ls : List Value) (r : Value) (b0 : Int32) (s0 : Value) (ws : ai_W) : ai_Run 198 254 ls [.int b0, r, s0] ws = (ai_Call 182 [r, .int b0] ws).bind fun q => ai_Run 198 257 ls (q.1.toList ++ [s0]) q.2 := R_callV hc_198 dL_does_254 hv_198 (w := 902) rfl (ai_lt3 hf_182 hf_198 hL_182 ho_182 ho_198 rfl) hk_182 (by rw [hn_182]; rfl) rfl (Nat.le_of_ble_eq_true rfl) rfl
theorem r_198_257 (l0 l1 l2 l3 l5 : Value) (a : Int32) (st : List Value) (ws : ai_W) : ai_Run 198 257 [l0, l1, l2, l3, .int a, l5] st ws = ai_Run 198 259 [l0, l1, l2, l3, .int a, l5] (.int a :: st) ws := R_iload hc_198 dL_does_257 rfl rfl
theorem r_198_259 (ls : List Value) (r : Value) (b0 : Int32) (s0 : Value) (ws : ai_W) : ai_Run 198 259 ls [.int b0, r, s0] ws = (ai_Call 182 [r, .int b0] ws).bind fun q => ai_Run 198 262 ls (q.1.toList ++ [s0]) q.2 := R_callV hc_198 dL_does_259 hv_198 (w := 902) rfl (ai_lt3 hf_182 hf_198 hL_182 ho_182 ho_198 rfl) hk_182 (by rw [hn_182]; rfl) rfl (Nat.le_of_ble_eq_true rfl) rfl
theorem r_198_262 (ls st : List Value) (ws : ai_W) : ai_Run 198 262 ls st ws = ai_Run 198 264 ls (.retAddr 2 :: st) ws := R_ldcs (k := 1) hc_198 dL_does_262 rfl (by decide) rfl
theorem r_198_264 (ls : List Value) (r : Value) (b0 : Value) (s0 : Value) (ws : ai_W) : ai_Run 198 264 ls [b0, r, s0] ws = (ai_Call 177 [r, b0] ws).bind fun q => ai_Run 198 267 ls (q.1.toList ++ [s0]) q.2 := R_callV hc_198 dL_does_264 hv_198 (w := 788) rfl (ai_lt3 hf_177 hf_198 hL_177 ho_177 ho_198 rfl) hk_177 (by rw [hn_177]; rfl) rfl (Nat.le_of_ble_eq_true rfl) rfl
theorem r_198_267 (l0 l1 l2 l3 l4 : Value) (a : Int32) (st : List Value) (ws : ai_W) : ai_Run 198 267 [l0, l1, l2, l3, l4, .int a] st ws = ai_Run 198 269 [l0, l1, l2, l3, l4, .int a] (.int a :: st) ws := R_iload hc_198 dL_does_267 rfl rfl
theorem r_198_269 (ls st : List Value) (ws : ai_W) : ai_Run 198 269 ls st ws = ai_Run 198 271 ls (.int 10 :: st) ws := R_bipush hc_198 dL_does_269 (by decide) rfl
theorem r_198_271 (ls st : List Value) (a : Int32) (ws : ai_W) : ai_Run 198 271 ls (.int 10 :: .int a :: st) ws = ai_Run 198 272 ls (.int (a - a / 10 * 10) :: st) ws := R_irem hc_198 dL_does_271 (by decide) rfl
theorem r_198_272 (ls : List Value) (r : Value) (b0 : Int32) (s0 : Value) (ws : ai_W) : ai_Run 198 272 ls [.int b0, r, s0] ws = (ai_Call 182 [r, .int b0] ws).bind fun q => ai_Run 198 275 ls (q.1.toList ++ [s0]) q.2 := R_callV hc_198 dL_does_272 hv_198 (w := 902) rfl (ai_lt3 hf_182 hf_198 hL_182 ho_182 ho_198 rfl) hk_182 (by rw [hn_182]; rfl) rfl (Nat.le_of_ble_eq_true rfl) rfl
theorem r_198_275 (l0 l1 l2 l3 l4 : Value) (a : Int32) (st : List Value) (ws : ai_W) : ai_Run 198 275 [l0, l1, l2, l3, l4, .int a] st ws = ai_Run 198 277 [l0, l1, l2, l3, l4, .int a] (.int a :: st) ws := R_iload hc_198 dL_does_275 rfl rfl
theorem r_198_277 (ls st : List Value) (ws : ai_W) : ai_Run 198 277 ls st ws = ai_Run 198 278 ls (.int 3 :: st) ws := R_iconst hc_198 dL_does_277 (by decide) rfl
theorem r_198_278 (ls st : List Value) (a : Int32) (ws : ai_W) : ai_Run 198 278 ls (.int 3 :: .int a :: st) ws = ai_Run 198 279 ls (.int (a - a / 3 * 3) :: st) ws := R_irem hc_198 dL_does_278 (by decide) rfl
theorem r_198_279 (ls st : List Value) (a : Int32) (ws : ai_W) : ai_Run 198 279 ls (.int a :: st) ws = if a = 0 then ai_Run 198 282 ls st ws else ai_Run 198 314 ls st ws := R_if_ne hc_198 dL_does_279 rfl rfl
theorem r_198_282 (ls st : List Value) (ws : ai_W) : ai_Run 198 282 ls st ws = ai_Run 198 285 ls (.ref ws.length :: st) (ws ++ [ai_blank 11]) := R_new hc_198 dL_does_282 hv_198 (w1 := 755) (w2 := 756) (w3 := 37) rfl rfl
theorem r_198_285 (ls st : List Value) (a : Nat) (ws : ai_W) : ai_Run 198 285 ls (.ref a :: st) ws = ai_Run 198 286 ls (.ref a :: .ref a :: st) ws := R_dup hc_198 dL_does_285 rfl
theorem r_198_286 (ls : List Value) (r : Value) (s0 s1 s2 : Value) (ws : ai_W) : ai_Run 198 286 ls [r, s0, s1, s2] ws = (ai_Call 169 [r] ws).bind fun q => ai_Run 198 289 ls (q.1.toList ++ [s0, s1, s2]) q.2 := R_callI hc_198 dL_does_286 hv_198 (w := 757) (Or.inl rfl) (ai_lt3 hf_169 hf_198 hL_169 ho_169 ho_198 rfl) hk_169 (by rw [hn_169]; rfl) rfl (Nat.le_of_ble_eq_true rfl) rfl
theorem r_198_289 (ls st : List Value) (ws : ai_W) : ai_Run 198 289 ls st ws = ai_Run 198 291 ls (.retAddr 3 :: st) ws := R_ldcs (k := 2) hc_198 dL_does_289 rfl (by decide) rfl
theorem r_198_291 (ls : List Value) (r : Value) (b0 : Value) (s0 s1 : Value) (ws : ai_W) : ai_Run 198 291 ls [b0, r, s0, s1] ws = (ai_Call 177 [r, b0] ws).bind fun q => ai_Run 198 294 ls (q.1.toList ++ [s0, s1]) q.2 := R_callV hc_198 dL_does_291 hv_198 (w := 788) rfl (ai_lt3 hf_177 hf_198 hL_177 ho_177 ho_198 rfl) hk_177 (by rw [hn_177]; rfl) rfl (Nat.le_of_ble_eq_true rfl) rfl
theorem r_198_294 (l0 l1 l2 l4 l5 : Value) (a : Int32) (st : List Value) (ws : ai_W) : ai_Run 198 294 [l0, l1, l2, .int a, l4, l5] st ws = ai_Run 198 295 [l0, l1, l2, .int a, l4, l5] (.int a :: st) ws := R_iload_n hc_198 dL_does_294 rfl rfl
theorem r_198_295 (ls : List Value) (r : Value) (b0 : Int32) (s0 s1 : Value) (ws : ai_W) : ai_Run 198 295 ls [.int b0, r, s0, s1] ws = (ai_Call 182 [r, .int b0] ws).bind fun q => ai_Run 198 298 ls (q.1.toList ++ [s0, s1]) q.2 := R_callV hc_198 dL_does_295 hv_198 (w := 902) rfl (ai_lt3 hf_182 hf_198 hL_182 ho_182 ho_198 rfl) hk_182 (by rw [hn_182]; rfl) rfl (Nat.le_of_ble_eq_true rfl) rfl
theorem r_198_298 (l0 l1 l2 l3 l5 : Value) (a : Int32) (st : List Value) (ws : ai_W) : ai_Run 198 298 [l0, l1, l2, l3, .int a, l5] st ws = ai_Run 198 300 [l0, l1, l2, l3, .int a, l5] (.int a :: st) ws := R_iload hc_198 dL_does_298 rfl rfl
theorem r_198_300 (ls : List Value) (r : Value) (b0 : Int32) (s0 s1 : Value) (ws : ai_W) : ai_Run 198 300 ls [.int b0, r, s0, s1] ws = (ai_Call 182 [r, .int b0] ws).bind fun q => ai_Run 198 303 ls (q.1.toList ++ [s0, s1]) q.2 := R_callV hc_198 dL_does_300 hv_198 (w := 902) rfl (ai_lt3 hf_182 hf_198 hL_182 ho_182 ho_198 rfl) hk_182 (by rw [hn_182]; rfl) rfl (Nat.le_of_ble_eq_true rfl) rfl
theorem r_198_303 (ls st : List Value) (ws : ai_W) : ai_Run 198 303 ls st ws = ai_Run 198 305 ls (.retAddr 4 :: st) ws := R_ldcs (k := 3) hc_198 dL_does_303 rfl (by decide) rfl
theorem r_198_305 (ls : List Value) (r : Value) (b0 : Value) (s0 s1 : Value) (ws : ai_W) : ai_Run 198 305 ls [b0, r, s0, s1] ws = (ai_Call 177 [r, b0] ws).bind fun q => ai_Run 198 308 ls (q.1.toList ++ [s0, s1]) q.2 := R_callV hc_198 dL_does_305 hv_198 (w := 788) rfl (ai_lt3 hf_177 hf_198 hL_177 ho_177 ho_198 rfl) hk_177 (by rw [hn_177]; rfl) rfl (Nat.le_of_ble_eq_true rfl) rfl
theorem r_198_308 (ls : List Value) (r : Value) (s0 s1 : Value) (ws : ai_W) : ai_Run 198 308 ls [r, s0, s1] ws = (ai_Call 191 [r] ws).bind fun q => ai_Run 198 311 ls (q.1.toList ++ [s0, s1]) q.2 := R_callV hc_198 dL_does_308 hv_198 (w := 930) rfl (ai_lt3 hf_191 hf_198 hL_191 ho_191 ho_198 rfl) hk_191 (by rw [hn_191]; rfl) rfl (Nat.le_of_ble_eq_true rfl) rfl
theorem r_198_311 (ls st : List Value) (ws : ai_W) : ai_Run 198 311 ls st ws = ai_Run 198 439 ls st ws := R_goto hc_198 dL_does_311 rfl
theorem r_198_314 (l0 l1 l2 l3 l4 : Value) (a : Int32) (st : List Value) (ws : ai_W) : ai_Run 198 314 [l0, l1, l2, l3, l4, .int a] st ws = ai_Run 198 316 [l0, l1, l2, l3, l4, .int a] (.int a :: st) ws := R_iload hc_198 dL_does_314 rfl rfl
theorem r_198_316 (ls st : List Value) (ws : ai_W) : ai_Run 198 316 ls st ws = ai_Run 198 317 ls (.int 3 :: st) ws := R_iconst hc_198 dL_does_316 (by decide) rfl
theorem r_198_317 (ls st : List Value) (a : Int32) (ws : ai_W) : ai_Run 198 317 ls (.int 3 :: .int a :: st) ws = ai_Run 198 318 ls (.int (a - a / 3 * 3) :: st) ws := R_irem hc_198 dL_does_317 (by decide) rfl
theorem r_198_318 (ls st : List Value) (ws : ai_W) : ai_Run 198 318 ls st ws = ai_Run 198 319 ls (.int 1 :: st) ws := R_iconst hc_198 dL_does_318 (by decide) rfl
theorem r_198_319 (ls st : List Value) (a b : Int32) (ws : ai_W) : ai_Run 198 319 ls (.int b :: .int a :: st) ws = if a = b then ai_Run 198 322 ls st ws else ai_Run 198 365 ls st ws := R_cmp_ne hc_198 dL_does_319 rfl rfl
theorem r_198_322 (ls st : List Value) (ws : ai_W) : ai_Run 198 322 ls st ws = ai_Run 198 325 ls (.ref ws.length :: st) (ws ++ [ai_blank 11]) := R_new hc_198 dL_does_322 hv_198 (w1 := 755) (w2 := 756) (w3 := 37) rfl rfl
theorem r_198_325 (ls st : List Value) (a : Nat) (ws : ai_W) : ai_Run 198 325 ls (.ref a :: st) ws = ai_Run 198 326 ls (.ref a :: .ref a :: st) ws := R_dup hc_198 dL_does_325 rfl
theorem r_198_326 (ls : List Value) (r : Value) (s0 s1 s2 : Value) (ws : ai_W) : ai_Run 198 326 ls [r, s0, s1, s2] ws = (ai_Call 169 [r] ws).bind fun q => ai_Run 198 329 ls (q.1.toList ++ [s0, s1, s2]) q.2 := R_callI hc_198 dL_does_326 hv_198 (w := 757) (Or.inl rfl) (ai_lt3 hf_169 hf_198 hL_169 ho_169 ho_198 rfl) hk_169 (by rw [hn_169]; rfl) rfl (Nat.le_of_ble_eq_true rfl) rfl
theorem r_198_329 (ls st : List Value) (ws : ai_W) : ai_Run 198 329 ls st ws = ai_Run 198 331 ls (.retAddr 5 :: st) ws := R_ldcs (k := 4) hc_198 dL_does_329 rfl (by decide) rfl
theorem r_198_331 (ls : List Value) (r : Value) (b0 : Value) (s0 s1 : Value) (ws : ai_W) : ai_Run 198 331 ls [b0, r, s0, s1] ws = (ai_Call 177 [r, b0] ws).bind fun q => ai_Run 198 334 ls (q.1.toList ++ [s0, s1]) q.2 := R_callV hc_198 dL_does_331 hv_198 (w := 788) rfl (ai_lt3 hf_177 hf_198 hL_177 ho_177 ho_198 rfl) hk_177 (by rw [hn_177]; rfl) rfl (Nat.le_of_ble_eq_true rfl) rfl
theorem r_198_334 (l0 l1 l2 l3 l5 : Value) (a : Int32) (st : List Value) (ws : ai_W) : ai_Run 198 334 [l0, l1, l2, l3, .int a, l5] st ws = ai_Run 198 336 [l0, l1, l2, l3, .int a, l5] (.int a :: st) ws := R_iload hc_198 dL_does_334 rfl rfl
theorem r_198_336 (ls : List Value) (r : Value) (b0 : Int32) (s0 s1 : Value) (ws : ai_W) : ai_Run 198 336 ls [.int b0, r, s0, s1] ws = (ai_Call 182 [r, .int b0] ws).bind fun q => ai_Run 198 339 ls (q.1.toList ++ [s0, s1]) q.2 := R_callV hc_198 dL_does_336 hv_198 (w := 902) rfl (ai_lt3 hf_182 hf_198 hL_182 ho_182 ho_198 rfl) hk_182 (by rw [hn_182]; rfl) rfl (Nat.le_of_ble_eq_true rfl) rfl
theorem r_198_339 (ls st : List Value) (ws : ai_W) : ai_Run 198 339 ls st ws = ai_Run 198 341 ls (.retAddr 6 :: st) ws := R_ldcs (k := 5) hc_198 dL_does_339 rfl (by decide) rfl
theorem r_198_341 (ls : List Value) (r : Value) (b0 : Value) (s0 s1 : Value) (ws : ai_W) : ai_Run 198 341 ls [b0, r, s0, s1] ws = (ai_Call 177 [r, b0] ws).bind fun q => ai_Run 198 344 ls (q.1.toList ++ [s0, s1]) q.2 := R_callV hc_198 dL_does_341 hv_198 (w := 788) rfl (ai_lt3 hf_177 hf_198 hL_177 ho_177 ho_198 rfl) hk_177 (by rw [hn_177]; rfl) rfl (Nat.le_of_ble_eq_true rfl) rfl
theorem r_198_344 (l0 l1 l2 l3 l5 : Value) (a : Int32) (st : List Value) (ws : ai_W) : ai_Run 198 344 [l0, l1, l2, l3, .int a, l5] st ws = ai_Run 198 346 [l0, l1, l2, l3, .int a, l5] (.int a :: st) ws := R_iload hc_198 dL_does_344 rfl rfl
theorem r_198_346 (ls : List Value) (r : Value) (b0 : Int32) (s0 s1 : Value) (ws : ai_W) : ai_Run 198 346 ls [.int b0, r, s0, s1] ws = (ai_Call 182 [r, .int b0] ws).bind fun q => ai_Run 198 349 ls (q.1.toList ++ [s0, s1]) q.2 := R_callV hc_198 dL_does_346 hv_198 (w := 902) rfl (ai_lt3 hf_182 hf_198 hL_182 ho_182 ho_198 rfl) hk_182 (by rw [hn_182]; rfl) rfl (Nat.le_of_ble_eq_true rfl) rfl
theorem r_198_349 (ls st : List Value) (ws : ai_W) : ai_Run 198 349 ls st ws = ai_Run 198 351 ls (.retAddr 7 :: st) ws := R_ldcs (k := 6) hc_198 dL_does_349 rfl (by decide) rfl
theorem r_198_351 (ls : List Value) (r : Value) (b0 : Value) (s0 s1 : Value) (ws : ai_W) : ai_Run 198 351 ls [b0, r, s0, s1] ws = (ai_Call 177 [r, b0] ws).bind fun q => ai_Run 198 354 ls (q.1.toList ++ [s0, s1]) q.2 := R_callV hc_198 dL_does_351 hv_198 (w := 788) rfl (ai_lt3 hf_177 hf_198 hL_177 ho_177 ho_198 rfl) hk_177 (by rw [hn_177]; rfl) rfl (Nat.le_of_ble_eq_true rfl) rfl
theorem r_198_354 (l0 l1 l2 l3 l4 : Value) (a : Int32) (st : List Value) (ws : ai_W) : ai_Run 198 354 [l0, l1, l2, l3, l4, .int a] st ws = ai_Run 198 356 [l0, l1, l2, l3, l4, .int a] (.int a :: st) ws := R_iload hc_198 dL_does_354 rfl rfl
theorem r_198_356 (ls : List Value) (r : Value) (b0 : Int32) (s0 s1 : Value) (ws : ai_W) : ai_Run 198 356 ls [.int b0, r, s0, s1] ws = (ai_Call 182 [r, .int b0] ws).bind fun q => ai_Run 198 359 ls (q.1.toList ++ [s0, s1]) q.2 := R_callV hc_198 dL_does_356 hv_198 (w := 902) rfl (ai_lt3 hf_182 hf_198 hL_182 ho_182 ho_198 rfl) hk_182 (by rw [hn_182]; rfl) rfl (Nat.le_of_ble_eq_true rfl) rfl
theorem r_198_359 (ls : List Value) (r : Value) (s0 s1 : Value) (ws : ai_W) : ai_Run 198 359 ls [r, s0, s1] ws = (ai_Call 191 [r] ws).bind fun q => ai_Run 198 362 ls (q.1.toList ++ [s0, s1]) q.2 := R_callV hc_198 dL_does_359 hv_198 (w := 930) rfl (ai_lt3 hf_191 hf_198 hL_191 ho_191 ho_198 rfl) hk_191 (by rw [hn_191]; rfl) rfl (Nat.le_of_ble_eq_true rfl) rfl
theorem r_198_362 (ls st : List Value) (ws : ai_W) : ai_Run 198 362 ls st ws = ai_Run 198 439 ls st ws := R_goto hc_198 dL_does_362 rfl
theorem r_198_365 (ls st : List Value) (ws : ai_W) : ai_Run 198 365 ls st ws = ai_Run 198 368 ls (.ref ws.length :: st) (ws ++ [ai_blank 11]) := R_new hc_198 dL_does_365 hv_198 (w1 := 755) (w2 := 756) (w3 := 37) rfl rfl
theorem r_198_368 (ls st : List Value) (a : Nat) (ws : ai_W) : ai_Run 198 368 ls (.ref a :: st) ws = ai_Run 198 369 ls (.ref a :: .ref a :: st) ws := R_dup hc_198 dL_does_368 rfl
theorem r_198_369 (ls : List Value) (r : Value) (s0 s1 s2 : Value) (ws : ai_W) : ai_Run 198 369 ls [r, s0, s1, s2] ws = (ai_Call 169 [r] ws).bind fun q => ai_Run 198 372 ls (q.1.toList ++ [s0, s1, s2]) q.2 := R_callI hc_198 dL_does_369 hv_198 (w := 757) (Or.inl rfl) (ai_lt3 hf_169 hf_198 hL_169 ho_169 ho_198 rfl) hk_169 (by rw [hn_169]; rfl) rfl (Nat.le_of_ble_eq_true rfl) rfl
theorem r_198_372 (ls st : List Value) (ws : ai_W) : ai_Run 198 372 ls st ws = ai_Run 198 374 ls (.retAddr 8 :: st) ws := R_ldcs (k := 7) hc_198 dL_does_372 rfl (by decide) rfl
theorem r_198_374 (ls : List Value) (r : Value) (b0 : Value) (s0 s1 : Value) (ws : ai_W) : ai_Run 198 374 ls [b0, r, s0, s1] ws = (ai_Call 177 [r, b0] ws).bind fun q => ai_Run 198 377 ls (q.1.toList ++ [s0, s1]) q.2 := R_callV hc_198 dL_does_374 hv_198 (w := 788) rfl (ai_lt3 hf_177 hf_198 hL_177 ho_177 ho_198 rfl) hk_177 (by rw [hn_177]; rfl) rfl (Nat.le_of_ble_eq_true rfl) rfl
theorem r_198_377 (l0 l1 l2 l3 l4 : Value) (a : Int32) (st : List Value) (ws : ai_W) : ai_Run 198 377 [l0, l1, l2, l3, l4, .int a] st ws = ai_Run 198 379 [l0, l1, l2, l3, l4, .int a] (.int a :: st) ws := R_iload hc_198 dL_does_377 rfl rfl
theorem r_198_379 (ls : List Value) (r : Value) (b0 : Int32) (s0 s1 : Value) (ws : ai_W) : ai_Run 198 379 ls [.int b0, r, s0, s1] ws = (ai_Call 182 [r, .int b0] ws).bind fun q => ai_Run 198 382 ls (q.1.toList ++ [s0, s1]) q.2 := R_callV hc_198 dL_does_379 hv_198 (w := 902) rfl (ai_lt3 hf_182 hf_198 hL_182 ho_182 ho_198 rfl) hk_182 (by rw [hn_182]; rfl) rfl (Nat.le_of_ble_eq_true rfl) rfl
theorem r_198_382 (ls st : List Value) (ws : ai_W) : ai_Run 198 382 ls st ws = ai_Run 198 384 ls (.retAddr 7 :: st) ws := R_ldcs (k := 6) hc_198 dL_does_382 rfl (by decide) rfl
theorem r_198_384 (ls : List Value) (r : Value) (b0 : Value) (s0 s1 : Value) (ws : ai_W) : ai_Run 198 384 ls [b0, r, s0, s1] ws = (ai_Call 177 [r, b0] ws).bind fun q => ai_Run 198 387 ls (q.1.toList ++ [s0, s1]) q.2 := R_callV hc_198 dL_does_384 hv_198 (w := 788) rfl (ai_lt3 hf_177 hf_198 hL_177 ho_177 ho_198 rfl) hk_177 (by rw [hn_177]; rfl) rfl (Nat.le_of_ble_eq_true rfl) rfl
theorem r_198_387 (l0 l1 l2 l3 l5 : Value) (a : Int32) (st : List Value) (ws : ai_W) : ai_Run 198 387 [l0, l1, l2, l3, .int a, l5] st ws = ai_Run 198 389 [l0, l1, l2, l3, .int a, l5] (.int a :: st) ws := R_iload hc_198 dL_does_387 rfl rfl
theorem r_198_389 (ls : List Value) (r : Value) (b0 : Int32) (s0 s1 : Value) (ws : ai_W) : ai_Run 198 389 ls [.int b0, r, s0, s1] ws = (ai_Call 182 [r, .int b0] ws).bind fun q => ai_Run 198 392 ls (q.1.toList ++ [s0, s1]) q.2 := R_callV hc_198 dL_does_389 hv_198 (w := 902) rfl (ai_lt3 hf_182 hf_198 hL_182 ho_182 ho_198 rfl) hk_182 (by rw [hn_182]; rfl) rfl (Nat.le_of_ble_eq_true rfl) rfl
theorem r_198_392 (ls st : List Value) (ws : ai_W) : ai_Run 198 392 ls st ws = ai_Run 198 394 ls (.retAddr 9 :: st) ws := R_ldcs (k := 8) hc_198 dL_does_392 rfl (by decide) rfl
theorem r_198_394 (ls : List Value) (r : Value) (b0 : Value) (s0 s1 : Value) (ws : ai_W) : ai_Run 198 394 ls [b0, r, s0, s1] ws = (ai_Call 177 [r, b0] ws).bind fun q => ai_Run 198 397 ls (q.1.toList ++ [s0, s1]) q.2 := R_callV hc_198 dL_does_394 hv_198 (w := 788) rfl (ai_lt3 hf_177 hf_198 hL_177 ho_177 ho_198 rfl) hk_177 (by rw [hn_177]; rfl) rfl (Nat.le_of_ble_eq_true rfl) rfl
theorem r_198_397 (l0 l1 l2 l4 l5 : Value) (a : Int32) (st : List Value) (ws : ai_W) : ai_Run 198 397 [l0, l1, l2, .int a, l4, l5] st ws = ai_Run 198 398 [l0, l1, l2, .int a, l4, l5] (.int a :: st) ws := R_iload_n hc_198 dL_does_397 rfl rfl
theorem r_198_398 (ls : List Value) (r : Value) (b0 : Int32) (s0 s1 : Value) (ws : ai_W) : ai_Run 198 398 ls [.int b0, r, s0, s1] ws = (ai_Call 182 [r, .int b0] ws).bind fun q => ai_Run 198 401 ls (q.1.toList ++ [s0, s1]) q.2 := R_callV hc_198 dL_does_398 hv_198 (w := 902) rfl (ai_lt3 hf_182 hf_198 hL_182 ho_182 ho_198 rfl) hk_182 (by rw [hn_182]; rfl) rfl (Nat.le_of_ble_eq_true rfl) rfl
theorem r_198_401 (l0 l1 l2 l3 l4 : Value) (a : Int32) (st : List Value) (ws : ai_W) : ai_Run 198 401 [l0, l1, l2, l3, l4, .int a] st ws = ai_Run 198 403 [l0, l1, l2, l3, l4, .int a] (.int a :: st) ws := R_iload hc_198 dL_does_401 rfl rfl
theorem r_198_403 (ls st : List Value) (ws : ai_W) : ai_Run 198 403 ls st ws = ai_Run 198 404 ls (.int 2 :: st) ws := R_iconst hc_198 dL_does_403 (by decide) rfl
theorem r_198_404 (ls st : List Value) (a : Int32) (ws : ai_W) : ai_Run 198 404 ls (.int 2 :: .int a :: st) ws = ai_Run 198 405 ls (.int (a - a / 2 * 2) :: st) ws := R_irem hc_198 dL_does_404 (by decide) rfl
theorem r_198_405 (ls st : List Value) (a : Int32) (ws : ai_W) : ai_Run 198 405 ls (.int a :: st) ws = if a = 0 then ai_Run 198 408 ls st ws else ai_Run 198 413 ls st ws := R_if_ne hc_198 dL_does_405 rfl rfl
theorem r_198_408 (ls st : List Value) (ws : ai_W) : ai_Run 198 408 ls st ws = ai_Run 198 410 ls (.retAddr 10 :: st) ws := R_ldcs (k := 9) hc_198 dL_does_408 rfl (by decide) rfl
theorem r_198_410 (ls st : List Value) (ws : ai_W) : ai_Run 198 410 ls st ws = ai_Run 198 433 ls st ws := R_goto hc_198 dL_does_410 rfl
theorem r_198_413 (ls st : List Value) (ws : ai_W) : ai_Run 198 413 ls st ws = ai_Run 198 416 ls (.ref ws.length :: st) (ws ++ [ai_blank 11]) := R_new hc_198 dL_does_413 hv_198 (w1 := 755) (w2 := 756) (w3 := 37) rfl rfl
theorem r_198_416 (ls st : List Value) (a : Nat) (ws : ai_W) : ai_Run 198 416 ls (.ref a :: st) ws = ai_Run 198 417 ls (.ref a :: .ref a :: st) ws := R_dup hc_198 dL_does_416 rfl
theorem r_198_417 (ls : List Value) (r : Value) (s0 s1 s2 s3 : Value) (ws : ai_W) : ai_Run 198 417 ls [r, s0, s1, s2, s3] ws = (ai_Call 169 [r] ws).bind fun q => ai_Run 198 420 ls (q.1.toList ++ [s0, s1, s2, s3]) q.2 := R_callI hc_198 dL_does_417 hv_198 (w := 757) (Or.inl rfl) (ai_lt3 hf_169 hf_198 hL_169 ho_169 ho_198 rfl) hk_169 (by rw [hn_169]; rfl) rfl (Nat.le_of_ble_eq_true rfl) rfl
theorem r_198_420 (ls st : List Value) (ws : ai_W) : ai_Run 198 420 ls st ws = ai_Run 198 422 ls (.retAddr 2 :: st) ws := R_ldcs (k := 1) hc_198 dL_does_420 rfl (by decide) rfl
theorem r_198_422 (ls : List Value) (r : Value) (b0 : Value) (s0 s1 s2 : Value) (ws : ai_W) : ai_Run 198 422 ls [b0, r, s0, s1, s2] ws = (ai_Call 177 [r, b0] ws).bind fun q => ai_Run 198 425 ls (q.1.toList ++ [s0, s1, s2]) q.2 := R_callV hc_198 dL_does_422 hv_198 (w := 788) rfl (ai_lt3 hf_177 hf_198 hL_177 ho_177 ho_198 rfl) hk_177 (by rw [hn_177]; rfl) rfl (Nat.le_of_ble_eq_true rfl) rfl
theorem r_198_425 (l0 l1 l2 l3 l5 : Value) (a : Int32) (st : List Value) (ws : ai_W) : ai_Run 198 425 [l0, l1, l2, l3, .int a, l5] st ws = ai_Run 198 427 [l0, l1, l2, l3, .int a, l5] (.int a :: st) ws := R_iload hc_198 dL_does_425 rfl rfl
theorem r_198_427 (ls : List Value) (r : Value) (b0 : Int32) (s0 s1 s2 : Value) (ws : ai_W) : ai_Run 198 427 ls [.int b0, r, s0, s1, s2] ws = (ai_Call 182 [r, .int b0] ws).bind fun q => ai_Run 198 430 ls (q.1.toList ++ [s0, s1, s2]) q.2 := R_callV hc_198 dL_does_427 hv_198 (w := 902) rfl (ai_lt3 hf_182 hf_198 hL_182 ho_182 ho_198 rfl) hk_182 (by rw [hn_182]; rfl) rfl (Nat.le_of_ble_eq_true rfl) rfl
theorem r_198_430 (ls : List Value) (r : Value) (s0 s1 s2 : Value) (ws : ai_W) : ai_Run 198 430 ls [r, s0, s1, s2] ws = (ai_Call 191 [r] ws).bind fun q => ai_Run 198 433 ls (q.1.toList ++ [s0, s1, s2]) q.2 := R_callV hc_198 dL_does_430 hv_198 (w := 930) rfl (ai_lt3 hf_191 hf_198 hL_191 ho_191 ho_198 rfl) hk_191 (by rw [hn_191]; rfl) rfl (Nat.le_of_ble_eq_true rfl) rfl
theorem r_198_433 (ls : List Value) (r : Value) (b0 : Value) (s0 s1 : Value) (ws : ai_W) : ai_Run 198 433 ls [b0, r, s0, s1] ws = (ai_Call 177 [r, b0] ws).bind fun q => ai_Run 198 436 ls (q.1.toList ++ [s0, s1]) q.2 := R_callV hc_198 dL_does_433 hv_198 (w := 788) rfl (ai_lt3 hf_177 hf_198 hL_177 ho_177 ho_198 rfl) hk_177 (by rw [hn_177]; rfl) rfl (Nat.le_of_ble_eq_true rfl) rfl
theorem r_198_436 (ls : List Value) (r : Value) (s0 s1 : Value) (ws : ai_W) : ai_Run 198 436 ls [r, s0, s1] ws = (ai_Call 191 [r] ws).bind fun q => ai_Run 198 439 ls (q.1.toList ++ [s0, s1]) q.2 := R_callV hc_198 dL_does_436 hv_198 (w := 930) rfl (ai_lt3 hf_191 hf_198 hL_191 ho_191 ho_198 rfl) hk_191 (by rw [hn_191]; rfl) rfl (Nat.le_of_ble_eq_true rfl) rfl
theorem r_198_439 (ls : List Value) (r : Value) (b0 : Value) (s0 : Value) (ws : ai_W) : ai_Run 198 439 ls [b0, r, s0] ws = (ai_Call 177 [r, b0] ws).bind fun q => ai_Run 198 442 ls (q.1.toList ++ [s0]) q.2 := R_callV hc_198 dL_does_439 hv_198 (w := 788) rfl (ai_lt3 hf_177 hf_198 hL_177 ho_177 ho_198 rfl) hk_177 (by rw [hn_177]; rfl) rfl (Nat.le_of_ble_eq_true rfl) rfl
theorem r_198_442 (ls : List Value) (r : Value) (s0 : Value) (ws : ai_W) : ai_Run 198 442 ls [r, s0] ws = (ai_Call 191 [r] ws).bind fun q => ai_Run 198 445 ls (q.1.toList ++ [s0]) q.2 := R_callV hc_198 dL_does_442 hv_198 (w := 930) rfl (ai_lt3 hf_191 hf_198 hL_191 ho_191 ho_198 rfl) hk_191 (by rw [hn_191]; rfl) rfl (Nat.le_of_ble_eq_true rfl) rfl
theorem r_198_445 (ls : List Value) (b0 : Value) (b1 : Value) (ws : ai_W) : ai_Run 198 445 ls [b1, b0] ws = (ai_Call 197 [b0, b1] ws).bind fun q => ai_Run 198 448 ls (q.1.toList ++ []) q.2 := R_callS hc_198 dL_does_445 hv_198 (w := 996) rfl (ai_lt3 hf_197 hf_198 hL_197 ho_197 ho_198 rfl) hk_197 (by rw [hn_197]; rfl) rfl (Nat.le_of_ble_eq_true rfl) rfl
theorem r_198_448 (ls : List Value) (x : Int32) (ws : ai_W) : ai_Run 198 448 ls [.int x] ws = some (some (.int x), ws) := R_iret hc_198 dL_does_448 ht_198
