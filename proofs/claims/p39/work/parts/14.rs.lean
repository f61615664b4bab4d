/-! rules: printed by gen2.py -/
theorem dX10_account_0 : decode cX10_account 0 = .ok (.iload_n 1, 1) := by decide +kernel
theorem dX10_account_1 : decode cX10_account 1 = .ok (.tableswitch 147 0 10 #[59, 67, 75, 83, 91, 99, 107, 115, 123, 131, 139], 59) := by decide +kernel
theorem dX10_account_60 : decode cX10_account 60 = .ok (.aload_n 0, 1) := by decide +kernel
theorem dX10_account_61 : decode cX10_account 61 = .ok (.getfield 21, 3) := by decide +kernel
theorem dX10_account_64 : decode cX10_account 64 = .ok (.getfield 301, 3) := by decide +kernel
theorem dX10_account_67 : decode cX10_account 67 = .ok (.ireturn, 1) := by decide +kernel
theorem dX10_account_68 : decode cX10_account 68 = .ok (.aload_n 0, 1) := by decide +kernel
theorem dX10_account_69 : decode cX10_account 69 = .ok (.getfield 21, 3) := by decide +kernel
theorem dX10_account_72 : decode cX10_account 72 = .ok (.getfield 305, 3) := by decide +kernel
theorem dX10_account_75 : decode cX10_account 75 = .ok (.ireturn, 1) := by decide +kernel
theorem dX10_account_76 : decode cX10_account 76 = .ok (.aload_n 0, 1) := by decide +kernel
theorem dX10_account_77 : decode cX10_account 77 = .ok (.getfield 38, 3) := by decide +kernel
theorem dX10_account_80 : decode cX10_account 80 = .ok (.invokevirtual 308, 3) := by decide +kernel
theorem dX10_account_83 : decode cX10_account 83 = .ok (.ireturn, 1) := by decide +kernel
theorem dX10_account_84 : decode cX10_account 84 = .ok (.aload_n 0, 1) := by decide +kernel
theorem dX10_account_85 : decode cX10_account 85 = .ok (.getfield 38, 3) := by decide +kernel
theorem dX10_account_88 : decode cX10_account 88 = .ok (.invokevirtual 311, 3) := by decide +kernel
theorem dX10_account_91 : decode cX10_account 91 = .ok (.ireturn, 1) := by decide +kernel
theorem dX10_account_92 : decode cX10_account 92 = .ok (.aload_n 0, 1) := by decide +kernel
theorem dX10_account_93 : decode cX10_account 93 = .ok (.getfield 38, 3) := by decide +kernel
theorem dX10_account_96 : decode cX10_account 96 = .ok (.invokevirtual 314, 3) := by decide +kernel
theorem dX10_account_99 : decode cX10_account 99 = .ok (.ireturn, 1) := by decide +kernel
theorem dX10_account_100 : decode cX10_account 100 = .ok (.aload_n 0, 1) := by decide +kernel
theorem dX10_account_101 : decode cX10_account 101 = .ok (.getfield 31, 3) := by decide +kernel
theorem dX10_account_104 : decode cX10_account 104 = .ok (.invokevirtual 317, 3) := by decide +kernel
theorem dX10_account_107 : decode cX10_account 107 = .ok (.ireturn, 1) := by decide +kernel
theorem dX10_account_108 : decode cX10_account 108 = .ok (.aload_n 0, 1) := by decide +kernel
theorem dX10_account_109 : decode cX10_account 109 = .ok (.getfield 21, 3) := by decide +kernel
theorem dX10_account_112 : decode cX10_account 112 = .ok (.getfield 320, 3) := by decide +kernel
theorem dX10_account_115 : decode cX10_account 115 = .ok (.ireturn, 1) := by decide +kernel
theorem dX10_account_116 : decode cX10_account 116 = .ok (.aload_n 0, 1) := by decide +kernel
theorem dX10_account_117 : decode cX10_account 117 = .ok (.getfield 38, 3) := by decide +kernel
theorem dX10_account_120 : decode cX10_account 120 = .ok (.invokevirtual 323, 3) := by decide +kernel
theorem dX10_account_123 : decode cX10_account 123 = .ok (.ireturn, 1) := by decide +kernel
theorem dX10_account_124 : decode cX10_account 124 = .ok (.aload_n 0, 1) := by decide +kernel
theorem dX10_account_125 : decode cX10_account 125 = .ok (.getfield 21, 3) := by decide +kernel
theorem dX10_account_128 : decode cX10_account 128 = .ok (.invokevirtual 326, 3) := by decide +kernel
theorem dX10_account_131 : decode cX10_account 131 = .ok (.ireturn, 1) := by decide +kernel
theorem dX10_account_132 : decode cX10_account 132 = .ok (.aload_n 0, 1) := by decide +kernel
theorem dX10_account_133 : decode cX10_account 133 = .ok (.getfield 65, 3) := by decide +kernel
theorem dX10_account_136 : decode cX10_account 136 = .ok (.invokevirtual 272, 3) := by decide +kernel
theorem dX10_account_139 : decode cX10_account 139 = .ok (.ireturn, 1) := by decide +kernel
theorem dX10_account_140 : decode cX10_account 140 = .ok (.aload_n 0, 1) := by decide +kernel
theorem dX10_account_141 : decode cX10_account 141 = .ok (.getfield 58, 3) := by decide +kernel
theorem dX10_account_144 : decode cX10_account 144 = .ok (.invokevirtual 329, 3) := by decide +kernel
theorem dX10_account_147 : decode cX10_account 147 = .ok (.ireturn, 1) := by decide +kernel
theorem dX10_account_148 : decode cX10_account 148 = .ok (.bipush (-2), 2) := by decide +kernel
theorem dX10_account_150 : decode cX10_account 150 = .ok (.ireturn, 1) := by decide +kernel
theorem e_28 (r : Nat) (a0 : Int32) (ws : ai_W) : ai_Call 28 [.ref r, .int a0] ws = if ai_isob ws r 10 = true then ai_Run 28 0 [.ref r, .int a0] [] ws else none := R_entV hk_28 ⟨⟨rfl, rfl⟩, Nat.le_of_ble_eq_true rfl⟩ rfl
theorem r_28_0 (l0 : Value) (a : Int32) (st : List Value) (ws : ai_W) : ai_Run 28 0 [l0, .int a] st ws = ai_Run 28 1 [l0, .int a] (.int a :: st) ws := R_iload_n hc_28 dX10_account_0 rfl rfl
theorem r_28_1 (ls st : List Value) (x : Int32) (ws : ai_W) : ai_Run 28 1 ls (.int x :: st) ws = if x = 0 then ai_Run 28 60 ls st ws else if x = 1 then ai_Run 28 68 ls st ws else if x = 2 then ai_Run 28 76 ls st ws else if x = 3 then ai_Run 28 84 ls st ws else if x = 4 then ai_Run 28 92 ls st ws else if x = 5 then ai_Run 28 100 ls st ws else if x = 6 then ai_Run 28 108 ls st ws else if x = 7 then ai_Run 28 116 ls st ws else if x = 8 then ai_Run 28 124 ls st ws else if x = 9 then ai_Run 28 132 ls st ws else if x = 10 then ai_Run 28 140 ls st ws else ai_Run 28 148 ls st ws := by
  by_cases h0 : x = 0
  · subst h0; rw [if_pos rfl]; exact R_switch hc_28 dX10_account_1 (by decide +kernel)
  rw [if_neg h0]
  by_cases h1 : x = 1
  · subst h1; rw [if_pos rfl]; exact R_switch hc_28 dX10_account_1 (by decide +kernel)
  rw [if_neg h1]
  by_cases h2 : x = 2
  · subst h2; rw [if_pos rfl]; exact R_switch hc_28 dX10_account_1 (by decide +kernel)
  rw [if_neg h2]
  by_cases h3 : x = 3
  · subst h3; rw [if_pos rfl]; exact R_switch hc_28 dX10_account_1 (by decide +kernel)
  rw [if_neg h3]
  by_cases h4 : x = 4
  · subst h4; rw [if_pos rfl]; exact R_switch hc_28 dX10_account_1 (by decide +kernel)
  rw [if_neg h4]
  by_cases h5 : x = 5
  · subst h5; rw [if_pos rfl]; exact R_switch hc_28 dX10_account_1 (by decide +kernel)
  rw [if_neg h5]
  by_cases h6 : x = 6
  · subst h6; rw [if_pos rfl]; exact R_switch hc_28 dX10_account_1 (by decide +kernel)
  rw [if_neg h6]
  by_cases h7 : x = 7
  · subst h7; rw [if_pos rfl]; exact R_switch hc_28 dX10_account_1 (by decide +kernel)
  rw [if_neg h7]
  by_cases h8 : x = 8
  · subst h8; rw [if_pos rfl]; exact R_switch hc_28 dX10_account_1 (by decide +kernel)
  rw [if_neg h8]
  by_cases h9 : x = 9
  · subst h9; rw [if_pos rfl]; exact R_switch hc_28 dX10_account_1 (by decide +kernel)
  rw [if_neg h9]
  by_cases h10 : x = 10
  · subst h10; rw [if_pos rfl]; exact R_switch hc_28 dX10_account_1 (by decide +kernel)
  rw [if_neg h10]
  have q0 : x.toInt ≠ 0 := fun e => h0 (Int32.toInt_inj.mp e)
  have q1 : x.toInt ≠ 1 := fun e => h1 (Int32.toInt_inj.mp e)
  have q2 : x.toInt ≠ 2 := fun e => h2 (Int32.toInt_inj.mp e)
  have q3 : x.toInt ≠ 3 := fun e => h3 (Int32.toInt_inj.mp e)
  have q4 : x.toInt ≠ 4 := fun e => h4 (Int32.toInt_inj.mp e)
  have q5 : x.toInt ≠ 5 := fun e => h5 (Int32.toInt_inj.mp e)
  have q6 : x.toInt ≠ 6 := fun e => h6 (Int32.toInt_inj.mp e)
  have q7 : x.toInt ≠ 7 := fun e => h7 (Int32.toInt_inj.mp e)
  have q8 : x.toInt ≠ 8 := fun e => h8 (Int32.toInt_inj.mp e)
  have q9 : x.toInt ≠ 9 := fun e => h9 (Int32.toInt_inj.mp e)
  have q10 : x.toInt ≠ 10 := fun e => h10 (Int32.toInt_inj.mp e)
  refine R_switch hc_28 dX10_account_1 (t := 148) ?_
  unfold ai_sw
  rw [if_pos (by omega)]
  rfl
theorem r_28_60 (l1 : Value) (a : Nat) (st : List Value) (ws : ai_W) : ai_Run 28 60 [.ref a, l1] st ws = ai_Run 28 61 [.ref a, l1] (.ref a :: st) ws := R_aload_n hc_28 dX10_account_60 rfl rfl
theorem r_28_61 (ls st : List Value) (a : Nat) (ws : ai_W) : ai_Run 28 61 ls (.ref a :: st) ws = (ai_fget ws a 10 0).bind fun q => ai_Run 28 64 ls (q :: st) ws := R_getf hc_28 dX10_account_61 hv_28 (w := 655) rfl rfl
theorem r_28_64 (ls st : List Value) (a : Nat) (ws : ai_W) : ai_Run 28 64 ls (.ref a :: st) ws = (ai_fget ws a 0 0).bind fun q => ai_Run 28 67 ls (q :: st) ws := R_getf hc_28 dX10_account_64 hv_28 (w := 467) rfl rfl
theorem r_28_67 (ls : List Value) (x : Int32) (ws : ai_W) : ai_Run 28 67 ls [.int x] ws = some (some (.int x), ws) := R_iret hc_28 dX10_account_67 ht_28
theorem r_28_68 (l1 : Value) (a : Nat) (st : List Value) (ws : ai_W) : ai_Run 28 68 [.ref a, l1] st ws = ai_Run 28 69 [.ref a, l1] (.ref a :: st) ws := R_aload_n hc_28 dX10_account_68 rfl rfl
theorem r_28_69 (ls st : List Value) (a : Nat) (ws : ai_W) : ai_Run 28 69 ls (.ref a :: st) ws = (ai_fget ws a 10 0).bind fun q => ai_Run 28 72 ls (q :: st) ws := R_getf hc_28 dX10_account_69 hv_28 (w := 655) rfl rfl
theorem r_28_72 (ls st : List Value) (a : Nat) (ws : ai_W) : ai_Run 28 72 ls (.ref a :: st) ws = (ai_fget ws a 0 1).bind fun q => ai_Run 28 75 ls (q :: st) ws := R_getf hc_28 dX10_account_72 hv_28 (w := 471) rfl rfl
theorem r_28_75 (ls : List Value) (x : Int32) (ws : ai_W) : ai_Run 28 75 ls [.int x] ws = some (some (.int x), ws) := R_iret hc_28 dX10_account_75 ht_28
theorem r_28_76 (l1 : Value) (a : Nat) (st : List Value) (ws : ai_W) : ai_Run 28 76 [.ref a, l1] st ws = ai_Run 28 77 [.ref a, l1] (.ref a :: st) ws := R_aload_n hc_28 dX10_account_76 rfl rfl
theorem r_28_77 (ls st : List Value) (a : Nat) (ws : ai_W) : ai_Run 28 77 ls (.ref a :: st) ws = (ai_fget ws a 10 3).bind fun q => ai_Run 28 80 ls (q :: st) ws := R_getf hc_28 dX10_account_77 hv_28 (w := 658) rfl rfl
theorem r_28_80 (ls : List Value) (r : Nat) (ws : ai_W) : ai_Run 28 80 ls [.ref r] ws = (ai_Call 14 [.ref r] ws).bind fun q => ai_Run 28 83 ls (q.1.toList ++ []) q.2 := R_callV hc_28 dX10_account_80 hv_28 (w := 346) rfl (ai_lt3 hf_14 hf_28 hL_14 ho_14 ho_28 rfl) hk_14 (by rw [hn_14]; rfl) rfl (Nat.le_of_ble_eq_true rfl) rfl
theorem r_28_83 (ls : List Value) (x : Int32) (ws : ai_W) : ai_Run 28 83 ls [.int x] ws = some (some (.int x), ws) := R_iret hc_28 dX10_account_83 ht_28
theorem r_28_84 (l1 : Value) (a : Nat) (st : List Value) (ws : ai_W) : ai_Run 28 84 [.ref a, l1] st ws = ai_Run 28 85 [.ref a, l1] (.ref a :: st) ws := R_aload_n hc_28 dX10_account_84 rfl rfl
theorem r_28_85 (ls st : List Value) (a : Nat) (ws : ai_W) : ai_Run 28 85 ls (.ref a :: st) ws = (ai_fget ws a 10 3).bind fun q => ai_Run 28 88 ls (q :: st) ws := R_getf hc_28 dX10_account_85 hv_28 (w := 658) rfl rfl
theorem r_28_88 (ls : List Value) (r : Nat) (ws : ai_W) : ai_Run 28 88 ls [.ref r] ws = (ai_Call 16 [.ref r] ws).bind fun q => ai_Run 28 91 ls (q.1.toList ++ []) q.2 := R_callV hc_28 dX10_account_88 hv_28 (w := 350) rfl (ai_lt3 hf_16 hf_28 hL_16 ho_16 ho_28 rfl) hk_16 (by rw [hn_16]; rfl) rfl (Nat.le_of_ble_eq_true rfl) rfl
theorem r_28_91 (ls : List Value) (x : Int32) (ws : ai_W) : ai_Run 28 91 ls [.int x] ws = some (some (.int x), ws) := R_iret hc_28 dX10_account_91 ht_28
theorem r_28_92 (l1 : Value) (a : Nat) (st : List Value) (ws : ai_W) : ai_Run 28 92 [.ref a, l1] st ws = ai_Run 28 93 [.ref a, l1] (.ref a :: st) ws := R_aload_n hc_28 dX10_account_92 rfl rfl
theorem r_28_93 (ls st : List Value) (a : Nat) (ws : ai_W) : ai_Run 28 93 ls (.ref a :: st) ws = (ai_fget ws a 10 3).bind fun q => ai_Run 28 96 ls (q :: st) ws := R_getf hc_28 dX10_account_93 hv_28 (w := 658) rfl rfl
theorem r_28_96 (ls : List Value) (r : Nat) (ws : ai_W) : ai_Run 28 96 ls [.ref r] ws = (ai_Call 20 [.ref r] ws).bind fun q => ai_Run 28 99 ls (q.1.toList ++ []) q.2 := R_callV hc_28 dX10_account_96 hv_28 (w := 358) rfl (ai_lt3 hf_20 hf_28 hL_20 ho_20 ho_28 rfl) hk_20 (by rw [hn_20]; rfl) rfl (Nat.le_of_ble_eq_true rfl) rfl
theorem r_28_99 (ls : List Value) (x : Int32) (ws : ai_W) : ai_Run 28 99 ls [.int x] ws = some (some (.int x), ws) := R_iret hc_28 dX10_account_99 ht_28
theorem r_28_100 (l1 : Value) (a : Nat) (st : List Value) (ws : ai_W) : ai_Run 28 100 [.ref a, l1] st ws = ai_Run 28 101 [.ref a, l1] (.ref a :: st) ws := R_aload_n hc_28 dX10_account_100 rfl rfl
theorem r_28_101 (ls st : List Value) (a : Nat) (ws : ai_W) : ai_Run 28 101 ls (.ref a :: st) ws = (ai_fget ws a 10 2).bind fun q => ai_Run 28 104 ls (q :: st) ws := R_getf hc_28 dX10_account_101 hv_28 (w := 657) rfl rfl
theorem r_28_104 (ls : List Value) (r : Nat) (ws : ai_W) : ai_Run 28 104 ls [.ref r] ws = (ai_Call 22 [.ref r] ws).bind fun q => ai_Run 28 107 ls (q.1.toList ++ []) q.2 := R_callV hc_28 dX10_account_104 hv_28 (w := 367) rfl (ai_lt3 hf_22 hf_28 hL_22 ho_22 ho_28 rfl) hk_22 (by rw [hn_22]; rfl) rfl (Nat.le_of_ble_eq_true rfl) rfl
theorem r_28_107 (ls : List Value) (x : Int32) (ws : ai_W) : ai_Run 28 107 ls [.int x] ws = some (some (.int x), ws) := R_iret hc_28 dX10_account_107 ht_28
theorem r_28_108 (l1 : Value) (a : Nat) (st : List Value) (ws : ai_W) : ai_Run 28 108 [.ref a, l1] st ws = ai_Run 28 109 [.ref a, l1] (.ref a :: st) ws := R_aload_n hc_28 dX10_account_108 rfl rfl
theorem r_28_109 (ls st : List Value) (a : Nat) (ws : ai_W) : ai_Run 28 109 ls (.ref a :: st) ws = (ai_fget ws a 10 0).bind fun q => ai_Run 28 112 ls (q :: st) ws := R_getf hc_28 dX10_account_109 hv_28 (w := 655) rfl rfl
theorem r_28_112 (ls st : List Value) (a : Nat) (ws : ai_W) : ai_Run 28 112 ls (.ref a :: st) ws = (ai_fget ws a 0 2).bind fun q => ai_Run 28 115 ls (q :: st) ws := R_getf hc_28 dX10_account_112 hv_28 (w := 474) rfl rfl
theorem r_28_115 (ls : List Value) (x : Int32) (ws : ai_W) : ai_Run 28 115 ls [.int x] ws = some (some (.int x), ws) := R_iret hc_28 dX10_account_115 ht_28
theorem r_28_116 (l1 : Value) (a : Nat) (st : List Value) (ws : ai_W) : ai_Run 28 116 [.ref a, l1] st ws = ai_Run 28 117 [.ref a, l1] (.ref a :: st) ws := R_aload_n hc_28 dX10_account_116 rfl rfl
theorem r_28_117 (ls st : List Value) (a : Nat) (ws : ai_W) : ai_Run 28 117 ls (.ref a :: st) ws = (ai_fget ws a 10 3).bind fun q => ai_Run 28 120 ls (q :: st) ws := R_getf hc_28 dX10_account_117 hv_28 (w := 658) rfl rfl
theorem r_28_120 (ls : List Value) (r : Nat) (ws : ai_W) : ai_Run 28 120 ls [.ref r] ws = (ai_Call 24 [.ref r] ws).bind fun q => ai_Run 28 123 ls (q.1.toList ++ []) q.2 := R_callV hc_28 dX10_account_120 hv_28 (w := 368) rfl (ai_lt3 hf_24 hf_28 hL_24 ho_24 ho_28 rfl) hk_24 (by rw [hn_24]; rfl) rfl (Nat.le_of_ble_eq_true rfl) rfl
theorem r_28_123 (ls : List Value) (x : Int32) (ws : ai_W) : ai_Run 28 123 ls [.int x] ws = some (some (.int x), ws) := R_iret hc_28 dX10_account_123 ht_28
theorem r_28_124 (l1 : Value) (a : Nat) (st : List Value) (ws : ai_W) : ai_Run 28 124 [.ref a, l1] st ws = ai_Run 28 125 [.ref a, l1] (.ref a :: st) ws := R_aload_n hc_28 dX10_account_124 rfl rfl
theorem r_28_125 (ls st : List Value) (a : Nat) (ws : ai_W) : ai_Run 28 125 ls (.ref a :: st) ws = (ai_fget ws a 10 0).bind fun q => ai_Run 28 128 ls (q :: st) ws := R_getf hc_28 dX10_account_125 hv_28 (w := 655) rfl rfl
theorem r_28_128 (ls : List Value) (r : Nat) (ws : ai_W) : ai_Run 28 128 ls [.ref r] ws = (ai_Call 25 [.ref r] ws).bind fun q => ai_Run 28 131 ls (q.1.toList ++ []) q.2 := R_callV hc_28 dX10_account_128 hv_28 (w := 376) rfl (ai_lt3 hf_25 hf_28 hL_25 ho_25 ho_28 rfl) hk_25 (by rw [hn_25]; rfl) rfl (Nat.le_of_ble_eq_true rfl) rfl
theorem r_28_131 (ls : List Value) (x : Int32) (ws : ai_W) : ai_Run 28 131 ls [.int x] ws = some (some (.int x), ws) := R_iret hc_28 dX10_account_131 ht_28
theorem r_28_132 (l1 : Value) (a : Nat) (st : List Value) (ws : ai_W) : ai_Run 28 132 [.ref a, l1] st ws = ai_Run 28 133 [.ref a, l1] (.ref a :: st) ws := R_aload_n hc_28 dX10_account_132 rfl rfl
theorem r_28_133 (ls st : List Value) (a : Nat) (ws : ai_W) : ai_Run 28 133 ls (.ref a :: st) ws = (ai_fget ws a 10 7).bind fun q => ai_Run 28 136 ls (q :: st) ws := R_getf hc_28 dX10_account_133 hv_28 (w := 662) rfl rfl
theorem r_28_136 (ls : List Value) (r : Nat) (ws : ai_W) : ai_Run 28 136 ls [.ref r] ws = (ai_Call 26 [.ref r] ws).bind fun q => ai_Run 28 139 ls (q.1.toList ++ []) q.2 := R_callV hc_28 dX10_account_136 hv_28 (w := 377) rfl (ai_lt3 hf_26 hf_28 hL_26 ho_26 ho_28 rfl) hk_26 (by rw [hn_26]; rfl) rfl (Nat.le_of_ble_eq_true rfl) rfl
theorem r_28_139 (ls : List Value) (x : Int32) (ws : ai_W) : ai_Run 28 139 ls [.int x] ws = some (some (.int x), ws) := R_iret hc_28 dX10_account_139 ht_28
theorem r_28_140 (l1 : Value) (a : Nat) (st : List Value) (ws : ai_W) : ai_Run 28 140 [.ref a, l1] st ws = ai_Run 28 141 [.ref a, l1] (.ref a :: st) ws := R_aload_n hc_28 dX10_account_140 rfl rfl
theorem r_28_141 (ls st : List Value) (a : Nat) (ws : ai_W) : ai_Run 28 141 ls (.ref a :: st) ws = (ai_fget ws a 10 6).bind fun q => ai_Run 28 144 ls (q :: st) ws := R_getf hc_28 dX10_account_141 hv_28 (w := 661) rfl rfl
theorem r_28_144 (ls : List Value) (r : Nat) (ws : ai_W) : ai_Run 28 144 ls [.ref r] ws = (ai_Call 27 [.ref r] ws).bind fun q => ai_Run 28 147 ls (q.1.toList ++ []) q.2 := R_callV hc_28 dX10_account_144 hv_28 (w := 381) rfl (ai_lt3 hf_27 hf_28 hL_27 ho_27 ho_28 rfl) hk_27 (by rw [hn_27]; rfl) rfl (Nat.le_of_ble_eq_true rfl) rfl
theorem r_28_147 (ls : List Value) (x : Int32) (ws : ai_W) : ai_Run 28 147 ls [.int x] ws = some (some (.int x), ws) := R_iret hc_28 dX10_account_147 ht_28
theorem r_28_148 (ls st : List Value) (ws : ai_W) : ai_Run 28 148 ls st ws = ai_Run 28 150 ls (.int (-2) :: st) ws := R_bipush hc_28 dX10_account_148 (by decide) rfl
theorem r_28_150 (ls : List Value) (x : Int32) (ws : ai_W) : ai_Run 28 150 ls [.int x] ws = some (some (.int x), ws) := R_iret hc_28 dX10_account_150 ht_28
theorem dX10_addDead_0 : decode cX10_addDead 0 = .ok (.iconst 1, 1) := by decide +kernel
theorem dX10_addDead_1 : decode cX10_addDead 1 = .ok (.istore_n 2, 1) := by decide +kernel
theorem dX10_addDead_2 : decode cX10_addDead 2 = .ok (.iconst 0, 1) := by decide +kernel
theorem dX10_addDead_3 : decode cX10_addDead 3 = .ok (.istore_n 3, 1) := by decide +kernel
theorem dX10_addDead_4 : decode cX10_addDead 4 = .ok (.iload_n 3, 1) := by decide +kernel
theorem dX10_addDead_5 : decode cX10_addDead 5 = .ok (.bipush 8, 2) := by decide +kernel
theorem dX10_addDead_7 : decode cX10_addDead 7 = .ok (.if_icmp .ge 41, 3) := by decide +kernel
theorem dX10_addDead_10 : decode cX10_addDead 10 = .ok (.iload_n 1, 1) := by decide +kernel
theorem dX10_addDead_11 : decode cX10_addDead 11 = .ok (.iload_n 3, 1) := by decide +kernel
theorem dX10_addDead_12 : decode cX10_addDead 12 = .ok (.ishr, 1) := by decide +kernel
theorem dX10_addDead_13 : decode cX10_addDead 13 = .ok (.iconst 1, 1) := by decide +kernel
theorem dX10_addDead_14 : decode cX10_addDead 14 = .ok (.iand, 1) := by decide +kernel
theorem dX10_addDead_15 : decode cX10_addDead 15 = .ok (.iconst 1, 1) := by decide +kernel
theorem dX10_addDead_16 : decode cX10_addDead 16 = .ok (.if_icmp .ne 26, 3) := by decide +kernel
theorem dX10_addDead_19 : decode cX10_addDead 19 = .ok (.iload_n 2, 1) := by decide +kernel
theorem dX10_addDead_20 : decode cX10_addDead 20 = .ok (.ifCond .ne 12, 3) := by decide +kernel
theorem dX10_addDead_23 : decode cX10_addDead 23 = .ok (.aload_n 0, 1) := by decide +kernel
theorem dX10_addDead_24 : decode cX10_addDead 24 = .ok (.getfield 72, 3) := by decide +kernel
theorem dX10_addDead_27 : decode cX10_addDead 27 = .ok (.bipush 44, 2) := by decide +kernel
theorem dX10_addDead_29 : decode cX10_addDead 29 = .ok (.invokevirtual 242, 3) := by decide +kernel
theorem dX10_addDead_32 : decode cX10_addDead 32 = .ok (.aload_n 0, 1) := by decide +kernel
theorem dX10_addDead_33 : decode cX10_addDead 33 = .ok (.getfield 72, 3) := by decide +kernel
theorem dX10_addDead_36 : decode cX10_addDead 36 = .ok (.iload_n 3, 1) := by decide +kernel
theorem dX10_addDead_37 : decode cX10_addDead 37 = .ok (.invokevirtual 238, 3) := by decide +kernel
theorem dX10_addDead_40 : decode cX10_addDead 40 = .ok (.iconst 0, 1) := by decide +kernel
theorem dX10_addDead_41 : decode cX10_addDead 41 = .ok (.istore_n 2, 1) := by decide +kernel
theorem dX10_addDead_42 : decode cX10_addDead 42 = .ok (.iinc 3 1, 3) := by decide +kernel
theorem dX10_addDead_45 : decode cX10_addDead 45 = .ok (.goto (-41), 3) := by decide +kernel
theorem dX10_addDead_48 : decode cX10_addDead 48 = .ok (.return_, 1) := by decide +kernel
theorem e_32 (r : Nat) (a0 : Int32) (ws : ai_W) : ai_Call 32 [.ref r, .int a0] ws = if ai_isob ws r 10 = true then ai_Run 32 0 [.ref r, .int a0, .null, .null] [] ws else none := R_entV hk_32 ⟨⟨rfl, rfl⟩, Nat.le_of_ble_eq_true rfl⟩ rfl
theorem r_32_0 (ls st : List Value) (ws : ai_W) : ai_Run 32 0 ls st ws = ai_Run 32 1 ls (.int 1 :: st) ws := R_iconst hc_32 dX10_addDead_0 (by decide) rfl
theorem r_32_1 (l0 l1 l2 l3 : Value) (a : Int32) (st : List Value) (ws : ai_W) : ai_Run 32 1 [l0, l1, l2, l3] (.int a :: st) ws = ai_Run 32 2 [l0, l1, .int a, l3] st ws := R_istore_n hc_32 dX10_addDead_1 (Nat.le_of_ble_eq_true rfl) rfl rfl
theorem r_32_2 (ls st : List Value) (ws : ai_W) : ai_Run 32 2 ls st ws = ai_Run 32 3 ls (.int 0 :: st) ws := R_iconst hc_32 dX10_addDead_2 (by decide) rfl
theorem r_32_3 (l0 l1 l2 l3 : Value) (a : Int32) (st : List Value) (ws : ai_W) : ai_Run 32 3 [l0, l1, l2, l3] (.int a :: st) ws = ai_Run 32 4 [l0, l1, l2, .int a] st ws := R_istore_n hc_32 dX10_addDead_3 (Nat.le_of_ble_eq_true rfl) rfl rfl
theorem r_32_4 (l0 l1 l2 : Value) (a : Int32) (st : List Value) (ws : ai_W) : ai_Run 32 4 [l0, l1, l2, .int a] st ws = ai_Run 32 5 [l0, l1, l2, .int a] (.int a :: st) ws := R_iload_n hc_32 dX10_addDead_4 rfl rfl
theorem r_32_5 (ls st : List Value) (ws : ai_W) : ai_Run 32 5 ls st ws = ai_Run 32 7 ls (.int 8 :: st) ws := R_bipush hc_32 dX10_addDead_5 (by decide) rfl
theorem r_32_7 (ls st : List Value) (a b : Int32) (ws : ai_W) : ai_Run 32 7 ls (.int b :: .int a :: st) ws = if a < b then ai_Run 32 10 ls st ws else ai_Run 32 48 ls st ws := R_cmp_ge hc_32 dX10_addDead_7 rfl rfl
theorem r_32_10 (l0 l2 l3 : Value) (a : Int32) (st : List Value) (ws : ai_W) : ai_Run 32 10 [l0, .int a, l2, l3] st ws = ai_Run 32 11 [l0, .int a, l2, l3] (.int a :: st) ws := R_iload_n hc_32 dX10_addDead_10 rfl rfl
theorem r_32_11 (l0 l1 l2 : Value) (a : Int32) (st : List Value) (ws : ai_W) : ai_Run 32 11 [l0, l1, l2, .int a] st ws = ai_Run 32 12 [l0, l1, l2, .int a] (.int a :: st) ws := R_iload_n hc_32 dX10_addDead_11 rfl rfl
theorem r_32_12 (ls st : List Value) (a b : Int32) (ws : ai_W) : ai_Run 32 12 ls (.int b :: .int a :: st) ws = ai_Run 32 13 ls (.int (a >>> (b &&& 31)) :: st) ws := R_ishr hc_32 dX10_addDead_12 rfl
theorem r_32_13 (ls st : List Value) (ws : ai_W) : ai_Run 32 13 ls st ws = ai_Run 32 14 ls (.int 1 :: st) ws := R_iconst hc_32 dX10_addDead_13 (by decide) rfl
theorem r_32_14 (ls st : List Value) (a b : Int32) (ws : ai_W) : ai_Run 32 14 ls (.int b :: .int a :: st) ws = ai_Run 32 15 ls (.int (a &&& b) :: st) ws := R_iand hc_32 dX10_addDead_14 rfl
theorem r_32_15 (ls st : List Value) (ws : ai_W) : ai_Run 32 15 ls st ws = ai_Run 32 16 ls (.int 1 :: st) ws := R_iconst hc_32 dX10_addDead_15 (by decide) rfl
theorem r_32_16 (ls st : List Value) (a b : Int32) (ws : ai_W) : ai_Run 32 16 ls (.int b :: .int a :: st) ws = if a = b then ai_Run 32 19 ls st ws else ai_Run 32 42 ls st ws := R_cmp_ne hc_32 dX10_addDead_16 rfl rfl
theorem r_32_19 (l0 l1 l3 : Value) (a : Int32) (st : List Value) (ws : ai_W) : ai_Run 32 19 [l0, l1, .int a, l3] st ws = ai_Run 32 20 [l0, l1, .int a, l3] (.int a :: st) ws := R_iload_n hc_32 dX10_addDead_19 rfl rfl
theorem r_32_20 (ls st : List Value) (a : Int32) (ws : ai_W) : ai_Run 32 20 ls (.int a :: st) ws = if a = 0 then ai_Run 32 23 ls st ws else ai_Run 32 32 ls st ws := R_if_ne hc_32 dX10_addDead_20 rfl rfl
theorem r_32_23 (l1 l2 l3 : Value) (a : Nat) (st : List Value) (ws : ai_W) : ai_Run 32 23 [.ref a, l1, l2, l3] st ws = ai_Run 32 24 [.ref a, l1, l2, l3] (.ref a :: st) ws := R_aload_n hc_32 dX10_addDead_23 rfl rfl
theorem r_32_24 (ls st : List Value) (a : Nat) (ws : ai_W) : ai_Run 32 24 ls (.ref a :: st) ws = (ai_fget ws a 10 8).bind fun q => ai_Run 32 27 ls (q :: st) ws := R_getf hc_32 dX10_addDead_24 hv_32 (w := 663) rfl rfl
theorem r_32_27 (ls st : List Value) (ws : ai_W) : ai_Run 32 27 ls st ws = ai_Run 32 29 ls (.int 44 :: st) ws := R_bipush hc_32 dX10_addDead_27 (by decide) rfl
theorem r_32_29 (ls : List Value) (r : Nat) (b0 : Int32) (ws : ai_W) : ai_Run 32 29 ls [.int b0, .ref r] ws = (ai_Call 30 [.ref r, .int b0] ws).bind fun q => ai_Run 32 32 ls (q.1.toList ++ []) q.2 := R_callV hc_32 dX10_addDead_29 hv_32 (w := 325) rfl (ai_lt3 hf_30 hf_32 hL_30 ho_30 ho_32 rfl) hk_30 (by rw [hn_30]; rfl) rfl (Nat.le_of_ble_eq_true rfl) rfl
theorem r_32_32 (l1 l2 l3 : Value) (a : Nat) (st : List Value) (ws : ai_W) : ai_Run 32 32 [.ref a, l1, l2, l3] st ws = ai_Run 32 33 [.ref a, l1, l2, l3] (.ref a :: st) ws := R_aload_n hc_32 dX10_addDead_32 rfl rfl
theorem r_32_33 (ls st : List Value) (a : Nat) (ws : ai_W) : ai_Run 32 33 ls (.ref a :: st) ws = (ai_fget ws a 10 8).bind fun q => ai_Run 32 36 ls (q :: st) ws := R_getf hc_32 dX10_addDead_33 hv_32 (w := 663) rfl rfl
theorem r_32_36 (l0 l1 l2 : Value) (a : Int32) (st : List Value) (ws : ai_W) : ai_Run 32 36 [l0, l1, l2, .int a] st ws = ai_Run 32 37 [l0, l1, l2, .int a] (.int a :: st) ws := R_iload_n hc_32 dX10_addDead_36 rfl rfl
theorem r_32_37 (ls : List Value) (r : Nat) (b0 : Int32) (ws : ai_W) : ai_Run 32 37 ls [.int b0, .ref r] ws = (ai_Call 31 [.ref r, .int b0] ws).bind fun q => ai_Run 32 40 ls (q.1.toList ++ []) q.2 := R_callV hc_32 dX10_addDead_37 hv_32 (w := 316) rfl (ai_lt3 hf_31 hf_32 hL_31 ho_31 ho_32 rfl) hk_31 (by rw [hn_31]; rfl) rfl (Nat.le_of_ble_eq_true rfl) rfl
theorem r_32_40 (ls st : List Value) (ws : ai_W) : ai_Run 32 40 ls st ws = ai_Run 32 41 ls (.int 0 :: st) ws := R_iconst hc_32 dX10_addDead_40 (by decide) rfl
theorem r_32_41 (l0 l1 l2 l3 : Value) (a : Int32) (st : List Value) (ws : ai_W) : ai_Run 32 41 [l0, l1, l2, l3] (.int a :: st) ws = ai_Run 32 42 [l0, l1, .int a, l3] st ws := R_istore_n hc_32 dX10_addDead_41 (Nat.le_of_ble_eq_true rfl) rfl rfl
theorem r_32_42 (l0 l1 l2 : Value) (a : Int32) (st : List Value) (ws : ai_W) : ai_Run 32 42 [l0, l1, l2, .int a] st ws = ai_Run 32 45 [l0, l1, l2, .int (a + 1)] st ws := R_iinc hc_32 dX10_addDead_42 rfl (by decide) rfl rfl
theorem r_32_45 (ls st : List Value) (ws : ai_W) : ai_Run 32 45 ls st ws = ai_Run 32 4 ls st ws := R_goto hc_32 dX10_addDead_45 rfl
theorem r_32_48 (ls : List Value) (ws : ai_W) : ai_Run 32 48 ls [] ws = some (none, ws) := R_vret hc_32 dX10_addDead_48 ht_32
theorem dX10_addTurn_0 : decode cX10_addTurn 0 = .ok (.iload_n 2, 1) := by decide +kernel
theorem dX10_addTurn_1 : decode cX10_addTurn 1 = .ok (.iconst 2, 1) := by decide +kernel
theorem dX10_addTurn_2 : decode cX10_addTurn 2 = .ok (.irem, 1) := by decide +kernel
theorem dX10_addTurn_3 : decode cX10_addTurn 3 = .ok (.ifCond .ne 7, 3) := by decide +kernel
theorem dX10_addTurn_6 : decode cX10_addTurn 6 = .ok (.iconst 1, 1) := by decide +kernel
theorem dX10_addTurn_7 : decode cX10_addTurn 7 = .ok (.goto 4, 3) := by decide +kernel
theorem dX10_addTurn_10 : decode cX10_addTurn 10 = .ok (.iconst 0, 1) := by decide +kernel
theorem dX10_addTurn_11 : decode cX10_addTurn 11 = .ok (.istore_n 3, 1) := by decide +kernel
theorem dX10_addTurn_12 : decode cX10_addTurn 12 = .ok (.aload_n 0, 1) := by decide +kernel
theorem dX10_addTurn_13 : decode cX10_addTurn 13 = .ok (.getfield 72, 3) := by decide +kernel
theorem dX10_addTurn_16 : decode cX10_addTurn 16 = .ok (.iload_n 3, 1) := by decide +kernel
theorem dX10_addTurn_17 : decode cX10_addTurn 17 = .ok (.ifCond .eq 8, 3) := by decide +kernel
theorem dX10_addTurn_20 : decode cX10_addTurn 20 = .ok (.bipush 43, 2) := by decide +kernel
theorem dX10_addTurn_22 : decode cX10_addTurn 22 = .ok (.goto 5, 3) := by decide +kernel
theorem dX10_addTurn_25 : decode cX10_addTurn 25 = .ok (.bipush 94, 2) := by decide +kernel
theorem dX10_addTurn_27 : decode cX10_addTurn 27 = .ok (.invokevirtual 242, 3) := by decide +kernel
theorem dX10_addTurn_30 : decode cX10_addTurn 30 = .ok (.aload_n 0, 1) := by decide +kernel
theorem dX10_addTurn_31 : decode cX10_addTurn 31 = .ok (.getfield 72, 3) := by decide +kernel
theorem dX10_addTurn_34 : decode cX10_addTurn 34 = .ok (.aload_n 0, 1) := by decide +kernel
theorem dX10_addTurn_35 : decode cX10_addTurn 35 = .ok (.getfield 21, 3) := by decide +kernel
theorem dX10_addTurn_38 : decode cX10_addTurn 38 = .ok (.iload_n 1, 1) := by decide +kernel
theorem dX10_addTurn_39 : decode cX10_addTurn 39 = .ok (.iload_n 2, 1) := by decide +kernel
theorem dX10_addTurn_40 : decode cX10_addTurn 40 = .ok (.invokevirtual 360, 3) := by decide +kernel
theorem dX10_addTurn_43 : decode cX10_addTurn 43 = .ok (.invokevirtual 238, 3) := by decide +kernel
theorem dX10_addTurn_46 : decode cX10_addTurn 46 = .ok (.iload_n 3, 1) := by decide +kernel
theorem dX10_addTurn_47 : decode cX10_addTurn 47 = .ok (.ifCond .eq 44, 3) := by decide +kernel
theorem dX10_addTurn_50 : decode cX10_addTurn 50 = .ok (.aload_n 0, 1) := by decide +kernel
theorem dX10_addTurn_51 : decode cX10_addTurn 51 = .ok (.getfield 21, 3) := by decide +kernel
theorem dX10_addTurn_54 : decode cX10_addTurn 54 = .ok (.iload_n 1, 1) := by decide +kernel
theorem dX10_addTurn_55 : decode cX10_addTurn 55 = .ok (.iload_n 2, 1) := by decide +kernel
theorem dX10_addTurn_56 : decode cX10_addTurn 56 = .ok (.iconst 2, 1) := by decide +kernel
theorem dX10_addTurn_57 : decode cX10_addTurn 57 = .ok (.idiv, 1) := by decide +kernel
theorem dX10_addTurn_58 : decode cX10_addTurn 58 = .ok (.invokevirtual 363, 3) := by decide +kernel
theorem dX10_addTurn_61 : decode cX10_addTurn 61 = .ok (.ifCond .eq 30, 3) := by decide +kernel
theorem dX10_addTurn_64 : decode cX10_addTurn 64 = .ok (.aload_n 0, 1) := by decide +kernel
theorem dX10_addTurn_65 : decode cX10_addTurn 65 = .ok (.getfield 72, 3) := by decide +kernel
theorem dX10_addTurn_68 : decode cX10_addTurn 68 = .ok (.bipush 61, 2) := by decide +kernel
theorem dX10_addTurn_70 : decode cX10_addTurn 70 = .ok (.invokevirtual 242, 3) := by decide +kernel
theorem dX10_addTurn_73 : decode cX10_addTurn 73 = .ok (.aload_n 0, 1) := by decide +kernel
theorem dX10_addTurn_74 : decode cX10_addTurn 74 = .ok (.getfield 72, 3) := by decide +kernel
theorem dX10_addTurn_77 : decode cX10_addTurn 77 = .ok (.aload_n 0, 1) := by decide +kernel
theorem dX10_addTurn_78 : decode cX10_addTurn 78 = .ok (.getfield 21, 3) := by decide +kernel
theorem dX10_addTurn_81 : decode cX10_addTurn 81 = .ok (.iload_n 1, 1) := by decide +kernel
theorem dX10_addTurn_82 : decode cX10_addTurn 82 = .ok (.iload_n 2, 1) := by decide +kernel
theorem dX10_addTurn_83 : decode cX10_addTurn 83 = .ok (.iconst 2, 1) := by decide +kernel
theorem dX10_addTurn_84 : decode cX10_addTurn 84 = .ok (.idiv, 1) := by decide +kernel
theorem dX10_addTurn_85 : decode cX10_addTurn 85 = .ok (.invokevirtual 151, 3) := by decide +kernel
theorem dX10_addTurn_88 : decode cX10_addTurn 88 = .ok (.invokevirtual 238, 3) := by decide +kernel
theorem dX10_addTurn_91 : decode cX10_addTurn 91 = .ok (.return_, 1) := by decide +kernel
theorem e_34 (r : Nat) (a0 : Int32) (a1 : Int32) (ws : ai_W) : ai_Call 34 [.ref r, .int a0, .int a1] ws = if ai_isob ws r 10 = true then ai_Run 34 0 [.ref r, .int a0, .int a1, .null] [] ws else none := R_entV hk_34 ⟨⟨rfl, rfl⟩, Nat.le_of_ble_eq_true rfl⟩ rfl
theorem r_34_0 (l0 l1 l3 : Value) (a : Int32) (st : List Value) (ws : ai_W) : ai_Run 34 0 [l0, l1, .int a, l3] st ws = ai_Run 34 1 [l0, l1, .int a, l3] (.int a :: st) ws := R_iload_n hc_34 dX10_addTurn_0 rfl rfl
theorem r_34_1 (ls st : List Value) (ws : ai_W) : ai_Run 34 1 ls st ws = ai_Run 34 2 ls (.int 2 :: st) ws := R_iconst hc_34 dX10_addTurn_1 (by decide) rfl
theorem r_34_2 (ls st : List Value) (a : Int32) (ws : ai_W) : ai_Run 34 2 ls (.int 2 :: .int a :: st) ws = ai_Run 34 3 ls (.int (a - a / 2 * 2) :: st) ws := R_irem hc_34 dX10_addTurn_2 (by decide) rfl
theorem r_34_3 (ls st : List Value) (a : Int32) (ws : ai_W) : ai_Run 34 3 ls (.int a :: st) ws = if a = 0 then ai_Run 34 6 ls st ws else ai_Run 34 10 ls st ws := R_if_ne hc_34 dX10_addTurn_3 rfl rfl
theorem r_34_6 (ls st : List Value) (ws : ai_W) : ai_Run 34 6 ls st ws = ai_Run 34 7 ls (.int 1 :: st) ws := R_iconst hc_34 dX10_addTurn_6 (by decide) rfl
theorem r_34_7 (ls st : List Value) (ws : ai_W) : ai_Run 34 7 ls st ws = ai_Run 34 11 ls st ws := R_goto hc_34 dX10_addTurn_7 rfl
theorem r_34_10 (ls st : List Value) (ws : ai_W) : ai_Run 34 10 ls st ws = ai_Run 34 11 ls (.int 0 :: st) ws := R_iconst hc_34 dX10_addTurn_10 (by decide) rfl
theorem r_34_11 (l0 l1 l2 l3 : Value) (a : Int32) (st : List Value) (ws : ai_W) : ai_Run 34 11 [l0, l1, l2, l3] (.int a :: st) ws = ai_Run 34 12 [l0, l1, l2, .int a] st ws := R_istore_n hc_34 dX10_addTurn_11 (Nat.le_of_ble_eq_true rfl) rfl rfl
theorem r_34_12 (l1 l2 l3 : Value) (a : Nat) (st : List Value) (ws : ai_W) : ai_Run 34 12 [.ref a, l1, l2, l3] st ws = ai_Run 34 13 [.ref a, l1, l2, l3] (.ref a :: st) ws := R_aload_n hc_34 dX10_addTurn_12 rfl rfl
theorem r_34_13 (ls st : List Value) (a : Nat) (ws : ai_W) : ai_Run 34 13 ls (.ref a :: st) ws = (ai_fget ws a 10 8).bind fun q => ai_Run 34 16 ls (q :: st) ws := R_getf hc_34 dX10_addTurn_13 hv_34 (w := 663) rfl rfl
theorem r_34_16 (l0 l1 l2 : Value) (a : Int32) (st : List Value) (ws : ai_W) : ai_Run 34 16 [l0, l1, l2, .int a] st ws = ai_Run 34 17 [l0, l1, l2, .int a] (.int a :: st) ws := R_iload_n hc_34 dX10_addTurn_16 rfl rfl
theorem r_34_17 (ls st : List Value) (a : Int32) (ws : ai_W) : ai_Run 34 17 ls (.int a :: st) ws = if a = 0 then ai_Run 34 25 ls st ws else ai_Run 34 20 ls st ws := R_if_eq hc_34 dX10_addTurn_17 rfl rfl
theorem r_34_20 (ls st : List Value) (ws : ai_W) : ai_Run 34 20 ls st ws = ai_Run 34 22 ls (.int 43 :: st) ws := R_bipush hc_34 dX10_addTurn_20 (by decide) rfl
theorem r_34_22 (ls st : List Value) (ws : ai_W) : ai_Run 34 22 ls st ws = ai_Run 34 27 ls st ws := R_goto hc_34 dX10_addTurn_22 rfl
theorem r_34_25 (ls st : List Value) (ws : ai_W) : ai_Run 34 25 ls st ws = ai_Run 34 27 ls (.int 94 :: st) ws := R_bipush hc_34 dX10_addTurn_25 (by decide) rfl
theorem r_34_27 (ls : List Value) (r : Nat) (b0 : Int32) (ws : ai_W) : ai_Run 34 27 ls [.int b0, .ref r] ws = (ai_Call 30 [.ref r, .int b0] ws).bind fun q => ai_Run 34 30 ls (q.1.toList ++ []) q.2 := R_callV hc_34 dX10_addTurn_27 hv_34 (w := 325) rfl (ai_lt3 hf_30 hf_34 hL_30 ho_30 ho_34 rfl) hk_30 (by rw [hn_30]; rfl) rfl (Nat.le_of_ble_eq_true rfl) rfl
theorem r_34_30 (l1 l2 l3 : Value) (a : Nat) (st : List Value) (ws : ai_W) : ai_Run 34 30 [.ref a, l1, l2, l3] st ws = ai_Run 34 31 [.ref a, l1, l2, l3] (.ref a :: st) ws := R_aload_n hc_34 dX10_addTurn_30 rfl rfl
theorem r_34_31 (ls st : List Value) (a : Nat) (ws : ai_W) : ai_Run 34 31 ls (.ref a :: st) ws = (ai_fget ws a 10 8).bind fun q => ai_Run 34 34 ls (q :: st) ws := R_getf hc_34 dX10_addTurn_31 hv_34 (w := 663) rfl rfl
theorem r_34_34 (l1 l2 l3 : Value) (a : Nat) (st : List Value) (ws : ai_W) : ai_Run 34 34 [.ref a, l1, l2, l3] st ws = ai_Run 34 35 [.ref a, l1, l2, l3] (.ref a :: st) ws := R_aload_n hc_34 dX10_addTurn_34 rfl rfl
theorem r_34_35 (ls st : List Value) (a : Nat) (ws : ai_W) : ai_Run 34 35 ls (.ref a :: st) ws = (ai_fget ws a 10 0).bind fun q => ai_Run 34 38 ls (q :: st) ws := R_getf hc_34 dX10_addTurn_35 hv_34 (w := 655) rfl rfl
theorem r_34_38 (l0 l2 l3 : Value) (a : Int32) (st : List Value) (ws : ai_W) : ai_Run 34 38 [l0, .int a, l2, l3] st ws = ai_Run 34 39 [l0, .int a, l2, l3] (.int a :: st) ws := R_iload_n hc_34 dX10_addTurn_38 rfl rfl
theorem r_34_39 (l0 l1 l3 : Value) (a : Int32) (st : List Value) (ws : ai_W) : ai_Run 34 39 [l0, l1, .int a, l3] st ws = ai_Run 34 40 [l0, l1, .int a, l3] (.int a :: st) ws := R_iload_n hc_34 dX10_addTurn_39 rfl rfl
theorem r_34_40 (ls : List Value) (r : Nat) (b0 : Int32) (b1 : Int32) (s0 : Value) (ws : ai_W) : ai_Run 34 40 ls [.int b1, .int b0, .ref r, s0] ws = (ai_Call 33 [.ref r, .int b0, .int b1] ws).bind fun q => ai_Run 34 43 ls (q.1.toList ++ [s0]) q.2 := R_callV hc_34 dX10_addTurn_40 hv_34 (w := 331) rfl (ai_lt3 hf_33 hf_34 hL_33 ho_33 ho_34 rfl) hk_33 (by rw [hn_33]; rfl) rfl (Nat.le_of_ble_eq_true rfl) rfl
theorem r_34_43 (ls : List Value) (r : Nat) (b0 : Int32) (ws : ai_W) : ai_Run 34 43 ls [.int b0, .ref r] ws = (ai_Call 31 [.ref r, .int b0] ws).bind fun q => ai_Run 34 46 ls (q.1.toList ++ []) q.2 := R_callV hc_34 dX10_addTurn_43 hv_34 (w := 316) rfl (ai_lt3 hf_31 hf_34 hL_31 ho_31 ho_34 rfl) hk_31 (by rw [hn_31]; rfl) rfl (Nat.le_of_ble_eq_true rfl) rfl
theorem r_34_46 (l0 l1 l2 : Value) (a : Int32) (st : List Value) (ws : ai_W) : ai_Run 34 46 [l0, l1, l2, .int a] st ws = ai_Run 34 47 [l0, l1, l2, .int a] (.int a :: st) ws := R_iload_n hc_34 dX10_addTurn_46 rfl rfl
theorem r_34_47 (ls st : List Value) (a : Int32) (ws : ai_W) : ai_Run 34 47 ls (.int a :: st) ws = if a = 0 then ai_Run 34 91 ls st ws else ai_Run 34 50 ls st ws := R_if_eq hc_34 dX10_addTurn_47 rfl rfl
theorem r_34_50 (l1 l2 l3 : Value) (a : Nat) (st : List Value) (ws : ai_W) : ai_Run 34 50 [.ref a, l1, l2, l3] st ws = ai_Run 34 51 [.ref a, l1, l2, l3] (.ref a :: st) ws := R_aload_n hc_34 dX10_addTurn_50 rfl rfl
theorem r_34_51 (ls st : List Value) (a : Nat) (ws : ai_W) : ai_Run 34 51 ls (.ref a :: st) ws = (ai_fget ws a 10 0).bind fun q => ai_Run 34 54 ls (q :: st) ws := R_getf hc_34 dX10_addTurn_51 hv_34 (w := 655) rfl rfl
theorem r_34_54 (l0 l2 l3 : Value) (a : Int32) (st : List Value) (ws : ai_W) : ai_Run 34 54 [l0, .int a, l2, l3] st ws = ai_Run 34 55 [l0, .int a, l2, l3] (.int a :: st) ws := R_iload_n hc_34 dX10_addTurn_54 rfl rfl
theorem r_34_55 (l0 l1 l3 : Value) (a : Int32) (st : List Value) (ws : ai_W) : ai_Run 34 55 [l0, l1, .int a, l3] st ws = ai_Run 34 56 [l0, l1, .int a, l3] (.int a :: st) ws := R_iload_n hc_34 dX10_addTurn_55 rfl rfl
theorem r_34_56 (ls st : List Value) (ws : ai_W) : ai_Run 34 56 ls st ws = ai_Run 34 57 ls (.int 2 :: st) ws := R_iconst hc_34 dX10_addTurn_56 (by decide) rfl
theorem r_34_57 (ls st : List Value) (a : Int32) (ws : ai_W) : ai_Run 34 57 ls (.int 2 :: .int a :: st) ws = ai_Run 34 58 ls (.int (a / 2) :: st) ws := R_idiv hc_34 dX10_addTurn_57 (by decide) rfl
theorem r_34_58 (ls : List Value) (r : Nat) (b0 : Int32) (b1 : Int32) (ws : ai_W) : ai_Run 34 58 ls [.int b1, .int b0, .ref r] ws = (ai_Call 18 [.ref r, .int b0, .int b1] ws).bind fun q => ai_Run 34 61 ls (q.1.toList ++ []) q.2 := R_callV hc_34 dX10_addTurn_58 hv_34 (w := 332) rfl (ai_lt3 hf_18 hf_34 hL_18 ho_18 ho_34 rfl) hk_18 (by rw [hn_18]; rfl) rfl (Nat.le_of_ble_eq_true rfl) rfl
theorem r_34_61 (ls st : List Value) (a : Int32) (ws : ai_W) : ai_Run 34 61 ls (.int a :: st) ws = if a = 0 then ai_Run 34 91 ls st ws else ai_Run 34 64 ls st ws := R_if_eq hc_34 dX10_addTurn_61 rfl rfl
theorem r_34_64 (l1 l2 l3 : Value) (a : Nat) (st : List Value) (ws : ai_W) : ai_Run 34 64 [.ref a, l1, l2, l3] st ws = ai_Run 34 65 [.ref a, l1, l2, l3] (.ref a :: st) ws := R_aload_n hc_34 dX10_addTurn_64 rfl rfl
theorem r_34_65 (ls st : List Value) (a : Nat) (ws : ai_W) : ai_Run 34 65 ls (.ref a :: st) ws = (ai_fget ws a 10 8).bind fun q => ai_Run 34 68 ls (q :: st) ws := R_getf hc_34 dX10_addTurn_65 hv_34 (w := 663) rfl rfl
theorem r_34_68 (ls st : List Value) (ws : ai_W) : ai_Run 34 68 ls st ws = ai_Run 34 70 ls (.int 61 :: st) ws := R_bipush hc_34 dX10_addTurn_68 (by decide) rfl
theorem r_34_70 (ls : List Value) (r : Nat) (b0 : Int32) (ws : ai_W) : ai_Run 34 70 ls [.int b0, .ref r] ws = (ai_Call 30 [.ref r, .int b0] ws).bind fun q => ai_Run 34 73 ls (q.1.toList ++ []) q.2 := R_callV hc_34 dX10_addTurn_70 hv_34 (w := 325) rfl (ai_lt3 hf_30 hf_34 hL_30 ho_30 ho_34 rfl) hk_30 (by rw [hn_30]; rfl) rfl (Nat.le_of_ble_eq_true rfl) rfl
theorem r_34_73 (l1 l2 l3 : Value) (a : Nat) (st : List Value) (ws : ai_W) : ai_Run 34 73 [.ref a, l1, l2, l3] st ws = ai_Run 34 74 [.ref a, l1, l2, l3] (.ref a :: st) ws := R_aload_n hc_34 dX10_addTurn_73 rfl rfl
theorem r_34_74 (ls st : List Value) (a : Nat) (ws : ai_W) : ai_Run 34 74 ls (.ref a :: st) ws = (ai_fget ws a 10 8).bind fun q => ai_Run 34 77 ls (q :: st) ws := R_getf hc_34 dX10_addTurn_74 hv_34 (w := 663) rfl rfl
theorem r_34_77 (l1 l2 l3 : Value) (a : Nat) (st : List Value) (ws : ai_W) : ai_Run 34 77 [.ref a, l1, l2, l3] st ws = ai_Run 34 78 [.ref a, l1, l2, l3] (.ref a :: st) ws := R_aload_n hc_34 dX10_addTurn_77 rfl rfl
theorem r_34_78 (ls st : List Value) (a : Nat) (ws : ai_W) : ai_Run 34 78 ls (.ref a :: st) ws = (ai_fget ws a 10 0).bind fun q => ai_Run 34 81 ls (q :: st) ws := R_getf hc_34 dX10_addTurn_78 hv_34 (w := 655) rfl rfl
theorem r_34_81 (l0 l2 l3 : Value) (a : Int32) (st : List Value) (ws : ai_W) : ai_Run 34 81 [l0, .int a, l2, l3] st ws = ai_Run 34 82 [l0, .int a, l2, l3] (.int a :: st) ws := R_iload_n hc_34 dX10_addTurn_81 rfl rfl
theorem r_34_82 (l0 l1 l3 : Value) (a : Int32) (st : List Value) (ws : ai_W) : ai_Run 34 82 [l0, l1, .int a, l3] st ws = ai_Run 34 83 [l0, l1, .int a, l3] (.int a :: st) ws := R_iload_n hc_34 dX10_addTurn_82 rfl rfl
theorem r_34_83 (ls st : List Value) (ws : ai_W) : ai_Run 34 83 ls st ws = ai_Run 34 84 ls (.int 2 :: st) ws := R_iconst hc_34 dX10_addTurn_83 (by decide) rfl
theorem r_34_84 (ls st : List Value) (a : Int32) (ws : ai_W) : ai_Run 34 84 ls (.int 2 :: .int a :: st) ws = ai_Run 34 85 ls (.int (a / 2) :: st) ws := R_idiv hc_34 dX10_addTurn_84 (by decide) rfl
theorem r_34_85 (ls : List Value) (r : Nat) (b0 : Int32) (b1 : Int32) (s0 : Value) (ws : ai_W) : ai_Run 34 85 ls [.int b1, .int b0, .ref r, s0] ws = (ai_Call 17 [.ref r, .int b0, .int b1] ws).bind fun q => ai_Run 34 88 ls (q.1.toList ++ [s0]) q.2 := R_callV hc_34 dX10_addTurn_85 hv_34 (w := 337) rfl (ai_lt3 hf_17 hf_34 hL_17 ho_17 ho_34 rfl) hk_17 (by rw [hn_17]; rfl) rfl (Nat.le_of_ble_eq_true rfl) rfl
theorem r_34_88 (ls : List Value) (r : Nat) (b0 : Int32) (ws : ai_W) : ai_Run 34 88 ls [.int b0, .ref r] ws = (ai_Call 31 [.ref r, .int b0] ws).bind fun q => ai_Run 34 91 ls (q.1.toList ++ []) q.2 := R_callV hc_34 dX10_addTurn_88 hv_34 (w := 316) rfl (ai_lt3 hf_31 hf_34 hL_31 ho_31 ho_34 rfl) hk_31 (by rw [hn_31]; rfl) rfl (Nat.le_of_ble_eq_true rfl) rfl
theorem r_34_91 (ls : List Value) (ws : ai_W) : ai_Run 34 91 ls [] ws = some (none, ws) := R_vret hc_34 dX10_addTurn_91 ht_34
theorem dX10_addWriter_0 : decode cX10_addWriter 0 = .ok (.aload_n 0, 1) := by decide +kernel
theorem dX10_addWriter_1 : decode cX10_addWriter 1 = .ok (.getfield 21, 3) := by decide +kernel
theorem dX10_addWriter_4 : decode cX10_addWriter 4 = .ok (.getfield 154, 3) := by decide +kernel
theorem dX10_addWriter_7 : decode cX10_addWriter 7 = .ok (.iload_n 1, 1) := by decide +kernel
theorem dX10_addWriter_8 : decode cX10_addWriter 8 = .ok (.invokevirtual 158, 3) := by decide +kernel
theorem dX10_addWriter_11 : decode cX10_addWriter 11 = .ok (.istore_n 2, 1) := by decide +kernel
theorem dX10_addWriter_12 : decode cX10_addWriter 12 = .ok (.aload_n 0, 1) := by decide +kernel
theorem dX10_addWriter_13 : decode cX10_addWriter 13 = .ok (.getfield 21, 3) := by decide +kernel
theorem dX10_addWriter_16 : decode cX10_addWriter 16 = .ok (.iload_n 2, 1) := by decide +kernel
theorem dX10_addWriter_17 : decode cX10_addWriter 17 = .ok (.invokevirtual 169, 3) := by decide +kernel
theorem dX10_addWriter_20 : decode cX10_addWriter 20 = .ok (.ifCond .ne 4, 3) := by decide +kernel
theorem dX10_addWriter_23 : decode cX10_addWriter 23 = .ok (.return_, 1) := by decide +kernel
theorem dX10_addWriter_24 : decode cX10_addWriter 24 = .ok (.aload_n 0, 1) := by decide +kernel
theorem dX10_addWriter_25 : decode cX10_addWriter 25 = .ok (.getfield 72, 3) := by decide +kernel
theorem dX10_addWriter_28 : decode cX10_addWriter 28 = .ok (.bipush 64, 2) := by decide +kernel
theorem dX10_addWriter_30 : decode cX10_addWriter 30 = .ok (.invokevirtual 242, 3) := by decide +kernel
theorem dX10_addWriter_33 : decode cX10_addWriter 33 = .ok (.aload_n 0, 1) := by decide +kernel
theorem dX10_addWriter_34 : decode cX10_addWriter 34 = .ok (.getfield 72, 3) := by decide +kernel
theorem dX10_addWriter_37 : decode cX10_addWriter 37 = .ok (.iload_n 2, 1) := by decide +kernel
theorem dX10_addWriter_38 : decode cX10_addWriter 38 = .ok (.invokevirtual 238, 3) := by decide +kernel
theorem dX10_addWriter_41 : decode cX10_addWriter 41 = .ok (.aload_n 0, 1) := by decide +kernel
theorem dX10_addWriter_42 : decode cX10_addWriter 42 = .ok (.getfield 21, 3) := by decide +kernel
theorem dX10_addWriter_45 : decode cX10_addWriter 45 = .ok (.iload_n 1, 1) := by decide +kernel
theorem dX10_addWriter_46 : decode cX10_addWriter 46 = .ok (.invokevirtual 366, 3) := by decide +kernel
theorem dX10_addWriter_49 : decode cX10_addWriter 49 = .ok (.ifCond .eq 12, 3) := by decide +kernel
theorem dX10_addWriter_52 : decode cX10_addWriter 52 = .ok (.aload_n 0, 1) := by decide +kernel
theorem dX10_addWriter_53 : decode cX10_addWriter 53 = .ok (.getfield 72, 3) := by decide +kernel
theorem dX10_addWriter_56 : decode cX10_addWriter 56 = .ok (.bipush 33, 2) := by decide +kernel
theorem dX10_addWriter_58 : decode cX10_addWriter 58 = .ok (.invokevirtual 242, 3) := by decide +kernel
theorem dX10_addWriter_61 : decode cX10_addWriter 61 = .ok (.return_, 1) := by decide +kernel
theorem e_37 (r : Nat) (a0 : Int32) (ws : ai_W) : ai_Call 37 [.ref r, .int a0] ws = if ai_isob ws r 10 = true then ai_Run 37 0 [.ref r, .int a0, .null] [] ws else none := R_entV hk_37 ⟨⟨rfl, rfl⟩, Nat.le_of_ble_eq_true rfl⟩ rfl
theorem r_37_0 (l1 l2 : Value) (a : Nat) (st : List Value) (ws : ai_W) : ai_Run 37 0 [.ref a, l1, l2] st ws = ai_Run 37 1 [.ref a, l1, l2] (.ref a :: st) ws := R_aload_n hc_37 dX10_addWriter_0 rfl rfl
theorem r_37_1 (ls st : List Value) (a : Nat) (ws : ai_W) : ai_Run 37 1 ls (.ref a :: st) ws = (ai_fget ws a 10 0).bind fun q => ai_Run 37 4 ls (q :: st) ws := R_getf hc_37 dX10_addWriter_1 hv_37 (w := 655) rfl rfl
theorem r_37_4 (ls st : List Value) (a : Nat) (ws : ai_W) : ai_Run 37 4 ls (.ref a :: st) ws = (ai_fget ws a 0 6).bind fun q => ai_Run 37 7 ls (q :: st) ws := R_getf hc_37 dX10_addWriter_4 hv_37 (w := 485) rfl rfl
theorem r_37_7 (l0 l2 : Value) (a : Int32) (st : List Value) (ws : ai_W) : ai_Run 37 7 [l0, .int a, l2] st ws = ai_Run 37 8 [l0, .int a, l2] (.int a :: st) ws := R_iload_n hc_37 dX10_addWriter_7 rfl rfl
theorem r_37_8 (ls : List Value) (r : Nat) (b0 : Int32) (ws : ai_W) : ai_Run 37 8 ls [.int b0, .ref r] ws = (ai_Call 12 [.ref r, .int b0] ws).bind fun q => ai_Run 37 11 ls (q.1.toList ++ []) q.2 := R_callV hc_37 dX10_addWriter_8 hv_37 (w := 326) rfl (ai_lt3 hf_12 hf_37 hL_12 ho_12 ho_37 rfl) hk_12 (by rw [hn_12]; rfl) rfl (Nat.le_of_ble_eq_true rfl) rfl
theorem r_37_11 (l0 l1 l2 : Value) (a : Int32) (st : List Value) (ws : ai_W) : ai_Run 37 11 [l0, l1, l2] (.int a :: st) ws = ai_Run 37 12 [l0, l1, .int a] st ws := R_istore_n hc_37 dX10_addWriter_11 (Nat.le_of_ble_eq_true rfl) rfl rfl
theorem r_37_12 (l1 l2 : Value) (a : Nat) (st : List Value) (ws : ai_W) : ai_Run 37 12 [.ref a, l1, l2] st ws = ai_Run 37 13 [.ref a, l1, l2] (.ref a :: st) ws := R_aload_n hc_37 dX10_addWriter_12 rfl rfl
theorem r_37_13 (ls st : List Value) (a : Nat) (ws : ai_W) : ai_Run 37 13 ls (.ref a :: st) ws = (ai_fget ws a 10 0).bind fun q => ai_Run 37 16 ls (q :: st) ws := R_getf hc_37 dX10_addWriter_13 hv_37 (w := 655) rfl rfl
theorem r_37_16 (l0 l1 : Value) (a : Int32) (st : List Value) (ws : ai_W) : ai_Run 37 16 [l0, l1, .int a] st ws = ai_Run 37 17 [l0, l1, .int a] (.int a :: st) ws := R_iload_n hc_37 dX10_addWriter_16 rfl rfl
theorem r_37_17 (ls : List Value) (r : Nat) (b0 : Int32) (ws : ai_W) : ai_Run 37 17 ls [.int b0, .ref r] ws = (ai_Call 35 [.ref r, .int b0] ws).bind fun q => ai_Run 37 20 ls (q.1.toList ++ []) q.2 := R_callV hc_37 dX10_addWriter_17 hv_37 (w := 1119) rfl (ai_lt3 hf_35 hf_37 hL_35 ho_35 ho_37 rfl) hk_35 (by rw [hn_35]; rfl) rfl (Nat.le_of_ble_eq_true rfl) rfl
theorem r_37_20 (ls st : List Value) (a : Int32) (ws : ai_W) : ai_Run 37 20 ls (.int a :: st) ws = if a = 0 then ai_Run 37 23 ls st ws else ai_Run 37 24 ls st ws := R_if_ne hc_37 dX10_addWriter_20 rfl rfl
theorem r_37_23 (ls : List Value) (ws : ai_W) : ai_Run 37 23 ls [] ws = some (none, ws) := R_vret hc_37 dX10_addWriter_23 ht_37
theorem r_37_24 (l1 l2 : Value) (a : Nat) (st : List Value) (ws : ai_W) : ai_Run 37 24 [.ref a, l1, l2] st ws = ai_Run 37 25 [.ref a, l1, l2] (.ref a :: st) ws := R_aload_n hc_37 dX10_addWriter_24 rfl rfl
theorem r_37_25 (ls st : List Value) (a : Nat) (ws : ai_W) : ai_Run 37 25 ls (.ref a :: st) ws = (ai_fget ws a 10 8).bind fun q => ai_Run 37 28 ls (q :: st) ws := R_getf hc_37 dX10_addWriter_25 hv_37 (w := 663) rfl rfl
theorem r_37_28 (ls st : List Value) (ws : ai_W) : ai_Run 37 28 ls st ws = ai_Run 37 30 ls (.int 64 :: st) ws := R_bipush hc_37 dX10_addWriter_28 (by decide) rfl
theorem r_37_30 (ls : List Value) (r : Nat) (b0 : Int32) (ws : ai_W) : ai_Run 37 30 ls [.int b0, .ref r] ws = (ai_Call 30 [.ref r, .int b0] ws).bind fun q => ai_Run 37 33 ls (q.1.toList ++ []) q.2 := R_callV hc_37 dX10_addWriter_30 hv_37 (w := 325) rfl (ai_lt3 hf_30 hf_37 hL_30 ho_30 ho_37 rfl) hk_30 (by rw [hn_30]; rfl) rfl (Nat.le_of_ble_eq_true rfl) rfl
theorem r_37_33 (l1 l2 : Value) (a : Nat) (st : List Value) (ws : ai_W) : ai_Run 37 33 [.ref a, l1, l2] st ws = ai_Run 37 34 [.ref a, l1, l2] (.ref a :: st) ws := R_aload_n hc_37 dX10_addWriter_33 rfl rfl
theorem r_37_34 (ls st : List Value) (a : Nat) (ws : ai_W) : ai_Run 37 34 ls (.ref a :: st) ws = (ai_fget ws a 10 8).bind fun q => ai_Run 37 37 ls (q :: st) ws := R_getf hc_37 dX10_addWriter_34 hv_37 (w := 663) rfl rfl
theorem r_37_37 (l0 l1 : Value) (a : Int32) (st : List Value) (ws : ai_W) : ai_Run 37 37 [l0, l1, .int a] st ws = ai_Run 37 38 [l0, l1, .int a] (.int a :: st) ws := R_iload_n hc_37 dX10_addWriter_37 rfl rfl
theorem r_37_38 (ls : List Value) (r : Nat) (b0 : Int32) (ws : ai_W) : ai_Run 37 38 ls [.int b0, .ref r] ws = (ai_Call 31 [.ref r, .int b0] ws).bind fun q => ai_Run 37 41 ls (q.1.toList ++ []) q.2 := R_callV hc_37 dX10_addWriter_38 hv_37 (w := 316) rfl (ai_lt3 hf_31 hf_37 hL_31 ho_31 ho_37 rfl) hk_31 (by rw [hn_31]; rfl) rfl (Nat.le_of_ble_eq_true rfl) rfl
theorem r_37_41 (l1 l2 : Value) (a : Nat) (st : List Value) (ws : ai_W) : ai_Run 37 41 [.ref a, l1, l2] st ws = ai_Run 37 42 [.ref a, l1, l2] (.ref a :: st) ws := R_aload_n hc_37 dX10_addWriter_41 rfl rfl
theorem r_37_42 (ls st : List Value) (a : Nat) (ws : ai_W) : ai_Run 37 42 ls (.ref a :: st) ws = (ai_fget ws a 10 0).bind fun q => ai_Run 37 45 ls (q :: st) ws := R_getf hc_37 dX10_addWriter_42 hv_37 (w := 655) rfl rfl
theorem r_37_45 (l0 l2 : Value) (a : Int32) (st : List Value) (ws : ai_W) : ai_Run 37 45 [l0, .int a, l2] st ws = ai_Run 37 46 [l0, .int a, l2] (.int a :: st) ws := R_iload_n hc_37 dX10_addWriter_45 rfl rfl
theorem r_37_46 (ls : List Value) (r : Nat) (b0 : Int32) (ws : ai_W) : ai_Run 37 46 ls [.int b0, .ref r] ws = (ai_Call 36 [.ref r, .int b0] ws).bind fun q => ai_Run 37 49 ls (q.1.toList ++ []) q.2 := R_callV hc_37 dX10_addWriter_46 hv_37 (w := 1120) rfl (ai_lt3 hf_36 hf_37 hL_36 ho_36 ho_37 rfl) hk_36 (by rw [hn_36]; rfl) rfl (Nat.le_of_ble_eq_true rfl) rfl
theorem r_37_49 (ls st : List Value) (a : Int32) (ws : ai_W) : ai_Run 37 49 ls (.int a :: st) ws = if a = 0 then ai_Run 37 61 ls st ws else ai_Run 37 52 ls st ws := R_if_eq hc_37 dX10_addWriter_49 rfl rfl
theorem r_37_52 (l1 l2 : Value) (a : Nat) (st : List Value) (ws : ai_W) : ai_Run 37 52 [.ref a, l1, l2] st ws = ai_Run 37 53 [.ref a, l1, l2] (.ref a :: st) ws := R_aload_n hc_37 dX10_addWriter_52 rfl rfl
theorem r_37_53 (ls st : List Value) (a : Nat) (ws : ai_W) : ai_Run 37 53 ls (.ref a :: st) ws = (ai_fget ws a 10 8).bind fun q => ai_Run 37 56 ls (q :: st) ws := R_getf hc_37 dX10_addWriter_53 hv_37 (w := 663) rfl rfl
theorem r_37_56 (ls st : List Value) (ws : ai_W) : ai_Run 37 56 ls st ws = ai_Run 37 58 ls (.int 33 :: st) ws := R_bipush hc_37 dX10_addWriter_56 (by decide) rfl
theorem r_37_58 (ls : List Value) (r : Nat) (b0 : Int32) (ws : ai_W) : ai_Run 37 58 ls [.int b0, .ref r] ws = (ai_Call 30 [.ref r, .int b0] ws).bind fun q => ai_Run 37 61 ls (q.1.toList ++ []) q.2 := R_callV hc_37 dX10_addWriter_58 hv_37 (w := 325) rfl (ai_lt3 hf_30 hf_37 hL_30 ho_30 ho_37 rfl) hk_30 (by rw [hn_30]; rfl) rfl (Nat.le_of_ble_eq_true rfl) rfl
theorem r_37_61 (ls : List Value) (ws : ai_W) : ai_Run 37 61 ls [] ws = some (none, ws) := R_vret hc_37 dX10_addWriter_61 ht_37
theorem dX10_append_0 : decode cX10_append 0 = .ok (.aload_n 0, 1) := by decide +kernel
theorem dX10_append_1 : decode cX10_append 1 = .ok (.getfield 65, 3) := by decide +kernel
theorem dX10_append_4 : decode cX10_append 4 = .ok (.iload_n 1, 1) := by decide +kernel
theorem dX10_append_5 : decode cX10_append 5 = .ok (.invokevirtual 270, 3) := by decide +kernel
theorem dX10_append_8 : decode cX10_append 8 = .ok (.ifCond .eq 13, 3) := by decide +kernel
theorem dX10_append_11 : decode cX10_append 11 = .ok (.aload_n 0, 1) := by decide +kernel
theorem dX10_append_12 : decode cX10_append 12 = .ok (.getfield 65, 3) := by decide +kernel
theorem dX10_append_15 : decode cX10_append 15 = .ok (.invokevirtual 272, 3) := by decide +kernel
theorem dX10_append_18 : decode cX10_append 18 = .ok (.goto 5, 3) := by decide +kernel
theorem dX10_append_21 : decode cX10_append 21 = .ok (.bipush (-2), 2) := by decide +kernel
theorem dX10_append_23 : decode cX10_append 23 = .ok (.ireturn, 1) := by decide +kernel
theorem e_39 (r : Nat) (a0 : Int32) (ws : ai_W) : ai_Call 39 [.ref r, .int a0] ws = if ai_isob ws r 10 = true then ai_Run 39 0 [.ref r, .int a0] [] ws else none := R_entV hk_39 ⟨⟨rfl, rfl⟩, Nat.le_of_ble_eq_true rfl⟩ rfl
theorem r_39_0 (l1 : Value) (a : Nat) (st : List Value) (ws : ai_W) : ai_Run 39 0 [.ref a, l1] st ws = ai_Run 39 1 [.ref a, l1] (.ref a :: st) ws := R_aload_n hc_39 dX10_append_0 rfl rfl
theorem r_39_1 (ls st : List Value) (a : Nat) (ws : ai_W) : ai_Run 39 1 ls (.ref a :: st) ws = (ai_fget ws a 10 7).bind fun q => ai_Run 39 4 ls (q :: st) ws := R_getf hc_39 dX10_append_1 hv_39 (w := 662) rfl rfl
theorem r_39_4 (l0 : Value) (a : Int32) (st : List Value) (ws : ai_W) : ai_Run 39 4 [l0, .int a] st ws = ai_Run 39 5 [l0, .int a] (.int a :: st) ws := R_iload_n hc_39 dX10_append_4 rfl rfl
theorem r_39_5 (ls : List Value) (r : Nat) (b0 : Int32) (ws : ai_W) : ai_Run 39 5 ls [.int b0, .ref r] ws = (ai_Call 38 [.ref r, .int b0] ws).bind fun q => ai_Run 39 8 ls (q.1.toList ++ []) q.2 := R_callV hc_39 dX10_append_5 hv_39 (w := 1028) rfl (ai_lt3 hf_38 hf_39 hL_38 ho_38 ho_39 rfl) hk_38 (by rw [hn_38]; rfl) rfl (Nat.le_of_ble_eq_true rfl) rfl
theorem r_39_8 (ls st : List Value) (a : Int32) (ws : ai_W) : ai_Run 39 8 ls (.int a :: st) ws = if a = 0 then ai_Run 39 21 ls st ws else ai_Run 39 11 ls st ws := R_if_eq hc_39 dX10_append_8 rfl rfl
theorem r_39_11 (l1 : Value) (a : Nat) (st : List Value) (ws : ai_W) : ai_Run 39 11 [.ref a, l1] st ws = ai_Run 39 12 [.ref a, l1] (.ref a :: st) ws := R_aload_n hc_39 dX10_append_11 rfl rfl
theorem r_39_12 (ls st : List Value) (a : Nat) (ws : ai_W) : ai_Run 39 12 ls (.ref a :: st) ws = (ai_fget ws a 10 7).bind fun q => ai_Run 39 15 ls (q :: st) ws := R_getf hc_39 dX10_append_12 hv_39 (w := 662) rfl rfl
theorem r_39_15 (ls : List Value) (r : Nat) (ws : ai_W) : ai_Run 39 15 ls [.ref r] ws = (ai_Call 26 [.ref r] ws).bind fun q => ai_Run 39 18 ls (q.1.toList ++ []) q.2 := R_callV hc_39 dX10_append_15 hv_39 (w := 377) rfl (ai_lt3 hf_26 hf_39 hL_26 ho_26 ho_39 rfl) hk_26 (by rw [hn_26]; rfl) rfl (Nat.le_of_ble_eq_true rfl) rfl
theorem r_39_18 (ls st : List Value) (ws : ai_W) : ai_Run 39 18 ls st ws = ai_Run 39 23 ls st ws := R_goto hc_39 dX10_append_18 rfl
theorem r_39_21 (ls st : List Value) (ws : ai_W) : ai_Run 39 21 ls st ws = ai_Run 39 23 ls (.int (-2) :: st) ws := R_bipush hc_39 dX10_append_21 (by decide) rfl
theorem r_39_23 (ls : List Value) (x : Int32) (ws : ai_W) : ai_Run 39 23 ls [.int x] ws = some (some (.int x), ws) := R_iret hc_39 dX10_append_23 ht_39
theorem dX10_begin_0 : decode cX10_begin 0 = .ok (.aload_n 0, 1) := by decide +kernel
theorem dX10_begin_1 : decode cX10_begin 1 = .ok (.getfield 42, 3) := by decide +kernel
theorem dX10_begin_4 : decode cX10_begin 4 = .ok (.bipush (-4), 2) := by decide +kernel
theorem dX10_begin_6 : decode cX10_begin 6 = .ok (.invokevirtual 283, 3) := by decide +kernel
theorem dX10_begin_9 : decode cX10_begin 9 = .ok (.aload_n 0, 1) := by decide +kernel
theorem dX10_begin_10 : decode cX10_begin 10 = .ok (.getfield 58, 3) := by decide +kernel
theorem dX10_begin_13 : decode cX10_begin 13 = .ok (.aload_n 0, 1) := by decide +kernel
theorem dX10_begin_14 : decode cX10_begin 14 = .ok (.getfield 21, 3) := by decide +kernel
theorem dX10_begin_17 : decode cX10_begin 17 = .ok (.invokevirtual 277, 3) := by decide +kernel
theorem dX10_begin_20 : decode cX10_begin 20 = .ok (.return_, 1) := by decide +kernel
theorem e_46 (r : Nat)  (ws : ai_W) : ai_Call 46 [.ref r] ws = if ai_isob ws r 10 = true then ai_Run 46 0 [.ref r] [] ws else none := R_entV hk_46 ⟨⟨rfl, rfl⟩, Nat.le_of_ble_eq_true rfl⟩ rfl
theorem r_46_0 (a : Nat) (st : List Value) (ws : ai_W) : ai_Run 46 0 [.ref a] st ws = ai_Run 46 1 [.ref a] (.ref a :: st) ws := R_aload_n hc_46 dX10_begin_0 rfl rfl
theorem r_46_1 (ls st : List Value) (a : Nat) (ws : ai_W) : ai_Run 46 1 ls (.ref a :: st) ws = (ai_fget ws a 10 4).bind fun q => ai_Run 46 4 ls (q :: st) ws := R_getf hc_46 dX10_begin_1 hv_46 (w := 659) rfl rfl
theorem r_46_4 (ls st : List Value) (ws : ai_W) : ai_Run 46 4 ls st ws = ai_Run 46 6 ls (.int (-4) :: st) ws := R_bipush hc_46 dX10_begin_4 (by decide) rfl
theorem r_46_6 (ls : List Value) (r : Nat) (b0 : Int32) (ws : ai_W) : ai_Run 46 6 ls [.int b0, .ref r] ws = (ai_Call 40 [.ref r, .int b0] ws).bind fun q => ai_Run 46 9 ls (q.1.toList ++ []) q.2 := R_callV hc_46 dX10_begin_6 hv_46 (w := 53) rfl (ai_lt3 hf_40 hf_46 hL_40 ho_40 ho_46 rfl) hk_40 (by rw [hn_40]; rfl) rfl (Nat.le_of_ble_eq_true rfl) rfl
theorem r_46_9 (a : Nat) (st : List Value) (ws : ai_W) : ai_Run 46 9 [.ref a] st ws = ai_Run 46 10 [.ref a] (.ref a :: st) ws := R_aload_n hc_46 dX10_begin_9 rfl rfl
theorem r_46_10 (ls st : List Value) (a : Nat) (ws : ai_W) : ai_Run 46 10 ls (.ref a :: st) ws = (ai_fget ws a 10 6).bind fun q => ai_Run 46 13 ls (q :: st) ws := R_getf hc_46 dX10_begin_10 hv_46 (w := 661) rfl rfl
theorem r_46_13 (a : Nat) (st : List Value) (ws : ai_W) : ai_Run 46 13 [.ref a] st ws = ai_Run 46 14 [.ref a] (.ref a :: st) ws := R_aload_n hc_46 dX10_begin_13 rfl rfl
theorem r_46_14 (ls st : List Value) (a : Nat) (ws : ai_W) : ai_Run 46 14 ls (.ref a :: st) ws = (ai_fget ws a 10 0).bind fun q => ai_Run 46 17 ls (q :: st) ws := R_getf hc_46 dX10_begin_14 hv_46 (w := 655) rfl rfl
theorem r_46_17 (ls : List Value) (r : Nat) (b0 : Nat) (ws : ai_W) : ai_Run 46 17 ls [.ref b0, .ref r] ws = (ai_Call 45 [.ref r, .ref b0] ws).bind fun q => ai_Run 46 20 ls (q.1.toList ++ []) q.2 := R_callV hc_46 dX10_begin_17 hv_46 (w := 57) rfl (ai_lt3 hf_45 hf_46 hL_45 ho_45 ho_46 rfl) hk_45 (by rw [hn_45]; rfl) rfl (Nat.le_of_ble_eq_true rfl) rfl
theorem r_46_20 (ls : List Value) (ws : ai_W) : ai_Run 46 20 ls [] ws = some (none, ws) := R_vret hc_46 dX10_begin_20 ht_46
theorem dX10_isError_0 : decode cX10_isError 0 = .ok (.iload_n 0, 1) := by decide +kernel
theorem dX10_isError_1 : decode cX10_isError 1 = .ok (.iconst (-1), 1) := by decide +kernel
theorem dX10_isError_2 : decode cX10_isError 2 = .ok (.if_icmp .eq 15, 3) := by decide +kernel
theorem dX10_isError_5 : decode cX10_isError 5 = .ok (.iload_n 0, 1) := by decide +kernel
theorem dX10_isError_6 : decode cX10_isError 6 = .ok (.bipush (-2), 2) := by decide +kernel
theorem dX10_isError_8 : decode cX10_isError 8 = .ok (.if_icmp .eq 9, 3) := by decide +kernel
theorem dX10_isError_11 : decode cX10_isError 11 = .ok (.iload_n 0, 1) := by decide +kernel
theorem dX10_isError_12 : decode cX10_isError 12 = .ok (.bipush (-3), 2) := by decide +kernel
theorem dX10_isError_14 : decode cX10_isError 14 = .ok (.if_icmp .ne 7, 3) := by decide +kernel
theorem dX10_isError_17 : decode cX10_isError 17 = .ok (.iconst 1, 1) := by decide +kernel
theorem dX10_isError_18 : decode cX10_isError 18 = .ok (.goto 4, 3) := by decide +kernel
theorem dX10_isError_21 : decode cX10_isError 21 = .ok (.iconst 0, 1) := by decide +kernel
theorem dX10_isError_22 : decode cX10_isError 22 = .ok (.ireturn, 1) := by decide +kernel
theorem e_49 (a0 : Int32) (ws : ai_W) : ai_Call 49 [.int a0] ws = ai_Run 49 0 [.int a0] [] ws := R_entS hk_49 ⟨⟨rfl, rfl⟩, Nat.le_of_ble_eq_true rfl⟩ rfl
theorem r_49_0 (a : Int32) (st : List Value) (ws : ai_W) : ai_Run 49 0 [.int a] st ws = ai_Run 49 1 [.int a] (.int a :: st) ws := R_iload_n hc_49 dX10_isError_0 rfl rfl
theorem r_49_1 (ls st : List Value) (ws : ai_W) : ai_Run 49 1 ls st ws = ai_Run 49 2 ls (.int (-1) :: st) ws := R_iconst hc_49 dX10_isError_1 (by decide) rfl
theorem r_49_2 (ls st : List Value) (a b : Int32) (ws : ai_W) : ai_Run 49 2 ls (.int b :: .int a :: st) ws = if a = b then ai_Run 49 17 ls st ws else ai_Run 49 5 ls st ws := R_cmp_eq hc_49 dX10_isError_2 rfl rfl
theorem r_49_5 (a : Int32) (st : List Value) (ws : ai_W) : ai_Run 49 5 [.int a] st ws = ai_Run 49 6 [.int a] (.int a :: st) ws := R_iload_n hc_49 dX10_isError_5 rfl rfl
theorem r_49_6 (ls st : List Value) (ws : ai_W) : ai_Run 49 6 ls st ws = ai_Run 49 8 ls (.int (-2) :: st) ws := R_bipush hc_49 dX10_isError_6 (by decide) rfl
theorem r_49_8 (ls st : List Value) (a b : Int32) (ws : ai_W) : ai_Run 49 8 ls (.int b :: .int a :: st) ws = if a = b then ai_Run 49 17 ls st ws else ai_Run 49 11 ls st ws := R_cmp_eq hc_49 dX10_isError_8 rfl rfl
theorem r_49_11 (a : Int32) (st : List Value) (ws : ai_W) : ai_Run 49 11 [.int a] st ws = ai_Run 49 12 [.int a] (.int a :: st) ws := R_iload_n hc_49 dX10_isError_11 rfl rfl
theorem r_49_12 (ls st : List Value) (ws : ai_W) : ai_Run 49 12 ls st ws = ai_Run 49 14 ls (.int (-3) :: st) ws := R_bipush hc_49 dX10_isError_12 (by decide) rfl
theorem r_49_14 (ls st : List Value) (a b : Int32) (ws : ai_W) : ai_Run 49 14 ls (.int b :: .int a :: st) ws = if a = b then ai_Run 49 17 ls st ws else ai_Run 49 21 ls st ws := R_cmp_ne hc_49 dX10_isError_14 rfl rfl
theorem r_49_17 (ls st : List Value) (ws : ai_W) : ai_Run 49 17 ls st ws = ai_Run 49 18 ls (.int 1 :: st) ws := R_iconst hc_49 dX10_isError_17 (by decide) rfl
theorem r_49_18 (ls st : List Value) (ws : ai_W) : ai_Run 49 18 ls st ws = ai_Run 49 22 ls st ws := R_goto hc_49 dX10_isError_18 rfl
theorem r_49_21 (ls st : List Value) (ws : ai_W) : ai_Run 49 21 ls st ws = ai_Run 49 22 ls (.int 0 :: st) ws := R_iconst hc_49 dX10_isError_21 (by decide) rfl
theorem r_49_22 (ls : List Value) (x : Int32) (ws : ai_W) : ai_Run 49 22 ls [.int x] ws = if ai_pb x = true then some (some (.int x), ws) else none := R_zret hc_49 dX10_isError_22 ht_49
theorem dX10_finish_0 : decode cX10_finish 0 = .ok (.iload_n 1, 1) := by decide +kernel
theorem dX10_finish_1 : decode cX10_finish 1 = .ok (.invokestatic 289, 3) := by decide +kernel
theorem dX10_finish_4 : decode cX10_finish 4 = .ok (.ifCond .ne 10, 3) := by decide +kernel
theorem dX10_finish_7 : decode cX10_finish 7 = .ok (.aload_n 0, 1) := by decide +kernel
theorem dX10_finish_8 : decode cX10_finish 8 = .ok (.getfield 58, 3) := by decide +kernel
theorem dX10_finish_11 : decode cX10_finish 11 = .ok (.invokevirtual 295, 3) := by decide +kernel
theorem dX10_finish_14 : decode cX10_finish 14 = .ok (.iload_n 1, 1) := by decide +kernel
theorem dX10_finish_15 : decode cX10_finish 15 = .ok (.ireturn, 1) := by decide +kernel
theorem e_51 (r : Nat) (a0 : Int32) (ws : ai_W) : ai_Call 51 [.ref r, .int a0] ws = if ai_isob ws r 10 = true then ai_Run 51 0 [.ref r, .int a0] [] ws else none := R_entV hk_51 ⟨⟨rfl, rfl⟩, Nat.le_of_ble_eq_true rfl⟩ rfl
theorem r_51_0 (l0 : Value) (a : Int32) (st : List Value) (ws : ai_W) : ai_Run 51 0 [l0, .int a] st ws = ai_Run 51 1 [l0, .int a] (.int a :: st) ws := R_iload_n hc_51 dX10_finish_0 rfl rfl
theorem r_51_1 (ls : List Value) (b0 : Int32) (ws : ai_W) : ai_Run 51 1 ls [.int b0] ws = (ai_Call 49 [.int b0] ws).bind fun q => ai_Run 51 4 ls (q.1.toList ++ []) q.2 := R_callS hc_51 dX10_finish_1 hv_51 (w := 92) rfl (ai_lt3 hf_49 hf_51 hL_49 ho_49 ho_51 rfl) hk_49 (by rw [hn_49]; rfl) rfl (Nat.le_of_ble_eq_true rfl) rfl
theorem r_51_4 (ls st : List Value) (a : Int32) (ws : ai_W) : ai_Run 51 4 ls (.int a :: st) ws = if a = 0 then ai_Run 51 7 ls st ws else ai_Run 51 14 ls st ws := R_if_ne hc_51 dX10_finish_4 rfl rfl
theorem r_51_7 (l1 : Value) (a : Nat) (st : List Value) (ws : ai_W) : ai_Run 51 7 [.ref a, l1] st ws = ai_Run 51 8 [.ref a, l1] (.ref a :: st) ws := R_aload_n hc_51 dX10_finish_7 rfl rfl
theorem r_51_8 (ls st : List Value) (a : Nat) (ws : ai_W) : ai_Run 51 8 ls (.ref a :: st) ws = (ai_fget ws a 10 6).bind fun q => ai_Run 51 11 ls (q :: st) ws := R_getf hc_51 dX10_finish_8 hv_51 (w := 661) rfl rfl
theorem r_51_11 (ls : List Value) (r : Nat) (ws : ai_W) : ai_Run 51 11 ls [.ref r] ws = (ai_Call 50 [.ref r] ws).bind fun q => ai_Run 51 14 ls (q.1.toList ++ []) q.2 := R_callV hc_51 dX10_finish_11 hv_51 (w := 95) rfl (ai_lt3 hf_50 hf_51 hL_50 ho_50 ho_51 rfl) hk_50 (by rw [hn_50]; rfl) rfl (Nat.le_of_ble_eq_true rfl) rfl
theorem r_51_14 (l0 : Value) (a : Int32) (st : List Value) (ws : ai_W) : ai_Run 51 14 [l0, .int a] st ws = ai_Run 51 15 [l0, .int a] (.int a :: st) ws := R_iload_n hc_51 dX10_finish_14 rfl rfl
theorem r_51_15 (ls : List Value) (x : Int32) (ws : ai_W) : ai_Run 51 15 ls [.int x] ws = some (some (.int x), ws) := R_iret hc_51 dX10_finish_15 ht_51
theorem dX10_author_0 : decode cX10_author 0 = .ok (.aload_n 0, 1) := by decide +kernel
theorem dX10_author_1 : decode cX10_author 1 = .ok (.invokevirtual 76, 3) := by decide +kernel
theorem dX10_author_4 : decode cX10_author 4 = .ok (.aload_n 0, 1) := by decide +kernel
theorem dX10_author_5 : decode cX10_author 5 = .ok (.aload_n 0, 1) := by decide +kernel
theorem dX10_author_6 : decode cX10_author 6 = .ok (.getfield 51, 3) := by decide +kernel
theorem dX10_author_9 : decode cX10_author 9 = .ok (.invokevirtual 87, 3) := by decide +kernel
theorem dX10_author_12 : decode cX10_author 12 = .ok (.invokevirtual 83, 3) := by decide +kernel
theorem dX10_author_15 : decode cX10_author 15 = .ok (.ireturn, 1) := by decide +kernel
theorem e_52 (r : Nat)  (ws : ai_W) : ai_Call 52 [.ref r] ws = if ai_isob ws r 10 = true then ai_Run 52 0 [.ref r] [] ws else none := R_entV hk_52 ⟨⟨rfl, rfl⟩, Nat.le_of_ble_eq_true rfl⟩ rfl
theorem r_52_0 (a : Nat) (st : List Value) (ws : ai_W) : ai_Run 52 0 [.ref a] st ws = ai_Run 52 1 [.ref a] (.ref a :: st) ws := R_aload_n hc_52 dX10_author_0 rfl rfl
theorem r_52_1 (ls : List Value) (r : Nat) (ws : ai_W) : ai_Run 52 1 ls [.ref r] ws = (ai_Call 46 [.ref r] ws).bind fun q => ai_Run 52 4 ls (q.1.toList ++ []) q.2 := R_callV hc_52 dX10_author_1 hv_52 (w := 48) rfl (ai_lt3 hf_46 hf_52 hL_46 ho_46 ho_52 rfl) hk_46 (by rw [hn_46]; rfl) rfl (Nat.le_of_ble_eq_true rfl) rfl
theorem r_52_4 (a : Nat) (st : List Value) (ws : ai_W) : ai_Run 52 4 [.ref a] st ws = ai_Run 52 5 [.ref a] (.ref a :: st) ws := R_aload_n hc_52 dX10_author_4 rfl rfl
theorem r_52_5 (a : Nat) (st : List Value) (ws : ai_W) : ai_Run 52 5 [.ref a] st ws = ai_Run 52 6 [.ref a] (.ref a :: st) ws := R_aload_n hc_52 dX10_author_5 rfl rfl
theorem r_52_6 (ls st : List Value) (a : Nat) (ws : ai_W) : ai_Run 52 6 ls (.ref a :: st) ws = (ai_fget ws a 10 5).bind fun q => ai_Run 52 9 ls (q :: st) ws := R_getf hc_52 dX10_author_6 hv_52 (w := 660) rfl rfl
theorem r_52_9 (ls : List Value) (r : Nat) (s0 : Value) (ws : ai_W) : ai_Run 52 9 ls [.ref r, s0] ws = (ai_Call 48 [.ref r] ws).bind fun q => ai_Run 52 12 ls (q.1.toList ++ [s0]) q.2 := R_callV hc_52 dX10_author_9 hv_52 (w := 695) rfl (ai_lt3 hf_48 hf_52 hL_48 ho_48 ho_52 rfl) hk_48 (by rw [hn_48]; rfl) rfl (Nat.le_of_ble_eq_true rfl) rfl
theorem r_52_12 (ls : List Value) (r : Nat) (b0 : Int32) (ws : ai_W) : ai_Run 52 12 ls [.int b0, .ref r] ws = (ai_Call 51 [.ref r, .int b0] ws).bind fun q => ai_Run 52 15 ls (q.1.toList ++ []) q.2 := R_callV hc_52 dX10_author_12 hv_52 (w := 88) rfl (ai_lt3 hf_51 hf_52 hL_51 ho_51 ho_52 rfl) hk_51 (by rw [hn_51]; rfl) rfl (Nat.le_of_ble_eq_true rfl) rfl
theorem r_52_15 (ls : List Value) (x : Int32) (ws : ai_W) : ai_Run 52 15 ls [.int x] ws = some (some (.int x), ws) := R_iret hc_52 dX10_author_15 ht_52
theorem dX10_authorOf_0 : decode cX10_authorOf 0 = .ok (.aload_n 0, 1) := by decide +kernel
theorem dX10_authorOf_1 : decode cX10_authorOf 1 = .ok (.getfield 21, 3) := by decide +kernel
theorem dX10_authorOf_4 : decode cX10_authorOf 4 = .ok (.iload_n 1, 1) := by decide +kernel
theorem dX10_authorOf_5 : decode cX10_authorOf 5 = .ok (.invokevirtual 169, 3) := by decide +kernel
theorem dX10_authorOf_8 : decode cX10_authorOf 8 = .ok (.ifCond .ne 5, 3) := by decide +kernel
theorem dX10_authorOf_11 : decode cX10_authorOf 11 = .ok (.iconst (-1), 1) := by decide +kernel
theorem dX10_authorOf_12 : decode cX10_authorOf 12 = .ok (.ireturn, 1) := by decide +kernel
theorem dX10_authorOf_13 : decode cX10_authorOf 13 = .ok (.iload_n 2, 1) := by decide +kernel
theorem dX10_authorOf_14 : decode cX10_authorOf 14 = .ok (.tableswitch 69 0 3 #[30, 42, 51, 60], 30) := by decide +kernel
theorem dX10_authorOf_44 : decode cX10_authorOf 44 = .ok (.aload_n 0, 1) := by decide +kernel
theorem dX10_authorOf_45 : decode cX10_authorOf 45 = .ok (.getfield 21, 3) := by decide +kernel
theorem dX10_authorOf_48 : decode cX10_authorOf 48 = .ok (.getfield 172, 3) := by decide +kernel
theorem dX10_authorOf_51 : decode cX10_authorOf 51 = .ok (.iload_n 1, 1) := by decide +kernel
theorem dX10_authorOf_52 : decode cX10_authorOf 52 = .ok (.invokevirtual 158, 3) := by decide +kernel
theorem dX10_authorOf_55 : decode cX10_authorOf 55 = .ok (.ireturn, 1) := by decide +kernel
theorem dX10_authorOf_56 : decode cX10_authorOf 56 = .ok (.aload_n 0, 1) := by decide +kernel
theorem dX10_authorOf_57 : decode cX10_authorOf 57 = .ok (.getfield 38, 3) := by decide +kernel
theorem dX10_authorOf_60 : decode cX10_authorOf 60 = .ok (.iload_n 1, 1) := by decide +kernel
theorem dX10_authorOf_61 : decode cX10_authorOf 61 = .ok (.invokevirtual 175, 3) := by decide +kernel
theorem dX10_authorOf_64 : decode cX10_authorOf 64 = .ok (.ireturn, 1) := by decide +kernel
theorem dX10_authorOf_65 : decode cX10_authorOf 65 = .ok (.aload_n 0, 1) := by decide +kernel
theorem dX10_authorOf_66 : decode cX10_authorOf 66 = .ok (.getfield 38, 3) := by decide +kernel
theorem dX10_authorOf_69 : decode cX10_authorOf 69 = .ok (.iload_n 1, 1) := by decide +kernel
theorem dX10_authorOf_70 : decode cX10_authorOf 70 = .ok (.invokevirtual 178, 3) := by decide +kernel
theorem dX10_authorOf_73 : decode cX10_authorOf 73 = .ok (.ireturn, 1) := by decide +kernel
theorem dX10_authorOf_74 : decode cX10_authorOf 74 = .ok (.aload_n 0, 1) := by decide +kernel
theorem dX10_authorOf_75 : decode cX10_authorOf 75 = .ok (.getfield 38, 3) := by decide +kernel
theorem dX10_authorOf_78 : decode cX10_authorOf 78 = .ok (.iload_n 1, 1) := by decide +kernel
theorem dX10_authorOf_79 : decode cX10_authorOf 79 = .ok (.invokevirtual 181, 3) := by decide +kernel
theorem dX10_authorOf_82 : decode cX10_authorOf 82 = .ok (.ireturn, 1) := by decide +kernel
theorem dX10_authorOf_83 : decode cX10_authorOf 83 = .ok (.bipush (-2), 2) := by decide +kernel
theorem dX10_authorOf_85 : decode cX10_authorOf 85 = .ok (.ireturn, 1) := by decide +kernel
theorem e_57 (r : Nat) (a0 : Int32) (a1 : Int32) (ws : ai_W) : ai_Call 57 [.ref r, .int a0, .int a1] ws = if ai_isob ws r 10 = true then ai_Run 57 0 [.ref r, .int a0, .int a1] [] ws else none := R_entV hk_57 ⟨⟨rfl, rfl⟩, Nat.le_of_ble_eq_true rfl⟩ rfl
theorem r_57_0 (l1 l2 : Value) (a : Nat) (st : List Value) (ws : ai_W) : ai_Run 57 0 [.ref a, l1, l2] st ws = ai_Run 57 1 [.ref a, l1, l2] (.ref a :: st) ws := R_aload_n hc_57 dX10_authorOf_0 rfl rfl
theorem r_57_1 (ls st : List Value) (a : Nat) (ws : ai_W) : ai_Run 57 1 ls (.ref a :: st) ws = (ai_fget ws a 10 0).bind fun q => ai_Run 57 4 ls (q :: st) ws := R_getf hc_57 dX10_authorOf_1 hv_57 (w := 655) rfl rfl
theorem r_57_4 (l0 l2 : Value) (a : Int32) (st : List Value) (ws : ai_W) : ai_Run 57 4 [l0, .int a, l2] st ws = ai_Run 57 5 [l0, .int a, l2] (.int a :: st) ws := R_iload_n hc_57 dX10_authorOf_4 rfl rfl
theorem r_57_5 (ls : List Value) (r : Nat) (b0 : Int32) (ws : ai_W) : ai_Run 57 5 ls [.int b0, .ref r] ws = (ai_Call 35 [.ref r, .int b0] ws).bind fun q => ai_Run 57 8 ls (q.1.toList ++ []) q.2 := R_callV hc_57 dX10_authorOf_5 hv_57 (w := 1119) rfl (ai_lt3 hf_35 hf_57 hL_35 ho_35 ho_57 rfl) hk_35 (by rw [hn_35]; rfl) rfl (Nat.le_of_ble_eq_true rfl) rfl
theorem r_57_8 (ls st : List Value) (a : Int32) (ws : ai_W) : ai_Run 57 8 ls (.int a :: st) ws = if a = 0 then ai_Run 57 11 ls st ws else ai_Run 57 13 ls st ws := R_if_ne hc_57 dX10_authorOf_8 rfl rfl
theorem r_57_11 (ls st : List Value) (ws : ai_W) : ai_Run 57 11 ls st ws = ai_Run 57 12 ls (.int (-1) :: st) ws := R_iconst hc_57 dX10_authorOf_11 (by decide) rfl
theorem r_57_12 (ls : List Value) (x : Int32) (ws : ai_W) : ai_Run 57 12 ls [.int x] ws = some (some (.int x), ws) := R_iret hc_57 dX10_authorOf_12 ht_57
theorem r_57_13 (l0 l1 : Value) (a : Int32) (st : List Value) (ws : ai_W) : ai_Run 57 13 [l0, l1, .int a] st ws = ai_Run 57 14 [l0, l1, .int a] (.int a :: st) ws := R_iload_n hc_57 dX10_authorOf_13 rfl rfl
theorem r_57_14 (ls st : List Value) (x : Int32) (ws : ai_W) : ai_Run 57 14 ls (.int x :: st) ws = if x = 0 then ai_Run 57 44 ls st ws else if x = 1 then ai_Run 57 56 ls st ws else if x = 2 then ai_Run 57 65 ls st ws else if x = 3 then ai_Run 57 74 ls st ws else ai_Run 57 83 ls st ws := by
  by_cases h0 : x = 0
  · subst h0; rw [if_pos rfl]; exact R_switch hc_57 dX10_authorOf_14 (by decide +kernel)
  rw [if_neg h0]
  by_cases h1 : x = 1
  · subst h1; rw [if_pos rfl]; exact R_switch hc_57 dX10_authorOf_14 (by decide +kernel)
  rw [if_neg h1]
  by_cases h2 : x = 2
  · subst h2; rw [if_pos rfl]; exact R_switch hc_57 dX10_authorOf_14 (by decide +kernel)
  rw [if_neg h2]
  by_cases h3 : x = 3
  · subst h3; rw [if_pos rfl]; exact R_switch hc_57 dX10_authorOf_14 (by decide +kernel)
  rw [if_neg h3]
  have q0 : x.toInt ≠ 0 := fun e => h0 (Int32.toInt_inj.mp e)
  have q1 : x.toInt ≠ 1 := fun e => h1 (Int32.toInt_inj.mp e)
  have q2 : x.toInt ≠ 2 := fun e => h2 (Int32.toInt_inj.mp e)
  have q3 : x.toInt ≠ 3 := fun e => h3 (Int32.toInt_inj.mp e)
  refine R_switch hc_57 dX10_authorOf_14 (t := 83) ?_
  unfold ai_sw
  rw [if_pos (by omega)]
  rfl
theorem r_57_44 (l1 l2 : Value) (a : Nat) (st : List Value) (ws : ai_W) : ai_Run 57 44 [.ref a, l1, l2] st ws = ai_Run 57 45 [.ref a, l1, l2] (.ref a :: st) ws := R_aload_n hc_57 dX10_authorOf_44 rfl rfl
theorem r_57_45 (ls st : List Value) (a : Nat) (ws : ai_W) : ai_Run 57 45 ls (.ref a :: st) ws = (ai_fget ws a 10 0).bind fun q => ai_Run 57 48 ls (q :: st) ws := R_getf hc_57 dX10_authorOf_45 hv_57 (w := 655) rfl rfl
theorem r_57_48 (ls st : List Value) (a : Nat) (ws : ai_W) : ai_Run 57 48 ls (.ref a :: st) ws = (ai_fget ws a 0 7).bind fun q => ai_Run 57 51 ls (q :: st) ws := R_getf hc_57 dX10_authorOf_48 hv_57 (w := 488) rfl rfl
theorem r_57_51 (l0 l2 : Value) (a : Int32) (st : List Value) (ws : ai_W) : ai_Run 57 51 [l0, .int a, l2] st ws = ai_Run 57 52 [l0, .int a, l2] (.int a :: st) ws := R_iload_n hc_57 dX10_authorOf_51 rfl rfl
theorem r_57_52 (ls : List Value) (r : Nat) (b0 : Int32) (ws : ai_W) : ai_Run 57 52 ls [.int b0, .ref r] ws = (ai_Call 12 [.ref r, .int b0] ws).bind fun q => ai_Run 57 55 ls (q.1.toList ++ []) q.2 := R_callV hc_57 dX10_authorOf_52 hv_57 (w := 326) rfl (ai_lt3 hf_12 hf_57 hL_12 ho_12 ho_57 rfl) hk_12 (by rw [hn_12]; rfl) rfl (Nat.le_of_ble_eq_true rfl) rfl
theorem r_57_55 (ls : List Value) (x : Int32) (ws : ai_W) : ai_Run 57 55 ls [.int x] ws = some (some (.int x), ws) := R_iret hc_57 dX10_authorOf_55 ht_57
theorem r_57_56 (l1 l2 : Value) (a : Nat) (st : List Value) (ws : ai_W) : ai_Run 57 56 [.ref a, l1, l2] st ws = ai_Run 57 57 [.ref a, l1, l2] (.ref a :: st) ws := R_aload_n hc_57 dX10_authorOf_56 rfl rfl
theorem r_57_57 (ls st : List Value) (a : Nat) (ws : ai_W) : ai_Run 57 57 ls (.ref a :: st) ws = (ai_fget ws a 10 3).bind fun q => ai_Run 57 60 ls (q :: st) ws := R_getf hc_57 dX10_authorOf_57 hv_57 (w := 658) rfl rfl
theorem r_57_60 (l0 l2 : Value) (a : Int32) (st : List Value) (ws : ai_W) : ai_Run 57 60 [l0, .int a, l2] st ws = ai_Run 57 61 [l0, .int a, l2] (.int a :: st) ws := R_iload_n hc_57 dX10_authorOf_60 rfl rfl
theorem r_57_61 (ls : List Value) (r : Nat) (b0 : Int32) (ws : ai_W) : ai_Run 57 61 ls [.int b0, .ref r] ws = (ai_Call 23 [.ref r, .int b0] ws).bind fun q => ai_Run 57 64 ls (q.1.toList ++ []) q.2 := R_callV hc_57 dX10_authorOf_61 hv_57 (w := 1145) rfl (ai_lt3 hf_23 hf_57 hL_23 ho_23 ho_57 rfl) hk_23 (by rw [hn_23]; rfl) rfl (Nat.le_of_ble_eq_true rfl) rfl
theorem r_57_64 (ls : List Value) (x : Int32) (ws : ai_W) : ai_Run 57 64 ls [.int x] ws = some (some (.int x), ws) := R_iret hc_57 dX10_authorOf_64 ht_57
theorem r_57_65 (l1 l2 : Value) (a : Nat) (st : List Value) (ws : ai_W) : ai_Run 57 65 [.ref a, l1, l2] st ws = ai_Run 57 66 [.ref a, l1, l2] (.ref a :: st) ws := R_aload_n hc_57 dX10_authorOf_65 rfl rfl
theorem r_57_66 (ls st : List Value) (a : Nat) (ws : ai_W) : ai_Run 57 66 ls (.ref a :: st) ws = (ai_fget ws a 10 3).bind fun q => ai_Run 57 69 ls (q :: st) ws := R_getf hc_57 dX10_authorOf_66 hv_57 (w := 658) rfl rfl
theorem r_57_69 (l0 l2 : Value) (a : Int32) (st : List Value) (ws : ai_W) : ai_Run 57 69 [l0, .int a, l2] st ws = ai_Run 57 70 [l0, .int a, l2] (.int a :: st) ws := R_iload_n hc_57 dX10_authorOf_69 rfl rfl
theorem r_57_70 (ls : List Value) (r : Nat) (b0 : Int32) (ws : ai_W) : ai_Run 57 70 ls [.int b0, .ref r] ws = (ai_Call 55 [.ref r, .int b0] ws).bind fun q => ai_Run 57 73 ls (q.1.toList ++ []) q.2 := R_callV hc_57 dX10_authorOf_70 hv_57 (w := 1146) rfl (ai_lt3 hf_55 hf_57 hL_55 ho_55 ho_57 rfl) hk_55 (by rw [hn_55]; rfl) rfl (Nat.le_of_ble_eq_true rfl) rfl
theorem r_57_73 (ls : List Value) (x : Int32) (ws : ai_W) : ai_Run 57 73 ls [.int x] ws = some (some (.int x), ws) := R_iret hc_57 dX10_authorOf_73 ht_57
theorem r_57_74 (l1 l2 : Value) (a : Nat) (st : List Value) (ws : ai_W) : ai_Run 57 74 [.ref a, l1, l2] st ws = ai_Run 57 75 [.ref a, l1, l2] (.ref a :: st) ws := R_aload_n hc_57 dX10_authorOf_74 rfl rfl
theorem r_57_75 (ls st : List Value) (a : Nat) (ws : ai_W) : ai_Run 57 75 ls (.ref a :: st) ws = (ai_fget ws a 10 3).bind fun q => ai_Run 57 78 ls (q :: st) ws := R_getf hc_57 dX10_authorOf_75 hv_57 (w := 658) rfl rfl
theorem r_57_78 (l0 l2 : Value) (a : Int32) (st : List Value) (ws : ai_W) : ai_Run 57 78 [l0, .int a, l2] st ws = ai_Run 57 79 [l0, .int a, l2] (.int a :: st) ws := R_iload_n hc_57 dX10_authorOf_78 rfl rfl
theorem r_57_79 (ls : List Value) (r : Nat) (b0 : Int32) (ws : ai_W) : ai_Run 57 79 ls [.int b0, .ref r] ws = (ai_Call 56 [.ref r, .int b0] ws).bind fun q => ai_Run 57 82 ls (q.1.toList ++ []) q.2 := R_callV hc_57 dX10_authorOf_79 hv_57 (w := 1147) rfl (ai_lt3 hf_56 hf_57 hL_56 ho_56 ho_57 rfl) hk_56 (by rw [hn_56]; rfl) rfl (Nat.le_of_ble_eq_true rfl) rfl
theorem r_57_82 (ls : List Value) (x : Int32) (ws : ai_W) : ai_Run 57 82 ls [.int x] ws = some (some (.int x), ws) := R_iret hc_57 dX10_authorOf_82 ht_57
theorem r_57_83 (ls st : List Value) (ws : ai_W) : ai_Run 57 83 ls st ws = ai_Run 57 85 ls (.int (-2) :: st) ws := R_bipush hc_57 dX10_authorOf_83 (by decide) rfl
theorem r_57_85 (ls : List Value) (x : Int32) (ws : ai_W) : ai_Run 57 85 ls [.int x] ws = some (some (.int x), ws) := R_iret hc_57 dX10_authorOf_85 ht_57
theorem dX10_bitsOfShare_0 : decode cX10_bitsOfShare 0 = .ok (.fload_n 0, 1) := by decide +kernel
theorem dX10_bitsOfShare_1 : decode cX10_bitsOfShare 1 = .ok (.fconst 0, 1) := by decide +kernel
theorem dX10_bitsOfShare_2 : decode cX10_bitsOfShare 2 = .ok (.fcmp .g, 1) := by decide +kernel
theorem dX10_bitsOfShare_3 : decode cX10_bitsOfShare 3 = .ok (.ifCond .gt 5, 3) := by decide +kernel
theorem dX10_bitsOfShare_6 : decode cX10_bitsOfShare 6 = .ok (.iconst 0, 1) := by decide +kernel
theorem dX10_bitsOfShare_7 : decode cX10_bitsOfShare 7 = .ok (.ireturn, 1) := by decide +kernel
theorem dX10_bitsOfShare_8 : decode cX10_bitsOfShare 8 = .ok (.fload_n 0, 1) := by decide +kernel
theorem dX10_bitsOfShare_9 : decode cX10_bitsOfShare 9 = .ok (.fstore_n 1, 1) := by decide +kernel
theorem dX10_bitsOfShare_10 : decode cX10_bitsOfShare 10 = .ok (.bipush 127, 2) := by decide +kernel
theorem dX10_bitsOfShare_12 : decode cX10_bitsOfShare 12 = .ok (.istore_n 2, 1) := by decide +kernel
theorem dX10_bitsOfShare_13 : decode cX10_bitsOfShare 13 = .ok (.iconst 0, 1) := by decide +kernel
theorem dX10_bitsOfShare_14 : decode cX10_bitsOfShare 14 = .ok (.istore_n 3, 1) := by decide +kernel
theorem dX10_bitsOfShare_15 : decode cX10_bitsOfShare 15 = .ok (.iload_n 3, 1) := by decide +kernel
theorem dX10_bitsOfShare_16 : decode cX10_bitsOfShare 16 = .ok (.bipush 31, 2) := by decide +kernel
theorem dX10_bitsOfShare_18 : decode cX10_bitsOfShare 18 = .ok (.if_icmp .ge 22, 3) := by decide +kernel
theorem dX10_bitsOfShare_21 : decode cX10_bitsOfShare 21 = .ok (.fload_n 1, 1) := by decide +kernel
theorem dX10_bitsOfShare_22 : decode cX10_bitsOfShare 22 = .ok (.fconst 1, 1) := by decide +kernel
theorem dX10_bitsOfShare_23 : decode cX10_bitsOfShare 23 = .ok (.fcmp .g, 1) := by decide +kernel
theorem dX10_bitsOfShare_24 : decode cX10_bitsOfShare 24 = .ok (.ifCond .ge 16, 3) := by decide +kernel
theorem dX10_bitsOfShare_27 : decode cX10_bitsOfShare 27 = .ok (.fload_n 1, 1) := by decide +kernel
theorem dX10_bitsOfShare_28 : decode cX10_bitsOfShare 28 = .ok (.fconst 2, 1) := by decide +kernel
theorem dX10_bitsOfShare_29 : decode cX10_bitsOfShare 29 = .ok (.fmul, 1) := by decide +kernel
theorem dX10_bitsOfShare_30 : decode cX10_bitsOfShare 30 = .ok (.fstore_n 1, 1) := by decide +kernel
theorem dX10_bitsOfShare_31 : decode cX10_bitsOfShare 31 = .ok (.iinc 2 (-1), 3) := by decide +kernel
theorem dX10_bitsOfShare_34 : decode cX10_bitsOfShare 34 = .ok (.iinc 3 1, 3) := by decide +kernel
theorem dX10_bitsOfShare_37 : decode cX10_bitsOfShare 37 = .ok (.goto (-22), 3) := by decide +kernel
theorem dX10_bitsOfShare_40 : decode cX10_bitsOfShare 40 = .ok (.iload_n 2, 1) := by decide +kernel
theorem dX10_bitsOfShare_41 : decode cX10_bitsOfShare 41 = .ok (.bipush 23, 2) := by decide +kernel
theorem dX10_bitsOfShare_43 : decode cX10_bitsOfShare 43 = .ok (.ishl, 1) := by decide +kernel
theorem dX10_bitsOfShare_44 : decode cX10_bitsOfShare 44 = .ok (.fload_n 1, 1) := by decide +kernel
theorem dX10_bitsOfShare_45 : decode cX10_bitsOfShare 45 = .ok (.fconst 1, 1) := by decide +kernel
theorem dX10_bitsOfShare_46 : decode cX10_bitsOfShare 46 = .ok (.fsub, 1) := by decide +kernel
theorem dX10_bitsOfShare_47 : decode cX10_bitsOfShare 47 = .ok (.ldc_w 369, 3) := by decide +kernel
theorem dX10_bitsOfShare_50 : decode cX10_bitsOfShare 50 = .ok (.fmul, 1) := by decide +kernel
theorem dX10_bitsOfShare_51 : decode cX10_bitsOfShare 51 = .ok (.f2i, 1) := by decide +kernel
theorem dX10_bitsOfShare_52 : decode cX10_bitsOfShare 52 = .ok (.iadd, 1) := by decide +kernel
theorem dX10_bitsOfShare_53 : decode cX10_bitsOfShare 53 = .ok (.ireturn, 1) := by decide +kernel
theorem e_58 (a0 : UInt32) (ws : ai_W) : ai_Call 58 [.float a0] ws = ai_Run 58 0 [.float a0, .null, .null, .null] [] ws := R_entS hk_58 ⟨⟨rfl, rfl⟩, Nat.le_of_ble_eq_true rfl⟩ rfl
theorem r_58_0 (l1 l2 l3 : Value) (a : UInt32) (st : List Value) (ws : ai_W) : ai_Run 58 0 [.float a, l1, l2, l3] st ws = ai_Run 58 1 [.float a, l1, l2, l3] (.float a :: st) ws := R_fload_n hc_58 dX10_bitsOfShare_0 rfl rfl
theorem r_58_1 (ls st : List Value) (ws : ai_W) : ai_Run 58 1 ls st ws = ai_Run 58 2 ls (.float FP.fconst0 :: st) ws := R_fconst hc_58 dX10_bitsOfShare_1 rfl rfl
theorem r_58_2 (ls st : List Value) (a b : UInt32) (ws : ai_W) : ai_Run 58 2 ls (.float b :: .float a :: st) ws = ai_Run 58 3 ls (.int (Op.cmpValue (FP.fcmp a b) CmpOp.g) :: st) ws := R_fcmp hc_58 dX10_bitsOfShare_2 rfl
theorem r_58_3 (ls st : List Value) (a : Int32) (ws : ai_W) : ai_Run 58 3 ls (.int a :: st) ws = if 0 < a then ai_Run 58 8 ls st ws else ai_Run 58 6 ls st ws := R_if_gt hc_58 dX10_bitsOfShare_3 rfl rfl
theorem r_58_6 (ls st : List Value) (ws : ai_W) : ai_Run 58 6 ls st ws = ai_Run 58 7 ls (.int 0 :: st) ws := R_iconst hc_58 dX10_bitsOfShare_6 (by decide) rfl
theorem r_58_7 (ls : List Value) (x : Int32) (ws : ai_W) : ai_Run 58 7 ls [.int x] ws = some (some (.int x), ws) := R_iret hc_58 dX10_bitsOfShare_7 ht_58
theorem r_58_8 (l1 l2 l3 : Value) (a : UInt32) (st : List Value) (ws : ai_W) : ai_Run 58 8 [.float a, l1, l2, l3] st ws = ai_Run 58 9 [.float a, l1, l2, l3] (.float a :: st) ws := R_fload_n hc_58 dX10_bitsOfShare_8 rfl rfl
theorem r_58_9 (l0 l1 l2 l3 : Value) (a : UInt32) (st : List Value) (ws : ai_W) : ai_Run 58 9 [l0, l1, l2, l3] (.float a :: st) ws = ai_Run 58 10 [l0, .float a, l2, l3] st ws := R_fstore_n hc_58 dX10_bitsOfShare_9 (Nat.le_of_ble_eq_true rfl) rfl rfl
theorem r_58_10 (ls st : List Value) (ws : ai_W) : ai_Run 58 10 ls st ws = ai_Run 58 12 ls (.int 127 :: st) ws := R_bipush hc_58 dX10_bitsOfShare_10 (by decide) rfl
theorem r_58_12 (l0 l1 l2 l3 : Value) (a : Int32) (st : List Value) (ws : ai_W) : ai_Run 58 12 [l0, l1, l2, l3] (.int a :: st) ws = ai_Run 58 13 [l0, l1, .int a, l3] st ws := R_istore_n hc_58 dX10_bitsOfShare_12 (Nat.le_of_ble_eq_true rfl) rfl rfl
theorem r_58_13 (ls st : List Value) (ws : ai_W) : ai_Run 58 13 ls st ws = ai_Run 58 14 ls (.int 0 :: st) ws := R_iconst hc_58 dX10_bitsOfShare_13 (by decide) rfl
theorem r_58_14 (l0 l1 l2 l3 : Value) (a : Int32) (st : List Value) (ws : ai_W) : ai_Run 58 14 [l0, l1, l2, l3] (.int a :: st) ws = ai_Run 58 15 [l0, l1, l2, .int a] st ws := R_istore_n hc_58 dX10_bitsOfShare_14 (Nat.le_of_ble_eq_true rfl) rfl rfl
theorem r_58_15 (l0 l1 l2 : Value) (a : Int32) (st : List Value) (ws : ai_W) : ai_Run 58 15 [l0, l1, l2, .int a] st ws = ai_Run 58 16 [l0, l1, l2, .int a] (.int a :: st) ws := R_iload_n hc_58 dX10_bitsOfShare_15 rfl rfl
theorem r_58_16 (ls st : List Value) (ws : ai_W) : ai_Run 58 16 ls st ws = ai_Run 58 18 ls (.int 31 :: st) ws := R_bipush hc_58 dX10_bitsOfShare_16 (by decide) rfl
theorem r_58_18 (ls st : List Value) (a b : Int32) (ws : ai_W) : ai_Run 58 18 ls (.int b :: .int a :: st) ws = if a < b then ai_Run 58 21 ls st ws else ai_Run 58 40 ls st ws := R_cmp_ge hc_58 dX10_bitsOfShare_18 rfl rfl
theorem r_58_21 (l0 l2 l3 : Value) (a : UInt32) (st : List Value) (ws : ai_W) : ai_Run 58 21 [l0, .float a, l2, l3] st ws = ai_Run 58 22 [l0, .float a, l2, l3] (.float a :: st) ws := R_fload_n hc_58 dX10_bitsOfShare_21 rfl rfl
theorem r_58_22 (ls st : List Value) (ws : ai_W) : ai_Run 58 22 ls st ws = ai_Run 58 23 ls (.float FP.fconst1 :: st) ws := R_fconst hc_58 dX10_bitsOfShare_22 rfl rfl
theorem r_58_23 (ls st : List Value) (a b : UInt32) (ws : ai_W) : ai_Run 58 23 ls (.float b :: .float a :: st) ws = ai_Run 58 24 ls (.int (Op.cmpValue (FP.fcmp a b) CmpOp.g) :: st) ws := R_fcmp hc_58 dX10_bitsOfShare_23 rfl
theorem r_58_24 (ls st : List Value) (a : Int32) (ws : ai_W) : ai_Run 58 24 ls (.int a :: st) ws = if a < 0 then ai_Run 58 27 ls st ws else ai_Run 58 40 ls st ws := R_if_ge hc_58 dX10_bitsOfShare_24 rfl rfl
theorem r_58_27 (l0 l2 l3 : Value) (a : UInt32) (st : List Value) (ws : ai_W) : ai_Run 58 27 [l0, .float a, l2, l3] st ws = ai_Run 58 28 [l0, .float a, l2, l3] (.float a :: st) ws := R_fload_n hc_58 dX10_bitsOfShare_27 rfl rfl
theorem r_58_28 (ls st : List Value) (ws : ai_W) : ai_Run 58 28 ls st ws = ai_Run 58 29 ls (.float FP.fconst2 :: st) ws := R_fconst hc_58 dX10_bitsOfShare_28 rfl rfl
theorem r_58_29 (ls st : List Value) (a b : UInt32) (ws : ai_W) : ai_Run 58 29 ls (.float b :: .float a :: st) ws = if ai_fok (FP.fmul a b) = true then ai_Run 58 30 ls (.float (FP.fmul a b) :: st) ws else none := R_fb hc_58 dX10_bitsOfShare_29 (fun _ _ _ _ => rfl) rfl
theorem r_58_30 (l0 l1 l2 l3 : Value) (a : UInt32) (st : List Value) (ws : ai_W) : ai_Run 58 30 [l0, l1, l2, l3] (.float a :: st) ws = ai_Run 58 31 [l0, .float a, l2, l3] st ws := R_fstore_n hc_58 dX10_bitsOfShare_30 (Nat.le_of_ble_eq_true rfl) rfl rfl
theorem r_58_31 (l0 l1 l3 : Value) (a : Int32) (st : List Value) (ws : ai_W) : ai_Run 58 31 [l0, l1, .int a, l3] st ws = ai_Run 58 34 [l0, l1, .int (a + (-1)), l3] st ws := R_iinc hc_58 dX10_bitsOfShare_31 rfl (by decide) rfl rfl
theorem r_58_34 (l0 l1 l2 : Value) (a : Int32) (st : List Value) (ws : ai_W) : ai_Run 58 34 [l0, l1, l2, .int a] st ws = ai_Run 58 37 [l0, l1, l2, .int (a + 1)] st ws := R_iinc hc_58 dX10_bitsOfShare_34 rfl (by decide) rfl rfl
theorem r_58_37 (ls st : List Value) (ws : ai_W) : ai_Run 58 37 ls st ws = ai_Run 58 15 ls st ws := R_goto hc_58 dX10_bitsOfShare_37 rfl
theorem r_58_40 (l0 l1 l3 : Value) (a : Int32) (st : List Value) (ws : ai_W) : ai_Run 58 40 [l0, l1, .int a, l3] st ws = ai_Run 58 41 [l0, l1, .int a, l3] (.int a :: st) ws := R_iload_n hc_58 dX10_bitsOfShare_40 rfl rfl
theorem r_58_41 (ls st : List Value) (ws : ai_W) : ai_Run 58 41 ls st ws = ai_Run 58 43 ls (.int 23 :: st) ws := R_bipush hc_58 dX10_bitsOfShare_41 (by decide) rfl
theorem r_58_43 (ls st : List Value) (a b : Int32) (ws : ai_W) : ai_Run 58 43 ls (.int b :: .int a :: st) ws = ai_Run 58 44 ls (.int (a <<< (b &&& 31)) :: st) ws := R_ishl hc_58 dX10_bitsOfShare_43 rfl
theorem r_58_44 (l0 l2 l3 : Value) (a : UInt32) (st : List Value) (ws : ai_W) : ai_Run 58 44 [l0, .float a, l2, l3] st ws = ai_Run 58 45 [l0, .float a, l2, l3] (.float a :: st) ws := R_fload_n hc_58 dX10_bitsOfShare_44 rfl rfl
theorem r_58_45 (ls st : List Value) (ws : ai_W) : ai_Run 58 45 ls st ws = ai_Run 58 46 ls (.float FP.fconst1 :: st) ws := R_fconst hc_58 dX10_bitsOfShare_45 rfl rfl
theorem r_58_46 (ls st : List Value) (a b : UInt32) (ws : ai_W) : ai_Run 58 46 ls (.float b :: .float a :: st) ws = if ai_fok (FP.fsub a b) = true then ai_Run 58 47 ls (.float (FP.fsub a b) :: st) ws else none := R_fb hc_58 dX10_bitsOfShare_46 (fun _ _ _ _ => rfl) rfl
theorem r_58_47 (ls st : List Value) (ws : ai_W) : ai_Run 58 47 ls st ws = ai_Run 58 50 ls (.float 1258291200 :: st) ws := R_ldcwf hc_58 dX10_bitsOfShare_47 rfl rfl
theorem r_58_50 (ls st : List Value) (a b : UInt32) (ws : ai_W) : ai_Run 58 50 ls (.float b :: .float a :: st) ws = if ai_fok (FP.fmul a b) = true then ai_Run 58 51 ls (.float (FP.fmul a b) :: st) ws else none := R_fb hc_58 dX10_bitsOfShare_50 (fun _ _ _ _ => rfl) rfl
theorem r_58_51 (ls st : List Value) (a : UInt32) (ws : ai_W) : ai_Run 58 51 ls (.float a :: st) ws = ai_Run 58 52 ls (.int (FP.f2i a) :: st) ws := R_f2i hc_58 dX10_bitsOfShare_51 rfl
theorem r_58_52 (ls st : List Value) (a b : Int32) (ws : ai_W) : ai_Run 58 52 ls (.int b :: .int a :: st) ws = ai_Run 58 53 ls (.int (a + b) :: st) ws := R_iadd hc_58 dX10_bitsOfShare_52 rfl
theorem r_58_53 (ls : List Value) (x : Int32) (ws : ai_W) : ai_Run 58 53 ls [.int x] ws = some (some (.int x), ws) := R_iret hc_58 dX10_bitsOfShare_53 ht_58
theorem dX10_isYesOrNo_0 : decode cX10_isYesOrNo 0 = .ok (.iload_n 0, 1) := by decide +kernel
theorem dX10_isYesOrNo_1 : decode cX10_isYesOrNo 1 = .ok (.ifCond .eq 8, 3) := by decide +kernel
theorem dX10_isYesOrNo_4 : decode cX10_isYesOrNo 4 = .ok (.iload_n 0, 1) := by decide +kernel
theorem dX10_isYesOrNo_5 : decode cX10_isYesOrNo 5 = .ok (.iconst 1, 1) := by decide +kernel
theorem dX10_isYesOrNo_6 : decode cX10_isYesOrNo 6 = .ok (.if_icmp .ne 7, 3) := by decide +kernel
theorem dX10_isYesOrNo_9 : decode cX10_isYesOrNo 9 = .ok (.iconst 1, 1) := by decide +kernel
theorem dX10_isYesOrNo_10 : decode cX10_isYesOrNo 10 = .ok (.goto 4, 3) := by decide +kernel
theorem dX10_isYesOrNo_13 : decode cX10_isYesOrNo 13 = .ok (.iconst 0, 1) := by decide +kernel
theorem dX10_isYesOrNo_14 : decode cX10_isYesOrNo 14 = .ok (.ireturn, 1) := by decide +kernel
theorem e_74 (a0 : Int32) (ws : ai_W) : ai_Call 74 [.int a0] ws = ai_Run 74 0 [.int a0] [] ws := R_entS hk_74 ⟨⟨rfl, rfl⟩, Nat.le_of_ble_eq_true rfl⟩ rfl
theorem r_74_0 (a : Int32) (st : List Value) (ws : ai_W) : ai_Run 74 0 [.int a] st ws = ai_Run 74 1 [.int a] (.int a :: st) ws := R_iload_n hc_74 dX10_isYesOrNo_0 rfl rfl
theorem r_74_1 (ls st : List Value) (a : Int32) (ws : ai_W) : ai_Run 74 1 ls (.int a :: st) ws = if a = 0 then ai_Run 74 9 ls st ws else ai_Run 74 4 ls st ws := R_if_eq hc_74 dX10_isYesOrNo_1 rfl rfl
theorem r_74_4 (a : Int32) (st : List Value) (ws : ai_W) : ai_Run 74 4 [.int a] st ws = ai_Run 74 5 [.int a] (.int a :: st) ws := R_iload_n hc_74 dX10_isYesOrNo_4 rfl rfl
theorem r_74_5 (ls st : List Value) (ws : ai_W) : ai_Run 74 5 ls st ws = ai_Run 74 6 ls (.int 1 :: st) ws := R_iconst hc_74 dX10_isYesOrNo_5 (by decide) rfl
theorem r_74_6 (ls st : List Value) (a b : Int32) (ws : ai_W) : ai_Run 74 6 ls (.int b :: .int a :: st) ws = if a = b then ai_Run 74 9 ls st ws else ai_Run 74 13 ls st ws := R_cmp_ne hc_74 dX10_isYesOrNo_6 rfl rfl
theorem r_74_9 (ls st : List Value) (ws : ai_W) : ai_Run 74 9 ls st ws = ai_Run 74 10 ls (.int 1 :: st) ws := R_iconst hc_74 dX10_isYesOrNo_9 (by decide) rfl
theorem r_74_10 (ls st : List Value) (ws : ai_W) : ai_Run 74 10 ls st ws = ai_Run 74 14 ls st ws := R_goto hc_74 dX10_isYesOrNo_10 rfl
theorem r_74_13 (ls st : List Value) (ws : ai_W) : ai_Run 74 13 ls st ws = ai_Run 74 14 ls (.int 0 :: st) ws := R_iconst hc_74 dX10_isYesOrNo_13 (by decide) rfl
theorem r_74_14 (ls : List Value) (x : Int32) (ws : ai_W) : ai_Run 74 14 ls [.int x] ws = if ai_pb x = true then some (some (.int x), ws) else none := R_zret hc_74 dX10_isYesOrNo_14 ht_74
theorem dX10_carryOut_0 : decode cX10_carryOut 0 = .ok (.aload_n 0, 1) := by decide +kernel
theorem dX10_carryOut_1 : decode cX10_carryOut 1 = .ok (.getfield 65, 3) := by decide +kernel
theorem dX10_carryOut_4 : decode cX10_carryOut 4 = .ok (.iload_n 1, 1) := by decide +kernel
theorem dX10_carryOut_5 : decode cX10_carryOut 5 = .ok (.iconst 0, 1) := by decide +kernel
theorem dX10_carryOut_6 : decode cX10_carryOut 6 = .ok (.invokevirtual 354, 3) := by decide +kernel
theorem dX10_carryOut_9 : decode cX10_carryOut 9 = .ok (.istore_n 2, 1) := by decide +kernel
theorem dX10_carryOut_10 : decode cX10_carryOut 10 = .ok (.aload_n 0, 1) := by decide +kernel
theorem dX10_carryOut_11 : decode cX10_carryOut 11 = .ok (.getfield 65, 3) := by decide +kernel
theorem dX10_carryOut_14 : decode cX10_carryOut 14 = .ok (.iload_n 1, 1) := by decide +kernel
theorem dX10_carryOut_15 : decode cX10_carryOut 15 = .ok (.iconst 1, 1) := by decide +kernel
theorem dX10_carryOut_16 : decode cX10_carryOut 16 = .ok (.invokevirtual 354, 3) := by decide +kernel
theorem dX10_carryOut_19 : decode cX10_carryOut 19 = .ok (.istore_n 3, 1) := by decide +kernel
theorem dX10_carryOut_20 : decode cX10_carryOut 20 = .ok (.aload_n 0, 1) := by decide +kernel
theorem dX10_carryOut_21 : decode cX10_carryOut 21 = .ok (.getfield 65, 3) := by decide +kernel
theorem dX10_carryOut_24 : decode cX10_carryOut 24 = .ok (.iload_n 1, 1) := by decide +kernel
theorem dX10_carryOut_25 : decode cX10_carryOut 25 = .ok (.iconst 2, 1) := by decide +kernel
theorem dX10_carryOut_26 : decode cX10_carryOut 26 = .ok (.invokevirtual 354, 3) := by decide +kernel
theorem dX10_carryOut_29 : decode cX10_carryOut 29 = .ok (.istore 4, 2) := by decide +kernel
theorem dX10_carryOut_31 : decode cX10_carryOut 31 = .ok (.aload_n 0, 1) := by decide +kernel
theorem dX10_carryOut_32 : decode cX10_carryOut 32 = .ok (.getfield 65, 3) := by decide +kernel
theorem dX10_carryOut_35 : decode cX10_carryOut 35 = .ok (.iload_n 1, 1) := by decide +kernel
theorem dX10_carryOut_36 : decode cX10_carryOut 36 = .ok (.invokevirtual 357, 3) := by decide +kernel
theorem dX10_carryOut_39 : decode cX10_carryOut 39 = .ok (.tableswitch 224 97 120 #[117, 224, 109, 125, 224, 224, 224, 224, 224, 186, 224, 224, 174, 224, 164, 224, 224, 135, 224, 212, 224, 224, 154, 145], 109) := by decide +kernel
theorem dX10_carryOut_148 : decode cX10_carryOut 148 = .ok (.aload_n 0, 1) := by decide +kernel
theorem dX10_carryOut_149 : decode cX10_carryOut 149 = .ok (.getfield 51, 3) := by decide +kernel
theorem dX10_carryOut_152 : decode cX10_carryOut 152 = .ok (.invokevirtual 79, 3) := by decide +kernel
theorem dX10_carryOut_155 : decode cX10_carryOut 155 = .ok (.ireturn, 1) := by decide +kernel
theorem dX10_carryOut_156 : decode cX10_carryOut 156 = .ok (.aload_n 0, 1) := by decide +kernel
theorem dX10_carryOut_157 : decode cX10_carryOut 157 = .ok (.getfield 51, 3) := by decide +kernel
theorem dX10_carryOut_160 : decode cX10_carryOut 160 = .ok (.invokevirtual 87, 3) := by decide +kernel
theorem dX10_carryOut_163 : decode cX10_carryOut 163 = .ok (.ireturn, 1) := by decide +kernel
theorem dX10_carryOut_164 : decode cX10_carryOut 164 = .ok (.aload_n 0, 1) := by decide +kernel
theorem dX10_carryOut_165 : decode cX10_carryOut 165 = .ok (.getfield 51, 3) := by decide +kernel
theorem dX10_carryOut_168 : decode cX10_carryOut 168 = .ok (.iload_n 2, 1) := by decide +kernel
theorem dX10_carryOut_169 : decode cX10_carryOut 169 = .ok (.iload_n 3, 1) := by decide +kernel
theorem dX10_carryOut_170 : decode cX10_carryOut 170 = .ok (.invokevirtual 90, 3) := by decide +kernel
theorem dX10_carryOut_173 : decode cX10_carryOut 173 = .ok (.ireturn, 1) := by decide +kernel
theorem dX10_carryOut_174 : decode cX10_carryOut 174 = .ok (.aload_n 0, 1) := by decide +kernel
theorem dX10_carryOut_175 : decode cX10_carryOut 175 = .ok (.getfield 51, 3) := by decide +kernel
theorem dX10_carryOut_178 : decode cX10_carryOut 178 = .ok (.iload_n 2, 1) := by decide +kernel
theorem dX10_carryOut_179 : decode cX10_carryOut 179 = .ok (.iload_n 3, 1) := by decide +kernel
theorem dX10_carryOut_180 : decode cX10_carryOut 180 = .ok (.invokevirtual 94, 3) := by decide +kernel
theorem dX10_carryOut_183 : decode cX10_carryOut 183 = .ok (.ireturn, 1) := by decide +kernel
theorem dX10_carryOut_184 : decode cX10_carryOut 184 = .ok (.aload_n 0, 1) := by decide +kernel
theorem dX10_carryOut_185 : decode cX10_carryOut 185 = .ok (.getfield 51, 3) := by decide +kernel
theorem dX10_carryOut_188 : decode cX10_carryOut 188 = .ok (.iload_n 2, 1) := by decide +kernel
theorem dX10_carryOut_189 : decode cX10_carryOut 189 = .ok (.invokevirtual 97, 3) := by decide +kernel
theorem dX10_carryOut_192 : decode cX10_carryOut 192 = .ok (.ireturn, 1) := by decide +kernel
theorem dX10_carryOut_193 : decode cX10_carryOut 193 = .ok (.aload_n 0, 1) := by decide +kernel
theorem dX10_carryOut_194 : decode cX10_carryOut 194 = .ok (.getfield 51, 3) := by decide +kernel
theorem dX10_carryOut_197 : decode cX10_carryOut 197 = .ok (.iload_n 2, 1) := by decide +kernel
theorem dX10_carryOut_198 : decode cX10_carryOut 198 = .ok (.iload_n 3, 1) := by decide +kernel
theorem dX10_carryOut_199 : decode cX10_carryOut 199 = .ok (.invokevirtual 100, 3) := by decide +kernel
theorem dX10_carryOut_202 : decode cX10_carryOut 202 = .ok (.ireturn, 1) := by decide +kernel
theorem dX10_carryOut_203 : decode cX10_carryOut 203 = .ok (.aload_n 0, 1) := by decide +kernel
theorem dX10_carryOut_204 : decode cX10_carryOut 204 = .ok (.getfield 51, 3) := by decide +kernel
theorem dX10_carryOut_207 : decode cX10_carryOut 207 = .ok (.iload_n 2, 1) := by decide +kernel
theorem dX10_carryOut_208 : decode cX10_carryOut 208 = .ok (.iload_n 3, 1) := by decide +kernel
theorem dX10_carryOut_209 : decode cX10_carryOut 209 = .ok (.invokevirtual 103, 3) := by decide +kernel
theorem dX10_carryOut_212 : decode cX10_carryOut 212 = .ok (.ireturn, 1) := by decide +kernel
theorem dX10_carryOut_213 : decode cX10_carryOut 213 = .ok (.aload_n 0, 1) := by decide +kernel
theorem dX10_carryOut_214 : decode cX10_carryOut 214 = .ok (.getfield 51, 3) := by decide +kernel
theorem dX10_carryOut_217 : decode cX10_carryOut 217 = .ok (.iload_n 2, 1) := by decide +kernel
theorem dX10_carryOut_218 : decode cX10_carryOut 218 = .ok (.iload_n 3, 1) := by decide +kernel
theorem dX10_carryOut_219 : decode cX10_carryOut 219 = .ok (.iload 4, 2) := by decide +kernel
theorem dX10_carryOut_221 : decode cX10_carryOut 221 = .ok (.invokevirtual 106, 3) := by decide +kernel
theorem dX10_carryOut_224 : decode cX10_carryOut 224 = .ok (.ireturn, 1) := by decide +kernel
theorem dX10_carryOut_225 : decode cX10_carryOut 225 = .ok (.iload_n 3, 1) := by decide +kernel
theorem dX10_carryOut_226 : decode cX10_carryOut 226 = .ok (.iconst (-1), 1) := by decide +kernel
theorem dX10_carryOut_227 : decode cX10_carryOut 227 = .ok (.if_icmp .ne 14, 3) := by decide +kernel
theorem dX10_carryOut_230 : decode cX10_carryOut 230 = .ok (.aload_n 0, 1) := by decide +kernel
theorem dX10_carryOut_231 : decode cX10_carryOut 231 = .ok (.getfield 51, 3) := by decide +kernel
theorem dX10_carryOut_234 : decode cX10_carryOut 234 = .ok (.iload_n 2, 1) := by decide +kernel
theorem dX10_carryOut_235 : decode cX10_carryOut 235 = .ok (.invokevirtual 113, 3) := by decide +kernel
theorem dX10_carryOut_238 : decode cX10_carryOut 238 = .ok (.goto 12, 3) := by decide +kernel
theorem dX10_carryOut_241 : decode cX10_carryOut 241 = .ok (.aload_n 0, 1) := by decide +kernel
theorem dX10_carryOut_242 : decode cX10_carryOut 242 = .ok (.getfield 51, 3) := by decide +kernel
theorem dX10_carryOut_245 : decode cX10_carryOut 245 = .ok (.iload_n 2, 1) := by decide +kernel
theorem dX10_carryOut_246 : decode cX10_carryOut 246 = .ok (.iload_n 3, 1) := by decide +kernel
theorem dX10_carryOut_247 : decode cX10_carryOut 247 = .ok (.invokevirtual 110, 3) := by decide +kernel
theorem dX10_carryOut_250 : decode cX10_carryOut 250 = .ok (.ireturn, 1) := by decide +kernel
theorem dX10_carryOut_251 : decode cX10_carryOut 251 = .ok (.aload_n 0, 1) := by decide +kernel
theorem dX10_carryOut_252 : decode cX10_carryOut 252 = .ok (.getfield 51, 3) := by decide +kernel
theorem dX10_carryOut_255 : decode cX10_carryOut 255 = .ok (.iload_n 2, 1) := by decide +kernel
theorem dX10_carryOut_256 : decode cX10_carryOut 256 = .ok (.iload_n 3, 1) := by decide +kernel
theorem dX10_carryOut_257 : decode cX10_carryOut 257 = .ok (.iload 4, 2) := by decide +kernel
theorem dX10_carryOut_259 : decode cX10_carryOut 259 = .ok (.invokevirtual 116, 3) := by decide +kernel
theorem dX10_carryOut_262 : decode cX10_carryOut 262 = .ok (.ireturn, 1) := by decide +kernel
theorem dX10_carryOut_263 : decode cX10_carryOut 263 = .ok (.bipush (-2), 2) := by decide +kernel
theorem dX10_carryOut_265 : decode cX10_carryOut 265 = .ok (.ireturn, 1) := by decide +kernel
theorem e_91 (r : Nat) (a0 : Int32) (ws : ai_W) : ai_Call 91 [.ref r, .int a0] ws = if ai_isob ws r 10 = true then ai_Run 91 0 [.ref r, .int a0, .null, .null, .null] [] ws else none := R_entV hk_91 ⟨⟨rfl, rfl⟩, Nat.le_of_ble_eq_true rfl⟩ rfl
theorem r_91_0 (l1 l2 l3 l4 : Value) (a : Nat) (st : List Value) (ws : ai_W) : ai_Run 91 0 [.ref a, l1, l2, l3, l4] st ws = ai_Run 91 1 [.ref a, l1, l2, l3, l4] (.ref a :: st) ws := R_aload_n hc_91 dX10_carryOut_0 rfl rfl
theorem r_91_1 (ls st : List Value) (a : Nat) (ws : ai_W) : ai_Run 91 1 ls (.ref a :: st) ws = (ai_fget ws a 10 7).bind fun q => ai_Run 91 4 ls (q :: st) ws := R_getf hc_91 dX10_carryOut_1 hv_91 (w := 662) rfl rfl
theorem r_91_4 (l0 l2 l3 l4 : Value) (a : Int32) (st : List Value) (ws : ai_W) : ai_Run 91 4 [l0, .int a, l2, l3, l4] st ws = ai_Run 91 5 [l0, .int a, l2, l3, l4] (.int a :: st) ws := R_iload_n hc_91 dX10_carryOut_4 rfl rfl
theorem r_91_5 (ls st : List Value) (ws : ai_W) : ai_Run 91 5 ls st ws = ai_Run 91 6 ls (.int 0 :: st) ws := R_iconst hc_91 dX10_carryOut_5 (by decide) rfl
theorem r_91_6 (ls : List Value) (r : Nat) (b0 : Int32) (b1 : Int32) (ws : ai_W) : ai_Run 91 6 ls [.int b1, .int b0, .ref r] ws = (ai_Call 59 [.ref r, .int b0, .int b1] ws).bind fun q => ai_Run 91 9 ls (q.1.toList ++ []) q.2 := R_callV hc_91 dX10_carryOut_6 hv_91 (w := 1090) rfl (ai_lt3 hf_59 hf_91 hL_59 ho_59 ho_91 rfl) hk_59 (by rw [hn_59]; rfl) rfl (Nat.le_of_ble_eq_true rfl) rfl
theorem r_91_9 (l0 l1 l2 l3 l4 : Value) (a : Int32) (st : List Value) (ws : ai_W) : ai_Run 91 9 [l0, l1, l2, l3, l4] (.int a :: st) ws = ai_Run 91 10 [l0, l1, .int a, l3, l4] st ws := R_istore_n hc_91 dX10_carryOut_9 (Nat.le_of_ble_eq_true rfl) rfl rfl
theorem r_91_10 (l1 l2 l3 l4 : Value) (a : Nat) (st : List Value) (ws : ai_W) : ai_Run 91 10 [.ref a, l1, l2, l3, l4] st ws = ai_Run 91 11 [.ref a, l1, l2, l3, l4] (.ref a :: st) ws := R_aload_n hc_91 dX10_carryOut_10 rfl rfl
theorem r_91_11 (ls st : List Value) (a : Nat) (ws : ai_W) : ai_Run 91 11 ls (.ref a :: st) ws = (ai_fget ws a 10 7).bind fun q => ai_Run 91 14 ls (q :: st) ws := R_getf hc_91 dX10_carryOut_11 hv_91 (w := 662) rfl rfl
theorem r_91_14 (l0 l2 l3 l4 : Value) (a : Int32) (st : List Value) (ws : ai_W) : ai_Run 91 14 [l0, .int a, l2, l3, l4] st ws = ai_Run 91 15 [l0, .int a, l2, l3, l4] (.int a :: st) ws := R_iload_n hc_91 dX10_carryOut_14 rfl rfl
theorem r_91_15 (ls st : List Value) (ws : ai_W) : ai_Run 91 15 ls st ws = ai_Run 91 16 ls (.int 1 :: st) ws := R_iconst hc_91 dX10_carryOut_15 (by decide) rfl
theorem r_91_16 (ls : List Value) (r : Nat) (b0 : Int32) (b1 : Int32) (ws : ai_W) : ai_Run 91 16 ls [.int b1, .int b0, .ref r] ws = (ai_Call 59 [.ref r, .int b0, .int b1] ws).bind fun q => ai_Run 91 19 ls (q.1.toList ++ []) q.2 := R_callV hc_91 dX10_carryOut_16 hv_91 (w := 1090) rfl (ai_lt3 hf_59 hf_91 hL_59 ho_59 ho_91 rfl) hk_59 (by rw [hn_59]; rfl) rfl (Nat.le_of_ble_eq_true rfl) rfl
theorem r_91_19 (l0 l1 l2 l3 l4 : Value) (a : Int32) (st : List Value) (ws : ai_W) : ai_Run 91 19 [l0, l1, l2, l3, l4] (.int a :: st) ws = ai_Run 91 20 [l0, l1, l2, .int a, l4] st ws := R_istore_n hc_91 dX10_carryOut_19 (Nat.le_of_ble_eq_true rfl) rfl rfl
theorem r_91_20 (l1 l2 l3 l4 : Value) (a : Nat) (st : List Value) (ws : ai_W) : ai_Run 91 20 [.ref a, l1, l2, l3, l4] st ws = ai_Run 91 21 [.ref a, l1, l2, l3, l4] (.ref a :: st) ws := R_aload_n hc_91 dX10_carryOut_20 rfl rfl
theorem r_91_21 (ls st : List Value) (a : Nat) (ws : ai_W) : ai_Run 91 21 ls (.ref a :: st) ws = (ai_fget ws a 10 7).bind fun q => ai_Run 91 24 ls (q :: st) ws := R_getf hc_91 dX10_carryOut_21 hv_91 (w := 662) rfl rfl
theorem r_91_24 (l0 l2 l3 l4 : Value) (a : Int32) (st : List Value) (ws : ai_W) : ai_Run 91 24 [l0, .int a, l2, l3, l4] st ws = ai_Run 91 25 [l0, .int a, l2, l3, l4] (.int a :: st) ws := R_iload_n hc_91 dX10_carryOut_24 rfl rfl
theorem r_91_25 (ls st : List Value) (ws : ai_W) : ai_Run 91 25 ls st ws = ai_Run 91 26 ls (.int 2 :: st) ws := R_iconst hc_91 dX10_carryOut_25 (by decide) rfl
theorem r_91_26 (ls : List Value) (r : Nat) (b0 : Int32) (b1 : Int32) (ws : ai_W) : ai_Run 91 26 ls [.int b1, .int b0, .ref r] ws = (ai_Call 59 [.ref r, .int b0, .int b1] ws).bind fun q => ai_Run 91 29 ls (q.1.toList ++ []) q.2 := R_callV hc_91 dX10_carryOut_26 hv_91 (w := 1090) rfl (ai_lt3 hf_59 hf_91 hL_59 ho_59 ho_91 rfl) hk_59 (by rw [hn_59]; rfl) rfl (Nat.le_of_ble_eq_true rfl) rfl
theorem r_91_29 (l0 l1 l2 l3 l4 : Value) (a : Int32) (st : List Value) (ws : ai_W) : ai_Run 91 29 [l0, l1, l2, l3, l4] (.int a :: st) ws = ai_Run 91 31 [l0, l1, l2, l3, .int a] st ws := R_istore hc_91 dX10_carryOut_29 (Nat.le_of_ble_eq_true rfl) rfl rfl
theorem r_91_31 (l1 l2 l3 l4 : Value) (a : Nat) (st : List Value) (ws : ai_W) : ai_Run 91 31 [.ref a, l1, l2, l3, l4] st ws = ai_Run 91 32 [.ref a, l1, l2, l3, l4] (.ref a :: st) ws := R_aload_n hc_91 dX10_carryOut_31 rfl rfl
theorem r_91_32 (ls st : List Value) (a : Nat) (ws : ai_W) : ai_Run 91 32 ls (.ref a :: st) ws = (ai_fget ws a 10 7).bind fun q => ai_Run 91 35 ls (q :: st) ws := R_getf hc_91 dX10_carryOut_32 hv_91 (w := 662) rfl rfl
theorem r_91_35 (l0 l2 l3 l4 : Value) (a : Int32) (st : List Value) (ws : ai_W) : ai_Run 91 35 [l0, .int a, l2, l3, l4] st ws = ai_Run 91 36 [l0, .int a, l2, l3, l4] (.int a :: st) ws := R_iload_n hc_91 dX10_carryOut_35 rfl rfl
theorem r_91_36 (ls : List Value) (r : Nat) (b0 : Int32) (ws : ai_W) : ai_Run 91 36 ls [.int b0, .ref r] ws = (ai_Call 60 [.ref r, .int b0] ws).bind fun q => ai_Run 91 39 ls (q.1.toList ++ []) q.2 := R_callV hc_91 dX10_carryOut_36 hv_91 (w := 1094) rfl (ai_lt3 hf_60 hf_91 hL_60 ho_60 ho_91 rfl) hk_60 (by rw [hn_60]; rfl) rfl (Nat.le_of_ble_eq_true rfl) rfl
theorem r_91_39 (ls st : List Value) (x : Int32) (ws : ai_W) : ai_Run 91 39 ls (.int x :: st) ws = if x = 97 then ai_Run 91 156 ls st ws else if x = 99 then ai_Run 91 148 ls st ws else if x = 100 then ai_Run 91 164 ls st ws else if x = 106 then ai_Run 91 225 ls st ws else if x = 109 then ai_Run 91 213 ls st ws else if x = 111 then ai_Run 91 203 ls st ws else if x = 114 then ai_Run 91 174 ls st ws else if x = 116 then ai_Run 91 251 ls st ws else if x = 119 then ai_Run 91 193 ls st ws else if x = 120 then ai_Run 91 184 ls st ws else ai_Run 91 263 ls st ws := by
  by_cases h97 : x = 97
  · subst h97; rw [if_pos rfl]; exact R_switch hc_91 dX10_carryOut_39 (by decide +kernel)
  rw [if_neg h97]
  by_cases h99 : x = 99
  · subst h99; rw [if_pos rfl]; exact R_switch hc_91 dX10_carryOut_39 (by decide +kernel)
  rw [if_neg h99]
  by_cases h100 : x = 100
  · subst h100; rw [if_pos rfl]; exact R_switch hc_91 dX10_carryOut_39 (by decide +kernel)
  rw [if_neg h100]
  by_cases h106 : x = 106
  · subst h106; rw [if_pos rfl]; exact R_switch hc_91 dX10_carryOut_39 (by decide +kernel)
  rw [if_neg h106]
  by_cases h109 : x = 109
  · subst h109; rw [if_pos rfl]; exact R_switch hc_91 dX10_carryOut_39 (by decide +kernel)
  rw [if_neg h109]
  by_cases h111 : x = 111
  · subst h111; rw [if_pos rfl]; exact R_switch hc_91 dX10_carryOut_39 (by decide +kernel)
  rw [if_neg h111]
  by_cases h114 : x = 114
  · subst h114; rw [if_pos rfl]; exact R_switch hc_91 dX10_carryOut_39 (by decide +kernel)
  rw [if_neg h114]
  by_cases h116 : x = 116
  · subst h116; rw [if_pos rfl]; exact R_switch hc_91 dX10_carryOut_39 (by decide +kernel)
  rw [if_neg h116]
  by_cases h119 : x = 119
  · subst h119; rw [if_pos rfl]; exact R_switch hc_91 dX10_carryOut_39 (by decide +kernel)
  rw [if_neg h119]
  by_cases h120 : x = 120
  · subst h120; rw [if_pos rfl]; exact R_switch hc_91 dX10_carryOut_39 (by decide +kernel)
  rw [if_neg h120]
  by_cases h98 : x = 98
  · subst h98; exact R_switch hc_91 dX10_carryOut_39 (by decide +kernel)
  by_cases h101 : x = 101
  · subst h101; exact R_switch hc_91 dX10_carryOut_39 (by decide +kernel)
  by_cases h102 : x = 102
  · subst h102; exact R_switch hc_91 dX10_carryOut_39 (by decide +kernel)
  by_cases h103 : x = 103
  · subst h103; exact R_switch hc_91 dX10_carryOut_39 (by decide +kernel)
  by_cases h104 : x = 104
  · subst h104; exact R_switch hc_91 dX10_carryOut_39 (by decide +kernel)
  by_cases h105 : x = 105
  · subst h105; exact R_switch hc_91 dX10_carryOut_39 (by decide +kernel)
  by_cases h107 : x = 107
  · subst h107; exact R_switch hc_91 dX10_carryOut_39 (by decide +kernel)
  by_cases h108 : x = 108
  · subst h108; exact R_switch hc_91 dX10_carryOut_39 (by decide +kernel)
  by_cases h110 : x = 110
  · subst h110; exact R_switch hc_91 dX10_carryOut_39 (by decide +kernel)
  by_cases h112 : x = 112
  · subst h112; exact R_switch hc_91 dX10_carryOut_39 (by decide +kernel)
  by_cases h113 : x = 113
  · subst h113; exact R_switch hc_91 dX10_carryOut_39 (by decide +kernel)
  by_cases h115 : x = 115
  · subst h115; exact R_switch hc_91 dX10_carryOut_39 (by decide +kernel)
  by_cases h117 : x = 117
  · subst h117; exact R_switch hc_91 dX10_carryOut_39 (by decide +kernel)
  by_cases h118 : x = 118
  · subst h118; exact R_switch hc_91 dX10_carryOut_39 (by decide +kernel)
  have q97 : x.toInt ≠ 97 := fun e => h97 (Int32.toInt_inj.mp e)
  have q98 : x.toInt ≠ 98 := fun e => h98 (Int32.toInt_inj.mp e)
  have q99 : x.toInt ≠ 99 := fun e => h99 (Int32.toInt_inj.mp e)
  have q100 : x.toInt ≠ 100 := fun e => h100 (Int32.toInt_inj.mp e)
  have q101 : x.toInt ≠ 101 := fun e => h101 (Int32.toInt_inj.mp e)
  have q102 : x.toInt ≠ 102 := fun e => h102 (Int32.toInt_inj.mp e)
  have q103 : x.toInt ≠ 103 := fun e => h103 (Int32.toInt_inj.mp e)
  have q104 : x.toInt ≠ 104 := fun e => h104 (Int32.toInt_inj.mp e)
  have q105 : x.toInt ≠ 105 := fun e => h105 (Int32.toInt_inj.mp e)
  have q106 : x.toInt ≠ 106 := fun e => h106 (Int32.toInt_inj.mp e)
  have q107 : x.toInt ≠ 107 := fun e => h107 (Int32.toInt_inj.mp e)
  have q108 : x.toInt ≠ 108 := fun e => h108 (Int32.toInt_inj.mp e)
  have q109 : x.toInt ≠ 109 := fun e => h109 (Int32.toInt_inj.mp e)
  have q110 : x.toInt ≠ 110 := fun e => h110 (Int32.toInt_inj.mp e)
  have q111 : x.toInt ≠ 111 := fun e => h111 (Int32.toInt_inj.mp e)
  have q112 : x.toInt ≠ 112 := fun e => h112 (Int32.toInt_inj.mp e)
  have q113 : x.toInt ≠ 113 := fun e => h113 (Int32.toInt_inj.mp e)
  have q114 : x.toInt ≠ 114 := fun e => h114 (Int32.toInt_inj.mp e)
  have q115 : x.toInt ≠ 115 := fun e => h115 (Int32.toInt_inj.mp e)
  have q116 : x.toInt ≠ 116 := fun e => h116 (Int32.toInt_inj.mp e)
  have q117 : x.toInt ≠ 117 := fun e => h117 (Int32.toInt_inj.mp e)
  have q118 : x.toInt ≠ 118 := fun e => h118 (Int32.toInt_inj.mp e)
  have q119 : x.toInt ≠ 119 := fun e => h119 (Int32.toInt_inj.mp e)
  have q120 : x.toInt ≠ 120 := fun e => h120 (Int32.toInt_inj.mp e)
  refine R_switch hc_91 dX10_carryOut_39 (t := 263) ?_
  unfold ai_sw
  rw [if_pos (by omega)]
  rfl
theorem r_91_148 (l1 l2 l3 l4 : Value) (a : Nat) (st : List Value) (ws : ai_W) : ai_Run 91 148 [.ref a, l1, l2, l3, l4] st ws = ai_Run 91 149 [.ref a, l1, l2, l3, l4] (.ref a :: st) ws := R_aload_n hc_91 dX10_carryOut_148 rfl rfl
theorem r_91_149 (ls st : List Value) (a : Nat) (ws : ai_W) : ai_Run 91 149 ls (.ref a :: st) ws = (ai_fget ws a 10 5).bind fun q => ai_Run 91 152 ls (q :: st) ws := R_getf hc_91 dX10_carryOut_149 hv_91 (w := 660) rfl rfl
theorem r_91_152 (ls : List Value) (r : Nat) (ws : ai_W) : ai_Run 91 152 ls [.ref r] ws = (ai_Call 61 [.ref r] ws).bind fun q => ai_Run 91 155 ls (q.1.toList ++ []) q.2 := R_callV hc_91 dX10_carryOut_152 hv_91 (w := 80) rfl (ai_lt3 hf_61 hf_91 hL_61 ho_61 ho_91 rfl) hk_61 (by rw [hn_61]; rfl) rfl (Nat.le_of_ble_eq_true rfl) rfl
theorem r_91_155 (ls : List Value) (x : Int32) (ws : ai_W) : ai_Run 91 155 ls [.int x] ws = some (some (.int x), ws) := R_iret hc_91 dX10_carryOut_155 ht_91
theorem r_91_156 (l1 l2 l3 l4 : Value) (a : Nat) (st : List Value) (ws : ai_W) : ai_Run 91 156 [.ref a, l1, l2, l3, l4] st ws = ai_Run 91 157 [.ref a, l1, l2, l3, l4] (.ref a :: st) ws := R_aload_n hc_91 dX10_carryOut_156 rfl rfl
theorem r_91_157 (ls st : List Value) (a : Nat) (ws : ai_W) : ai_Run 91 157 ls (.ref a :: st) ws = (ai_fget ws a 10 5).bind fun q => ai_Run 91 160 ls (q :: st) ws := R_getf hc_91 dX10_carryOut_157 hv_91 (w := 660) rfl rfl
theorem r_91_160 (ls : List Value) (r : Nat) (ws : ai_W) : ai_Run 91 160 ls [.ref r] ws = (ai_Call 48 [.ref r] ws).bind fun q => ai_Run 91 163 ls (q.1.toList ++ []) q.2 := R_callV hc_91 dX10_carryOut_160 hv_91 (w := 695) rfl (ai_lt3 hf_48 hf_91 hL_48 ho_48 ho_91 rfl) hk_48 (by rw [hn_48]; rfl) rfl (Nat.le_of_ble_eq_true rfl) rfl
theorem r_91_163 (ls : List Value) (x : Int32) (ws : ai_W) : ai_Run 91 163 ls [.int x] ws = some (some (.int x), ws) := R_iret hc_91 dX10_carryOut_163 ht_91
theorem r_91_164 (l1 l2 l3 l4 : Value) (a : Nat) (st : List Value) (ws : ai_W) : ai_Run 91 164 [.ref a, l1, l2, l3, l4] st ws = ai_Run 91 165 [.ref a, l1, l2, l3, l4] (.ref a :: st) ws := R_aload_n hc_91 dX10_carryOut_164 rfl rfl
theorem r_91_165 (ls st : List Value) (a : Nat) (ws : ai_W) : ai_Run 91 165 ls (.ref a :: st) ws = (ai_fget ws a 10 5).bind fun q => ai_Run 91 168 ls (q :: st) ws := R_getf hc_91 dX10_carryOut_165 hv_91 (w := 660) rfl rfl
theorem r_91_168 (l0 l1 l3 l4 : Value) (a : Int32) (st : List Value) (ws : ai_W) : ai_Run 91 168 [l0, l1, .int a, l3, l4] st ws = ai_Run 91 169 [l0, l1, .int a, l3, l4] (.int a :: st) ws := R_iload_n hc_91 dX10_carryOut_168 rfl rfl
theorem r_91_169 (l0 l1 l2 l4 : Value) (a : Int32) (st : List Value) (ws : ai_W) : ai_Run 91 169 [l0, l1, l2, .int a, l4] st ws = ai_Run 91 170 [l0, l1, l2, .int a, l4] (.int a :: st) ws := R_iload_n hc_91 dX10_carryOut_169 rfl rfl
theorem r_91_170 (ls : List Value) (r : Nat) (b0 : Int32) (b1 : Int32) (ws : ai_W) : ai_Run 91 170 ls [.int b1, .int b0, .ref r] ws = (ai_Call 68 [.ref r, .int b0, .int b1] ws).bind fun q => ai_Run 91 173 ls (q.1.toList ++ []) q.2 := R_callV hc_91 dX10_carryOut_170 hv_91 (w := 687) rfl (ai_lt3 hf_68 hf_91 hL_68 ho_68 ho_91 rfl) hk_68 (by rw [hn_68]; rfl) rfl (Nat.le_of_ble_eq_true rfl) rfl
theorem r_91_173 (ls : List Value) (x : Int32) (ws : ai_W) : ai_Run 91 173 ls [.int x] ws = some (some (.int x), ws) := R_iret hc_91 dX10_carryOut_173 ht_91
theorem r_91_174 (l1 l2 l3 l4 : Value) (a : Nat) (st : List Value) (ws : ai_W) : ai_Run 91 174 [.ref a, l1, l2, l3, l4] st ws = ai_Run 91 175 [.ref a, l1, l2, l3, l4] (.ref a :: st) ws := R_aload_n hc_91 dX10_carryOut_174 rfl rfl
theorem r_91_175 (ls st : List Value) (a : Nat) (ws : ai_W) : ai_Run 91 175 ls (.ref a :: st) ws = (ai_fget ws a 10 5).bind fun q => ai_Run 91 178 ls (q :: st) ws := R_getf hc_91 dX10_carryOut_175 hv_91 (w := 660) rfl rfl
theorem r_91_178 (l0 l1 l3 l4 : Value) (a : Int32) (st : List Value) (ws : ai_W) : ai_Run 91 178 [l0, l1, .int a, l3, l4] st ws = ai_Run 91 179 [l0, l1, .int a, l3, l4] (.int a :: st) ws := R_iload_n hc_91 dX10_carryOut_178 rfl rfl
theorem r_91_179 (l0 l1 l2 l4 : Value) (a : Int32) (st : List Value) (ws : ai_W) : ai_Run 91 179 [l0, l1, l2, .int a, l4] st ws = ai_Run 91 180 [l0, l1, l2, .int a, l4] (.int a :: st) ws := R_iload_n hc_91 dX10_carryOut_179 rfl rfl
theorem r_91_180 (ls : List Value) (r : Nat) (b0 : Int32) (b1 : Int32) (ws : ai_W) : ai_Run 91 180 ls [.int b1, .int b0, .ref r] ws = (ai_Call 69 [.ref r, .int b0, .int b1] ws).bind fun q => ai_Run 91 183 ls (q.1.toList ++ []) q.2 := R_callV hc_91 dX10_carryOut_180 hv_91 (w := 104) rfl (ai_lt3 hf_69 hf_91 hL_69 ho_69 ho_91 rfl) hk_69 (by rw [hn_69]; rfl) rfl (Nat.le_of_ble_eq_true rfl) rfl
theorem r_91_183 (ls : List Value) (x : Int32) (ws : ai_W) : ai_Run 91 183 ls [.int x] ws = some (some (.int x), ws) := R_iret hc_91 dX10_carryOut_183 ht_91
theorem r_91_184 (l1 l2 l3 l4 : Value) (a : Nat) (st : List Value) (ws : ai_W) : ai_Run 91 184 [.ref a, l1, l2, l3, l4] st ws = ai_Run 91 185 [.ref a, l1, l2, l3, l4] (.ref a :: st) ws := R_aload_n hc_91 dX10_carryOut_184 rfl rfl
theorem r_91_185 (ls st : List Value) (a : Nat) (ws : ai_W) : ai_Run 91 185 ls (.ref a :: st) ws = (ai_fget ws a 10 5).bind fun q => ai_Run 91 188 ls (q :: st) ws := R_getf hc_91 dX10_carryOut_185 hv_91 (w := 660) rfl rfl
theorem r_91_188 (l0 l1 l3 l4 : Value) (a : Int32) (st : List Value) (ws : ai_W) : ai_Run 91 188 [l0, l1, .int a, l3, l4] st ws = ai_Run 91 189 [l0, l1, .int a, l3, l4] (.int a :: st) ws := R_iload_n hc_91 dX10_carryOut_188 rfl rfl
theorem r_91_189 (ls : List Value) (r : Nat) (b0 : Int32) (ws : ai_W) : ai_Run 91 189 ls [.int b0, .ref r] ws = (ai_Call 72 [.ref r, .int b0] ws).bind fun q => ai_Run 91 192 ls (q.1.toList ++ []) q.2 := R_callV hc_91 dX10_carryOut_189 hv_91 (w := 724) rfl (ai_lt3 hf_72 hf_91 hL_72 ho_72 ho_91 rfl) hk_72 (by rw [hn_72]; rfl) rfl (Nat.le_of_ble_eq_true rfl) rfl
theorem r_91_192 (ls : List Value) (x : Int32) (ws : ai_W) : ai_Run 91 192 ls [.int x] ws = some (some (.int x), ws) := R_iret hc_91 dX10_carryOut_192 ht_91
theorem r_91_193 (l1 l2 l3 l4 : Value) (a : Nat) (st : List Value) (ws : ai_W) : ai_Run 91 193 [.ref a, l1, l2, l3, l4] st ws = ai_Run 91 194 [.ref a, l1, l2, l3, l4] (.ref a :: st) ws := R_aload_n hc_91 dX10_carryOut_193 rfl rfl
theorem r_91_194 (ls st : List Value) (a : Nat) (ws : ai_W) : ai_Run 91 194 ls (.ref a :: st) ws = (ai_fget ws a 10 5).bind fun q => ai_Run 91 197 ls (q :: st) ws := R_getf hc_91 dX10_carryOut_194 hv_91 (w := 660) rfl rfl
theorem r_91_197 (l0 l1 l3 l4 : Value) (a : Int32) (st : List Value) (ws : ai_W) : ai_Run 91 197 [l0, l1, .int a, l3, l4] st ws = ai_Run 91 198 [l0, l1, .int a, l3, l4] (.int a :: st) ws := R_iload_n hc_91 dX10_carryOut_197 rfl rfl
theorem r_91_198 (l0 l1 l2 l4 : Value) (a : Int32) (st : List Value) (ws : ai_W) : ai_Run 91 198 [l0, l1, l2, .int a, l4] st ws = ai_Run 91 199 [l0, l1, l2, .int a, l4] (.int a :: st) ws := R_iload_n hc_91 dX10_carryOut_198 rfl rfl
theorem r_91_199 (ls : List Value) (r : Nat) (b0 : Int32) (b1 : Int32) (ws : ai_W) : ai_Run 91 199 ls [.int b1, .int b0, .ref r] ws = (ai_Call 73 [.ref r, .int b0, .int b1] ws).bind fun q => ai_Run 91 202 ls (q.1.toList ++ []) q.2 := R_callV hc_91 dX10_carryOut_199 hv_91 (w := 703) rfl (ai_lt3 hf_73 hf_91 hL_73 ho_73 ho_91 rfl) hk_73 (by rw [hn_73]; rfl) rfl (Nat.le_of_ble_eq_true rfl) rfl
theorem r_91_202 (ls : List Value) (x : Int32) (ws : ai_W) : ai_Run 91 202 ls [.int x] ws = some (some (.int x), ws) := R_iret hc_91 dX10_carryOut_202 ht_91
theorem r_91_203 (l1 l2 l3 l4 : Value) (a : Nat) (st : List Value) (ws : ai_W) : ai_Run 91 203 [.ref a, l1, l2, l3, l4] st ws = ai_Run 91 204 [.ref a, l1, l2, l3, l4] (.ref a :: st) ws := R_aload_n hc_91 dX10_carryOut_203 rfl rfl
theorem r_91_204 (ls st : List Value) (a : Nat) (ws : ai_W) : ai_Run 91 204 ls (.ref a :: st) ws = (ai_fget ws a 10 5).bind fun q => ai_Run 91 207 ls (q :: st) ws := R_getf hc_91 dX10_carryOut_204 hv_91 (w := 660) rfl rfl
theorem r_91_207 (l0 l1 l3 l4 : Value) (a : Int32) (st : List Value) (ws : ai_W) : ai_Run 91 207 [l0, l1, .int a, l3, l4] st ws = ai_Run 91 208 [l0, l1, .int a, l3, l4] (.int a :: st) ws := R_iload_n hc_91 dX10_carryOut_207 rfl rfl
theorem r_91_208 (l0 l1 l2 l4 : Value) (a : Int32) (st : List Value) (ws : ai_W) : ai_Run 91 208 [l0, l1, l2, .int a, l4] st ws = ai_Run 91 209 [l0, l1, l2, .int a, l4] (.int a :: st) ws := R_iload_n hc_91 dX10_carryOut_208 rfl rfl
theorem r_91_209 (ls : List Value) (r : Nat) (b0 : Int32) (b1 : Int32) (ws : ai_W) : ai_Run 91 209 ls [.int b1, .int b0, .ref r] ws = (ai_Call 75 [.ref r, .int b0, .int b1] ws).bind fun q => ai_Run 91 212 ls (q.1.toList ++ []) q.2 := R_callV hc_91 dX10_carryOut_209 hv_91 (w := 153) rfl (ai_lt3 hf_75 hf_91 hL_75 ho_75 ho_91 rfl) hk_75 (by rw [hn_75]; rfl) rfl (Nat.le_of_ble_eq_true rfl) rfl
theorem r_91_212 (ls : List Value) (x : Int32) (ws : ai_W) : ai_Run 91 212 ls [.int x] ws = some (some (.int x), ws) := R_iret hc_91 dX10_carryOut_212 ht_91
theorem r_91_213 (l1 l2 l3 l4 : Value) (a : Nat) (st : List Value) (ws : ai_W) : ai_Run 91 213 [.ref a, l1, l2, l3, l4] st ws = ai_Run 91 214 [.ref a, l1, l2, l3, l4] (.ref a :: st) ws := R_aload_n hc_91 dX10_carryOut_213 rfl rfl
theorem r_91_214 (ls st : List Value) (a : Nat) (ws : ai_W) : ai_Run 91 214 ls (.ref a :: st) ws = (ai_fget ws a 10 5).bind fun q => ai_Run 91 217 ls (q :: st) ws := R_getf hc_91 dX10_carryOut_214 hv_91 (w := 660) rfl rfl
theorem r_91_217 (l0 l1 l3 l4 : Value) (a : Int32) (st : List Value) (ws : ai_W) : ai_Run 91 217 [l0, l1, .int a, l3, l4] st ws = ai_Run 91 218 [l0, l1, .int a, l3, l4] (.int a :: st) ws := R_iload_n hc_91 dX10_carryOut_217 rfl rfl
theorem r_91_218 (l0 l1 l2 l4 : Value) (a : Int32) (st : List Value) (ws : ai_W) : ai_Run 91 218 [l0, l1, l2, .int a, l4] st ws = ai_Run 91 219 [l0, l1, l2, .int a, l4] (.int a :: st) ws := R_iload_n hc_91 dX10_carryOut_218 rfl rfl
theorem r_91_219 (l0 l1 l2 l3 : Value) (a : Int32) (st : List Value) (ws : ai_W) : ai_Run 91 219 [l0, l1, l2, l3, .int a] st ws = ai_Run 91 221 [l0, l1, l2, l3, .int a] (.int a :: st) ws := R_iload hc_91 dX10_carryOut_219 rfl rfl
theorem r_91_221 (ls : List Value) (r : Nat) (b0 : Int32) (b1 : Int32) (b2 : Int32) (ws : ai_W) : ai_Run 91 221 ls [.int b2, .int b1, .int b0, .ref r] ws = (ai_Call 77 [.ref r, .int b0, .int b1, .int b2] ws).bind fun q => ai_Run 91 224 ls (q.1.toList ++ []) q.2 := R_callV hc_91 dX10_carryOut_221 hv_91 (w := 173) rfl (ai_lt3 hf_77 hf_91 hL_77 ho_77 ho_91 rfl) hk_77 (by rw [hn_77]; rfl) rfl (Nat.le_of_ble_eq_true rfl) rfl
theorem r_91_224 (ls : List Value) (x : Int32) (ws : ai_W) : ai_Run 91 224 ls [.int x] ws = some (some (.int x), ws) := R_iret hc_91 dX10_carryOut_224 ht_91
theorem r_91_225 (l0 l1 l2 l4 : Value) (a : Int32) (st : List Value) (ws : ai_W) : ai_Run 91 225 [l0, l1, l2, .int a, l4] st ws = ai_Run 91 226 [l0, l1, l2, .int a, l4] (.int a :: st) ws := R_iload_n hc_91 dX10_carryOut_225 rfl rfl
theorem r_91_226 (ls st : List Value) (ws : ai_W) : ai_Run 91 226 ls st ws = ai_Run 91 227 ls (.int (-1) :: st) ws := R_iconst hc_91 dX10_carryOut_226 (by decide) rfl
theorem r_91_227 (ls st : List Value) (a b : Int32) (ws : ai_W) : ai_Run 91 227 ls (.int b :: .int a :: st) ws = if a = b then ai_Run 91 230 ls st ws else ai_Run 91 241 ls st ws := R_cmp_ne hc_91 dX10_carryOut_227 rfl rfl
theorem r_91_230 (l1 l2 l3 l4 : Value) (a : Nat) (st : List Value) (ws : ai_W) : ai_Run 91 230 [.ref a, l1, l2, l3, l4] st ws = ai_Run 91 231 [.ref a, l1, l2, l3, l4] (.ref a :: st) ws := R_aload_n hc_91 dX10_carryOut_230 rfl rfl
theorem r_91_231 (ls st : List Value) (a : Nat) (ws : ai_W) : ai_Run 91 231 ls (.ref a :: st) ws = (ai_fget ws a 10 5).bind fun q => ai_Run 91 234 ls (q :: st) ws := R_getf hc_91 dX10_carryOut_231 hv_91 (w := 660) rfl rfl
theorem r_91_234 (l0 l1 l3 l4 : Value) (a : Int32) (st : List Value) (ws : ai_W) : ai_Run 91 234 [l0, l1, .int a, l3, l4] st ws = ai_Run 91 235 [l0, l1, .int a, l3, l4] (.int a :: st) ws := R_iload_n hc_91 dX10_carryOut_234 rfl rfl
theorem r_91_235 (ls : List Value) (r : Nat) (b0 : Int32) (ws : ai_W) : ai_Run 91 235 ls [.int b0, .ref r] ws = (ai_Call 79 [.ref r, .int b0] ws).bind fun q => ai_Run 91 238 ls (q.1.toList ++ []) q.2 := R_callV hc_91 dX10_carryOut_235 hv_91 (w := 185) rfl (ai_lt3 hf_79 hf_91 hL_79 ho_79 ho_91 rfl) hk_79 (by rw [hn_79]; rfl) rfl (Nat.le_of_ble_eq_true rfl) rfl
theorem r_91_238 (ls st : List Value) (ws : ai_W) : ai_Run 91 238 ls st ws = ai_Run 91 250 ls st ws := R_goto hc_91 dX10_carryOut_238 rfl
theorem r_91_241 (l1 l2 l3 l4 : Value) (a : Nat) (st : List Value) (ws : ai_W) : ai_Run 91 241 [.ref a, l1, l2, l3, l4] st ws = ai_Run 91 242 [.ref a, l1, l2, l3, l4] (.ref a :: st) ws := R_aload_n hc_91 dX10_carryOut_241 rfl rfl
theorem r_91_242 (ls st : List Value) (a : Nat) (ws : ai_W) : ai_Run 91 242 ls (.ref a :: st) ws = (ai_fget ws a 10 5).bind fun q => ai_Run 91 245 ls (q :: st) ws := R_getf hc_91 dX10_carryOut_242 hv_91 (w := 660) rfl rfl
theorem r_91_245 (l0 l1 l3 l4 : Value) (a : Int32) (st : List Value) (ws : ai_W) : ai_Run 91 245 [l0, l1, .int a, l3, l4] st ws = ai_Run 91 246 [l0, l1, .int a, l3, l4] (.int a :: st) ws := R_iload_n hc_91 dX10_carryOut_245 rfl rfl
theorem r_91_246 (l0 l1 l2 l4 : Value) (a : Int32) (st : List Value) (ws : ai_W) : ai_Run 91 246 [l0, l1, l2, .int a, l4] st ws = ai_Run 91 247 [l0, l1, l2, .int a, l4] (.int a :: st) ws := R_iload_n hc_91 dX10_carryOut_246 rfl rfl
theorem r_91_247 (ls : List Value) (r : Nat) (b0 : Int32) (b1 : Int32) (ws : ai_W) : ai_Run 91 247 ls [.int b1, .int b0, .ref r] ws = (ai_Call 81 [.ref r, .int b0, .int b1] ws).bind fun q => ai_Run 91 250 ls (q.1.toList ++ []) q.2 := R_callV hc_91 dX10_carryOut_247 hv_91 (w := 711) rfl (ai_lt3 hf_81 hf_91 hL_81 ho_81 ho_91 rfl) hk_81 (by rw [hn_81]; rfl) rfl (Nat.le_of_ble_eq_true rfl) rfl
theorem r_91_250 (ls : List Value) (x : Int32) (ws : ai_W) : ai_Run 91 250 ls [.int x] ws = some (some (.int x), ws) := R_iret hc_91 dX10_carryOut_250 ht_91
theorem r_91_251 (l1 l2 l3 l4 : Value) (a : Nat) (st : List Value) (ws : ai_W) : ai_Run 91 251 [.ref a, l1, l2, l3, l4] st ws = ai_Run 91 252 [.ref a, l1, l2, l3, l4] (.ref a :: st) ws := R_aload_n hc_91 dX10_carryOut_251 rfl rfl
theorem r_91_252 (ls st : List Value) (a : Nat) (ws : ai_W) : ai_Run 91 252 ls (.ref a :: st) ws = (ai_fget ws a 10 5).bind fun q => ai_Run 91 255 ls (q :: st) ws := R_getf hc_91 dX10_carryOut_252 hv_91 (w := 660) rfl rfl
theorem r_91_255 (l0 l1 l3 l4 : Value) (a : Int32) (st : List Value) (ws : ai_W) : ai_Run 91 255 [l0, l1, .int a, l3, l4] st ws = ai_Run 91 256 [l0, l1, .int a, l3, l4] (.int a :: st) ws := R_iload_n hc_91 dX10_carryOut_255 rfl rfl
theorem r_91_256 (l0 l1 l2 l4 : Value) (a : Int32) (st : List Value) (ws : ai_W) : ai_Run 91 256 [l0, l1, l2, .int a, l4] st ws = ai_Run 91 257 [l0, l1, l2, .int a, l4] (.int a :: st) ws := R_iload_n hc_91 dX10_carryOut_256 rfl rfl
theorem r_91_257 (l0 l1 l2 l3 : Value) (a : Int32) (st : List Value) (ws : ai_W) : ai_Run 91 257 [l0, l1, l2, l3, .int a] st ws = ai_Run 91 259 [l0, l1, l2, l3, .int a] (.int a :: st) ws := R_iload hc_91 dX10_carryOut_257 rfl rfl
theorem r_91_259 (ls : List Value) (r : Nat) (b0 : Int32) (b1 : Int32) (b2 : Int32) (ws : ai_W) : ai_Run 91 259 ls [.int b2, .int b1, .int b0, .ref r] ws = (ai_Call 90 [.ref r, .int b0, .int b1, .int b2] ws).bind fun q => ai_Run 91 262 ls (q.1.toList ++ []) q.2 := R_callV hc_91 dX10_carryOut_259 hv_91 (w := 740) rfl (ai_lt3 hf_90 hf_91 hL_90 ho_90 ho_91 rfl) hk_90 (by rw [hn_90]; rfl) rfl (Nat.le_of_ble_eq_true rfl) rfl
theorem r_91_262 (ls : List Value) (x : Int32) (ws : ai_W) : ai_Run 91 262 ls [.int x] ws = some (some (.int x), ws) := R_iret hc_91 dX10_carryOut_262 ht_91
theorem r_91_263 (ls st : List Value) (ws : ai_W) : ai_Run 91 263 ls st ws = ai_Run 91 265 ls (.int (-2) :: st) ws := R_bipush hc_91 dX10_carryOut_263 (by decide) rfl
theorem r_91_265 (ls : List Value) (x : Int32) (ws : ai_W) : ai_Run 91 265 ls [.int x] ws = some (some (.int x), ws) := R_iret hc_91 dX10_carryOut_265 ht_91
theorem dX10_character_0 : decode cX10_character 0 = .ok (.aload_n 0, 1) := by decide +kernel
theorem dX10_character_1 : decode cX10_character 1 = .ok (.invokevirtual 76, 3) := by decide +kernel
theorem dX10_character_4 : decode cX10_character 4 = .ok (.aload_n 0, 1) := by decide +kernel
theorem dX10_character_5 : decode cX10_character 5 = .ok (.aload_n 0, 1) := by decide +kernel
theorem dX10_character_6 : decode cX10_character 6 = .ok (.getfield 51, 3) := by decide +kernel
theorem dX10_character_9 : decode cX10_character 9 = .ok (.invokevirtual 79, 3) := by decide +kernel
theorem dX10_character_12 : decode cX10_character 12 = .ok (.invokevirtual 83, 3) := by decide +kernel
theorem dX10_character_15 : decode cX10_character 15 = .ok (.ireturn, 1) := by decide +kernel
theorem e_92 (r : Nat)  (ws : ai_W) : ai_Call 92 [.ref r] ws = if ai_isob ws r 10 = true then ai_Run 92 0 [.ref r] [] ws else none := R_entV hk_92 ⟨⟨rfl, rfl⟩, Nat.le_of_ble_eq_true rfl⟩ rfl
theorem r_92_0 (a : Nat) (st : List Value) (ws : ai_W) : ai_Run 92 0 [.ref a] st ws = ai_Run 92 1 [.ref a] (.ref a :: st) ws := R_aload_n hc_92 dX10_character_0 rfl rfl
theorem r_92_1 (ls : List Value) (r : Nat) (ws : ai_W) : ai_Run 92 1 ls [.ref r] ws = (ai_Call 46 [.ref r] ws).bind fun q => ai_Run 92 4 ls (q.1.toList ++ []) q.2 := R_callV hc_92 dX10_character_1 hv_92 (w := 48) rfl (ai_lt3 hf_46 hf_92 hL_46 ho_46 ho_92 rfl) hk_46 (by rw [hn_46]; rfl) rfl (Nat.le_of_ble_eq_true rfl) rfl
theorem r_92_4 (a : Nat) (st : List Value) (ws : ai_W) : ai_Run 92 4 [.ref a] st ws = ai_Run 92 5 [.ref a] (.ref a :: st) ws := R_aload_n hc_92 dX10_character_4 rfl rfl
theorem r_92_5 (a : Nat) (st : List Value) (ws : ai_W) : ai_Run 92 5 [.ref a] st ws = ai_Run 92 6 [.ref a] (.ref a :: st) ws := R_aload_n hc_92 dX10_character_5 rfl rfl
theorem r_92_6 (ls st : List Value) (a : Nat) (ws : ai_W) : ai_Run 92 6 ls (.ref a :: st) ws = (ai_fget ws a 10 5).bind fun q => ai_Run 92 9 ls (q :: st) ws := R_getf hc_92 dX10_character_6 hv_92 (w := 660) rfl rfl
theorem r_92_9 (ls : List Value) (r : Nat) (s0 : Value) (ws : ai_W) : ai_Run 92 9 ls [.ref r, s0] ws = (ai_Call 61 [.ref r] ws).bind fun q => ai_Run 92 12 ls (q.1.toList ++ [s0]) q.2 := R_callV hc_92 dX10_character_9 hv_92 (w := 80) rfl (ai_lt3 hf_61 hf_92 hL_61 ho_61 ho_92 rfl) hk_61 (by rw [hn_61]; rfl) rfl (Nat.le_of_ble_eq_true rfl) rfl
theorem r_92_12 (ls : List Value) (r : Nat) (b0 : Int32) (ws : ai_W) : ai_Run 92 12 ls [.int b0, .ref r] ws = (ai_Call 51 [.ref r, .int b0] ws).bind fun q => ai_Run 92 15 ls (q.1.toList ++ []) q.2 := R_callV hc_92 dX10_character_12 hv_92 (w := 88) rfl (ai_lt3 hf_51 hf_92 hL_51 ho_51 ho_92 rfl) hk_51 (by rw [hn_51]; rfl) rfl (Nat.le_of_ble_eq_true rfl) rfl
theorem r_92_15 (ls : List Value) (x : Int32) (ws : ai_W) : ai_Run 92 15 ls [.int x] ws = some (some (.int x), ws) := R_iret hc_92 dX10_character_15 ht_92
theorem dX10_characterOf_0 : decode cX10_characterOf 0 = .ok (.aload_n 0, 1) := by decide +kernel
theorem dX10_characterOf_1 : decode cX10_characterOf 1 = .ok (.getfield 21, 3) := by decide +kernel
theorem dX10_characterOf_4 : decode cX10_characterOf 4 = .ok (.iload_n 1, 1) := by decide +kernel
theorem dX10_characterOf_5 : decode cX10_characterOf 5 = .ok (.invokevirtual 119, 3) := by decide +kernel
theorem dX10_characterOf_8 : decode cX10_characterOf 8 = .ok (.ifCond .ne 5, 3) := by decide +kernel
theorem dX10_characterOf_11 : decode cX10_characterOf 11 = .ok (.iconst (-1), 1) := by decide +kernel
theorem dX10_characterOf_12 : decode cX10_characterOf 12 = .ok (.ireturn, 1) := by decide +kernel
theorem dX10_characterOf_13 : decode cX10_characterOf 13 = .ok (.iload_n 2, 1) := by decide +kernel
theorem dX10_characterOf_14 : decode cX10_characterOf 14 = .ok (.tableswitch 105 0 6 #[42, 51, 60, 69, 78, 87, 96], 42) := by decide +kernel
theorem dX10_characterOf_56 : decode cX10_characterOf 56 = .ok (.aload_n 0, 1) := by decide +kernel
theorem dX10_characterOf_57 : decode cX10_characterOf 57 = .ok (.getfield 21, 3) := by decide +kernel
theorem dX10_characterOf_60 : decode cX10_characterOf 60 = .ok (.iload_n 1, 1) := by decide +kernel
theorem dX10_characterOf_61 : decode cX10_characterOf 61 = .ok (.invokevirtual 123, 3) := by decide +kernel
theorem dX10_characterOf_64 : decode cX10_characterOf 64 = .ok (.ireturn, 1) := by decide +kernel
theorem dX10_characterOf_65 : decode cX10_characterOf 65 = .ok (.aload_n 0, 1) := by decide +kernel
theorem dX10_characterOf_66 : decode cX10_characterOf 66 = .ok (.getfield 21, 3) := by decide +kernel
theorem dX10_characterOf_69 : decode cX10_characterOf 69 = .ok (.iload_n 1, 1) := by decide +kernel
theorem dX10_characterOf_70 : decode cX10_characterOf 70 = .ok (.invokevirtual 126, 3) := by decide +kernel
theorem dX10_characterOf_73 : decode cX10_characterOf 73 = .ok (.ireturn, 1) := by decide +kernel
theorem dX10_characterOf_74 : decode cX10_characterOf 74 = .ok (.aload_n 0, 1) := by decide +kernel
theorem dX10_characterOf_75 : decode cX10_characterOf 75 = .ok (.getfield 38, 3) := by decide +kernel
theorem dX10_characterOf_78 : decode cX10_characterOf 78 = .ok (.iload_n 1, 1) := by decide +kernel
theorem dX10_characterOf_79 : decode cX10_characterOf 79 = .ok (.invokevirtual 129, 3) := by decide +kernel
theorem dX10_characterOf_82 : decode cX10_characterOf 82 = .ok (.ireturn, 1) := by decide +kernel
theorem dX10_characterOf_83 : decode cX10_characterOf 83 = .ok (.aload_n 0, 1) := by decide +kernel
theorem dX10_characterOf_84 : decode cX10_characterOf 84 = .ok (.getfield 38, 3) := by decide +kernel
theorem dX10_characterOf_87 : decode cX10_characterOf 87 = .ok (.iload_n 1, 1) := by decide +kernel
theorem dX10_characterOf_88 : decode cX10_characterOf 88 = .ok (.invokevirtual 132, 3) := by decide +kernel
theorem dX10_characterOf_91 : decode cX10_characterOf 91 = .ok (.ireturn, 1) := by decide +kernel
theorem dX10_characterOf_92 : decode cX10_characterOf 92 = .ok (.aload_n 0, 1) := by decide +kernel
theorem dX10_characterOf_93 : decode cX10_characterOf 93 = .ok (.getfield 38, 3) := by decide +kernel
theorem dX10_characterOf_96 : decode cX10_characterOf 96 = .ok (.iload_n 1, 1) := by decide +kernel
theorem dX10_characterOf_97 : decode cX10_characterOf 97 = .ok (.invokevirtual 135, 3) := by decide +kernel
theorem dX10_characterOf_100 : decode cX10_characterOf 100 = .ok (.ireturn, 1) := by decide +kernel
theorem dX10_characterOf_101 : decode cX10_characterOf 101 = .ok (.aload_n 0, 1) := by decide +kernel
theorem dX10_characterOf_102 : decode cX10_characterOf 102 = .ok (.getfield 38, 3) := by decide +kernel
theorem dX10_characterOf_105 : decode cX10_characterOf 105 = .ok (.iload_n 1, 1) := by decide +kernel
theorem dX10_characterOf_106 : decode cX10_characterOf 106 = .ok (.invokevirtual 138, 3) := by decide +kernel
theorem dX10_characterOf_109 : decode cX10_characterOf 109 = .ok (.ireturn, 1) := by decide +kernel
theorem dX10_characterOf_110 : decode cX10_characterOf 110 = .ok (.aload_n 0, 1) := by decide +kernel
theorem dX10_characterOf_111 : decode cX10_characterOf 111 = .ok (.getfield 38, 3) := by decide +kernel
theorem dX10_characterOf_114 : decode cX10_characterOf 114 = .ok (.iload_n 1, 1) := by decide +kernel
theorem dX10_characterOf_115 : decode cX10_characterOf 115 = .ok (.invokevirtual 141, 3) := by decide +kernel
theorem dX10_characterOf_118 : decode cX10_characterOf 118 = .ok (.ireturn, 1) := by decide +kernel
theorem dX10_characterOf_119 : decode cX10_characterOf 119 = .ok (.bipush (-2), 2) := by decide +kernel
theorem dX10_characterOf_121 : decode cX10_characterOf 121 = .ok (.ireturn, 1) := by decide +kernel
theorem e_98 (r : Nat) (a0 : Int32) (a1 : Int32) (ws : ai_W) : ai_Call 98 [.ref r, .int a0, .int a1] ws = if ai_isob ws r 10 = true then ai_Run 98 0 [.ref r, .int a0, .int a1] [] ws else none := R_entV hk_98 ⟨⟨rfl, rfl⟩, Nat.le_of_ble_eq_true rfl⟩ rfl
theorem r_98_0 (l1 l2 : Value) (a : Nat) (st : List Value) (ws : ai_W) : ai_Run 98 0 [.ref a, l1, l2] st ws = ai_Run 98 1 [.ref a, l1, l2] (.ref a :: st) ws := R_aload_n hc_98 dX10_characterOf_0 rfl rfl
theorem r_98_1 (ls st : List Value) (a : Nat) (ws : ai_W) : ai_Run 98 1 ls (.ref a :: st) ws = (ai_fget ws a 10 0).bind fun q => ai_Run 98 4 ls (q :: st) ws := R_getf hc_98 dX10_characterOf_1 hv_98 (w := 655) rfl rfl
theorem r_98_4 (l0 l2 : Value) (a : Int32) (st : List Value) (ws : ai_W) : ai_Run 98 4 [l0, .int a, l2] st ws = ai_Run 98 5 [l0, .int a, l2] (.int a :: st) ws := R_iload_n hc_98 dX10_characterOf_4 rfl rfl
theorem r_98_5 (ls : List Value) (r : Nat) (b0 : Int32) (ws : ai_W) : ai_Run 98 5 ls [.int b0, .ref r] ws = (ai_Call 62 [.ref r, .int b0] ws).bind fun q => ai_Run 98 8 ls (q.1.toList ++ []) q.2 := R_callV hc_98 dX10_characterOf_5 hv_98 (w := 311) rfl (ai_lt3 hf_62 hf_98 hL_62 ho_62 ho_98 rfl) hk_62 (by rw [hn_62]; rfl) rfl (Nat.le_of_ble_eq_true rfl) rfl
theorem r_98_8 (ls st : List Value) (a : Int32) (ws : ai_W) : ai_Run 98 8 ls (.int a :: st) ws = if a = 0 then ai_Run 98 11 ls st ws else ai_Run 98 13 ls st ws := R_if_ne hc_98 dX10_characterOf_8 rfl rfl
theorem r_98_11 (ls st : List Value) (ws : ai_W) : ai_Run 98 11 ls st ws = ai_Run 98 12 ls (.int (-1) :: st) ws := R_iconst hc_98 dX10_characterOf_11 (by decide) rfl
theorem r_98_12 (ls : List Value) (x : Int32) (ws : ai_W) : ai_Run 98 12 ls [.int x] ws = some (some (.int x), ws) := R_iret hc_98 dX10_characterOf_12 ht_98
theorem r_98_13 (l0 l1 : Value) (a : Int32) (st : List Value) (ws : ai_W) : ai_Run 98 13 [l0, l1, .int a] st ws = ai_Run 98 14 [l0, l1, .int a] (.int a :: st) ws := R_iload_n hc_98 dX10_characterOf_13 rfl rfl
theorem r_98_14 (ls st : List Value) (x : Int32) (ws : ai_W) : ai_Run 98 14 ls (.int x :: st) ws = if x = 0 then ai_Run 98 56 ls st ws else if x = 1 then ai_Run 98 65 ls st ws else if x = 2 then ai_Run 98 74 ls st ws else if x = 3 then ai_Run 98 83 ls st ws else if x = 4 then ai_Run 98 92 ls st ws else if x = 5 then ai_Run 98 101 ls st ws else if x = 6 then ai_Run 98 110 ls st ws else ai_Run 98 119 ls st ws := by
  by_cases h0 : x = 0
  · subst h0; rw [if_pos rfl]; exact R_switch hc_98 dX10_characterOf_14 (by decide +kernel)
  rw [if_neg h0]
  by_cases h1 : x = 1
  · subst h1; rw [if_pos rfl]; exact R_switch hc_98 dX10_characterOf_14 (by decide +kernel)
  rw [if_neg h1]
  by_cases h2 : x = 2
  · subst h2; rw [if_pos rfl]; exact R_switch hc_98 dX10_characterOf_14 (by decide +kernel)
  rw [if_neg h2]
  by_cases h3 : x = 3
  · subst h3; rw [if_pos rfl]; exact R_switch hc_98 dX10_characterOf_14 (by decide +kernel)
  rw [if_neg h3]
  by_cases h4 : x = 4
  · subst h4; rw [if_pos rfl]; exact R_switch hc_98 dX10_characterOf_14 (by decide +kernel)
  rw [if_neg h4]
  by_cases h5 : x = 5
  · subst h5; rw [if_pos rfl]; exact R_switch hc_98 dX10_characterOf_14 (by decide +kernel)
  rw [if_neg h5]
  by_cases h6 : x = 6
  · subst h6; rw [if_pos rfl]; exact R_switch hc_98 dX10_characterOf_14 (by decide +kernel)
  rw [if_neg h6]
  have q0 : x.toInt ≠ 0 := fun e => h0 (Int32.toInt_inj.mp e)
  have q1 : x.toInt ≠ 1 := fun e => h1 (Int32.toInt_inj.mp e)
  have q2 : x.toInt ≠ 2 := fun e => h2 (Int32.toInt_inj.mp e)
  have q3 : x.toInt ≠ 3 := fun e => h3 (Int32.toInt_inj.mp e)
  have q4 : x.toInt ≠ 4 := fun e => h4 (Int32.toInt_inj.mp e)
  have q5 : x.toInt ≠ 5 := fun e => h5 (Int32.toInt_inj.mp e)
  have q6 : x.toInt ≠ 6 := fun e => h6 (Int32.toInt_inj.mp e)
  refine R_switch hc_98 dX10_characterOf_14 (t := 119) ?_
  unfold ai_sw
  rw [if_pos (by omega)]
  rfl
theorem r_98_56 (l1 l2 : Value) (a : Nat) (st : List Value) (ws : ai_W) : ai_Run 98 56 [.ref a, l1, l2] st ws = ai_Run 98 57 [.ref a, l1, l2] (.ref a :: st) ws := R_aload_n hc_98 dX10_characterOf_56 rfl rfl
theorem r_98_57 (ls st : List Value) (a : Nat) (ws : ai_W) : ai_Run 98 57 ls (.ref a :: st) ws = (ai_fget ws a 10 0).bind fun q => ai_Run 98 60 ls (q :: st) ws := R_getf hc_98 dX10_characterOf_57 hv_98 (w := 655) rfl rfl
theorem r_98_60 (l0 l2 : Value) (a : Int32) (st : List Value) (ws : ai_W) : ai_Run 98 60 [l0, .int a, l2] st ws = ai_Run 98 61 [l0, .int a, l2] (.int a :: st) ws := R_iload_n hc_98 dX10_characterOf_60 rfl rfl
theorem r_98_61 (ls : List Value) (r : Nat) (b0 : Int32) (ws : ai_W) : ai_Run 98 61 ls [.int b0, .ref r] ws = (ai_Call 13 [.ref r, .int b0] ws).bind fun q => ai_Run 98 64 ls (q.1.toList ++ []) q.2 := R_callV hc_98 dX10_characterOf_61 hv_98 (w := 1178) rfl (ai_lt3 hf_13 hf_98 hL_13 ho_13 ho_98 rfl) hk_13 (by rw [hn_13]; rfl) rfl (Nat.le_of_ble_eq_true rfl) rfl
theorem r_98_64 (ls : List Value) (x : Int32) (ws : ai_W) : ai_Run 98 64 ls [.int x] ws = some (some (.int x), ws) := R_iret hc_98 dX10_characterOf_64 ht_98
theorem r_98_65 (l1 l2 : Value) (a : Nat) (st : List Value) (ws : ai_W) : ai_Run 98 65 [.ref a, l1, l2] st ws = ai_Run 98 66 [.ref a, l1, l2] (.ref a :: st) ws := R_aload_n hc_98 dX10_characterOf_65 rfl rfl
theorem r_98_66 (ls st : List Value) (a : Nat) (ws : ai_W) : ai_Run 98 66 ls (.ref a :: st) ws = (ai_fget ws a 10 0).bind fun q => ai_Run 98 69 ls (q :: st) ws := R_getf hc_98 dX10_characterOf_66 hv_98 (w := 655) rfl rfl
theorem r_98_69 (l0 l2 : Value) (a : Int32) (st : List Value) (ws : ai_W) : ai_Run 98 69 [l0, .int a, l2] st ws = ai_Run 98 70 [l0, .int a, l2] (.int a :: st) ws := R_iload_n hc_98 dX10_characterOf_69 rfl rfl
theorem r_98_70 (ls : List Value) (r : Nat) (b0 : Int32) (ws : ai_W) : ai_Run 98 70 ls [.int b0, .ref r] ws = (ai_Call 15 [.ref r, .int b0] ws).bind fun q => ai_Run 98 73 ls (q.1.toList ++ []) q.2 := R_callV hc_98 dX10_characterOf_70 hv_98 (w := 1179) rfl (ai_lt3 hf_15 hf_98 hL_15 ho_15 ho_98 rfl) hk_15 (by rw [hn_15]; rfl) rfl (Nat.le_of_ble_eq_true rfl) rfl
theorem r_98_73 (ls : List Value) (x : Int32) (ws : ai_W) : ai_Run 98 73 ls [.int x] ws = some (some (.int x), ws) := R_iret hc_98 dX10_characterOf_73 ht_98
theorem r_98_74 (l1 l2 : Value) (a : Nat) (st : List Value) (ws : ai_W) : ai_Run 98 74 [.ref a, l1, l2] st ws = ai_Run 98 75 [.ref a, l1, l2] (.ref a :: st) ws := R_aload_n hc_98 dX10_characterOf_74 rfl rfl
theorem r_98_75 (ls st : List Value) (a : Nat) (ws : ai_W) : ai_Run 98 75 ls (.ref a :: st) ws = (ai_fget ws a 10 3).bind fun q => ai_Run 98 78 ls (q :: st) ws := R_getf hc_98 dX10_characterOf_75 hv_98 (w := 658) rfl rfl
theorem r_98_78 (l0 l2 : Value) (a : Int32) (st : List Value) (ws : ai_W) : ai_Run 98 78 [l0, .int a, l2] st ws = ai_Run 98 79 [l0, .int a, l2] (.int a :: st) ws := R_iload_n hc_98 dX10_characterOf_78 rfl rfl
theorem r_98_79 (ls : List Value) (r : Nat) (b0 : Int32) (ws : ai_W) : ai_Run 98 79 ls [.int b0, .ref r] ws = (ai_Call 94 [.ref r, .int b0] ws).bind fun q => ai_Run 98 82 ls (q.1.toList ++ []) q.2 := R_callV hc_98 dX10_characterOf_79 hv_98 (w := 1180) rfl (ai_lt3 hf_94 hf_98 hL_94 ho_94 ho_98 rfl) hk_94 (by rw [hn_94]; rfl) rfl (Nat.le_of_ble_eq_true rfl) rfl
theorem r_98_82 (ls : List Value) (x : Int32) (ws : ai_W) : ai_Run 98 82 ls [.int x] ws = some (some (.int x), ws) := R_iret hc_98 dX10_characterOf_82 ht_98
theorem r_98_83 (l1 l2 : Value) (a : Nat) (st : List Value) (ws : ai_W) : ai_Run 98 83 [.ref a, l1, l2] st ws = ai_Run 98 84 [.ref a, l1, l2] (.ref a :: st) ws := R_aload_n hc_98 dX10_characterOf_83 rfl rfl
theorem r_98_84 (ls st : List Value) (a : Nat) (ws : ai_W) : ai_Run 98 84 ls (.ref a :: st) ws = (ai_fget ws a 10 3).bind fun q => ai_Run 98 87 ls (q :: st) ws := R_getf hc_98 dX10_characterOf_84 hv_98 (w := 658) rfl rfl
theorem r_98_87 (l0 l2 : Value) (a : Int32) (st : List Value) (ws : ai_W) : ai_Run 98 87 [l0, .int a, l2] st ws = ai_Run 98 88 [l0, .int a, l2] (.int a :: st) ws := R_iload_n hc_98 dX10_characterOf_87 rfl rfl
theorem r_98_88 (ls : List Value) (r : Nat) (b0 : Int32) (ws : ai_W) : ai_Run 98 88 ls [.int b0, .ref r] ws = (ai_Call 19 [.ref r, .int b0] ws).bind fun q => ai_Run 98 91 ls (q.1.toList ++ []) q.2 := R_callV hc_98 dX10_characterOf_88 hv_98 (w := 1181) rfl (ai_lt3 hf_19 hf_98 hL_19 ho_19 ho_98 rfl) hk_19 (by rw [hn_19]; rfl) rfl (Nat.le_of_ble_eq_true rfl) rfl
theorem r_98_91 (ls : List Value) (x : Int32) (ws : ai_W) : ai_Run 98 91 ls [.int x] ws = some (some (.int x), ws) := R_iret hc_98 dX10_characterOf_91 ht_98
theorem r_98_92 (l1 l2 : Value) (a : Nat) (st : List Value) (ws : ai_W) : ai_Run 98 92 [.ref a, l1, l2] st ws = ai_Run 98 93 [.ref a, l1, l2] (.ref a :: st) ws := R_aload_n hc_98 dX10_characterOf_92 rfl rfl
theorem r_98_93 (ls st : List Value) (a : Nat) (ws : ai_W) : ai_Run 98 93 ls (.ref a :: st) ws = (ai_fget ws a 10 3).bind fun q => ai_Run 98 96 ls (q :: st) ws := R_getf hc_98 dX10_characterOf_93 hv_98 (w := 658) rfl rfl
theorem r_98_96 (l0 l2 : Value) (a : Int32) (st : List Value) (ws : ai_W) : ai_Run 98 96 [l0, .int a, l2] st ws = ai_Run 98 97 [l0, .int a, l2] (.int a :: st) ws := R_iload_n hc_98 dX10_characterOf_96 rfl rfl
theorem r_98_97 (ls : List Value) (r : Nat) (b0 : Int32) (ws : ai_W) : ai_Run 98 97 ls [.int b0, .ref r] ws = (ai_Call 95 [.ref r, .int b0] ws).bind fun q => ai_Run 98 100 ls (q.1.toList ++ []) q.2 := R_callV hc_98 dX10_characterOf_97 hv_98 (w := 1182) rfl (ai_lt3 hf_95 hf_98 hL_95 ho_95 ho_98 rfl) hk_95 (by rw [hn_95]; rfl) rfl (Nat.le_of_ble_eq_true rfl) rfl
theorem r_98_100 (ls : List Value) (x : Int32) (ws : ai_W) : ai_Run 98 100 ls [.int x] ws = some (some (.int x), ws) := R_iret hc_98 dX10_characterOf_100 ht_98
theorem r_98_101 (l1 l2 : Value) (a : Nat) (st : List Value) (ws : ai_W) : ai_Run 98 101 [.ref a, l1, l2] st ws = ai_Run 98 102 [.ref a, l1, l2] (.ref a :: st) ws := R_aload_n hc_98 dX10_characterOf_101 rfl rfl
theorem r_98_102 (ls st : List Value) (a : Nat) (ws : ai_W) : ai_Run 98 102 ls (.ref a :: st) ws = (ai_fget ws a 10 3).bind fun q => ai_Run 98 105 ls (q :: st) ws := R_getf hc_98 dX10_characterOf_102 hv_98 (w := 658) rfl rfl
theorem r_98_105 (l0 l2 : Value) (a : Int32) (st : List Value) (ws : ai_W) : ai_Run 98 105 [l0, .int a, l2] st ws = ai_Run 98 106 [l0, .int a, l2] (.int a :: st) ws := R_iload_n hc_98 dX10_characterOf_105 rfl rfl
theorem r_98_106 (ls : List Value) (r : Nat) (b0 : Int32) (ws : ai_W) : ai_Run 98 106 ls [.int b0, .ref r] ws = (ai_Call 96 [.ref r, .int b0] ws).bind fun q => ai_Run 98 109 ls (q.1.toList ++ []) q.2 := R_callV hc_98 dX10_characterOf_106 hv_98 (w := 1183) rfl (ai_lt3 hf_96 hf_98 hL_96 ho_96 ho_98 rfl) hk_96 (by rw [hn_96]; rfl) rfl (Nat.le_of_ble_eq_true rfl) rfl
theorem r_98_109 (ls : List Value) (x : Int32) (ws : ai_W) : ai_Run 98 109 ls [.int x] ws = some (some (.int x), ws) := R_iret hc_98 dX10_characterOf_109 ht_98
theorem r_98_110 (l1 l2 : Value) (a : Nat) (st : List Value) (ws : ai_W) : ai_Run 98 110 [.ref a, l1, l2] st ws = ai_Run 98 111 [.ref a, l1, l2] (.ref a :: st) ws := R_aload_n hc_98 dX10_characterOf_110 rfl rfl
theorem r_98_111 (ls st : List Value) (a : Nat) (ws : ai_W) : ai_Run 98 111 ls (.ref a :: st) ws = (ai_fget ws a 10 3).bind fun q => ai_Run 98 114 ls (q :: st) ws := R_getf hc_98 dX10_characterOf_111 hv_98 (w := 658) rfl rfl
theorem r_98_114 (l0 l2 : Value) (a : Int32) (st : List Value) (ws : ai_W) : ai_Run 98 114 [l0, .int a, l2] st ws = ai_Run 98 115 [l0, .int a, l2] (.int a :: st) ws := R_iload_n hc_98 dX10_characterOf_114 rfl rfl
theorem r_98_115 (ls : List Value) (r : Nat) (b0 : Int32) (ws : ai_W) : ai_Run 98 115 ls [.int b0, .ref r] ws = (ai_Call 97 [.ref r, .int b0] ws).bind fun q => ai_Run 98 118 ls (q.1.toList ++ []) q.2 := R_callV hc_98 dX10_characterOf_115 hv_98 (w := 1188) rfl (ai_lt3 hf_97 hf_98 hL_97 ho_97 ho_98 rfl) hk_97 (by rw [hn_97]; rfl) rfl (Nat.le_of_ble_eq_true rfl) rfl
theorem r_98_118 (ls : List Value) (x : Int32) (ws : ai_W) : ai_Run 98 118 ls [.int x] ws = some (some (.int x), ws) := R_iret hc_98 dX10_characterOf_118 ht_98
theorem r_98_119 (ls st : List Value) (ws : ai_W) : ai_Run 98 119 ls st ws = ai_Run 98 121 ls (.int (-2) :: st) ws := R_bipush hc_98 dX10_characterOf_119 (by decide) rfl
theorem r_98_121 (ls : List Value) (x : Int32) (ws : ai_W) : ai_Run 98 121 ls [.int x] ws = some (some (.int x), ws) := R_iret hc_98 dX10_characterOf_121 ht_98
theorem dX10_darkest_0 : decode cX10_darkest 0 = .ok (.iload_n 1, 1) := by decide +kernel
theorem dX10_darkest_1 : decode cX10_darkest 1 = .ok (.invokestatic 196, 3) := by decide +kernel
theorem dX10_darkest_4 : decode cX10_darkest 4 = .ok (.ifCond .ne 6, 3) := by decide +kernel
theorem dX10_darkest_7 : decode cX10_darkest 7 = .ok (.bipush (-2), 2) := by decide +kernel
theorem dX10_darkest_9 : decode cX10_darkest 9 = .ok (.ireturn, 1) := by decide +kernel
theorem dX10_darkest_10 : decode cX10_darkest 10 = .ok (.aload_n 0, 1) := by decide +kernel
theorem dX10_darkest_11 : decode cX10_darkest 11 = .ok (.getfield 27, 3) := by decide +kernel
theorem dX10_darkest_14 : decode cX10_darkest 14 = .ok (.invokevirtual 199, 3) := by decide +kernel
theorem dX10_darkest_17 : decode cX10_darkest 17 = .ok (.istore_n 2, 1) := by decide +kernel
theorem dX10_darkest_18 : decode cX10_darkest 18 = .ok (.iload_n 1, 1) := by decide +kernel
theorem dX10_darkest_19 : decode cX10_darkest 19 = .ok (.iconst 1, 1) := by decide +kernel
theorem dX10_darkest_20 : decode cX10_darkest 20 = .ok (.if_icmp .ne 17, 3) := by decide +kernel
theorem dX10_darkest_23 : decode cX10_darkest 23 = .ok (.aload_n 0, 1) := by decide +kernel
theorem dX10_darkest_24 : decode cX10_darkest 24 = .ok (.getfield 27, 3) := by decide +kernel
theorem dX10_darkest_27 : decode cX10_darkest 27 = .ok (.iload_n 2, 1) := by decide +kernel
theorem dX10_darkest_28 : decode cX10_darkest 28 = .ok (.invokevirtual 190, 3) := by decide +kernel
theorem dX10_darkest_31 : decode cX10_darkest 31 = .ok (.invokestatic 202, 3) := by decide +kernel
theorem dX10_darkest_34 : decode cX10_darkest 34 = .ok (.goto 4, 3) := by decide +kernel
theorem dX10_darkest_37 : decode cX10_darkest 37 = .ok (.iload_n 2, 1) := by decide +kernel
theorem dX10_darkest_38 : decode cX10_darkest 38 = .ok (.ireturn, 1) := by decide +kernel
theorem e_102 (r : Nat) (a0 : Int32) (ws : ai_W) : ai_Call 102 [.ref r, .int a0] ws = if ai_isob ws r 10 = true then ai_Run 102 0 [.ref r, .int a0, .null] [] ws else none := R_entV hk_102 ⟨⟨rfl, rfl⟩, Nat.le_of_ble_eq_true rfl⟩ rfl
theorem r_102_0 (l0 l2 : Value) (a : Int32) (st : List Value) (ws : ai_W) : ai_Run 102 0 [l0, .int a, l2] st ws = ai_Run 102 1 [l0, .int a, l2] (.int a :: st) ws := R_iload_n hc_102 dX10_darkest_0 rfl rfl
theorem r_102_1 (ls : List Value) (b0 : Int32) (ws : ai_W) : ai_Run 102 1 ls [.int b0] ws = (ai_Call 74 [.int b0] ws).bind fun q => ai_Run 102 4 ls (q.1.toList ++ []) q.2 := R_callS hc_102 dX10_darkest_1 hv_102 (w := 1234) rfl (ai_lt3 hf_74 hf_102 hL_74 ho_74 ho_102 rfl) hk_74 (by rw [hn_74]; rfl) rfl (Nat.le_of_ble_eq_true rfl) rfl
theorem r_102_4 (ls st : List Value) (a : Int32) (ws : ai_W) : ai_Run 102 4 ls (.int a :: st) ws = if a = 0 then ai_Run 102 7 ls st ws else ai_Run 102 10 ls st ws := R_if_ne hc_102 dX10_darkest_4 rfl rfl
theorem r_102_7 (ls st : List Value) (ws : ai_W) : ai_Run 102 7 ls st ws = ai_Run 102 9 ls (.int (-2) :: st) ws := R_bipush hc_102 dX10_darkest_7 (by decide) rfl
theorem r_102_9 (ls : List Value) (x : Int32) (ws : ai_W) : ai_Run 102 9 ls [.int x] ws = some (some (.int x), ws) := R_iret hc_102 dX10_darkest_9 ht_102
theorem r_102_10 (l1 l2 : Value) (a : Nat) (st : List Value) (ws : ai_W) : ai_Run 102 10 [.ref a, l1, l2] st ws = ai_Run 102 11 [.ref a, l1, l2] (.ref a :: st) ws := R_aload_n hc_102 dX10_darkest_10 rfl rfl
theorem r_102_11 (ls st : List Value) (a : Nat) (ws : ai_W) : ai_Run 102 11 ls (.ref a :: st) ws = (ai_fget ws a 10 1).bind fun q => ai_Run 102 14 ls (q :: st) ws := R_getf hc_102 dX10_darkest_11 hv_102 (w := 656) rfl rfl
theorem r_102_14 (ls : List Value) (r : Nat) (ws : ai_W) : ai_Run 102 14 ls [.ref r] ws = (ai_Call 101 [.ref r] ws).bind fun q => ai_Run 102 17 ls (q.1.toList ++ []) q.2 := R_callV hc_102 dX10_darkest_14 hv_102 (w := 1235) rfl (ai_lt3 hf_101 hf_102 hL_101 ho_101 ho_102 rfl) hk_101 (by rw [hn_101]; rfl) rfl (Nat.le_of_ble_eq_true rfl) rfl
theorem r_102_17 (l0 l1 l2 : Value) (a : Int32) (st : List Value) (ws : ai_W) : ai_Run 102 17 [l0, l1, l2] (.int a :: st) ws = ai_Run 102 18 [l0, l1, .int a] st ws := R_istore_n hc_102 dX10_darkest_17 (Nat.le_of_ble_eq_true rfl) rfl rfl
theorem r_102_18 (l0 l2 : Value) (a : Int32) (st : List Value) (ws : ai_W) : ai_Run 102 18 [l0, .int a, l2] st ws = ai_Run 102 19 [l0, .int a, l2] (.int a :: st) ws := R_iload_n hc_102 dX10_darkest_18 rfl rfl
theorem r_102_19 (ls st : List Value) (ws : ai_W) : ai_Run 102 19 ls st ws = ai_Run 102 20 ls (.int 1 :: st) ws := R_iconst hc_102 dX10_darkest_19 (by decide) rfl
theorem r_102_20 (ls st : List Value) (a b : Int32) (ws : ai_W) : ai_Run 102 20 ls (.int b :: .int a :: st) ws = if a = b then ai_Run 102 23 ls st ws else ai_Run 102 37 ls st ws := R_cmp_ne hc_102 dX10_darkest_20 rfl rfl
theorem r_102_23 (l1 l2 : Value) (a : Nat) (st : List Value) (ws : ai_W) : ai_Run 102 23 [.ref a, l1, l2] st ws = ai_Run 102 24 [.ref a, l1, l2] (.ref a :: st) ws := R_aload_n hc_102 dX10_darkest_23 rfl rfl
theorem r_102_24 (ls st : List Value) (a : Nat) (ws : ai_W) : ai_Run 102 24 ls (.ref a :: st) ws = (ai_fget ws a 10 1).bind fun q => ai_Run 102 27 ls (q :: st) ws := R_getf hc_102 dX10_darkest_24 hv_102 (w := 656) rfl rfl
theorem r_102_27 (l0 l1 : Value) (a : Int32) (st : List Value) (ws : ai_W) : ai_Run 102 27 [l0, l1, .int a] st ws = ai_Run 102 28 [l0, l1, .int a] (.int a :: st) ws := R_iload_n hc_102 dX10_darkest_27 rfl rfl
theorem r_102_28 (ls : List Value) (r : Nat) (b0 : Int32) (ws : ai_W) : ai_Run 102 28 ls [.int b0, .ref r] ws = (ai_Call 99 [.ref r, .int b0] ws).bind fun q => ai_Run 102 31 ls (q.1.toList ++ []) q.2 := R_callV hc_102 dX10_darkest_28 hv_102 (w := 1107) rfl (ai_lt3 hf_99 hf_102 hL_99 ho_99 ho_102 rfl) hk_99 (by rw [hn_99]; rfl) rfl (Nat.le_of_ble_eq_true rfl) rfl
theorem r_102_31 (ls : List Value) (b0 : Int32) (ws : ai_W) : ai_Run 102 31 ls [.int b0] ws = (ai_Call 100 [.int b0] ws).bind fun q => ai_Run 102 34 ls (q.1.toList ++ []) q.2 := R_callS hc_102 dX10_darkest_31 hv_102 (w := 1241) rfl (ai_lt3 hf_100 hf_102 hL_100 ho_100 ho_102 rfl) hk_100 (by rw [hn_100]; rfl) rfl (Nat.le_of_ble_eq_true rfl) rfl
theorem r_102_34 (ls st : List Value) (ws : ai_W) : ai_Run 102 34 ls st ws = ai_Run 102 38 ls st ws := R_goto hc_102 dX10_darkest_34 rfl
theorem r_102_37 (l0 l1 : Value) (a : Int32) (st : List Value) (ws : ai_W) : ai_Run 102 37 [l0, l1, .int a] st ws = ai_Run 102 38 [l0, l1, .int a] (.int a :: st) ws := R_iload_n hc_102 dX10_darkest_37 rfl rfl
theorem r_102_38 (ls : List Value) (x : Int32) (ws : ai_W) : ai_Run 102 38 ls [.int x] ws = some (some (.int x), ws) := R_iret hc_102 dX10_darkest_38 ht_102
theorem dX10_dead_0 : decode cX10_dead 0 = .ok (.iload_n 1, 1) := by decide +kernel
theorem dX10_dead_1 : decode cX10_dead 1 = .ok (.invokestatic 187, 3) := by decide +kernel
theorem dX10_dead_4 : decode cX10_dead 4 = .ok (.ifCond .eq 14, 3) := by decide +kernel
theorem dX10_dead_7 : decode cX10_dead 7 = .ok (.aload_n 0, 1) := by decide +kernel
theorem dX10_dead_8 : decode cX10_dead 8 = .ok (.getfield 27, 3) := by decide +kernel
theorem dX10_dead_11 : decode cX10_dead 11 = .ok (.iload_n 1, 1) := by decide +kernel
theorem dX10_dead_12 : decode cX10_dead 12 = .ok (.invokevirtual 190, 3) := by decide +kernel
theorem dX10_dead_15 : decode cX10_dead 15 = .ok (.goto 5, 3) := by decide +kernel
theorem dX10_dead_18 : decode cX10_dead 18 = .ok (.bipush (-2), 2) := by decide +kernel
theorem dX10_dead_20 : decode cX10_dead 20 = .ok (.ireturn, 1) := by decide +kernel
theorem e_103 (r : Nat) (a0 : Int32) (ws : ai_W) : ai_Call 103 [.ref r, .int a0] ws = if ai_isob ws r 10 = true then ai_Run 103 0 [.ref r, .int a0] [] ws else none := R_entV hk_103 ⟨⟨rfl, rfl⟩, Nat.le_of_ble_eq_true rfl⟩ rfl
theorem r_103_0 (l0 : Value) (a : Int32) (st : List Value) (ws : ai_W) : ai_Run 103 0 [l0, .int a] st ws = ai_Run 103 1 [l0, .int a] (.int a :: st) ws := R_iload_n hc_103 dX10_dead_0 rfl rfl
theorem r_103_1 (ls : List Value) (b0 : Int32) (ws : ai_W) : ai_Run 103 1 ls [.int b0] ws = (ai_Call 63 [.int b0] ws).bind fun q => ai_Run 103 4 ls (q.1.toList ++ []) q.2 := R_callS hc_103 dX10_dead_1 hv_103 (w := 1106) rfl (ai_lt3 hf_63 hf_103 hL_63 ho_63 ho_103 rfl) hk_63 (by rw [hn_63]; rfl) rfl (Nat.le_of_ble_eq_true rfl) rfl
theorem r_103_4 (ls st : List Value) (a : Int32) (ws : ai_W) : ai_Run 103 4 ls (.int a :: st) ws = if a = 0 then ai_Run 103 18 ls st ws else ai_Run 103 7 ls st ws := R_if_eq hc_103 dX10_dead_4 rfl rfl
theorem r_103_7 (l1 : Value) (a : Nat) (st : List Value) (ws : ai_W) : ai_Run 103 7 [.ref a, l1] st ws = ai_Run 103 8 [.ref a, l1] (.ref a :: st) ws := R_aload_n hc_103 dX10_dead_7 rfl rfl
theorem r_103_8 (ls st : List Value) (a : Nat) (ws : ai_W) : ai_Run 103 8 ls (.ref a :: st) ws = (ai_fget ws a 10 1).bind fun q => ai_Run 103 11 ls (q :: st) ws := R_getf hc_103 dX10_dead_8 hv_103 (w := 656) rfl rfl
theorem r_103_11 (l0 : Value) (a : Int32) (st : List Value) (ws : ai_W) : ai_Run 103 11 [l0, .int a] st ws = ai_Run 103 12 [l0, .int a] (.int a :: st) ws := R_iload_n hc_103 dX10_dead_11 rfl rfl
theorem r_103_12 (ls : List Value) (r : Nat) (b0 : Int32) (ws : ai_W) : ai_Run 103 12 ls [.int b0, .ref r] ws = (ai_Call 99 [.ref r, .int b0] ws).bind fun q => ai_Run 103 15 ls (q.1.toList ++ []) q.2 := R_callV hc_103 dX10_dead_12 hv_103 (w := 1107) rfl (ai_lt3 hf_99 hf_103 hL_99 ho_99 ho_103 rfl) hk_99 (by rw [hn_99]; rfl) rfl (Nat.le_of_ble_eq_true rfl) rfl
theorem r_103_15 (ls st : List Value) (ws : ai_W) : ai_Run 103 15 ls st ws = ai_Run 103 20 ls st ws := R_goto hc_103 dX10_dead_15 rfl
theorem r_103_18 (ls st : List Value) (ws : ai_W) : ai_Run 103 18 ls st ws = ai_Run 103 20 ls (.int (-2) :: st) ws := R_bipush hc_103 dX10_dead_18 (by decide) rfl
theorem r_103_20 (ls : List Value) (x : Int32) (ws : ai_W) : ai_Run 103 20 ls [.int x] ws = some (some (.int x), ws) := R_iret hc_103 dX10_dead_20 ht_103
theorem dX10_deadAgain_0 : decode cX10_deadAgain 0 = .ok (.iload_n 1, 1) := by decide +kernel
theorem dX10_deadAgain_1 : decode cX10_deadAgain 1 = .ok (.invokestatic 187, 3) := by decide +kernel
theorem dX10_deadAgain_4 : decode cX10_deadAgain 4 = .ok (.ifCond .eq 14, 3) := by decide +kernel
theorem dX10_deadAgain_7 : decode cX10_deadAgain 7 = .ok (.aload_n 0, 1) := by decide +kernel
theorem dX10_deadAgain_8 : decode cX10_deadAgain 8 = .ok (.getfield 27, 3) := by decide +kernel
theorem dX10_deadAgain_11 : decode cX10_deadAgain 11 = .ok (.iload_n 1, 1) := by decide +kernel
theorem dX10_deadAgain_12 : decode cX10_deadAgain 12 = .ok (.invokevirtual 193, 3) := by decide +kernel
theorem dX10_deadAgain_15 : decode cX10_deadAgain 15 = .ok (.goto 5, 3) := by decide +kernel
theorem dX10_deadAgain_18 : decode cX10_deadAgain 18 = .ok (.bipush (-2), 2) := by decide +kernel
theorem dX10_deadAgain_20 : decode cX10_deadAgain 20 = .ok (.ireturn, 1) := by decide +kernel
theorem e_106 (r : Nat) (a0 : Int32) (ws : ai_W) : ai_Call 106 [.ref r, .int a0] ws = if ai_isob ws r 10 = true then ai_Run 106 0 [.ref r, .int a0] [] ws else none := R_entV hk_106 ⟨⟨rfl, rfl⟩, Nat.le_of_ble_eq_true rfl⟩ rfl
theorem r_106_0 (l0 : Value) (a : Int32) (st : List Value) (ws : ai_W) : ai_Run 106 0 [l0, .int a] st ws = ai_Run 106 1 [l0, .int a] (.int a :: st) ws := R_iload_n hc_106 dX10_deadAgain_0 rfl rfl
theorem r_106_1 (ls : List Value) (b0 : Int32) (ws : ai_W) : ai_Run 106 1 ls [.int b0] ws = (ai_Call 63 [.int b0] ws).bind fun q => ai_Run 106 4 ls (q.1.toList ++ []) q.2 := R_callS hc_106 dX10_deadAgain_1 hv_106 (w := 1106) rfl (ai_lt3 hf_63 hf_106 hL_63 ho_63 ho_106 rfl) hk_63 (by rw [hn_63]; rfl) rfl (Nat.le_of_ble_eq_true rfl) rfl
theorem r_106_4 (ls st : List Value) (a : Int32) (ws : ai_W) : ai_Run 106 4 ls (.int a :: st) ws = if a = 0 then ai_Run 106 18 ls st ws else ai_Run 106 7 ls st ws := R_if_eq hc_106 dX10_deadAgain_4 rfl rfl
theorem r_106_7 (l1 : Value) (a : Nat) (st : List Value) (ws : ai_W) : ai_Run 106 7 [.ref a, l1] st ws = ai_Run 106 8 [.ref a, l1] (.ref a :: st) ws := R_aload_n hc_106 dX10_deadAgain_7 rfl rfl
theorem r_106_8 (ls st : List Value) (a : Nat) (ws : ai_W) : ai_Run 106 8 ls (.ref a :: st) ws = (ai_fget ws a 10 1).bind fun q => ai_Run 106 11 ls (q :: st) ws := R_getf hc_106 dX10_deadAgain_8 hv_106 (w := 656) rfl rfl
theorem r_106_11 (l0 : Value) (a : Int32) (st : List Value) (ws : ai_W) : ai_Run 106 11 [l0, .int a] st ws = ai_Run 106 12 [l0, .int a] (.int a :: st) ws := R_iload_n hc_106 dX10_deadAgain_11 rfl rfl
theorem r_106_12 (ls : List Value) (r : Nat) (b0 : Int32) (ws : ai_W) : ai_Run 106 12 ls [.int b0, .ref r] ws = (ai_Call 105 [.ref r, .int b0] ws).bind fun q => ai_Run 106 15 ls (q.1.toList ++ []) q.2 := R_callV hc_106 dX10_deadAgain_12 hv_106 (w := 1196) rfl (ai_lt3 hf_105 hf_106 hL_105 ho_105 ho_106 rfl) hk_105 (by rw [hn_105]; rfl) rfl (Nat.le_of_ble_eq_true rfl) rfl
theorem r_106_15 (ls st : List Value) (ws : ai_W) : ai_Run 106 15 ls st ws = ai_Run 106 20 ls st ws := R_goto hc_106 dX10_deadAgain_15 rfl
theorem r_106_18 (ls st : List Value) (ws : ai_W) : ai_Run 106 18 ls st ws = ai_Run 106 20 ls (.int (-2) :: st) ws := R_bipush hc_106 dX10_deadAgain_18 (by decide) rfl
theorem r_106_20 (ls : List Value) (x : Int32) (ws : ai_W) : ai_Run 106 20 ls [.int x] ws = some (some (.int x), ws) := R_iret hc_106 dX10_deadAgain_20 ht_106
theorem dX10_deathOf_0 : decode cX10_deathOf 0 = .ok (.aload_n 0, 1) := by decide +kernel
theorem dX10_deathOf_1 : decode cX10_deathOf 1 = .ok (.getfield 21, 3) := by decide +kernel
theorem dX10_deathOf_4 : decode cX10_deathOf 4 = .ok (.iload_n 1, 1) := by decide +kernel
theorem dX10_deathOf_5 : decode cX10_deathOf 5 = .ok (.invokevirtual 119, 3) := by decide +kernel
theorem dX10_deathOf_8 : decode cX10_deathOf 8 = .ok (.ifCond .eq 15, 3) := by decide +kernel
theorem dX10_deathOf_11 : decode cX10_deathOf 11 = .ok (.aload_n 0, 1) := by decide +kernel
theorem dX10_deathOf_12 : decode cX10_deathOf 12 = .ok (.getfield 21, 3) := by decide +kernel
theorem dX10_deathOf_15 : decode cX10_deathOf 15 = .ok (.iload_n 1, 1) := by decide +kernel
theorem dX10_deathOf_16 : decode cX10_deathOf 16 = .ok (.iload_n 2, 1) := by decide +kernel
theorem dX10_deathOf_17 : decode cX10_deathOf 17 = .ok (.invokevirtual 144, 3) := by decide +kernel
theorem dX10_deathOf_20 : decode cX10_deathOf 20 = .ok (.ifCond .ne 5, 3) := by decide +kernel
theorem dX10_deathOf_23 : decode cX10_deathOf 23 = .ok (.iconst (-1), 1) := by decide +kernel
theorem dX10_deathOf_24 : decode cX10_deathOf 24 = .ok (.ireturn, 1) := by decide +kernel
theorem dX10_deathOf_25 : decode cX10_deathOf 25 = .ok (.iload_n 3, 1) := by decide +kernel
theorem dX10_deathOf_26 : decode cX10_deathOf 26 = .ok (.tableswitch 94 0 4 #[34, 44, 54, 74, 84], 34) := by decide +kernel
theorem dX10_deathOf_60 : decode cX10_deathOf 60 = .ok (.aload_n 0, 1) := by decide +kernel
theorem dX10_deathOf_61 : decode cX10_deathOf 61 = .ok (.getfield 21, 3) := by decide +kernel
theorem dX10_deathOf_64 : decode cX10_deathOf 64 = .ok (.iload_n 1, 1) := by decide +kernel
theorem dX10_deathOf_65 : decode cX10_deathOf 65 = .ok (.iload_n 2, 1) := by decide +kernel
theorem dX10_deathOf_66 : decode cX10_deathOf 66 = .ok (.invokevirtual 148, 3) := by decide +kernel
theorem dX10_deathOf_69 : decode cX10_deathOf 69 = .ok (.ireturn, 1) := by decide +kernel
theorem dX10_deathOf_70 : decode cX10_deathOf 70 = .ok (.aload_n 0, 1) := by decide +kernel
theorem dX10_deathOf_71 : decode cX10_deathOf 71 = .ok (.getfield 21, 3) := by decide +kernel
theorem dX10_deathOf_74 : decode cX10_deathOf 74 = .ok (.iload_n 1, 1) := by decide +kernel
theorem dX10_deathOf_75 : decode cX10_deathOf 75 = .ok (.iload_n 2, 1) := by decide +kernel
theorem dX10_deathOf_76 : decode cX10_deathOf 76 = .ok (.invokevirtual 151, 3) := by decide +kernel
theorem dX10_deathOf_79 : decode cX10_deathOf 79 = .ok (.ireturn, 1) := by decide +kernel
theorem dX10_deathOf_80 : decode cX10_deathOf 80 = .ok (.aload_n 0, 1) := by decide +kernel
theorem dX10_deathOf_81 : decode cX10_deathOf 81 = .ok (.getfield 21, 3) := by decide +kernel
theorem dX10_deathOf_84 : decode cX10_deathOf 84 = .ok (.getfield 154, 3) := by decide +kernel
theorem dX10_deathOf_87 : decode cX10_deathOf 87 = .ok (.aload_n 0, 1) := by decide +kernel
theorem dX10_deathOf_88 : decode cX10_deathOf 88 = .ok (.getfield 21, 3) := by decide +kernel
theorem dX10_deathOf_91 : decode cX10_deathOf 91 = .ok (.iload_n 1, 1) := by decide +kernel
theorem dX10_deathOf_92 : decode cX10_deathOf 92 = .ok (.iload_n 2, 1) := by decide +kernel
theorem dX10_deathOf_93 : decode cX10_deathOf 93 = .ok (.invokevirtual 148, 3) := by decide +kernel
theorem dX10_deathOf_96 : decode cX10_deathOf 96 = .ok (.invokevirtual 158, 3) := by decide +kernel
theorem dX10_deathOf_99 : decode cX10_deathOf 99 = .ok (.ireturn, 1) := by decide +kernel
theorem dX10_deathOf_100 : decode cX10_deathOf 100 = .ok (.aload_n 0, 1) := by decide +kernel
theorem dX10_deathOf_101 : decode cX10_deathOf 101 = .ok (.getfield 27, 3) := by decide +kernel
theorem dX10_deathOf_104 : decode cX10_deathOf 104 = .ok (.iload_n 1, 1) := by decide +kernel
theorem dX10_deathOf_105 : decode cX10_deathOf 105 = .ok (.iload_n 2, 1) := by decide +kernel
theorem dX10_deathOf_106 : decode cX10_deathOf 106 = .ok (.invokevirtual 163, 3) := by decide +kernel
theorem dX10_deathOf_109 : decode cX10_deathOf 109 = .ok (.ireturn, 1) := by decide +kernel
theorem dX10_deathOf_110 : decode cX10_deathOf 110 = .ok (.aload_n 0, 1) := by decide +kernel
theorem dX10_deathOf_111 : decode cX10_deathOf 111 = .ok (.getfield 21, 3) := by decide +kernel
theorem dX10_deathOf_114 : decode cX10_deathOf 114 = .ok (.iload_n 1, 1) := by decide +kernel
theorem dX10_deathOf_115 : decode cX10_deathOf 115 = .ok (.iload_n 2, 1) := by decide +kernel
theorem dX10_deathOf_116 : decode cX10_deathOf 116 = .ok (.invokevirtual 166, 3) := by decide +kernel
theorem dX10_deathOf_119 : decode cX10_deathOf 119 = .ok (.ireturn, 1) := by decide +kernel
theorem dX10_deathOf_120 : decode cX10_deathOf 120 = .ok (.bipush (-2), 2) := by decide +kernel
theorem dX10_deathOf_122 : decode cX10_deathOf 122 = .ok (.ireturn, 1) := by decide +kernel
theorem e_108 (r : Nat) (a0 : Int32) (a1 : Int32) (a2 : Int32) (ws : ai_W) : ai_Call 108 [.ref r, .int a0, .int a1, .int a2] ws = if ai_isob ws r 10 = true then ai_Run 108 0 [.ref r, .int a0, .int a1, .int a2] [] ws else none := R_entV hk_108 ⟨⟨rfl, rfl⟩, Nat.le_of_ble_eq_true rfl⟩ rfl
theorem r_108_0 (l1 l2 l3 : Value) (a : Nat) (st : List Value) (ws : ai_W) : ai_Run 108 0 [.ref a, l1, l2, l3] st ws = ai_Run 108 1 [.ref a, l1, l2, l3] (.ref a :: st) ws := R_aload_n hc_108 dX10_deathOf_0 rfl rfl
theorem r_108_1 (ls st : List Value) (a : Nat) (ws : ai_W) : ai_Run 108 1 ls (.ref a :: st) ws = (ai_fget ws a 10 0).bind fun q => ai_Run 108 4 ls (q :: st) ws := R_getf hc_108 dX10_deathOf_1 hv_108 (w := 655) rfl rfl
theorem r_108_4 (l0 l2 l3 : Value) (a : Int32) (st : List Value) (ws : ai_W) : ai_Run 108 4 [l0, .int a, l2, l3] st ws = ai_Run 108 5 [l0, .int a, l2, l3] (.int a :: st) ws := R_iload_n hc_108 dX10_deathOf_4 rfl rfl
theorem r_108_5 (ls : List Value) (r : Nat) (b0 : Int32) (ws : ai_W) : ai_Run 108 5 ls [.int b0, .ref r] ws = (ai_Call 62 [.ref r, .int b0] ws).bind fun q => ai_Run 108 8 ls (q.1.toList ++ []) q.2 := R_callV hc_108 dX10_deathOf_5 hv_108 (w := 311) rfl (ai_lt3 hf_62 hf_108 hL_62 ho_62 ho_108 rfl) hk_62 (by rw [hn_62]; rfl) rfl (Nat.le_of_ble_eq_true rfl) rfl
theorem r_108_8 (ls st : List Value) (a : Int32) (ws : ai_W) : ai_Run 108 8 ls (.int a :: st) ws = if a = 0 then ai_Run 108 23 ls st ws else ai_Run 108 11 ls st ws := R_if_eq hc_108 dX10_deathOf_8 rfl rfl
theorem r_108_11 (l1 l2 l3 : Value) (a : Nat) (st : List Value) (ws : ai_W) : ai_Run 108 11 [.ref a, l1, l2, l3] st ws = ai_Run 108 12 [.ref a, l1, l2, l3] (.ref a :: st) ws := R_aload_n hc_108 dX10_deathOf_11 rfl rfl
theorem r_108_12 (ls st : List Value) (a : Nat) (ws : ai_W) : ai_Run 108 12 ls (.ref a :: st) ws = (ai_fget ws a 10 0).bind fun q => ai_Run 108 15 ls (q :: st) ws := R_getf hc_108 dX10_deathOf_12 hv_108 (w := 655) rfl rfl
theorem r_108_15 (l0 l2 l3 : Value) (a : Int32) (st : List Value) (ws : ai_W) : ai_Run 108 15 [l0, .int a, l2, l3] st ws = ai_Run 108 16 [l0, .int a, l2, l3] (.int a :: st) ws := R_iload_n hc_108 dX10_deathOf_15 rfl rfl
theorem r_108_16 (l0 l1 l3 : Value) (a : Int32) (st : List Value) (ws : ai_W) : ai_Run 108 16 [l0, l1, .int a, l3] st ws = ai_Run 108 17 [l0, l1, .int a, l3] (.int a :: st) ws := R_iload_n hc_108 dX10_deathOf_16 rfl rfl
theorem r_108_17 (ls : List Value) (r : Nat) (b0 : Int32) (b1 : Int32) (ws : ai_W) : ai_Run 108 17 ls [.int b1, .int b0, .ref r] ws = (ai_Call 82 [.ref r, .int b0, .int b1] ws).bind fun q => ai_Run 108 20 ls (q.1.toList ++ []) q.2 := R_callV hc_108 dX10_deathOf_17 hv_108 (w := 1129) rfl (ai_lt3 hf_82 hf_108 hL_82 ho_82 ho_108 rfl) hk_82 (by rw [hn_82]; rfl) rfl (Nat.le_of_ble_eq_true rfl) rfl
theorem r_108_20 (ls st : List Value) (a : Int32) (ws : ai_W) : ai_Run 108 20 ls (.int a :: st) ws = if a = 0 then ai_Run 108 23 ls st ws else ai_Run 108 25 ls st ws := R_if_ne hc_108 dX10_deathOf_20 rfl rfl
theorem r_108_23 (ls st : List Value) (ws : ai_W) : ai_Run 108 23 ls st ws = ai_Run 108 24 ls (.int (-1) :: st) ws := R_iconst hc_108 dX10_deathOf_23 (by decide) rfl
theorem r_108_24 (ls : List Value) (x : Int32) (ws : ai_W) : ai_Run 108 24 ls [.int x] ws = some (some (.int x), ws) := R_iret hc_108 dX10_deathOf_24 ht_108
theorem r_108_25 (l0 l1 l2 : Value) (a : Int32) (st : List Value) (ws : ai_W) : ai_Run 108 25 [l0, l1, l2, .int a] st ws = ai_Run 108 26 [l0, l1, l2, .int a] (.int a :: st) ws := R_iload_n hc_108 dX10_deathOf_25 rfl rfl
theorem r_108_26 (ls st : List Value) (x : Int32) (ws : ai_W) : ai_Run 108 26 ls (.int x :: st) ws = if x = 0 then ai_Run 108 60 ls st ws else if x = 1 then ai_Run 108 70 ls st ws else if x = 2 then ai_Run 108 80 ls st ws else if x = 3 then ai_Run 108 100 ls st ws else if x = 4 then ai_Run 108 110 ls st ws else ai_Run 108 120 ls st ws := by
  by_cases h0 : x = 0
  · subst h0; rw [if_pos rfl]; exact R_switch hc_108 dX10_deathOf_26 (by decide +kernel)
  rw [if_neg h0]
  by_cases h1 : x = 1
  · subst h1; rw [if_pos rfl]; exact R_switch hc_108 dX10_deathOf_26 (by decide +kernel)
  rw [if_neg h1]
  by_cases h2 : x = 2
  · subst h2; rw [if_pos rfl]; exact R_switch hc_108 dX10_deathOf_26 (by decide +kernel)
  rw [if_neg h2]
  by_cases h3 : x = 3
  · subst h3; rw [if_pos rfl]; exact R_switch hc_108 dX10_deathOf_26 (by decide +kernel)
  rw [if_neg h3]
  by_cases h4 : x = 4
  · subst h4; rw [if_pos rfl]; exact R_switch hc_108 dX10_deathOf_26 (by decide +kernel)
  rw [if_neg h4]
  have q0 : x.toInt ≠ 0 := fun e => h0 (Int32.toInt_inj.mp e)
  have q1 : x.toInt ≠ 1 := fun e => h1 (Int32.toInt_inj.mp e)
  have q2 : x.toInt ≠ 2 := fun e => h2 (Int32.toInt_inj.mp e)
  have q3 : x.toInt ≠ 3 := fun e => h3 (Int32.toInt_inj.mp e)
  have q4 : x.toInt ≠ 4 := fun e => h4 (Int32.toInt_inj.mp e)
  refine R_switch hc_108 dX10_deathOf_26 (t := 120) ?_
  unfold ai_sw
  rw [if_pos (by omega)]
  rfl
theorem r_108_60 (l1 l2 l3 : Value) (a : Nat) (st : List Value) (ws : ai_W) : ai_Run 108 60 [.ref a, l1, l2, l3] st ws = ai_Run 108 61 [.ref a, l1, l2, l3] (.ref a :: st) ws := R_aload_n hc_108 dX10_deathOf_60 rfl rfl
theorem r_108_61 (ls st : List Value) (a : Nat) (ws : ai_W) : ai_Run 108 61 ls (.ref a :: st) ws = (ai_fget ws a 10 0).bind fun q => ai_Run 108 64 ls (q :: st) ws := R_getf hc_108 dX10_deathOf_61 hv_108 (w := 655) rfl rfl
theorem r_108_64 (l0 l2 l3 : Value) (a : Int32) (st : List Value) (ws : ai_W) : ai_Run 108 64 [l0, .int a, l2, l3] st ws = ai_Run 108 65 [l0, .int a, l2, l3] (.int a :: st) ws := R_iload_n hc_108 dX10_deathOf_64 rfl rfl
theorem r_108_65 (l0 l1 l3 : Value) (a : Int32) (st : List Value) (ws : ai_W) : ai_Run 108 65 [l0, l1, .int a, l3] st ws = ai_Run 108 66 [l0, l1, .int a, l3] (.int a :: st) ws := R_iload_n hc_108 dX10_deathOf_65 rfl rfl
theorem r_108_66 (ls : List Value) (r : Nat) (b0 : Int32) (b1 : Int32) (ws : ai_W) : ai_Run 108 66 ls [.int b1, .int b0, .ref r] ws = (ai_Call 53 [.ref r, .int b0, .int b1] ws).bind fun q => ai_Run 108 69 ls (q.1.toList ++ []) q.2 := R_callV hc_108 dX10_deathOf_66 hv_108 (w := 1130) rfl (ai_lt3 hf_53 hf_108 hL_53 ho_53 ho_108 rfl) hk_53 (by rw [hn_53]; rfl) rfl (Nat.le_of_ble_eq_true rfl) rfl
theorem r_108_69 (ls : List Value) (x : Int32) (ws : ai_W) : ai_Run 108 69 ls [.int x] ws = some (some (.int x), ws) := R_iret hc_108 dX10_deathOf_69 ht_108
theorem r_108_70 (l1 l2 l3 : Value) (a : Nat) (st : List Value) (ws : ai_W) : ai_Run 108 70 [.ref a, l1, l2, l3] st ws = ai_Run 108 71 [.ref a, l1, l2, l3] (.ref a :: st) ws := R_aload_n hc_108 dX10_deathOf_70 rfl rfl
theorem r_108_71 (ls st : List Value) (a : Nat) (ws : ai_W) : ai_Run 108 71 ls (.ref a :: st) ws = (ai_fget ws a 10 0).bind fun q => ai_Run 108 74 ls (q :: st) ws := R_getf hc_108 dX10_deathOf_71 hv_108 (w := 655) rfl rfl
theorem r_108_74 (l0 l2 l3 : Value) (a : Int32) (st : List Value) (ws : ai_W) : ai_Run 108 74 [l0, .int a, l2, l3] st ws = ai_Run 108 75 [l0, .int a, l2, l3] (.int a :: st) ws := R_iload_n hc_108 dX10_deathOf_74 rfl rfl
theorem r_108_75 (l0 l1 l3 : Value) (a : Int32) (st : List Value) (ws : ai_W) : ai_Run 108 75 [l0, l1, .int a, l3] st ws = ai_Run 108 76 [l0, l1, .int a, l3] (.int a :: st) ws := R_iload_n hc_108 dX10_deathOf_75 rfl rfl
theorem r_108_76 (ls : List Value) (r : Nat) (b0 : Int32) (b1 : Int32) (ws : ai_W) : ai_Run 108 76 ls [.int b1, .int b0, .ref r] ws = (ai_Call 17 [.ref r, .int b0, .int b1] ws).bind fun q => ai_Run 108 79 ls (q.1.toList ++ []) q.2 := R_callV hc_108 dX10_deathOf_76 hv_108 (w := 337) rfl (ai_lt3 hf_17 hf_108 hL_17 ho_17 ho_108 rfl) hk_17 (by rw [hn_17]; rfl) rfl (Nat.le_of_ble_eq_true rfl) rfl
theorem r_108_79 (ls : List Value) (x : Int32) (ws : ai_W) : ai_Run 108 79 ls [.int x] ws = some (some (.int x), ws) := R_iret hc_108 dX10_deathOf_79 ht_108
theorem r_108_80 (l1 l2 l3 : Value) (a : Nat) (st : List Value) (ws : ai_W) : ai_Run 108 80 [.ref a, l1, l2, l3] st ws = ai_Run 108 81 [.ref a, l1, l2, l3] (.ref a :: st) ws := R_aload_n hc_108 dX10_deathOf_80 rfl rfl
theorem r_108_81 (ls st : List Value) (a : Nat) (ws : ai_W) : ai_Run 108 81 ls (.ref a :: st) ws = (ai_fget ws a 10 0).bind fun q => ai_Run 108 84 ls (q :: st) ws := R_getf hc_108 dX10_deathOf_81 hv_108 (w := 655) rfl rfl
theorem r_108_84 (ls st : List Value) (a : Nat) (ws : ai_W) : ai_Run 108 84 ls (.ref a :: st) ws = (ai_fget ws a 0 6).bind fun q => ai_Run 108 87 ls (q :: st) ws := R_getf hc_108 dX10_deathOf_84 hv_108 (w := 485) rfl rfl
theorem r_108_87 (l1 l2 l3 : Value) (a : Nat) (st : List Value) (ws : ai_W) : ai_Run 108 87 [.ref a, l1, l2, l3] st ws = ai_Run 108 88 [.ref a, l1, l2, l3] (.ref a :: st) ws := R_aload_n hc_108 dX10_deathOf_87 rfl rfl
theorem r_108_88 (ls st : List Value) (a : Nat) (ws : ai_W) : ai_Run 108 88 ls (.ref a :: st) ws = (ai_fget ws a 10 0).bind fun q => ai_Run 108 91 ls (q :: st) ws := R_getf hc_108 dX10_deathOf_88 hv_108 (w := 655) rfl rfl
theorem r_108_91 (l0 l2 l3 : Value) (a : Int32) (st : List Value) (ws : ai_W) : ai_Run 108 91 [l0, .int a, l2, l3] st ws = ai_Run 108 92 [l0, .int a, l2, l3] (.int a :: st) ws := R_iload_n hc_108 dX10_deathOf_91 rfl rfl
theorem r_108_92 (l0 l1 l3 : Value) (a : Int32) (st : List Value) (ws : ai_W) : ai_Run 108 92 [l0, l1, .int a, l3] st ws = ai_Run 108 93 [l0, l1, .int a, l3] (.int a :: st) ws := R_iload_n hc_108 dX10_deathOf_92 rfl rfl
theorem r_108_93 (ls : List Value) (r : Nat) (b0 : Int32) (b1 : Int32) (s0 : Value) (ws : ai_W) : ai_Run 108 93 ls [.int b1, .int b0, .ref r, s0] ws = (ai_Call 53 [.ref r, .int b0, .int b1] ws).bind fun q => ai_Run 108 96 ls (q.1.toList ++ [s0]) q.2 := R_callV hc_108 dX10_deathOf_93 hv_108 (w := 1130) rfl (ai_lt3 hf_53 hf_108 hL_53 ho_53 ho_108 rfl) hk_53 (by rw [hn_53]; rfl) rfl (Nat.le_of_ble_eq_true rfl) rfl
theorem r_108_96 (ls : List Value) (r : Nat) (b0 : Int32) (ws : ai_W) : ai_Run 108 96 ls [.int b0, .ref r] ws = (ai_Call 12 [.ref r, .int b0] ws).bind fun q => ai_Run 108 99 ls (q.1.toList ++ []) q.2 := R_callV hc_108 dX10_deathOf_96 hv_108 (w := 326) rfl (ai_lt3 hf_12 hf_108 hL_12 ho_12 ho_108 rfl) hk_12 (by rw [hn_12]; rfl) rfl (Nat.le_of_ble_eq_true rfl) rfl
theorem r_108_99 (ls : List Value) (x : Int32) (ws : ai_W) : ai_Run 108 99 ls [.int x] ws = some (some (.int x), ws) := R_iret hc_108 dX10_deathOf_99 ht_108
theorem r_108_100 (l1 l2 l3 : Value) (a : Nat) (st : List Value) (ws : ai_W) : ai_Run 108 100 [.ref a, l1, l2, l3] st ws = ai_Run 108 101 [.ref a, l1, l2, l3] (.ref a :: st) ws := R_aload_n hc_108 dX10_deathOf_100 rfl rfl
theorem r_108_101 (ls st : List Value) (a : Nat) (ws : ai_W) : ai_Run 108 101 ls (.ref a :: st) ws = (ai_fget ws a 10 1).bind fun q => ai_Run 108 104 ls (q :: st) ws := R_getf hc_108 dX10_deathOf_101 hv_108 (w := 656) rfl rfl
theorem r_108_104 (l0 l2 l3 : Value) (a : Int32) (st : List Value) (ws : ai_W) : ai_Run 108 104 [l0, .int a, l2, l3] st ws = ai_Run 108 105 [l0, .int a, l2, l3] (.int a :: st) ws := R_iload_n hc_108 dX10_deathOf_104 rfl rfl
theorem r_108_105 (l0 l1 l3 : Value) (a : Int32) (st : List Value) (ws : ai_W) : ai_Run 108 105 [l0, l1, .int a, l3] st ws = ai_Run 108 106 [l0, l1, .int a, l3] (.int a :: st) ws := R_iload_n hc_108 dX10_deathOf_105 rfl rfl
theorem r_108_106 (ls : List Value) (r : Nat) (b0 : Int32) (b1 : Int32) (ws : ai_W) : ai_Run 108 106 ls [.int b1, .int b0, .ref r] ws = (ai_Call 107 [.ref r, .int b0, .int b1] ws).bind fun q => ai_Run 108 109 ls (q.1.toList ++ []) q.2 := R_callV hc_108 dX10_deathOf_106 hv_108 (w := 1131) rfl (ai_lt3 hf_107 hf_108 hL_107 ho_107 ho_108 rfl) hk_107 (by rw [hn_107]; rfl) rfl (Nat.le_of_ble_eq_true rfl) rfl
theorem r_108_109 (ls : List Value) (x : Int32) (ws : ai_W) : ai_Run 108 109 ls [.int x] ws = some (some (.int x), ws) := R_iret hc_108 dX10_deathOf_109 ht_108
theorem r_108_110 (l1 l2 l3 : Value) (a : Nat) (st : List Value) (ws : ai_W) : ai_Run 108 110 [.ref a, l1, l2, l3] st ws = ai_Run 108 111 [.ref a, l1, l2, l3] (.ref a :: st) ws := R_aload_n hc_108 dX10_deathOf_110 rfl rfl
theorem r_108_111 (ls st : List Value) (a : Nat) (ws : ai_W) : ai_Run 108 111 ls (.ref a :: st) ws = (ai_fget ws a 10 0).bind fun q => ai_Run 108 114 ls (q :: st) ws := R_getf hc_108 dX10_deathOf_111 hv_108 (w := 655) rfl rfl
theorem r_108_114 (l0 l2 l3 : Value) (a : Int32) (st : List Value) (ws : ai_W) : ai_Run 108 114 [l0, .int a, l2, l3] st ws = ai_Run 108 115 [l0, .int a, l2, l3] (.int a :: st) ws := R_iload_n hc_108 dX10_deathOf_114 rfl rfl
theorem r_108_115 (l0 l1 l3 : Value) (a : Int32) (st : List Value) (ws : ai_W) : ai_Run 108 115 [l0, l1, .int a, l3] st ws = ai_Run 108 116 [l0, l1, .int a, l3] (.int a :: st) ws := R_iload_n hc_108 dX10_deathOf_115 rfl rfl
theorem r_108_116 (ls : List Value) (r : Nat) (b0 : Int32) (b1 : Int32) (ws : ai_W) : ai_Run 108 116 ls [.int b1, .int b0, .ref r] ws = (ai_Call 93 [.ref r, .int b0, .int b1] ws).bind fun q => ai_Run 108 119 ls (q.1.toList ++ []) q.2 := R_callV hc_108 dX10_deathOf_116 hv_108 (w := 1135) rfl (ai_lt3 hf_93 hf_108 hL_93 ho_93 ho_108 rfl) hk_93 (by rw [hn_93]; rfl) rfl (Nat.le_of_ble_eq_true rfl) rfl
theorem r_108_119 (ls : List Value) (x : Int32) (ws : ai_W) : ai_Run 108 119 ls [.int x] ws = some (some (.int x), ws) := R_iret hc_108 dX10_deathOf_119 ht_108
theorem r_108_120 (ls st : List Value) (ws : ai_W) : ai_Run 108 120 ls st ws = ai_Run 108 122 ls (.int (-2) :: st) ws := R_bipush hc_108 dX10_deathOf_120 (by decide) rfl
theorem r_108_122 (ls : List Value) (x : Int32) (ws : ai_W) : ai_Run 108 122 ls [.int x] ws = some (some (.int x), ws) := R_iret hc_108 dX10_deathOf_122 ht_108
theorem dX10_die_0 : decode cX10_die 0 = .ok (.aload_n 0, 1) := by decide +kernel
theorem dX10_die_1 : decode cX10_die 1 = .ok (.invokevirtual 76, 3) := by decide +kernel
theorem dX10_die_4 : decode cX10_die 4 = .ok (.aload_n 0, 1) := by decide +kernel
theorem dX10_die_5 : decode cX10_die 5 = .ok (.aload_n 0, 1) := by decide +kernel
theorem dX10_die_6 : decode cX10_die 6 = .ok (.getfield 51, 3) := by decide +kernel
theorem dX10_die_9 : decode cX10_die 9 = .ok (.iload_n 1, 1) := by decide +kernel
theorem dX10_die_10 : decode cX10_die 10 = .ok (.iload_n 2, 1) := by decide +kernel
theorem dX10_die_11 : decode cX10_die 11 = .ok (.invokevirtual 90, 3) := by decide +kernel
theorem dX10_die_14 : decode cX10_die 14 = .ok (.invokevirtual 83, 3) := by decide +kernel
theorem dX10_die_17 : decode cX10_die 17 = .ok (.ireturn, 1) := by decide +kernel
theorem e_109 (r : Nat) (a0 : Int32) (a1 : Int32) (ws : ai_W) : ai_Call 109 [.ref r, .int a0, .int a1] ws = if ai_isob ws r 10 = true then ai_Run 109 0 [.ref r, .int a0, .int a1] [] ws else none := R_entV hk_109 ⟨⟨rfl, rfl⟩, Nat.le_of_ble_eq_true rfl⟩ rfl
theorem r_109_0 (l1 l2 : Value) (a : Nat) (st : List Value) (ws : ai_W) : ai_Run 109 0 [.ref a, l1, l2] st ws = ai_Run 109 1 [.ref a, l1, l2] (.ref a :: st) ws := R_aload_n hc_109 dX10_die_0 rfl rfl
theorem r_109_1 (ls : List Value) (r : Nat) (ws : ai_W) : ai_Run 109 1 ls [.ref r] ws = (ai_Call 46 [.ref r] ws).bind fun q => ai_Run 109 4 ls (q.1.toList ++ []) q.2 := R_callV hc_109 dX10_die_1 hv_109 (w := 48) rfl (ai_lt3 hf_46 hf_109 hL_46 ho_46 ho_109 rfl) hk_46 (by rw [hn_46]; rfl) rfl (Nat.le_of_ble_eq_true rfl) rfl
theorem r_109_4 (l1 l2 : Value) (a : Nat) (st : List Value) (ws : ai_W) : ai_Run 109 4 [.ref a, l1, l2] st ws = ai_Run 109 5 [.ref a, l1, l2] (.ref a :: st) ws := R_aload_n hc_109 dX10_die_4 rfl rfl
theorem r_109_5 (l1 l2 : Value) (a : Nat) (st : List Value) (ws : ai_W) : ai_Run 109 5 [.ref a, l1, l2] st ws = ai_Run 109 6 [.ref a, l1, l2] (.ref a :: st) ws := R_aload_n hc_109 dX10_die_5 rfl rfl
theorem r_109_6 (ls st : List Value) (a : Nat) (ws : ai_W) : ai_Run 109 6 ls (.ref a :: st) ws = (ai_fget ws a 10 5).bind fun q => ai_Run 109 9 ls (q :: st) ws := R_getf hc_109 dX10_die_6 hv_109 (w := 660) rfl rfl
theorem r_109_9 (l0 l2 : Value) (a : Int32) (st : List Value) (ws : ai_W) : ai_Run 109 9 [l0, .int a, l2] st ws = ai_Run 109 10 [l0, .int a, l2] (.int a :: st) ws := R_iload_n hc_109 dX10_die_9 rfl rfl
theorem r_109_10 (l0 l1 : Value) (a : Int32) (st : List Value) (ws : ai_W) : ai_Run 109 10 [l0, l1, .int a] st ws = ai_Run 109 11 [l0, l1, .int a] (.int a :: st) ws := R_iload_n hc_109 dX10_die_10 rfl rfl
theorem r_109_11 (ls : List Value) (r : Nat) (b0 : Int32) (b1 : Int32) (s0 : Value) (ws : ai_W) : ai_Run 109 11 ls [.int b1, .int b0, .ref r, s0] ws = (ai_Call 68 [.ref r, .int b0, .int b1] ws).bind fun q => ai_Run 109 14 ls (q.1.toList ++ [s0]) q.2 := R_callV hc_109 dX10_die_11 hv_109 (w := 687) rfl (ai_lt3 hf_68 hf_109 hL_68 ho_68 ho_109 rfl) hk_68 (by rw [hn_68]; rfl) rfl (Nat.le_of_ble_eq_true rfl) rfl
theorem r_109_14 (ls : List Value) (r : Nat) (b0 : Int32) (ws : ai_W) : ai_Run 109 14 ls [.int b0, .ref r] ws = (ai_Call 51 [.ref r, .int b0] ws).bind fun q => ai_Run 109 17 ls (q.1.toList ++ []) q.2 := R_callV hc_109 dX10_die_14 hv_109 (w := 88) rfl (ai_lt3 hf_51 hf_109 hL_51 ho_51 ho_109 rfl) hk_51 (by rw [hn_51]; rfl) rfl (Nat.le_of_ble_eq_true rfl) rfl
theorem r_109_17 (ls : List Value) (x : Int32) (ws : ai_W) : ai_Run 109 17 ls [.int x] ws = some (some (.int x), ws) := R_iret hc_109 dX10_die_17 ht_109
theorem dX10_guilty_0 : decode cX10_guilty 0 = .ok (.aload_n 0, 1) := by decide +kernel
theorem dX10_guilty_1 : decode cX10_guilty 1 = .ok (.getfield 21, 3) := by decide +kernel
theorem dX10_guilty_4 : decode cX10_guilty 4 = .ok (.iload_n 1, 1) := by decide +kernel
theorem dX10_guilty_5 : decode cX10_guilty 5 = .ok (.iload_n 2, 1) := by decide +kernel
theorem dX10_guilty_6 : decode cX10_guilty 6 = .ok (.iload_n 3, 1) := by decide +kernel
theorem dX10_guilty_7 : decode cX10_guilty 7 = .ok (.invokevirtual 213, 3) := by decide +kernel
theorem dX10_guilty_10 : decode cX10_guilty 10 = .ok (.ifCond .ne 5, 3) := by decide +kernel
theorem dX10_guilty_13 : decode cX10_guilty 13 = .ok (.iconst (-1), 1) := by decide +kernel
theorem dX10_guilty_14 : decode cX10_guilty 14 = .ok (.ireturn, 1) := by decide +kernel
theorem dX10_guilty_15 : decode cX10_guilty 15 = .ok (.iload_n 1, 1) := by decide +kernel
theorem dX10_guilty_16 : decode cX10_guilty 16 = .ok (.iload_n 2, 1) := by decide +kernel
theorem dX10_guilty_17 : decode cX10_guilty 17 = .ok (.if_icmp .ne 6, 3) := by decide +kernel
theorem dX10_guilty_20 : decode cX10_guilty 20 = .ok (.bipush (-2), 2) := by decide +kernel
theorem dX10_guilty_22 : decode cX10_guilty 22 = .ok (.ireturn, 1) := by decide +kernel
theorem dX10_guilty_23 : decode cX10_guilty 23 = .ok (.aload_n 0, 1) := by decide +kernel
theorem dX10_guilty_24 : decode cX10_guilty 24 = .ok (.getfield 31, 3) := by decide +kernel
theorem dX10_guilty_27 : decode cX10_guilty 27 = .ok (.aload_n 0, 1) := by decide +kernel
theorem dX10_guilty_28 : decode cX10_guilty 28 = .ok (.getfield 27, 3) := by decide +kernel
theorem dX10_guilty_31 : decode cX10_guilty 31 = .ok (.iload_n 1, 1) := by decide +kernel
theorem dX10_guilty_32 : decode cX10_guilty 32 = .ok (.iload_n 2, 1) := by decide +kernel
theorem dX10_guilty_33 : decode cX10_guilty 33 = .ok (.iload_n 3, 1) := by decide +kernel
theorem dX10_guilty_34 : decode cX10_guilty 34 = .ok (.invokevirtual 217, 3) := by decide +kernel
theorem dX10_guilty_37 : decode cX10_guilty 37 = .ok (.invokevirtual 220, 3) := by decide +kernel
theorem dX10_guilty_40 : decode cX10_guilty 40 = .ok (.ireturn, 1) := by decide +kernel
theorem e_110 (r : Nat) (a0 : Int32) (a1 : Int32) (a2 : Int32) (ws : ai_W) : ai_Call 110 [.ref r, .int a0, .int a1, .int a2] ws = if ai_isob ws r 10 = true then ai_Run 110 0 [.ref r, .int a0, .int a1, .int a2] [] ws else none := R_entV hk_110 ⟨⟨rfl, rfl⟩, Nat.le_of_ble_eq_true rfl⟩ rfl
theorem r_110_0 (l1 l2 l3 : Value) (a : Nat) (st : List Value) (ws : ai_W) : ai_Run 110 0 [.ref a, l1, l2, l3] st ws = ai_Run 110 1 [.ref a, l1, l2, l3] (.ref a :: st) ws := R_aload_n hc_110 dX10_guilty_0 rfl rfl
theorem r_110_1 (ls st : List Value) (a : Nat) (ws : ai_W) : ai_Run 110 1 ls (.ref a :: st) ws = (ai_fget ws a 10 0).bind fun q => ai_Run 110 4 ls (q :: st) ws := R_getf hc_110 dX10_guilty_1 hv_110 (w := 655) rfl rfl
theorem r_110_4 (l0 l2 l3 : Value) (a : Int32) (st : List Value) (ws : ai_W) : ai_Run 110 4 [l0, .int a, l2, l3] st ws = ai_Run 110 5 [l0, .int a, l2, l3] (.int a :: st) ws := R_iload_n hc_110 dX10_guilty_4 rfl rfl
theorem r_110_5 (l0 l1 l3 : Value) (a : Int32) (st : List Value) (ws : ai_W) : ai_Run 110 5 [l0, l1, .int a, l3] st ws = ai_Run 110 6 [l0, l1, .int a, l3] (.int a :: st) ws := R_iload_n hc_110 dX10_guilty_5 rfl rfl
theorem r_110_6 (l0 l1 l2 : Value) (a : Int32) (st : List Value) (ws : ai_W) : ai_Run 110 6 [l0, l1, l2, .int a] st ws = ai_Run 110 7 [l0, l1, l2, .int a] (.int a :: st) ws := R_iload_n hc_110 dX10_guilty_6 rfl rfl
theorem r_110_7 (ls : List Value) (r : Nat) (b0 : Int32) (b1 : Int32) (b2 : Int32) (ws : ai_W) : ai_Run 110 7 ls [.int b2, .int b1, .int b0, .ref r] ws = (ai_Call 83 [.ref r, .int b0, .int b1, .int b2] ws).bind fun q => ai_Run 110 10 ls (q.1.toList ++ []) q.2 := R_callV hc_110 dX10_guilty_7 hv_110 (w := 206) rfl (ai_lt3 hf_83 hf_110 hL_83 ho_83 ho_110 rfl) hk_83 (by rw [hn_83]; rfl) rfl (Nat.le_of_ble_eq_true rfl) rfl
theorem r_110_10 (ls st : List Value) (a : Int32) (ws : ai_W) : ai_Run 110 10 ls (.int a :: st) ws = if a = 0 then ai_Run 110 13 ls st ws else ai_Run 110 15 ls st ws := R_if_ne hc_110 dX10_guilty_10 rfl rfl
theorem r_110_13 (ls st : List Value) (ws : ai_W) : ai_Run 110 13 ls st ws = ai_Run 110 14 ls (.int (-1) :: st) ws := R_iconst hc_110 dX10_guilty_13 (by decide) rfl
theorem r_110_14 (ls : List Value) (x : Int32) (ws : ai_W) : ai_Run 110 14 ls [.int x] ws = some (some (.int x), ws) := R_iret hc_110 dX10_guilty_14 ht_110
theorem r_110_15 (l0 l2 l3 : Value) (a : Int32) (st : List Value) (ws : ai_W) : ai_Run 110 15 [l0, .int a, l2, l3] st ws = ai_Run 110 16 [l0, .int a, l2, l3] (.int a :: st) ws := R_iload_n hc_110 dX10_guilty_15 rfl rfl
theorem r_110_16 (l0 l1 l3 : Value) (a : Int32) (st : List Value) (ws : ai_W) : ai_Run 110 16 [l0, l1, .int a, l3] st ws = ai_Run 110 17 [l0, l1, .int a, l3] (.int a :: st) ws := R_iload_n hc_110 dX10_guilty_16 rfl rfl
theorem r_110_17 (ls st : List Value) (a b : Int32) (ws : ai_W) : ai_Run 110 17 ls (.int b :: .int a :: st) ws = if a = b then ai_Run 110 20 ls st ws else ai_Run 110 23 ls st ws := R_cmp_ne hc_110 dX10_guilty_17 rfl rfl
theorem r_110_20 (ls st : List Value) (ws : ai_W) : ai_Run 110 20 ls st ws = ai_Run 110 22 ls (.int (-2) :: st) ws := R_bipush hc_110 dX10_guilty_20 (by decide) rfl
theorem r_110_22 (ls : List Value) (x : Int32) (ws : ai_W) : ai_Run 110 22 ls [.int x] ws = some (some (.int x), ws) := R_iret hc_110 dX10_guilty_22 ht_110
theorem r_110_23 (l1 l2 l3 : Value) (a : Nat) (st : List Value) (ws : ai_W) : ai_Run 110 23 [.ref a, l1, l2, l3] st ws = ai_Run 110 24 [.ref a, l1, l2, l3] (.ref a :: st) ws := R_aload_n hc_110 dX10_guilty_23 rfl rfl
theorem r_110_24 (ls st : List Value) (a : Nat) (ws : ai_W) : ai_Run 110 24 ls (.ref a :: st) ws = (ai_fget ws a 10 2).bind fun q => ai_Run 110 27 ls (q :: st) ws := R_getf hc_110 dX10_guilty_24 hv_110 (w := 657) rfl rfl
theorem r_110_27 (l1 l2 l3 : Value) (a : Nat) (st : List Value) (ws : ai_W) : ai_Run 110 27 [.ref a, l1, l2, l3] st ws = ai_Run 110 28 [.ref a, l1, l2, l3] (.ref a :: st) ws := R_aload_n hc_110 dX10_guilty_27 rfl rfl
theorem r_110_28 (ls st : List Value) (a : Nat) (ws : ai_W) : ai_Run 110 28 ls (.ref a :: st) ws = (ai_fget ws a 10 1).bind fun q => ai_Run 110 31 ls (q :: st) ws := R_getf hc_110 dX10_guilty_28 hv_110 (w := 656) rfl rfl
theorem r_110_31 (l0 l2 l3 : Value) (a : Int32) (st : List Value) (ws : ai_W) : ai_Run 110 31 [l0, .int a, l2, l3] st ws = ai_Run 110 32 [l0, .int a, l2, l3] (.int a :: st) ws := R_iload_n hc_110 dX10_guilty_31 rfl rfl
theorem r_110_32 (l0 l1 l3 : Value) (a : Int32) (st : List Value) (ws : ai_W) : ai_Run 110 32 [l0, l1, .int a, l3] st ws = ai_Run 110 33 [l0, l1, .int a, l3] (.int a :: st) ws := R_iload_n hc_110 dX10_guilty_32 rfl rfl
theorem r_110_33 (l0 l1 l2 : Value) (a : Int32) (st : List Value) (ws : ai_W) : ai_Run 110 33 [l0, l1, l2, .int a] st ws = ai_Run 110 34 [l0, l1, l2, .int a] (.int a :: st) ws := R_iload_n hc_110 dX10_guilty_33 rfl rfl
theorem r_110_34 (ls : List Value) (r : Nat) (b0 : Int32) (b1 : Int32) (b2 : Int32) (s0 : Value) (ws : ai_W) : ai_Run 110 34 ls [.int b2, .int b1, .int b0, .ref r, s0] ws = (ai_Call 86 [.ref r, .int b0, .int b1, .int b2] ws).bind fun q => ai_Run 110 37 ls (q.1.toList ++ [s0]) q.2 := R_callV hc_110 dX10_guilty_34 hv_110 (w := 216) rfl (ai_lt3 hf_86 hf_110 hL_86 ho_86 ho_110 rfl) hk_86 (by rw [hn_86]; rfl) rfl (Nat.le_of_ble_eq_true rfl) rfl
theorem r_110_37 (ls : List Value) (r : Nat) (b0 : Int32) (ws : ai_W) : ai_Run 110 37 ls [.int b0, .ref r] ws = (ai_Call 88 [.ref r, .int b0] ws).bind fun q => ai_Run 110 40 ls (q.1.toList ++ []) q.2 := R_callV hc_110 dX10_guilty_37 hv_110 (w := 239) rfl (ai_lt3 hf_88 hf_110 hL_88 ho_88 ho_110 rfl) hk_88 (by rw [hn_88]; rfl) rfl (Nat.le_of_ble_eq_true rfl) rfl
theorem r_110_40 (ls : List Value) (x : Int32) (ws : ai_W) : ai_Run 110 40 ls [.int x] ws = some (some (.int x), ws) := R_iret hc_110 dX10_guilty_40 ht_110
theorem dX10_isWell_0 : decode cX10_isWell 0 = .ok (.aload_n 0, 1) := by decide +kernel
theorem dX10_isWell_1 : decode cX10_isWell 1 = .ok (.getfield 27, 3) := by decide +kernel
theorem dX10_isWell_4 : decode cX10_isWell 4 = .ok (.invokevirtual 330, 3) := by decide +kernel
theorem dX10_isWell_7 : decode cX10_isWell 7 = .ok (.ifCond .eq 27, 3) := by decide +kernel
theorem dX10_isWell_10 : decode cX10_isWell 10 = .ok (.aload_n 0, 1) := by decide +kernel
theorem dX10_isWell_11 : decode cX10_isWell 11 = .ok (.getfield 27, 3) := by decide +kernel
theorem dX10_isWell_14 : decode cX10_isWell 14 = .ok (.invokevirtual 334, 3) := by decide +kernel
theorem dX10_isWell_17 : decode cX10_isWell 17 = .ok (.ifCond .eq 17, 3) := by decide +kernel
theorem dX10_isWell_20 : decode cX10_isWell 20 = .ok (.aload_n 0, 1) := by decide +kernel
theorem dX10_isWell_21 : decode cX10_isWell 21 = .ok (.getfield 27, 3) := by decide +kernel
theorem dX10_isWell_24 : decode cX10_isWell 24 = .ok (.invokevirtual 337, 3) := by decide +kernel
theorem dX10_isWell_27 : decode cX10_isWell 27 = .ok (.ifCond .eq 7, 3) := by decide +kernel
theorem dX10_isWell_30 : decode cX10_isWell 30 = .ok (.iconst 1, 1) := by decide +kernel
theorem dX10_isWell_31 : decode cX10_isWell 31 = .ok (.goto 4, 3) := by decide +kernel
theorem dX10_isWell_34 : decode cX10_isWell 34 = .ok (.iconst 0, 1) := by decide +kernel
theorem dX10_isWell_35 : decode cX10_isWell 35 = .ok (.ireturn, 1) := by decide +kernel
theorem e_116 (r : Nat)  (ws : ai_W) : ai_Call 116 [.ref r] ws = if ai_isob ws r 10 = true then ai_Run 116 0 [.ref r] [] ws else none := R_entV hk_116 ⟨⟨rfl, rfl⟩, Nat.le_of_ble_eq_true rfl⟩ rfl
theorem r_116_0 (a : Nat) (st : List Value) (ws : ai_W) : ai_Run 116 0 [.ref a] st ws = ai_Run 116 1 [.ref a] (.ref a :: st) ws := R_aload_n hc_116 dX10_isWell_0 rfl rfl
theorem r_116_1 (ls st : List Value) (a : Nat) (ws : ai_W) : ai_Run 116 1 ls (.ref a :: st) ws = (ai_fget ws a 10 1).bind fun q => ai_Run 116 4 ls (q :: st) ws := R_getf hc_116 dX10_isWell_1 hv_116 (w := 656) rfl rfl
theorem r_116_4 (ls : List Value) (r : Nat) (ws : ai_W) : ai_Run 116 4 ls [.ref r] ws = (ai_Call 111 [.ref r] ws).bind fun q => ai_Run 116 7 ls (q.1.toList ++ []) q.2 := R_callV hc_116 dX10_isWell_4 hv_116 (w := 1246) rfl (ai_lt3 hf_111 hf_116 hL_111 ho_111 ho_116 rfl) hk_111 (by rw [hn_111]; rfl) rfl (Nat.le_of_ble_eq_true rfl) rfl
theorem r_116_7 (ls st : List Value) (a : Int32) (ws : ai_W) : ai_Run 116 7 ls (.int a :: st) ws = if a = 0 then ai_Run 116 34 ls st ws else ai_Run 116 10 ls st ws := R_if_eq hc_116 dX10_isWell_7 rfl rfl
theorem r_116_10 (a : Nat) (st : List Value) (ws : ai_W) : ai_Run 116 10 [.ref a] st ws = ai_Run 116 11 [.ref a] (.ref a :: st) ws := R_aload_n hc_116 dX10_isWell_10 rfl rfl
theorem r_116_11 (ls st : List Value) (a : Nat) (ws : ai_W) : ai_Run 116 11 ls (.ref a :: st) ws = (ai_fget ws a 10 1).bind fun q => ai_Run 116 14 ls (q :: st) ws := R_getf hc_116 dX10_isWell_11 hv_116 (w := 656) rfl rfl
theorem r_116_14 (ls : List Value) (r : Nat) (ws : ai_W) : ai_Run 116 14 ls [.ref r] ws = (ai_Call 114 [.ref r] ws).bind fun q => ai_Run 116 17 ls (q.1.toList ++ []) q.2 := R_callV hc_116 dX10_isWell_14 hv_116 (w := 1250) rfl (ai_lt3 hf_114 hf_116 hL_114 ho_114 ho_116 rfl) hk_114 (by rw [hn_114]; rfl) rfl (Nat.le_of_ble_eq_true rfl) rfl
theorem r_116_17 (ls st : List Value) (a : Int32) (ws : ai_W) : ai_Run 116 17 ls (.int a :: st) ws = if a = 0 then ai_Run 116 34 ls st ws else ai_Run 116 20 ls st ws := R_if_eq hc_116 dX10_isWell_17 rfl rfl
theorem r_116_20 (a : Nat) (st : List Value) (ws : ai_W) : ai_Run 116 20 [.ref a] st ws = ai_Run 116 21 [.ref a] (.ref a :: st) ws := R_aload_n hc_116 dX10_isWell_20 rfl rfl
theorem r_116_21 (ls st : List Value) (a : Nat) (ws : ai_W) : ai_Run 116 21 ls (.ref a :: st) ws = (ai_fget ws a 10 1).bind fun q => ai_Run 116 24 ls (q :: st) ws := R_getf hc_116 dX10_isWell_21 hv_116 (w := 656) rfl rfl
theorem r_116_24 (ls : List Value) (r : Nat) (ws : ai_W) : ai_Run 116 24 ls [.ref r] ws = (ai_Call 115 [.ref r] ws).bind fun q => ai_Run 116 27 ls (q.1.toList ++ []) q.2 := R_callV hc_116 dX10_isWell_24 hv_116 (w := 1257) rfl (ai_lt3 hf_115 hf_116 hL_115 ho_115 ho_116 rfl) hk_115 (by rw [hn_115]; rfl) rfl (Nat.le_of_ble_eq_true rfl) rfl
theorem r_116_27 (ls st : List Value) (a : Int32) (ws : ai_W) : ai_Run 116 27 ls (.int a :: st) ws = if a = 0 then ai_Run 116 34 ls st ws else ai_Run 116 30 ls st ws := R_if_eq hc_116 dX10_isWell_27 rfl rfl
theorem r_116_30 (ls st : List Value) (ws : ai_W) : ai_Run 116 30 ls st ws = ai_Run 116 31 ls (.int 1 :: st) ws := R_iconst hc_116 dX10_isWell_30 (by decide) rfl
theorem r_116_31 (ls st : List Value) (ws : ai_W) : ai_Run 116 31 ls st ws = ai_Run 116 35 ls st ws := R_goto hc_116 dX10_isWell_31 rfl
theorem r_116_34 (ls st : List Value) (ws : ai_W) : ai_Run 116 34 ls st ws = ai_Run 116 35 ls (.int 0 :: st) ws := R_iconst hc_116 dX10_isWell_34 (by decide) rfl
theorem r_116_35 (ls : List Value) (x : Int32) (ws : ai_W) : ai_Run 116 35 ls [.int x] ws = some (some (.int x), ws) := R_iret hc_116 dX10_isWell_35 ht_116
theorem dX10_leave_0 : decode cX10_leave 0 = .ok (.aload_n 0, 1) := by decide +kernel
theorem dX10_leave_1 : decode cX10_leave 1 = .ok (.invokevirtual 76, 3) := by decide +kernel
theorem dX10_leave_4 : decode cX10_leave 4 = .ok (.aload_n 0, 1) := by decide +kernel
theorem dX10_leave_5 : decode cX10_leave 5 = .ok (.aload_n 0, 1) := by decide +kernel
theorem dX10_leave_6 : decode cX10_leave 6 = .ok (.getfield 51, 3) := by decide +kernel
theorem dX10_leave_9 : decode cX10_leave 9 = .ok (.iload_n 1, 1) := by decide +kernel
theorem dX10_leave_10 : decode cX10_leave 10 = .ok (.invokevirtual 113, 3) := by decide +kernel
theorem dX10_leave_13 : decode cX10_leave 13 = .ok (.invokevirtual 83, 3) := by decide +kernel
theorem dX10_leave_16 : decode cX10_leave 16 = .ok (.ireturn, 1) := by decide +kernel
theorem e_117 (r : Nat) (a0 : Int32) (ws : ai_W) : ai_Call 117 [.ref r, .int a0] ws = if ai_isob ws r 10 = true then ai_Run 117 0 [.ref r, .int a0] [] ws else none := R_entV hk_117 ⟨⟨rfl, rfl⟩, Nat.le_of_ble_eq_true rfl⟩ rfl
theorem r_117_0 (l1 : Value) (a : Nat) (st : List Value) (ws : ai_W) : ai_Run 117 0 [.ref a, l1] st ws = ai_Run 117 1 [.ref a, l1] (.ref a :: st) ws := R_aload_n hc_117 dX10_leave_0 rfl rfl
theorem r_117_1 (ls : List Value) (r : Nat) (ws : ai_W) : ai_Run 117 1 ls [.ref r] ws = (ai_Call 46 [.ref r] ws).bind fun q => ai_Run 117 4 ls (q.1.toList ++ []) q.2 := R_callV hc_117 dX10_leave_1 hv_117 (w := 48) rfl (ai_lt3 hf_46 hf_117 hL_46 ho_46 ho_117 rfl) hk_46 (by rw [hn_46]; rfl) rfl (Nat.le_of_ble_eq_true rfl) rfl
theorem r_117_4 (l1 : Value) (a : Nat) (st : List Value) (ws : ai_W) : ai_Run 117 4 [.ref a, l1] st ws = ai_Run 117 5 [.ref a, l1] (.ref a :: st) ws := R_aload_n hc_117 dX10_leave_4 rfl rfl
theorem r_117_5 (l1 : Value) (a : Nat) (st : List Value) (ws : ai_W) : ai_Run 117 5 [.ref a, l1] st ws = ai_Run 117 6 [.ref a, l1] (.ref a :: st) ws := R_aload_n hc_117 dX10_leave_5 rfl rfl
theorem r_117_6 (ls st : List Value) (a : Nat) (ws : ai_W) : ai_Run 117 6 ls (.ref a :: st) ws = (ai_fget ws a 10 5).bind fun q => ai_Run 117 9 ls (q :: st) ws := R_getf hc_117 dX10_leave_6 hv_117 (w := 660) rfl rfl
theorem r_117_9 (l0 : Value) (a : Int32) (st : List Value) (ws : ai_W) : ai_Run 117 9 [l0, .int a] st ws = ai_Run 117 10 [l0, .int a] (.int a :: st) ws := R_iload_n hc_117 dX10_leave_9 rfl rfl
theorem r_117_10 (ls : List Value) (r : Nat) (b0 : Int32) (s0 : Value) (ws : ai_W) : ai_Run 117 10 ls [.int b0, .ref r, s0] ws = (ai_Call 79 [.ref r, .int b0] ws).bind fun q => ai_Run 117 13 ls (q.1.toList ++ [s0]) q.2 := R_callV hc_117 dX10_leave_10 hv_117 (w := 185) rfl (ai_lt3 hf_79 hf_117 hL_79 ho_79 ho_117 rfl) hk_79 (by rw [hn_79]; rfl) rfl (Nat.le_of_ble_eq_true rfl) rfl
theorem r_117_13 (ls : List Value) (r : Nat) (b0 : Int32) (ws : ai_W) : ai_Run 117 13 ls [.int b0, .ref r] ws = (ai_Call 51 [.ref r, .int b0] ws).bind fun q => ai_Run 117 16 ls (q.1.toList ++ []) q.2 := R_callV hc_117 dX10_leave_13 hv_117 (w := 88) rfl (ai_lt3 hf_51 hf_117 hL_51 ho_51 ho_117 rfl) hk_51 (by rw [hn_51]; rfl) rfl (Nat.le_of_ble_eq_true rfl) rfl
theorem r_117_16 (ls : List Value) (x : Int32) (ws : ai_W) : ai_Run 117 16 ls [.int x] ws = some (some (.int x), ws) := R_iret hc_117 dX10_leave_16 ht_117
theorem dX10_motive_0 : decode cX10_motive 0 = .ok (.aload_n 0, 1) := by decide +kernel
theorem dX10_motive_1 : decode cX10_motive 1 = .ok (.invokevirtual 76, 3) := by decide +kernel
theorem dX10_motive_4 : decode cX10_motive 4 = .ok (.aload_n 0, 1) := by decide +kernel
theorem dX10_motive_5 : decode cX10_motive 5 = .ok (.aload_n 0, 1) := by decide +kernel
theorem dX10_motive_6 : decode cX10_motive 6 = .ok (.getfield 51, 3) := by decide +kernel
theorem dX10_motive_9 : decode cX10_motive 9 = .ok (.iload_n 1, 1) := by decide +kernel
theorem dX10_motive_10 : decode cX10_motive 10 = .ok (.iload_n 2, 1) := by decide +kernel
theorem dX10_motive_11 : decode cX10_motive 11 = .ok (.iload_n 3, 1) := by decide +kernel
theorem dX10_motive_12 : decode cX10_motive 12 = .ok (.invokevirtual 106, 3) := by decide +kernel
theorem dX10_motive_15 : decode cX10_motive 15 = .ok (.invokevirtual 83, 3) := by decide +kernel
theorem dX10_motive_18 : decode cX10_motive 18 = .ok (.ireturn, 1) := by decide +kernel
theorem e_118 (r : Nat) (a0 : Int32) (a1 : Int32) (a2 : Int32) (ws : ai_W) : ai_Call 118 [.ref r, .int a0, .int a1, .int a2] ws = if ai_isob ws r 10 = true then ai_Run 118 0 [.ref r, .int a0, .int a1, .int a2] [] ws else none := R_entV hk_118 ⟨⟨rfl, rfl⟩, Nat.le_of_ble_eq_true rfl⟩ rfl
theorem r_118_0 (l1 l2 l3 : Value) (a : Nat) (st : List Value) (ws : ai_W) : ai_Run 118 0 [.ref a, l1, l2, l3] st ws = ai_Run 118 1 [.ref a, l1, l2, l3] (.ref a :: st) ws := R_aload_n hc_118 dX10_motive_0 rfl rfl
theorem r_118_1 (ls : List Value) (r : Nat) (ws : ai_W) : ai_Run 118 1 ls [.ref r] ws = (ai_Call 46 [.ref r] ws).bind fun q => ai_Run 118 4 ls (q.1.toList ++ []) q.2 := R_callV hc_118 dX10_motive_1 hv_118 (w := 48) rfl (ai_lt3 hf_46 hf_118 hL_46 ho_46 ho_118 rfl) hk_46 (by rw [hn_46]; rfl) rfl (Nat.le_of_ble_eq_true rfl) rfl
theorem r_118_4 (l1 l2 l3 : Value) (a : Nat) (st : List Value) (ws : ai_W) : ai_Run 118 4 [.ref a, l1, l2, l3] st ws = ai_Run 118 5 [.ref a, l1, l2, l3] (.ref a :: st) ws := R_aload_n hc_118 dX10_motive_4 rfl rfl
theorem r_118_5 (l1 l2 l3 : Value) (a : Nat) (st : List Value) (ws : ai_W) : ai_Run 118 5 [.ref a, l1, l2, l3] st ws = ai_Run 118 6 [.ref a, l1, l2, l3] (.ref a :: st) ws := R_aload_n hc_118 dX10_motive_5 rfl rfl
theorem r_118_6 (ls st : List Value) (a : Nat) (ws : ai_W) : ai_Run 118 6 ls (.ref a :: st) ws = (ai_fget ws a 10 5).bind fun q => ai_Run 118 9 ls (q :: st) ws := R_getf hc_118 dX10_motive_6 hv_118 (w := 660) rfl rfl
theorem r_118_9 (l0 l2 l3 : Value) (a : Int32) (st : List Value) (ws : ai_W) : ai_Run 118 9 [l0, .int a, l2, l3] st ws = ai_Run 118 10 [l0, .int a, l2, l3] (.int a :: st) ws := R_iload_n hc_118 dX10_motive_9 rfl rfl
theorem r_118_10 (l0 l1 l3 : Value) (a : Int32) (st : List Value) (ws : ai_W) : ai_Run 118 10 [l0, l1, .int a, l3] st ws = ai_Run 118 11 [l0, l1, .int a, l3] (.int a :: st) ws := R_iload_n hc_118 dX10_motive_10 rfl rfl
theorem r_118_11 (l0 l1 l2 : Value) (a : Int32) (st : List Value) (ws : ai_W) : ai_Run 118 11 [l0, l1, l2, .int a] st ws = ai_Run 118 12 [l0, l1, l2, .int a] (.int a :: st) ws := R_iload_n hc_118 dX10_motive_11 rfl rfl
theorem r_118_12 (ls : List Value) (r : Nat) (b0 : Int32) (b1 : Int32) (b2 : Int32) (s0 : Value) (ws : ai_W) : ai_Run 118 12 ls [.int b2, .int b1, .int b0, .ref r, s0] ws = (ai_Call 77 [.ref r, .int b0, .int b1, .int b2] ws).bind fun q => ai_Run 118 15 ls (q.1.toList ++ [s0]) q.2 := R_callV hc_118 dX10_motive_12 hv_118 (w := 173) rfl (ai_lt3 hf_77 hf_118 hL_77 ho_77 ho_118 rfl) hk_77 (by rw [hn_77]; rfl) rfl (Nat.le_of_ble_eq_true rfl) rfl
theorem r_118_15 (ls : List Value) (r : Nat) (b0 : Int32) (ws : ai_W) : ai_Run 118 15 ls [.int b0, .ref r] ws = (ai_Call 51 [.ref r, .int b0] ws).bind fun q => ai_Run 118 18 ls (q.1.toList ++ []) q.2 := R_callV hc_118 dX10_motive_15 hv_118 (w := 88) rfl (ai_lt3 hf_51 hf_118 hL_51 ho_51 ho_118 rfl) hk_51 (by rw [hn_51]; rfl) rfl (Nat.le_of_ble_eq_true rfl) rfl
theorem r_118_18 (ls : List Value) (x : Int32) (ws : ai_W) : ai_Run 118 18 ls [.int x] ws = some (some (.int x), ws) := R_iret hc_118 dX10_motive_18 ht_118
theorem dX10_pages_0 : decode cX10_pages 0 = .ok (.aload_n 0, 1) := by decide +kernel
theorem dX10_pages_1 : decode cX10_pages 1 = .ok (.getfield 21, 3) := by decide +kernel
theorem dX10_pages_4 : decode cX10_pages 4 = .ok (.iload_n 1, 1) := by decide +kernel
theorem dX10_pages_5 : decode cX10_pages 5 = .ok (.invokevirtual 119, 3) := by decide +kernel
theorem dX10_pages_8 : decode cX10_pages 8 = .ok (.ifCond .eq 14, 3) := by decide +kernel
theorem dX10_pages_11 : decode cX10_pages 11 = .ok (.aload_n 0, 1) := by decide +kernel
theorem dX10_pages_12 : decode cX10_pages 12 = .ok (.getfield 21, 3) := by decide +kernel
theorem dX10_pages_15 : decode cX10_pages 15 = .ok (.iload_n 2, 1) := by decide +kernel
theorem dX10_pages_16 : decode cX10_pages 16 = .ok (.invokevirtual 119, 3) := by decide +kernel
theorem dX10_pages_19 : decode cX10_pages 19 = .ok (.ifCond .ne 5, 3) := by decide +kernel
theorem dX10_pages_22 : decode cX10_pages 22 = .ok (.iconst (-1), 1) := by decide +kernel
theorem dX10_pages_23 : decode cX10_pages 23 = .ok (.ireturn, 1) := by decide +kernel
theorem dX10_pages_24 : decode cX10_pages 24 = .ok (.aload_n 0, 1) := by decide +kernel
theorem dX10_pages_25 : decode cX10_pages 25 = .ok (.getfield 21, 3) := by decide +kernel
theorem dX10_pages_28 : decode cX10_pages 28 = .ok (.iload_n 1, 1) := by decide +kernel
theorem dX10_pages_29 : decode cX10_pages 29 = .ok (.iload_n 2, 1) := by decide +kernel
theorem dX10_pages_30 : decode cX10_pages 30 = .ok (.invokevirtual 184, 3) := by decide +kernel
theorem dX10_pages_33 : decode cX10_pages 33 = .ok (.ireturn, 1) := by decide +kernel
theorem e_119 (r : Nat) (a0 : Int32) (a1 : Int32) (ws : ai_W) : ai_Call 119 [.ref r, .int a0, .int a1] ws = if ai_isob ws r 10 = true then ai_Run 119 0 [.ref r, .int a0, .int a1] [] ws else none := R_entV hk_119 ⟨⟨rfl, rfl⟩, Nat.le_of_ble_eq_true rfl⟩ rfl
theorem r_119_0 (l1 l2 : Value) (a : Nat) (st : List Value) (ws : ai_W) : ai_Run 119 0 [.ref a, l1, l2] st ws = ai_Run 119 1 [.ref a, l1, l2] (.ref a :: st) ws := R_aload_n hc_119 dX10_pages_0 rfl rfl
theorem r_119_1 (ls st : List Value) (a : Nat) (ws : ai_W) : ai_Run 119 1 ls (.ref a :: st) ws = (ai_fget ws a 10 0).bind fun q => ai_Run 119 4 ls (q :: st) ws := R_getf hc_119 dX10_pages_1 hv_119 (w := 655) rfl rfl
theorem r_119_4 (l0 l2 : Value) (a : Int32) (st : List Value) (ws : ai_W) : ai_Run 119 4 [l0, .int a, l2] st ws = ai_Run 119 5 [l0, .int a, l2] (.int a :: st) ws := R_iload_n hc_119 dX10_pages_4 rfl rfl
theorem r_119_5 (ls : List Value) (r : Nat) (b0 : Int32) (ws : ai_W) : ai_Run 119 5 ls [.int b0, .ref r] ws = (ai_Call 62 [.ref r, .int b0] ws).bind fun q => ai_Run 119 8 ls (q.1.toList ++ []) q.2 := R_callV hc_119 dX10_pages_5 hv_119 (w := 311) rfl (ai_lt3 hf_62 hf_119 hL_62 ho_62 ho_119 rfl) hk_62 (by rw [hn_62]; rfl) rfl (Nat.le_of_ble_eq_true rfl) rfl
theorem r_119_8 (ls st : List Value) (a : Int32) (ws : ai_W) : ai_Run 119 8 ls (.int a :: st) ws = if a = 0 then ai_Run 119 22 ls st ws else ai_Run 119 11 ls st ws := R_if_eq hc_119 dX10_pages_8 rfl rfl
theorem r_119_11 (l1 l2 : Value) (a : Nat) (st : List Value) (ws : ai_W) : ai_Run 119 11 [.ref a, l1, l2] st ws = ai_Run 119 12 [.ref a, l1, l2] (.ref a :: st) ws := R_aload_n hc_119 dX10_pages_11 rfl rfl
theorem r_119_12 (ls st : List Value) (a : Nat) (ws : ai_W) : ai_Run 119 12 ls (.ref a :: st) ws = (ai_fget ws a 10 0).bind fun q => ai_Run 119 15 ls (q :: st) ws := R_getf hc_119 dX10_pages_12 hv_119 (w := 655) rfl rfl
theorem r_119_15 (l0 l1 : Value) (a : Int32) (st : List Value) (ws : ai_W) : ai_Run 119 15 [l0, l1, .int a] st ws = ai_Run 119 16 [l0, l1, .int a] (.int a :: st) ws := R_iload_n hc_119 dX10_pages_15 rfl rfl
theorem r_119_16 (ls : List Value) (r : Nat) (b0 : Int32) (ws : ai_W) : ai_Run 119 16 ls [.int b0, .ref r] ws = (ai_Call 62 [.ref r, .int b0] ws).bind fun q => ai_Run 119 19 ls (q.1.toList ++ []) q.2 := R_callV hc_119 dX10_pages_16 hv_119 (w := 311) rfl (ai_lt3 hf_62 hf_119 hL_62 ho_62 ho_119 rfl) hk_62 (by rw [hn_62]; rfl) rfl (Nat.le_of_ble_eq_true rfl) rfl
theorem r_119_19 (ls st : List Value) (a : Int32) (ws : ai_W) : ai_Run 119 19 ls (.int a :: st) ws = if a = 0 then ai_Run 119 22 ls st ws else ai_Run 119 24 ls st ws := R_if_ne hc_119 dX10_pages_19 rfl rfl
theorem r_119_22 (ls st : List Value) (ws : ai_W) : ai_Run 119 22 ls st ws = ai_Run 119 23 ls (.int (-1) :: st) ws := R_iconst hc_119 dX10_pages_22 (by decide) rfl
theorem r_119_23 (ls : List Value) (x : Int32) (ws : ai_W) : ai_Run 119 23 ls [.int x] ws = some (some (.int x), ws) := R_iret hc_119 dX10_pages_23 ht_119
theorem r_119_24 (l1 l2 : Value) (a : Nat) (st : List Value) (ws : ai_W) : ai_Run 119 24 [.ref a, l1, l2] st ws = ai_Run 119 25 [.ref a, l1, l2] (.ref a :: st) ws := R_aload_n hc_119 dX10_pages_24 rfl rfl
theorem r_119_25 (ls st : List Value) (a : Nat) (ws : ai_W) : ai_Run 119 25 ls (.ref a :: st) ws = (ai_fget ws a 10 0).bind fun q => ai_Run 119 28 ls (q :: st) ws := R_getf hc_119 dX10_pages_25 hv_119 (w := 655) rfl rfl
theorem r_119_28 (l0 l2 : Value) (a : Int32) (st : List Value) (ws : ai_W) : ai_Run 119 28 [l0, .int a, l2] st ws = ai_Run 119 29 [l0, .int a, l2] (.int a :: st) ws := R_iload_n hc_119 dX10_pages_28 rfl rfl
theorem r_119_29 (l0 l1 : Value) (a : Int32) (st : List Value) (ws : ai_W) : ai_Run 119 29 [l0, l1, .int a] st ws = ai_Run 119 30 [l0, l1, .int a] (.int a :: st) ws := R_iload_n hc_119 dX10_pages_29 rfl rfl
theorem r_119_30 (ls : List Value) (r : Nat) (b0 : Int32) (b1 : Int32) (ws : ai_W) : ai_Run 119 30 ls [.int b1, .int b0, .ref r] ws = (ai_Call 76 [.ref r, .int b0, .int b1] ws).bind fun q => ai_Run 119 33 ls (q.1.toList ++ []) q.2 := R_callV hc_119 dX10_pages_30 hv_119 (w := 1140) rfl (ai_lt3 hf_76 hf_119 hL_76 ho_76 ho_119 rfl) hk_76 (by rw [hn_76]; rfl) rfl (Nat.le_of_ble_eq_true rfl) rfl
theorem r_119_33 (ls : List Value) (x : Int32) (ws : ai_W) : ai_Run 119 33 ls [.int x] ws = some (some (.int x), ws) := R_iret hc_119 dX10_pages_33 ht_119
theorem dX10_ranked_0 : decode cX10_ranked 0 = .ok (.iload_n 1, 1) := by decide +kernel
theorem dX10_ranked_1 : decode cX10_ranked 1 = .ok (.ifCond .lt 8, 3) := by decide +kernel
theorem dX10_ranked_4 : decode cX10_ranked 4 = .ok (.iload_n 1, 1) := by decide +kernel
theorem dX10_ranked_5 : decode cX10_ranked 5 = .ok (.iconst 4, 1) := by decide +kernel
theorem dX10_ranked_6 : decode cX10_ranked 6 = .ok (.if_icmp .lt 6, 3) := by decide +kernel
theorem dX10_ranked_9 : decode cX10_ranked 9 = .ok (.bipush (-2), 2) := by decide +kernel
theorem dX10_ranked_11 : decode cX10_ranked 11 = .ok (.ireturn, 1) := by decide +kernel
theorem dX10_ranked_12 : decode cX10_ranked 12 = .ok (.aload_n 0, 1) := by decide +kernel
theorem dX10_ranked_13 : decode cX10_ranked 13 = .ok (.getfield 38, 3) := by decide +kernel
theorem dX10_ranked_16 : decode cX10_ranked 16 = .ok (.iload_n 1, 1) := by decide +kernel
theorem dX10_ranked_17 : decode cX10_ranked 17 = .ok (.iload_n 2, 1) := by decide +kernel
theorem dX10_ranked_18 : decode cX10_ranked 18 = .ok (.invokevirtual 232, 3) := by decide +kernel
theorem dX10_ranked_21 : decode cX10_ranked 21 = .ok (.ireturn, 1) := by decide +kernel
theorem e_123 (r : Nat) (a0 : Int32) (a1 : Int32) (ws : ai_W) : ai_Call 123 [.ref r, .int a0, .int a1] ws = if ai_isob ws r 10 = true then ai_Run 123 0 [.ref r, .int a0, .int a1] [] ws else none := R_entV hk_123 ⟨⟨rfl, rfl⟩, Nat.le_of_ble_eq_true rfl⟩ rfl
theorem r_123_0 (l0 l2 : Value) (a : Int32) (st : List Value) (ws : ai_W) : ai_Run 123 0 [l0, .int a, l2] st ws = ai_Run 123 1 [l0, .int a, l2] (.int a :: st) ws := R_iload_n hc_123 dX10_ranked_0 rfl rfl
theorem r_123_1 (ls st : List Value) (a : Int32) (ws : ai_W) : ai_Run 123 1 ls (.int a :: st) ws = if a < 0 then ai_Run 123 9 ls st ws else ai_Run 123 4 ls st ws := R_if_lt hc_123 dX10_ranked_1 rfl rfl
theorem r_123_4 (l0 l2 : Value) (a : Int32) (st : List Value) (ws : ai_W) : ai_Run 123 4 [l0, .int a, l2] st ws = ai_Run 123 5 [l0, .int a, l2] (.int a :: st) ws := R_iload_n hc_123 dX10_ranked_4 rfl rfl
theorem r_123_5 (ls st : List Value) (ws : ai_W) : ai_Run 123 5 ls st ws = ai_Run 123 6 ls (.int 4 :: st) ws := R_iconst hc_123 dX10_ranked_5 (by decide) rfl
theorem r_123_6 (ls st : List Value) (a b : Int32) (ws : ai_W) : ai_Run 123 6 ls (.int b :: .int a :: st) ws = if a < b then ai_Run 123 12 ls st ws else ai_Run 123 9 ls st ws := R_cmp_lt hc_123 dX10_ranked_6 rfl rfl
theorem r_123_9 (ls st : List Value) (ws : ai_W) : ai_Run 123 9 ls st ws = ai_Run 123 11 ls (.int (-2) :: st) ws := R_bipush hc_123 dX10_ranked_9 (by decide) rfl
theorem r_123_11 (ls : List Value) (x : Int32) (ws : ai_W) : ai_Run 123 11 ls [.int x] ws = some (some (.int x), ws) := R_iret hc_123 dX10_ranked_11 ht_123
theorem r_123_12 (l1 l2 : Value) (a : Nat) (st : List Value) (ws : ai_W) : ai_Run 123 12 [.ref a, l1, l2] st ws = ai_Run 123 13 [.ref a, l1, l2] (.ref a :: st) ws := R_aload_n hc_123 dX10_ranked_12 rfl rfl
theorem r_123_13 (ls st : List Value) (a : Nat) (ws : ai_W) : ai_Run 123 13 ls (.ref a :: st) ws = (ai_fget ws a 10 3).bind fun q => ai_Run 123 16 ls (q :: st) ws := R_getf hc_123 dX10_ranked_13 hv_123 (w := 658) rfl rfl
theorem r_123_16 (l0 l2 : Value) (a : Int32) (st : List Value) (ws : ai_W) : ai_Run 123 16 [l0, .int a, l2] st ws = ai_Run 123 17 [l0, .int a, l2] (.int a :: st) ws := R_iload_n hc_123 dX10_ranked_16 rfl rfl
theorem r_123_17 (l0 l1 : Value) (a : Int32) (st : List Value) (ws : ai_W) : ai_Run 123 17 [l0, l1, .int a] st ws = ai_Run 123 18 [l0, l1, .int a] (.int a :: st) ws := R_iload_n hc_123 dX10_ranked_17 rfl rfl
theorem r_123_18 (ls : List Value) (r : Nat) (b0 : Int32) (b1 : Int32) (ws : ai_W) : ai_Run 123 18 ls [.int b1, .int b0, .ref r] ws = (ai_Call 122 [.ref r, .int b0, .int b1] ws).bind fun q => ai_Run 123 21 ls (q.1.toList ++ []) q.2 := R_callV hc_123 dX10_ranked_18 hv_123 (w := 266) rfl (ai_lt3 hf_122 hf_123 hL_122 ho_122 ho_123 rfl) hk_122 (by rw [hn_122]; rfl) rfl (Nat.le_of_ble_eq_true rfl) rfl
theorem r_123_21 (ls : List Value) (x : Int32) (ws : ai_W) : ai_Run 123 21 ls [.int x] ws = some (some (.int x), ws) := R_iret hc_123 dX10_ranked_21 ht_123
theorem dX10_read_0 : decode cX10_read 0 = .ok (.aload_n 0, 1) := by decide +kernel
theorem dX10_read_1 : decode cX10_read 1 = .ok (.getfield 65, 3) := by decide +kernel
theorem dX10_read_4 : decode cX10_read 4 = .ok (.invokevirtual 273, 3) := by decide +kernel
theorem dX10_read_7 : decode cX10_read 7 = .ok (.istore_n 1, 1) := by decide +kernel
theorem dX10_read_8 : decode cX10_read 8 = .ok (.aload_n 0, 1) := by decide +kernel
theorem dX10_read_9 : decode cX10_read 9 = .ok (.getfield 65, 3) := by decide +kernel
theorem dX10_read_12 : decode cX10_read 12 = .ok (.invokevirtual 276, 3) := by decide +kernel
theorem dX10_read_15 : decode cX10_read 15 = .ok (.iload_n 1, 1) := by decide +kernel
theorem dX10_read_16 : decode cX10_read 16 = .ok (.iconst (-1), 1) := by decide +kernel
theorem dX10_read_17 : decode cX10_read 17 = .ok (.if_icmp .eq 8, 3) := by decide +kernel
theorem dX10_read_20 : decode cX10_read 20 = .ok (.bipush (-100), 2) := by decide +kernel
theorem dX10_read_22 : decode cX10_read 22 = .ok (.iload_n 1, 1) := by decide +kernel
theorem dX10_read_23 : decode cX10_read 23 = .ok (.isub, 1) := by decide +kernel
theorem dX10_read_24 : decode cX10_read 24 = .ok (.ireturn, 1) := by decide +kernel
theorem dX10_read_25 : decode cX10_read 25 = .ok (.aload_n 0, 1) := by decide +kernel
theorem dX10_read_26 : decode cX10_read 26 = .ok (.getfield 58, 3) := by decide +kernel
theorem dX10_read_29 : decode cX10_read 29 = .ok (.aload_n 0, 1) := by decide +kernel
theorem dX10_read_30 : decode cX10_read 30 = .ok (.getfield 21, 3) := by decide +kernel
theorem dX10_read_33 : decode cX10_read 33 = .ok (.invokevirtual 277, 3) := by decide +kernel
theorem dX10_read_36 : decode cX10_read 36 = .ok (.aload_n 0, 1) := by decide +kernel
theorem dX10_read_37 : decode cX10_read 37 = .ok (.getfield 65, 3) := by decide +kernel
theorem dX10_read_40 : decode cX10_read 40 = .ok (.invokevirtual 280, 3) := by decide +kernel
theorem dX10_read_43 : decode cX10_read 43 = .ok (.istore_n 2, 1) := by decide +kernel
theorem dX10_read_44 : decode cX10_read 44 = .ok (.iconst 0, 1) := by decide +kernel
theorem dX10_read_45 : decode cX10_read 45 = .ok (.istore_n 3, 1) := by decide +kernel
theorem dX10_read_46 : decode cX10_read 46 = .ok (.iload_n 3, 1) := by decide +kernel
theorem dX10_read_47 : decode cX10_read 47 = .ok (.iload_n 2, 1) := by decide +kernel
theorem dX10_read_48 : decode cX10_read 48 = .ok (.if_icmp .ge 58, 3) := by decide +kernel
theorem dX10_read_51 : decode cX10_read 51 = .ok (.aload_n 0, 1) := by decide +kernel
theorem dX10_read_52 : decode cX10_read 52 = .ok (.getfield 42, 3) := by decide +kernel
theorem dX10_read_55 : decode cX10_read 55 = .ok (.iload_n 3, 1) := by decide +kernel
theorem dX10_read_56 : decode cX10_read 56 = .ok (.invokevirtual 283, 3) := by decide +kernel
theorem dX10_read_59 : decode cX10_read 59 = .ok (.aload_n 0, 1) := by decide +kernel
theorem dX10_read_60 : decode cX10_read 60 = .ok (.iload_n 3, 1) := by decide +kernel
theorem dX10_read_61 : decode cX10_read 61 = .ok (.invokevirtual 286, 3) := by decide +kernel
theorem dX10_read_64 : decode cX10_read 64 = .ok (.istore 4, 2) := by decide +kernel
theorem dX10_read_66 : decode cX10_read 66 = .ok (.iload 4, 2) := by decide +kernel
theorem dX10_read_68 : decode cX10_read 68 = .ok (.invokestatic 289, 3) := by decide +kernel
theorem dX10_read_71 : decode cX10_read 71 = .ok (.ifCond .eq 29, 3) := by decide +kernel
theorem dX10_read_74 : decode cX10_read 74 = .ok (.aload_n 0, 1) := by decide +kernel
theorem dX10_read_75 : decode cX10_read 75 = .ok (.getfield 58, 3) := by decide +kernel
theorem dX10_read_78 : decode cX10_read 78 = .ok (.aload_n 0, 1) := by decide +kernel
theorem dX10_read_79 : decode cX10_read 79 = .ok (.getfield 21, 3) := by decide +kernel
theorem dX10_read_82 : decode cX10_read 82 = .ok (.invokevirtual 292, 3) := by decide +kernel
theorem dX10_read_85 : decode cX10_read 85 = .ok (.iload 4, 2) := by decide +kernel
theorem dX10_read_87 : decode cX10_read 87 = .ok (.bipush (-3), 2) := by decide +kernel
theorem dX10_read_89 : decode cX10_read 89 = .ok (.if_icmp .ne 8, 3) := by decide +kernel
theorem dX10_read_92 : decode cX10_read 92 = .ok (.bipush (-3), 2) := by decide +kernel
theorem dX10_read_94 : decode cX10_read 94 = .ok (.goto 5, 3) := by decide +kernel
theorem dX10_read_97 : decode cX10_read 97 = .ok (.bipush (-2), 2) := by decide +kernel
theorem dX10_read_99 : decode cX10_read 99 = .ok (.ireturn, 1) := by decide +kernel
theorem dX10_read_100 : decode cX10_read 100 = .ok (.iinc 3 1, 3) := by decide +kernel
theorem dX10_read_103 : decode cX10_read 103 = .ok (.goto (-57), 3) := by decide +kernel
theorem dX10_read_106 : decode cX10_read 106 = .ok (.aload_n 0, 1) := by decide +kernel
theorem dX10_read_107 : decode cX10_read 107 = .ok (.getfield 58, 3) := by decide +kernel
theorem dX10_read_110 : decode cX10_read 110 = .ok (.invokevirtual 295, 3) := by decide +kernel
theorem dX10_read_113 : decode cX10_read 113 = .ok (.iload_n 2, 1) := by decide +kernel
theorem dX10_read_114 : decode cX10_read 114 = .ok (.ireturn, 1) := by decide +kernel
theorem e_137 (r : Nat)  (ws : ai_W) : ai_Call 137 [.ref r] ws = if ai_isob ws r 10 = true then ai_Run 137 0 [.ref r, .null, .null, .null, .null] [] ws else none := R_entV hk_137 ⟨⟨rfl, rfl⟩, Nat.le_of_ble_eq_true rfl⟩ rfl
theorem r_137_0 (l1 l2 l3 l4 : Value) (a : Nat) (st : List Value) (ws : ai_W) : ai_Run 137 0 [.ref a, l1, l2, l3, l4] st ws = ai_Run 137 1 [.ref a, l1, l2, l3, l4] (.ref a :: st) ws := R_aload_n hc_137 dX10_read_0 rfl rfl
theorem r_137_1 (ls st : List Value) (a : Nat) (ws : ai_W) : ai_Run 137 1 ls (.ref a :: st) ws = (ai_fget ws a 10 7).bind fun q => ai_Run 137 4 ls (q :: st) ws := R_getf hc_137 dX10_read_1 hv_137 (w := 662) rfl rfl
theorem r_137_4 (ls : List Value) (r : Nat) (ws : ai_W) : ai_Run 137 4 ls [.ref r] ws = (ai_Call 133 [.ref r] ws).bind fun q => ai_Run 137 7 ls (q.1.toList ++ []) q.2 := R_callV hc_137 dX10_read_4 hv_137 (w := 1038) rfl (ai_lt3 hf_133 hf_137 hL_133 ho_133 ho_137 rfl) hk_133 (by rw [hn_133]; rfl) rfl (Nat.le_of_ble_eq_true rfl) rfl
theorem r_137_7 (l0 l1 l2 l3 l4 : Value) (a : Int32) (st : List Value) (ws : ai_W) : ai_Run 137 7 [l0, l1, l2, l3, l4] (.int a :: st) ws = ai_Run 137 8 [l0, .int a, l2, l3, l4] st ws := R_istore_n hc_137 dX10_read_7 (Nat.le_of_ble_eq_true rfl) rfl rfl
theorem r_137_8 (l1 l2 l3 l4 : Value) (a : Nat) (st : List Value) (ws : ai_W) : ai_Run 137 8 [.ref a, l1, l2, l3, l4] st ws = ai_Run 137 9 [.ref a, l1, l2, l3, l4] (.ref a :: st) ws := R_aload_n hc_137 dX10_read_8 rfl rfl
theorem r_137_9 (ls st : List Value) (a : Nat) (ws : ai_W) : ai_Run 137 9 ls (.ref a :: st) ws = (ai_fget ws a 10 7).bind fun q => ai_Run 137 12 ls (q :: st) ws := R_getf hc_137 dX10_read_9 hv_137 (w := 662) rfl rfl
theorem r_137_12 (ls : List Value) (r : Nat) (ws : ai_W) : ai_Run 137 12 ls [.ref r] ws = (ai_Call 134 [.ref r] ws).bind fun q => ai_Run 137 15 ls (q.1.toList ++ []) q.2 := R_callV hc_137 dX10_read_12 hv_137 (w := 1078) rfl (ai_lt3 hf_134 hf_137 hL_134 ho_134 ho_137 rfl) hk_134 (by rw [hn_134]; rfl) rfl (Nat.le_of_ble_eq_true rfl) rfl
theorem r_137_15 (l0 l2 l3 l4 : Value) (a : Int32) (st : List Value) (ws : ai_W) : ai_Run 137 15 [l0, .int a, l2, l3, l4] st ws = ai_Run 137 16 [l0, .int a, l2, l3, l4] (.int a :: st) ws := R_iload_n hc_137 dX10_read_15 rfl rfl
theorem r_137_16 (ls st : List Value) (ws : ai_W) : ai_Run 137 16 ls st ws = ai_Run 137 17 ls (.int (-1) :: st) ws := R_iconst hc_137 dX10_read_16 (by decide) rfl
theorem r_137_17 (ls st : List Value) (a b : Int32) (ws : ai_W) : ai_Run 137 17 ls (.int b :: .int a :: st) ws = if a = b then ai_Run 137 25 ls st ws else ai_Run 137 20 ls st ws := R_cmp_eq hc_137 dX10_read_17 rfl rfl
theorem r_137_20 (ls st : List Value) (ws : ai_W) : ai_Run 137 20 ls st ws = ai_Run 137 22 ls (.int (-100) :: st) ws := R_bipush hc_137 dX10_read_20 (by decide) rfl
theorem r_137_22 (l0 l2 l3 l4 : Value) (a : Int32) (st : List Value) (ws : ai_W) : ai_Run 137 22 [l0, .int a, l2, l3, l4] st ws = ai_Run 137 23 [l0, .int a, l2, l3, l4] (.int a :: st) ws := R_iload_n hc_137 dX10_read_22 rfl rfl
theorem r_137_23 (ls st : List Value) (a b : Int32) (ws : ai_W) : ai_Run 137 23 ls (.int b :: .int a :: st) ws = ai_Run 137 24 ls (.int (a - b) :: st) ws := R_isub hc_137 dX10_read_23 rfl
theorem r_137_24 (ls : List Value) (x : Int32) (ws : ai_W) : ai_Run 137 24 ls [.int x] ws = some (some (.int x), ws) := R_iret hc_137 dX10_read_24 ht_137
theorem r_137_25 (l1 l2 l3 l4 : Value) (a : Nat) (st : List Value) (ws : ai_W) : ai_Run 137 25 [.ref a, l1, l2, l3, l4] st ws = ai_Run 137 26 [.ref a, l1, l2, l3, l4] (.ref a :: st) ws := R_aload_n hc_137 dX10_read_25 rfl rfl
theorem r_137_26 (ls st : List Value) (a : Nat) (ws : ai_W) : ai_Run 137 26 ls (.ref a :: st) ws = (ai_fget ws a 10 6).bind fun q => ai_Run 137 29 ls (q :: st) ws := R_getf hc_137 dX10_read_26 hv_137 (w := 661) rfl rfl
theorem r_137_29 (l1 l2 l3 l4 : Value) (a : Nat) (st : List Value) (ws : ai_W) : ai_Run 137 29 [.ref a, l1, l2, l3, l4] st ws = ai_Run 137 30 [.ref a, l1, l2, l3, l4] (.ref a :: st) ws := R_aload_n hc_137 dX10_read_29 rfl rfl
theorem r_137_30 (ls st : List Value) (a : Nat) (ws : ai_W) : ai_Run 137 30 ls (.ref a :: st) ws = (ai_fget ws a 10 0).bind fun q => ai_Run 137 33 ls (q :: st) ws := R_getf hc_137 dX10_read_30 hv_137 (w := 655) rfl rfl
theorem r_137_33 (ls : List Value) (r : Nat) (b0 : Nat) (ws : ai_W) : ai_Run 137 33 ls [.ref b0, .ref r] ws = (ai_Call 45 [.ref r, .ref b0] ws).bind fun q => ai_Run 137 36 ls (q.1.toList ++ []) q.2 := R_callV hc_137 dX10_read_33 hv_137 (w := 57) rfl (ai_lt3 hf_45 hf_137 hL_45 ho_45 ho_137 rfl) hk_45 (by rw [hn_45]; rfl) rfl (Nat.le_of_ble_eq_true rfl) rfl
theorem r_137_36 (l1 l2 l3 l4 : Value) (a : Nat) (st : List Value) (ws : ai_W) : ai_Run 137 36 [.ref a, l1, l2, l3, l4] st ws = ai_Run 137 37 [.ref a, l1, l2, l3, l4] (.ref a :: st) ws := R_aload_n hc_137 dX10_read_36 rfl rfl
theorem r_137_37 (ls st : List Value) (a : Nat) (ws : ai_W) : ai_Run 137 37 ls (.ref a :: st) ws = (ai_fget ws a 10 7).bind fun q => ai_Run 137 40 ls (q :: st) ws := R_getf hc_137 dX10_read_37 hv_137 (w := 662) rfl rfl
theorem r_137_40 (ls : List Value) (r : Nat) (ws : ai_W) : ai_Run 137 40 ls [.ref r] ws = (ai_Call 135 [.ref r] ws).bind fun q => ai_Run 137 43 ls (q.1.toList ++ []) q.2 := R_callV hc_137 dX10_read_40 hv_137 (w := 1082) rfl (ai_lt3 hf_135 hf_137 hL_135 ho_135 ho_137 rfl) hk_135 (by rw [hn_135]; rfl) rfl (Nat.le_of_ble_eq_true rfl) rfl
theorem r_137_43 (l0 l1 l2 l3 l4 : Value) (a : Int32) (st : List Value) (ws : ai_W) : ai_Run 137 43 [l0, l1, l2, l3, l4] (.int a :: st) ws = ai_Run 137 44 [l0, l1, .int a, l3, l4] st ws := R_istore_n hc_137 dX10_read_43 (Nat.le_of_ble_eq_true rfl) rfl rfl
theorem r_137_44 (ls st : List Value) (ws : ai_W) : ai_Run 137 44 ls st ws = ai_Run 137 45 ls (.int 0 :: st) ws := R_iconst hc_137 dX10_read_44 (by decide) rfl
theorem r_137_45 (l0 l1 l2 l3 l4 : Value) (a : Int32) (st : List Value) (ws : ai_W) : ai_Run 137 45 [l0, l1, l2, l3, l4] (.int a :: st) ws = ai_Run 137 46 [l0, l1, l2, .int a, l4] st ws := R_istore_n hc_137 dX10_read_45 (Nat.le_of_ble_eq_true rfl) rfl rfl
theorem r_137_46 (l0 l1 l2 l4 : Value) (a : Int32) (st : List Value) (ws : ai_W) : ai_Run 137 46 [l0, l1, l2, .int a, l4] st ws = ai_Run 137 47 [l0, l1, l2, .int a, l4] (.int a :: st) ws := R_iload_n hc_137 dX10_read_46 rfl rfl
theorem r_137_47 (l0 l1 l3 l4 : Value) (a : Int32) (st : List Value) (ws : ai_W) : ai_Run 137 47 [l0, l1, .int a, l3, l4] st ws = ai_Run 137 48 [l0, l1, .int a, l3, l4] (.int a :: st) ws := R_iload_n hc_137 dX10_read_47 rfl rfl
theorem r_137_48 (ls st : List Value) (a b : Int32) (ws : ai_W) : ai_Run 137 48 ls (.int b :: .int a :: st) ws = if a < b then ai_Run 137 51 ls st ws else ai_Run 137 106 ls st ws := R_cmp_ge hc_137 dX10_read_48 rfl rfl
theorem r_137_51 (l1 l2 l3 l4 : Value) (a : Nat) (st : List Value) (ws : ai_W) : ai_Run 137 51 [.ref a, l1, l2, l3, l4] st ws = ai_Run 137 52 [.ref a, l1, l2, l3, l4] (.ref a :: st) ws := R_aload_n hc_137 dX10_read_51 rfl rfl
theorem r_137_52 (ls st : List Value) (a : Nat) (ws : ai_W) : ai_Run 137 52 ls (.ref a :: st) ws = (ai_fget ws a 10 4).bind fun q => ai_Run 137 55 ls (q :: st) ws := R_getf hc_137 dX10_read_52 hv_137 (w := 659) rfl rfl
theorem r_137_55 (l0 l1 l2 l4 : Value) (a : Int32) (st : List Value) (ws : ai_W) : ai_Run 137 55 [l0, l1, l2, .int a, l4] st ws = ai_Run 137 56 [l0, l1, l2, .int a, l4] (.int a :: st) ws := R_iload_n hc_137 dX10_read_55 rfl rfl
theorem r_137_56 (ls : List Value) (r : Nat) (b0 : Int32) (ws : ai_W) : ai_Run 137 56 ls [.int b0, .ref r] ws = (ai_Call 40 [.ref r, .int b0] ws).bind fun q => ai_Run 137 59 ls (q.1.toList ++ []) q.2 := R_callV hc_137 dX10_read_56 hv_137 (w := 53) rfl (ai_lt3 hf_40 hf_137 hL_40 ho_40 ho_137 rfl) hk_40 (by rw [hn_40]; rfl) rfl (Nat.le_of_ble_eq_true rfl) rfl
theorem r_137_59 (l1 l2 l3 l4 : Value) (a : Nat) (st : List Value) (ws : ai_W) : ai_Run 137 59 [.ref a, l1, l2, l3, l4] st ws = ai_Run 137 60 [.ref a, l1, l2, l3, l4] (.ref a :: st) ws := R_aload_n hc_137 dX10_read_59 rfl rfl
theorem r_137_60 (l0 l1 l2 l4 : Value) (a : Int32) (st : List Value) (ws : ai_W) : ai_Run 137 60 [l0, l1, l2, .int a, l4] st ws = ai_Run 137 61 [l0, l1, l2, .int a, l4] (.int a :: st) ws := R_iload_n hc_137 dX10_read_60 rfl rfl
theorem r_137_61 (ls : List Value) (r : Nat) (b0 : Int32) (ws : ai_W) : ai_Run 137 61 ls [.int b0, .ref r] ws = (ai_Call 91 [.ref r, .int b0] ws).bind fun q => ai_Run 137 64 ls (q.1.toList ++ []) q.2 := R_callV hc_137 dX10_read_61 hv_137 (w := 1086) rfl (ai_lt3 hf_91 hf_137 hL_91 ho_91 ho_137 rfl) hk_91 (by rw [hn_91]; rfl) rfl (Nat.le_of_ble_eq_true rfl) rfl
theorem r_137_64 (l0 l1 l2 l3 l4 : Value) (a : Int32) (st : List Value) (ws : ai_W) : ai_Run 137 64 [l0, l1, l2, l3, l4] (.int a :: st) ws = ai_Run 137 66 [l0, l1, l2, l3, .int a] st ws := R_istore hc_137 dX10_read_64 (Nat.le_of_ble_eq_true rfl) rfl rfl
theorem r_137_66 (l0 l1 l2 l3 : Value) (a : Int32) (st : List Value) (ws : ai_W) : ai_Run 137 66 [l0, l1, l2, l3, .int a] st ws = ai_Run 137 68 [l0, l1, l2, l3, .int a] (.int a :: st) ws := R_iload hc_137 dX10_read_66 rfl rfl
theorem r_137_68 (ls : List Value) (b0 : Int32) (ws : ai_W) : ai_Run 137 68 ls [.int b0] ws = (ai_Call 49 [.int b0] ws).bind fun q => ai_Run 137 71 ls (q.1.toList ++ []) q.2 := R_callS hc_137 dX10_read_68 hv_137 (w := 92) rfl (ai_lt3 hf_49 hf_137 hL_49 ho_49 ho_137 rfl) hk_49 (by rw [hn_49]; rfl) rfl (Nat.le_of_ble_eq_true rfl) rfl
theorem r_137_71 (ls st : List Value) (a : Int32) (ws : ai_W) : ai_Run 137 71 ls (.int a :: st) ws = if a = 0 then ai_Run 137 100 ls st ws else ai_Run 137 74 ls st ws := R_if_eq hc_137 dX10_read_71 rfl rfl
theorem r_137_74 (l1 l2 l3 l4 : Value) (a : Nat) (st : List Value) (ws : ai_W) : ai_Run 137 74 [.ref a, l1, l2, l3, l4] st ws = ai_Run 137 75 [.ref a, l1, l2, l3, l4] (.ref a :: st) ws := R_aload_n hc_137 dX10_read_74 rfl rfl
theorem r_137_75 (ls st : List Value) (a : Nat) (ws : ai_W) : ai_Run 137 75 ls (.ref a :: st) ws = (ai_fget ws a 10 6).bind fun q => ai_Run 137 78 ls (q :: st) ws := R_getf hc_137 dX10_read_75 hv_137 (w := 661) rfl rfl
theorem r_137_78 (l1 l2 l3 l4 : Value) (a : Nat) (st : List Value) (ws : ai_W) : ai_Run 137 78 [.ref a, l1, l2, l3, l4] st ws = ai_Run 137 79 [.ref a, l1, l2, l3, l4] (.ref a :: st) ws := R_aload_n hc_137 dX10_read_78 rfl rfl
theorem r_137_79 (ls st : List Value) (a : Nat) (ws : ai_W) : ai_Run 137 79 ls (.ref a :: st) ws = (ai_fget ws a 10 0).bind fun q => ai_Run 137 82 ls (q :: st) ws := R_getf hc_137 dX10_read_79 hv_137 (w := 655) rfl rfl
theorem r_137_82 (ls : List Value) (r : Nat) (b0 : Nat) (ws : ai_W) : ai_Run 137 82 ls [.ref b0, .ref r] ws = (ai_Call 136 [.ref r, .ref b0] ws).bind fun q => ai_Run 137 85 ls (q.1.toList ++ []) q.2 := R_callV hc_137 dX10_read_82 hv_137 (w := 1098) rfl (ai_lt3 hf_136 hf_137 hL_136 ho_136 ho_137 rfl) hk_136 (by rw [hn_136]; rfl) rfl (Nat.le_of_ble_eq_true rfl) rfl
theorem r_137_85 (l0 l1 l2 l3 : Value) (a : Int32) (st : List Value) (ws : ai_W) : ai_Run 137 85 [l0, l1, l2, l3, .int a] st ws = ai_Run 137 87 [l0, l1, l2, l3, .int a] (.int a :: st) ws := R_iload hc_137 dX10_read_85 rfl rfl
theorem r_137_87 (ls st : List Value) (ws : ai_W) : ai_Run 137 87 ls st ws = ai_Run 137 89 ls (.int (-3) :: st) ws := R_bipush hc_137 dX10_read_87 (by decide) rfl
theorem r_137_89 (ls st : List Value) (a b : Int32) (ws : ai_W) : ai_Run 137 89 ls (.int b :: .int a :: st) ws = if a = b then ai_Run 137 92 ls st ws else ai_Run 137 97 ls st ws := R_cmp_ne hc_137 dX10_read_89 rfl rfl
theorem r_137_92 (ls st : List Value) (ws : ai_W) : ai_Run 137 92 ls st ws = ai_Run 137 94 ls (.int (-3) :: st) ws := R_bipush hc_137 dX10_read_92 (by decide) rfl
theorem r_137_94 (ls st : List Value) (ws : ai_W) : ai_Run 137 94 ls st ws = ai_Run 137 99 ls st ws := R_goto hc_137 dX10_read_94 rfl
theorem r_137_97 (ls st : List Value) (ws : ai_W) : ai_Run 137 97 ls st ws = ai_Run 137 99 ls (.int (-2) :: st) ws := R_bipush hc_137 dX10_read_97 (by decide) rfl
theorem r_137_99 (ls : List Value) (x : Int32) (ws : ai_W) : ai_Run 137 99 ls [.int x] ws = some (some (.int x), ws) := R_iret hc_137 dX10_read_99 ht_137
theorem r_137_100 (l0 l1 l2 l4 : Value) (a : Int32) (st : List Value) (ws : ai_W) : ai_Run 137 100 [l0, l1, l2, .int a, l4] st ws = ai_Run 137 103 [l0, l1, l2, .int (a + 1), l4] st ws := R_iinc hc_137 dX10_read_100 rfl (by decide) rfl rfl
theorem r_137_103 (ls st : List Value) (ws : ai_W) : ai_Run 137 103 ls st ws = ai_Run 137 46 ls st ws := R_goto hc_137 dX10_read_103 rfl
theorem r_137_106 (l1 l2 l3 l4 : Value) (a : Nat) (st : List Value) (ws : ai_W) : ai_Run 137 106 [.ref a, l1, l2, l3, l4] st ws = ai_Run 137 107 [.ref a, l1, l2, l3, l4] (.ref a :: st) ws := R_aload_n hc_137 dX10_read_106 rfl rfl
theorem r_137_107 (ls st : List Value) (a : Nat) (ws : ai_W) : ai_Run 137 107 ls (.ref a :: st) ws = (ai_fget ws a 10 6).bind fun q => ai_Run 137 110 ls (q :: st) ws := R_getf hc_137 dX10_read_107 hv_137 (w := 661) rfl rfl
theorem r_137_110 (ls : List Value) (r : Nat) (ws : ai_W) : ai_Run 137 110 ls [.ref r] ws = (ai_Call 50 [.ref r] ws).bind fun q => ai_Run 137 113 ls (q.1.toList ++ []) q.2 := R_callV hc_137 dX10_read_110 hv_137 (w := 95) rfl (ai_lt3 hf_50 hf_137 hL_50 ho_50 ho_137 rfl) hk_50 (by rw [hn_50]; rfl) rfl (Nat.le_of_ble_eq_true rfl) rfl
theorem r_137_113 (l0 l1 l3 l4 : Value) (a : Int32) (st : List Value) (ws : ai_W) : ai_Run 137 113 [l0, l1, .int a, l3, l4] st ws = ai_Run 137 114 [l0, l1, .int a, l3, l4] (.int a :: st) ws := R_iload_n hc_137 dX10_read_113 rfl rfl
theorem r_137_114 (ls : List Value) (x : Int32) (ws : ai_W) : ai_Run 137 114 ls [.int x] ws = some (some (.int x), ws) := R_iret hc_137 dX10_read_114 ht_137
theorem dX10_restore_0 : decode cX10_restore 0 = .ok (.aload_n 0, 1) := by decide +kernel
theorem dX10_restore_1 : decode cX10_restore 1 = .ok (.getfield 58, 3) := by decide +kernel
theorem dX10_restore_4 : decode cX10_restore 4 = .ok (.aload_n 0, 1) := by decide +kernel
theorem dX10_restore_5 : decode cX10_restore 5 = .ok (.getfield 21, 3) := by decide +kernel
theorem dX10_restore_8 : decode cX10_restore 8 = .ok (.invokevirtual 351, 3) := by decide +kernel
theorem dX10_restore_11 : decode cX10_restore 11 = .ok (.ifCond .eq 13, 3) := by decide +kernel
theorem dX10_restore_14 : decode cX10_restore 14 = .ok (.aload_n 0, 1) := by decide +kernel
theorem dX10_restore_15 : decode cX10_restore 15 = .ok (.getfield 21, 3) := by decide +kernel
theorem dX10_restore_18 : decode cX10_restore 18 = .ok (.getfield 301, 3) := by decide +kernel
theorem dX10_restore_21 : decode cX10_restore 21 = .ok (.goto 5, 3) := by decide +kernel
theorem dX10_restore_24 : decode cX10_restore 24 = .ok (.bipush (-4), 2) := by decide +kernel
theorem dX10_restore_26 : decode cX10_restore 26 = .ok (.ireturn, 1) := by decide +kernel
theorem e_139 (r : Nat)  (ws : ai_W) : ai_Call 139 [.ref r] ws = if ai_isob ws r 10 = true then ai_Run 139 0 [.ref r] [] ws else none := R_entV hk_139 ⟨⟨rfl, rfl⟩, Nat.le_of_ble_eq_true rfl⟩ rfl
theorem r_139_0 (a : Nat) (st : List Value) (ws : ai_W) : ai_Run 139 0 [.ref a] st ws = ai_Run 139 1 [.ref a] (.ref a :: st) ws := R_aload_n hc_139 dX10_restore_0 rfl rfl
theorem r_139_1 (ls st : List Value) (a : Nat) (ws : ai_W) : ai_Run 139 1 ls (.ref a :: st) ws = (ai_fget ws a 10 6).bind fun q => ai_Run 139 4 ls (q :: st) ws := R_getf hc_139 dX10_restore_1 hv_139 (w := 661) rfl rfl
theorem r_139_4 (a : Nat) (st : List Value) (ws : ai_W) : ai_Run 139 4 [.ref a] st ws = ai_Run 139 5 [.ref a] (.ref a :: st) ws := R_aload_n hc_139 dX10_restore_4 rfl rfl
theorem r_139_5 (ls st : List Value) (a : Nat) (ws : ai_W) : ai_Run 139 5 ls (.ref a :: st) ws = (ai_fget ws a 10 0).bind fun q => ai_Run 139 8 ls (q :: st) ws := R_getf hc_139 dX10_restore_5 hv_139 (w := 655) rfl rfl
theorem r_139_8 (ls : List Value) (r : Nat) (b0 : Nat) (ws : ai_W) : ai_Run 139 8 ls [.ref b0, .ref r] ws = (ai_Call 138 [.ref r, .ref b0] ws).bind fun q => ai_Run 139 11 ls (q.1.toList ++ []) q.2 := R_callV hc_139 dX10_restore_8 hv_139 (w := 417) rfl (ai_lt3 hf_138 hf_139 hL_138 ho_138 ho_139 rfl) hk_138 (by rw [hn_138]; rfl) rfl (Nat.le_of_ble_eq_true rfl) rfl
theorem r_139_11 (ls st : List Value) (a : Int32) (ws : ai_W) : ai_Run 139 11 ls (.int a :: st) ws = if a = 0 then ai_Run 139 24 ls st ws else ai_Run 139 14 ls st ws := R_if_eq hc_139 dX10_restore_11 rfl rfl
theorem r_139_14 (a : Nat) (st : List Value) (ws : ai_W) : ai_Run 139 14 [.ref a] st ws = ai_Run 139 15 [.ref a] (.ref a :: st) ws := R_aload_n hc_139 dX10_restore_14 rfl rfl
theorem r_139_15 (ls st : List Value) (a : Nat) (ws : ai_W) : ai_Run 139 15 ls (.ref a :: st) ws = (ai_fget ws a 10 0).bind fun q => ai_Run 139 18 ls (q :: st) ws := R_getf hc_139 dX10_restore_15 hv_139 (w := 655) rfl rfl
theorem r_139_18 (ls st : List Value) (a : Nat) (ws : ai_W) : ai_Run 139 18 ls (.ref a :: st) ws = (ai_fget ws a 0 0).bind fun q => ai_Run 139 21 ls (q :: st) ws := R_getf hc_139 dX10_restore_18 hv_139 (w := 467) rfl rfl
theorem r_139_21 (ls st : List Value) (ws : ai_W) : ai_Run 139 21 ls st ws = ai_Run 139 26 ls st ws := R_goto hc_139 dX10_restore_21 rfl
theorem r_139_24 (ls st : List Value) (ws : ai_W) : ai_Run 139 24 ls st ws = ai_Run 139 26 ls (.int (-4) :: st) ws := R_bipush hc_139 dX10_restore_24 (by decide) rfl
theorem r_139_26 (ls : List Value) (x : Int32) (ws : ai_W) : ai_Run 139 26 ls [.int x] ws = some (some (.int x), ws) := R_iret hc_139 dX10_restore_26 ht_139
theorem dX10_rise_0 : decode cX10_rise 0 = .ok (.aload_n 0, 1) := by decide +kernel
theorem dX10_rise_1 : decode cX10_rise 1 = .ok (.invokevirtual 76, 3) := by decide +kernel
theorem dX10_rise_4 : decode cX10_rise 4 = .ok (.aload_n 0, 1) := by decide +kernel
theorem dX10_rise_5 : decode cX10_rise 5 = .ok (.aload_n 0, 1) := by decide +kernel
theorem dX10_rise_6 : decode cX10_rise 6 = .ok (.getfield 51, 3) := by decide +kernel
theorem dX10_rise_9 : decode cX10_rise 9 = .ok (.iload_n 1, 1) := by decide +kernel
theorem dX10_rise_10 : decode cX10_rise 10 = .ok (.iload_n 2, 1) := by decide +kernel
theorem dX10_rise_11 : decode cX10_rise 11 = .ok (.invokevirtual 94, 3) := by decide +kernel
theorem dX10_rise_14 : decode cX10_rise 14 = .ok (.invokevirtual 83, 3) := by decide +kernel
theorem dX10_rise_17 : decode cX10_rise 17 = .ok (.ireturn, 1) := by decide +kernel
theorem e_140 (r : Nat) (a0 : Int32) (a1 : Int32) (ws : ai_W) : ai_Call 140 [.ref r, .int a0, .int a1] ws = if ai_isob ws r 10 = true then ai_Run 140 0 [.ref r, .int a0, .int a1] [] ws else none := R_entV hk_140 ⟨⟨rfl, rfl⟩, Nat.le_of_ble_eq_true rfl⟩ rfl
theorem r_140_0 (l1 l2 : Value) (a : Nat) (st : List Value) (ws : ai_W) : ai_Run 140 0 [.ref a, l1, l2] st ws = ai_Run 140 1 [.ref a, l1, l2] (.ref a :: st) ws := R_aload_n hc_140 dX10_rise_0 rfl rfl
theorem r_140_1 (ls : List Value) (r : Nat) (ws : ai_W) : ai_Run 140 1 ls [.ref r] ws = (ai_Call 46 [.ref r] ws).bind fun q => ai_Run 140 4 ls (q.1.toList ++ []) q.2 := R_callV hc_140 dX10_rise_1 hv_140 (w := 48) rfl (ai_lt3 hf_46 hf_140 hL_46 ho_46 ho_140 rfl) hk_46 (by rw [hn_46]; rfl) rfl (Nat.le_of_ble_eq_true rfl) rfl
theorem r_140_4 (l1 l2 : Value) (a : Nat) (st : List Value) (ws : ai_W) : ai_Run 140 4 [.ref a, l1, l2] st ws = ai_Run 140 5 [.ref a, l1, l2] (.ref a :: st) ws := R_aload_n hc_140 dX10_rise_4 rfl rfl
theorem r_140_5 (l1 l2 : Value) (a : Nat) (st : List Value) (ws : ai_W) : ai_Run 140 5 [.ref a, l1, l2] st ws = ai_Run 140 6 [.ref a, l1, l2] (.ref a :: st) ws := R_aload_n hc_140 dX10_rise_5 rfl rfl
theorem r_140_6 (ls st : List Value) (a : Nat) (ws : ai_W) : ai_Run 140 6 ls (.ref a :: st) ws = (ai_fget ws a 10 5).bind fun q => ai_Run 140 9 ls (q :: st) ws := R_getf hc_140 dX10_rise_6 hv_140 (w := 660) rfl rfl
theorem r_140_9 (l0 l2 : Value) (a : Int32) (st : List Value) (ws : ai_W) : ai_Run 140 9 [l0, .int a, l2] st ws = ai_Run 140 10 [l0, .int a, l2] (.int a :: st) ws := R_iload_n hc_140 dX10_rise_9 rfl rfl
theorem r_140_10 (l0 l1 : Value) (a : Int32) (st : List Value) (ws : ai_W) : ai_Run 140 10 [l0, l1, .int a] st ws = ai_Run 140 11 [l0, l1, .int a] (.int a :: st) ws := R_iload_n hc_140 dX10_rise_10 rfl rfl
theorem r_140_11 (ls : List Value) (r : Nat) (b0 : Int32) (b1 : Int32) (s0 : Value) (ws : ai_W) : ai_Run 140 11 ls [.int b1, .int b0, .ref r, s0] ws = (ai_Call 69 [.ref r, .int b0, .int b1] ws).bind fun q => ai_Run 140 14 ls (q.1.toList ++ [s0]) q.2 := R_callV hc_140 dX10_rise_11 hv_140 (w := 104) rfl (ai_lt3 hf_69 hf_140 hL_69 ho_69 ho_140 rfl) hk_69 (by rw [hn_69]; rfl) rfl (Nat.le_of_ble_eq_true rfl) rfl
theorem r_140_14 (ls : List Value) (r : Nat) (b0 : Int32) (ws : ai_W) : ai_Run 140 14 ls [.int b0, .ref r] ws = (ai_Call 51 [.ref r, .int b0] ws).bind fun q => ai_Run 140 17 ls (q.1.toList ++ []) q.2 := R_callV hc_140 dX10_rise_14 hv_140 (w := 88) rfl (ai_lt3 hf_51 hf_140 hL_51 ho_51 ho_140 rfl) hk_51 (by rw [hn_51]; rfl) rfl (Nat.le_of_ble_eq_true rfl) rfl
theorem r_140_17 (ls : List Value) (x : Int32) (ws : ai_W) : ai_Run 140 17 ls [.int x] ws = some (some (.int x), ws) := R_iret hc_140 dX10_rise_17 ht_140
theorem dX10_save_0 : decode cX10_save 0 = .ok (.aload_n 0, 1) := by decide +kernel
theorem dX10_save_1 : decode cX10_save 1 = .ok (.getfield 58, 3) := by decide +kernel
theorem dX10_save_4 : decode cX10_save 4 = .ok (.aload_n 0, 1) := by decide +kernel
theorem dX10_save_5 : decode cX10_save 5 = .ok (.getfield 21, 3) := by decide +kernel
theorem dX10_save_8 : decode cX10_save 8 = .ok (.invokevirtual 348, 3) := by decide +kernel
theorem dX10_save_11 : decode cX10_save 11 = .ok (.aload_n 0, 1) := by decide +kernel
theorem dX10_save_12 : decode cX10_save 12 = .ok (.getfield 21, 3) := by decide +kernel
theorem dX10_save_15 : decode cX10_save 15 = .ok (.getfield 301, 3) := by decide +kernel
theorem dX10_save_18 : decode cX10_save 18 = .ok (.ireturn, 1) := by decide +kernel
theorem e_142 (r : Nat)  (ws : ai_W) : ai_Call 142 [.ref r] ws = if ai_isob ws r 10 = true then ai_Run 142 0 [.ref r] [] ws else none := R_entV hk_142 ⟨⟨rfl, rfl⟩, Nat.le_of_ble_eq_true rfl⟩ rfl
theorem r_142_0 (a : Nat) (st : List Value) (ws : ai_W) : ai_Run 142 0 [.ref a] st ws = ai_Run 142 1 [.ref a] (.ref a :: st) ws := R_aload_n hc_142 dX10_save_0 rfl rfl
theorem r_142_1 (ls st : List Value) (a : Nat) (ws : ai_W) : ai_Run 142 1 ls (.ref a :: st) ws = (ai_fget ws a 10 6).bind fun q => ai_Run 142 4 ls (q :: st) ws := R_getf hc_142 dX10_save_1 hv_142 (w := 661) rfl rfl
theorem r_142_4 (a : Nat) (st : List Value) (ws : ai_W) : ai_Run 142 4 [.ref a] st ws = ai_Run 142 5 [.ref a] (.ref a :: st) ws := R_aload_n hc_142 dX10_save_4 rfl rfl
theorem r_142_5 (ls st : List Value) (a : Nat) (ws : ai_W) : ai_Run 142 5 ls (.ref a :: st) ws = (ai_fget ws a 10 0).bind fun q => ai_Run 142 8 ls (q :: st) ws := R_getf hc_142 dX10_save_5 hv_142 (w := 655) rfl rfl
theorem r_142_8 (ls : List Value) (r : Nat) (b0 : Nat) (ws : ai_W) : ai_Run 142 8 ls [.ref b0, .ref r] ws = (ai_Call 141 [.ref r, .ref b0] ws).bind fun q => ai_Run 142 11 ls (q.1.toList ++ []) q.2 := R_callV hc_142 dX10_save_8 hv_142 (w := 409) rfl (ai_lt3 hf_141 hf_142 hL_141 ho_141 ho_142 rfl) hk_141 (by rw [hn_141]; rfl) rfl (Nat.le_of_ble_eq_true rfl) rfl
theorem r_142_11 (a : Nat) (st : List Value) (ws : ai_W) : ai_Run 142 11 [.ref a] st ws = ai_Run 142 12 [.ref a] (.ref a :: st) ws := R_aload_n hc_142 dX10_save_11 rfl rfl
theorem r_142_12 (ls st : List Value) (a : Nat) (ws : ai_W) : ai_Run 142 12 ls (.ref a :: st) ws = (ai_fget ws a 10 0).bind fun q => ai_Run 142 15 ls (q :: st) ws := R_getf hc_142 dX10_save_12 hv_142 (w := 655) rfl rfl
theorem r_142_15 (ls st : List Value) (a : Nat) (ws : ai_W) : ai_Run 142 15 ls (.ref a :: st) ws = (ai_fget ws a 0 0).bind fun q => ai_Run 142 18 ls (q :: st) ws := R_getf hc_142 dX10_save_15 hv_142 (w := 467) rfl rfl
theorem r_142_18 (ls : List Value) (x : Int32) (ws : ai_W) : ai_Run 142 18 ls [.int x] ws = some (some (.int x), ws) := R_iret hc_142 dX10_save_18 ht_142
theorem dX10_seat_0 : decode cX10_seat 0 = .ok (.aload_n 0, 1) := by decide +kernel
theorem dX10_seat_1 : decode cX10_seat 1 = .ok (.invokevirtual 76, 3) := by decide +kernel
theorem dX10_seat_4 : decode cX10_seat 4 = .ok (.aload_n 0, 1) := by decide +kernel
theorem dX10_seat_5 : decode cX10_seat 5 = .ok (.aload_n 0, 1) := by decide +kernel
theorem dX10_seat_6 : decode cX10_seat 6 = .ok (.getfield 51, 3) := by decide +kernel
theorem dX10_seat_9 : decode cX10_seat 9 = .ok (.iload_n 1, 1) := by decide +kernel
theorem dX10_seat_10 : decode cX10_seat 10 = .ok (.iload_n 2, 1) := by decide +kernel
theorem dX10_seat_11 : decode cX10_seat 11 = .ok (.invokevirtual 110, 3) := by decide +kernel
theorem dX10_seat_14 : decode cX10_seat 14 = .ok (.invokevirtual 83, 3) := by decide +kernel
theorem dX10_seat_17 : decode cX10_seat 17 = .ok (.ireturn, 1) := by decide +kernel
theorem e_143 (r : Nat) (a0 : Int32) (a1 : Int32) (ws : ai_W) : ai_Call 143 [.ref r, .int a0, .int a1] ws = if ai_isob ws r 10 = true then ai_Run 143 0 [.ref r, .int a0, .int a1] [] ws else none := R_entV hk_143 ⟨⟨rfl, rfl⟩, Nat.le_of_ble_eq_true rfl⟩ rfl
theorem r_143_0 (l1 l2 : Value) (a : Nat) (st : List Value) (ws : ai_W) : ai_Run 143 0 [.ref a, l1, l2] st ws = ai_Run 143 1 [.ref a, l1, l2] (.ref a :: st) ws := R_aload_n hc_143 dX10_seat_0 rfl rfl
theorem r_143_1 (ls : List Value) (r : Nat) (ws : ai_W) : ai_Run 143 1 ls [.ref r] ws = (ai_Call 46 [.ref r] ws).bind fun q => ai_Run 143 4 ls (q.1.toList ++ []) q.2 := R_callV hc_143 dX10_seat_1 hv_143 (w := 48) rfl (ai_lt3 hf_46 hf_143 hL_46 ho_46 ho_143 rfl) hk_46 (by rw [hn_46]; rfl) rfl (Nat.le_of_ble_eq_true rfl) rfl
theorem r_143_4 (l1 l2 : Value) (a : Nat) (st : List Value) (ws : ai_W) : ai_Run 143 4 [.ref a, l1, l2] st ws = ai_Run 143 5 [.ref a, l1, l2] (.ref a :: st) ws := R_aload_n hc_143 dX10_seat_4 rfl rfl
theorem r_143_5 (l1 l2 : Value) (a : Nat) (st : List Value) (ws : ai_W) : ai_Run 143 5 [.ref a, l1, l2] st ws = ai_Run 143 6 [.ref a, l1, l2] (.ref a :: st) ws := R_aload_n hc_143 dX10_seat_5 rfl rfl
theorem r_143_6 (ls st : List Value) (a : Nat) (ws : ai_W) : ai_Run 143 6 ls (.ref a :: st) ws = (ai_fget ws a 10 5).bind fun q => ai_Run 143 9 ls (q :: st) ws := R_getf hc_143 dX10_seat_6 hv_143 (w := 660) rfl rfl
theorem r_143_9 (l0 l2 : Value) (a : Int32) (st : List Value) (ws : ai_W) : ai_Run 143 9 [l0, .int a, l2] st ws = ai_Run 143 10 [l0, .int a, l2] (.int a :: st) ws := R_iload_n hc_143 dX10_seat_9 rfl rfl
theorem r_143_10 (l0 l1 : Value) (a : Int32) (st : List Value) (ws : ai_W) : ai_Run 143 10 [l0, l1, .int a] st ws = ai_Run 143 11 [l0, l1, .int a] (.int a :: st) ws := R_iload_n hc_143 dX10_seat_10 rfl rfl
theorem r_143_11 (ls : List Value) (r : Nat) (b0 : Int32) (b1 : Int32) (s0 : Value) (ws : ai_W) : ai_Run 143 11 ls [.int b1, .int b0, .ref r, s0] ws = (ai_Call 81 [.ref r, .int b0, .int b1] ws).bind fun q => ai_Run 143 14 ls (q.1.toList ++ [s0]) q.2 := R_callV hc_143 dX10_seat_11 hv_143 (w := 711) rfl (ai_lt3 hf_81 hf_143 hL_81 ho_81 ho_143 rfl) hk_81 (by rw [hn_81]; rfl) rfl (Nat.le_of_ble_eq_true rfl) rfl
theorem r_143_14 (ls : List Value) (r : Nat) (b0 : Int32) (ws : ai_W) : ai_Run 143 14 ls [.int b0, .ref r] ws = (ai_Call 51 [.ref r, .int b0] ws).bind fun q => ai_Run 143 17 ls (q.1.toList ++ []) q.2 := R_callV hc_143 dX10_seat_14 hv_143 (w := 88) rfl (ai_lt3 hf_51 hf_143 hL_51 ho_51 ho_143 rfl) hk_51 (by rw [hn_51]; rfl) rfl (Nat.le_of_ble_eq_true rfl) rfl
theorem r_143_17 (ls : List Value) (x : Int32) (ws : ai_W) : ai_Run 143 17 ls [.int x] ws = some (some (.int x), ws) := R_iret hc_143 dX10_seat_17 ht_143
theorem dX10_share_0 : decode cX10_share 0 = .ok (.aload_n 0, 1) := by decide +kernel
theorem dX10_share_1 : decode cX10_share 1 = .ok (.getfield 38, 3) := by decide +kernel
theorem dX10_share_4 : decode cX10_share 4 = .ok (.invokevirtual 308, 3) := by decide +kernel
theorem dX10_share_7 : decode cX10_share 7 = .ok (.istore_n 1, 1) := by decide +kernel
theorem dX10_share_8 : decode cX10_share 8 = .ok (.iload_n 1, 1) := by decide +kernel
theorem dX10_share_9 : decode cX10_share 9 = .ok (.ifCond .gt 6, 3) := by decide +kernel
theorem dX10_share_12 : decode cX10_share 12 = .ok (.bipush (-4), 2) := by decide +kernel
theorem dX10_share_14 : decode cX10_share 14 = .ok (.ireturn, 1) := by decide +kernel
theorem dX10_share_15 : decode cX10_share 15 = .ok (.aload_n 0, 1) := by decide +kernel
theorem dX10_share_16 : decode cX10_share 16 = .ok (.getfield 38, 3) := by decide +kernel
theorem dX10_share_19 : decode cX10_share 19 = .ok (.invokevirtual 314, 3) := by decide +kernel
theorem dX10_share_22 : decode cX10_share 22 = .ok (.i2f, 1) := by decide +kernel
theorem dX10_share_23 : decode cX10_share 23 = .ok (.iload_n 1, 1) := by decide +kernel
theorem dX10_share_24 : decode cX10_share 24 = .ok (.i2f, 1) := by decide +kernel
theorem dX10_share_25 : decode cX10_share 25 = .ok (.fdiv, 1) := by decide +kernel
theorem dX10_share_26 : decode cX10_share 26 = .ok (.invokestatic 340, 3) := by decide +kernel
theorem dX10_share_29 : decode cX10_share 29 = .ok (.ireturn, 1) := by decide +kernel
theorem e_144 (r : Nat)  (ws : ai_W) : ai_Call 144 [.ref r] ws = if ai_isob ws r 10 = true then ai_Run 144 0 [.ref r, .null] [] ws else none := R_entV hk_144 ⟨⟨rfl, rfl⟩, Nat.le_of_ble_eq_true rfl⟩ rfl
theorem r_144_0 (l1 : Value) (a : Nat) (st : List Value) (ws : ai_W) : ai_Run 144 0 [.ref a, l1] st ws = ai_Run 144 1 [.ref a, l1] (.ref a :: st) ws := R_aload_n hc_144 dX10_share_0 rfl rfl
theorem r_144_1 (ls st : List Value) (a : Nat) (ws : ai_W) : ai_Run 144 1 ls (.ref a :: st) ws = (ai_fget ws a 10 3).bind fun q => ai_Run 144 4 ls (q :: st) ws := R_getf hc_144 dX10_share_1 hv_144 (w := 658) rfl rfl
theorem r_144_4 (ls : List Value) (r : Nat) (ws : ai_W) : ai_Run 144 4 ls [.ref r] ws = (ai_Call 14 [.ref r] ws).bind fun q => ai_Run 144 7 ls (q.1.toList ++ []) q.2 := R_callV hc_144 dX10_share_4 hv_144 (w := 346) rfl (ai_lt3 hf_14 hf_144 hL_14 ho_14 ho_144 rfl) hk_14 (by rw [hn_14]; rfl) rfl (Nat.le_of_ble_eq_true rfl) rfl
theorem r_144_7 (l0 l1 : Value) (a : Int32) (st : List Value) (ws : ai_W) : ai_Run 144 7 [l0, l1] (.int a :: st) ws = ai_Run 144 8 [l0, .int a] st ws := R_istore_n hc_144 dX10_share_7 (Nat.le_of_ble_eq_true rfl) rfl rfl
theorem r_144_8 (l0 : Value) (a : Int32) (st : List Value) (ws : ai_W) : ai_Run 144 8 [l0, .int a] st ws = ai_Run 144 9 [l0, .int a] (.int a :: st) ws := R_iload_n hc_144 dX10_share_8 rfl rfl
theorem r_144_9 (ls st : List Value) (a : Int32) (ws : ai_W) : ai_Run 144 9 ls (.int a :: st) ws = if 0 < a then ai_Run 144 15 ls st ws else ai_Run 144 12 ls st ws := R_if_gt hc_144 dX10_share_9 rfl rfl
theorem r_144_12 (ls st : List Value) (ws : ai_W) : ai_Run 144 12 ls st ws = ai_Run 144 14 ls (.int (-4) :: st) ws := R_bipush hc_144 dX10_share_12 (by decide) rfl
theorem r_144_14 (ls : List Value) (x : Int32) (ws : ai_W) : ai_Run 144 14 ls [.int x] ws = some (some (.int x), ws) := R_iret hc_144 dX10_share_14 ht_144
theorem r_144_15 (l1 : Value) (a : Nat) (st : List Value) (ws : ai_W) : ai_Run 144 15 [.ref a, l1] st ws = ai_Run 144 16 [.ref a, l1] (.ref a :: st) ws := R_aload_n hc_144 dX10_share_15 rfl rfl
theorem r_144_16 (ls st : List Value) (a : Nat) (ws : ai_W) : ai_Run 144 16 ls (.ref a :: st) ws = (ai_fget ws a 10 3).bind fun q => ai_Run 144 19 ls (q :: st) ws := R_getf hc_144 dX10_share_16 hv_144 (w := 658) rfl rfl
theorem r_144_19 (ls : List Value) (r : Nat) (ws : ai_W) : ai_Run 144 19 ls [.ref r] ws = (ai_Call 20 [.ref r] ws).bind fun q => ai_Run 144 22 ls (q.1.toList ++ []) q.2 := R_callV hc_144 dX10_share_19 hv_144 (w := 358) rfl (ai_lt3 hf_20 hf_144 hL_20 ho_20 ho_144 rfl) hk_20 (by rw [hn_20]; rfl) rfl (Nat.le_of_ble_eq_true rfl) rfl
theorem r_144_22 (ls st : List Value) (a : Int32) (ws : ai_W) : ai_Run 144 22 ls (.int a :: st) ws = ai_Run 144 23 ls (.float (FP.i2f a) :: st) ws := R_i2f hc_144 dX10_share_22 rfl
theorem r_144_23 (l0 : Value) (a : Int32) (st : List Value) (ws : ai_W) : ai_Run 144 23 [l0, .int a] st ws = ai_Run 144 24 [l0, .int a] (.int a :: st) ws := R_iload_n hc_144 dX10_share_23 rfl rfl
theorem r_144_24 (ls st : List Value) (a : Int32) (ws : ai_W) : ai_Run 144 24 ls (.int a :: st) ws = ai_Run 144 25 ls (.float (FP.i2f a) :: st) ws := R_i2f hc_144 dX10_share_24 rfl
theorem r_144_25 (ls st : List Value) (a b : UInt32) (ws : ai_W) : ai_Run 144 25 ls (.float b :: .float a :: st) ws = if ai_fok (FP.fdiv a b) = true then ai_Run 144 26 ls (.float (FP.fdiv a b) :: st) ws else none := R_fb hc_144 dX10_share_25 (fun _ _ _ _ => rfl) rfl
theorem r_144_26 (ls : List Value) (b0 : UInt32) (ws : ai_W) : ai_Run 144 26 ls [.float b0] ws = (ai_Call 58 [.float b0] ws).bind fun q => ai_Run 144 29 ls (q.1.toList ++ []) q.2 := R_callS hc_144 dX10_share_26 hv_144 (w := 389) rfl (ai_lt3 hf_58 hf_144 hL_58 ho_58 ho_144 rfl) hk_58 (by rw [hn_58]; rfl) rfl (Nat.le_of_ble_eq_true rfl) rfl
theorem r_144_29 (ls : List Value) (x : Int32) (ws : ai_W) : ai_Run 144 29 ls [.int x] ws = some (some (.int x), ws) := R_iret hc_144 dX10_share_29 ht_144
theorem dX10_sign_0 : decode cX10_sign 0 = .ok (.aload_n 0, 1) := by decide +kernel
theorem dX10_sign_1 : decode cX10_sign 1 = .ok (.getfield 72, 3) := by decide +kernel
theorem dX10_sign_4 : decode cX10_sign 4 = .ok (.iload_n 1, 1) := by decide +kernel
theorem dX10_sign_5 : decode cX10_sign 5 = .ok (.invokevirtual 267, 3) := by decide +kernel
theorem dX10_sign_8 : decode cX10_sign 8 = .ok (.ireturn, 1) := by decide +kernel
theorem e_146 (r : Nat) (a0 : Int32) (ws : ai_W) : ai_Call 146 [.ref r, .int a0] ws = if ai_isob ws r 10 = true then ai_Run 146 0 [.ref r, .int a0] [] ws else none := R_entV hk_146 ⟨⟨rfl, rfl⟩, Nat.le_of_ble_eq_true rfl⟩ rfl
theorem r_146_0 (l1 : Value) (a : Nat) (st : List Value) (ws : ai_W) : ai_Run 146 0 [.ref a, l1] st ws = ai_Run 146 1 [.ref a, l1] (.ref a :: st) ws := R_aload_n hc_146 dX10_sign_0 rfl rfl
theorem r_146_1 (ls st : List Value) (a : Nat) (ws : ai_W) : ai_Run 146 1 ls (.ref a :: st) ws = (ai_fget ws a 10 8).bind fun q => ai_Run 146 4 ls (q :: st) ws := R_getf hc_146 dX10_sign_1 hv_146 (w := 663) rfl rfl
theorem r_146_4 (l0 : Value) (a : Int32) (st : List Value) (ws : ai_W) : ai_Run 146 4 [l0, .int a] st ws = ai_Run 146 5 [l0, .int a] (.int a :: st) ws := R_iload_n hc_146 dX10_sign_4 rfl rfl
theorem r_146_5 (ls : List Value) (r : Nat) (b0 : Int32) (ws : ai_W) : ai_Run 146 5 ls [.int b0, .ref r] ws = (ai_Call 145 [.ref r, .int b0] ws).bind fun q => ai_Run 146 8 ls (q.1.toList ++ []) q.2 := R_callV hc_146 dX10_sign_5 hv_146 (w := 1160) rfl (ai_lt3 hf_145 hf_146 hL_145 ho_145 ho_146 rfl) hk_145 (by rw [hn_145]; rfl) rfl (Nat.le_of_ble_eq_true rfl) rfl
theorem r_146_8 (ls : List Value) (x : Int32) (ws : ai_W) : ai_Run 146 8 ls [.int x] ws = some (some (.int x), ws) := R_iret hc_146 dX10_sign_8 ht_146
theorem dX10_strike_0 : decode cX10_strike 0 = .ok (.aload_n 0, 1) := by decide +kernel
theorem dX10_strike_1 : decode cX10_strike 1 = .ok (.invokevirtual 76, 3) := by decide +kernel
theorem dX10_strike_4 : decode cX10_strike 4 = .ok (.aload_n 0, 1) := by decide +kernel
theorem dX10_strike_5 : decode cX10_strike 5 = .ok (.aload_n 0, 1) := by decide +kernel
theorem dX10_strike_6 : decode cX10_strike 6 = .ok (.getfield 51, 3) := by decide +kernel
theorem dX10_strike_9 : decode cX10_strike 9 = .ok (.iload_n 1, 1) := by decide +kernel
theorem dX10_strike_10 : decode cX10_strike 10 = .ok (.invokevirtual 97, 3) := by decide +kernel
theorem dX10_strike_13 : decode cX10_strike 13 = .ok (.invokevirtual 83, 3) := by decide +kernel
theorem dX10_strike_16 : decode cX10_strike 16 = .ok (.ireturn, 1) := by decide +kernel
theorem e_147 (r : Nat) (a0 : Int32) (ws : ai_W) : ai_Call 147 [.ref r, .int a0] ws = if ai_isob ws r 10 = true then ai_Run 147 0 [.ref r, .int a0] [] ws else none := R_entV hk_147 ⟨⟨rfl, rfl⟩, Nat.le_of_ble_eq_true rfl⟩ rfl
theorem r_147_0 (l1 : Value) (a : Nat) (st : List Value) (ws : ai_W) : ai_Run 147 0 [.ref a, l1] st ws = ai_Run 147 1 [.ref a, l1] (.ref a :: st) ws := R_aload_n hc_147 dX10_strike_0 rfl rfl
theorem r_147_1 (ls : List Value) (r : Nat) (ws : ai_W) : ai_Run 147 1 ls [.ref r] ws = (ai_Call 46 [.ref r] ws).bind fun q => ai_Run 147 4 ls (q.1.toList ++ []) q.2 := R_callV hc_147 dX10_strike_1 hv_147 (w := 48) rfl (ai_lt3 hf_46 hf_147 hL_46 ho_46 ho_147 rfl) hk_46 (by rw [hn_46]; rfl) rfl (Nat.le_of_ble_eq_true rfl) rfl
theorem r_147_4 (l1 : Value) (a : Nat) (st : List Value) (ws : ai_W) : ai_Run 147 4 [.ref a, l1] st ws = ai_Run 147 5 [.ref a, l1] (.ref a :: st) ws := R_aload_n hc_147 dX10_strike_4 rfl rfl
theorem r_147_5 (l1 : Value) (a : Nat) (st : List Value) (ws : ai_W) : ai_Run 147 5 [.ref a, l1] st ws = ai_Run 147 6 [.ref a, l1] (.ref a :: st) ws := R_aload_n hc_147 dX10_strike_5 rfl rfl
theorem r_147_6 (ls st : List Value) (a : Nat) (ws : ai_W) : ai_Run 147 6 ls (.ref a :: st) ws = (ai_fget ws a 10 5).bind fun q => ai_Run 147 9 ls (q :: st) ws := R_getf hc_147 dX10_strike_6 hv_147 (w := 660) rfl rfl
theorem r_147_9 (l0 : Value) (a : Int32) (st : List Value) (ws : ai_W) : ai_Run 147 9 [l0, .int a] st ws = ai_Run 147 10 [l0, .int a] (.int a :: st) ws := R_iload_n hc_147 dX10_strike_9 rfl rfl
theorem r_147_10 (ls : List Value) (r : Nat) (b0 : Int32) (s0 : Value) (ws : ai_W) : ai_Run 147 10 ls [.int b0, .ref r, s0] ws = (ai_Call 72 [.ref r, .int b0] ws).bind fun q => ai_Run 147 13 ls (q.1.toList ++ [s0]) q.2 := R_callV hc_147 dX10_strike_10 hv_147 (w := 724) rfl (ai_lt3 hf_72 hf_147 hL_72 ho_72 ho_147 rfl) hk_72 (by rw [hn_72]; rfl) rfl (Nat.le_of_ble_eq_true rfl) rfl
theorem r_147_13 (ls : List Value) (r : Nat) (b0 : Int32) (ws : ai_W) : ai_Run 147 13 ls [.int b0, .ref r] ws = (ai_Call 51 [.ref r, .int b0] ws).bind fun q => ai_Run 147 16 ls (q.1.toList ++ []) q.2 := R_callV hc_147 dX10_strike_13 hv_147 (w := 88) rfl (ai_lt3 hf_51 hf_147 hL_51 ho_51 ho_147 rfl) hk_51 (by rw [hn_51]; rfl) rfl (Nat.le_of_ble_eq_true rfl) rfl
theorem r_147_16 (ls : List Value) (x : Int32) (ws : ai_W) : ai_Run 147 16 ls [.int x] ws = some (some (.int x), ws) := R_iret hc_147 dX10_strike_16 ht_147
theorem dX10_suspect_0 : decode cX10_suspect 0 = .ok (.aload_n 0, 1) := by decide +kernel
theorem dX10_suspect_1 : decode cX10_suspect 1 = .ok (.getfield 21, 3) := by decide +kernel
theorem dX10_suspect_4 : decode cX10_suspect 4 = .ok (.iload_n 1, 1) := by decide +kernel
theorem dX10_suspect_5 : decode cX10_suspect 5 = .ok (.invokevirtual 119, 3) := by decide +kernel
theorem dX10_suspect_8 : decode cX10_suspect 8 = .ok (.ifCond .eq 15, 3) := by decide +kernel
theorem dX10_suspect_11 : decode cX10_suspect 11 = .ok (.aload_n 0, 1) := by decide +kernel
theorem dX10_suspect_12 : decode cX10_suspect 12 = .ok (.getfield 21, 3) := by decide +kernel
theorem dX10_suspect_15 : decode cX10_suspect 15 = .ok (.iload_n 1, 1) := by decide +kernel
theorem dX10_suspect_16 : decode cX10_suspect 16 = .ok (.iload_n 2, 1) := by decide +kernel
theorem dX10_suspect_17 : decode cX10_suspect 17 = .ok (.invokevirtual 144, 3) := by decide +kernel
theorem dX10_suspect_20 : decode cX10_suspect 20 = .ok (.ifCond .ne 5, 3) := by decide +kernel
theorem dX10_suspect_23 : decode cX10_suspect 23 = .ok (.iconst (-1), 1) := by decide +kernel
theorem dX10_suspect_24 : decode cX10_suspect 24 = .ok (.ireturn, 1) := by decide +kernel
theorem dX10_suspect_25 : decode cX10_suspect 25 = .ok (.aload_n 0, 1) := by decide +kernel
theorem dX10_suspect_26 : decode cX10_suspect 26 = .ok (.getfield 27, 3) := by decide +kernel
theorem dX10_suspect_29 : decode cX10_suspect 29 = .ok (.iload_n 1, 1) := by decide +kernel
theorem dX10_suspect_30 : decode cX10_suspect 30 = .ok (.iload_n 2, 1) := by decide +kernel
theorem dX10_suspect_31 : decode cX10_suspect 31 = .ok (.invokevirtual 207, 3) := by decide +kernel
theorem dX10_suspect_34 : decode cX10_suspect 34 = .ok (.ireturn, 1) := by decide +kernel
theorem e_148 (r : Nat) (a0 : Int32) (a1 : Int32) (ws : ai_W) : ai_Call 148 [.ref r, .int a0, .int a1] ws = if ai_isob ws r 10 = true then ai_Run 148 0 [.ref r, .int a0, .int a1] [] ws else none := R_entV hk_148 ⟨⟨rfl, rfl⟩, Nat.le_of_ble_eq_true rfl⟩ rfl
theorem r_148_0 (l1 l2 : Value) (a : Nat) (st : List Value) (ws : ai_W) : ai_Run 148 0 [.ref a, l1, l2] st ws = ai_Run 148 1 [.ref a, l1, l2] (.ref a :: st) ws := R_aload_n hc_148 dX10_suspect_0 rfl rfl
theorem r_148_1 (ls st : List Value) (a : Nat) (ws : ai_W) : ai_Run 148 1 ls (.ref a :: st) ws = (ai_fget ws a 10 0).bind fun q => ai_Run 148 4 ls (q :: st) ws := R_getf hc_148 dX10_suspect_1 hv_148 (w := 655) rfl rfl
theorem r_148_4 (l0 l2 : Value) (a : Int32) (st : List Value) (ws : ai_W) : ai_Run 148 4 [l0, .int a, l2] st ws = ai_Run 148 5 [l0, .int a, l2] (.int a :: st) ws := R_iload_n hc_148 dX10_suspect_4 rfl rfl
theorem r_148_5 (ls : List Value) (r : Nat) (b0 : Int32) (ws : ai_W) : ai_Run 148 5 ls [.int b0, .ref r] ws = (ai_Call 62 [.ref r, .int b0] ws).bind fun q => ai_Run 148 8 ls (q.1.toList ++ []) q.2 := R_callV hc_148 dX10_suspect_5 hv_148 (w := 311) rfl (ai_lt3 hf_62 hf_148 hL_62 ho_62 ho_148 rfl) hk_62 (by rw [hn_62]; rfl) rfl (Nat.le_of_ble_eq_true rfl) rfl
theorem r_148_8 (ls st : List Value) (a : Int32) (ws : ai_W) : ai_Run 148 8 ls (.int a :: st) ws = if a = 0 then ai_Run 148 23 ls st ws else ai_Run 148 11 ls st ws := R_if_eq hc_148 dX10_suspect_8 rfl rfl
theorem r_148_11 (l1 l2 : Value) (a : Nat) (st : List Value) (ws : ai_W) : ai_Run 148 11 [.ref a, l1, l2] st ws = ai_Run 148 12 [.ref a, l1, l2] (.ref a :: st) ws := R_aload_n hc_148 dX10_suspect_11 rfl rfl
theorem r_148_12 (ls st : List Value) (a : Nat) (ws : ai_W) : ai_Run 148 12 ls (.ref a :: st) ws = (ai_fget ws a 10 0).bind fun q => ai_Run 148 15 ls (q :: st) ws := R_getf hc_148 dX10_suspect_12 hv_148 (w := 655) rfl rfl
theorem r_148_15 (l0 l2 : Value) (a : Int32) (st : List Value) (ws : ai_W) : ai_Run 148 15 [l0, .int a, l2] st ws = ai_Run 148 16 [l0, .int a, l2] (.int a :: st) ws := R_iload_n hc_148 dX10_suspect_15 rfl rfl
theorem r_148_16 (l0 l1 : Value) (a : Int32) (st : List Value) (ws : ai_W) : ai_Run 148 16 [l0, l1, .int a] st ws = ai_Run 148 17 [l0, l1, .int a] (.int a :: st) ws := R_iload_n hc_148 dX10_suspect_16 rfl rfl
theorem r_148_17 (ls : List Value) (r : Nat) (b0 : Int32) (b1 : Int32) (ws : ai_W) : ai_Run 148 17 ls [.int b1, .int b0, .ref r] ws = (ai_Call 82 [.ref r, .int b0, .int b1] ws).bind fun q => ai_Run 148 20 ls (q.1.toList ++ []) q.2 := R_callV hc_148 dX10_suspect_17 hv_148 (w := 1129) rfl (ai_lt3 hf_82 hf_148 hL_82 ho_82 ho_148 rfl) hk_82 (by rw [hn_82]; rfl) rfl (Nat.le_of_ble_eq_true rfl) rfl
theorem r_148_20 (ls st : List Value) (a : Int32) (ws : ai_W) : ai_Run 148 20 ls (.int a :: st) ws = if a = 0 then ai_Run 148 23 ls st ws else ai_Run 148 25 ls st ws := R_if_ne hc_148 dX10_suspect_20 rfl rfl
theorem r_148_23 (ls st : List Value) (ws : ai_W) : ai_Run 148 23 ls st ws = ai_Run 148 24 ls (.int (-1) :: st) ws := R_iconst hc_148 dX10_suspect_23 (by decide) rfl
theorem r_148_24 (ls : List Value) (x : Int32) (ws : ai_W) : ai_Run 148 24 ls [.int x] ws = some (some (.int x), ws) := R_iret hc_148 dX10_suspect_24 ht_148
theorem r_148_25 (l1 l2 : Value) (a : Nat) (st : List Value) (ws : ai_W) : ai_Run 148 25 [.ref a, l1, l2] st ws = ai_Run 148 26 [.ref a, l1, l2] (.ref a :: st) ws := R_aload_n hc_148 dX10_suspect_25 rfl rfl
theorem r_148_26 (ls st : List Value) (a : Nat) (ws : ai_W) : ai_Run 148 26 ls (.ref a :: st) ws = (ai_fget ws a 10 1).bind fun q => ai_Run 148 29 ls (q :: st) ws := R_getf hc_148 dX10_suspect_26 hv_148 (w := 656) rfl rfl
theorem r_148_29 (l0 l2 : Value) (a : Int32) (st : List Value) (ws : ai_W) : ai_Run 148 29 [l0, .int a, l2] st ws = ai_Run 148 30 [l0, .int a, l2] (.int a :: st) ws := R_iload_n hc_148 dX10_suspect_29 rfl rfl
theorem r_148_30 (l0 l1 : Value) (a : Int32) (st : List Value) (ws : ai_W) : ai_Run 148 30 [l0, l1, .int a] st ws = ai_Run 148 31 [l0, l1, .int a] (.int a :: st) ws := R_iload_n hc_148 dX10_suspect_30 rfl rfl
theorem r_148_31 (ls : List Value) (r : Nat) (b0 : Int32) (b1 : Int32) (ws : ai_W) : ai_Run 148 31 ls [.int b1, .int b0, .ref r] ws = (ai_Call 112 [.ref r, .int b0, .int b1] ws).bind fun q => ai_Run 148 34 ls (q.1.toList ++ []) q.2 := R_callV hc_148 dX10_suspect_31 hv_148 (w := 1218) rfl (ai_lt3 hf_112 hf_148 hL_112 ho_112 ho_148 rfl) hk_112 (by rw [hn_112]; rfl) rfl (Nat.le_of_ble_eq_true rfl) rfl
theorem r_148_34 (ls : List Value) (x : Int32) (ws : ai_W) : ai_Run 148 34 ls [.int x] ws = some (some (.int x), ws) := R_iret hc_148 dX10_suspect_34 ht_148
theorem dX10_suspectAgain_0 : decode cX10_suspectAgain 0 = .ok (.aload_n 0, 1) := by decide +kernel
theorem dX10_suspectAgain_1 : decode cX10_suspectAgain 1 = .ok (.getfield 21, 3) := by decide +kernel
theorem dX10_suspectAgain_4 : decode cX10_suspectAgain 4 = .ok (.iload_n 1, 1) := by decide +kernel
theorem dX10_suspectAgain_5 : decode cX10_suspectAgain 5 = .ok (.invokevirtual 119, 3) := by decide +kernel
theorem dX10_suspectAgain_8 : decode cX10_suspectAgain 8 = .ok (.ifCond .eq 15, 3) := by decide +kernel
theorem dX10_suspectAgain_11 : decode cX10_suspectAgain 11 = .ok (.aload_n 0, 1) := by decide +kernel
theorem dX10_suspectAgain_12 : decode cX10_suspectAgain 12 = .ok (.getfield 21, 3) := by decide +kernel
theorem dX10_suspectAgain_15 : decode cX10_suspectAgain 15 = .ok (.iload_n 1, 1) := by decide +kernel
theorem dX10_suspectAgain_16 : decode cX10_suspectAgain 16 = .ok (.iload_n 2, 1) := by decide +kernel
theorem dX10_suspectAgain_17 : decode cX10_suspectAgain 17 = .ok (.invokevirtual 144, 3) := by decide +kernel
theorem dX10_suspectAgain_20 : decode cX10_suspectAgain 20 = .ok (.ifCond .ne 5, 3) := by decide +kernel
theorem dX10_suspectAgain_23 : decode cX10_suspectAgain 23 = .ok (.iconst (-1), 1) := by decide +kernel
theorem dX10_suspectAgain_24 : decode cX10_suspectAgain 24 = .ok (.ireturn, 1) := by decide +kernel
theorem dX10_suspectAgain_25 : decode cX10_suspectAgain 25 = .ok (.aload_n 0, 1) := by decide +kernel
theorem dX10_suspectAgain_26 : decode cX10_suspectAgain 26 = .ok (.getfield 27, 3) := by decide +kernel
theorem dX10_suspectAgain_29 : decode cX10_suspectAgain 29 = .ok (.iload_n 1, 1) := by decide +kernel
theorem dX10_suspectAgain_30 : decode cX10_suspectAgain 30 = .ok (.iload_n 2, 1) := by decide +kernel
theorem dX10_suspectAgain_31 : decode cX10_suspectAgain 31 = .ok (.invokevirtual 210, 3) := by decide +kernel
theorem dX10_suspectAgain_34 : decode cX10_suspectAgain 34 = .ok (.ireturn, 1) := by decide +kernel
theorem e_149 (r : Nat) (a0 : Int32) (a1 : Int32) (ws : ai_W) : ai_Call 149 [.ref r, .int a0, .int a1] ws = if ai_isob ws r 10 = true then ai_Run 149 0 [.ref r, .int a0, .int a1] [] ws else none := R_entV hk_149 ⟨⟨rfl, rfl⟩, Nat.le_of_ble_eq_true rfl⟩ rfl
theorem r_149_0 (l1 l2 : Value) (a : Nat) (st : List Value) (ws : ai_W) : ai_Run 149 0 [.ref a, l1, l2] st ws = ai_Run 149 1 [.ref a, l1, l2] (.ref a :: st) ws := R_aload_n hc_149 dX10_suspectAgain_0 rfl rfl
theorem r_149_1 (ls st : List Value) (a : Nat) (ws : ai_W) : ai_Run 149 1 ls (.ref a :: st) ws = (ai_fget ws a 10 0).bind fun q => ai_Run 149 4 ls (q :: st) ws := R_getf hc_149 dX10_suspectAgain_1 hv_149 (w := 655) rfl rfl
theorem r_149_4 (l0 l2 : Value) (a : Int32) (st : List Value) (ws : ai_W) : ai_Run 149 4 [l0, .int a, l2] st ws = ai_Run 149 5 [l0, .int a, l2] (.int a :: st) ws := R_iload_n hc_149 dX10_suspectAgain_4 rfl rfl
theorem r_149_5 (ls : List Value) (r : Nat) (b0 : Int32) (ws : ai_W) : ai_Run 149 5 ls [.int b0, .ref r] ws = (ai_Call 62 [.ref r, .int b0] ws).bind fun q => ai_Run 149 8 ls (q.1.toList ++ []) q.2 := R_callV hc_149 dX10_suspectAgain_5 hv_149 (w := 311) rfl (ai_lt3 hf_62 hf_149 hL_62 ho_62 ho_149 rfl) hk_62 (by rw [hn_62]; rfl) rfl (Nat.le_of_ble_eq_true rfl) rfl
theorem r_149_8 (ls st : List Value) (a : Int32) (ws : ai_W) : ai_Run 149 8 ls (.int a :: st) ws = if a = 0 then ai_Run 149 23 ls st ws else ai_Run 149 11 ls st ws := R_if_eq hc_149 dX10_suspectAgain_8 rfl rfl
theorem r_149_11 (l1 l2 : Value) (a : Nat) (st : List Value) (ws : ai_W) : ai_Run 149 11 [.ref a, l1, l2] st ws = ai_Run 149 12 [.ref a, l1, l2] (.ref a :: st) ws := R_aload_n hc_149 dX10_suspectAgain_11 rfl rfl
theorem r_149_12 (ls st : List Value) (a : Nat) (ws : ai_W) : ai_Run 149 12 ls (.ref a :: st) ws = (ai_fget ws a 10 0).bind fun q => ai_Run 149 15 ls (q :: st) ws := R_getf hc_149 dX10_suspectAgain_12 hv_149 (w := 655) rfl rfl
theorem r_149_15 (l0 l2 : Value) (a : Int32) (st : List Value) (ws : ai_W) : ai_Run 149 15 [l0, .int a, l2] st ws = ai_Run 149 16 [l0, .int a, l2] (.int a :: st) ws := R_iload_n hc_149 dX10_suspectAgain_15 rfl rfl
theorem r_149_16 (l0 l1 : Value) (a : Int32) (st : List Value) (ws : ai_W) : ai_Run 149 16 [l0, l1, .int a] st ws = ai_Run 149 17 [l0, l1, .int a] (.int a :: st) ws := R_iload_n hc_149 dX10_suspectAgain_16 rfl rfl
theorem r_149_17 (ls : List Value) (r : Nat) (b0 : Int32) (b1 : Int32) (ws : ai_W) : ai_Run 149 17 ls [.int b1, .int b0, .ref r] ws = (ai_Call 82 [.ref r, .int b0, .int b1] ws).bind fun q => ai_Run 149 20 ls (q.1.toList ++ []) q.2 := R_callV hc_149 dX10_suspectAgain_17 hv_149 (w := 1129) rfl (ai_lt3 hf_82 hf_149 hL_82 ho_82 ho_149 rfl) hk_82 (by rw [hn_82]; rfl) rfl (Nat.le_of_ble_eq_true rfl) rfl
theorem r_149_20 (ls st : List Value) (a : Int32) (ws : ai_W) : ai_Run 149 20 ls (.int a :: st) ws = if a = 0 then ai_Run 149 23 ls st ws else ai_Run 149 25 ls st ws := R_if_ne hc_149 dX10_suspectAgain_20 rfl rfl
theorem r_149_23 (ls st : List Value) (ws : ai_W) : ai_Run 149 23 ls st ws = ai_Run 149 24 ls (.int (-1) :: st) ws := R_iconst hc_149 dX10_suspectAgain_23 (by decide) rfl
theorem r_149_24 (ls : List Value) (x : Int32) (ws : ai_W) : ai_Run 149 24 ls [.int x] ws = some (some (.int x), ws) := R_iret hc_149 dX10_suspectAgain_24 ht_149
theorem r_149_25 (l1 l2 : Value) (a : Nat) (st : List Value) (ws : ai_W) : ai_Run 149 25 [.ref a, l1, l2] st ws = ai_Run 149 26 [.ref a, l1, l2] (.ref a :: st) ws := R_aload_n hc_149 dX10_suspectAgain_25 rfl rfl
theorem r_149_26 (ls st : List Value) (a : Nat) (ws : ai_W) : ai_Run 149 26 ls (.ref a :: st) ws = (ai_fget ws a 10 1).bind fun q => ai_Run 149 29 ls (q :: st) ws := R_getf hc_149 dX10_suspectAgain_26 hv_149 (w := 656) rfl rfl
theorem r_149_29 (l0 l2 : Value) (a : Int32) (st : List Value) (ws : ai_W) : ai_Run 149 29 [l0, .int a, l2] st ws = ai_Run 149 30 [l0, .int a, l2] (.int a :: st) ws := R_iload_n hc_149 dX10_suspectAgain_29 rfl rfl
theorem r_149_30 (l0 l1 : Value) (a : Int32) (st : List Value) (ws : ai_W) : ai_Run 149 30 [l0, l1, .int a] st ws = ai_Run 149 31 [l0, l1, .int a] (.int a :: st) ws := R_iload_n hc_149 dX10_suspectAgain_30 rfl rfl
theorem r_149_31 (ls : List Value) (r : Nat) (b0 : Int32) (b1 : Int32) (ws : ai_W) : ai_Run 149 31 ls [.int b1, .int b0, .ref r] ws = (ai_Call 113 [.ref r, .int b0, .int b1] ws).bind fun q => ai_Run 149 34 ls (q.1.toList ++ []) q.2 := R_callV hc_149 dX10_suspectAgain_31 hv_149 (w := 1226) rfl (ai_lt3 hf_113 hf_149 hL_113 ho_113 ho_149 rfl) hk_113 (by rw [hn_113]; rfl) rfl (Nat.le_of_ble_eq_true rfl) rfl
theorem r_149_34 (ls : List Value) (x : Int32) (ws : ai_W) : ai_Run 149 34 ls [.int x] ws = some (some (.int x), ws) := R_iret hc_149 dX10_suspectAgain_34 ht_149
theorem dX10_swear_0 : decode cX10_swear 0 = .ok (.aload_n 0, 1) := by decide +kernel
theorem dX10_swear_1 : decode cX10_swear 1 = .ok (.invokevirtual 76, 3) := by decide +kernel
theorem dX10_swear_4 : decode cX10_swear 4 = .ok (.aload_n 0, 1) := by decide +kernel
theorem dX10_swear_5 : decode cX10_swear 5 = .ok (.aload_n 0, 1) := by decide +kernel
theorem dX10_swear_6 : decode cX10_swear 6 = .ok (.getfield 51, 3) := by decide +kernel
theorem dX10_swear_9 : decode cX10_swear 9 = .ok (.iload_n 1, 1) := by decide +kernel
theorem dX10_swear_10 : decode cX10_swear 10 = .ok (.iload_n 2, 1) := by decide +kernel
theorem dX10_swear_11 : decode cX10_swear 11 = .ok (.invokevirtual 103, 3) := by decide +kernel
theorem dX10_swear_14 : decode cX10_swear 14 = .ok (.invokevirtual 83, 3) := by decide +kernel
theorem dX10_swear_17 : decode cX10_swear 17 = .ok (.ireturn, 1) := by decide +kernel
theorem e_150 (r : Nat) (a0 : Int32) (a1 : Int32) (ws : ai_W) : ai_Call 150 [.ref r, .int a0, .int a1] ws = if ai_isob ws r 10 = true then ai_Run 150 0 [.ref r, .int a0, .int a1] [] ws else none := R_entV hk_150 ⟨⟨rfl, rfl⟩, Nat.le_of_ble_eq_true rfl⟩ rfl
theorem r_150_0 (l1 l2 : Value) (a : Nat) (st : List Value) (ws : ai_W) : ai_Run 150 0 [.ref a, l1, l2] st ws = ai_Run 150 1 [.ref a, l1, l2] (.ref a :: st) ws := R_aload_n hc_150 dX10_swear_0 rfl rfl
theorem r_150_1 (ls : List Value) (r : Nat) (ws : ai_W) : ai_Run 150 1 ls [.ref r] ws = (ai_Call 46 [.ref r] ws).bind fun q => ai_Run 150 4 ls (q.1.toList ++ []) q.2 := R_callV hc_150 dX10_swear_1 hv_150 (w := 48) rfl (ai_lt3 hf_46 hf_150 hL_46 ho_46 ho_150 rfl) hk_46 (by rw [hn_46]; rfl) rfl (Nat.le_of_ble_eq_true rfl) rfl
theorem r_150_4 (l1 l2 : Value) (a : Nat) (st : List Value) (ws : ai_W) : ai_Run 150 4 [.ref a, l1, l2] st ws = ai_Run 150 5 [.ref a, l1, l2] (.ref a :: st) ws := R_aload_n hc_150 dX10_swear_4 rfl rfl
theorem r_150_5 (l1 l2 : Value) (a : Nat) (st : List Value) (ws : ai_W) : ai_Run 150 5 [.ref a, l1, l2] st ws = ai_Run 150 6 [.ref a, l1, l2] (.ref a :: st) ws := R_aload_n hc_150 dX10_swear_5 rfl rfl
theorem r_150_6 (ls st : List Value) (a : Nat) (ws : ai_W) : ai_Run 150 6 ls (.ref a :: st) ws = (ai_fget ws a 10 5).bind fun q => ai_Run 150 9 ls (q :: st) ws := R_getf hc_150 dX10_swear_6 hv_150 (w := 660) rfl rfl
theorem r_150_9 (l0 l2 : Value) (a : Int32) (st : List Value) (ws : ai_W) : ai_Run 150 9 [l0, .int a, l2] st ws = ai_Run 150 10 [l0, .int a, l2] (.int a :: st) ws := R_iload_n hc_150 dX10_swear_9 rfl rfl
theorem r_150_10 (l0 l1 : Value) (a : Int32) (st : List Value) (ws : ai_W) : ai_Run 150 10 [l0, l1, .int a] st ws = ai_Run 150 11 [l0, l1, .int a] (.int a :: st) ws := R_iload_n hc_150 dX10_swear_10 rfl rfl
theorem r_150_11 (ls : List Value) (r : Nat) (b0 : Int32) (b1 : Int32) (s0 : Value) (ws : ai_W) : ai_Run 150 11 ls [.int b1, .int b0, .ref r, s0] ws = (ai_Call 75 [.ref r, .int b0, .int b1] ws).bind fun q => ai_Run 150 14 ls (q.1.toList ++ [s0]) q.2 := R_callV hc_150 dX10_swear_11 hv_150 (w := 153) rfl (ai_lt3 hf_75 hf_150 hL_75 ho_75 ho_150 rfl) hk_75 (by rw [hn_75]; rfl) rfl (Nat.le_of_ble_eq_true rfl) rfl
theorem r_150_14 (ls : List Value) (r : Nat) (b0 : Int32) (ws : ai_W) : ai_Run 150 14 ls [.int b0, .ref r] ws = (ai_Call 51 [.ref r, .int b0] ws).bind fun q => ai_Run 150 17 ls (q.1.toList ++ []) q.2 := R_callV hc_150 dX10_swear_14 hv_150 (w := 88) rfl (ai_lt3 hf_51 hf_150 hL_51 ho_51 ho_150 rfl) hk_51 (by rw [hn_51]; rfl) rfl (Nat.le_of_ble_eq_true rfl) rfl
theorem r_150_17 (ls : List Value) (x : Int32) (ws : ai_W) : ai_Run 150 17 ls [.int x] ws = some (some (.int x), ws) := R_iret hc_150 dX10_swear_17 ht_150
theorem dX10_tellChapter_0 : decode cX10_tellChapter 0 = .ok (.iload_n 1, 1) := by decide +kernel
theorem dX10_tellChapter_1 : decode cX10_tellChapter 1 = .ok (.invokestatic 187, 3) := by decide +kernel
theorem dX10_tellChapter_4 : decode cX10_tellChapter 4 = .ok (.ifCond .ne 6, 3) := by decide +kernel
theorem dX10_tellChapter_7 : decode cX10_tellChapter 7 = .ok (.bipush (-2), 2) := by decide +kernel
theorem dX10_tellChapter_9 : decode cX10_tellChapter 9 = .ok (.ireturn, 1) := by decide +kernel
theorem dX10_tellChapter_10 : decode cX10_tellChapter 10 = .ok (.aload_n 0, 1) := by decide +kernel
theorem dX10_tellChapter_11 : decode cX10_tellChapter 11 = .ok (.getfield 72, 3) := by decide +kernel
theorem dX10_tellChapter_14 : decode cX10_tellChapter 14 = .ok (.invokevirtual 235, 3) := by decide +kernel
theorem dX10_tellChapter_17 : decode cX10_tellChapter 17 = .ok (.aload_n 0, 1) := by decide +kernel
theorem dX10_tellChapter_18 : decode cX10_tellChapter 18 = .ok (.getfield 72, 3) := by decide +kernel
theorem dX10_tellChapter_21 : decode cX10_tellChapter 21 = .ok (.iload_n 1, 1) := by decide +kernel
theorem dX10_tellChapter_22 : decode cX10_tellChapter 22 = .ok (.invokevirtual 238, 3) := by decide +kernel
theorem dX10_tellChapter_25 : decode cX10_tellChapter 25 = .ok (.aload_n 0, 1) := by decide +kernel
theorem dX10_tellChapter_26 : decode cX10_tellChapter 26 = .ok (.iload_n 1, 1) := by decide +kernel
theorem dX10_tellChapter_27 : decode cX10_tellChapter 27 = .ok (.invokevirtual 255, 3) := by decide +kernel
theorem dX10_tellChapter_30 : decode cX10_tellChapter 30 = .ok (.aload_n 0, 1) := by decide +kernel
theorem dX10_tellChapter_31 : decode cX10_tellChapter 31 = .ok (.getfield 72, 3) := by decide +kernel
theorem dX10_tellChapter_34 : decode cX10_tellChapter 34 = .ok (.bipush 58, 2) := by decide +kernel
theorem dX10_tellChapter_36 : decode cX10_tellChapter 36 = .ok (.invokevirtual 242, 3) := by decide +kernel
theorem dX10_tellChapter_39 : decode cX10_tellChapter 39 = .ok (.aload_n 0, 1) := by decide +kernel
theorem dX10_tellChapter_40 : decode cX10_tellChapter 40 = .ok (.aload_n 0, 1) := by decide +kernel
theorem dX10_tellChapter_41 : decode cX10_tellChapter 41 = .ok (.getfield 27, 3) := by decide +kernel
theorem dX10_tellChapter_44 : decode cX10_tellChapter 44 = .ok (.iload_n 1, 1) := by decide +kernel
theorem dX10_tellChapter_45 : decode cX10_tellChapter 45 = .ok (.invokevirtual 190, 3) := by decide +kernel
theorem dX10_tellChapter_48 : decode cX10_tellChapter 48 = .ok (.invokevirtual 258, 3) := by decide +kernel
theorem dX10_tellChapter_51 : decode cX10_tellChapter 51 = .ok (.aload_n 0, 1) := by decide +kernel
theorem dX10_tellChapter_52 : decode cX10_tellChapter 52 = .ok (.getfield 72, 3) := by decide +kernel
theorem dX10_tellChapter_55 : decode cX10_tellChapter 55 = .ok (.invokevirtual 252, 3) := by decide +kernel
theorem dX10_tellChapter_58 : decode cX10_tellChapter 58 = .ok (.ireturn, 1) := by decide +kernel
theorem e_153 (r : Nat) (a0 : Int32) (ws : ai_W) : ai_Call 153 [.ref r, .int a0] ws = if ai_isob ws r 10 = true then ai_Run 153 0 [.ref r, .int a0] [] ws else none := R_entV hk_153 ⟨⟨rfl, rfl⟩, Nat.le_of_ble_eq_true rfl⟩ rfl
theorem r_153_0 (l0 : Value) (a : Int32) (st : List Value) (ws : ai_W) : ai_Run 153 0 [l0, .int a] st ws = ai_Run 153 1 [l0, .int a] (.int a :: st) ws := R_iload_n hc_153 dX10_tellChapter_0 rfl rfl
theorem r_153_1 (ls : List Value) (b0 : Int32) (ws : ai_W) : ai_Run 153 1 ls [.int b0] ws = (ai_Call 63 [.int b0] ws).bind fun q => ai_Run 153 4 ls (q.1.toList ++ []) q.2 := R_callS hc_153 dX10_tellChapter_1 hv_153 (w := 1106) rfl (ai_lt3 hf_63 hf_153 hL_63 ho_63 ho_153 rfl) hk_63 (by rw [hn_63]; rfl) rfl (Nat.le_of_ble_eq_true rfl) rfl
theorem r_153_4 (ls st : List Value) (a : Int32) (ws : ai_W) : ai_Run 153 4 ls (.int a :: st) ws = if a = 0 then ai_Run 153 7 ls st ws else ai_Run 153 10 ls st ws := R_if_ne hc_153 dX10_tellChapter_4 rfl rfl
theorem r_153_7 (ls st : List Value) (ws : ai_W) : ai_Run 153 7 ls st ws = ai_Run 153 9 ls (.int (-2) :: st) ws := R_bipush hc_153 dX10_tellChapter_7 (by decide) rfl
theorem r_153_9 (ls : List Value) (x : Int32) (ws : ai_W) : ai_Run 153 9 ls [.int x] ws = some (some (.int x), ws) := R_iret hc_153 dX10_tellChapter_9 ht_153
theorem r_153_10 (l1 : Value) (a : Nat) (st : List Value) (ws : ai_W) : ai_Run 153 10 [.ref a, l1] st ws = ai_Run 153 11 [.ref a, l1] (.ref a :: st) ws := R_aload_n hc_153 dX10_tellChapter_10 rfl rfl
theorem r_153_11 (ls st : List Value) (a : Nat) (ws : ai_W) : ai_Run 153 11 ls (.ref a :: st) ws = (ai_fget ws a 10 8).bind fun q => ai_Run 153 14 ls (q :: st) ws := R_getf hc_153 dX10_tellChapter_11 hv_153 (w := 663) rfl rfl
theorem r_153_14 (ls : List Value) (r : Nat) (ws : ai_W) : ai_Run 153 14 ls [.ref r] ws = (ai_Call 151 [.ref r] ws).bind fun q => ai_Run 153 17 ls (q.1.toList ++ []) q.2 := R_callV hc_153 dX10_tellChapter_14 hv_153 (w := 312) rfl (ai_lt3 hf_151 hf_153 hL_151 ho_151 ho_153 rfl) hk_151 (by rw [hn_151]; rfl) rfl (Nat.le_of_ble_eq_true rfl) rfl
theorem r_153_17 (l1 : Value) (a : Nat) (st : List Value) (ws : ai_W) : ai_Run 153 17 [.ref a, l1] st ws = ai_Run 153 18 [.ref a, l1] (.ref a :: st) ws := R_aload_n hc_153 dX10_tellChapter_17 rfl rfl
theorem r_153_18 (ls st : List Value) (a : Nat) (ws : ai_W) : ai_Run 153 18 ls (.ref a :: st) ws = (ai_fget ws a 10 8).bind fun q => ai_Run 153 21 ls (q :: st) ws := R_getf hc_153 dX10_tellChapter_18 hv_153 (w := 663) rfl rfl
theorem r_153_21 (l0 : Value) (a : Int32) (st : List Value) (ws : ai_W) : ai_Run 153 21 [l0, .int a] st ws = ai_Run 153 22 [l0, .int a] (.int a :: st) ws := R_iload_n hc_153 dX10_tellChapter_21 rfl rfl
theorem r_153_22 (ls : List Value) (r : Nat) (b0 : Int32) (ws : ai_W) : ai_Run 153 22 ls [.int b0, .ref r] ws = (ai_Call 31 [.ref r, .int b0] ws).bind fun q => ai_Run 153 25 ls (q.1.toList ++ []) q.2 := R_callV hc_153 dX10_tellChapter_22 hv_153 (w := 316) rfl (ai_lt3 hf_31 hf_153 hL_31 ho_31 ho_153 rfl) hk_31 (by rw [hn_31]; rfl) rfl (Nat.le_of_ble_eq_true rfl) rfl
theorem r_153_25 (l1 : Value) (a : Nat) (st : List Value) (ws : ai_W) : ai_Run 153 25 [.ref a, l1] st ws = ai_Run 153 26 [.ref a, l1] (.ref a :: st) ws := R_aload_n hc_153 dX10_tellChapter_25 rfl rfl
theorem r_153_26 (l0 : Value) (a : Int32) (st : List Value) (ws : ai_W) : ai_Run 153 26 [l0, .int a] st ws = ai_Run 153 27 [l0, .int a] (.int a :: st) ws := R_iload_n hc_153 dX10_tellChapter_26 rfl rfl
theorem r_153_27 (ls : List Value) (r : Nat) (b0 : Int32) (ws : ai_W) : ai_Run 153 27 ls [.int b0, .ref r] ws = (ai_Call 37 [.ref r, .int b0] ws).bind fun q => ai_Run 153 30 ls (q.1.toList ++ []) q.2 := R_callV hc_153 dX10_tellChapter_27 hv_153 (w := 1115) rfl (ai_lt3 hf_37 hf_153 hL_37 ho_37 ho_153 rfl) hk_37 (by rw [hn_37]; rfl) rfl (Nat.le_of_ble_eq_true rfl) rfl
theorem r_153_30 (l1 : Value) (a : Nat) (st : List Value) (ws : ai_W) : ai_Run 153 30 [.ref a, l1] st ws = ai_Run 153 31 [.ref a, l1] (.ref a :: st) ws := R_aload_n hc_153 dX10_tellChapter_30 rfl rfl
theorem r_153_31 (ls st : List Value) (a : Nat) (ws : ai_W) : ai_Run 153 31 ls (.ref a :: st) ws = (ai_fget ws a 10 8).bind fun q => ai_Run 153 34 ls (q :: st) ws := R_getf hc_153 dX10_tellChapter_31 hv_153 (w := 663) rfl rfl
theorem r_153_34 (ls st : List Value) (ws : ai_W) : ai_Run 153 34 ls st ws = ai_Run 153 36 ls (.int 58 :: st) ws := R_bipush hc_153 dX10_tellChapter_34 (by decide) rfl
theorem r_153_36 (ls : List Value) (r : Nat) (b0 : Int32) (ws : ai_W) : ai_Run 153 36 ls [.int b0, .ref r] ws = (ai_Call 30 [.ref r, .int b0] ws).bind fun q => ai_Run 153 39 ls (q.1.toList ++ []) q.2 := R_callV hc_153 dX10_tellChapter_36 hv_153 (w := 325) rfl (ai_lt3 hf_30 hf_153 hL_30 ho_30 ho_153 rfl) hk_30 (by rw [hn_30]; rfl) rfl (Nat.le_of_ble_eq_true rfl) rfl
theorem r_153_39 (l1 : Value) (a : Nat) (st : List Value) (ws : ai_W) : ai_Run 153 39 [.ref a, l1] st ws = ai_Run 153 40 [.ref a, l1] (.ref a :: st) ws := R_aload_n hc_153 dX10_tellChapter_39 rfl rfl
theorem r_153_40 (l1 : Value) (a : Nat) (st : List Value) (ws : ai_W) : ai_Run 153 40 [.ref a, l1] st ws = ai_Run 153 41 [.ref a, l1] (.ref a :: st) ws := R_aload_n hc_153 dX10_tellChapter_40 rfl rfl
theorem r_153_41 (ls st : List Value) (a : Nat) (ws : ai_W) : ai_Run 153 41 ls (.ref a :: st) ws = (ai_fget ws a 10 1).bind fun q => ai_Run 153 44 ls (q :: st) ws := R_getf hc_153 dX10_tellChapter_41 hv_153 (w := 656) rfl rfl
theorem r_153_44 (l0 : Value) (a : Int32) (st : List Value) (ws : ai_W) : ai_Run 153 44 [l0, .int a] st ws = ai_Run 153 45 [l0, .int a] (.int a :: st) ws := R_iload_n hc_153 dX10_tellChapter_44 rfl rfl
theorem r_153_45 (ls : List Value) (r : Nat) (b0 : Int32) (s0 : Value) (ws : ai_W) : ai_Run 153 45 ls [.int b0, .ref r, s0] ws = (ai_Call 99 [.ref r, .int b0] ws).bind fun q => ai_Run 153 48 ls (q.1.toList ++ [s0]) q.2 := R_callV hc_153 dX10_tellChapter_45 hv_153 (w := 1107) rfl (ai_lt3 hf_99 hf_153 hL_99 ho_99 ho_153 rfl) hk_99 (by rw [hn_99]; rfl) rfl (Nat.le_of_ble_eq_true rfl) rfl
theorem r_153_48 (ls : List Value) (r : Nat) (b0 : Int32) (ws : ai_W) : ai_Run 153 48 ls [.int b0, .ref r] ws = (ai_Call 32 [.ref r, .int b0] ws).bind fun q => ai_Run 153 51 ls (q.1.toList ++ []) q.2 := R_callV hc_153 dX10_tellChapter_48 hv_153 (w := 1121) rfl (ai_lt3 hf_32 hf_153 hL_32 ho_32 ho_153 rfl) hk_32 (by rw [hn_32]; rfl) rfl (Nat.le_of_ble_eq_true rfl) rfl
theorem r_153_51 (l1 : Value) (a : Nat) (st : List Value) (ws : ai_W) : ai_Run 153 51 [.ref a, l1] st ws = ai_Run 153 52 [.ref a, l1] (.ref a :: st) ws := R_aload_n hc_153 dX10_tellChapter_51 rfl rfl
theorem r_153_52 (ls st : List Value) (a : Nat) (ws : ai_W) : ai_Run 153 52 ls (.ref a :: st) ws = (ai_fget ws a 10 8).bind fun q => ai_Run 153 55 ls (q :: st) ws := R_getf hc_153 dX10_tellChapter_52 hv_153 (w := 663) rfl rfl
theorem r_153_55 (ls : List Value) (r : Nat) (ws : ai_W) : ai_Run 153 55 ls [.ref r] ws = (ai_Call 152 [.ref r] ws).bind fun q => ai_Run 153 58 ls (q.1.toList ++ []) q.2 := R_callV hc_153 dX10_tellChapter_55 hv_153 (w := 338) rfl (ai_lt3 hf_152 hf_153 hL_152 ho_152 ho_153 rfl) hk_152 (by rw [hn_152]; rfl) rfl (Nat.le_of_ble_eq_true rfl) rfl
theorem r_153_58 (ls : List Value) (x : Int32) (ws : ai_W) : ai_Run 153 58 ls [.int x] ws = some (some (.int x), ws) := R_iret hc_153 dX10_tellChapter_58 ht_153
theorem dX10_tellCharacter_0 : decode cX10_tellCharacter 0 = .ok (.aload_n 0, 1) := by decide +kernel
theorem dX10_tellCharacter_1 : decode cX10_tellCharacter 1 = .ok (.getfield 21, 3) := by decide +kernel
theorem dX10_tellCharacter_4 : decode cX10_tellCharacter 4 = .ok (.iload_n 1, 1) := by decide +kernel
theorem dX10_tellCharacter_5 : decode cX10_tellCharacter 5 = .ok (.invokevirtual 119, 3) := by decide +kernel
theorem dX10_tellCharacter_8 : decode cX10_tellCharacter 8 = .ok (.ifCond .ne 5, 3) := by decide +kernel
theorem dX10_tellCharacter_11 : decode cX10_tellCharacter 11 = .ok (.iconst (-1), 1) := by decide +kernel
theorem dX10_tellCharacter_12 : decode cX10_tellCharacter 12 = .ok (.ireturn, 1) := by decide +kernel
theorem dX10_tellCharacter_13 : decode cX10_tellCharacter 13 = .ok (.aload_n 0, 1) := by decide +kernel
theorem dX10_tellCharacter_14 : decode cX10_tellCharacter 14 = .ok (.getfield 72, 3) := by decide +kernel
theorem dX10_tellCharacter_17 : decode cX10_tellCharacter 17 = .ok (.invokevirtual 235, 3) := by decide +kernel
theorem dX10_tellCharacter_20 : decode cX10_tellCharacter 20 = .ok (.aload_n 0, 1) := by decide +kernel
theorem dX10_tellCharacter_21 : decode cX10_tellCharacter 21 = .ok (.getfield 72, 3) := by decide +kernel
theorem dX10_tellCharacter_24 : decode cX10_tellCharacter 24 = .ok (.iload_n 1, 1) := by decide +kernel
theorem dX10_tellCharacter_25 : decode cX10_tellCharacter 25 = .ok (.invokevirtual 238, 3) := by decide +kernel
theorem dX10_tellCharacter_28 : decode cX10_tellCharacter 28 = .ok (.aload_n 0, 1) := by decide +kernel
theorem dX10_tellCharacter_29 : decode cX10_tellCharacter 29 = .ok (.getfield 72, 3) := by decide +kernel
theorem dX10_tellCharacter_32 : decode cX10_tellCharacter 32 = .ok (.bipush 58, 2) := by decide +kernel
theorem dX10_tellCharacter_34 : decode cX10_tellCharacter 34 = .ok (.invokevirtual 242, 3) := by decide +kernel
theorem dX10_tellCharacter_37 : decode cX10_tellCharacter 37 = .ok (.iconst 0, 1) := by decide +kernel
theorem dX10_tellCharacter_38 : decode cX10_tellCharacter 38 = .ok (.istore_n 2, 1) := by decide +kernel
theorem dX10_tellCharacter_39 : decode cX10_tellCharacter 39 = .ok (.iload_n 2, 1) := by decide +kernel
theorem dX10_tellCharacter_40 : decode cX10_tellCharacter 40 = .ok (.aload_n 0, 1) := by decide +kernel
theorem dX10_tellCharacter_41 : decode cX10_tellCharacter 41 = .ok (.getfield 21, 3) := by decide +kernel
theorem dX10_tellCharacter_44 : decode cX10_tellCharacter 44 = .ok (.getfield 245, 3) := by decide +kernel
theorem dX10_tellCharacter_47 : decode cX10_tellCharacter 47 = .ok (.iload_n 1, 1) := by decide +kernel
theorem dX10_tellCharacter_48 : decode cX10_tellCharacter 48 = .ok (.invokevirtual 158, 3) := by decide +kernel
theorem dX10_tellCharacter_51 : decode cX10_tellCharacter 51 = .ok (.if_icmp .ge 15, 3) := by decide +kernel
theorem dX10_tellCharacter_54 : decode cX10_tellCharacter 54 = .ok (.aload_n 0, 1) := by decide +kernel
theorem dX10_tellCharacter_55 : decode cX10_tellCharacter 55 = .ok (.iload_n 1, 1) := by decide +kernel
theorem dX10_tellCharacter_56 : decode cX10_tellCharacter 56 = .ok (.iload_n 2, 1) := by decide +kernel
theorem dX10_tellCharacter_57 : decode cX10_tellCharacter 57 = .ok (.invokevirtual 248, 3) := by decide +kernel
theorem dX10_tellCharacter_60 : decode cX10_tellCharacter 60 = .ok (.iinc 2 1, 3) := by decide +kernel
theorem dX10_tellCharacter_63 : decode cX10_tellCharacter 63 = .ok (.goto (-24), 3) := by decide +kernel
theorem dX10_tellCharacter_66 : decode cX10_tellCharacter 66 = .ok (.aload_n 0, 1) := by decide +kernel
theorem dX10_tellCharacter_67 : decode cX10_tellCharacter 67 = .ok (.getfield 72, 3) := by decide +kernel
theorem dX10_tellCharacter_70 : decode cX10_tellCharacter 70 = .ok (.invokevirtual 252, 3) := by decide +kernel
theorem dX10_tellCharacter_73 : decode cX10_tellCharacter 73 = .ok (.ireturn, 1) := by decide +kernel
theorem e_154 (r : Nat) (a0 : Int32) (ws : ai_W) : ai_Call 154 [.ref r, .int a0] ws = if ai_isob ws r 10 = true then ai_Run 154 0 [.ref r, .int a0, .null] [] ws else none := R_entV hk_154 ⟨⟨rfl, rfl⟩, Nat.le_of_ble_eq_true rfl⟩ rfl
theorem r_154_0 (l1 l2 : Value) (a : Nat) (st : List Value) (ws : ai_W) : ai_Run 154 0 [.ref a, l1, l2] st ws = ai_Run 154 1 [.ref a, l1, l2] (.ref a :: st) ws := R_aload_n hc_154 dX10_tellCharacter_0 rfl rfl
theorem r_154_1 (ls st : List Value) (a : Nat) (ws : ai_W) : ai_Run 154 1 ls (.ref a :: st) ws = (ai_fget ws a 10 0).bind fun q => ai_Run 154 4 ls (q :: st) ws := R_getf hc_154 dX10_tellCharacter_1 hv_154 (w := 655) rfl rfl
theorem r_154_4 (l0 l2 : Value) (a : Int32) (st : List Value) (ws : ai_W) : ai_Run 154 4 [l0, .int a, l2] st ws = ai_Run 154 5 [l0, .int a, l2] (.int a :: st) ws := R_iload_n hc_154 dX10_tellCharacter_4 rfl rfl
theorem r_154_5 (ls : List Value) (r : Nat) (b0 : Int32) (ws : ai_W) : ai_Run 154 5 ls [.int b0, .ref r] ws = (ai_Call 62 [.ref r, .int b0] ws).bind fun q => ai_Run 154 8 ls (q.1.toList ++ []) q.2 := R_callV hc_154 dX10_tellCharacter_5 hv_154 (w := 311) rfl (ai_lt3 hf_62 hf_154 hL_62 ho_62 ho_154 rfl) hk_62 (by rw [hn_62]; rfl) rfl (Nat.le_of_ble_eq_true rfl) rfl
theorem r_154_8 (ls st : List Value) (a : Int32) (ws : ai_W) : ai_Run 154 8 ls (.int a :: st) ws = if a = 0 then ai_Run 154 11 ls st ws else ai_Run 154 13 ls st ws := R_if_ne hc_154 dX10_tellCharacter_8 rfl rfl
theorem r_154_11 (ls st : List Value) (ws : ai_W) : ai_Run 154 11 ls st ws = ai_Run 154 12 ls (.int (-1) :: st) ws := R_iconst hc_154 dX10_tellCharacter_11 (by decide) rfl
theorem r_154_12 (ls : List Value) (x : Int32) (ws : ai_W) : ai_Run 154 12 ls [.int x] ws = some (some (.int x), ws) := R_iret hc_154 dX10_tellCharacter_12 ht_154
theorem r_154_13 (l1 l2 : Value) (a : Nat) (st : List Value) (ws : ai_W) : ai_Run 154 13 [.ref a, l1, l2] st ws = ai_Run 154 14 [.ref a, l1, l2] (.ref a :: st) ws := R_aload_n hc_154 dX10_tellCharacter_13 rfl rfl
theorem r_154_14 (ls st : List Value) (a : Nat) (ws : ai_W) : ai_Run 154 14 ls (.ref a :: st) ws = (ai_fget ws a 10 8).bind fun q => ai_Run 154 17 ls (q :: st) ws := R_getf hc_154 dX10_tellCharacter_14 hv_154 (w := 663) rfl rfl
theorem r_154_17 (ls : List Value) (r : Nat) (ws : ai_W) : ai_Run 154 17 ls [.ref r] ws = (ai_Call 151 [.ref r] ws).bind fun q => ai_Run 154 20 ls (q.1.toList ++ []) q.2 := R_callV hc_154 dX10_tellCharacter_17 hv_154 (w := 312) rfl (ai_lt3 hf_151 hf_154 hL_151 ho_151 ho_154 rfl) hk_151 (by rw [hn_151]; rfl) rfl (Nat.le_of_ble_eq_true rfl) rfl
theorem r_154_20 (l1 l2 : Value) (a : Nat) (st : List Value) (ws : ai_W) : ai_Run 154 20 [.ref a, l1, l2] st ws = ai_Run 154 21 [.ref a, l1, l2] (.ref a :: st) ws := R_aload_n hc_154 dX10_tellCharacter_20 rfl rfl
theorem r_154_21 (ls st : List Value) (a : Nat) (ws : ai_W) : ai_Run 154 21 ls (.ref a :: st) ws = (ai_fget ws a 10 8).bind fun q => ai_Run 154 24 ls (q :: st) ws := R_getf hc_154 dX10_tellCharacter_21 hv_154 (w := 663) rfl rfl
theorem r_154_24 (l0 l2 : Value) (a : Int32) (st : List Value) (ws : ai_W) : ai_Run 154 24 [l0, .int a, l2] st ws = ai_Run 154 25 [l0, .int a, l2] (.int a :: st) ws := R_iload_n hc_154 dX10_tellCharacter_24 rfl rfl
theorem r_154_25 (ls : List Value) (r : Nat) (b0 : Int32) (ws : ai_W) : ai_Run 154 25 ls [.int b0, .ref r] ws = (ai_Call 31 [.ref r, .int b0] ws).bind fun q => ai_Run 154 28 ls (q.1.toList ++ []) q.2 := R_callV hc_154 dX10_tellCharacter_25 hv_154 (w := 316) rfl (ai_lt3 hf_31 hf_154 hL_31 ho_31 ho_154 rfl) hk_31 (by rw [hn_31]; rfl) rfl (Nat.le_of_ble_eq_true rfl) rfl
theorem r_154_28 (l1 l2 : Value) (a : Nat) (st : List Value) (ws : ai_W) : ai_Run 154 28 [.ref a, l1, l2] st ws = ai_Run 154 29 [.ref a, l1, l2] (.ref a :: st) ws := R_aload_n hc_154 dX10_tellCharacter_28 rfl rfl
theorem r_154_29 (ls st : List Value) (a : Nat) (ws : ai_W) : ai_Run 154 29 ls (.ref a :: st) ws = (ai_fget ws a 10 8).bind fun q => ai_Run 154 32 ls (q :: st) ws := R_getf hc_154 dX10_tellCharacter_29 hv_154 (w := 663) rfl rfl
theorem r_154_32 (ls st : List Value) (ws : ai_W) : ai_Run 154 32 ls st ws = ai_Run 154 34 ls (.int 58 :: st) ws := R_bipush hc_154 dX10_tellCharacter_32 (by decide) rfl
theorem r_154_34 (ls : List Value) (r : Nat) (b0 : Int32) (ws : ai_W) : ai_Run 154 34 ls [.int b0, .ref r] ws = (ai_Call 30 [.ref r, .int b0] ws).bind fun q => ai_Run 154 37 ls (q.1.toList ++ []) q.2 := R_callV hc_154 dX10_tellCharacter_34 hv_154 (w := 325) rfl (ai_lt3 hf_30 hf_154 hL_30 ho_30 ho_154 rfl) hk_30 (by rw [hn_30]; rfl) rfl (Nat.le_of_ble_eq_true rfl) rfl
theorem r_154_37 (ls st : List Value) (ws : ai_W) : ai_Run 154 37 ls st ws = ai_Run 154 38 ls (.int 0 :: st) ws := R_iconst hc_154 dX10_tellCharacter_37 (by decide) rfl
theorem r_154_38 (l0 l1 l2 : Value) (a : Int32) (st : List Value) (ws : ai_W) : ai_Run 154 38 [l0, l1, l2] (.int a :: st) ws = ai_Run 154 39 [l0, l1, .int a] st ws := R_istore_n hc_154 dX10_tellCharacter_38 (Nat.le_of_ble_eq_true rfl) rfl rfl
theorem r_154_39 (l0 l1 : Value) (a : Int32) (st : List Value) (ws : ai_W) : ai_Run 154 39 [l0, l1, .int a] st ws = ai_Run 154 40 [l0, l1, .int a] (.int a :: st) ws := R_iload_n hc_154 dX10_tellCharacter_39 rfl rfl
theorem r_154_40 (l1 l2 : Value) (a : Nat) (st : List Value) (ws : ai_W) : ai_Run 154 40 [.ref a, l1, l2] st ws = ai_Run 154 41 [.ref a, l1, l2] (.ref a :: st) ws := R_aload_n hc_154 dX10_tellCharacter_40 rfl rfl
theorem r_154_41 (ls st : List Value) (a : Nat) (ws : ai_W) : ai_Run 154 41 ls (.ref a :: st) ws = (ai_fget ws a 10 0).bind fun q => ai_Run 154 44 ls (q :: st) ws := R_getf hc_154 dX10_tellCharacter_41 hv_154 (w := 655) rfl rfl
theorem r_154_44 (ls st : List Value) (a : Nat) (ws : ai_W) : ai_Run 154 44 ls (.ref a :: st) ws = (ai_fget ws a 0 3).bind fun q => ai_Run 154 47 ls (q :: st) ws := R_getf hc_154 dX10_tellCharacter_44 hv_154 (w := 478) rfl rfl
theorem r_154_47 (l0 l2 : Value) (a : Int32) (st : List Value) (ws : ai_W) : ai_Run 154 47 [l0, .int a, l2] st ws = ai_Run 154 48 [l0, .int a, l2] (.int a :: st) ws := R_iload_n hc_154 dX10_tellCharacter_47 rfl rfl
theorem r_154_48 (ls : List Value) (r : Nat) (b0 : Int32) (s0 : Value) (ws : ai_W) : ai_Run 154 48 ls [.int b0, .ref r, s0] ws = (ai_Call 12 [.ref r, .int b0] ws).bind fun q => ai_Run 154 51 ls (q.1.toList ++ [s0]) q.2 := R_callV hc_154 dX10_tellCharacter_48 hv_154 (w := 326) rfl (ai_lt3 hf_12 hf_154 hL_12 ho_12 ho_154 rfl) hk_12 (by rw [hn_12]; rfl) rfl (Nat.le_of_ble_eq_true rfl) rfl
theorem r_154_51 (ls st : List Value) (a b : Int32) (ws : ai_W) : ai_Run 154 51 ls (.int b :: .int a :: st) ws = if a < b then ai_Run 154 54 ls st ws else ai_Run 154 66 ls st ws := R_cmp_ge hc_154 dX10_tellCharacter_51 rfl rfl
theorem r_154_54 (l1 l2 : Value) (a : Nat) (st : List Value) (ws : ai_W) : ai_Run 154 54 [.ref a, l1, l2] st ws = ai_Run 154 55 [.ref a, l1, l2] (.ref a :: st) ws := R_aload_n hc_154 dX10_tellCharacter_54 rfl rfl
theorem r_154_55 (l0 l2 : Value) (a : Int32) (st : List Value) (ws : ai_W) : ai_Run 154 55 [l0, .int a, l2] st ws = ai_Run 154 56 [l0, .int a, l2] (.int a :: st) ws := R_iload_n hc_154 dX10_tellCharacter_55 rfl rfl
theorem r_154_56 (l0 l1 : Value) (a : Int32) (st : List Value) (ws : ai_W) : ai_Run 154 56 [l0, l1, .int a] st ws = ai_Run 154 57 [l0, l1, .int a] (.int a :: st) ws := R_iload_n hc_154 dX10_tellCharacter_56 rfl rfl
theorem r_154_57 (ls : List Value) (r : Nat) (b0 : Int32) (b1 : Int32) (ws : ai_W) : ai_Run 154 57 ls [.int b1, .int b0, .ref r] ws = (ai_Call 34 [.ref r, .int b0, .int b1] ws).bind fun q => ai_Run 154 60 ls (q.1.toList ++ []) q.2 := R_callV hc_154 dX10_tellCharacter_57 hv_154 (w := 327) rfl (ai_lt3 hf_34 hf_154 hL_34 ho_34 ho_154 rfl) hk_34 (by rw [hn_34]; rfl) rfl (Nat.le_of_ble_eq_true rfl) rfl
theorem r_154_60 (l0 l1 : Value) (a : Int32) (st : List Value) (ws : ai_W) : ai_Run 154 60 [l0, l1, .int a] st ws = ai_Run 154 63 [l0, l1, .int (a + 1)] st ws := R_iinc hc_154 dX10_tellCharacter_60 rfl (by decide) rfl rfl
theorem r_154_63 (ls st : List Value) (ws : ai_W) : ai_Run 154 63 ls st ws = ai_Run 154 39 ls st ws := R_goto hc_154 dX10_tellCharacter_63 rfl
theorem r_154_66 (l1 l2 : Value) (a : Nat) (st : List Value) (ws : ai_W) : ai_Run 154 66 [.ref a, l1, l2] st ws = ai_Run 154 67 [.ref a, l1, l2] (.ref a :: st) ws := R_aload_n hc_154 dX10_tellCharacter_66 rfl rfl
theorem r_154_67 (ls st : List Value) (a : Nat) (ws : ai_W) : ai_Run 154 67 ls (.ref a :: st) ws = (ai_fget ws a 10 8).bind fun q => ai_Run 154 70 ls (q :: st) ws := R_getf hc_154 dX10_tellCharacter_67 hv_154 (w := 663) rfl rfl
theorem r_154_70 (ls : List Value) (r : Nat) (ws : ai_W) : ai_Run 154 70 ls [.ref r] ws = (ai_Call 152 [.ref r] ws).bind fun q => ai_Run 154 73 ls (q.1.toList ++ []) q.2 := R_callV hc_154 dX10_tellCharacter_70 hv_154 (w := 338) rfl (ai_lt3 hf_152 hf_154 hL_152 ho_152 ho_154 rfl) hk_152 (by rw [hn_152]; rfl) rfl (Nat.le_of_ble_eq_true rfl) rfl
theorem r_154_73 (ls : List Value) (x : Int32) (ws : ai_W) : ai_Run 154 73 ls [.int x] ws = some (some (.int x), ws) := R_iret hc_154 dX10_tellCharacter_73 ht_154
theorem dX10_tellJury_0 : decode cX10_tellJury 0 = .ok (.aload_n 0, 1) := by decide +kernel
theorem dX10_tellJury_1 : decode cX10_tellJury 1 = .ok (.getfield 72, 3) := by decide +kernel
theorem dX10_tellJury_4 : decode cX10_tellJury 4 = .ok (.invokevirtual 235, 3) := by decide +kernel
theorem dX10_tellJury_7 : decode cX10_tellJury 7 = .ok (.iconst 0, 1) := by decide +kernel
theorem dX10_tellJury_8 : decode cX10_tellJury 8 = .ok (.istore_n 1, 1) := by decide +kernel
theorem dX10_tellJury_9 : decode cX10_tellJury 9 = .ok (.iload_n 1, 1) := by decide +kernel
theorem dX10_tellJury_10 : decode cX10_tellJury 10 = .ok (.bipush 7, 2) := by decide +kernel
theorem dX10_tellJury_12 : decode cX10_tellJury 12 = .ok (.if_icmp .ge 50, 3) := by decide +kernel
theorem dX10_tellJury_15 : decode cX10_tellJury 15 = .ok (.aload_n 0, 1) := by decide +kernel
theorem dX10_tellJury_16 : decode cX10_tellJury 16 = .ok (.getfield 31, 3) := by decide +kernel
theorem dX10_tellJury_19 : decode cX10_tellJury 19 = .ok (.iload_n 1, 1) := by decide +kernel
theorem dX10_tellJury_20 : decode cX10_tellJury 20 = .ok (.invokevirtual 261, 3) := by decide +kernel
theorem dX10_tellJury_23 : decode cX10_tellJury 23 = .ok (.ifCond .eq 24, 3) := by decide +kernel
theorem dX10_tellJury_26 : decode cX10_tellJury 26 = .ok (.aload_n 0, 1) := by decide +kernel
theorem dX10_tellJury_27 : decode cX10_tellJury 27 = .ok (.getfield 72, 3) := by decide +kernel
theorem dX10_tellJury_30 : decode cX10_tellJury 30 = .ok (.aload_n 0, 1) := by decide +kernel
theorem dX10_tellJury_31 : decode cX10_tellJury 31 = .ok (.getfield 21, 3) := by decide +kernel
theorem dX10_tellJury_34 : decode cX10_tellJury 34 = .ok (.getfield 264, 3) := by decide +kernel
theorem dX10_tellJury_37 : decode cX10_tellJury 37 = .ok (.iload_n 1, 1) := by decide +kernel
theorem dX10_tellJury_38 : decode cX10_tellJury 38 = .ok (.invokevirtual 158, 3) := by decide +kernel
theorem dX10_tellJury_41 : decode cX10_tellJury 41 = .ok (.invokevirtual 238, 3) := by decide +kernel
theorem dX10_tellJury_44 : decode cX10_tellJury 44 = .ok (.goto 12, 3) := by decide +kernel
theorem dX10_tellJury_47 : decode cX10_tellJury 47 = .ok (.aload_n 0, 1) := by decide +kernel
theorem dX10_tellJury_48 : decode cX10_tellJury 48 = .ok (.getfield 72, 3) := by decide +kernel
theorem dX10_tellJury_51 : decode cX10_tellJury 51 = .ok (.bipush 46, 2) := by decide +kernel
theorem dX10_tellJury_53 : decode cX10_tellJury 53 = .ok (.invokevirtual 242, 3) := by decide +kernel
theorem dX10_tellJury_56 : decode cX10_tellJury 56 = .ok (.iinc 1 1, 3) := by decide +kernel
theorem dX10_tellJury_59 : decode cX10_tellJury 59 = .ok (.goto (-50), 3) := by decide +kernel
theorem dX10_tellJury_62 : decode cX10_tellJury 62 = .ok (.aload_n 0, 1) := by decide +kernel
theorem dX10_tellJury_63 : decode cX10_tellJury 63 = .ok (.getfield 72, 3) := by decide +kernel
theorem dX10_tellJury_66 : decode cX10_tellJury 66 = .ok (.invokevirtual 252, 3) := by decide +kernel
theorem dX10_tellJury_69 : decode cX10_tellJury 69 = .ok (.ireturn, 1) := by decide +kernel
theorem e_155 (r : Nat)  (ws : ai_W) : ai_Call 155 [.ref r] ws = if ai_isob ws r 10 = true then ai_Run 155 0 [.ref r, .null] [] ws else none := R_entV hk_155 ⟨⟨rfl, rfl⟩, Nat.le_of_ble_eq_true rfl⟩ rfl
theorem r_155_0 (l1 : Value) (a : Nat) (st : List Value) (ws : ai_W) : ai_Run 155 0 [.ref a, l1] st ws = ai_Run 155 1 [.ref a, l1] (.ref a :: st) ws := R_aload_n hc_155 dX10_tellJury_0 rfl rfl
theorem r_155_1 (ls st : List Value) (a : Nat) (ws : ai_W) : ai_Run 155 1 ls (.ref a :: st) ws = (ai_fget ws a 10 8).bind fun q => ai_Run 155 4 ls (q :: st) ws := R_getf hc_155 dX10_tellJury_1 hv_155 (w := 663) rfl rfl
theorem r_155_4 (ls : List Value) (r : Nat) (ws : ai_W) : ai_Run 155 4 ls [.ref r] ws = (ai_Call 151 [.ref r] ws).bind fun q => ai_Run 155 7 ls (q.1.toList ++ []) q.2 := R_callV hc_155 dX10_tellJury_4 hv_155 (w := 312) rfl (ai_lt3 hf_151 hf_155 hL_151 ho_151 ho_155 rfl) hk_151 (by rw [hn_151]; rfl) rfl (Nat.le_of_ble_eq_true rfl) rfl
theorem r_155_7 (ls st : List Value) (ws : ai_W) : ai_Run 155 7 ls st ws = ai_Run 155 8 ls (.int 0 :: st) ws := R_iconst hc_155 dX10_tellJury_7 (by decide) rfl
theorem r_155_8 (l0 l1 : Value) (a : Int32) (st : List Value) (ws : ai_W) : ai_Run 155 8 [l0, l1] (.int a :: st) ws = ai_Run 155 9 [l0, .int a] st ws := R_istore_n hc_155 dX10_tellJury_8 (Nat.le_of_ble_eq_true rfl) rfl rfl
theorem r_155_9 (l0 : Value) (a : Int32) (st : List Value) (ws : ai_W) : ai_Run 155 9 [l0, .int a] st ws = ai_Run 155 10 [l0, .int a] (.int a :: st) ws := R_iload_n hc_155 dX10_tellJury_9 rfl rfl
theorem r_155_10 (ls st : List Value) (ws : ai_W) : ai_Run 155 10 ls st ws = ai_Run 155 12 ls (.int 7 :: st) ws := R_bipush hc_155 dX10_tellJury_10 (by decide) rfl
theorem r_155_12 (ls st : List Value) (a b : Int32) (ws : ai_W) : ai_Run 155 12 ls (.int b :: .int a :: st) ws = if a < b then ai_Run 155 15 ls st ws else ai_Run 155 62 ls st ws := R_cmp_ge hc_155 dX10_tellJury_12 rfl rfl
theorem r_155_15 (l1 : Value) (a : Nat) (st : List Value) (ws : ai_W) : ai_Run 155 15 [.ref a, l1] st ws = ai_Run 155 16 [.ref a, l1] (.ref a :: st) ws := R_aload_n hc_155 dX10_tellJury_15 rfl rfl
theorem r_155_16 (ls st : List Value) (a : Nat) (ws : ai_W) : ai_Run 155 16 ls (.ref a :: st) ws = (ai_fget ws a 10 2).bind fun q => ai_Run 155 19 ls (q :: st) ws := R_getf hc_155 dX10_tellJury_16 hv_155 (w := 657) rfl rfl
theorem r_155_19 (l0 : Value) (a : Int32) (st : List Value) (ws : ai_W) : ai_Run 155 19 [l0, .int a] st ws = ai_Run 155 20 [l0, .int a] (.int a :: st) ws := R_iload_n hc_155 dX10_tellJury_19 rfl rfl
theorem r_155_20 (ls : List Value) (r : Nat) (b0 : Int32) (ws : ai_W) : ai_Run 155 20 ls [.int b0, .ref r] ws = (ai_Call 21 [.ref r, .int b0] ws).bind fun q => ai_Run 155 23 ls (q.1.toList ++ []) q.2 := R_callV hc_155 dX10_tellJury_20 hv_155 (w := 1155) rfl (ai_lt3 hf_21 hf_155 hL_21 ho_21 ho_155 rfl) hk_21 (by rw [hn_21]; rfl) rfl (Nat.le_of_ble_eq_true rfl) rfl
theorem r_155_23 (ls st : List Value) (a : Int32) (ws : ai_W) : ai_Run 155 23 ls (.int a :: st) ws = if a = 0 then ai_Run 155 47 ls st ws else ai_Run 155 26 ls st ws := R_if_eq hc_155 dX10_tellJury_23 rfl rfl
theorem r_155_26 (l1 : Value) (a : Nat) (st : List Value) (ws : ai_W) : ai_Run 155 26 [.ref a, l1] st ws = ai_Run 155 27 [.ref a, l1] (.ref a :: st) ws := R_aload_n hc_155 dX10_tellJury_26 rfl rfl
theorem r_155_27 (ls st : List Value) (a : Nat) (ws : ai_W) : ai_Run 155 27 ls (.ref a :: st) ws = (ai_fget ws a 10 8).bind fun q => ai_Run 155 30 ls (q :: st) ws := R_getf hc_155 dX10_tellJury_27 hv_155 (w := 663) rfl rfl
theorem r_155_30 (l1 : Value) (a : Nat) (st : List Value) (ws : ai_W) : ai_Run 155 30 [.ref a, l1] st ws = ai_Run 155 31 [.ref a, l1] (.ref a :: st) ws := R_aload_n hc_155 dX10_tellJury_30 rfl rfl
theorem r_155_31 (ls st : List Value) (a : Nat) (ws : ai_W) : ai_Run 155 31 ls (.ref a :: st) ws = (ai_fget ws a 10 0).bind fun q => ai_Run 155 34 ls (q :: st) ws := R_getf hc_155 dX10_tellJury_31 hv_155 (w := 655) rfl rfl
theorem r_155_34 (ls st : List Value) (a : Nat) (ws : ai_W) : ai_Run 155 34 ls (.ref a :: st) ws = (ai_fget ws a 0 9).bind fun q => ai_Run 155 37 ls (q :: st) ws := R_getf hc_155 dX10_tellJury_34 hv_155 (w := 494) rfl rfl
theorem r_155_37 (l0 : Value) (a : Int32) (st : List Value) (ws : ai_W) : ai_Run 155 37 [l0, .int a] st ws = ai_Run 155 38 [l0, .int a] (.int a :: st) ws := R_iload_n hc_155 dX10_tellJury_37 rfl rfl
theorem r_155_38 (ls : List Value) (r : Nat) (b0 : Int32) (s0 : Value) (ws : ai_W) : ai_Run 155 38 ls [.int b0, .ref r, s0] ws = (ai_Call 12 [.ref r, .int b0] ws).bind fun q => ai_Run 155 41 ls (q.1.toList ++ [s0]) q.2 := R_callV hc_155 dX10_tellJury_38 hv_155 (w := 326) rfl (ai_lt3 hf_12 hf_155 hL_12 ho_12 ho_155 rfl) hk_12 (by rw [hn_12]; rfl) rfl (Nat.le_of_ble_eq_true rfl) rfl
theorem r_155_41 (ls : List Value) (r : Nat) (b0 : Int32) (ws : ai_W) : ai_Run 155 41 ls [.int b0, .ref r] ws = (ai_Call 31 [.ref r, .int b0] ws).bind fun q => ai_Run 155 44 ls (q.1.toList ++ []) q.2 := R_callV hc_155 dX10_tellJury_41 hv_155 (w := 316) rfl (ai_lt3 hf_31 hf_155 hL_31 ho_31 ho_155 rfl) hk_31 (by rw [hn_31]; rfl) rfl (Nat.le_of_ble_eq_true rfl) rfl
theorem r_155_44 (ls st : List Value) (ws : ai_W) : ai_Run 155 44 ls st ws = ai_Run 155 56 ls st ws := R_goto hc_155 dX10_tellJury_44 rfl
theorem r_155_47 (l1 : Value) (a : Nat) (st : List Value) (ws : ai_W) : ai_Run 155 47 [.ref a, l1] st ws = ai_Run 155 48 [.ref a, l1] (.ref a :: st) ws := R_aload_n hc_155 dX10_tellJury_47 rfl rfl
theorem r_155_48 (ls st : List Value) (a : Nat) (ws : ai_W) : ai_Run 155 48 ls (.ref a :: st) ws = (ai_fget ws a 10 8).bind fun q => ai_Run 155 51 ls (q :: st) ws := R_getf hc_155 dX10_tellJury_48 hv_155 (w := 663) rfl rfl
theorem r_155_51 (ls st : List Value) (ws : ai_W) : ai_Run 155 51 ls st ws = ai_Run 155 53 ls (.int 46 :: st) ws := R_bipush hc_155 dX10_tellJury_51 (by decide) rfl
theorem r_155_53 (ls : List Value) (r : Nat) (b0 : Int32) (ws : ai_W) : ai_Run 155 53 ls [.int b0, .ref r] ws = (ai_Call 30 [.ref r, .int b0] ws).bind fun q => ai_Run 155 56 ls (q.1.toList ++ []) q.2 := R_callV hc_155 dX10_tellJury_53 hv_155 (w := 325) rfl (ai_lt3 hf_30 hf_155 hL_30 ho_30 ho_155 rfl) hk_30 (by rw [hn_30]; rfl) rfl (Nat.le_of_ble_eq_true rfl) rfl
theorem r_155_56 (l0 : Value) (a : Int32) (st : List Value) (ws : ai_W) : ai_Run 155 56 [l0, .int a] st ws = ai_Run 155 59 [l0, .int (a + 1)] st ws := R_iinc hc_155 dX10_tellJury_56 rfl (by decide) rfl rfl
theorem r_155_59 (ls st : List Value) (ws : ai_W) : ai_Run 155 59 ls st ws = ai_Run 155 9 ls st ws := R_goto hc_155 dX10_tellJury_59 rfl
theorem r_155_62 (l1 : Value) (a : Nat) (st : List Value) (ws : ai_W) : ai_Run 155 62 [.ref a, l1] st ws = ai_Run 155 63 [.ref a, l1] (.ref a :: st) ws := R_aload_n hc_155 dX10_tellJury_62 rfl rfl
theorem r_155_63 (ls st : List Value) (a : Nat) (ws : ai_W) : ai_Run 155 63 ls (.ref a :: st) ws = (ai_fget ws a 10 8).bind fun q => ai_Run 155 66 ls (q :: st) ws := R_getf hc_155 dX10_tellJury_63 hv_155 (w := 663) rfl rfl
theorem r_155_66 (ls : List Value) (r : Nat) (ws : ai_W) : ai_Run 155 66 ls [.ref r] ws = (ai_Call 152 [.ref r] ws).bind fun q => ai_Run 155 69 ls (q.1.toList ++ []) q.2 := R_callV hc_155 dX10_tellJury_66 hv_155 (w := 338) rfl (ai_lt3 hf_152 hf_155 hL_152 ho_152 ho_155 rfl) hk_152 (by rw [hn_152]; rfl) rfl (Nat.le_of_ble_eq_true rfl) rfl
theorem r_155_69 (ls : List Value) (x : Int32) (ws : ai_W) : ai_Run 155 69 ls [.int x] ws = some (some (.int x), ws) := R_iret hc_155 dX10_tellJury_69 ht_155
theorem dX10_trial_0 : decode cX10_trial 0 = .ok (.aload_n 0, 1) := by decide +kernel
theorem dX10_trial_1 : decode cX10_trial 1 = .ok (.invokevirtual 76, 3) := by decide +kernel
theorem dX10_trial_4 : decode cX10_trial 4 = .ok (.aload_n 0, 1) := by decide +kernel
theorem dX10_trial_5 : decode cX10_trial 5 = .ok (.aload_n 0, 1) := by decide +kernel
theorem dX10_trial_6 : decode cX10_trial 6 = .ok (.getfield 51, 3) := by decide +kernel
theorem dX10_trial_9 : decode cX10_trial 9 = .ok (.iload_n 1, 1) := by decide +kernel
theorem dX10_trial_10 : decode cX10_trial 10 = .ok (.iload_n 2, 1) := by decide +kernel
theorem dX10_trial_11 : decode cX10_trial 11 = .ok (.iload_n 3, 1) := by decide +kernel
theorem dX10_trial_12 : decode cX10_trial 12 = .ok (.invokevirtual 116, 3) := by decide +kernel
theorem dX10_trial_15 : decode cX10_trial 15 = .ok (.invokevirtual 83, 3) := by decide +kernel
theorem dX10_trial_18 : decode cX10_trial 18 = .ok (.ireturn, 1) := by decide +kernel
theorem e_156 (r : Nat) (a0 : Int32) (a1 : Int32) (a2 : Int32) (ws : ai_W) : ai_Call 156 [.ref r, .int a0, .int a1, .int a2] ws = if ai_isob ws r 10 = true then ai_Run 156 0 [.ref r, .int a0, .int a1, .int a2] [] ws else none := R_entV hk_156 ⟨⟨rfl, rfl⟩, Nat.le_of_ble_eq_true rfl⟩ rfl
theorem r_156_0 (l1 l2 l3 : Value) (a : Nat) (st : List Value) (ws : ai_W) : ai_Run 156 0 [.ref a, l1, l2, l3] st ws = ai_Run 156 1 [.ref a, l1, l2, l3] (.ref a :: st) ws := R_aload_n hc_156 dX10_trial_0 rfl rfl
theorem r_156_1 (ls : List Value) (r : Nat) (ws : ai_W) : ai_Run 156 1 ls [.ref r] ws = (ai_Call 46 [.ref r] ws).bind fun q => ai_Run 156 4 ls (q.1.toList ++ []) q.2 := R_callV hc_156 dX10_trial_1 hv_156 (w := 48) rfl (ai_lt3 hf_46 hf_156 hL_46 ho_46 ho_156 rfl) hk_46 (by rw [hn_46]; rfl) rfl (Nat.le_of_ble_eq_true rfl) rfl
theorem r_156_4 (l1 l2 l3 : Value) (a : Nat) (st : List Value) (ws : ai_W) : ai_Run 156 4 [.ref a, l1, l2, l3] st ws = ai_Run 156 5 [.ref a, l1, l2, l3] (.ref a :: st) ws := R_aload_n hc_156 dX10_trial_4 rfl rfl
theorem r_156_5 (l1 l2 l3 : Value) (a : Nat) (st : List Value) (ws : ai_W) : ai_Run 156 5 [.ref a, l1, l2, l3] st ws = ai_Run 156 6 [.ref a, l1, l2, l3] (.ref a :: st) ws := R_aload_n hc_156 dX10_trial_5 rfl rfl
theorem r_156_6 (ls st : List Value) (a : Nat) (ws : ai_W) : ai_Run 156 6 ls (.ref a :: st) ws = (ai_fget ws a 10 5).bind fun q => ai_Run 156 9 ls (q :: st) ws := R_getf hc_156 dX10_trial_6 hv_156 (w := 660) rfl rfl
theorem r_156_9 (l0 l2 l3 : Value) (a : Int32) (st : List Value) (ws : ai_W) : ai_Run 156 9 [l0, .int a, l2, l3] st ws = ai_Run 156 10 [l0, .int a, l2, l3] (.int a :: st) ws := R_iload_n hc_156 dX10_trial_9 rfl rfl
theorem r_156_10 (l0 l1 l3 : Value) (a : Int32) (st : List Value) (ws : ai_W) : ai_Run 156 10 [l0, l1, .int a, l3] st ws = ai_Run 156 11 [l0, l1, .int a, l3] (.int a :: st) ws := R_iload_n hc_156 dX10_trial_10 rfl rfl
theorem r_156_11 (l0 l1 l2 : Value) (a : Int32) (st : List Value) (ws : ai_W) : ai_Run 156 11 [l0, l1, l2, .int a] st ws = ai_Run 156 12 [l0, l1, l2, .int a] (.int a :: st) ws := R_iload_n hc_156 dX10_trial_11 rfl rfl
theorem r_156_12 (ls : List Value) (r : Nat) (b0 : Int32) (b1 : Int32) (b2 : Int32) (s0 : Value) (ws : ai_W) : ai_Run 156 12 ls [.int b2, .int b1, .int b0, .ref r, s0] ws = (ai_Call 90 [.ref r, .int b0, .int b1, .int b2] ws).bind fun q => ai_Run 156 15 ls (q.1.toList ++ [s0]) q.2 := R_callV hc_156 dX10_trial_12 hv_156 (w := 740) rfl (ai_lt3 hf_90 hf_156 hL_90 ho_90 ho_156 rfl) hk_90 (by rw [hn_90]; rfl) rfl (Nat.le_of_ble_eq_true rfl) rfl
theorem r_156_15 (ls : List Value) (r : Nat) (b0 : Int32) (ws : ai_W) : ai_Run 156 15 ls [.int b0, .ref r] ws = (ai_Call 51 [.ref r, .int b0] ws).bind fun q => ai_Run 156 18 ls (q.1.toList ++ []) q.2 := R_callV hc_156 dX10_trial_15 hv_156 (w := 88) rfl (ai_lt3 hf_51 hf_156 hL_51 ho_51 ho_156 rfl) hk_51 (by rw [hn_51]; rfl) rfl (Nat.le_of_ble_eq_true rfl) rfl
theorem r_156_18 (ls : List Value) (x : Int32) (ws : ai_W) : ai_Run 156 18 ls [.int x] ws = some (some (.int x), ws) := R_iret hc_156 dX10_trial_18 ht_156
theorem dX10_undo_0 : decode cX10_undo 0 = .ok (.aload_n 0, 1) := by decide +kernel
theorem dX10_undo_1 : decode cX10_undo 1 = .ok (.getfield 58, 3) := by decide +kernel
theorem dX10_undo_4 : decode cX10_undo 4 = .ok (.aload_n 0, 1) := by decide +kernel
theorem dX10_undo_5 : decode cX10_undo 5 = .ok (.getfield 21, 3) := by decide +kernel
theorem dX10_undo_8 : decode cX10_undo 8 = .ok (.invokevirtual 344, 3) := by decide +kernel
theorem dX10_undo_11 : decode cX10_undo 11 = .ok (.ifCond .eq 13, 3) := by decide +kernel
theorem dX10_undo_14 : decode cX10_undo 14 = .ok (.aload_n 0, 1) := by decide +kernel
theorem dX10_undo_15 : decode cX10_undo 15 = .ok (.getfield 58, 3) := by decide +kernel
theorem dX10_undo_18 : decode cX10_undo 18 = .ok (.invokevirtual 329, 3) := by decide +kernel
theorem dX10_undo_21 : decode cX10_undo 21 = .ok (.goto 5, 3) := by decide +kernel
theorem dX10_undo_24 : decode cX10_undo 24 = .ok (.bipush (-4), 2) := by decide +kernel
theorem dX10_undo_26 : decode cX10_undo 26 = .ok (.ireturn, 1) := by decide +kernel
theorem e_158 (r : Nat)  (ws : ai_W) : ai_Call 158 [.ref r] ws = if ai_isob ws r 10 = true then ai_Run 158 0 [.ref r] [] ws else none := R_entV hk_158 ⟨⟨rfl, rfl⟩, Nat.le_of_ble_eq_true rfl⟩ rfl
theorem r_158_0 (a : Nat) (st : List Value) (ws : ai_W) : ai_Run 158 0 [.ref a] st ws = ai_Run 158 1 [.ref a] (.ref a :: st) ws := R_aload_n hc_158 dX10_undo_0 rfl rfl
theorem r_158_1 (ls st : List Value) (a : Nat) (ws : ai_W) : ai_Run 158 1 ls (.ref a :: st) ws = (ai_fget ws a 10 6).bind fun q => ai_Run 158 4 ls (q :: st) ws := R_getf hc_158 dX10_undo_1 hv_158 (w := 661) rfl rfl
theorem r_158_4 (a : Nat) (st : List Value) (ws : ai_W) : ai_Run 158 4 [.ref a] st ws = ai_Run 158 5 [.ref a] (.ref a :: st) ws := R_aload_n hc_158 dX10_undo_4 rfl rfl
theorem r_158_5 (ls st : List Value) (a : Nat) (ws : ai_W) : ai_Run 158 5 ls (.ref a :: st) ws = (ai_fget ws a 10 0).bind fun q => ai_Run 158 8 ls (q :: st) ws := R_getf hc_158 dX10_undo_5 hv_158 (w := 655) rfl rfl
theorem r_158_8 (ls : List Value) (r : Nat) (b0 : Nat) (ws : ai_W) : ai_Run 158 8 ls [.ref b0, .ref r] ws = (ai_Call 157 [.ref r, .ref b0] ws).bind fun q => ai_Run 158 11 ls (q.1.toList ++ []) q.2 := R_callV hc_158 dX10_undo_8 hv_158 (w := 397) rfl (ai_lt3 hf_157 hf_158 hL_157 ho_157 ho_158 rfl) hk_157 (by rw [hn_157]; rfl) rfl (Nat.le_of_ble_eq_true rfl) rfl
theorem r_158_11 (ls st : List Value) (a : Int32) (ws : ai_W) : ai_Run 158 11 ls (.int a :: st) ws = if a = 0 then ai_Run 158 24 ls st ws else ai_Run 158 14 ls st ws := R_if_eq hc_158 dX10_undo_11 rfl rfl
theorem r_158_14 (a : Nat) (st : List Value) (ws : ai_W) : ai_Run 158 14 [.ref a] st ws = ai_Run 158 15 [.ref a] (.ref a :: st) ws := R_aload_n hc_158 dX10_undo_14 rfl rfl
theorem r_158_15 (ls st : List Value) (a : Nat) (ws : ai_W) : ai_Run 158 15 ls (.ref a :: st) ws = (ai_fget ws a 10 6).bind fun q => ai_Run 158 18 ls (q :: st) ws := R_getf hc_158 dX10_undo_15 hv_158 (w := 661) rfl rfl
theorem r_158_18 (ls : List Value) (r : Nat) (ws : ai_W) : ai_Run 158 18 ls [.ref r] ws = (ai_Call 27 [.ref r] ws).bind fun q => ai_Run 158 21 ls (q.1.toList ++ []) q.2 := R_callV hc_158 dX10_undo_18 hv_158 (w := 381) rfl (ai_lt3 hf_27 hf_158 hL_27 ho_27 ho_158 rfl) hk_27 (by rw [hn_27]; rfl) rfl (Nat.le_of_ble_eq_true rfl) rfl
theorem r_158_21 (ls st : List Value) (ws : ai_W) : ai_Run 158 21 ls st ws = ai_Run 158 26 ls st ws := R_goto hc_158 dX10_undo_21 rfl
theorem r_158_24 (ls st : List Value) (ws : ai_W) : ai_Run 158 24 ls st ws = ai_Run 158 26 ls (.int (-4) :: st) ws := R_bipush hc_158 dX10_undo_24 (by decide) rfl
theorem r_158_26 (ls : List Value) (x : Int32) (ws : ai_W) : ai_Run 158 26 ls [.int x] ws = some (some (.int x), ws) := R_iret hc_158 dX10_undo_26 ht_158
theorem dX10_would_0 : decode cX10_would 0 = .ok (.iload_n 1, 1) := by decide +kernel
theorem dX10_would_1 : decode cX10_would 1 = .ok (.invokestatic 223, 3) := by decide +kernel
theorem dX10_would_4 : decode cX10_would 4 = .ok (.ifCond .eq 18, 3) := by decide +kernel
theorem dX10_would_7 : decode cX10_would 7 = .ok (.aload_n 0, 1) := by decide +kernel
theorem dX10_would_8 : decode cX10_would 8 = .ok (.getfield 21, 3) := by decide +kernel
theorem dX10_would_11 : decode cX10_would 11 = .ok (.iload_n 3, 1) := by decide +kernel
theorem dX10_would_12 : decode cX10_would 12 = .ok (.iload 4, 2) := by decide +kernel
theorem dX10_would_14 : decode cX10_would 14 = .ok (.iload 5, 2) := by decide +kernel
theorem dX10_would_16 : decode cX10_would 16 = .ok (.invokevirtual 213, 3) := by decide +kernel
theorem dX10_would_19 : decode cX10_would 19 = .ok (.ifCond .ne 5, 3) := by decide +kernel
theorem dX10_would_22 : decode cX10_would 22 = .ok (.iconst (-1), 1) := by decide +kernel
theorem dX10_would_23 : decode cX10_would 23 = .ok (.ireturn, 1) := by decide +kernel
theorem dX10_would_24 : decode cX10_would 24 = .ok (.iload_n 2, 1) := by decide +kernel
theorem dX10_would_25 : decode cX10_would 25 = .ok (.invokestatic 226, 3) := by decide +kernel
theorem dX10_would_28 : decode cX10_would 28 = .ok (.ifCond .eq 9, 3) := by decide +kernel
theorem dX10_would_31 : decode cX10_would 31 = .ok (.iload_n 3, 1) := by decide +kernel
theorem dX10_would_32 : decode cX10_would 32 = .ok (.iload 4, 2) := by decide +kernel
theorem dX10_would_34 : decode cX10_would 34 = .ok (.if_icmp .ne 6, 3) := by decide +kernel
theorem dX10_would_37 : decode cX10_would 37 = .ok (.bipush (-2), 2) := by decide +kernel
theorem dX10_would_39 : decode cX10_would 39 = .ok (.ireturn, 1) := by decide +kernel
theorem dX10_would_40 : decode cX10_would 40 = .ok (.aload_n 0, 1) := by decide +kernel
theorem dX10_would_41 : decode cX10_would 41 = .ok (.getfield 27, 3) := by decide +kernel
theorem dX10_would_44 : decode cX10_would 44 = .ok (.iload_n 3, 1) := by decide +kernel
theorem dX10_would_45 : decode cX10_would 45 = .ok (.iload 4, 2) := by decide +kernel
theorem dX10_would_47 : decode cX10_would 47 = .ok (.iload 5, 2) := by decide +kernel
theorem dX10_would_49 : decode cX10_would 49 = .ok (.invokevirtual 217, 3) := by decide +kernel
theorem dX10_would_52 : decode cX10_would 52 = .ok (.istore 6, 2) := by decide +kernel
theorem dX10_would_54 : decode cX10_would 54 = .ok (.aload_n 0, 1) := by decide +kernel
theorem dX10_would_55 : decode cX10_would 55 = .ok (.getfield 31, 3) := by decide +kernel
theorem dX10_would_58 : decode cX10_would 58 = .ok (.iload_n 1, 1) := by decide +kernel
theorem dX10_would_59 : decode cX10_would 59 = .ok (.iload_n 2, 1) := by decide +kernel
theorem dX10_would_60 : decode cX10_would 60 = .ok (.iload 6, 2) := by decide +kernel
theorem dX10_would_62 : decode cX10_would 62 = .ok (.invokevirtual 229, 3) := by decide +kernel
theorem dX10_would_65 : decode cX10_would 65 = .ok (.ifCond .eq 7, 3) := by decide +kernel
theorem dX10_would_68 : decode cX10_would 68 = .ok (.iconst 1, 1) := by decide +kernel
theorem dX10_would_69 : decode cX10_would 69 = .ok (.goto 4, 3) := by decide +kernel
theorem dX10_would_72 : decode cX10_would 72 = .ok (.iconst 0, 1) := by decide +kernel
theorem dX10_would_73 : decode cX10_would 73 = .ok (.ireturn, 1) := by decide +kernel
theorem e_160 (r : Nat) (a0 : Int32) (a1 : Int32) (a2 : Int32) (a3 : Int32) (a4 : Int32) (ws : ai_W) : ai_Call 160 [.ref r, .int a0, .int a1, .int a2, .int a3, .int a4] ws = if ai_isob ws r 10 = true then ai_Run 160 0 [.ref r, .int a0, .int a1, .int a2, .int a3, .int a4, .null] [] ws else none := R_entV hk_160 ⟨⟨rfl, rfl⟩, Nat.le_of_ble_eq_true rfl⟩ rfl
theorem r_160_0 (l0 l2 l3 l4 l5 l6 : Value) (a : Int32) (st : List Value) (ws : ai_W) : ai_Run 160 0 [l0, .int a, l2, l3, l4, l5, l6] st ws = ai_Run 160 1 [l0, .int a, l2, l3, l4, l5, l6] (.int a :: st) ws := R_iload_n hc_160 dX10_would_0 rfl rfl
theorem r_160_1 (ls : List Value) (b0 : Int32) (ws : ai_W) : ai_Run 160 1 ls [.int b0] ws = (ai_Call 78 [.int b0] ws).bind fun q => ai_Run 160 4 ls (q.1.toList ++ []) q.2 := R_callS hc_160 dX10_would_1 hv_160 (w := 252) rfl (ai_lt3 hf_78 hf_160 hL_78 ho_78 ho_160 rfl) hk_78 (by rw [hn_78]; rfl) rfl (Nat.le_of_ble_eq_true rfl) rfl
theorem r_160_4 (ls st : List Value) (a : Int32) (ws : ai_W) : ai_Run 160 4 ls (.int a :: st) ws = if a = 0 then ai_Run 160 22 ls st ws else ai_Run 160 7 ls st ws := R_if_eq hc_160 dX10_would_4 rfl rfl
theorem r_160_7 (l1 l2 l3 l4 l5 l6 : Value) (a : Nat) (st : List Value) (ws : ai_W) : ai_Run 160 7 [.ref a, l1, l2, l3, l4, l5, l6] st ws = ai_Run 160 8 [.ref a, l1, l2, l3, l4, l5, l6] (.ref a :: st) ws := R_aload_n hc_160 dX10_would_7 rfl rfl
theorem r_160_8 (ls st : List Value) (a : Nat) (ws : ai_W) : ai_Run 160 8 ls (.ref a :: st) ws = (ai_fget ws a 10 0).bind fun q => ai_Run 160 11 ls (q :: st) ws := R_getf hc_160 dX10_would_8 hv_160 (w := 655) rfl rfl
theorem r_160_11 (l0 l1 l2 l4 l5 l6 : Value) (a : Int32) (st : List Value) (ws : ai_W) : ai_Run 160 11 [l0, l1, l2, .int a, l4, l5, l6] st ws = ai_Run 160 12 [l0, l1, l2, .int a, l4, l5, l6] (.int a :: st) ws := R_iload_n hc_160 dX10_would_11 rfl rfl
theorem r_160_12 (l0 l1 l2 l3 l5 l6 : Value) (a : Int32) (st : List Value) (ws : ai_W) : ai_Run 160 12 [l0, l1, l2, l3, .int a, l5, l6] st ws = ai_Run 160 14 [l0, l1, l2, l3, .int a, l5, l6] (.int a :: st) ws := R_iload hc_160 dX10_would_12 rfl rfl
theorem r_160_14 (l0 l1 l2 l3 l4 l6 : Value) (a : Int32) (st : List Value) (ws : ai_W) : ai_Run 160 14 [l0, l1, l2, l3, l4, .int a, l6] st ws = ai_Run 160 16 [l0, l1, l2, l3, l4, .int a, l6] (.int a :: st) ws := R_iload hc_160 dX10_would_14 rfl rfl
theorem r_160_16 (ls : List Value) (r : Nat) (b0 : Int32) (b1 : Int32) (b2 : Int32) (ws : ai_W) : ai_Run 160 16 ls [.int b2, .int b1, .int b0, .ref r] ws = (ai_Call 83 [.ref r, .int b0, .int b1, .int b2] ws).bind fun q => ai_Run 160 19 ls (q.1.toList ++ []) q.2 := R_callV hc_160 dX10_would_16 hv_160 (w := 206) rfl (ai_lt3 hf_83 hf_160 hL_83 ho_83 ho_160 rfl) hk_83 (by rw [hn_83]; rfl) rfl (Nat.le_of_ble_eq_true rfl) rfl
theorem r_160_19 (ls st : List Value) (a : Int32) (ws : ai_W) : ai_Run 160 19 ls (.int a :: st) ws = if a = 0 then ai_Run 160 22 ls st ws else ai_Run 160 24 ls st ws := R_if_ne hc_160 dX10_would_19 rfl rfl
theorem r_160_22 (ls st : List Value) (ws : ai_W) : ai_Run 160 22 ls st ws = ai_Run 160 23 ls (.int (-1) :: st) ws := R_iconst hc_160 dX10_would_22 (by decide) rfl
theorem r_160_23 (ls : List Value) (x : Int32) (ws : ai_W) : ai_Run 160 23 ls [.int x] ws = some (some (.int x), ws) := R_iret hc_160 dX10_would_23 ht_160
theorem r_160_24 (l0 l1 l3 l4 l5 l6 : Value) (a : Int32) (st : List Value) (ws : ai_W) : ai_Run 160 24 [l0, l1, .int a, l3, l4, l5, l6] st ws = ai_Run 160 25 [l0, l1, .int a, l3, l4, l5, l6] (.int a :: st) ws := R_iload_n hc_160 dX10_would_24 rfl rfl
theorem r_160_25 (ls : List Value) (b0 : Int32) (ws : ai_W) : ai_Run 160 25 ls [.int b0] ws = (ai_Call 80 [.int b0] ws).bind fun q => ai_Run 160 28 ls (q.1.toList ++ []) q.2 := R_callS hc_160 dX10_would_25 hv_160 (w := 253) rfl (ai_lt3 hf_80 hf_160 hL_80 ho_80 ho_160 rfl) hk_80 (by rw [hn_80]; rfl) rfl (Nat.le_of_ble_eq_true rfl) rfl
theorem r_160_28 (ls st : List Value) (a : Int32) (ws : ai_W) : ai_Run 160 28 ls (.int a :: st) ws = if a = 0 then ai_Run 160 37 ls st ws else ai_Run 160 31 ls st ws := R_if_eq hc_160 dX10_would_28 rfl rfl
theorem r_160_31 (l0 l1 l2 l4 l5 l6 : Value) (a : Int32) (st : List Value) (ws : ai_W) : ai_Run 160 31 [l0, l1, l2, .int a, l4, l5, l6] st ws = ai_Run 160 32 [l0, l1, l2, .int a, l4, l5, l6] (.int a :: st) ws := R_iload_n hc_160 dX10_would_31 rfl rfl
theorem r_160_32 (l0 l1 l2 l3 l5 l6 : Value) (a : Int32) (st : List Value) (ws : ai_W) : ai_Run 160 32 [l0, l1, l2, l3, .int a, l5, l6] st ws = ai_Run 160 34 [l0, l1, l2, l3, .int a, l5, l6] (.int a :: st) ws := R_iload hc_160 dX10_would_32 rfl rfl
theorem r_160_34 (ls st : List Value) (a b : Int32) (ws : ai_W) : ai_Run 160 34 ls (.int b :: .int a :: st) ws = if a = b then ai_Run 160 37 ls st ws else ai_Run 160 40 ls st ws := R_cmp_ne hc_160 dX10_would_34 rfl rfl
theorem r_160_37 (ls st : List Value) (ws : ai_W) : ai_Run 160 37 ls st ws = ai_Run 160 39 ls (.int (-2) :: st) ws := R_bipush hc_160 dX10_would_37 (by decide) rfl
theorem r_160_39 (ls : List Value) (x : Int32) (ws : ai_W) : ai_Run 160 39 ls [.int x] ws = some (some (.int x), ws) := R_iret hc_160 dX10_would_39 ht_160
theorem r_160_40 (l1 l2 l3 l4 l5 l6 : Value) (a : Nat) (st : List Value) (ws : ai_W) : ai_Run 160 40 [.ref a, l1, l2, l3, l4, l5, l6] st ws = ai_Run 160 41 [.ref a, l1, l2, l3, l4, l5, l6] (.ref a :: st) ws := R_aload_n hc_160 dX10_would_40 rfl rfl
theorem r_160_41 (ls st : List Value) (a : Nat) (ws : ai_W) : ai_Run 160 41 ls (.ref a :: st) ws = (ai_fget ws a 10 1).bind fun q => ai_Run 160 44 ls (q :: st) ws := R_getf hc_160 dX10_would_41 hv_160 (w := 656) rfl rfl
theorem r_160_44 (l0 l1 l2 l4 l5 l6 : Value) (a : Int32) (st : List Value) (ws : ai_W) : ai_Run 160 44 [l0, l1, l2, .int a, l4, l5, l6] st ws = ai_Run 160 45 [l0, l1, l2, .int a, l4, l5, l6] (.int a :: st) ws := R_iload_n hc_160 dX10_would_44 rfl rfl
theorem r_160_45 (l0 l1 l2 l3 l5 l6 : Value) (a : Int32) (st : List Value) (ws : ai_W) : ai_Run 160 45 [l0, l1, l2, l3, .int a, l5, l6] st ws = ai_Run 160 47 [l0, l1, l2, l3, .int a, l5, l6] (.int a :: st) ws := R_iload hc_160 dX10_would_45 rfl rfl
theorem r_160_47 (l0 l1 l2 l3 l4 l6 : Value) (a : Int32) (st : List Value) (ws : ai_W) : ai_Run 160 47 [l0, l1, l2, l3, l4, .int a, l6] st ws = ai_Run 160 49 [l0, l1, l2, l3, l4, .int a, l6] (.int a :: st) ws := R_iload hc_160 dX10_would_47 rfl rfl
theorem r_160_49 (ls : List Value) (r : Nat) (b0 : Int32) (b1 : Int32) (b2 : Int32) (ws : ai_W) : ai_Run 160 49 ls [.int b2, .int b1, .int b0, .ref r] ws = (ai_Call 86 [.ref r, .int b0, .int b1, .int b2] ws).bind fun q => ai_Run 160 52 ls (q.1.toList ++ []) q.2 := R_callV hc_160 dX10_would_49 hv_160 (w := 216) rfl (ai_lt3 hf_86 hf_160 hL_86 ho_86 ho_160 rfl) hk_86 (by rw [hn_86]; rfl) rfl (Nat.le_of_ble_eq_true rfl) rfl
theorem r_160_52 (l0 l1 l2 l3 l4 l5 l6 : Value) (a : Int32) (st : List Value) (ws : ai_W) : ai_Run 160 52 [l0, l1, l2, l3, l4, l5, l6] (.int a :: st) ws = ai_Run 160 54 [l0, l1, l2, l3, l4, l5, .int a] st ws := R_istore hc_160 dX10_would_52 (Nat.le_of_ble_eq_true rfl) rfl rfl
theorem r_160_54 (l1 l2 l3 l4 l5 l6 : Value) (a : Nat) (st : List Value) (ws : ai_W) : ai_Run 160 54 [.ref a, l1, l2, l3, l4, l5, l6] st ws = ai_Run 160 55 [.ref a, l1, l2, l3, l4, l5, l6] (.ref a :: st) ws := R_aload_n hc_160 dX10_would_54 rfl rfl
theorem r_160_55 (ls st : List Value) (a : Nat) (ws : ai_W) : ai_Run 160 55 ls (.ref a :: st) ws = (ai_fget ws a 10 2).bind fun q => ai_Run 160 58 ls (q :: st) ws := R_getf hc_160 dX10_would_55 hv_160 (w := 657) rfl rfl
theorem r_160_58 (l0 l2 l3 l4 l5 l6 : Value) (a : Int32) (st : List Value) (ws : ai_W) : ai_Run 160 58 [l0, .int a, l2, l3, l4, l5, l6] st ws = ai_Run 160 59 [l0, .int a, l2, l3, l4, l5, l6] (.int a :: st) ws := R_iload_n hc_160 dX10_would_58 rfl rfl
theorem r_160_59 (l0 l1 l3 l4 l5 l6 : Value) (a : Int32) (st : List Value) (ws : ai_W) : ai_Run 160 59 [l0, l1, .int a, l3, l4, l5, l6] st ws = ai_Run 160 60 [l0, l1, .int a, l3, l4, l5, l6] (.int a :: st) ws := R_iload_n hc_160 dX10_would_59 rfl rfl
theorem r_160_60 (l0 l1 l2 l3 l4 l5 : Value) (a : Int32) (st : List Value) (ws : ai_W) : ai_Run 160 60 [l0, l1, l2, l3, l4, l5, .int a] st ws = ai_Run 160 62 [l0, l1, l2, l3, l4, l5, .int a] (.int a :: st) ws := R_iload hc_160 dX10_would_60 rfl rfl
theorem r_160_62 (ls : List Value) (r : Nat) (b0 : Int32) (b1 : Int32) (b2 : Int32) (ws : ai_W) : ai_Run 160 62 ls [.int b2, .int b1, .int b0, .ref r] ws = (ai_Call 159 [.ref r, .int b0, .int b1, .int b2] ws).bind fun q => ai_Run 160 65 ls (q.1.toList ++ []) q.2 := R_callV hc_160 dX10_would_62 hv_160 (w := 256) rfl (ai_lt3 hf_159 hf_160 hL_159 ho_159 ho_160 rfl) hk_159 (by rw [hn_159]; rfl) rfl (Nat.le_of_ble_eq_true rfl) rfl
theorem r_160_65 (ls st : List Value) (a : Int32) (ws : ai_W) : ai_Run 160 65 ls (.int a :: st) ws = if a = 0 then ai_Run 160 72 ls st ws else ai_Run 160 68 ls st ws := R_if_eq hc_160 dX10_would_65 rfl rfl
theorem r_160_68 (ls st : List Value) (ws : ai_W) : ai_Run 160 68 ls st ws = ai_Run 160 69 ls (.int 1 :: st) ws := R_iconst hc_160 dX10_would_68 (by decide) rfl
theorem r_160_69 (ls st : List Value) (ws : ai_W) : ai_Run 160 69 ls st ws = ai_Run 160 73 ls st ws := R_goto hc_160 dX10_would_69 rfl
theorem r_160_72 (ls st : List Value) (ws : ai_W) : ai_Run 160 72 ls st ws = ai_Run 160 73 ls (.int 0 :: st) ws := R_iconst hc_160 dX10_would_72 (by decide) rfl
theorem r_160_73 (ls : List Value) (x : Int32) (ws : ai_W) : ai_Run 160 73 ls [.int x] ws = some (some (.int x), ws) := R_iret hc_160 dX10_would_73 ht_160
theorem dX10_write_0 : decode cX10_write 0 = .ok (.aload_n 0, 1) := by decide +kernel
theorem dX10_write_1 : decode cX10_write 1 = .ok (.invokevirtual 76, 3) := by decide +kernel
theorem dX10_write_4 : decode cX10_write 4 = .ok (.aload_n 0, 1) := by decide +kernel
theorem dX10_write_5 : decode cX10_write 5 = .ok (.aload_n 0, 1) := by decide +kernel
theorem dX10_write_6 : decode cX10_write 6 = .ok (.getfield 51, 3) := by decide +kernel
theorem dX10_write_9 : decode cX10_write 9 = .ok (.iload_n 1, 1) := by decide +kernel
theorem dX10_write_10 : decode cX10_write 10 = .ok (.iload_n 2, 1) := by decide +kernel
theorem dX10_write_11 : decode cX10_write 11 = .ok (.invokevirtual 100, 3) := by decide +kernel
theorem dX10_write_14 : decode cX10_write 14 = .ok (.invokevirtual 83, 3) := by decide +kernel
theorem dX10_write_17 : decode cX10_write 17 = .ok (.ireturn, 1) := by decide +kernel
theorem e_161 (r : Nat) (a0 : Int32) (a1 : Int32) (ws : ai_W) : ai_Call 161 [.ref r, .int a0, .int a1] ws = if ai_isob ws r 10 = true then ai_Run 161 0 [.ref r, .int a0, .int a1] [] ws else none := R_entV hk_161 ⟨⟨rfl, rfl⟩, Nat.le_of_ble_eq_true rfl⟩ rfl
theorem r_161_0 (l1 l2 : Value) (a : Nat) (st : List Value) (ws : ai_W) : ai_Run 161 0 [.ref a, l1, l2] st ws = ai_Run 161 1 [.ref a, l1, l2] (.ref a :: st) ws := R_aload_n hc_161 dX10_write_0 rfl rfl
theorem r_161_1 (ls : List Value) (r : Nat) (ws : ai_W) : ai_Run 161 1 ls [.ref r] ws = (ai_Call 46 [.ref r] ws).bind fun q => ai_Run 161 4 ls (q.1.toList ++ []) q.2 := R_callV hc_161 dX10_write_1 hv_161 (w := 48) rfl (ai_lt3 hf_46 hf_161 hL_46 ho_46 ho_161 rfl) hk_46 (by rw [hn_46]; rfl) rfl (Nat.le_of_ble_eq_true rfl) rfl
theorem r_161_4 (l1 l2 : Value) (a : Nat) (st : List Value) (ws : ai_W) : ai_Run 161 4 [.ref a, l1, l2] st ws = ai_Run 161 5 [.ref a, l1, l2] (.ref a :: st) ws := R_aload_n hc_161 dX10_write_4 rfl rfl
theorem r_161_5 (l1 l2 : Value) (a : Nat) (st : List Value) (ws : ai_W) : ai_Run 161 5 [.ref a, l1, l2] st ws = ai_Run 161 6 [.ref a, l1, l2] (.ref a :: st) ws := R_aload_n hc_161 dX10_write_5 rfl rfl
theorem r_161_6 (ls st : List Value) (a : Nat) (ws : ai_W) : ai_Run 161 6 ls (.ref a :: st) ws = (ai_fget ws a 10 5).bind fun q => ai_Run 161 9 ls (q :: st) ws := R_getf hc_161 dX10_write_6 hv_161 (w := 660) rfl rfl
theorem r_161_9 (l0 l2 : Value) (a : Int32) (st : List Value) (ws : ai_W) : ai_Run 161 9 [l0, .int a, l2] st ws = ai_Run 161 10 [l0, .int a, l2] (.int a :: st) ws := R_iload_n hc_161 dX10_write_9 rfl rfl
theorem r_161_10 (l0 l1 : Value) (a : Int32) (st : List Value) (ws : ai_W) : ai_Run 161 10 [l0, l1, .int a] st ws = ai_Run 161 11 [l0, l1, .int a] (.int a :: st) ws := R_iload_n hc_161 dX10_write_10 rfl rfl
theorem r_161_11 (ls : List Value) (r : Nat) (b0 : Int32) (b1 : Int32) (s0 : Value) (ws : ai_W) : ai_Run 161 11 ls [.int b1, .int b0, .ref r, s0] ws = (ai_Call 73 [.ref r, .int b0, .int b1] ws).bind fun q => ai_Run 161 14 ls (q.1.toList ++ [s0]) q.2 := R_callV hc_161 dX10_write_11 hv_161 (w := 703) rfl (ai_lt3 hf_73 hf_161 hL_73 ho_73 ho_161 rfl) hk_73 (by rw [hn_73]; rfl) rfl (Nat.le_of_ble_eq_true rfl) rfl
theorem r_161_14 (ls : List Value) (r : Nat) (b0 : Int32) (ws : ai_W) : ai_Run 161 14 ls [.int b0, .ref r] ws = (ai_Call 51 [.ref r, .int b0] ws).bind fun q => ai_Run 161 17 ls (q.1.toList ++ []) q.2 := R_callV hc_161 dX10_write_14 hv_161 (w := 88) rfl (ai_lt3 hf_51 hf_161 hL_51 ho_51 ho_161 rfl) hk_51 (by rw [hn_51]; rfl) rfl (Nat.le_of_ble_eq_true rfl) rfl
theorem r_161_17 (ls : List Value) (x : Int32) (ws : ai_W) : ai_Run 161 17 ls [.int x] ws = some (some (.int x), ws) := R_iret hc_161 dX10_write_17 ht_161
