/-! The law's walk. Printed by gen70.py. -/
def kb_0 : kb_B := ((0, 0, 0), fun _ => 0, fun _ _ => 0, fun _ _ => (-4), fun _ => (-4), fun _ => 0, fun _ _ => 0, fun _ => 0)
theorem kb_ok_0 : kb_ok kb_0 := ⟨by decide, by decide, fun _ => Nat.zero_le _, fun _ _ => rfl, fun _ k h => absurd h (Nat.not_lt_zero k), fun _ k h => absurd h (Nat.not_lt_zero _), fun _ => Or.inl rfl, fun _ => Nat.zero_le _, fun _ _ => Nat.zero_le _, fun _ => Nat.zero_le _, fun _ _ => Or.inl rfl, fun _ _ _ => rfl⟩
theorem kb_x_0 : kb_x xb_0 kb_0 := ⟨rfl, rfl, rfl, fun _ _ => rfl, fun _ k _ h => absurd h (Nat.not_lt_zero k), fun _ _ _ _ => rfl, fun _ _ => rfl, fun _ _ => rfl, fun _ _ _ _ => rfl, fun _ _ => rfl⟩
theorem kb_m_0 : kb_m (xm_s xw_0) kb_0 := by
  have h0 : ∀ j, (j < 3 ∨ 33 < j) → xm_s xw_0 j = 0 := fun j hj => if_neg (by omega)
  refine ⟨h0 0 (by decide), h0 1 (by decide), h0 2 (by decide), fun c _ => h0 _ (by omega), fun _ k _ h => absurd h (Nat.not_lt_zero k), fun _ _ h => absurd h (Nat.not_lt_zero _), fun h hh => if_pos (by omega), fun i _ => h0 _ (by omega), fun c o _ _ => h0 _ (by omega), fun k _ => h0 _ (by omega)⟩
theorem kr_0 : kr xw_0 := ⟨kb_0, [], none, kb_ok_0, kb_x_0, kb_m_0, ⟨by decide, rfl, rfl, ⟨0, by decide, rfl, fun i B h => absurd h (by simp)⟩, fun i B h => absurd h (by simp)⟩, ⟨rfl, rfl⟩, Or.inl ⟨rfl, rfl, rfl, rfl⟩, ⟨0, by decide, rfl, rfl, fun j h => absurd h (Nat.not_lt_zero j)⟩, ⟨0, by decide, rfl, rfl, fun j h => absurd h (Nat.not_lt_zero j)⟩⟩
section LAW
variable {p : Program} {l : Launch} {e : Env} {s : State} {m : MethodId} {args : Array Value} {below : List Frame} {meth : Method} {c : Code} {Q : State → Prop} {b0 L : Nat} {xs : Nat → Int32} {cI cB : ClassId} {dC : Nat → ClassId} {dI : Nat → Nat → Nat}
/-- one call of the script on both sides -/
theorem law_case (C : law_C p s m c b0 L xs cI cB dC dI args) (hL : L ≤ 3072) {y ym n idx idxm pc : Nat} {off : Int} (hy : y < 270) (hym : ym < 270) (hk : ai_kind y = 1) (hkm : ai_kind ym = 1) (hl : Cond.methodLink R_law idx (ai_name y) ∈ lw_tbl) (hlm : Cond.methodLink R_law idxm (ai_name ym) ∈ lw_tbl) (hn : n ≤ 5) (ho : law_ok pc ((.aload_n 1, 1) :: (law_args 1 n ++ (.invokevirtual idx, 3) :: (.aload_n 2, 1) :: (law_args 1 n ++ [(.invokevirtual idxm, 3), (.if_icmp .eq off, 3)]))) = true) (ht : ((pc + 1 + 5 * n + 3 + 1 + 5 * n + 3 : Nat) : Int) + off = ((1160 : Nat) : Int)) {i : Nat} (hks : ks y ym (law_vals xs i 1 n)) {arr : Array Slot} {H : Heap} {locs : List Loc} {w : xw_W} (hw : kr w) (hi : i + 6 ≤ L) (ha : lv_has arr 4 [(0, .ref b0), (1, .ref s.heap.size), (2, .ref (s.heap.size + 185)), (3, .int (nI i))]) (hP : va_P (dC, dI) vwCl (ai_w s.heap.size cI cB (wl w)) H) (hD : va_D (law_A s) (ai_w s.heap.size cI cB (wl w))) (hS : va_S (law_A s) s.heap H locs) (kk : ∀ (w1 : xw_W) (H1 : Heap) (locs1 : List Loc), kr w1 → va_P (dC, dI) vwCl (ai_w s.heap.size cI cB (wl w1)) H1 → va_D (law_A s) (ai_w s.heap.size cI cB (wl w1)) → va_S (law_A s) s.heap H1 locs1 → W p l e room_1 s m args below meth c H1 locs1 193 law_sl Q (F0 m 1160 arr [])) : W p l e room_1 s m args below meth c H locs 193 law_sl Q (F0 m pc arr []) := by
  obtain ⟨a, w1, w2, e1, e2, hw2⟩ := hks w hw
  have hx := C.1
  have hb := C.2.1
  have cap : ∀ w : xw_W, (wl w).length ≤ 600000 ∧ ai_sl (wl w) ≤ 7302250 := fun w => by
    rw [wl_len, wl_sl]
    unfold law_sl
    omega
  obtain ⟨d0, ho⟩ := law_ok_cons ho
  refine lv_aload_n hx hb d0 rfl (lv_at ha 1 rfl) ?_
  refine law_push C hL hS (lv_at ha 0 rfl) (lv_at ha 3 rfl) n 1 (pc + 1) [.ref s.heap.size] (by omega) hi ho (fun ho => ?_)
  obtain ⟨d1, ho⟩ := law_ok_cons ho
  have g1 := law_call (p := p) (l := l) (e := e) (below := below) (meth := meth) (Q := Q) (locs := locs) C (a := 0) (as2 := law_vals xs i 1 n) (rest := []) hy hk hl e1 ha.1 (by decide) d1 hP hD hS (wl_len w) (wl_sl w) (cap w1) (fun H1 locs1 hP1 hD1 hS1 => ?_)
  · rw [law_vals_cv] at g1
    exact g1
  · rw [wl_len, wl_sl]
    obtain ⟨d2, ho⟩ := law_ok_cons ho
    refine lv_aload_n hx hb d2 rfl (lv_at ha 2 rfl) ?_
    refine law_push C hL hS1 (lv_at ha 0 rfl) (lv_at ha 3 rfl) n 1 _ [.ref (s.heap.size + 185), .int a] (by omega) hi ho (fun ho => ?_)
    obtain ⟨d3, ho⟩ := law_ok_cons ho
    have g2 := law_call (p := p) (l := l) (e := e) (below := below) (meth := meth) (Q := Q) (locs := locs1) C (a := 185) (as2 := law_vals xs i 1 n) (rest := [.int a]) hym hkm hlm e2 ha.1 (by simp [Value.category]) d3 hP1 hD1 hS1 (wl_len w1) (wl_sl w1) (cap w2) (fun H2 locs2 hP2 hD2 hS2 => ?_)
    · rw [law_vals_cv] at g2
      exact g2
    · rw [wl_len, wl_sl]
      obtain ⟨d4, ho⟩ := law_ok_cons ho
      refine lv_icmp_eq hx hb d4 ht (fun _ => ?_) (fun h => absurd rfl h)
      exact kk w2 H2 locs2 hw2 hP2 hD2 hS2
end LAW

theorem law_l0 : Cond.methodLink R_law 13 (ai_name 92) ∈ lw_tbl := List.mem_of_getElem? (i := 350) (by decide +kernel)
theorem law_m0 : Cond.methodLink R_law 17 (ai_name 199) ∈ lw_tbl := List.mem_of_getElem? (i := 1073) (by decide +kernel)
theorem law_h0 : law_ok 192 ((.aload_n 1, 1) :: (law_args 1 0 ++ (.invokevirtual 13, 3) :: (.aload_n 2, 1) :: (law_args 1 0 ++ [(.invokevirtual 17, 3), (.if_icmp .eq 960, 3)]))) = true := by decide +kernel
theorem law_l1 : Cond.methodLink R_law 18 (ai_name 52) ∈ lw_tbl := List.mem_of_getElem? (i := 404) (by decide +kernel)
theorem law_m1 : Cond.methodLink R_law 21 (ai_name 188) ∈ lw_tbl := List.mem_of_getElem? (i := 1107) (by decide +kernel)
theorem law_h1 : law_ok 205 ((.aload_n 1, 1) :: (law_args 1 0 ++ (.invokevirtual 18, 3) :: (.aload_n 2, 1) :: (law_args 1 0 ++ [(.invokevirtual 21, 3), (.if_icmp .eq 947, 3)]))) = true := by decide +kernel
theorem law_l2 : Cond.methodLink R_law 22 (ai_name 109) ∈ lw_tbl := List.mem_of_getElem? (i := 412) (by decide +kernel)
theorem law_m2 : Cond.methodLink R_law 26 (ai_name 217) ∈ lw_tbl := List.mem_of_getElem? (i := 1115) (by decide +kernel)
theorem law_h2 : law_ok 218 ((.aload_n 1, 1) :: (law_args 1 2 ++ (.invokevirtual 22, 3) :: (.aload_n 2, 1) :: (law_args 1 2 ++ [(.invokevirtual 26, 3), (.if_icmp .eq 914, 3)]))) = true := by decide +kernel
theorem law_l3 : Cond.methodLink R_law 27 (ai_name 142) ∈ lw_tbl := List.mem_of_getElem? (i := 460) (by decide +kernel)
theorem law_m3 : Cond.methodLink R_law 30 (ai_name 252) ∈ lw_tbl := List.mem_of_getElem? (i := 1157) (by decide +kernel)
theorem law_h3 : law_ok 251 ((.aload_n 1, 1) :: (law_args 1 2 ++ (.invokevirtual 27, 3) :: (.aload_n 2, 1) :: (law_args 1 2 ++ [(.invokevirtual 30, 3), (.if_icmp .eq 881, 3)]))) = true := by decide +kernel
theorem law_l4 : Cond.methodLink R_law 31 (ai_name 149) ∈ lw_tbl := List.mem_of_getElem? (i := 468) (by decide +kernel)
theorem law_m4 : Cond.methodLink R_law 35 (ai_name 259) ∈ lw_tbl := List.mem_of_getElem? (i := 1165) (by decide +kernel)
theorem law_h4 : law_ok 284 ((.aload_n 1, 1) :: (law_args 1 1 ++ (.invokevirtual 31, 3) :: (.aload_n 2, 1) :: (law_args 1 1 ++ [(.invokevirtual 35, 3), (.if_icmp .eq 858, 3)]))) = true := by decide +kernel
theorem law_l5 : Cond.methodLink R_law 36 (ai_name 163) ∈ lw_tbl := List.mem_of_getElem? (i := 484) (by decide +kernel)
theorem law_m5 : Cond.methodLink R_law 39 (ai_name 269) ∈ lw_tbl := List.mem_of_getElem? (i := 1173) (by decide +kernel)
theorem law_h5 : law_ok 307 ((.aload_n 1, 1) :: (law_args 1 2 ++ (.invokevirtual 36, 3) :: (.aload_n 2, 1) :: (law_args 1 2 ++ [(.invokevirtual 39, 3), (.if_icmp .eq 825, 3)]))) = true := by decide +kernel
theorem law_l6 : Cond.methodLink R_law 40 (ai_name 152) ∈ lw_tbl := List.mem_of_getElem? (i := 497) (by decide +kernel)
theorem law_m6 : Cond.methodLink R_law 43 (ai_name 262) ∈ lw_tbl := List.mem_of_getElem? (i := 1185) (by decide +kernel)
theorem law_h6 : law_ok 340 ((.aload_n 1, 1) :: (law_args 1 2 ++ (.invokevirtual 40, 3) :: (.aload_n 2, 1) :: (law_args 1 2 ++ [(.invokevirtual 43, 3), (.if_icmp .eq 792, 3)]))) = true := by decide +kernel
theorem law_l7 : Cond.methodLink R_law 44 (ai_name 118) ∈ lw_tbl := List.mem_of_getElem? (i := 512) (by decide +kernel)
theorem law_m7 : Cond.methodLink R_law 48 (ai_name 243) ∈ lw_tbl := List.mem_of_getElem? (i := 1197) (by decide +kernel)
theorem law_h7 : law_ok 373 ((.aload_n 1, 1) :: (law_args 1 3 ++ (.invokevirtual 44, 3) :: (.aload_n 2, 1) :: (law_args 1 3 ++ [(.invokevirtual 48, 3), (.if_icmp .eq 749, 3)]))) = true := by decide +kernel
theorem law_l8 : Cond.methodLink R_law 49 (ai_name 145) ∈ lw_tbl := List.mem_of_getElem? (i := 524) (by decide +kernel)
theorem law_m8 : Cond.methodLink R_law 52 (ai_name 254) ∈ lw_tbl := List.mem_of_getElem? (i := 1209) (by decide +kernel)
theorem law_h8 : law_ok 416 ((.aload_n 1, 1) :: (law_args 1 2 ++ (.invokevirtual 49, 3) :: (.aload_n 2, 1) :: (law_args 1 2 ++ [(.invokevirtual 52, 3), (.if_icmp .eq 716, 3)]))) = true := by decide +kernel
theorem law_l9 : Cond.methodLink R_law 53 (ai_name 117) ∈ lw_tbl := List.mem_of_getElem? (i := 548) (by decide +kernel)
theorem law_m9 : Cond.methodLink R_law 56 (ai_name 242) ∈ lw_tbl := List.mem_of_getElem? (i := 1224) (by decide +kernel)
theorem law_h9 : law_ok 449 ((.aload_n 1, 1) :: (law_args 1 1 ++ (.invokevirtual 53, 3) :: (.aload_n 2, 1) :: (law_args 1 1 ++ [(.invokevirtual 56, 3), (.if_icmp .eq 693, 3)]))) = true := by decide +kernel
theorem law_l10 : Cond.methodLink R_law 57 (ai_name 158) ∈ lw_tbl := List.mem_of_getElem? (i := 556) (by decide +kernel)
theorem law_m10 : Cond.methodLink R_law 60 (ai_name 266) ∈ lw_tbl := List.mem_of_getElem? (i := 1232) (by decide +kernel)
theorem law_h10 : law_ok 472 ((.aload_n 1, 1) :: (law_args 1 3 ++ (.invokevirtual 57, 3) :: (.aload_n 2, 1) :: (law_args 1 3 ++ [(.invokevirtual 60, 3), (.if_icmp .eq 650, 3)]))) = true := by decide +kernel
theorem law_l11 : Cond.methodLink R_law 61 (ai_name 98) ∈ lw_tbl := List.mem_of_getElem? (i := 622) (by decide +kernel)
theorem law_m11 : Cond.methodLink R_law 64 (ai_name 204) ∈ lw_tbl := List.mem_of_getElem? (i := 1280) (by decide +kernel)
theorem law_h11 : law_ok 515 ((.aload_n 1, 1) :: (law_args 1 2 ++ (.invokevirtual 61, 3) :: (.aload_n 2, 1) :: (law_args 1 2 ++ [(.invokevirtual 64, 3), (.if_icmp .eq 617, 3)]))) = true := by decide +kernel
theorem law_l12 : Cond.methodLink R_law 65 (ai_name 108) ∈ lw_tbl := List.mem_of_getElem? (i := 661) (by decide +kernel)
theorem law_m12 : Cond.methodLink R_law 68 (ai_name 212) ∈ lw_tbl := List.mem_of_getElem? (i := 1304) (by decide +kernel)
theorem law_h12 : law_ok 548 ((.aload_n 1, 1) :: (law_args 1 3 ++ (.invokevirtual 65, 3) :: (.aload_n 2, 1) :: (law_args 1 3 ++ [(.invokevirtual 68, 3), (.if_icmp .eq 574, 3)]))) = true := by decide +kernel
theorem law_l13 : Cond.methodLink R_law 69 (ai_name 57) ∈ lw_tbl := List.mem_of_getElem? (i := 674) (by decide +kernel)
theorem law_m13 : Cond.methodLink R_law 72 (ai_name 193) ∈ lw_tbl := List.mem_of_getElem? (i := 1312) (by decide +kernel)
theorem law_h13 : law_ok 591 ((.aload_n 1, 1) :: (law_args 1 2 ++ (.invokevirtual 69, 3) :: (.aload_n 2, 1) :: (law_args 1 2 ++ [(.invokevirtual 72, 3), (.if_icmp .eq 541, 3)]))) = true := by decide +kernel
theorem law_l14 : Cond.methodLink R_law 73 (ai_name 119) ∈ lw_tbl := List.mem_of_getElem? (i := 696) (by decide +kernel)
theorem law_m14 : Cond.methodLink R_law 76 (ai_name 247) ∈ lw_tbl := List.mem_of_getElem? (i := 1324) (by decide +kernel)
theorem law_h14 : law_ok 624 ((.aload_n 1, 1) :: (law_args 1 2 ++ (.invokevirtual 73, 3) :: (.aload_n 2, 1) :: (law_args 1 2 ++ [(.invokevirtual 76, 3), (.if_icmp .eq 508, 3)]))) = true := by decide +kernel
theorem law_l15 : Cond.methodLink R_law 77 (ai_name 103) ∈ lw_tbl := List.mem_of_getElem? (i := 701) (by decide +kernel)
theorem law_m15 : Cond.methodLink R_law 80 (ai_name 209) ∈ lw_tbl := List.mem_of_getElem? (i := 1328) (by decide +kernel)
theorem law_h15 : law_ok 657 ((.aload_n 1, 1) :: (law_args 1 1 ++ (.invokevirtual 77, 3) :: (.aload_n 2, 1) :: (law_args 1 1 ++ [(.invokevirtual 80, 3), (.if_icmp .eq 485, 3)]))) = true := by decide +kernel
theorem law_l16 : Cond.methodLink R_law 81 (ai_name 106) ∈ lw_tbl := List.mem_of_getElem? (i := 710) (by decide +kernel)
theorem law_m16 : Cond.methodLink R_law 84 (ai_name 210) ∈ lw_tbl := List.mem_of_getElem? (i := 1336) (by decide +kernel)
theorem law_h16 : law_ok 680 ((.aload_n 1, 1) :: (law_args 1 1 ++ (.invokevirtual 81, 3) :: (.aload_n 2, 1) :: (law_args 1 1 ++ [(.invokevirtual 84, 3), (.if_icmp .eq 462, 3)]))) = true := by decide +kernel
theorem law_l17 : Cond.methodLink R_law 85 (ai_name 102) ∈ lw_tbl := List.mem_of_getElem? (i := 723) (by decide +kernel)
theorem law_m17 : Cond.methodLink R_law 88 (ai_name 206) ∈ lw_tbl := List.mem_of_getElem? (i := 1341) (by decide +kernel)
theorem law_h17 : law_ok 703 ((.aload_n 1, 1) :: (law_args 1 1 ++ (.invokevirtual 85, 3) :: (.aload_n 2, 1) :: (law_args 1 1 ++ [(.invokevirtual 88, 3), (.if_icmp .eq 439, 3)]))) = true := by decide +kernel
theorem law_l18 : Cond.methodLink R_law 89 (ai_name 150) ∈ lw_tbl := List.mem_of_getElem? (i := 740) (by decide +kernel)
theorem law_m18 : Cond.methodLink R_law 92 (ai_name 260) ∈ lw_tbl := List.mem_of_getElem? (i := 1349) (by decide +kernel)
theorem law_h18 : law_ok 726 ((.aload_n 1, 1) :: (law_args 1 2 ++ (.invokevirtual 89, 3) :: (.aload_n 2, 1) :: (law_args 1 2 ++ [(.invokevirtual 92, 3), (.if_icmp .eq 406, 3)]))) = true := by decide +kernel
theorem law_l19 : Cond.methodLink R_law 93 (ai_name 151) ∈ lw_tbl := List.mem_of_getElem? (i := 748) (by decide +kernel)
theorem law_m19 : Cond.methodLink R_law 96 (ai_name 261) ∈ lw_tbl := List.mem_of_getElem? (i := 1353) (by decide +kernel)
theorem law_h19 : law_ok 759 ((.aload_n 1, 1) :: (law_args 1 2 ++ (.invokevirtual 93, 3) :: (.aload_n 2, 1) :: (law_args 1 2 ++ [(.invokevirtual 96, 3), (.if_icmp .eq 373, 3)]))) = true := by decide +kernel
theorem law_l20 : Cond.methodLink R_law 97 (ai_name 110) ∈ lw_tbl := List.mem_of_getElem? (i := 756) (by decide +kernel)
theorem law_m20 : Cond.methodLink R_law 100 (ai_name 231) ∈ lw_tbl := List.mem_of_getElem? (i := 1272) (by decide +kernel)
theorem law_h20 : law_ok 792 ((.aload_n 1, 1) :: (law_args 1 3 ++ (.invokevirtual 97, 3) :: (.aload_n 2, 1) :: (law_args 1 3 ++ [(.invokevirtual 100, 3), (.if_icmp .eq 330, 3)]))) = true := by decide +kernel
theorem law_l21 : Cond.methodLink R_law 101 (ai_name 162) ∈ lw_tbl := List.mem_of_getElem? (i := 763) (by decide +kernel)
theorem law_m21 : Cond.methodLink R_law 105 (ai_name 268) ∈ lw_tbl := List.mem_of_getElem? (i := 1276) (by decide +kernel)
theorem law_h21 : law_ok 835 ((.aload_n 1, 1) :: (law_args 1 5 ++ (.invokevirtual 101, 3) :: (.aload_n 2, 1) :: (law_args 1 5 ++ [(.invokevirtual 105, 3), (.if_icmp .eq 267, 3)]))) = true := by decide +kernel
theorem law_l22 : Cond.methodLink R_law 106 (ai_name 123) ∈ lw_tbl := List.mem_of_getElem? (i := 773) (by decide +kernel)
theorem law_m22 : Cond.methodLink R_law 109 (ai_name 248) ∈ lw_tbl := List.mem_of_getElem? (i := 1358) (by decide +kernel)
theorem law_h22 : law_ok 898 ((.aload_n 1, 1) :: (law_args 1 2 ++ (.invokevirtual 106, 3) :: (.aload_n 2, 1) :: (law_args 1 2 ++ [(.invokevirtual 109, 3), (.if_icmp .eq 234, 3)]))) = true := by decide +kernel
theorem law_l23 : Cond.methodLink R_law 110 (ai_name 156) ∈ lw_tbl := List.mem_of_getElem? (i := 793) (by decide +kernel)
theorem law_m23 : Cond.methodLink R_law 113 (ai_name 264) ∈ lw_tbl := List.mem_of_getElem? (i := 1366) (by decide +kernel)
theorem law_h23 : law_ok 931 ((.aload_n 1, 1) :: (law_args 1 1 ++ (.invokevirtual 110, 3) :: (.aload_n 2, 1) :: (law_args 1 1 ++ [(.invokevirtual 113, 3), (.if_icmp .eq 211, 3)]))) = true := by decide +kernel
theorem law_l24 : Cond.methodLink R_law 114 (ai_name 155) ∈ lw_tbl := List.mem_of_getElem? (i := 821) (by decide +kernel)
theorem law_m24 : Cond.methodLink R_law 117 (ai_name 263) ∈ lw_tbl := List.mem_of_getElem? (i := 1378) (by decide +kernel)
theorem law_h24 : law_ok 954 ((.aload_n 1, 1) :: (law_args 1 1 ++ (.invokevirtual 114, 3) :: (.aload_n 2, 1) :: (law_args 1 1 ++ [(.invokevirtual 117, 3), (.if_icmp .eq 188, 3)]))) = true := by decide +kernel
theorem law_l25 : Cond.methodLink R_law 118 (ai_name 157) ∈ lw_tbl := List.mem_of_getElem? (i := 834) (by decide +kernel)
theorem law_m25 : Cond.methodLink R_law 121 (ai_name 265) ∈ lw_tbl := List.mem_of_getElem? (i := 1382) (by decide +kernel)
theorem law_h25 : law_ok 977 ((.aload_n 1, 1) :: (law_args 1 0 ++ (.invokevirtual 118, 3) :: (.aload_n 2, 1) :: (law_args 1 0 ++ [(.invokevirtual 121, 3), (.if_icmp .eq 175, 3)]))) = true := by decide +kernel
theorem law_l26 : Cond.methodLink R_law 122 (ai_name 148) ∈ lw_tbl := List.mem_of_getElem? (i := 839) (by decide +kernel)
theorem law_m26 : Cond.methodLink R_law 125 (ai_name 258) ∈ lw_tbl := List.mem_of_getElem? (i := 1386) (by decide +kernel)
theorem law_h26 : law_ok 990 ((.aload_n 1, 1) :: (law_args 1 1 ++ (.invokevirtual 122, 3) :: (.aload_n 2, 1) :: (law_args 1 1 ++ [(.invokevirtual 125, 3), (.if_icmp .eq 152, 3)]))) = true := by decide +kernel
theorem law_l27 : Cond.methodLink R_law 126 (ai_name 39) ∈ lw_tbl := List.mem_of_getElem? (i := 848) (by decide +kernel)
theorem law_m27 : Cond.methodLink R_law 129 (ai_name 180) ∈ lw_tbl := List.mem_of_getElem? (i := 1390) (by decide +kernel)
theorem law_h27 : law_ok 1013 ((.aload_n 1, 1) :: (law_args 1 1 ++ (.invokevirtual 126, 3) :: (.aload_n 2, 1) :: (law_args 1 1 ++ [(.invokevirtual 129, 3), (.if_icmp .eq 129, 3)]))) = true := by decide +kernel
theorem law_l28 : Cond.methodLink R_law 130 (ai_name 137) ∈ lw_tbl := List.mem_of_getElem? (i := 861) (by decide +kernel)
theorem law_m28 : Cond.methodLink R_law 133 (ai_name 249) ∈ lw_tbl := List.mem_of_getElem? (i := 1394) (by decide +kernel)
theorem law_h28 : law_ok 1036 ((.aload_n 1, 1) :: (law_args 1 0 ++ (.invokevirtual 130, 3) :: (.aload_n 2, 1) :: (law_args 1 0 ++ [(.invokevirtual 133, 3), (.if_icmp .eq 116, 3)]))) = true := by decide +kernel
theorem law_l29 : Cond.methodLink R_law 134 (ai_name 139) ∈ lw_tbl := List.mem_of_getElem? (i := 929) (by decide +kernel)
theorem law_m29 : Cond.methodLink R_law 137 (ai_name 250) ∈ lw_tbl := List.mem_of_getElem? (i := 1433) (by decide +kernel)
theorem law_h29 : law_ok 1049 ((.aload_n 1, 1) :: (law_args 1 1 ++ (.invokevirtual 134, 3) :: (.aload_n 2, 1) :: (law_args 1 1 ++ [(.invokevirtual 137, 3), (.if_icmp .eq 93, 3)]))) = true := by decide +kernel
theorem law_l30 : Cond.methodLink R_law 138 (ai_name 28) ∈ lw_tbl := List.mem_of_getElem? (i := 937) (by decide +kernel)
theorem law_m30 : Cond.methodLink R_law 141 (ai_name 176) ∈ lw_tbl := List.mem_of_getElem? (i := 1437) (by decide +kernel)
theorem law_h30 : law_ok 1072 ((.aload_n 1, 1) :: (law_args 1 1 ++ (.invokevirtual 138, 3) :: (.aload_n 2, 1) :: (law_args 1 1 ++ [(.invokevirtual 141, 3), (.if_icmp .eq 70, 3)]))) = true := by decide +kernel
theorem law_l31 : Cond.methodLink R_law 142 (ai_name 116) ∈ lw_tbl := List.mem_of_getElem? (i := 966) (by decide +kernel)
theorem law_m31 : Cond.methodLink R_law 145 (ai_name 241) ∈ lw_tbl := List.mem_of_getElem? (i := 1457) (by decide +kernel)
theorem law_h31 : law_ok 1095 ((.aload_n 1, 1) :: (law_args 1 0 ++ (.invokevirtual 142, 3) :: (.aload_n 2, 1) :: (law_args 1 0 ++ [(.invokevirtual 145, 3), (.if_icmp .eq 57, 3)]))) = true := by decide +kernel
theorem law_l32 : Cond.methodLink R_law 146 (ai_name 146) ∈ lw_tbl := List.mem_of_getElem? (i := 985) (by decide +kernel)
theorem law_m32 : Cond.methodLink R_law 149 (ai_name 257) ∈ lw_tbl := List.mem_of_getElem? (i := 1461) (by decide +kernel)
theorem law_h32 : law_ok 1108 ((.aload_n 1, 1) :: (law_args 1 0 ++ (.invokevirtual 146, 3) :: (.aload_n 2, 1) :: (law_args 1 0 ++ [(.invokevirtual 149, 3), (.if_icmp .eq 44, 3)]))) = true := by decide +kernel
theorem law_l33 : Cond.methodLink R_law 150 (ai_name 160) ∈ lw_tbl := List.mem_of_getElem? (i := 993) (by decide +kernel)
theorem law_m33 : Cond.methodLink R_law 153 (ai_name 267) ∈ lw_tbl := List.mem_of_getElem? (i := 1475) (by decide +kernel)
theorem law_h33 : law_ok 1121 ((.aload_n 1, 1) :: (law_args 1 0 ++ (.invokevirtual 150, 3) :: (.aload_n 2, 1) :: (law_args 1 0 ++ [(.invokevirtual 153, 3), (.if_icmp .eq 31, 3)]))) = true := by decide +kernel
theorem law_l34 : Cond.methodLink R_law 154 (ai_name 144) ∈ lw_tbl := List.mem_of_getElem? (i := 1002) (by decide +kernel)
theorem law_m34 : Cond.methodLink R_law 157 (ai_name 253) ∈ lw_tbl := List.mem_of_getElem? (i := 1479) (by decide +kernel)
theorem law_h34 : law_ok 1134 ((.aload_n 1, 1) :: (law_args 1 0 ++ (.invokevirtual 154, 3) :: (.aload_n 2, 1) :: (law_args 1 0 ++ [(.invokevirtual 157, 3), (.if_icmp .eq 18, 3)]))) = true := by decide +kernel
theorem law_l35 : Cond.methodLink R_law 158 (ai_name 141) ∈ lw_tbl := List.mem_of_getElem? (i := 1010) (by decide +kernel)
theorem law_m35 : Cond.methodLink R_law 161 (ai_name 251) ∈ lw_tbl := List.mem_of_getElem? (i := 1483) (by decide +kernel)
theorem law_h35 : law_ok 1147 ((.aload_n 1, 1) :: (law_args 1 0 ++ (.invokevirtual 158, 3) :: (.aload_n 2, 1) :: (law_args 1 0 ++ [(.invokevirtual 161, 3), (.if_icmp .eq 5, 3)]))) = true := by decide +kernel
def law_t : List Nat := [192, 205, 218, 251, 284, 307, 340, 373, 416, 449, 472, 515, 548, 591, 624, 657, 680, 703, 726, 759, 792, 835, 898, 931, 954, 977, 990, 1013, 1036, 1049, 1072, 1095, 1108, 1121, 1134, 1147]
set_option maxHeartbeats 4000000 in
theorem law_disp {p : Program} {l : Launch} {e : Env} {s : State} {m : MethodId} {args : Array Value} {below : List Frame} {meth : Method} {c : Code} {Q : State → Prop} {b0 L : Nat} {xs : Nat → Int32} {cI cB : ClassId} {dC : Nat → ClassId} {dI : Nat → Nat → Nat} (C : law_C p s m c b0 L xs cI cB dC dI args) (hL : L ≤ 3072) {i : Nat} {arr : Array Slot} {H : Heap} {locs : List Loc} {w : xw_W} (hw : kr w) (hi : i + 6 ≤ L) (ha : lv_has arr 4 [(0, .ref b0), (1, .ref s.heap.size), (2, .ref (s.heap.size + 185)), (3, .int (nI i))]) (hP : va_P (dC, dI) vwCl (ai_w s.heap.size cI cB (wl w)) H) (hD : va_D (law_A s) (ai_w s.heap.size cI cB (wl w))) (hS : va_S (law_A s) s.heap H locs) (kk : ∀ (w1 : xw_W) (H1 : Heap) (locs1 : List Loc), kr w1 → va_P (dC, dI) vwCl (ai_w s.heap.size cI cB (wl w1)) H1 → va_D (law_A s) (ai_w s.heap.size cI cB (wl w1)) → va_S (law_A s) s.heap H1 locs1 → W p l e room_1 s m args below meth c H1 locs1 193 law_sl Q (F0 m 1160 arr [])) : ∀ j, j < 36 → W p l e room_1 s m args below meth c H locs 193 law_sl Q (F0 m (law_t.getD j 0) arr []) := by
  intro j hj
  match j, hj with
  | 0, _ => exact law_case C hL (y := 92) (ym := 199) (n := 0) (by decide) (by decide) hk_92 hk_199 law_l0 law_m0 (by decide) law_h0 (by decide) (ks_character) hw hi ha hP hD hS kk
  | 1, _ => exact law_case C hL (y := 52) (ym := 188) (n := 0) (by decide) (by decide) hk_52 hk_188 law_l1 law_m1 (by decide) law_h1 (by decide) (ks_author) hw hi ha hP hD hS kk
  | 2, _ => exact law_case C hL (y := 109) (ym := 217) (n := 2) (by decide) (by decide) hk_109 hk_217 law_l2 law_m2 (by decide) law_h2 (by decide) (ks_die (xs (i + 1)) (xs (i + 2))) hw hi ha hP hD hS kk
  | 3, _ => exact law_case C hL (y := 142) (ym := 252) (n := 2) (by decide) (by decide) hk_142 hk_252 law_l3 law_m3 (by decide) law_h3 (by decide) (ks_rise (xs (i + 1)) (xs (i + 2))) hw hi ha hP hD hS kk
  | 4, _ => exact law_case C hL (y := 149) (ym := 259) (n := 1) (by decide) (by decide) hk_149 hk_259 law_l4 law_m4 (by decide) law_h4 (by decide) (ks_strike (xs (i + 1))) hw hi ha hP hD hS kk
  | 5, _ => exact law_case C hL (y := 163) (ym := 269) (n := 2) (by decide) (by decide) hk_163 hk_269 law_l5 law_m5 (by decide) law_h5 (by decide) (ks_write (xs (i + 1)) (xs (i + 2))) hw hi ha hP hD hS kk
  | 6, _ => exact law_case C hL (y := 152) (ym := 262) (n := 2) (by decide) (by decide) hk_152 hk_262 law_l6 law_m6 (by decide) law_h6 (by decide) (ks_swear (xs (i + 1)) (xs (i + 2))) hw hi ha hP hD hS kk
  | 7, _ => exact law_case C hL (y := 118) (ym := 243) (n := 3) (by decide) (by decide) hk_118 hk_243 law_l7 law_m7 (by decide) law_h7 (by decide) (ks_motive (xs (i + 1)) (xs (i + 2)) (xs (i + 3))) hw hi ha hP hD hS kk
  | 8, _ => exact law_case C hL (y := 145) (ym := 254) (n := 2) (by decide) (by decide) hk_145 hk_254 law_l8 law_m8 (by decide) law_h8 (by decide) (ks_seat (xs (i + 1)) (xs (i + 2))) hw hi ha hP hD hS kk
  | 9, _ => exact law_case C hL (y := 117) (ym := 242) (n := 1) (by decide) (by decide) hk_117 hk_242 law_l9 law_m9 (by decide) law_h9 (by decide) (ks_leave (xs (i + 1))) hw hi ha hP hD hS kk
  | 10, _ => exact law_case C hL (y := 158) (ym := 266) (n := 3) (by decide) (by decide) hk_158 hk_266 law_l10 law_m10 (by decide) law_h10 (by decide) (ks_trial (xs (i + 1)) (xs (i + 2)) (xs (i + 3))) hw hi ha hP hD hS kk
  | 11, _ => exact law_case C hL (y := 98) (ym := 204) (n := 2) (by decide) (by decide) hk_98 hk_204 law_l11 law_m11 (by decide) law_h11 (by decide) (ks_characterOf (xs (i + 1)) (xs (i + 2))) hw hi ha hP hD hS kk
  | 12, _ => exact law_case C hL (y := 108) (ym := 212) (n := 3) (by decide) (by decide) hk_108 hk_212 law_l12 law_m12 (by decide) law_h12 (by decide) (ks_deathOf (xs (i + 1)) (xs (i + 2)) (xs (i + 3))) hw hi ha hP hD hS kk
  | 13, _ => exact law_case C hL (y := 57) (ym := 193) (n := 2) (by decide) (by decide) hk_57 hk_193 law_l13 law_m13 (by decide) law_h13 (by decide) (ks_authorOf (xs (i + 1)) (xs (i + 2))) hw hi ha hP hD hS kk
  | 14, _ => exact law_case C hL (y := 119) (ym := 247) (n := 2) (by decide) (by decide) hk_119 hk_247 law_l14 law_m14 (by decide) law_h14 (by decide) (ks_pages (xs (i + 1)) (xs (i + 2))) hw hi ha hP hD hS kk
  | 15, _ => exact law_case C hL (y := 103) (ym := 209) (n := 1) (by decide) (by decide) hk_103 hk_209 law_l15 law_m15 (by decide) law_h15 (by decide) (ks_dead (xs (i + 1))) hw hi ha hP hD hS kk
  | 16, _ => exact law_case C hL (y := 106) (ym := 210) (n := 1) (by decide) (by decide) hk_106 hk_210 law_l16 law_m16 (by decide) law_h16 (by decide) (ks_deadAgain (xs (i + 1))) hw hi ha hP hD hS kk
  | 17, _ => exact law_case C hL (y := 102) (ym := 206) (n := 1) (by decide) (by decide) hk_102 hk_206 law_l17 law_m17 (by decide) law_h17 (by decide) (ks_darkest (xs (i + 1))) hw hi ha hP hD hS kk
  | 18, _ => exact law_case C hL (y := 150) (ym := 260) (n := 2) (by decide) (by decide) hk_150 hk_260 law_l18 law_m18 (by decide) law_h18 (by decide) (ks_suspect (xs (i + 1)) (xs (i + 2))) hw hi ha hP hD hS kk
  | 19, _ => exact law_case C hL (y := 151) (ym := 261) (n := 2) (by decide) (by decide) hk_151 hk_261 law_l19 law_m19 (by decide) law_h19 (by decide) (ks_suspectAgain (xs (i + 1)) (xs (i + 2))) hw hi ha hP hD hS kk
  | 20, _ => exact law_case C hL (y := 110) (ym := 231) (n := 3) (by decide) (by decide) hk_110 hk_231 law_l20 law_m20 (by decide) law_h20 (by decide) (ks_guilty (xs (i + 1)) (xs (i + 2)) (xs (i + 3))) hw hi ha hP hD hS kk
  | 21, _ => exact law_case C hL (y := 162) (ym := 268) (n := 5) (by decide) (by decide) hk_162 hk_268 law_l21 law_m21 (by decide) law_h21 (by decide) (ks_would (xs (i + 1)) (xs (i + 2)) (xs (i + 3)) (xs (i + 4)) (xs (i + 5))) hw hi ha hP hD hS kk
  | 22, _ => exact law_case C hL (y := 123) (ym := 248) (n := 2) (by decide) (by decide) hk_123 hk_248 law_l22 law_m22 (by decide) law_h22 (by decide) (ks_ranked (xs (i + 1)) (xs (i + 2))) hw hi ha hP hD hS kk
  | 23, _ => exact law_case C hL (y := 156) (ym := 264) (n := 1) (by decide) (by decide) hk_156 hk_264 law_l23 law_m23 (by decide) law_h23 (by decide) (ks_tellCharacter (xs (i + 1))) hw hi ha hP hD hS kk
  | 24, _ => exact law_case C hL (y := 155) (ym := 263) (n := 1) (by decide) (by decide) hk_155 hk_263 law_l24 law_m24 (by decide) law_h24 (by decide) (ks_tellChapter (xs (i + 1))) hw hi ha hP hD hS kk
  | 25, _ => exact law_case C hL (y := 157) (ym := 265) (n := 0) (by decide) (by decide) hk_157 hk_265 law_l25 law_m25 (by decide) law_h25 (by decide) (ks_tellJury) hw hi ha hP hD hS kk
  | 26, _ => exact law_case C hL (y := 148) (ym := 258) (n := 1) (by decide) (by decide) hk_148 hk_258 law_l26 law_m26 (by decide) law_h26 (by decide) (ks_sign (xs (i + 1))) hw hi ha hP hD hS kk
  | 27, _ => exact law_case C hL (y := 39) (ym := 180) (n := 1) (by decide) (by decide) hk_39 hk_180 law_l27 law_m27 (by decide) law_h27 (by decide) (ks_append (xs (i + 1))) hw hi ha hP hD hS kk
  | 28, _ => exact law_case C hL (y := 137) (ym := 249) (n := 0) (by decide) (by decide) hk_137 hk_249 law_l28 law_m28 (by decide) law_h28 (by decide) (ks_read) hw hi ha hP hD hS kk
  | 29, _ => exact law_case C hL (y := 139) (ym := 250) (n := 1) (by decide) (by decide) hk_139 hk_250 law_l29 law_m29 (by decide) law_h29 (by decide) (ks_refusal (xs (i + 1))) hw hi ha hP hD hS kk
  | 30, _ => exact law_case C hL (y := 28) (ym := 176) (n := 1) (by decide) (by decide) hk_28 hk_176 law_l30 law_m30 (by decide) law_h30 (by decide) (ks_account (xs (i + 1))) hw hi ha hP hD hS kk
  | 31, _ => exact law_case C hL (y := 116) (ym := 241) (n := 0) (by decide) (by decide) hk_116 hk_241 law_l31 law_m31 (by decide) law_h31 (by decide) (ks_isWell) hw hi ha hP hD hS kk
  | 32, _ => exact law_case C hL (y := 146) (ym := 257) (n := 0) (by decide) (by decide) hk_146 hk_257 law_l32 law_m32 (by decide) law_h32 (by decide) (ks_share) hw hi ha hP hD hS kk
  | 33, _ => exact law_case C hL (y := 160) (ym := 267) (n := 0) (by decide) (by decide) hk_160 hk_267 law_l33 law_m33 (by decide) law_h33 (by decide) (ks_undo) hw hi ha hP hD hS kk
  | 34, _ => exact law_case C hL (y := 144) (ym := 253) (n := 0) (by decide) (by decide) hk_144 hk_253 law_l34 law_m34 (by decide) law_h34 (by decide) (ks_save) hw hi ha hP hD hS kk
  | 35, _ => exact law_case C hL (y := 141) (ym := 251) (n := 0) (by decide) (by decide) hk_141 hk_251 law_l35 law_m35 (by decide) law_h35 (by decide) (ks_restore) hw hi ha hP hD hS kk
  | k + 36, h => exact absurd h (by omega)
theorem law_sw : decode code 33 = .ok (.tableswitch 1127 0 35 #[159, 172, 185, 218, 251, 274, 307, 340, 383, 416, 439, 482, 515, 558, 591, 624, 647, 670, 693, 726, 759, 802, 865, 898, 921, 944, 957, 980, 1003, 1016, 1039, 1062, 1075, 1088, 1101, 1114], 159) := by decide +kernel
theorem law_offs : ∀ j, j < 36 → (#[159, 172, 185, 218, 251, 274, 307, 340, 383, 416, 439, 482, 515, 558, 591, 624, 647, 670, 693, 726, 759, 802, 865, 898, 921, 944, 957, 980, 1003, 1016, 1039, 1062, 1075, 1088, 1101, 1114] : Array Int)[j]? = some ((law_t.getD j 0 : Int) - 33) := by decide
theorem law_b : law_ok 18 [(.iload_n 3, 1), (.aload_n 0, 1), (.arraylength, 1), (.bipush 6, 2), (.isub, 1), (.if_icmp .gt 1142, 3), (.aload_n 0, 1), (.iload_n 3, 1), (.iaload, 1), (.bipush 63, 2), (.iand, 1)] = true := by decide +kernel
theorem law_z : law_ok 1160 [(.iinc 3 6, 3), (.goto (-1145), 3), (.iconst 1, 1), (.ireturn, 1)] = true := by decide +kernel
theorem law_a : law_ok 0 [(.new 7, 3), (.dup, 1), (.invokespecial 9, 3), (.astore_n 1, 1), (.new 10, 3), (.dup, 1), (.invokespecial 12, 3), (.astore_n 2, 1), (.iconst 0, 1), (.istore_n 3, 1)] = true := by decide +kernel
section LAW
variable {p : Program} {l : Launch} {e : Env} {s : State} {m : MethodId} {args : Array Value} {below : List Frame} {meth : Method} {c : Code} {Q : State → Prop} {b0 L : Nat} {xs : Nat → Int32} {cI cB : ClassId} {dC : Nat → ClassId} {dI : Nat → Nat → Nat}
/-- the law's loop -/
theorem law_loop (C : law_C p s m c b0 L xs cI cB dC dI args) (hL : L ≤ 3072) (hend : ∀ (H : Heap) (locs : List Loc) (arr : Array Slot), va_S (law_A s) s.heap H locs → W p l e room_1 s m args below meth c H locs 193 law_sl Q (F0 m 1166 arr [])) : ∀ (r i : Nat) (w : xw_W) (H : Heap) (locs : List Loc) (arr : Array Slot), L + 6 < i + r → i ≤ L + 6 → kr w → va_P (dC, dI) vwCl (ai_w s.heap.size cI cB (wl w)) H → va_D (law_A s) (ai_w s.heap.size cI cB (wl w)) → va_S (law_A s) s.heap H locs → lv_has arr 4 [(0, .ref b0), (1, .ref s.heap.size), (2, .ref (s.heap.size + 185)), (3, .int (nI i))] → W p l e room_1 s m args below meth c H locs 193 law_sl Q (F0 m 18 arr []) := by
  intro r
  induction r with
  | zero => intro i w H locs arr h1 h2; omega
  | succ r ih =>
    intro i w H locs arr hr hi6 hw hP hD hS ha
    have C0 := C
    obtain ⟨hx, hb, hml, hown, hts, hK, hZ, hX, hbl⟩ := C0
    have hbA : ¬ law_A s b0 := Nat.not_le.mpr hbl
    obtain ⟨d0, ho⟩ := law_ok_cons law_b
    obtain ⟨d1, ho⟩ := law_ok_cons ho
    obtain ⟨d2, ho⟩ := law_ok_cons ho
    obtain ⟨d3, ho⟩ := law_ok_cons ho
    obtain ⟨d4, ho⟩ := law_ok_cons ho
    obtain ⟨d5, ho⟩ := law_ok_cons ho
    obtain ⟨d6, ho⟩ := law_ok_cons ho
    obtain ⟨d7, ho⟩ := law_ok_cons ho
    obtain ⟨d8, ho⟩ := law_ok_cons ho
    obtain ⟨d9, ho⟩ := law_ok_cons ho
    obtain ⟨d10, ho⟩ := law_ok_cons ho
    obtain ⟨z0, hz⟩ := law_ok_cons law_z
    obtain ⟨z1, hz⟩ := law_ok_cons hz
    refine lv_iload_n hx hb d0 rfl (lv_at ha 3 rfl) ?_
    refine lv_aload_n hx hb d1 rfl (lv_at ha 0 rfl) ?_
    refine va_slen hx hb hX hbl hbA hS d2 ?_
    refine lv_bipush (v := 6) hx hb d3 (by decide) ?_
    refine lv_isub hx hb d4 ?_
    refine lv_icmp_gt (tgt := 1166) hx hb d5 (by decide) (fun _ => hend H locs arr hS) (fun hc => ?_)
    have hi : i + 6 ≤ L := by
      rcases Nat.lt_or_ge L (i + 6) with z | z
      · refine absurd (Int32.lt_iff_toInt_lt.mpr ?_) hc
        show (nI L - nI 6).toInt < (nI i).toInt
        rw [pk_sub_toInt (by omega) (by decide), nI_toInt (show i < 2 ^ 31 by omega)]
        omega
      · exact z
    refine lv_aload_n hx hb d6 rfl (lv_at ha 0 rfl) ?_
    refine lv_iload_n hx hb d7 rfl (lv_at ha 3 rfl) ?_
    refine va_sld hx hb hX hbl hbA hS (vp_in_nI (show i < L by omega) (by omega)) d8 ?_
    rw [nI_clamp (show i < 2 ^ 31 by omega)]
    refine lv_bipush (v := 63) hx hb d9 (by decide) ?_
    refine lv_iand hx hb d10 ?_
    obtain ⟨j, hj, ej⟩ := pk_andE (xs i) (m := 63) 6 (by decide)
    rw [ej]
    have ejI : (nI j).toInt = (j : Int) := nI_toInt (by omega)
    have kk : ∀ (w1 : xw_W) (H1 : Heap) (locs1 : List Loc), kr w1 → va_P (dC, dI) vwCl (ai_w s.heap.size cI cB (wl w1)) H1 → va_D (law_A s) (ai_w s.heap.size cI cB (wl w1)) → va_S (law_A s) s.heap H1 locs1 → W p l e room_1 s m args below meth c H1 locs1 193 law_sl Q (F0 m 1160 arr []) := by
      intro w1 H1 locs1 hw1 hP1 hD1 hS1
      refine lv_iinc (v := nI (i + 6)) (k := 3) (lv' := [(3, .int (nI (i + 6))), (0, .ref b0), (1, .ref s.heap.size), (2, .ref (s.heap.size + 185))]) hx hb z0 ha rfl (nI_add i 6) (by decide) rfl (fun arr2 ha2 => ?_)
      refine lv_goto (tgt := 18) hx hb z1 (by decide) ?_
      exact ih (i + 6) w1 H1 locs1 arr2 (by omega) (by omega) hw1 hP1 hD1 hS1 (lv_sub ha2 [1, 2, 3, 0] rfl)
    by_cases h36 : j < 36
    · refine lv_tableIn (off := (law_t.getD j 0 : Int) - 33) (tgt := law_t.getD j 0) hx hb law_sw (by rw [ejI]; omega) (by rw [ejI]; omega) ?_ ?_ ?_
      · rw [ejI, show ((j : Int) - 0).toNat = j by omega]
        exact law_offs j h36
      · show (33 : Int) + ((law_t.getD j 0 : Int) - 33) = (law_t.getD j 0 : Int)
        omega
      · exact law_disp C hL hw hi ha hP hD hS kk j h36
    · refine lv_tableOut (tgt := 1160) hx hb law_sw (Or.inr (by rw [ejI]; omega)) (by decide) ?_
      exact kk w H locs hw hP hD hS
end LAW
theorem law_ins : vwCl.all (fun r => decide (Cond.instantiable r.1 r.2.2 ∈ lw_tbl)) = true := by decide +kernel
theorem ai_sl_take (ws : ai_W) (n : Nat) : ai_sl (ws.take n) ≤ ai_sl ws := by
  have e : ai_sl ws = ai_sl (ws.take n) + ai_sl (ws.drop n) := by
    unfold ai_sl
    rw [← List.sum_append, ← List.map_append, List.take_append_drop]
  omega
set_option maxHeartbeats 4000000 in
set_option maxRecDepth 100000 in
/-- THE LAW, from its entry -/
theorem whole_start {p : Program} {e : Env} {s : State} {m : MethodId} {below : List Frame} {meth : Method} {c : Code} (l : Launch) (hflags : l.flags = flags0) {b L : Nat} {xs : Nat → Int32} (hL : L ≤ 3072) (C0 : lw_At p s m meth c b L xs) : W p l e room_1 s m #[Value.ref b] below meth c s.heap [] 0 0 (lw_Z below #[Value.ref b] s) (entryFrame m ([Value.ref b] : List Value).toArray 4) := by
  obtain ⟨hx, hb, hr, hml, hown, hts, hX, hbl, hlocks, hgv⟩ := id C0
  -- the classes
  have hcls : ∀ k : Nat, ∃ q : ClassId × (Nat → Nat), ∀ r : vw_C, vwCl[k]? = some r → u_Kn s r.1 r.2.1 r.2.2 q.1 q.2 := by
    intro k
    cases hk : vwCl[k]? with
    | none => exact ⟨(0, fun _ => 0), fun r h => by cases h⟩
    | some r =>
      have hi : Cond.instantiable r.1 r.2.2 ∈ lw_tbl := of_decide_eq_true (List.all_eq_true.mp law_ins r (List.mem_of_getElem? hk))
      obtain ⟨cC, iS, hKn⟩ := u_known (C := r.1) (T := r.2.1) (N := r.2.2) (n := r.2.2) hts (fun w hw => ai_T_in _ ((ai_c_of hk).1 w hw)) (hts _ hi)
      exact ⟨(cC, iS), fun r2 h => by cases h; exact hKn⟩
  obtain ⟨f, hf⟩ := Classical.axiomOfChoice hcls
  -- the arrays
  obtain ⟨cI, kI, pI, i1, i2, i3⟩ := Cond.arrayClass_spec (hts _ (ai_T_in _ (ai_has_in ai_wp_ok.1)))
  have hao : (Cond.arrayOver (.object RX0)).before #[Value.ref b] s = true := hts _ ai_wao
  obtain ⟨pB, cB, kB, o1, -, o3, o4, o5⟩ := Cond.arrayOver_spec hao
  have hK : va_K (fun k => (f k).1, fun k => (f k).2) vwCl (ai_tys cI cB) s := by
    refine ⟨fun k r h => hf k r h, fun k q hq => ?_⟩
    match k, hq with
    | 0, hq =>
      cases hq
      exact ⟨fun N z => ⟨(fun k h => by cases h), kI, i2, pI, i3⟩, i1⟩
    | 1, hq =>
      cases hq
      exact ⟨fun N z => ⟨(fun k h => by cases h), kB, o3, pB, o4⟩, kB, pB, o3, o4, o1, o5⟩
    | k + 2, hq => simp [ai_tys] at hq
  have hZ : ai_Z s := by
    refine ⟨va_AO.of hao, fun q hq => ?_⟩
    have h := of_decide_eq_true (List.all_eq_true.mp ai_nest_ok q hq)
    exact va_Nw.of rfl (hts _ h)
  generalize (fun k => (f k).1) = dC at hK
  generalize (fun k => (f k).2) = dI at hK
  have C : law_C p s m c b L xs cI cB dC dI #[Value.ref b] := ⟨hx, hb, hml, hown, hts, hK, hZ, hX, hbl⟩
  have hS : va_S (law_A s) s.heap s.heap [] := va_S.rf
  have hP : va_P (dC, dI) vwCl (ai_w s.heap.size cI cB []) s.heap := fun k q h => by simp [ai_w] at h
  have hD : va_D (law_A s) (ai_w s.heap.size cI cB []) := ⟨fun i j p q h => by simp [ai_w] at h, fun k q h => by simp [ai_w] at h⟩
  have hl := lv_entry ([.ref b]) (n := 4) (Nat.le_of_ble_eq_true rfl)
  rw [lg_entry_eq]
  generalize (lg_sl ([.ref b]) ++ List.replicate (4 - (lg_sl ([.ref b])).length) Slot.unset).toArray = arr at hl ⊢
  have hl : lv_has arr 4 [(0, .ref b)] := hl
  obtain ⟨d0, ho⟩ := law_ok_cons law_a
  obtain ⟨d1, ho⟩ := law_ok_cons ho
  obtain ⟨d2, ho⟩ := law_ok_cons ho
  obtain ⟨d3, ho⟩ := law_ok_cons ho
  obtain ⟨d4, ho⟩ := law_ok_cons ho
  obtain ⟨d5, ho⟩ := law_ok_cons ho
  obtain ⟨d6, ho⟩ := law_ok_cons ho
  obtain ⟨d7, ho⟩ := law_ok_cons ho
  obtain ⟨d8, ho⟩ := law_ok_cons ho
  obtain ⟨d9, ho⟩ := law_ok_cons ho
  obtain ⟨z0, hz⟩ := law_ok_cons law_z
  obtain ⟨z1, hz⟩ := law_ok_cons hz
  obtain ⟨z2, hz⟩ := law_ok_cons hz
  obtain ⟨z3, hz⟩ := law_ok_cons hz
  have hsl : ai_sl ((wl xw_0).take 185) ≤ 4899 := Nat.le_trans (ai_sl_take _ _) (by rw [wl_sl]; exact Nat.le_refl _)
  have hln : ((wl xw_0).take 185).length = 185 := rfl
  refine law_new C (ci := 10) (r := (RX10, TX10, 9)) rfl (List.mem_of_getElem? (i := 98) (by decide +kernel)) (List.mem_of_getElem? (i := 99) (by decide +kernel)) (List.mem_of_getElem? (i := 82) (by decide +kernel)) d0 hP hD hS rfl rfl ⟨by decide, by decide⟩ (fun H1 locs1 hP1 hD1 hS1 => ?_)
  refine lv_dup hx hb d1 rfl ?_
  refine law_init C (y := 11) (a := 0) (by decide) hk_11 (List.mem_of_getElem? (i := 100) (by decide +kernel)) n_S hl.1 (by simp [Value.category]) d2 hP1 hD1 hS1 rfl rfl ⟨by rw [hln]; decide, by omega⟩ (fun H2 locs2 hP2 hD2 hS2 => ?_)
  refine lv_astore_n (lv' := [(1, .ref s.heap.size), (0, .ref b)]) hx hb d3 rfl hl (by decide) rfl (fun arr hl => ?_)
  refine law_new C (ci := 11) (r := (RX11, TX11, 16)) rfl (List.mem_of_getElem? (i := 1018) (by decide +kernel)) (List.mem_of_getElem? (i := 1019) (by decide +kernel)) (List.mem_of_getElem? (i := 94) (by decide +kernel)) d4 hP2 hD2 hS2 rfl rfl ⟨by rw [hln]; decide, by show _ + 16 ≤ _; omega⟩ (fun H3 locs3 hP3 hD3 hS3 => ?_)
  refine lv_dup hx hb d5 rfl ?_
  refine law_init C (y := 164) (a := 185) (by decide) hk_164 (List.mem_of_getElem? (i := 1020) (by decide +kernel)) n_M hl.1 (by simp [Value.category]) d6 hP3 hD3 hS3 rfl rfl ⟨by rw [wl_len]; decide, by rw [wl_sl]; decide⟩ (fun H4 locs4 hP4 hD4 hS4 => ?_)
  refine lv_astore_n (lv' := [(2, .ref (s.heap.size + 185)), (1, .ref s.heap.size), (0, .ref b)]) hx hb d7 rfl hl (by decide) rfl (fun arr hl => ?_)
  refine lv_iconst (v := 0) hx hb d8 (by decide) ?_
  refine lv_istore_n (lv' := [(3, .int 0), (2, .ref (s.heap.size + 185)), (1, .ref s.heap.size), (0, .ref b)]) hx hb d9 rfl hl (by decide) rfl (fun arr hl => ?_)
  rw [wl_len, wl_sl]
  refine law_loop C hL (fun H locs arr hS => ?_) (L + 7) 0 xw_0 H4 locs4 arr (by omega) (Nat.zero_le _) kr_0 hP4 hD4 hS4 (lv_sub hl [3, 2, 1, 0] rfl)
  refine va_forget (fun q hq => hS.2.2 q hq) ?_
  refine W.widen (k := 600000) (n := 7302250) (by decide) (by decide) ?_
  refine lv_iconst (v := 1) hx hb z2 (by decide) ?_
  refine W.base ?_
  exact lw_ret (Drawn.sameBut.refl s.drawn lw_cs) hx hb hr hlocks z3

