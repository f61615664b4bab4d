/-! The law's start: what stood before it, and the walk on the JVM. -/
def st_tm (i : Nat) : Term := .string "StoryCoronerLaw" ((ai_tx.map fun q => q.1).getD i 0)
def st_fl : List Cond := flatC (Jvm.Cond.and given_1 narrow_1)
theorem st_w1 : (List.range 10).all (fun i => decide (Cond.exactly (st_tm i) "java/lang/String" ∈ st_fl) && decide (Cond.eq (.field (st_tm i) "java/lang/String" "coder" "B") (.int 0) ∈ st_fl) && decide (Cond.arrayOf (.field (st_tm i) "java/lang/String" "value" "[B") .byte ∈ st_fl) && decide (Cond.eq (.length (.field (st_tm i) "java/lang/String" "value" "[B")) (.int (Int32.ofNat (ai_tlen.getD i 0))) ∈ st_fl)) = true := by decide +kernel
theorem st_w2 : (List.range 10).all (fun i => (List.range (ai_tlen.getD i 0)).all fun j => decide (Cond.eq (.elem (.field (st_tm i) "java/lang/String" "value" "[B") (.int (Int32.ofNat j))) (.int ((ai_tby.getD i []).getD j 0)) ∈ st_fl)) = true := by decide +kernel
theorem st_w3 : (List.range 10).all (fun i => (List.range 10).all fun j => decide (i = j) || decide (Cond.not (Cond.eq (st_tm i) (st_tm j)) ∈ st_fl) || decide (Cond.not (Cond.eq (st_tm j) (st_tm i)) ∈ st_fl)) = true := by decide +kernel
def st_o : Term := .static "java/lang/Integer" "DigitOnes" "[B"
def st_t : Term := .static "java/lang/Integer" "DigitTens" "[B"
theorem st_w4a : (st_fl.drop 12).take 100 = (List.range 100).map fun j => Cond.eq (.elem st_o (.int (Int32.ofNat j))) (.int (ai_d1.getD j 0)) := by decide +kernel
theorem st_w4b : (st_fl.drop 115).take 100 = (List.range 100).map fun j => Cond.eq (.elem st_t (.int (Int32.ofNat j))) (.int (ai_d10.getD j 0)) := by decide +kernel
theorem st_w4 {j : Nat} (hj : j < 100) : Cond.eq (.elem st_o (.int (Int32.ofNat j))) (.int (ai_d1.getD j 0)) ∈ st_fl ∧ Cond.eq (.elem st_t (.int (Int32.ofNat j))) (.int (ai_d10.getD j 0)) ∈ st_fl := by
  have h1 : Cond.eq (.elem st_o (.int (Int32.ofNat j))) (.int (ai_d1.getD j 0)) ∈ (st_fl.drop 12).take 100 := by
    rw [st_w4a]
    exact List.mem_map.mpr ⟨j, List.mem_range.mpr hj, rfl⟩
  have h2 : Cond.eq (.elem st_t (.int (Int32.ofNat j))) (.int (ai_d10.getD j 0)) ∈ (st_fl.drop 115).take 100 := by
    rw [st_w4b]
    exact List.mem_map.mpr ⟨j, List.mem_range.mpr hj, rfl⟩
  exact ⟨List.mem_of_mem_drop (List.mem_of_mem_take h1), List.mem_of_mem_drop (List.mem_of_mem_take h2)⟩
theorem st_w5 : Cond.arrayOf st_o .byte ∈ st_fl ∧ Cond.eq (.length st_o) (.int 100) ∈ st_fl ∧ Cond.arrayOf st_t .byte ∈ st_fl ∧ Cond.eq (.length st_t) (.int 100) ∈ st_fl ∧ Cond.eq (.static "java/lang/String" "COMPACT_STRINGS" "Z") (.int 1) ∈ st_fl ∧ Cond.isRef (.static "jdk/internal/util/Preconditions" "SIOOBE_FORMATTER" "Ljava/util/function/BiFunction;") ∈ st_fl := by decide +kernel
theorem st_w6 : Cond.laysStatic "java/lang/Integer" "DigitOnes" "[B" ∈ lw_tbl ∧ Cond.laysStatic "java/lang/Integer" "DigitTens" "[B" ∈ lw_tbl ∧ Cond.laysStatic "java/lang/String" "COMPACT_STRINGS" "Z" ∈ lw_tbl ∧ Cond.laysStatic "jdk/internal/util/Preconditions" "SIOOBE_FORMATTER" "Ljava/util/function/BiFunction;" ∈ lw_tbl := by decide +kernel
theorem st_w7 : Cond.initialized "java/lang/Integer" ∈ lw_tbl ∧ Cond.initialized "java/lang/String" ∈ lw_tbl ∧ Cond.initialized "jdk/internal/util/Preconditions" ∈ lw_tbl := by decide +kernel
theorem st_w8 : (List.range 10).all (fun i => match ai_tx[i]? with | some q => decide (Cond.stringRef "StoryCoronerLaw" q.1 q.2.1 ∈ lw_tbl) && decide ((ai_tx.map fun q => q.1).getD i 0 = q.1) | none => false) = true := by decide +kernel
theorem st_ins : vwCl.all (fun r => decide (Cond.instantiable r.1 r.2.2 ∈ lw_tbl)) = true := by decide +kernel
/-- what stood before -/
theorem st_Y {s : State} {b L : Nat} {xs : Nat → Int32} (hts : ∀ w ∈ lw_tbl, w.before #[Value.ref b] s = true) (hX : va_X b L xs s s.heap) (hbl : b < s.heap.size) (hgv : (Jvm.Cond.and given_1 narrow_1).before #[Value.ref b] s = true) {X : List Int32} (hXl : X.length = L) (hXx : ∀ j, j < L → X.getD j 0 = xs j) : ∃ bb : ai_B, bb.1 = s.heap.size ∧ bb.2.1 0 = b ∧ ai_Y bb (ai_enc X) (fun q => s.heap.size ≤ q) s s.heap := by
  have hs : ∀ c ∈ st_fl, c.before #[Value.ref b] s = true := flat_of_before _ hgv
  have hA : ∀ a : Nat, a < s.heap.size → ¬ s.heap.size ≤ a := fun a h => Nat.not_le.mpr h
  have w1 := fun i (hi : i < 10) => List.all_eq_true.mp st_w1 i (List.mem_range.mpr hi)
  simp only [Bool.and_eq_true, decide_eq_true_eq] at w1
  obtain ⟨adK, adV, hS, hK⟩ := vk_Sof (args := #[Value.ref b]) (s := s) (N := 10) (tm := st_tm) (len := ai_tlen) (byt := ai_tby) (A := fun q => s.heap.size ≤ q)
    (fun i hi => by
      have : ∀ i, i < 10 → ai_tlen.getD i 0 < 2 ^ 31 := by decide
      exact this i hi)
    (fun i hi => hs _ (w1 i hi).1.1.1) (fun i hi => hs _ (w1 i hi).1.1.2) (fun i hi => hs _ (w1 i hi).1.2) (fun i hi => hs _ (w1 i hi).2)
    (fun i hi j hj => hs _ (of_decide_eq_true (List.all_eq_true.mp (List.all_eq_true.mp st_w2 i (List.mem_range.mpr hi)) j (List.mem_range.mpr hj))))
    (fun i j hi hj hij => by
      have := List.all_eq_true.mp (List.all_eq_true.mp st_w3 i (List.mem_range.mpr hi)) j (List.mem_range.mpr hj)
      simp only [Bool.or_eq_true, decide_eq_true_eq] at this
      rcases this with (z | z) | z
      · exact absurd z hij
      · exact Or.inl (hs _ z)
      · exact Or.inr (hs _ z)) hA
  have w4 := fun j (hj : j < 100) => st_w4 hj
  obtain ⟨t1, e1, h1⟩ := va_Tof (args := #[Value.ref b]) (s := s) (tm := st_o) (ty := .byte) (N := 100) (f := fun j => .int (ai_d1.getD j 0)) (A := fun q => s.heap.size ≤ q) (by decide) (hs _ st_w5.1) (va_eqt (hs _ st_w5.2.1)) (fun j hj => va_eqt (hs _ (w4 j hj).1)) hA
  obtain ⟨t2, e2, h2⟩ := va_Tof (args := #[Value.ref b]) (s := s) (tm := st_t) (ty := .byte) (N := 100) (f := fun j => .int (ai_d10.getD j 0)) (A := fun q => s.heap.size ≤ q) (by decide) (hs _ st_w5.2.2.1) (va_eqt (hs _ st_w5.2.2.2.1)) (fun j hj => va_eqt (hs _ (w4 j hj).2)) hA
  have z1 := va_Zof (A := fun q => s.heap.size ≤ q) (hts _ st_w6.1) (hts _ st_w7.1) e1 hA
  have z2 := va_Zof (A := fun q => s.heap.size ≤ q) (hts _ st_w6.2.1) (hts _ st_w7.1) e2 hA
  have z3 := va_Zof (A := fun q => s.heap.size ≤ q) (hts _ st_w6.2.2.1) (hts _ st_w7.2.1) (va_eqt (hs _ st_w5.2.2.2.2.1)) hA
  have z4 := va_Zqof (A := fun q => s.heap.size ≤ q) (hts _ st_w6.2.2.2) (hts _ st_w7.2.2) (hs _ st_w5.2.2.2.2.2) hA
  obtain ⟨fm, hfm⟩ : ∃ fm : Option Nat, va_Z "jdk/internal/util/Preconditions" "SIOOBE_FORMATTER" "Ljava/util/function/BiFunction;" (va_rf fm) (fun q => s.heap.size ≤ q) s s.heap := by
    rcases z4 with z | ⟨t, z⟩
    · exact ⟨none, z⟩
    · exact ⟨some t, z⟩
  let ad : Nat → Nat := fun k => if k = 0 then b else if k ≤ 10 then adK (k - 1) else if k ≤ 20 then adV (k - 11) else if k = 21 then t1 else t2
  have d1 : ∀ i, i < 10 → ad (i + 1) = adK i := fun i hi => by
    show (if i + 1 = 0 then b else if i + 1 ≤ 10 then adK (i + 1 - 1) else _) = _
    rw [if_neg (by omega), if_pos (by omega), Nat.add_sub_cancel]
  have d2 : ∀ i, i < 10 → ad (i + 11) = adV i := fun i hi => by
    show (if i + 11 = 0 then b else if i + 11 ≤ 10 then _ else if i + 11 ≤ 20 then adV (i + 11 - 11) else _) = _
    rw [if_neg (by omega), if_neg (by omega), if_pos (by omega), Nat.add_sub_cancel]
  refine ⟨(s.heap.size, ad, fm), rfl, rfl, ⟨?_, hbl, hA b hbl⟩, ?_, ⟨fun i hi => ?_, fun i j hi hj e => ?_⟩, z3, z1, z2, hfm, h1, h2⟩
  · rw [ai_dec_enc, hXl]
    obtain ⟨scr, x1, x2, x3, x4, x5⟩ := hX
    exact ⟨scr, x1, x2, x3, x4, fun j hj => by rw [x5 j hj, ← hXx j hj]⟩
  · intro i q hq
    have hi : i < 10 := (List.getElem?_eq_some_iff.mp hq).1
    have h8 := List.all_eq_true.mp st_w8 i (List.mem_range.mpr hi)
    rw [hq] at h8
    simp only [Bool.and_eq_true, decide_eq_true_eq] at h8
    have h9 := hK i hi
    unfold st_tm at h9
    rw [h8.2] at h9
    show vk_R "StoryCoronerLaw" q.1 q.2.1 (ad (i + 1)) s
    rw [d1 i hi]
    exact vk_R.of (A := #[Value.ref b]) (hts _ h8.1) (by
      first
        | exact h9
        | (rw [← h9]; rfl))
  · show va_O "java/lang/String" (ad (i + 1)) _ s s.heap ∧ va_OF "java/lang/String" "coder" "B" (.int 0) (ad (i + 1)) _ s s.heap ∧ va_OF "java/lang/String" "value" "[B" (.ref (ad (i + 11))) (ad (i + 1)) _ s s.heap ∧ va_T .byte (ad (i + 11)) (ai_tlen.getD i 0) (fun j => .int ((ai_tby.getD i []).getD j 0)) _ s s.heap
    rw [d1 i hi, d2 i hi]
    exact hS.1 i hi
  · have e : ad (i + 1) = ad (j + 1) := e
    rw [d1 i hi, d1 j hj] at e
    exact hS.2 i j hi hj e
