/-! Calls, ends, and the whole: what the plain machine answers, the JVM answers. -/
def ai_rm (y k n : Nat) : Room := { frames := y + 1, cells := k, slots := n, locals := 40 * y + 60 }
def ai_ws (y : Nat) : List Cond := .code (ai_name y) (ai_code y) (ai_L y) (ai_ret y) :: ai_T
def ai_A (b : Nat) (cI cB : ClassId) (ws : ai_W) : Nat → Prop := va_A (ai_w b cI cB ws) (b + ws.length)
def ai_P (D : va_G) (cI cB : ClassId) (b : Nat) (as : List Value) (ws : ai_W) : Array Value → State → Prop := va_Pc (as.map (ai_cv b)) (fun U => U.heap.size = b + ws.length ∧ va_P D vwCl (ai_w b cI cB ws) U.heap ∧ va_D (fun _ => True) (ai_w b cI cB ws) ∧ va_K D vwCl (ai_tys cI cB) U ∧ ai_Z U)
def ai_Q (D : va_G) (cI cB : ClassId) (b : Nat) (A : Nat → Prop) (ws : ai_W) : Option Value → Array Value → State → Outcome → State → Prop
  | some (.int x) => va_Qi (fun r (_ : Unit) => r = x) (fun _ t => va_P D vwCl (ai_w b cI cB ws) t.heap ∧ va_D A (ai_w b cI cB ws)) A
  | _ => va_Qv (fun (_ : Unit) => True) (fun _ t => va_P D vwCl (ai_w b cI cB ws) t.heap ∧ va_D A (ai_w b cI cB ws)) A
def ai_Met (l : Launch) (D : va_G) (cI cB : ClassId) (b y : Nat) (as : List Value) (ws : ai_W) (r : Option Value) (ws1 : ai_W) : Prop :=
  Met l (ai_name y) (ai_ws y) (ai_rm y (ws1.length - ws.length) (ai_sl ws1 - ai_sl ws)) (ai_P D cI cB b as ws) (ai_Q D cI cB b (ai_A b cI cB ws) ws1 r) (ws1.length - ws.length) (ai_sl ws1 - ai_sl ws) (ai_A b cI cB ws)
theorem ai_blind {D : va_G} {cI cB : ClassId} {b : Nat} {as : List Value} {ws : ai_W} : FrameBlind (ai_P D cI cB b as ws) := fun a U g mk q => ⟨q.1, q.2.1, q.2.2.1, q.2.2.2.1, va_K.moved (u := U) (U := U.calling g mk a) (Vm.Alike.refl U.vm) q.2.2.2.2.1, ai_Z.same (u := U) (U := U.calling g mk a) rfl q.2.2.2.2.2⟩
theorem ai_goodIn {y : Nat} (hy : y < 270) : GoodIn ai_T (ai_ws y) := fun w hw => by
  have h : w ∈ ai_T := by
    rcases List.mem_cons.mp hw with h | h
    · rw [h]; exact ai_w_code hy
    · exact h
  exact ⟨h, good_of_word (ai_T_good w h)⟩
section AIS
variable {p : Program} {l : Launch} {e : Env} {R : Room} {s : State} {m : MethodId} {args : Array Value} {below : List Frame} {meth : Method} {c : Code} {Q : State → Prop} {b n0 s0 : Nat} {cI cB : ClassId} {dC : Nat → ClassId} {dI : Nat → Nat → Nat} {A : Nat → Prop}
theorem ai_back {pc : Nat} {arr : Array Slot} {st0 ls rest : List Value} {a : Array Value} {ws ws1 : ai_W} {r : Option Value} {H : Heap} {locs : List Loc} {cells slots : Nat} (hA : ∀ q, s.heap.size ≤ q → A q) (hrr : r = none ∨ ∃ x, r = some (.int x)) (hg : ws.length ≤ ws1.length ∧ ai_sl ws ≤ ai_sl ws1)
    (hr : va_Run p l e R s m args below meth c H locs cells slots (ws1.length - ws.length) (ai_sl ws1 - ai_sl ws) (F0 m pc arr st0) (rest.map (ai_cv b)) (ai_Q (dC, dI) cI cB b (ai_A b cI cB ws) ws1 r a) (ai_A b cI cB ws))
    (hl : ai_l b ls arr) (hD : va_D A (ai_w b cI cB ws)) (hS : va_S A s.heap H locs) (hz : H.size = b + ws.length) (h1 : ws.length = n0 + cells) (h2 : ai_sl ws = s0 + slots) (kk : ai_X p l e R s m args below meth c Q b n0 s0 cI cB dC dI A (pc + 3) ls (r.toList ++ rest) ws1) : W p l e R s m args below meth c H locs cells slots Q (F0 m pc arr st0) := by
  have hf : ∀ q, ai_A b cI cB ws q → A q := by
    intro q hq
    rcases hq with ⟨k, e, h⟩ | h
    · exact hD.2 k (q, e) h
    · exact hA q (Nat.le_trans hS.1 (by rw [hz]; exact h))
  rcases hrr with rfl | ⟨x, rfl⟩
  · exact va_callv (a := a) hr hS (fun q _ h => hf q h) hf (fun u t H1 locs1 ht hvm hp hB hz1 hk1 hS1 => kk arr H1 locs1 _ _ hl (by rw [← ht]; exact hB.1) (hB.2.weaken (fun _ q _ h => hf q.1 h)) hS1 (by omega) (by omega))
  · exact va_calli (a := a) hr hS (fun q _ h => hf q h) hf (fun r u t H1 locs1 ht hvm hp hB hz1 hk1 hS1 => by
      subst hp
      exact kk arr H1 locs1 _ _ hl (by rw [← ht]; exact hB.1) (hB.2.weaken (fun _ q _ h => hf q.1 h)) hS1 (by omega) (by omega))
theorem ai_call_ok {y y2 pc pc2 n : Nat} {i : Instr} {ls st as rest : List Value} {ws ws1 : ai_W} {r : Option Value} (hF : ai_F p R s m args meth c b n0 cI cB dC dI A y) (hL : ls.length = ai_L y) (hd : decode (ai_code y) pc = .ok (i, n)) (h : ai_in y pc ls st ws i n = some (.inr (.inr (y2, as, rest, pc2)))) (hok : ai_ok y2 as ws = true) (hr4 : rest.length ≤ 4) (hM : ai_Met l (dC, dI) cI cB b y2 as ws r ws1) (hrr : r = none ∨ ∃ x, r = some (.int x)) (hg : ws.length ≤ ws1.length ∧ ai_sl ws ≤ ai_sl ws1) (hcap : ws1.length ≤ n0 + R.cells ∧ ai_sl ws1 ≤ s0 + R.slots) (kk : ai_X p l e R s m args below meth c Q b n0 s0 cI cB dC dI A pc2 ls (r.toList ++ rest) ws1) : ai_X p l e R s m args below meth c Q b n0 s0 cI cB dC dI A pc ls st ws := by
  obtain ⟨hy, hx, hb, hml, hown, hts, hK, hr, hlk, hin, hZ, hA, hA2, hz, hR1, hR2⟩ := hF
  have key : ∀ (kd : Nat), ai_call y y2 kd pc st = some (.inr (.inr (y2, as, rest, pc2))) → y2 < y ∧ ai_kind y2 = kd ∧ pc2 = pc + 3 ∧ st = as.reverse ++ rest := by
    intro kd hc
    unfold ai_call at hc
    split at hc
    · rename_i hq
      have e := Option.some.inj hc
      simp only [Sum.inr.injEq, Prod.mk.injEq, true_and] at e
      obtain ⟨e1, e2, e3⟩ := e
      refine ⟨hq.1, hq.2, e3.symm, ?_⟩
      rw [← e1, ← e2, List.reverse_reverse, List.take_append_drop]
    · cases hc
  have kc : ∀ {q : Nat} (kd : Nat), ai_call y q kd pc st = some (.inr (.inr (y2, as, rest, pc2))) → q = y2 := by
    intro q kd hc
    unfold ai_call at hc
    split at hc
    · have e := Option.some.inj hc
      simp only [Sum.inr.injEq, Prod.mk.injEq] at e
      exact e.1
    · cases hc
  have pre : ∀ {H : Heap} {locs : List Loc}, va_P (dC, dI) vwCl (ai_w b cI cB ws) H → va_D A (ai_w b cI cB ws) → H.size = b + ws.length → ∀ U : State, U.heap = H → s.WarmedH U.vm → ai_P (dC, dI) cI cB b as ws (as.map (ai_cv b)).toArray U := fun hP hD hzz U hU hW => ⟨rfl, by rw [hU]; exact hzz, by rw [hU]; exact hP, hD.weaken (fun _ _ _ _ => trivial), va_K.moved hW.alike hK, hZ.warm hW⟩
  have fit : ∀ {cells slots : Nat}, ws.length = n0 + cells → ai_sl ws = s0 + slots → cells + (ws1.length - ws.length) ≤ R.cells ∧ slots + (ai_sl ws1 - ai_sl ws) ≤ R.slots := by
    intro cells slots h1 h2
    exact ⟨by omega, by omega⟩
  have room : y2 < y → (ai_rm y2 (ws1.length - ws.length) (ai_sl ws1 - ai_sl ws)).frames + 1 ≤ R.frames ∧ 8 + (ai_L y2 + 11) + (ai_rm y2 (ws1.length - ws.length) (ai_sl ws1 - ai_sl ws)).locals ≤ R.locals := by
    intro hlt
    have hL2 := (ai_yok (show y2 < 270 by omega)).2.2.2.2.2.1
    refine ⟨?_, ?_⟩
    · show y2 + 1 + 1 ≤ _
      omega
    · show 8 + (ai_L y2 + 11) + (40 * y2 + 60) ≤ _
      omega
  have ok := hok
  unfold ai_ok at ok
  simp only [Bool.and_eq_true, decide_eq_true_eq] at ok
  have hcat := ai_cats (b := b) hr4
  have recv : ai_kind y2 ≠ 0 → ∃ a as2, as = .ref a :: as2 ∧ ai_isob ws a (ai_ci y2) = true ∧ as2.length = ai_n y2 := by
    intro hk
    have o1 := ok.1.1.1
    have o2 := ok.1.1.2
    rw [if_neg hk] at o1 o2
    split at o2
    · rename_i a as2
      exact ⟨a, as2, rfl, o2, by simpa using o1⟩
    · cases o2
  have obj : ∀ {H : Heap} {a : Nat}, y2 < 270 → ai_kind y2 ≠ 0 → ai_isob ws a (ai_ci y2) = true → va_P (dC, dI) vwCl (ai_w b cI cB ws) H → ∃ cellB : Cell, H[b + a]? = some cellB ∧ cellB.vm.isStatics = false ∧ s.vm.findClass (ai_name y2).cls = some cellB.cls := by
    intro H a hy2 hk ho hP
    unfold ai_isob at ho
    split at ho
    · rename_i ci fs hc
      rw [decide_eq_true_eq] at ho
      subst ho
      have hn := ((ai_yok hy2).2.2.2.2.2.2.2.1 hk).2
      rw [Option.map_eq_some_iff] at hn
      obtain ⟨r1, hr1, hr2⟩ := hn
      rw [← hr2]
      exact va_recv hK hP hr1 (ai_w_get hc)
    · cases ho
  unfold ai_in at h
  split at h <;> (try (simp only [ai_lda, ai_ldi, ai_ldf, ai_sti, ai_stf, ai_sta, ai_bin, ai_fb, ai_jmp, ai_wide, ai_go] at h; (repeat' split at h) <;> (cases h; done)))
  · -- invokevirtual
    unfold ai_inv at h
    split at h
    · rename_i y3 wi hv
      have e3 := kc _ h
      subst e3
      obtain ⟨hlt, hk1, rfl, rfl⟩ := key _ h
      have hy2 : y3 < 270 := by omega
      have hyk := ai_yok hy2
      have hl1 := ai_l_of hy hv
      obtain ⟨a, as2, rfl, ho, hn⟩ := recv (by rw [hk1]; decide)
      intro arr H locs cells slots hl hP hD hS h1 h2 T hT XX
      have hzz := ai_size XX hT hP hS hz h1
      have cb := callB_of (R := R) (s := s) (args := args) (own := (ai_name y).cls) (index := _) (maxL := ai_L y3) (ai_n y3) hts (ai_goodIn hy2) rfl rfl rfl (hts _ hyk.1) (hts _ hl1.1) ⟨hyk.2.1, hyk.2.2.1, hyk.2.2.2.2.1⟩ (room hlt)
      have rn := va_runV (e := e) (below := below) (meth := meth) (locs := locs) (H := H) (rest := rest.map (ai_cv b)) (As := as2.map (ai_cv b)) (b := b + a) (C := (ai_name y3).cls) (g := F0 m pc arr (((Value.ref a :: as2).reverse ++ rest).map (ai_cv b))) (nL := ai_L y) ⟨hx, hb, hml, hown, hts⟩ hM ⟨cb, hts _ (hyk.2.2.2.2.2.2.2.1 (by rw [hk1]; decide)).1, hts _ (hyk.2.2.2.2.2.2.2.2.1 hk1)⟩ ⟨ai_blind, obj hy2 (by rw [hk1]; decide) ho hP, pre (locs := locs) hP hD hzz⟩ rfl (by rw [List.length_map]; exact hn) (by show arr.size = _; rw [hl.1]; exact hL) (by show List.map (ai_cv b) _ = _; simp [ai_cv]) (by show 2 * 0 + _ ≤ 8; omega) hd (fit h1 h2)
      exact ai_back hA hrr hg rn hl hD hS hzz h1 h2 kk T hT XX
    · cases h
  · -- invokestatic
    unfold ai_ins at h
    split at h
    · rename_i y3 wi hv
      have e3 := kc _ h
      subst e3
      obtain ⟨hlt, hk1, rfl, rfl⟩ := key _ h
      have hy2 : y3 < 270 := by omega
      have hyk := ai_yok hy2
      have hl1 := ai_l_of hy hv
      have hn : as.length = ai_n y3 := by
        have o1 := ok.1.1.1
        rw [if_pos hk1] at o1
        exact o1
      intro arr H locs cells slots hl hP hD hS h1 h2 T hT XX
      have hzz := ai_size XX hT hP hS hz h1
      have cb := callB_of (R := R) (s := s) (args := args) (own := (ai_name y).cls) (index := _) (maxL := ai_L y3) (ai_n y3) hts (ai_goodIn hy2) rfl rfl rfl (hts _ hyk.1) (hts _ hl1.1) ⟨hyk.2.1, hyk.2.2.1, hyk.2.2.2.2.1⟩ (room hlt)
      have rn := va_runS (e := e) (below := below) (meth := meth) (locs := locs) (H := H) (rest := rest.map (ai_cv b)) (As := as.map (ai_cv b)) (g := F0 m pc arr ((as.reverse ++ rest).map (ai_cv b))) (nL := ai_L y) ⟨hx, hb, hml, hown, hts⟩ hM ⟨cb, hts _ (hyk.2.2.2.2.2.2.1 hk1)⟩ ⟨ai_blind, pre (locs := locs) hP hD hzz⟩ rfl (by rw [List.length_map]; exact hn) (by show arr.size = _; rw [hl.1]; exact hL) (by show List.map (ai_cv b) _ = _; simp) (by show 2 * 0 + _ ≤ 8; omega) hd (fit h1 h2)
      exact ai_back hA hrr hg rn hl hD hS hzz h1 h2 kk T hT XX
    · rename_i y3 wi hv
      have e3 := kc _ h
      subst e3
      obtain ⟨hlt, hk1, rfl, rfl⟩ := key _ h
      have hy2 : y3 < 270 := by omega
      have hyk := ai_yok hy2
      have hl1 := ai_l_of hy hv
      have hn : as.length = ai_n y3 := by
        have o1 := ok.1.1.1
        rw [if_pos hk1] at o1
        exact o1
      intro arr H locs cells slots hl hP hD hS h1 h2 T hT XX
      have hzz := ai_size XX hT hP hS hz h1
      have cb := va_cnB (R := R) (s := s) (args := args) (own := (ai_name y).cls) (host := "StoryCoroner") (index := _) (maxL := ai_L y3) (ai_n y3) hts (ai_goodIn hy2) rfl rfl rfl (hZ.2 _ hl1.1) (hts _ hyk.1) ⟨hyk.2.1, hyk.2.2.1, hyk.2.2.2.2.1⟩ (room hlt)
      have rn := va_runSN (e := e) (below := below) (meth := meth) (locs := locs) (H := H) (rest := rest.map (ai_cv b)) (As := as.map (ai_cv b)) (g := F0 m pc arr ((as.reverse ++ rest).map (ai_cv b))) (nL := ai_L y) ⟨hx, hb, hml, hown, hts⟩ hM ⟨cb, hts _ (hyk.2.2.2.2.2.2.1 hk1), trivial⟩ ⟨ai_blind, pre (locs := locs) hP hD hzz⟩ rfl (by rw [List.length_map]; exact hn) (by show arr.size = _; rw [hl.1]; exact hL) (by show List.map (ai_cv b) _ = _; simp) (by show 2 * 0 + _ ≤ 8; omega) hd (fit h1 h2)
      exact ai_back hA hrr hg rn hl hD hS hzz h1 h2 kk T hT XX
    · simp only [ai_go] at h
      (repeat' split at h) <;> cases h
    · simp only [ai_go] at h
      (repeat' split at h) <;> cases h
    · cases h
  · -- invokespecial
    unfold ai_spc at h
    split at h
    · rename_i y3 wi hv
      have e3 := kc _ h
      subst e3
      obtain ⟨hlt, hk1, rfl, rfl⟩ := key _ h
      have hy2 : y3 < 270 := by omega
      have hyk := ai_yok hy2
      have hl1 := ai_l_of hy hv
      obtain ⟨a, as2, rfl, ho, hn⟩ := recv (by rw [hk1]; decide)
      have hct := hyk.2.2.2.2.2.2.2.2.2.1 hk1
      intro arr H locs cells slots hl hP hD hS h1 h2 T hT XX
      have hzz := ai_size XX hT hP hS hz h1
      have cb := callB_of (R := R) (s := s) (args := args) (own := (ai_name y).cls) (index := _) (maxL := ai_L y3) (ai_n y3) hts (ai_goodIn hy2) rfl rfl rfl (hts _ hyk.1) (hts _ hl1.1) ⟨hyk.2.1, hyk.2.2.1, hyk.2.2.2.2.1⟩ (room hlt)
      rw [hct.2] at cb
      have rn := va_runI (e := e) (below := below) (meth := meth) (locs := locs) (H := H) (rest := rest.map (ai_cv b)) (As := as2.map (ai_cv b)) (b := b + a) (g := F0 m pc arr (((Value.ref a :: as2).reverse ++ rest).map (ai_cv b))) (nL := ai_L y) ⟨hx, hb, hml, hown, hts⟩ hM ⟨cb, hct.1, hts _ (hyk.2.2.2.2.2.2.2.1 (by rw [hk1]; decide)).1⟩ ⟨ai_blind, pre (locs := locs) hP hD hzz⟩ rfl (by rw [List.length_map]; exact hn) (by show arr.size = _; rw [hl.1]; exact hL) (by show List.map (ai_cv b) _ = _; simp [ai_cv]) (by show 2 * 0 + _ ≤ 8; omega) hd (fit h1 h2)
      exact ai_back hA hrr hg rn hl hD hS hzz h1 h2 kk T hT XX
    · rename_i y3 wi hv
      have e3 := kc _ h
      subst e3
      obtain ⟨hlt, hk1, rfl, rfl⟩ := key _ h
      have hy2 : y3 < 270 := by omega
      have hyk := ai_yok hy2
      have hl1 := ai_l_of hy hv
      obtain ⟨a, as2, rfl, ho, hn⟩ := recv (by rw [hk1]; decide)
      have hct := hyk.2.2.2.2.2.2.2.2.2.1 hk1
      intro arr H locs cells slots hl hP hD hS h1 h2 T hT XX
      have hzz := ai_size XX hT hP hS hz h1
      have cb := va_cnB (R := R) (s := s) (args := args) (own := (ai_name y).cls) (host := "StoryCoroner") (index := _) (maxL := ai_L y3) (ai_n y3) hts (ai_goodIn hy2) rfl rfl rfl (hZ.2 _ hl1.1) (hts _ hyk.1) ⟨hyk.2.1, hyk.2.2.1, hyk.2.2.2.2.1⟩ (room hlt)
      rw [hct.2] at cb
      have rn := va_runIN (e := e) (below := below) (meth := meth) (locs := locs) (H := H) (rest := rest.map (ai_cv b)) (As := as2.map (ai_cv b)) (b := b + a) (g := F0 m pc arr (((Value.ref a :: as2).reverse ++ rest).map (ai_cv b))) (nL := ai_L y) ⟨hx, hb, hml, hown, hts⟩ hM ⟨cb, hct.1, hts _ (hyk.2.2.2.2.2.2.2.1 (by rw [hk1]; decide)).1⟩ ⟨ai_blind, pre (locs := locs) hP hD hzz⟩ rfl (by rw [List.length_map]; exact hn) (by show arr.size = _; rw [hl.1]; exact hL) (by show List.map (ai_cv b) _ = _; simp [ai_cv]) (by show 2 * 0 + _ ≤ 8; omega) hd (fit h1 h2)
      exact ai_back hA hrr hg rn hl hD hS hzz h1 h2 kk T hT XX
    · simp only [ai_go] at h
      (repeat' split at h) <;> cases h
    · cases h
  · split at h
    · split at h <;> cases h
    · cases h
  · split at h
    · split at h <;> cases h
    · cases h
  · cases h
end AIS
