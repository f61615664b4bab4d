/-! Calls, ends, and the whole: what the plain machine answers, the JVM answers. -/
def ai_rm (y k n : Nat) : Room := { frames := ai_fr y, cells := k, slots := n, locals := ai_lo y }
def ai_ws (y : Nat) : List Cond := .code (ai_name y) (ai_code y) (ai_L y) (ai_ret y) :: ai_T
def ai_A (b : ai_B) (cI cB cY : ClassId) (ws : ai_W) : Nat → Prop := va_A (ai_w b cI cB cY ws) (b.1 + ws.length)
def ai_P (D : va_G) (cI cB cY : ClassId) (b : ai_B) (N : Nat) (as : List Value) (ws : ai_W) : Array Value → State → Prop := va_Pc (as.map (ai_cv b)) (fun U => U.heap.size = b.1 + ws.length ∧ va_P D vwCl (ai_w b cI cB cY ws) U.heap ∧ va_D (fun _ => True) (ai_w b cI cB cY ws) ∧ va_K D vwCl (ai_tys cI cB cY) U ∧ ai_Z U ∧ ai_Y b N (ai_A b cI cB cY ws) U U.heap)
def ai_Q (D : va_G) (cI cB cY : ClassId) (b : ai_B) (A : Nat → Prop) (ws : ai_W) : Option Value → Array Value → State → Outcome → State → Prop
  | some (.int x) => va_Qi (fun r (_ : Unit) => r = x) (fun _ t => va_P D vwCl (ai_w b cI cB cY ws) t.heap ∧ va_D A (ai_w b cI cB cY ws)) A
  | some (.ref a) => va_Qr (fun (_ : Unit) => True) (fun _ q t => q = b.1 + a ∧ va_P D vwCl (ai_w b cI cB cY ws) t.heap ∧ va_D A (ai_w b cI cB cY ws)) A
  | _ => va_Qv (fun (_ : Unit) => True) (fun _ t => va_P D vwCl (ai_w b cI cB cY ws) t.heap ∧ va_D A (ai_w b cI cB cY ws)) A
def ai_Met (l : Launch) (D : va_G) (cI cB cY : ClassId) (b : ai_B) (N y : Nat) (as : List Value) (ws : ai_W) (r : Option Value) (ws1 : ai_W) : Prop :=
  Met l (ai_name y) (ai_ws y) (ai_rm y (ws1.length - ws.length) (ai_sl ws1 - ai_sl ws)) (ai_P D cI cB cY b N as ws) (ai_Q D cI cB cY b (ai_A b cI cB cY ws) ws1 r) (ws1.length - ws.length) (ai_sl ws1 - ai_sl ws) (ai_A b cI cB cY ws)
theorem ai_blind {D : va_G} {cI cB cY : ClassId} {b : ai_B} {N : Nat} {as : List Value} {ws : ai_W} : FrameBlind (ai_P D cI cB cY b N as ws) := fun a U g mk q => ⟨q.1, q.2.1, q.2.2.1, q.2.2.2.1, va_K.moved (u := U) (U := U.calling g mk a) (Vm.Alike.refl U.vm) q.2.2.2.2.1, ai_Z.same (u := U) (U := U.calling g mk a) rfl q.2.2.2.2.2.1, ai_Y.same (u := U) (U := U.calling g mk a) rfl q.2.2.2.2.2.2⟩
theorem ai_goodIn {y : Nat} (hy : y < 202) : GoodIn ai_T (ai_ws y) := fun w hw => by
  have h : w ∈ ai_T := by
    rcases List.mem_cons.mp hw with h | h
    · rw [h]; exact ai_w_code hy
    · exact h
  exact ⟨h, good_of_word (ai_T_good w h)⟩
theorem ai_goodL {ws : List Cond} (h : ∀ w ∈ ws, w ∈ ai_T) : GoodIn ai_T ws := fun w hw => ⟨h w hw, good_of_word (ai_T_good w (h w hw))⟩
section AIS
variable {p : Program} {l : Launch} {e : Env} {R : Room} {s : State} {m : MethodId} {args : Array Value} {below : List Frame} {meth : Method} {c : Code} {Q : State → Prop} {b : ai_B} {N n0 s0 : Nat} {cI cB cY : ClassId} {dC : Nat → ClassId} {dI : Nat → Nat → Nat} {A : Nat → Prop}
theorem ai_back {pc : Nat} {arr : Array Slot} {st0 ls rest : List Value} {a : Array Value} {ws ws1 : ai_W} {r : Option Value} {H : Heap} {locs : List Loc} {cells slots : Nat} (hA : ∀ q, s.heap.size ≤ q → A q) (hrr : r = none ∨ (∃ x, r = some (.int x)) ∨ ∃ x, r = some (.ref x)) (hg : ws.length ≤ ws1.length ∧ ai_sl ws ≤ ai_sl ws1)
    (hr : va_Run p l e R s m args below meth c H locs cells slots (ws1.length - ws.length) (ai_sl ws1 - ai_sl ws) (F0 m pc arr st0) (rest.map (ai_cv b)) (ai_Q (dC, dI) cI cB cY b (ai_A b cI cB cY ws) ws1 r a) (ai_A b cI cB cY ws))
    (hl : ai_l b ls arr) (hD : va_D A (ai_w b cI cB cY ws)) (hS : va_S A s.heap H locs) (hz : H.size = b.1 + ws.length) (h1 : ws.length = n0 + cells) (h2 : ai_sl ws = s0 + slots) (kk : ai_X p l e R s m args below meth c Q b n0 s0 cI cB cY dC dI A (pc + 3) ls (r.toList ++ rest) ws1) : W p l e R s m args below meth c H locs cells slots Q (F0 m pc arr st0) := by
  have hf : ∀ q, ai_A b cI cB cY ws q → A q := by
    intro q hq
    rcases hq with ⟨k, e, h⟩ | h
    · exact hD.2 k (q, e) h
    · exact hA q (Nat.le_trans hS.1 (by rw [hz]; exact h))
  rcases hrr with rfl | ⟨x, rfl⟩ | ⟨x, rfl⟩
  · exact va_callv (a := a) hr hS (fun q _ h => hf q h) hf (fun u t H1 locs1 ht hvm hp hB hz1 hk1 hS1 => kk arr H1 locs1 _ _ hl (by rw [← ht]; exact hB.1) (hB.2.weaken (fun _ q _ h => hf q.1 h)) hS1 (by omega) (by omega))
  · exact va_calli (a := a) hr hS (fun q _ h => hf q h) hf (fun r u t H1 locs1 ht hvm hp hB hz1 hk1 hS1 => by
      subst hp
      exact kk arr H1 locs1 _ _ hl (by rw [← ht]; exact hB.1) (hB.2.weaken (fun _ q _ h => hf q.1 h)) hS1 (by omega) (by omega))
  · exact va_callr (a := a) hr hS (fun q _ h => hf q h) hf (fun u ra t H1 locs1 ht hvm hp hB hz1 hk1 hS1 => by
      obtain ⟨rfl, hB1, hB2⟩ := hB
      exact kk arr H1 locs1 _ _ hl (by rw [← ht]; exact hB1) (hB2.weaken (fun _ q _ h => hf q.1 h)) hS1 (by omega) (by omega))
theorem ai_call_ok {y y2 pc pc2 n : Nat} {i : Instr} {ls st as rest : List Value} {ws ws1 : ai_W} {r : Option Value} (hF : ai_F p R s m args meth c b N n0 cI cB cY dC dI A y) (hL : ls.length = ai_L y) (hd : decode (ai_code y) pc = .ok (i, n)) (h : ai_in y pc ls st ws i n = some (.inr (.inr (y2, as, rest, pc2)))) (hok : ai_ok y2 as ws = true) (hr8 : ai_cs rest ≤ 8) (hM : ai_Met l (dC, dI) cI cB cY b N y2 as ws r ws1) (hrr : r = none ∨ (∃ x, r = some (.int x)) ∨ ∃ x, r = some (.ref x)) (hg : ws.length ≤ ws1.length ∧ ai_sl ws ≤ ai_sl ws1) (hcap : ws1.length ≤ n0 + R.cells ∧ ai_sl ws1 ≤ s0 + R.slots) (kk : ai_X p l e R s m args below meth c Q b n0 s0 cI cB cY dC dI A pc2 ls (r.toList ++ rest) ws1) : ai_X p l e R s m args below meth c Q b n0 s0 cI cB cY dC dI A pc ls st ws := by
  obtain ⟨hy, hx, hb, hml, hown, hts, hK, hr, hlk, hin, hZ, hA, hA2, hz, hR1, hR2, hY⟩ := hF
  have key : ∀ (kd : Nat), ai_call y y2 kd pc st = some (.inr (.inr (y2, as, rest, pc2))) → (y2 < y ∧ ai_fr y2 + 1 ≤ ai_fr y ∧ 8 + (ai_L y2 + 11) + ai_lo y2 ≤ ai_lo y) ∧ ai_kind y2 = kd ∧ pc2 = pc + 3 ∧ st = as.reverse ++ rest := by
    intro kd hc
    unfold ai_call at hc
    split at hc
    · rename_i hq
      have e := Option.some.inj hc
      simp only [Sum.inr.injEq, Prod.mk.injEq, true_and] at e
      obtain ⟨e1, e2, e3⟩ := e
      refine ⟨⟨hq.1, hq.2.2.1, hq.2.2.2⟩, hq.2.1, e3.symm, ?_⟩
      rw [← e1, ← e2, List.reverse_reverse, List.take_append_drop]
    · cases hc
  have kc : ∀ {q : Nat} (kd : Nat), ai_call y q kd pc st = some (.inr (.inr (y2, as, rest, pc2))) → q = y2 := by
    intro q kd hc
    unfold ai_call at hc
    split at hc
    · have e := Option.some.inj hc
      simp only [Sum.inr.injEq, Prod.mk.injEq] at e
      exact e.1
    · cases hc
  have hf : ∀ {H : Heap} {locs : List Loc}, va_D A (ai_w b cI cB cY ws) → va_S A s.heap H locs → H.size = b.1 + ws.length → ∀ q, ai_A b cI cB cY ws q → A q := by
    intro H locs hD hS hz q hq
    rcases hq with ⟨k, e, h⟩ | h
    · exact hD.2 k (q, e) h
    · exact hA q (Nat.le_trans hS.1 (by rw [hz]; exact h))
  have pre : ∀ {H : Heap} {locs : List Loc}, va_P (dC, dI) vwCl (ai_w b cI cB cY ws) H → va_D A (ai_w b cI cB cY ws) → va_S A s.heap H locs → H.size = b.1 + ws.length → ∀ U : State, U.heap = H → s.WarmedH U.vm → ai_P (dC, dI) cI cB cY b N as ws (as.map (ai_cv b)).toArray U := fun hP hD hS hzz U hU hW => ⟨rfl, by rw [hU]; exact hzz, by rw [hU]; exact hP, hD.weaken (fun _ _ _ _ => trivial), va_K.moved hW.alike hK, hZ.warm hW, by rw [hU]; exact (((hY.kept hS.1 hS.2.1).narrow (hf hD hS hzz)).warm hW)⟩
  have fit : ∀ {cells slots : Nat}, ws.length = n0 + cells → ai_sl ws = s0 + slots → cells + (ws1.length - ws.length) ≤ R.cells ∧ slots + (ai_sl ws1 - ai_sl ws) ≤ R.slots := by
    intro cells slots h1 h2
    exact ⟨by omega, by omega⟩
  have room : (y2 < y ∧ ai_fr y2 + 1 ≤ ai_fr y ∧ 8 + (ai_L y2 + 11) + ai_lo y2 ≤ ai_lo y) → (ai_rm y2 (ws1.length - ws.length) (ai_sl ws1 - ai_sl ws)).frames + 1 ≤ R.frames ∧ 8 + (ai_L y2 + 11) + (ai_rm y2 (ws1.length - ws.length) (ai_sl ws1 - ai_sl ws)).locals ≤ R.locals := by
    intro hlt
    refine ⟨?_, ?_⟩
    · show ai_fr y2 + 1 ≤ _
      omega
    · show 8 + (ai_L y2 + 11) + ai_lo y2 ≤ _
      omega
  have ok := hok
  unfold ai_ok at ok
  simp only [Bool.and_eq_true, decide_eq_true_eq] at ok
  have hcat : ((rest.map (ai_cv b)).map fun v => v.category).sum ≤ 8 := by
    have e : (rest.map (ai_cv b)).map (fun v => v.category) = rest.map fun v => v.category := by
      rw [List.map_map]
      exact List.map_congr_left (fun v _ => ai_cv_cat2)
    rw [e]
    exact hr8
  have recv : ai_kind y2 ≠ 0 → ∃ v as2, as = v :: as2 ∧ ai_rcv ws v (ai_ci y2) = true ∧ as2.length = ai_n y2 := by
    intro hk
    have o1 := ok.1.1.1
    have o2 := ok.1.1.2
    rw [if_neg hk] at o1 o2
    split at o2
    · rename_i v as2
      exact ⟨v, as2, rfl, o2, by simpa using o1⟩
    · cases o2
  have obj : ∀ {H : Heap} {locs : List Loc} {v : Value}, ai_rcv ws v (ai_ci y2) = true → (∃ r, vwCl[ai_ci y2]? = some r) → va_P (dC, dI) vwCl (ai_w b cI cB cY ws) H → va_S A s.heap H locs → ∃ ad, ai_cv b v = .ref ad ∧ ∃ cellB : Cell, H[ad]? = some cellB ∧ cellB.vm.isStatics = false ∧ s.vm.findClass (ai_cn (ai_ci y2)) = some cellB.cls := by
    intro H locs v ho hr1 hP hS
    obtain ⟨r1, hr1⟩ := hr1
    unfold ai_rcv at ho
    split at ho
    · rename_i a
      refine ⟨b.1 + a, rfl, ?_⟩
      unfold ai_isob at ho
      split at ho
      · rename_i ci fs hc
        rw [decide_eq_true_eq] at ho
        subst ho
        have e1 : ai_cn (ai_ci y2) = r1.1 := by
          unfold ai_cn
          rw [hr1]
          rfl
        rw [e1]
        exact va_recv hK hP hr1 (ai_w_geto hc (ai_ne77 hr1))
      · cases ho
    · rename_i k
      rw [decide_eq_true_eq] at ho
      obtain ⟨e1, k1, k2⟩ := ho
      refine ⟨b.2.1 (k - 1 + 1), ?_, ?_⟩
      · rw [ai_cv_x (show ¬ k = 23 by omega)]
        unfold ai_xa
        rw [if_neg (by omega), show k - 1 + 1 = k by omega]
      · obtain ⟨cellB, c1, c2, c3, -⟩ := (hY.2.2.1.1 (k - 1) (by omega)).1.kept hS.2.1
        refine ⟨cellB, c1, c2, ?_⟩
        rw [e1]
        exact c3
    · cases ho
  unfold ai_in at h
  split at h <;> (try (simp only [ai_lda, ai_ldi, ai_ldf, ai_sti, ai_stf, ai_sta, ai_bin, ai_fb, ai_jmp, ai_wide, ai_go] at h; (repeat' split at h) <;> (cases h; done)))
  · -- invokevirtual
    unfold ai_inv at h
    split at h
    · rename_i y3 wi hv
      have e3 := kc _ h
      subst e3
      obtain ⟨hlt, hk1, rfl, rfl⟩ := key _ h
      have hl1 := ai_l_of hy hv
      obtain ⟨l1, l2, l3, l4, hy2⟩ := hl1
      have hyk := ai_yok hy2
      have hk0 : ai_kind y3 ≠ 0 := by rw [hk1]; decide
      obtain ⟨v, as2, rfl, ho, hn⟩ := recv hk0
      intro arr H locs cells slots hl hP hD hS h1 h2 T hT XX
      have hzz := ai_size XX hT hP hS hz h1
      obtain ⟨ad, hv1, hob⟩ := obj ho (hyk.2.2.2.2.2.2.1 hk0).2 hP hS
      rw [l4] at hob
      have cb := callB_of (R := R) (s := s) (args := args) (own := (ai_name y).cls) (index := _) (maxL := ai_L y3) (ai_n y3) hts (ai_goodIn hy2) rfl rfl rfl (hts _ hyk.1) (hts _ l1) ⟨hyk.2.1, hyk.2.2.1, hyk.2.2.2.2.1⟩ (room hlt)
      have hpre := pre (locs := locs) hP hD hS hzz
      rw [List.map_cons, hv1] at hpre
      have rn := va_runV (e := e) (below := below) (meth := meth) (locs := locs) (H := H) (rest := rest.map (ai_cv b)) (As := as2.map (ai_cv b)) (b := ad) (C := (ai_name y3).cls) (g := F0 m pc arr (((v :: as2).reverse ++ rest).map (ai_cv b))) (nL := ai_L y) ⟨hx, hb, hml, hown, hts⟩ hM ⟨cb, hts _ (hyk.2.2.2.2.2.2.1 hk0).1, hts _ l3⟩ ⟨ai_blind, hob, hpre⟩ rfl (by rw [List.length_map]; exact hn) (by show arr.size = _; rw [hl.1]; exact hL) (by show List.map (ai_cv b) _ = _; simp [hv1]) (by show 2 * 0 + _ ≤ 8; omega) hd (fit h1 h2)
      exact ai_back hA hrr hg rn hl hD hS hzz h1 h2 kk T hT XX
    · -- by another name
      rename_i y3 wi hv
      have e3 := kc _ h
      subst e3
      obtain ⟨hlt, hk1, rfl, rfl⟩ := key _ h
      have hl1 := ai_l_of hy hv
      obtain ⟨x, l1, l2, l3, l4, l5, hyx, hy2, l6⟩ := hl1
      have hyk := ai_yok hy2
      have hxk := ai_yok hyx
      have hk0 : ai_kind y3 ≠ 0 := by rw [hk1]; decide
      have hx0 : ai_kind x ≠ 0 := by rw [l5]; decide
      obtain ⟨v, as2, rfl, ho, hn⟩ := recv hk0
      intro arr H locs cells slots hl hP hD hS h1 h2 T hT XX
      have hzz := ai_size XX hT hP hS hz h1
      obtain ⟨ad, hv1, hob⟩ := obj ho (hyk.2.2.2.2.2.2.1 hk0).2 hP hS
      have cw := va_cwO (R := R) (s := s) (args := args) (own := (ai_name y).cls) (index := _) (C := ai_cn (ai_ci y3)) (owner := (ai_name x).cls) (x := ai_name x) (y := ai_name y3) (bytes := ai_code y3) (maxL := ai_L y3) (ret := ai_ret y3) (ws := ai_ws y3) (ws' := ai_T) (rm := ai_rm y3 (ws1.length - ws.length) (ai_sl ws1 - ai_sl ws)) (mc := ws1.length - ws.length) (ms := ai_sl ws1 - ai_sl ws) (ai_n x) hts (ai_goodL (by
        intro w hw
        unfold va_wsO at hw
        rcases List.mem_append.mp hw with hw | hw
        · simp only [List.mem_cons, List.not_mem_nil, or_false] at hw
          rcases hw with rfl | rfl | rfl | rfl | rfl | rfl
          · exact l1
          · exact l2
          · exact (hxk.2.2.2.2.2.2.1 hx0).1
          · exact l3
          · exact (hyk.2.2.2.2.2.2.1 hk0).1
          · exact hyk.1
        · exact (ai_goodIn hy2 w hw).1)) rfl rfl rfl (ai_w_code hyx) ⟨hxk.2.1, hxk.2.2.1, hxk.2.2.2.2.1⟩ (room hlt)
      have hpre := pre (locs := locs) hP hD hS hzz
      rw [List.map_cons, hv1] at hpre
      have rn := va_runU (e := e) (below := below) (meth := meth) (locs := locs) (H := H) (rest := rest.map (ai_cv b)) (As := as2.map (ai_cv b)) (b := ad) (g := F0 m pc arr (((v :: as2).reverse ++ rest).map (ai_cv b))) (nL := ai_L y) (cc := ai_code y) ⟨hx, hb, hml, hown, hts⟩ hM cw ⟨ai_blind, hob, hpre⟩ rfl (by rw [List.length_map, l6]; exact hn) (by show arr.size = _; rw [hl.1]; exact hL) (by show List.map (ai_cv b) _ = _; simp [hv1]) (by show 2 * 0 + _ ≤ 8; omega) hd (fit h1 h2)
      exact ai_back hA hrr hg rn hl hD hS hzz h1 h2 kk T hT XX
    · simp only [ai_go] at h
      (repeat' split at h) <;> cases h
    · cases h
  · -- invokestatic
    unfold ai_ins at h
    split at h
    · rename_i y3 wi hv
      have e3 := kc _ h
      subst e3
      obtain ⟨hlt, hk1, rfl, rfl⟩ := key _ h
      have hl1 := ai_l_of hy hv
      obtain ⟨l1, l2, hy2⟩ := hl1
      have hyk := ai_yok hy2
      have hn : as.length = ai_n y3 := by
        have o1 := ok.1.1.1
        rw [if_pos hk1] at o1
        exact o1
      intro arr H locs cells slots hl hP hD hS h1 h2 T hT XX
      have hzz := ai_size XX hT hP hS hz h1
      have cb := callB_of (R := R) (s := s) (args := args) (own := (ai_name y).cls) (index := _) (maxL := ai_L y3) (ai_n y3) hts (ai_goodIn hy2) rfl rfl rfl (hts _ hyk.1) (hts _ l1) ⟨hyk.2.1, hyk.2.2.1, hyk.2.2.2.2.1⟩ (room hlt)
      have rn := va_runS (e := e) (below := below) (meth := meth) (locs := locs) (H := H) (rest := rest.map (ai_cv b)) (As := as.map (ai_cv b)) (g := F0 m pc arr ((as.reverse ++ rest).map (ai_cv b))) (nL := ai_L y) ⟨hx, hb, hml, hown, hts⟩ hM ⟨cb, hts _ (hyk.2.2.2.2.2.1 hk1)⟩ ⟨ai_blind, pre (locs := locs) hP hD hS hzz⟩ rfl (by rw [List.length_map]; exact hn) (by show arr.size = _; rw [hl.1]; exact hL) (by show List.map (ai_cv b) _ = _; simp) (by show 2 * 0 + _ ≤ 8; omega) hd (fit h1 h2)
      exact ai_back hA hrr hg rn hl hD hS hzz h1 h2 kk T hT XX
    · rename_i y3 wi hv
      have e3 := kc _ h
      subst e3
      obtain ⟨hlt, hk1, rfl, rfl⟩ := key _ h
      have hl1 := ai_l_of hy hv
      obtain ⟨l1, l2, hy2⟩ := hl1
      have hyk := ai_yok hy2
      have hn : as.length = ai_n y3 := by
        have o1 := ok.1.1.1
        rw [if_pos hk1] at o1
        exact o1
      intro arr H locs cells slots hl hP hD hS h1 h2 T hT XX
      have hzz := ai_size XX hT hP hS hz h1
      have cb := va_cnB (R := R) (s := s) (args := args) (own := (ai_name y).cls) (host := "StoryCoroner") (index := _) (maxL := ai_L y3) (ai_n y3) hts (ai_goodIn hy2) rfl rfl rfl (hZ.2.1 _ l1) (hts _ hyk.1) ⟨hyk.2.1, hyk.2.2.1, hyk.2.2.2.2.1⟩ (room hlt)
      have rn := va_runSN (e := e) (below := below) (meth := meth) (locs := locs) (H := H) (rest := rest.map (ai_cv b)) (As := as.map (ai_cv b)) (g := F0 m pc arr ((as.reverse ++ rest).map (ai_cv b))) (nL := ai_L y) ⟨hx, hb, hml, hown, hts⟩ hM ⟨cb, hts _ (hyk.2.2.2.2.2.1 hk1), trivial⟩ ⟨ai_blind, pre (locs := locs) hP hD hS hzz⟩ rfl (by rw [List.length_map]; exact hn) (by show arr.size = _; rw [hl.1]; exact hL) (by show List.map (ai_cv b) _ = _; simp) (by show 2 * 0 + _ ≤ 8; omega) hd (fit h1 h2)
      exact ai_back hA hrr hg rn hl hD hS hzz h1 h2 kk T hT XX
    · simp only [ai_go] at h
      (repeat' split at h) <;> cases h
    · cases h
  · -- invokespecial
    unfold ai_spc at h
    split at h
    · rename_i y3 wi hv
      have e3 := kc _ h
      subst e3
      obtain ⟨hlt, hk1, rfl, rfl⟩ := key _ h
      have hl1 := ai_l_of hy hv
      obtain ⟨l1, l2, hy2⟩ := hl1
      have hyk := ai_yok hy2
      have hk0 : ai_kind y3 ≠ 0 := by rw [hk1]; decide
      obtain ⟨v, as2, rfl, ho, hn⟩ := recv hk0
      have hct := hyk.2.2.2.2.2.2.2.2.1 hk1
      intro arr H locs cells slots hl hP hD hS h1 h2 T hT XX
      have hzz := ai_size XX hT hP hS hz h1
      obtain ⟨ad, hv1, -⟩ := obj ho (hyk.2.2.2.2.2.2.1 hk0).2 hP hS
      have cb := callB_of (R := R) (s := s) (args := args) (own := (ai_name y).cls) (index := _) (maxL := ai_L y3) (ai_n y3) hts (ai_goodIn hy2) rfl rfl rfl (hts _ hyk.1) (hts _ l1) ⟨hyk.2.1, hyk.2.2.1, hyk.2.2.2.2.1⟩ (room hlt)
      rw [hct.2] at cb
      have hpre := pre (locs := locs) hP hD hS hzz
      rw [List.map_cons, hv1] at hpre
      have rn := va_runI (e := e) (below := below) (meth := meth) (locs := locs) (H := H) (rest := rest.map (ai_cv b)) (As := as2.map (ai_cv b)) (b := ad) (g := F0 m pc arr (((v :: as2).reverse ++ rest).map (ai_cv b))) (nL := ai_L y) ⟨hx, hb, hml, hown, hts⟩ hM ⟨cb, hct.1, hts _ (hyk.2.2.2.2.2.2.1 hk0).1⟩ ⟨ai_blind, hpre⟩ rfl (by rw [List.length_map]; exact hn) (by show arr.size = _; rw [hl.1]; exact hL) (by show List.map (ai_cv b) _ = _; simp [hv1]) (by show 2 * 0 + _ ≤ 8; omega) hd (fit h1 h2)
      exact ai_back hA hrr hg rn hl hD hS hzz h1 h2 kk T hT XX
    · rename_i y3 wi hv
      have e3 := kc _ h
      subst e3
      obtain ⟨hlt, hk1, rfl, rfl⟩ := key _ h
      have hl1 := ai_l_of hy hv
      obtain ⟨l1, l2, hy2⟩ := hl1
      have hyk := ai_yok hy2
      have hk0 : ai_kind y3 ≠ 0 := by rw [hk1]; decide
      obtain ⟨v, as2, rfl, ho, hn⟩ := recv hk0
      have hct := hyk.2.2.2.2.2.2.2.2.1 hk1
      intro arr H locs cells slots hl hP hD hS h1 h2 T hT XX
      have hzz := ai_size XX hT hP hS hz h1
      obtain ⟨ad, hv1, -⟩ := obj ho (hyk.2.2.2.2.2.2.1 hk0).2 hP hS
      have cb := va_cnB (R := R) (s := s) (args := args) (own := (ai_name y).cls) (host := "StoryCoroner") (index := _) (maxL := ai_L y3) (ai_n y3) hts (ai_goodIn hy2) rfl rfl rfl (hZ.2.1 _ l1) (hts _ hyk.1) ⟨hyk.2.1, hyk.2.2.1, hyk.2.2.2.2.1⟩ (room hlt)
      rw [hct.2] at cb
      have hpre := pre (locs := locs) hP hD hS hzz
      rw [List.map_cons, hv1] at hpre
      have rn := va_runIN (e := e) (below := below) (meth := meth) (locs := locs) (H := H) (rest := rest.map (ai_cv b)) (As := as2.map (ai_cv b)) (b := ad) (g := F0 m pc arr (((v :: as2).reverse ++ rest).map (ai_cv b))) (nL := ai_L y) ⟨hx, hb, hml, hown, hts⟩ hM ⟨cb, hct.1, hts _ (hyk.2.2.2.2.2.2.1 hk0).1⟩ ⟨ai_blind, hpre⟩ rfl (by rw [List.length_map]; exact hn) (by show arr.size = _; rw [hl.1]; exact hL) (by show List.map (ai_cv b) _ = _; simp [hv1]) (by show 2 * 0 + _ ≤ 8; omega) hd (fit h1 h2)
      exact ai_back hA hrr hg rn hl hD hS hzz h1 h2 kk T hT XX
    · -- the superclass's own
      rename_i y3 wi hv
      have e3 := kc _ h
      subst e3
      obtain ⟨hlt, hk1, rfl, rfl⟩ := key _ h
      have hl1 := ai_l_of hy hv
      obtain ⟨l1, l2, l3, l4, hy2⟩ := hl1
      have hyk := ai_yok hy2
      have hk0 : ai_kind y3 ≠ 0 := by rw [hk1]; decide
      obtain ⟨v, as2, rfl, ho, hn⟩ := recv hk0
      intro arr H locs cells slots hl hP hD hS h1 h2 T hT XX
      have hzz := ai_size XX hT hP hS hz h1
      obtain ⟨r1, hr1⟩ := (hyk.2.2.2.2.2.2.1 hk0).2
      obtain ⟨ad, hv1, hob⟩ := obj ho ⟨r1, hr1⟩ hP hS
      have hat := (hK.1 _ _ hr1).2
      have e1 : ai_cn (ai_ci y3) = r1.1 := by
        unfold ai_cn
        rw [hr1]
        rfl
      rw [e1] at hob
      have cw := va_cwSU (R := R) (s := s) (args := args) (own := (ai_name y).cls) (index := _) (y := ai_name y3) (bytes := ai_code y3) (maxL := ai_L y3) (ret := ai_ret y3) (ws := ai_ws y3) (ws' := ai_T) (rm := ai_rm y3 (ws1.length - ws.length) (ai_sl ws1 - ai_sl ws)) (mc := ws1.length - ws.length) (ms := ai_sl ws1 - ai_sl ws) (ai_n y3) hts (ai_goodL (by
        intro w hw
        unfold va_wsSU at hw
        rcases List.mem_append.mp hw with hw | hw
        · simp only [List.mem_cons, List.not_mem_nil, or_false] at hw
          rcases hw with rfl | rfl | rfl | rfl | rfl
          · exact l1
          · exact l2
          · exact l3
          · exact (hyk.2.2.2.2.2.2.1 hk0).1
          · exact hyk.1
        · exact (ai_goodIn hy2 w hw).1)) rfl rfl rfl ⟨hyk.2.2.2.2.2.2.2.1 hk1, hyk.2.2.2.2.1⟩ (room hlt)
      have hpre := pre (locs := locs) hP hD hS hzz
      rw [List.map_cons, hv1] at hpre
      have rn := va_runSU (e := e) (below := below) (meth := meth) (locs := locs) (H := H) (rest := rest.map (ai_cv b)) (As := as2.map (ai_cv b)) (b := ad) (g := F0 m pc arr (((v :: as2).reverse ++ rest).map (ai_cv b))) (nL := ai_L y) (cc := ai_code y) hat ⟨hx, hb, hml, hown, hts⟩ hM cw ⟨ai_blind, hob, hpre⟩ rfl (by rw [List.length_map]; exact hn) (by show arr.size = _; rw [hl.1]; exact hL) (by show List.map (ai_cv b) _ = _; simp [hv1]) (by show 2 * 0 + _ ≤ 8; omega) hd (fit h1 h2)
      exact ai_back hA hrr hg rn hl hD hS hzz h1 h2 kk T hT XX
    · simp only [ai_go] at h
      (repeat' split at h) <;> cases h
    · cases h
  · split at h
    · split at h <;> cases h
    · cases h
  · split at h
    · split at h <;> cases h
    · cases h
  · split at h
    · split at h <;> cases h
    · cases h
  · cases h
end AIS
