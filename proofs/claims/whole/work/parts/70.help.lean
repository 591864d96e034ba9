/-- no row for one takes the other -/
def cW (U : State) : Prop := va_Nc "java/lang/IllegalStateException" "java/lang/IllegalArgumentException" U ∧ va_Nc "java/lang/IndexOutOfBoundsException" "java/lang/IllegalArgumentException" U ∧ va_Nc "java/lang/IllegalArgumentException" "java/lang/IndexOutOfBoundsException" U
theorem cW.moved {u U : State} (hvm : u.vm.Alike U.vm) (h : cW u) : cW U := ⟨va_Nc.moved hvm h.1, va_Nc.moved hvm h.2.1, va_Nc.moved hvm h.2.2⟩
def cL3 (cI cZ cJ : ClassId) : List (ClassId × FieldType) := [(cI, .int), (cZ, .boolean), (cJ, .long)]
def wXo (ad : Nat → Nat) (cI cZ cJ : ClassId) (q : Nat) (z : Nat → Nat) (v : Nat → Int32) (f : Nat → Nat → Int32) (g : Nat → Int64) : va_W := wX ad cI cZ z v f ++ [(q, .inl (cJ, 1, .inr (.inl g)))]
theorem kc_trader (z : Nat → Nat) (v : Nat → Int32) (f : Nat → Nat → Int32) : (F_X4_trader z v f).1 = 0 ∨ ((F_X4_trader z v f).1 = 2 ∧ (F_X4_trader z v f).2.2 = (z, v, f)) := by
  rw [F_X4_trader]
  repeat' split
  all_goals first | exact Or.inl rfl | exact Or.inr ⟨rfl, rfl⟩
def hc_trader : Nat → Int32
  | 2 => 1
  | _ => 0
set_option maxHeartbeats 4000000 in
set_option maxRecDepth 100000 in
theorem c_L_trader (l : Launch) (dC : Nat → ClassId) (dI : Nat → Nat → Nat) (ad : Nat → Nat) (cI cZ cJ : ClassId) (z : Nat → Nat) (v : Nat → Int32) (f : Nat → Nat → Int32) (sz o : Nat) (g : Nat → Int64) (hok : okX z v f) (hlt : l.stackTraces = false) : Met l yL_trader wsL_trader ({ frames := 7, cells := 1, slots := 6, locals := 103 }) (va_Pc [.ref (ad 0), .ref o] (fun U => U.heap.size = sz ∧ va_D (fun _ => True) (wXo ad cI cZ cJ o z v f g) ∧ va_P (dC, dI) vwCl (wXo ad cI cZ cJ o z v f g) U.heap ∧ va_K (dC, dI) vwCl (cL3 cI cZ cJ) U ∧ nW U ∧ tW (va_A (wXo ad cI cZ cJ o z v f g) sz) U ∧ cW U)) (va_Qi (fun (r : Int32) (g' : Nat → Int64) => r = hc_trader (F_X4_trader z v f).1 ∧ ((F_X4_trader z v f).1 = 0 → g' 0 = (F_X4_trader z v f).2.1.toInt64)) (fun g' U => va_P (dC, dI) vwCl (wXo ad cI cZ cJ o (F_X4_trader z v f).2.2.1 (F_X4_trader z v f).2.2.2.1 (F_X4_trader z v f).2.2.2.2 g') U.heap) (va_A (wXo ad cI cZ cJ o z v f g) sz)) 1 6 (va_A (wXo ad cI cZ cJ o z v f g) sz) := by
  refine va_MetW (cc := cL_trader) (maxL := 3) (ret := (some .int)) (hh := [(0, 8, 11, 13)]) (by decide) rfl ?_
  intro p e s m args below meth c s₁ B hml hv
  obtain ⟨rfl, hsz, hD0, hP, hK, hN, hT, hC⟩ := hv
  have hx := B.exec
  have hb := B.bytes
  have hr := B.returns
  have hts := atoms_spec (ws := wsL_trader) B.pre
  have hown : s.vm.findClass RL = some m.cls := findClass_of_methodNamed B.named
  have hlocks := B.notSynchronized
  have htab : c.exceptionTable.toList = tableOf [(0, 8, 11, 13)] := vx_table (x := yL_trader) B (hts _ List.mem_cons_self)
  have hck13 := hts (.classLink RL 13 "java/lang/IllegalStateException") (List.mem_of_getElem? (i := 1) rfl)
  subst hsz
  have hD := hD0.self (sz := s.heap.size)
  generalize hAe : va_A (wXo ad cI cZ cJ o z v f g) s.heap.size = A at hD hT ⊢
  have hA : ∀ q : Nat, s.heap.size ≤ q → A q := fun q h => by rw [← hAe]; exact Or.inr h
  have hS : va_S A s.heap s.heap [] := va_S.rf
  have hl := lv_entry ([.ref (ad 0), .ref o]) (n := 3) (Nat.le_of_ble_eq_true rfl)
  rw [lg_entry_eq]
  generalize (lg_sl ([.ref (ad 0), .ref o]) ++ List.replicate (3 - (lg_sl ([.ref (ad 0), .ref o])).length) Slot.unset).toArray = ls at hl ⊢
  have hl : lv_has ls 3 [(0, .ref (ad 0)), (1, .ref o)] := hl
  have hkc := kc_trader z v f
  have hM := c_X4_trader l dC dI ad cI cZ z v f s.heap.size hok hlt
  generalize F_X4_trader z v f = FF at hkc hM ⊢
  refine lv_aload_n hx hb dL_trader_0 rfl (lv_at hl 1 rfl) ?_
  refine lv_iconst (v := 0) hx hb dL_trader_1 (by decide) ?_
  refine lv_aload_n hx hb dL_trader_2 rfl (lv_at hl 0 rfl) ?_
  have hPc := hP.sub (ws' := (wX ad cI cZ z v f)) [0, 1, 2, 3, 4, 5, 6, 7, 8, 9, 10, 11, 12, 13, 14, 15, 16, 17, 18, 19, 20, 21] rfl
  have hDc := hD.sub (ws' := (wX ad cI cZ z v f)) [0, 1, 2, 3, 4, 5, 6, 7, 8, 9, 10, 11, 12, 13, 14, 15, 16, 17, 18, 19, 20, 21] (by decide) rfl
  have hKc := hK.sub (tys' := [(cI, .int), (cZ, .boolean)]) [0, 1] rfl
  have hFc := va_free (wc := (wX ad cI cZ z v f)) hD hS hA [0, 1, 2, 3, 4, 5, 6, 7, 8, 9, 10, 11, 12, 13, 14, 15, 16, 17, 18, 19, 20, 21] rfl
  refine vx_calli (vx_runV (As := []) (rest := [.int 0, .ref o]) ⟨hx, hb, hml, hown, hts⟩ hM (cwV 0 hts gL_trader_X4_trader rfl rfl rfl (by decide +kernel) ⟨Nat.le_of_ble_eq_true rfl, Nat.le_of_ble_eq_true rfl⟩) (preXt (ci := 4) (q0 := 0) hPc hKc hN hDc hT hS hFc rfl rfl rfl) rfl rfl hl.1 rfl (lv_room (Nat.le_of_ble_eq_true rfl)) dL_trader_3 ⟨Nat.le_of_ble_eq_true rfl, Nat.le_of_ble_eq_true rfl⟩) hS (fun q _ h => hFc q h) hFc (fun q _ h => hFc q h) (fun E ce q9 u9 t9 H1 locs ht hvm hpx hBX hz1 hk1 hS hce hcv hcl => ?_) (fun r u9 t9 H1 locs ht hvm hw hB hz1 hk1 hS => ?_)
  · obtain ⟨hE, hne, hP1⟩ := hBX
    rw [ht] at hP1
    obtain ⟨hP, hD⟩ := va_join (wr := [(o, .inl (cJ, 1, .inr (.inl g)))]) (w1 := (wX ad cI cZ z v f)) hP hD [0, 1, 2, 3, 4, 5, 6, 7, 8, 9, 10, 11, 12, 13, 14, 15, 16, 17, 18, 19, 20, 21] [22] rfl rfl (by decide) (by decide) hk1 hFc hP1 (va_D.fst (ws := (wX ad cI cZ z v f)) rfl (hDc.self (sz := s.heap.size)))
    generalize H1 = H at hP hS hce ⊢
    have hP : va_P (dC, dI) vwCl (wXo ad cI cZ cJ o z v f g) H := hP.sub [1, 2, 3, 4, 5, 6, 7, 8, 9, 10, 11, 12, 13, 14, 15, 16, 17, 18, 19, 20, 21, 22, 0] rfl
    rcases hkc with h0 | ⟨h2, e2⟩
    · exact absurd h0 hne
    · rw [h2] at hE
      have hE : E = "java/lang/IllegalStateException" := hE
      subst hE
      refine vx_catch (name := "java/lang/IllegalStateException") hown [] ⟨0, 8, 11, 13⟩ [] htab (fun z9 hz => by cases hz) (by decide) (by decide) hck13 (va_Nw.use rfl (hT.2.2.2 (.castable "java/lang/IllegalStateException" "java/lang/IllegalStateException") (by decide +kernel))) hce hcv hcl ?_
      refine lv_astore_n (lv' := [(2, .ref q9), (0, .ref (ad 0)), (1, .ref o)]) hx hb dL_trader_11 rfl hl (by decide) rfl (fun ls hl => ?_)
      refine lv_iconst (v := 1) hx hb dL_trader_12 (by decide) ?_
      refine W.widen (k := 1) (n := 6) (Nat.le_of_ble_eq_true rfl) (Nat.le_of_ble_eq_true rfl) ?_
      exact W.iret (v := 1) hx hb hr (fun t9 ht hW => ⟨⟨1, g, rfl, ⟨by rw [h2]; rfl, fun h => absurd (h.symm.trans h2) (by decide)⟩, by show va_P (dC, dI) vwCl _ t9.heap; rw [ht, e2]; exact hP⟩, hS.F ht⟩) hS.2.2 dL_trader_13
  · have hP1 : va_P (dC, dI) vwCl _ t9.heap := hB
    rw [ht] at hP1
    obtain ⟨hP, hD⟩ := va_join (wr := [(o, .inl (cJ, 1, .inr (.inl g)))]) (w1 := (wX ad cI cZ FF.2.2.1 FF.2.2.2.1 FF.2.2.2.2)) hP hD [0, 1, 2, 3, 4, 5, 6, 7, 8, 9, 10, 11, 12, 13, 14, 15, 16, 17, 18, 19, 20, 21] [22] rfl rfl (by decide) (by decide) hk1 hFc hP1 (va_D.fst (ws := (wX ad cI cZ z v f)) rfl (hDc.self (sz := s.heap.size)))
    generalize H1 = H at hP hS ⊢
    have hP : va_P (dC, dI) vwCl (wXo ad cI cZ cJ o FF.2.2.1 FF.2.2.2.1 FF.2.2.2.2 g) H := hP.sub [1, 2, 3, 4, 5, 6, 7, 8, 9, 10, 11, 12, 13, 14, 15, 16, 17, 18, 19, 20, 21, 22, 0] rfl
    have hD : va_D A (wXo ad cI cZ cJ o FF.2.2.1 FF.2.2.2.1 FF.2.2.2.2 g) := hD.sub [1, 2, 3, 4, 5, 6, 7, 8, 9, 10, 11, 12, 13, 14, 15, 16, 17, 18, 19, 20, 21, 22, 0] (by decide) rfl
    refine lv_i2l hx hb dL_trader_6 rfl ?_
    refine va_last hx hb hK hP hD hS 22 2 rfl rfl (vp_in_nI (n := 0) (by decide) (by decide)) dL_trader_7 (fun H locs hP hD hS => ?_)
    have hP : va_P (dC, dI) vwCl (wXo ad cI cZ cJ o FF.2.2.1 FF.2.2.2.1 FF.2.2.2.2 (vp_updL g (0 : Int32).toNatClampNeg r.toInt64)) H := hP
    refine lv_goto (tgt := 14) hx hb dL_trader_8 (by decide) ?_
    refine lv_iconst (v := 0) hx hb dL_trader_14 (by decide) ?_
    refine W.widen (k := 1) (n := 6) (Nat.le_of_ble_eq_true rfl) (Nat.le_of_ble_eq_true rfl) ?_
    exact W.iret (v := 0) hx hb hr (fun t9 ht hW => ⟨⟨0, (vp_updL g (0 : Int32).toNatClampNeg r.toInt64), rfl, ⟨by rw [hw.1]; rfl, fun _ => by rw [← hw.2]; rfl⟩, by show va_P (dC, dI) vwCl _ t9.heap; rw [ht]; exact hP⟩, hS.F ht⟩) hS.2.2 dL_trader_15
theorem kc_right (z : Nat → Nat) (v : Nat → Int32) (f : Nat → Nat → Int32) (t a pl fr to : Int32) : (F_X4_right z v f t a pl fr to).1 = 0 ∨ ((F_X4_right z v f t a pl fr to).1 = 1 ∧ (F_X4_right z v f t a pl fr to).2.2 = (z, v, f)) ∨ ((F_X4_right z v f t a pl fr to).1 = 2 ∧ (F_X4_right z v f t a pl fr to).2.2 = (z, v, f)) := by
  rw [F_X4_right]
  repeat' split
  all_goals first | exact Or.inl rfl | exact Or.inr ⟨rfl, rfl⟩ | exact Or.inr (Or.inl ⟨rfl, rfl⟩) | exact Or.inr (Or.inr ⟨rfl, rfl⟩)
def hc_right : Nat → Int32
  | 1 => 1
  | 2 => 2
  | _ => 0
set_option maxHeartbeats 4000000 in
set_option maxRecDepth 100000 in
theorem c_L_right (l : Launch) (dC : Nat → ClassId) (dI : Nat → Nat → Nat) (ad : Nat → Nat) (cI cZ cJ : ClassId) (z : Nat → Nat) (v : Nat → Int32) (f : Nat → Nat → Int32) (sz o : Nat) (g : Nat → Int64) (t a pl fr to : Int32) (hok : okX z v f) (hlt : l.stackTraces = false) : Met l yL_right wsL_right ({ frames := 7, cells := 1, slots := 6, locals := 107 }) (va_Pc [.ref (ad 0), .int t, .int a, .int pl, .int fr, .int to, .ref o] (fun U => U.heap.size = sz ∧ va_D (fun _ => True) (wXo ad cI cZ cJ o z v f g) ∧ va_P (dC, dI) vwCl (wXo ad cI cZ cJ o z v f g) U.heap ∧ va_K (dC, dI) vwCl (cL3 cI cZ cJ) U ∧ nW U ∧ tW (va_A (wXo ad cI cZ cJ o z v f g) sz) U ∧ cW U)) (va_Qi (fun (r : Int32) (g' : Nat → Int64) => r = hc_right (F_X4_right z v f t a pl fr to).1 ∧ ((F_X4_right z v f t a pl fr to).1 = 0 → g' 0 = (F_X4_right z v f t a pl fr to).2.1.toInt64)) (fun g' U => va_P (dC, dI) vwCl (wXo ad cI cZ cJ o (F_X4_right z v f t a pl fr to).2.2.1 (F_X4_right z v f t a pl fr to).2.2.2.1 (F_X4_right z v f t a pl fr to).2.2.2.2 g') U.heap) (va_A (wXo ad cI cZ cJ o z v f g) sz)) 1 6 (va_A (wXo ad cI cZ cJ o z v f g) sz) := by
  refine va_MetW (cc := cL_right) (maxL := 8) (ret := (some .int)) (hh := [(0, 16, 19, 19), (0, 16, 23, 13)]) (by decide) rfl ?_
  intro p e s m args below meth c s₁ B hml hv
  obtain ⟨rfl, hsz, hD0, hP, hK, hN, hT, hC⟩ := hv
  have hx := B.exec
  have hb := B.bytes
  have hr := B.returns
  have hts := atoms_spec (ws := wsL_right) B.pre
  have hown : s.vm.findClass RL = some m.cls := findClass_of_methodNamed B.named
  have hlocks := B.notSynchronized
  have htab : c.exceptionTable.toList = tableOf [(0, 16, 19, 19), (0, 16, 23, 13)] := vx_table (x := yL_right) B (hts _ List.mem_cons_self)
  have hck13 := hts (.classLink RL 13 "java/lang/IllegalStateException") (List.mem_of_getElem? (i := 2) rfl)
  have hck19 := hts (.classLink RL 19 "java/lang/IllegalArgumentException") (List.mem_of_getElem? (i := 1) rfl)
  subst hsz
  have hD := hD0.self (sz := s.heap.size)
  generalize hAe : va_A (wXo ad cI cZ cJ o z v f g) s.heap.size = A at hD hT ⊢
  have hA : ∀ q : Nat, s.heap.size ≤ q → A q := fun q h => by rw [← hAe]; exact Or.inr h
  have hS : va_S A s.heap s.heap [] := va_S.rf
  have hl := lv_entry ([.ref (ad 0), .int t, .int a, .int pl, .int fr, .int to, .ref o]) (n := 8) (Nat.le_of_ble_eq_true rfl)
  rw [lg_entry_eq]
  generalize (lg_sl ([.ref (ad 0), .int t, .int a, .int pl, .int fr, .int to, .ref o]) ++ List.replicate (8 - (lg_sl ([.ref (ad 0), .int t, .int a, .int pl, .int fr, .int to, .ref o])).length) Slot.unset).toArray = ls at hl ⊢
  have hl : lv_has ls 8 [(0, .ref (ad 0)), (1, .int t), (2, .int a), (3, .int pl), (4, .int fr), (5, .int to), (6, .ref o)] := hl
  have hkc := kc_right z v f t a pl fr to
  have hM := c_X4_right l dC dI ad cI cZ z v f s.heap.size t a pl fr to hok hlt
  generalize F_X4_right z v f t a pl fr to = FF at hkc hM ⊢
  refine lv_aload hx hb dL_right_0 (lv_at hl 6 rfl) ?_
  refine lv_iconst (v := 0) hx hb dL_right_2 (by decide) ?_
  refine lv_aload_n hx hb dL_right_3 rfl (lv_at hl 0 rfl) ?_
  refine lv_iload_n hx hb dL_right_4 rfl (lv_at hl 1 rfl) ?_
  refine lv_iload_n hx hb dL_right_5 rfl (lv_at hl 2 rfl) ?_
  refine lv_iload_n hx hb dL_right_6 rfl (lv_at hl 3 rfl) ?_
  refine lv_iload hx hb dL_right_7 (lv_at hl 4 rfl) ?_
  refine lv_iload hx hb dL_right_9 (lv_at hl 5 rfl) ?_
  have hPc := hP.sub (ws' := (wX ad cI cZ z v f)) [0, 1, 2, 3, 4, 5, 6, 7, 8, 9, 10, 11, 12, 13, 14, 15, 16, 17, 18, 19, 20, 21] rfl
  have hDc := hD.sub (ws' := (wX ad cI cZ z v f)) [0, 1, 2, 3, 4, 5, 6, 7, 8, 9, 10, 11, 12, 13, 14, 15, 16, 17, 18, 19, 20, 21] (by decide) rfl
  have hKc := hK.sub (tys' := [(cI, .int), (cZ, .boolean)]) [0, 1] rfl
  have hFc := va_free (wc := (wX ad cI cZ z v f)) hD hS hA [0, 1, 2, 3, 4, 5, 6, 7, 8, 9, 10, 11, 12, 13, 14, 15, 16, 17, 18, 19, 20, 21] rfl
  refine vx_calli (vx_runV (As := [.int t, .int a, .int pl, .int fr, .int to]) (rest := [.int 0, .ref o]) ⟨hx, hb, hml, hown, hts⟩ hM (cwV 5 hts gL_right_X4_right rfl rfl rfl (by decide +kernel) ⟨Nat.le_of_ble_eq_true rfl, Nat.le_of_ble_eq_true rfl⟩) (preXt (ci := 4) (q0 := 0) hPc hKc hN hDc hT hS hFc rfl rfl rfl) rfl rfl hl.1 rfl (lv_room (Nat.le_of_ble_eq_true rfl)) dL_right_11 ⟨Nat.le_of_ble_eq_true rfl, Nat.le_of_ble_eq_true rfl⟩) hS (fun q _ h => hFc q h) hFc (fun q _ h => hFc q h) (fun E ce q9 u9 t9 H1 locs ht hvm hpx hBX hz1 hk1 hS hce hcv hcl => ?_) (fun r u9 t9 H1 locs ht hvm hw hB hz1 hk1 hS => ?_)
  · obtain ⟨hE, hne, hP1⟩ := hBX
    rw [ht] at hP1
    obtain ⟨hP, hD⟩ := va_join (wr := [(o, .inl (cJ, 1, .inr (.inl g)))]) (w1 := (wX ad cI cZ z v f)) hP hD [0, 1, 2, 3, 4, 5, 6, 7, 8, 9, 10, 11, 12, 13, 14, 15, 16, 17, 18, 19, 20, 21] [22] rfl rfl (by decide) (by decide) hk1 hFc hP1 (va_D.fst (ws := (wX ad cI cZ z v f)) rfl (hDc.self (sz := s.heap.size)))
    generalize H1 = H at hP hS hce ⊢
    have hP : va_P (dC, dI) vwCl (wXo ad cI cZ cJ o z v f g) H := hP.sub [1, 2, 3, 4, 5, 6, 7, 8, 9, 10, 11, 12, 13, 14, 15, 16, 17, 18, 19, 20, 21, 22, 0] rfl
    rcases hkc with h0 | ⟨h1, e1⟩ | ⟨h2, e2⟩
    · exact absurd h0 hne
    · rw [h1] at hE
      have hE : E = "java/lang/IllegalArgumentException" := hE
      subst hE
      refine vx_catch (name := "java/lang/IllegalArgumentException") hown [] ⟨0, 16, 19, 19⟩ [⟨0, 16, 23, 13⟩] htab (fun z9 hz => by cases hz) (by decide) (by decide) hck19 (va_Nw.use rfl (hT.2.2.2 (.castable "java/lang/IllegalArgumentException" "java/lang/IllegalArgumentException") (by decide +kernel))) hce hcv hcl ?_
      refine lv_astore (lv' := [(7, .ref q9), (0, .ref (ad 0)), (1, .int t), (2, .int a), (3, .int pl), (4, .int fr), (5, .int to), (6, .ref o)]) hx hb dL_right_19 hl (by decide) rfl (fun ls hl => ?_)
      refine lv_iconst (v := 1) hx hb dL_right_21 (by decide) ?_
      refine W.widen (k := 1) (n := 6) (Nat.le_of_ble_eq_true rfl) (Nat.le_of_ble_eq_true rfl) ?_
      exact W.iret (v := 1) hx hb hr (fun t9 ht hW => ⟨⟨1, g, rfl, ⟨by rw [h1]; rfl, fun h => absurd (h.symm.trans h1) (by decide)⟩, by show va_P (dC, dI) vwCl _ t9.heap; rw [ht, e1]; exact hP⟩, hS.F ht⟩) hS.2.2 dL_right_22
    · rw [h2] at hE
      have hE : E = "java/lang/IllegalStateException" := hE
      subst hE
      refine vx_catch (name := "java/lang/IllegalStateException") hown [⟨0, 16, 19, 19⟩] ⟨0, 16, 23, 13⟩ [] htab (fun z9 hz => by rcases List.mem_singleton.mp hz with rfl; exact Or.inr ⟨by decide, "java/lang/IllegalArgumentException", hck19, hC.1⟩) (by decide) (by decide) hck13 (va_Nw.use rfl (hT.2.2.2 (.castable "java/lang/IllegalStateException" "java/lang/IllegalStateException") (by decide +kernel))) hce hcv hcl ?_
      refine lv_astore (lv' := [(7, .ref q9), (0, .ref (ad 0)), (1, .int t), (2, .int a), (3, .int pl), (4, .int fr), (5, .int to), (6, .ref o)]) hx hb dL_right_23 hl (by decide) rfl (fun ls hl => ?_)
      refine lv_iconst (v := 2) hx hb dL_right_25 (by decide) ?_
      refine W.widen (k := 1) (n := 6) (Nat.le_of_ble_eq_true rfl) (Nat.le_of_ble_eq_true rfl) ?_
      exact W.iret (v := 2) hx hb hr (fun t9 ht hW => ⟨⟨2, g, rfl, ⟨by rw [h2]; rfl, fun h => absurd (h.symm.trans h2) (by decide)⟩, by show va_P (dC, dI) vwCl _ t9.heap; rw [ht, e2]; exact hP⟩, hS.F ht⟩) hS.2.2 dL_right_26
  · have hP1 : va_P (dC, dI) vwCl _ t9.heap := hB
    rw [ht] at hP1
    obtain ⟨hP, hD⟩ := va_join (wr := [(o, .inl (cJ, 1, .inr (.inl g)))]) (w1 := (wX ad cI cZ FF.2.2.1 FF.2.2.2.1 FF.2.2.2.2)) hP hD [0, 1, 2, 3, 4, 5, 6, 7, 8, 9, 10, 11, 12, 13, 14, 15, 16, 17, 18, 19, 20, 21] [22] rfl rfl (by decide) (by decide) hk1 hFc hP1 (va_D.fst (ws := (wX ad cI cZ z v f)) rfl (hDc.self (sz := s.heap.size)))
    generalize H1 = H at hP hS ⊢
    have hP : va_P (dC, dI) vwCl (wXo ad cI cZ cJ o FF.2.2.1 FF.2.2.2.1 FF.2.2.2.2 g) H := hP.sub [1, 2, 3, 4, 5, 6, 7, 8, 9, 10, 11, 12, 13, 14, 15, 16, 17, 18, 19, 20, 21, 22, 0] rfl
    have hD : va_D A (wXo ad cI cZ cJ o FF.2.2.1 FF.2.2.2.1 FF.2.2.2.2 g) := hD.sub [1, 2, 3, 4, 5, 6, 7, 8, 9, 10, 11, 12, 13, 14, 15, 16, 17, 18, 19, 20, 21, 22, 0] (by decide) rfl
    refine lv_i2l hx hb dL_right_14 rfl ?_
    refine va_last hx hb hK hP hD hS 22 2 rfl rfl (vp_in_nI (n := 0) (by decide) (by decide)) dL_right_15 (fun H locs hP hD hS => ?_)
    have hP : va_P (dC, dI) vwCl (wXo ad cI cZ cJ o FF.2.2.1 FF.2.2.2.1 FF.2.2.2.2 (vp_updL g (0 : Int32).toNatClampNeg r.toInt64)) H := hP
    refine lv_goto (tgt := 27) hx hb dL_right_16 (by decide) ?_
    refine lv_iconst (v := 0) hx hb dL_right_27 (by decide) ?_
    refine W.widen (k := 1) (n := 6) (Nat.le_of_ble_eq_true rfl) (Nat.le_of_ble_eq_true rfl) ?_
    exact W.iret (v := 0) hx hb hr (fun t9 ht hW => ⟨⟨0, (vp_updL g (0 : Int32).toNatClampNeg r.toInt64), rfl, ⟨by rw [hw.1]; rfl, fun _ => by rw [← hw.2]; rfl⟩, by show va_P (dC, dI) vwCl _ t9.heap; rw [ht]; exact hP⟩, hS.F ht⟩) hS.2.2 dL_right_28
theorem kc_group (z : Nat → Nat) (v : Nat → Int32) (f : Nat → Nat → Int32) (t u : Int32) : (F_X4_group z v f t u).1 = 0 ∨ ((F_X4_group z v f t u).1 = 1 ∧ (F_X4_group z v f t u).2.2 = (z, v, f)) := by
  rw [F_X4_group]
  repeat' split
  all_goals first | exact Or.inl rfl | exact Or.inr ⟨rfl, rfl⟩
def hc_group : Nat → Int32
  | 1 => 1
  | _ => 0
set_option maxHeartbeats 4000000 in
set_option maxRecDepth 100000 in
theorem c_L_group (l : Launch) (dC : Nat → ClassId) (dI : Nat → Nat → Nat) (ad : Nat → Nat) (cI cZ cJ : ClassId) (z : Nat → Nat) (v : Nat → Int32) (f : Nat → Nat → Int32) (sz o : Nat) (g : Nat → Int64) (t u : Int32) (hok : okX z v f) (hlt : l.stackTraces = false) : Met l yL_group wsL_group ({ frames := 7, cells := 1, slots := 6, locals := 106 }) (va_Pc [.ref (ad 0), .int t, .int u, .ref o] (fun U => U.heap.size = sz ∧ va_D (fun _ => True) (wXo ad cI cZ cJ o z v f g) ∧ va_P (dC, dI) vwCl (wXo ad cI cZ cJ o z v f g) U.heap ∧ va_K (dC, dI) vwCl (cL3 cI cZ cJ) U ∧ nW U ∧ tW (va_A (wXo ad cI cZ cJ o z v f g) sz) U ∧ cW U)) (va_Qi (fun (r : Int32) (g' : Nat → Int64) => r = hc_group (F_X4_group z v f t u).1 ∧ ((F_X4_group z v f t u).1 = 0 → g' 0 = (F_X4_group z v f t u).2.1.toInt64)) (fun g' U => va_P (dC, dI) vwCl (wXo ad cI cZ cJ o (F_X4_group z v f t u).2.2.1 (F_X4_group z v f t u).2.2.2.1 (F_X4_group z v f t u).2.2.2.2 g') U.heap) (va_A (wXo ad cI cZ cJ o z v f g) sz)) 1 6 (va_A (wXo ad cI cZ cJ o z v f g) sz) := by
  refine va_MetW (cc := cL_group) (maxL := 5) (ret := (some .int)) (hh := [(0, 10, 13, 19)]) (by decide) rfl ?_
  intro p e s m args below meth c s₁ B hml hv
  obtain ⟨rfl, hsz, hD0, hP, hK, hN, hT, hC⟩ := hv
  have hx := B.exec
  have hb := B.bytes
  have hr := B.returns
  have hts := atoms_spec (ws := wsL_group) B.pre
  have hown : s.vm.findClass RL = some m.cls := findClass_of_methodNamed B.named
  have hlocks := B.notSynchronized
  have htab : c.exceptionTable.toList = tableOf [(0, 10, 13, 19)] := vx_table (x := yL_group) B (hts _ List.mem_cons_self)
  have hck19 := hts (.classLink RL 19 "java/lang/IllegalArgumentException") (List.mem_of_getElem? (i := 1) rfl)
  subst hsz
  have hD := hD0.self (sz := s.heap.size)
  generalize hAe : va_A (wXo ad cI cZ cJ o z v f g) s.heap.size = A at hD hT ⊢
  have hA : ∀ q : Nat, s.heap.size ≤ q → A q := fun q h => by rw [← hAe]; exact Or.inr h
  have hS : va_S A s.heap s.heap [] := va_S.rf
  have hl := lv_entry ([.ref (ad 0), .int t, .int u, .ref o]) (n := 5) (Nat.le_of_ble_eq_true rfl)
  rw [lg_entry_eq]
  generalize (lg_sl ([.ref (ad 0), .int t, .int u, .ref o]) ++ List.replicate (5 - (lg_sl ([.ref (ad 0), .int t, .int u, .ref o])).length) Slot.unset).toArray = ls at hl ⊢
  have hl : lv_has ls 5 [(0, .ref (ad 0)), (1, .int t), (2, .int u), (3, .ref o)] := hl
  have hkc := kc_group z v f t u
  have hM := c_X4_group l dC dI ad cI cZ z v f s.heap.size t u hok hlt
  generalize F_X4_group z v f t u = FF at hkc hM ⊢
  refine lv_aload_n hx hb dL_group_0 rfl (lv_at hl 3 rfl) ?_
  refine lv_iconst (v := 0) hx hb dL_group_1 (by decide) ?_
  refine lv_aload_n hx hb dL_group_2 rfl (lv_at hl 0 rfl) ?_
  refine lv_iload_n hx hb dL_group_3 rfl (lv_at hl 1 rfl) ?_
  refine lv_iload_n hx hb dL_group_4 rfl (lv_at hl 2 rfl) ?_
  have hPc := hP.sub (ws' := (wX ad cI cZ z v f)) [0, 1, 2, 3, 4, 5, 6, 7, 8, 9, 10, 11, 12, 13, 14, 15, 16, 17, 18, 19, 20, 21] rfl
  have hDc := hD.sub (ws' := (wX ad cI cZ z v f)) [0, 1, 2, 3, 4, 5, 6, 7, 8, 9, 10, 11, 12, 13, 14, 15, 16, 17, 18, 19, 20, 21] (by decide) rfl
  have hKc := hK.sub (tys' := [(cI, .int), (cZ, .boolean)]) [0, 1] rfl
  have hFc := va_free (wc := (wX ad cI cZ z v f)) hD hS hA [0, 1, 2, 3, 4, 5, 6, 7, 8, 9, 10, 11, 12, 13, 14, 15, 16, 17, 18, 19, 20, 21] rfl
  refine vx_calli (vx_runV (As := [.int t, .int u]) (rest := [.int 0, .ref o]) ⟨hx, hb, hml, hown, hts⟩ hM (cwV 2 hts gL_group_X4_group rfl rfl rfl (by decide +kernel) ⟨Nat.le_of_ble_eq_true rfl, Nat.le_of_ble_eq_true rfl⟩) (preXt (ci := 4) (q0 := 0) hPc hKc hN hDc hT hS hFc rfl rfl rfl) rfl rfl hl.1 rfl (lv_room (Nat.le_of_ble_eq_true rfl)) dL_group_5 ⟨Nat.le_of_ble_eq_true rfl, Nat.le_of_ble_eq_true rfl⟩) hS (fun q _ h => hFc q h) hFc (fun q _ h => hFc q h) (fun E ce q9 u9 t9 H1 locs ht hvm hpx hBX hz1 hk1 hS hce hcv hcl => ?_) (fun r u9 t9 H1 locs ht hvm hw hB hz1 hk1 hS => ?_)
  · obtain ⟨hE, hne, hP1⟩ := hBX
    rw [ht] at hP1
    obtain ⟨hP, hD⟩ := va_join (wr := [(o, .inl (cJ, 1, .inr (.inl g)))]) (w1 := (wX ad cI cZ z v f)) hP hD [0, 1, 2, 3, 4, 5, 6, 7, 8, 9, 10, 11, 12, 13, 14, 15, 16, 17, 18, 19, 20, 21] [22] rfl rfl (by decide) (by decide) hk1 hFc hP1 (va_D.fst (ws := (wX ad cI cZ z v f)) rfl (hDc.self (sz := s.heap.size)))
    generalize H1 = H at hP hS hce ⊢
    have hP : va_P (dC, dI) vwCl (wXo ad cI cZ cJ o z v f g) H := hP.sub [1, 2, 3, 4, 5, 6, 7, 8, 9, 10, 11, 12, 13, 14, 15, 16, 17, 18, 19, 20, 21, 22, 0] rfl
    rcases hkc with h0 | ⟨h1, e1⟩
    · exact absurd h0 hne
    · rw [h1] at hE
      have hE : E = "java/lang/IllegalArgumentException" := hE
      subst hE
      refine vx_catch (name := "java/lang/IllegalArgumentException") hown [] ⟨0, 10, 13, 19⟩ [] htab (fun z9 hz => by cases hz) (by decide) (by decide) hck19 (va_Nw.use rfl (hT.2.2.2 (.castable "java/lang/IllegalArgumentException" "java/lang/IllegalArgumentException") (by decide +kernel))) hce hcv hcl ?_
      refine lv_astore (lv' := [(4, .ref q9), (0, .ref (ad 0)), (1, .int t), (2, .int u), (3, .ref o)]) hx hb dL_group_13 hl (by decide) rfl (fun ls hl => ?_)
      refine lv_iconst (v := 1) hx hb dL_group_15 (by decide) ?_
      refine W.widen (k := 1) (n := 6) (Nat.le_of_ble_eq_true rfl) (Nat.le_of_ble_eq_true rfl) ?_
      exact W.iret (v := 1) hx hb hr (fun t9 ht hW => ⟨⟨1, g, rfl, ⟨by rw [h1]; rfl, fun h => absurd (h.symm.trans h1) (by decide)⟩, by show va_P (dC, dI) vwCl _ t9.heap; rw [ht, e1]; exact hP⟩, hS.F ht⟩) hS.2.2 dL_group_16
  · have hP1 : va_P (dC, dI) vwCl _ t9.heap := hB
    rw [ht] at hP1
    obtain ⟨hP, hD⟩ := va_join (wr := [(o, .inl (cJ, 1, .inr (.inl g)))]) (w1 := (wX ad cI cZ FF.2.2.1 FF.2.2.2.1 FF.2.2.2.2)) hP hD [0, 1, 2, 3, 4, 5, 6, 7, 8, 9, 10, 11, 12, 13, 14, 15, 16, 17, 18, 19, 20, 21] [22] rfl rfl (by decide) (by decide) hk1 hFc hP1 (va_D.fst (ws := (wX ad cI cZ z v f)) rfl (hDc.self (sz := s.heap.size)))
    generalize H1 = H at hP hS ⊢
    have hP : va_P (dC, dI) vwCl (wXo ad cI cZ cJ o FF.2.2.1 FF.2.2.2.1 FF.2.2.2.2 g) H := hP.sub [1, 2, 3, 4, 5, 6, 7, 8, 9, 10, 11, 12, 13, 14, 15, 16, 17, 18, 19, 20, 21, 22, 0] rfl
    have hD : va_D A (wXo ad cI cZ cJ o FF.2.2.1 FF.2.2.2.1 FF.2.2.2.2 g) := hD.sub [1, 2, 3, 4, 5, 6, 7, 8, 9, 10, 11, 12, 13, 14, 15, 16, 17, 18, 19, 20, 21, 22, 0] (by decide) rfl
    refine lv_i2l hx hb dL_group_8 rfl ?_
    refine va_last hx hb hK hP hD hS 22 2 rfl rfl (vp_in_nI (n := 0) (by decide) (by decide)) dL_group_9 (fun H locs hP hD hS => ?_)
    have hP : va_P (dC, dI) vwCl (wXo ad cI cZ cJ o FF.2.2.1 FF.2.2.2.1 FF.2.2.2.2 (vp_updL g (0 : Int32).toNatClampNeg r.toInt64)) H := hP
    refine lv_goto (tgt := 17) hx hb dL_group_10 (by decide) ?_
    refine lv_iconst (v := 0) hx hb dL_group_17 (by decide) ?_
    refine W.widen (k := 1) (n := 6) (Nat.le_of_ble_eq_true rfl) (Nat.le_of_ble_eq_true rfl) ?_
    exact W.iret (v := 0) hx hb hr (fun t9 ht hW => ⟨⟨0, (vp_updL g (0 : Int32).toNatClampNeg r.toInt64), rfl, ⟨by rw [hw.1]; rfl, fun _ => by rw [← hw.2]; rfl⟩, by show va_P (dC, dI) vwCl _ t9.heap; rw [ht]; exact hP⟩, hS.F ht⟩) hS.2.2 dL_group_18
theorem kc_deputy (z : Nat → Nat) (v : Nat → Int32) (f : Nat → Nat → Int32) (t u : Int32) : (F_X4_deputy z v f t u).1 = 0 ∨ ((F_X4_deputy z v f t u).1 = 1 ∧ (F_X4_deputy z v f t u).2.2 = (z, v, f)) := by
  rw [F_X4_deputy]
  repeat' split
  all_goals first | exact Or.inl rfl | exact Or.inr ⟨rfl, rfl⟩
def hc_deputy : Nat → Int32
  | 1 => 1
  | _ => 0
set_option maxHeartbeats 4000000 in
set_option maxRecDepth 100000 in
theorem c_L_deputy (l : Launch) (dC : Nat → ClassId) (dI : Nat → Nat → Nat) (ad : Nat → Nat) (cI cZ cJ : ClassId) (z : Nat → Nat) (v : Nat → Int32) (f : Nat → Nat → Int32) (sz o : Nat) (g : Nat → Int64) (t u : Int32) (hok : okX z v f) (hlt : l.stackTraces = false) : Met l yL_deputy wsL_deputy ({ frames := 7, cells := 1, slots := 6, locals := 104 }) (va_Pc [.ref (ad 0), .int t, .int u, .ref o] (fun U => U.heap.size = sz ∧ va_D (fun _ => True) (wXo ad cI cZ cJ o z v f g) ∧ va_P (dC, dI) vwCl (wXo ad cI cZ cJ o z v f g) U.heap ∧ va_K (dC, dI) vwCl (cL3 cI cZ cJ) U ∧ nW U ∧ tW (va_A (wXo ad cI cZ cJ o z v f g) sz) U ∧ cW U)) (va_Qi (fun (r : Int32) (g' : Nat → Int64) => r = hc_deputy (F_X4_deputy z v f t u).1 ∧ ((F_X4_deputy z v f t u).1 = 0 → g' 0 = (F_X4_deputy z v f t u).2.1.toInt64)) (fun g' U => va_P (dC, dI) vwCl (wXo ad cI cZ cJ o (F_X4_deputy z v f t u).2.2.1 (F_X4_deputy z v f t u).2.2.2.1 (F_X4_deputy z v f t u).2.2.2.2 g') U.heap) (va_A (wXo ad cI cZ cJ o z v f g) sz)) 1 6 (va_A (wXo ad cI cZ cJ o z v f g) sz) := by
  refine va_MetW (cc := cL_deputy) (maxL := 5) (ret := (some .int)) (hh := [(0, 10, 13, 19)]) (by decide) rfl ?_
  intro p e s m args below meth c s₁ B hml hv
  obtain ⟨rfl, hsz, hD0, hP, hK, hN, hT, hC⟩ := hv
  have hx := B.exec
  have hb := B.bytes
  have hr := B.returns
  have hts := atoms_spec (ws := wsL_deputy) B.pre
  have hown : s.vm.findClass RL = some m.cls := findClass_of_methodNamed B.named
  have hlocks := B.notSynchronized
  have htab : c.exceptionTable.toList = tableOf [(0, 10, 13, 19)] := vx_table (x := yL_deputy) B (hts _ List.mem_cons_self)
  have hck19 := hts (.classLink RL 19 "java/lang/IllegalArgumentException") (List.mem_of_getElem? (i := 1) rfl)
  subst hsz
  have hD := hD0.self (sz := s.heap.size)
  generalize hAe : va_A (wXo ad cI cZ cJ o z v f g) s.heap.size = A at hD hT ⊢
  have hA : ∀ q : Nat, s.heap.size ≤ q → A q := fun q h => by rw [← hAe]; exact Or.inr h
  have hS : va_S A s.heap s.heap [] := va_S.rf
  have hl := lv_entry ([.ref (ad 0), .int t, .int u, .ref o]) (n := 5) (Nat.le_of_ble_eq_true rfl)
  rw [lg_entry_eq]
  generalize (lg_sl ([.ref (ad 0), .int t, .int u, .ref o]) ++ List.replicate (5 - (lg_sl ([.ref (ad 0), .int t, .int u, .ref o])).length) Slot.unset).toArray = ls at hl ⊢
  have hl : lv_has ls 5 [(0, .ref (ad 0)), (1, .int t), (2, .int u), (3, .ref o)] := hl
  have hkc := kc_deputy z v f t u
  have hM := c_X4_deputy l dC dI ad cI cZ z v f s.heap.size t u hok hlt
  generalize F_X4_deputy z v f t u = FF at hkc hM ⊢
  refine lv_aload_n hx hb dL_deputy_0 rfl (lv_at hl 3 rfl) ?_
  refine lv_iconst (v := 0) hx hb dL_deputy_1 (by decide) ?_
  refine lv_aload_n hx hb dL_deputy_2 rfl (lv_at hl 0 rfl) ?_
  refine lv_iload_n hx hb dL_deputy_3 rfl (lv_at hl 1 rfl) ?_
  refine lv_iload_n hx hb dL_deputy_4 rfl (lv_at hl 2 rfl) ?_
  have hPc := hP.sub (ws' := (wX ad cI cZ z v f)) [0, 1, 2, 3, 4, 5, 6, 7, 8, 9, 10, 11, 12, 13, 14, 15, 16, 17, 18, 19, 20, 21] rfl
  have hDc := hD.sub (ws' := (wX ad cI cZ z v f)) [0, 1, 2, 3, 4, 5, 6, 7, 8, 9, 10, 11, 12, 13, 14, 15, 16, 17, 18, 19, 20, 21] (by decide) rfl
  have hKc := hK.sub (tys' := [(cI, .int), (cZ, .boolean)]) [0, 1] rfl
  have hFc := va_free (wc := (wX ad cI cZ z v f)) hD hS hA [0, 1, 2, 3, 4, 5, 6, 7, 8, 9, 10, 11, 12, 13, 14, 15, 16, 17, 18, 19, 20, 21] rfl
  refine vx_calli (vx_runV (As := [.int t, .int u]) (rest := [.int 0, .ref o]) ⟨hx, hb, hml, hown, hts⟩ hM (cwV 2 hts gL_deputy_X4_deputy rfl rfl rfl (by decide +kernel) ⟨Nat.le_of_ble_eq_true rfl, Nat.le_of_ble_eq_true rfl⟩) (preXt (ci := 4) (q0 := 0) hPc hKc hN hDc hT hS hFc rfl rfl rfl) rfl rfl hl.1 rfl (lv_room (Nat.le_of_ble_eq_true rfl)) dL_deputy_5 ⟨Nat.le_of_ble_eq_true rfl, Nat.le_of_ble_eq_true rfl⟩) hS (fun q _ h => hFc q h) hFc (fun q _ h => hFc q h) (fun E ce q9 u9 t9 H1 locs ht hvm hpx hBX hz1 hk1 hS hce hcv hcl => ?_) (fun r u9 t9 H1 locs ht hvm hw hB hz1 hk1 hS => ?_)
  · obtain ⟨hE, hne, hP1⟩ := hBX
    rw [ht] at hP1
    obtain ⟨hP, hD⟩ := va_join (wr := [(o, .inl (cJ, 1, .inr (.inl g)))]) (w1 := (wX ad cI cZ z v f)) hP hD [0, 1, 2, 3, 4, 5, 6, 7, 8, 9, 10, 11, 12, 13, 14, 15, 16, 17, 18, 19, 20, 21] [22] rfl rfl (by decide) (by decide) hk1 hFc hP1 (va_D.fst (ws := (wX ad cI cZ z v f)) rfl (hDc.self (sz := s.heap.size)))
    generalize H1 = H at hP hS hce ⊢
    have hP : va_P (dC, dI) vwCl (wXo ad cI cZ cJ o z v f g) H := hP.sub [1, 2, 3, 4, 5, 6, 7, 8, 9, 10, 11, 12, 13, 14, 15, 16, 17, 18, 19, 20, 21, 22, 0] rfl
    rcases hkc with h0 | ⟨h1, e1⟩
    · exact absurd h0 hne
    · rw [h1] at hE
      have hE : E = "java/lang/IllegalArgumentException" := hE
      subst hE
      refine vx_catch (name := "java/lang/IllegalArgumentException") hown [] ⟨0, 10, 13, 19⟩ [] htab (fun z9 hz => by cases hz) (by decide) (by decide) hck19 (va_Nw.use rfl (hT.2.2.2 (.castable "java/lang/IllegalArgumentException" "java/lang/IllegalArgumentException") (by decide +kernel))) hce hcv hcl ?_
      refine lv_astore (lv' := [(4, .ref q9), (0, .ref (ad 0)), (1, .int t), (2, .int u), (3, .ref o)]) hx hb dL_deputy_13 hl (by decide) rfl (fun ls hl => ?_)
      refine lv_iconst (v := 1) hx hb dL_deputy_15 (by decide) ?_
      refine W.widen (k := 1) (n := 6) (Nat.le_of_ble_eq_true rfl) (Nat.le_of_ble_eq_true rfl) ?_
      exact W.iret (v := 1) hx hb hr (fun t9 ht hW => ⟨⟨1, g, rfl, ⟨by rw [h1]; rfl, fun h => absurd (h.symm.trans h1) (by decide)⟩, by show va_P (dC, dI) vwCl _ t9.heap; rw [ht, e1]; exact hP⟩, hS.F ht⟩) hS.2.2 dL_deputy_16
  · have hP1 : va_P (dC, dI) vwCl _ t9.heap := hB
    rw [ht] at hP1
    obtain ⟨hP, hD⟩ := va_join (wr := [(o, .inl (cJ, 1, .inr (.inl g)))]) (w1 := (wX ad cI cZ FF.2.2.1 FF.2.2.2.1 FF.2.2.2.2)) hP hD [0, 1, 2, 3, 4, 5, 6, 7, 8, 9, 10, 11, 12, 13, 14, 15, 16, 17, 18, 19, 20, 21] [22] rfl rfl (by decide) (by decide) hk1 hFc hP1 (va_D.fst (ws := (wX ad cI cZ z v f)) rfl (hDc.self (sz := s.heap.size)))
    generalize H1 = H at hP hS ⊢
    have hP : va_P (dC, dI) vwCl (wXo ad cI cZ cJ o FF.2.2.1 FF.2.2.2.1 FF.2.2.2.2 g) H := hP.sub [1, 2, 3, 4, 5, 6, 7, 8, 9, 10, 11, 12, 13, 14, 15, 16, 17, 18, 19, 20, 21, 22, 0] rfl
    have hD : va_D A (wXo ad cI cZ cJ o FF.2.2.1 FF.2.2.2.1 FF.2.2.2.2 g) := hD.sub [1, 2, 3, 4, 5, 6, 7, 8, 9, 10, 11, 12, 13, 14, 15, 16, 17, 18, 19, 20, 21, 22, 0] (by decide) rfl
    refine lv_i2l hx hb dL_deputy_8 rfl ?_
    refine va_last hx hb hK hP hD hS 22 2 rfl rfl (vp_in_nI (n := 0) (by decide) (by decide)) dL_deputy_9 (fun H locs hP hD hS => ?_)
    have hP : va_P (dC, dI) vwCl (wXo ad cI cZ cJ o FF.2.2.1 FF.2.2.2.1 FF.2.2.2.2 (vp_updL g (0 : Int32).toNatClampNeg r.toInt64)) H := hP
    refine lv_goto (tgt := 17) hx hb dL_deputy_10 (by decide) ?_
    refine lv_iconst (v := 0) hx hb dL_deputy_17 (by decide) ?_
    refine W.widen (k := 1) (n := 6) (Nat.le_of_ble_eq_true rfl) (Nat.le_of_ble_eq_true rfl) ?_
    exact W.iret (v := 0) hx hb hr (fun t9 ht hW => ⟨⟨0, (vp_updL g (0 : Int32).toNatClampNeg r.toInt64), rfl, ⟨by rw [hw.1]; rfl, fun _ => by rw [← hw.2]; rfl⟩, by show va_P (dC, dI) vwCl _ t9.heap; rw [ht]; exact hP⟩, hS.F ht⟩) hS.2.2 dL_deputy_18
theorem kc_mandate (z : Nat → Nat) (v : Nat → Int32) (f : Nat → Nat → Int32) (fr to di un : Int32) : (F_X4_mandate z v f fr to di un).1 = 0 ∨ ((F_X4_mandate z v f fr to di un).1 = 1 ∧ (F_X4_mandate z v f fr to di un).2.2 = (z, v, f)) ∨ ((F_X4_mandate z v f fr to di un).1 = 2 ∧ (F_X4_mandate z v f fr to di un).2.2 = (z, v, f)) := by
  rw [F_X4_mandate]
  repeat' split
  all_goals first | exact Or.inl rfl | exact Or.inr ⟨rfl, rfl⟩ | exact Or.inr (Or.inl ⟨rfl, rfl⟩) | exact Or.inr (Or.inr ⟨rfl, rfl⟩)
def hc_mandate : Nat → Int32
  | 1 => 1
  | 2 => 2
  | _ => 0
set_option maxHeartbeats 4000000 in
set_option maxRecDepth 100000 in
theorem c_L_mandate (l : Launch) (dC : Nat → ClassId) (dI : Nat → Nat → Nat) (ad : Nat → Nat) (cI cZ cJ : ClassId) (z : Nat → Nat) (v : Nat → Int32) (f : Nat → Nat → Int32) (sz o : Nat) (g : Nat → Int64) (fr to di un : Int32) (hok : okX z v f) (hlt : l.stackTraces = false) (hdi : zB di) : Met l yL_mandate wsL_mandate ({ frames := 7, cells := 1, slots := 6, locals := 106 }) (va_Pc [.ref (ad 0), .int fr, .int to, .int di, .int un, .ref o] (fun U => U.heap.size = sz ∧ va_D (fun _ => True) (wXo ad cI cZ cJ o z v f g) ∧ va_P (dC, dI) vwCl (wXo ad cI cZ cJ o z v f g) U.heap ∧ va_K (dC, dI) vwCl (cL3 cI cZ cJ) U ∧ nW U ∧ tW (va_A (wXo ad cI cZ cJ o z v f g) sz) U ∧ cW U)) (va_Qi (fun (r : Int32) (g' : Nat → Int64) => r = hc_mandate (F_X4_mandate z v f fr to di un).1 ∧ ((F_X4_mandate z v f fr to di un).1 = 0 → g' 0 = (F_X4_mandate z v f fr to di un).2.1.toInt64)) (fun g' U => va_P (dC, dI) vwCl (wXo ad cI cZ cJ o (F_X4_mandate z v f fr to di un).2.2.1 (F_X4_mandate z v f fr to di un).2.2.2.1 (F_X4_mandate z v f fr to di un).2.2.2.2 g') U.heap) (va_A (wXo ad cI cZ cJ o z v f g) sz)) 1 6 (va_A (wXo ad cI cZ cJ o z v f g) sz) := by
  refine va_MetW (cc := cL_mandate) (maxL := 7) (ret := (some .int)) (hh := [(0, 14, 17, 19), (0, 14, 21, 13)]) (by decide) rfl ?_
  intro p e s m args below meth c s₁ B hml hv
  obtain ⟨rfl, hsz, hD0, hP, hK, hN, hT, hC⟩ := hv
  have hx := B.exec
  have hb := B.bytes
  have hr := B.returns
  have hts := atoms_spec (ws := wsL_mandate) B.pre
  have hown : s.vm.findClass RL = some m.cls := findClass_of_methodNamed B.named
  have hlocks := B.notSynchronized
  have htab : c.exceptionTable.toList = tableOf [(0, 14, 17, 19), (0, 14, 21, 13)] := vx_table (x := yL_mandate) B (hts _ List.mem_cons_self)
  have hck13 := hts (.classLink RL 13 "java/lang/IllegalStateException") (List.mem_of_getElem? (i := 2) rfl)
  have hck19 := hts (.classLink RL 19 "java/lang/IllegalArgumentException") (List.mem_of_getElem? (i := 1) rfl)
  subst hsz
  have hD := hD0.self (sz := s.heap.size)
  generalize hAe : va_A (wXo ad cI cZ cJ o z v f g) s.heap.size = A at hD hT ⊢
  have hA : ∀ q : Nat, s.heap.size ≤ q → A q := fun q h => by rw [← hAe]; exact Or.inr h
  have hS : va_S A s.heap s.heap [] := va_S.rf
  have hl := lv_entry ([.ref (ad 0), .int fr, .int to, .int di, .int un, .ref o]) (n := 7) (Nat.le_of_ble_eq_true rfl)
  rw [lg_entry_eq]
  generalize (lg_sl ([.ref (ad 0), .int fr, .int to, .int di, .int un, .ref o]) ++ List.replicate (7 - (lg_sl ([.ref (ad 0), .int fr, .int to, .int di, .int un, .ref o])).length) Slot.unset).toArray = ls at hl ⊢
  have hl : lv_has ls 7 [(0, .ref (ad 0)), (1, .int fr), (2, .int to), (3, .int di), (4, .int un), (5, .ref o)] := hl
  have hkc := kc_mandate z v f fr to di un
  have hM := c_X4_mandate l dC dI ad cI cZ z v f s.heap.size fr to di un hok hlt hdi
  generalize F_X4_mandate z v f fr to di un = FF at hkc hM ⊢
  refine lv_aload hx hb dL_mandate_0 (lv_at hl 5 rfl) ?_
  refine lv_iconst (v := 0) hx hb dL_mandate_2 (by decide) ?_
  refine lv_aload_n hx hb dL_mandate_3 rfl (lv_at hl 0 rfl) ?_
  refine lv_iload_n hx hb dL_mandate_4 rfl (lv_at hl 1 rfl) ?_
  refine lv_iload_n hx hb dL_mandate_5 rfl (lv_at hl 2 rfl) ?_
  refine lv_iload_n hx hb dL_mandate_6 rfl (lv_at hl 3 rfl) ?_
  refine lv_iload hx hb dL_mandate_7 (lv_at hl 4 rfl) ?_
  have hPc := hP.sub (ws' := (wX ad cI cZ z v f)) [0, 1, 2, 3, 4, 5, 6, 7, 8, 9, 10, 11, 12, 13, 14, 15, 16, 17, 18, 19, 20, 21] rfl
  have hDc := hD.sub (ws' := (wX ad cI cZ z v f)) [0, 1, 2, 3, 4, 5, 6, 7, 8, 9, 10, 11, 12, 13, 14, 15, 16, 17, 18, 19, 20, 21] (by decide) rfl
  have hKc := hK.sub (tys' := [(cI, .int), (cZ, .boolean)]) [0, 1] rfl
  have hFc := va_free (wc := (wX ad cI cZ z v f)) hD hS hA [0, 1, 2, 3, 4, 5, 6, 7, 8, 9, 10, 11, 12, 13, 14, 15, 16, 17, 18, 19, 20, 21] rfl
  refine vx_calli (vx_runV (As := [.int fr, .int to, .int di, .int un]) (rest := [.int 0, .ref o]) ⟨hx, hb, hml, hown, hts⟩ hM (cwV 4 hts gL_mandate_X4_mandate rfl rfl rfl (by decide +kernel) ⟨Nat.le_of_ble_eq_true rfl, Nat.le_of_ble_eq_true rfl⟩) (preXt (ci := 4) (q0 := 0) hPc hKc hN hDc hT hS hFc rfl rfl rfl) rfl rfl hl.1 rfl (lv_room (Nat.le_of_ble_eq_true rfl)) dL_mandate_9 ⟨Nat.le_of_ble_eq_true rfl, Nat.le_of_ble_eq_true rfl⟩) hS (fun q _ h => hFc q h) hFc (fun q _ h => hFc q h) (fun E ce q9 u9 t9 H1 locs ht hvm hpx hBX hz1 hk1 hS hce hcv hcl => ?_) (fun r u9 t9 H1 locs ht hvm hw hB hz1 hk1 hS => ?_)
  · obtain ⟨hE, hne, hP1⟩ := hBX
    rw [ht] at hP1
    obtain ⟨hP, hD⟩ := va_join (wr := [(o, .inl (cJ, 1, .inr (.inl g)))]) (w1 := (wX ad cI cZ z v f)) hP hD [0, 1, 2, 3, 4, 5, 6, 7, 8, 9, 10, 11, 12, 13, 14, 15, 16, 17, 18, 19, 20, 21] [22] rfl rfl (by decide) (by decide) hk1 hFc hP1 (va_D.fst (ws := (wX ad cI cZ z v f)) rfl (hDc.self (sz := s.heap.size)))
    generalize H1 = H at hP hS hce ⊢
    have hP : va_P (dC, dI) vwCl (wXo ad cI cZ cJ o z v f g) H := hP.sub [1, 2, 3, 4, 5, 6, 7, 8, 9, 10, 11, 12, 13, 14, 15, 16, 17, 18, 19, 20, 21, 22, 0] rfl
    rcases hkc with h0 | ⟨h1, e1⟩ | ⟨h2, e2⟩
    · exact absurd h0 hne
    · rw [h1] at hE
      have hE : E = "java/lang/IllegalArgumentException" := hE
      subst hE
      refine vx_catch (name := "java/lang/IllegalArgumentException") hown [] ⟨0, 14, 17, 19⟩ [⟨0, 14, 21, 13⟩] htab (fun z9 hz => by cases hz) (by decide) (by decide) hck19 (va_Nw.use rfl (hT.2.2.2 (.castable "java/lang/IllegalArgumentException" "java/lang/IllegalArgumentException") (by decide +kernel))) hce hcv hcl ?_
      refine lv_astore (lv' := [(6, .ref q9), (0, .ref (ad 0)), (1, .int fr), (2, .int to), (3, .int di), (4, .int un), (5, .ref o)]) hx hb dL_mandate_17 hl (by decide) rfl (fun ls hl => ?_)
      refine lv_iconst (v := 1) hx hb dL_mandate_19 (by decide) ?_
      refine W.widen (k := 1) (n := 6) (Nat.le_of_ble_eq_true rfl) (Nat.le_of_ble_eq_true rfl) ?_
      exact W.iret (v := 1) hx hb hr (fun t9 ht hW => ⟨⟨1, g, rfl, ⟨by rw [h1]; rfl, fun h => absurd (h.symm.trans h1) (by decide)⟩, by show va_P (dC, dI) vwCl _ t9.heap; rw [ht, e1]; exact hP⟩, hS.F ht⟩) hS.2.2 dL_mandate_20
    · rw [h2] at hE
      have hE : E = "java/lang/IllegalStateException" := hE
      subst hE
      refine vx_catch (name := "java/lang/IllegalStateException") hown [⟨0, 14, 17, 19⟩] ⟨0, 14, 21, 13⟩ [] htab (fun z9 hz => by rcases List.mem_singleton.mp hz with rfl; exact Or.inr ⟨by decide, "java/lang/IllegalArgumentException", hck19, hC.1⟩) (by decide) (by decide) hck13 (va_Nw.use rfl (hT.2.2.2 (.castable "java/lang/IllegalStateException" "java/lang/IllegalStateException") (by decide +kernel))) hce hcv hcl ?_
      refine lv_astore (lv' := [(6, .ref q9), (0, .ref (ad 0)), (1, .int fr), (2, .int to), (3, .int di), (4, .int un), (5, .ref o)]) hx hb dL_mandate_21 hl (by decide) rfl (fun ls hl => ?_)
      refine lv_iconst (v := 2) hx hb dL_mandate_23 (by decide) ?_
      refine W.widen (k := 1) (n := 6) (Nat.le_of_ble_eq_true rfl) (Nat.le_of_ble_eq_true rfl) ?_
      exact W.iret (v := 2) hx hb hr (fun t9 ht hW => ⟨⟨2, g, rfl, ⟨by rw [h2]; rfl, fun h => absurd (h.symm.trans h2) (by decide)⟩, by show va_P (dC, dI) vwCl _ t9.heap; rw [ht, e2]; exact hP⟩, hS.F ht⟩) hS.2.2 dL_mandate_24
  · have hP1 : va_P (dC, dI) vwCl _ t9.heap := hB
    rw [ht] at hP1
    obtain ⟨hP, hD⟩ := va_join (wr := [(o, .inl (cJ, 1, .inr (.inl g)))]) (w1 := (wX ad cI cZ FF.2.2.1 FF.2.2.2.1 FF.2.2.2.2)) hP hD [0, 1, 2, 3, 4, 5, 6, 7, 8, 9, 10, 11, 12, 13, 14, 15, 16, 17, 18, 19, 20, 21] [22] rfl rfl (by decide) (by decide) hk1 hFc hP1 (va_D.fst (ws := (wX ad cI cZ z v f)) rfl (hDc.self (sz := s.heap.size)))
    generalize H1 = H at hP hS ⊢
    have hP : va_P (dC, dI) vwCl (wXo ad cI cZ cJ o FF.2.2.1 FF.2.2.2.1 FF.2.2.2.2 g) H := hP.sub [1, 2, 3, 4, 5, 6, 7, 8, 9, 10, 11, 12, 13, 14, 15, 16, 17, 18, 19, 20, 21, 22, 0] rfl
    have hD : va_D A (wXo ad cI cZ cJ o FF.2.2.1 FF.2.2.2.1 FF.2.2.2.2 g) := hD.sub [1, 2, 3, 4, 5, 6, 7, 8, 9, 10, 11, 12, 13, 14, 15, 16, 17, 18, 19, 20, 21, 22, 0] (by decide) rfl
    refine lv_i2l hx hb dL_mandate_12 rfl ?_
    refine va_last hx hb hK hP hD hS 22 2 rfl rfl (vp_in_nI (n := 0) (by decide) (by decide)) dL_mandate_13 (fun H locs hP hD hS => ?_)
    have hP : va_P (dC, dI) vwCl (wXo ad cI cZ cJ o FF.2.2.1 FF.2.2.2.1 FF.2.2.2.2 (vp_updL g (0 : Int32).toNatClampNeg r.toInt64)) H := hP
    refine lv_goto (tgt := 25) hx hb dL_mandate_14 (by decide) ?_
    refine lv_iconst (v := 0) hx hb dL_mandate_25 (by decide) ?_
    refine W.widen (k := 1) (n := 6) (Nat.le_of_ble_eq_true rfl) (Nat.le_of_ble_eq_true rfl) ?_
    exact W.iret (v := 0) hx hb hr (fun t9 ht hW => ⟨⟨0, (vp_updL g (0 : Int32).toNatClampNeg r.toInt64), rfl, ⟨by rw [hw.1]; rfl, fun _ => by rw [← hw.2]; rfl⟩, by show va_P (dC, dI) vwCl _ t9.heap; rw [ht]; exact hP⟩, hS.F ht⟩) hS.2.2 dL_mandate_26
theorem kc_suspend (z : Nat → Nat) (v : Nat → Int32) (f : Nat → Nat → Int32) (t day on : Int32) : (F_X4_suspend z v f t day on).1 = 0 ∨ ((F_X4_suspend z v f t day on).1 = 1 ∧ (F_X4_suspend z v f t day on).2.2 = (z, v, f)) ∨ ((F_X4_suspend z v f t day on).1 = 2 ∧ (F_X4_suspend z v f t day on).2.2 = (z, v, f)) := by
  rw [F_X4_suspend]
  repeat' split
  all_goals first | exact Or.inl rfl | exact Or.inr ⟨rfl, rfl⟩ | exact Or.inr (Or.inl ⟨rfl, rfl⟩) | exact Or.inr (Or.inr ⟨rfl, rfl⟩)
def hc_suspend : Nat → Int32
  | 1 => 1
  | 2 => 2
  | _ => 0
set_option maxHeartbeats 4000000 in
set_option maxRecDepth 100000 in
theorem c_L_suspend (l : Launch) (dC : Nat → ClassId) (dI : Nat → Nat → Nat) (ad : Nat → Nat) (cI cZ cJ : ClassId) (z : Nat → Nat) (v : Nat → Int32) (f : Nat → Nat → Int32) (sz o : Nat) (g : Nat → Int64) (t day on : Int32) (hok : okX z v f) (hlt : l.stackTraces = false) (hon : zB on) : Met l yL_suspend wsL_suspend ({ frames := 7, cells := 1, slots := 6, locals := 105 }) (va_Pc [.ref (ad 0), .int t, .int day, .int on, .ref o] (fun U => U.heap.size = sz ∧ va_D (fun _ => True) (wXo ad cI cZ cJ o z v f g) ∧ va_P (dC, dI) vwCl (wXo ad cI cZ cJ o z v f g) U.heap ∧ va_K (dC, dI) vwCl (cL3 cI cZ cJ) U ∧ nW U ∧ tW (va_A (wXo ad cI cZ cJ o z v f g) sz) U ∧ cW U)) (va_Qi (fun (r : Int32) (g' : Nat → Int64) => r = hc_suspend (F_X4_suspend z v f t day on).1 ∧ ((F_X4_suspend z v f t day on).1 = 0 → g' 0 = (F_X4_suspend z v f t day on).2.1.toInt64)) (fun g' U => va_P (dC, dI) vwCl (wXo ad cI cZ cJ o (F_X4_suspend z v f t day on).2.2.1 (F_X4_suspend z v f t day on).2.2.2.1 (F_X4_suspend z v f t day on).2.2.2.2 g') U.heap) (va_A (wXo ad cI cZ cJ o z v f g) sz)) 1 6 (va_A (wXo ad cI cZ cJ o z v f g) sz) := by
  refine va_MetW (cc := cL_suspend) (maxL := 6) (ret := (some .int)) (hh := [(0, 12, 15, 19), (0, 12, 19, 13)]) (by decide) rfl ?_
  intro p e s m args below meth c s₁ B hml hv
  obtain ⟨rfl, hsz, hD0, hP, hK, hN, hT, hC⟩ := hv
  have hx := B.exec
  have hb := B.bytes
  have hr := B.returns
  have hts := atoms_spec (ws := wsL_suspend) B.pre
  have hown : s.vm.findClass RL = some m.cls := findClass_of_methodNamed B.named
  have hlocks := B.notSynchronized
  have htab : c.exceptionTable.toList = tableOf [(0, 12, 15, 19), (0, 12, 19, 13)] := vx_table (x := yL_suspend) B (hts _ List.mem_cons_self)
  have hck13 := hts (.classLink RL 13 "java/lang/IllegalStateException") (List.mem_of_getElem? (i := 2) rfl)
  have hck19 := hts (.classLink RL 19 "java/lang/IllegalArgumentException") (List.mem_of_getElem? (i := 1) rfl)
  subst hsz
  have hD := hD0.self (sz := s.heap.size)
  generalize hAe : va_A (wXo ad cI cZ cJ o z v f g) s.heap.size = A at hD hT ⊢
  have hA : ∀ q : Nat, s.heap.size ≤ q → A q := fun q h => by rw [← hAe]; exact Or.inr h
  have hS : va_S A s.heap s.heap [] := va_S.rf
  have hl := lv_entry ([.ref (ad 0), .int t, .int day, .int on, .ref o]) (n := 6) (Nat.le_of_ble_eq_true rfl)
  rw [lg_entry_eq]
  generalize (lg_sl ([.ref (ad 0), .int t, .int day, .int on, .ref o]) ++ List.replicate (6 - (lg_sl ([.ref (ad 0), .int t, .int day, .int on, .ref o])).length) Slot.unset).toArray = ls at hl ⊢
  have hl : lv_has ls 6 [(0, .ref (ad 0)), (1, .int t), (2, .int day), (3, .int on), (4, .ref o)] := hl
  have hkc := kc_suspend z v f t day on
  have hM := c_X4_suspend l dC dI ad cI cZ z v f s.heap.size t day on hok hlt hon
  generalize F_X4_suspend z v f t day on = FF at hkc hM ⊢
  refine lv_aload hx hb dL_suspend_0 (lv_at hl 4 rfl) ?_
  refine lv_iconst (v := 0) hx hb dL_suspend_2 (by decide) ?_
  refine lv_aload_n hx hb dL_suspend_3 rfl (lv_at hl 0 rfl) ?_
  refine lv_iload_n hx hb dL_suspend_4 rfl (lv_at hl 1 rfl) ?_
  refine lv_iload_n hx hb dL_suspend_5 rfl (lv_at hl 2 rfl) ?_
  refine lv_iload_n hx hb dL_suspend_6 rfl (lv_at hl 3 rfl) ?_
  have hPc := hP.sub (ws' := (wX ad cI cZ z v f)) [0, 1, 2, 3, 4, 5, 6, 7, 8, 9, 10, 11, 12, 13, 14, 15, 16, 17, 18, 19, 20, 21] rfl
  have hDc := hD.sub (ws' := (wX ad cI cZ z v f)) [0, 1, 2, 3, 4, 5, 6, 7, 8, 9, 10, 11, 12, 13, 14, 15, 16, 17, 18, 19, 20, 21] (by decide) rfl
  have hKc := hK.sub (tys' := [(cI, .int), (cZ, .boolean)]) [0, 1] rfl
  have hFc := va_free (wc := (wX ad cI cZ z v f)) hD hS hA [0, 1, 2, 3, 4, 5, 6, 7, 8, 9, 10, 11, 12, 13, 14, 15, 16, 17, 18, 19, 20, 21] rfl
  refine vx_calli (vx_runV (As := [.int t, .int day, .int on]) (rest := [.int 0, .ref o]) ⟨hx, hb, hml, hown, hts⟩ hM (cwV 3 hts gL_suspend_X4_suspend rfl rfl rfl (by decide +kernel) ⟨Nat.le_of_ble_eq_true rfl, Nat.le_of_ble_eq_true rfl⟩) (preXt (ci := 4) (q0 := 0) hPc hKc hN hDc hT hS hFc rfl rfl rfl) rfl rfl hl.1 rfl (lv_room (Nat.le_of_ble_eq_true rfl)) dL_suspend_7 ⟨Nat.le_of_ble_eq_true rfl, Nat.le_of_ble_eq_true rfl⟩) hS (fun q _ h => hFc q h) hFc (fun q _ h => hFc q h) (fun E ce q9 u9 t9 H1 locs ht hvm hpx hBX hz1 hk1 hS hce hcv hcl => ?_) (fun r u9 t9 H1 locs ht hvm hw hB hz1 hk1 hS => ?_)
  · obtain ⟨hE, hne, hP1⟩ := hBX
    rw [ht] at hP1
    obtain ⟨hP, hD⟩ := va_join (wr := [(o, .inl (cJ, 1, .inr (.inl g)))]) (w1 := (wX ad cI cZ z v f)) hP hD [0, 1, 2, 3, 4, 5, 6, 7, 8, 9, 10, 11, 12, 13, 14, 15, 16, 17, 18, 19, 20, 21] [22] rfl rfl (by decide) (by decide) hk1 hFc hP1 (va_D.fst (ws := (wX ad cI cZ z v f)) rfl (hDc.self (sz := s.heap.size)))
    generalize H1 = H at hP hS hce ⊢
    have hP : va_P (dC, dI) vwCl (wXo ad cI cZ cJ o z v f g) H := hP.sub [1, 2, 3, 4, 5, 6, 7, 8, 9, 10, 11, 12, 13, 14, 15, 16, 17, 18, 19, 20, 21, 22, 0] rfl
    rcases hkc with h0 | ⟨h1, e1⟩ | ⟨h2, e2⟩
    · exact absurd h0 hne
    · rw [h1] at hE
      have hE : E = "java/lang/IllegalArgumentException" := hE
      subst hE
      refine vx_catch (name := "java/lang/IllegalArgumentException") hown [] ⟨0, 12, 15, 19⟩ [⟨0, 12, 19, 13⟩] htab (fun z9 hz => by cases hz) (by decide) (by decide) hck19 (va_Nw.use rfl (hT.2.2.2 (.castable "java/lang/IllegalArgumentException" "java/lang/IllegalArgumentException") (by decide +kernel))) hce hcv hcl ?_
      refine lv_astore (lv' := [(5, .ref q9), (0, .ref (ad 0)), (1, .int t), (2, .int day), (3, .int on), (4, .ref o)]) hx hb dL_suspend_15 hl (by decide) rfl (fun ls hl => ?_)
      refine lv_iconst (v := 1) hx hb dL_suspend_17 (by decide) ?_
      refine W.widen (k := 1) (n := 6) (Nat.le_of_ble_eq_true rfl) (Nat.le_of_ble_eq_true rfl) ?_
      exact W.iret (v := 1) hx hb hr (fun t9 ht hW => ⟨⟨1, g, rfl, ⟨by rw [h1]; rfl, fun h => absurd (h.symm.trans h1) (by decide)⟩, by show va_P (dC, dI) vwCl _ t9.heap; rw [ht, e1]; exact hP⟩, hS.F ht⟩) hS.2.2 dL_suspend_18
    · rw [h2] at hE
      have hE : E = "java/lang/IllegalStateException" := hE
      subst hE
      refine vx_catch (name := "java/lang/IllegalStateException") hown [⟨0, 12, 15, 19⟩] ⟨0, 12, 19, 13⟩ [] htab (fun z9 hz => by rcases List.mem_singleton.mp hz with rfl; exact Or.inr ⟨by decide, "java/lang/IllegalArgumentException", hck19, hC.1⟩) (by decide) (by decide) hck13 (va_Nw.use rfl (hT.2.2.2 (.castable "java/lang/IllegalStateException" "java/lang/IllegalStateException") (by decide +kernel))) hce hcv hcl ?_
      refine lv_astore (lv' := [(5, .ref q9), (0, .ref (ad 0)), (1, .int t), (2, .int day), (3, .int on), (4, .ref o)]) hx hb dL_suspend_19 hl (by decide) rfl (fun ls hl => ?_)
      refine lv_iconst (v := 2) hx hb dL_suspend_21 (by decide) ?_
      refine W.widen (k := 1) (n := 6) (Nat.le_of_ble_eq_true rfl) (Nat.le_of_ble_eq_true rfl) ?_
      exact W.iret (v := 2) hx hb hr (fun t9 ht hW => ⟨⟨2, g, rfl, ⟨by rw [h2]; rfl, fun h => absurd (h.symm.trans h2) (by decide)⟩, by show va_P (dC, dI) vwCl _ t9.heap; rw [ht, e2]; exact hP⟩, hS.F ht⟩) hS.2.2 dL_suspend_22
  · have hP1 : va_P (dC, dI) vwCl _ t9.heap := hB
    rw [ht] at hP1
    obtain ⟨hP, hD⟩ := va_join (wr := [(o, .inl (cJ, 1, .inr (.inl g)))]) (w1 := (wX ad cI cZ FF.2.2.1 FF.2.2.2.1 FF.2.2.2.2)) hP hD [0, 1, 2, 3, 4, 5, 6, 7, 8, 9, 10, 11, 12, 13, 14, 15, 16, 17, 18, 19, 20, 21] [22] rfl rfl (by decide) (by decide) hk1 hFc hP1 (va_D.fst (ws := (wX ad cI cZ z v f)) rfl (hDc.self (sz := s.heap.size)))
    generalize H1 = H at hP hS ⊢
    have hP : va_P (dC, dI) vwCl (wXo ad cI cZ cJ o FF.2.2.1 FF.2.2.2.1 FF.2.2.2.2 g) H := hP.sub [1, 2, 3, 4, 5, 6, 7, 8, 9, 10, 11, 12, 13, 14, 15, 16, 17, 18, 19, 20, 21, 22, 0] rfl
    have hD : va_D A (wXo ad cI cZ cJ o FF.2.2.1 FF.2.2.2.1 FF.2.2.2.2 g) := hD.sub [1, 2, 3, 4, 5, 6, 7, 8, 9, 10, 11, 12, 13, 14, 15, 16, 17, 18, 19, 20, 21, 22, 0] (by decide) rfl
    refine lv_i2l hx hb dL_suspend_10 rfl ?_
    refine va_last hx hb hK hP hD hS 22 2 rfl rfl (vp_in_nI (n := 0) (by decide) (by decide)) dL_suspend_11 (fun H locs hP hD hS => ?_)
    have hP : va_P (dC, dI) vwCl (wXo ad cI cZ cJ o FF.2.2.1 FF.2.2.2.1 FF.2.2.2.2 (vp_updL g (0 : Int32).toNatClampNeg r.toInt64)) H := hP
    refine lv_goto (tgt := 23) hx hb dL_suspend_12 (by decide) ?_
    refine lv_iconst (v := 0) hx hb dL_suspend_23 (by decide) ?_
    refine W.widen (k := 1) (n := 6) (Nat.le_of_ble_eq_true rfl) (Nat.le_of_ble_eq_true rfl) ?_
    exact W.iret (v := 0) hx hb hr (fun t9 ht hW => ⟨⟨0, (vp_updL g (0 : Int32).toNatClampNeg r.toInt64), rfl, ⟨by rw [hw.1]; rfl, fun _ => by rw [← hw.2]; rfl⟩, by show va_P (dC, dI) vwCl _ t9.heap; rw [ht]; exact hP⟩, hS.F ht⟩) hS.2.2 dL_suspend_24
theorem kc_letter (z : Nat → Nat) (v : Nat → Int32) (f : Nat → Nat → Int32) (n i : Int32) : (F_X4_letter z v f n i).1 = 0 ∨ ((F_X4_letter z v f n i).1 = 1 ∧ (F_X4_letter z v f n i).2.2 = (z, v, f)) ∨ ((F_X4_letter z v f n i).1 = 3 ∧ (F_X4_letter z v f n i).2.2 = (z, v, f)) := by
  rw [F_X4_letter]
  repeat' split
  all_goals first | exact Or.inl rfl | exact Or.inr ⟨rfl, rfl⟩ | exact Or.inr (Or.inl ⟨rfl, rfl⟩) | exact Or.inr (Or.inr ⟨rfl, rfl⟩)
def hc_letter : Nat → Int32
  | 1 => 1
  | 3 => 2
  | _ => 0
set_option maxHeartbeats 4000000 in
set_option maxRecDepth 100000 in
theorem c_L_letter (l : Launch) (dC : Nat → ClassId) (dI : Nat → Nat → Nat) (ad : Nat → Nat) (cI cZ cJ : ClassId) (z : Nat → Nat) (v : Nat → Int32) (f : Nat → Nat → Int32) (sz o : Nat) (g : Nat → Int64) (n i : Int32) (hok : okX z v f) (hlt : l.stackTraces = false) : Met l yL_letter wsL_letter ({ frames := 7, cells := 1, slots := 6, locals := 104 }) (va_Pc [.ref (ad 0), .int n, .int i, .ref o] (fun U => U.heap.size = sz ∧ va_D (fun _ => True) (wXo ad cI cZ cJ o z v f g) ∧ va_P (dC, dI) vwCl (wXo ad cI cZ cJ o z v f g) U.heap ∧ va_K (dC, dI) vwCl (cL3 cI cZ cJ) U ∧ nW U ∧ tW (va_A (wXo ad cI cZ cJ o z v f g) sz) U ∧ cW U)) (va_Qi (fun (r : Int32) (g' : Nat → Int64) => r = hc_letter (F_X4_letter z v f n i).1 ∧ ((F_X4_letter z v f n i).1 = 0 → g' 0 = (F_X4_letter z v f n i).2.1.toInt64)) (fun g' U => va_P (dC, dI) vwCl (wXo ad cI cZ cJ o (F_X4_letter z v f n i).2.2.1 (F_X4_letter z v f n i).2.2.2.1 (F_X4_letter z v f n i).2.2.2.2 g') U.heap) (va_A (wXo ad cI cZ cJ o z v f g) sz)) 1 6 (va_A (wXo ad cI cZ cJ o z v f g) sz) := by
  refine va_MetW (cc := cL_letter) (maxL := 5) (ret := (some .int)) (hh := [(0, 10, 13, 19), (0, 10, 17, 39)]) (by decide) rfl ?_
  intro p e s m args below meth c s₁ B hml hv
  obtain ⟨rfl, hsz, hD0, hP, hK, hN, hT, hC⟩ := hv
  have hx := B.exec
  have hb := B.bytes
  have hr := B.returns
  have hts := atoms_spec (ws := wsL_letter) B.pre
  have hown : s.vm.findClass RL = some m.cls := findClass_of_methodNamed B.named
  have hlocks := B.notSynchronized
  have htab : c.exceptionTable.toList = tableOf [(0, 10, 13, 19), (0, 10, 17, 39)] := vx_table (x := yL_letter) B (hts _ List.mem_cons_self)
  have hck19 := hts (.classLink RL 19 "java/lang/IllegalArgumentException") (List.mem_of_getElem? (i := 1) rfl)
  have hck39 := hts (.classLink RL 39 "java/lang/IndexOutOfBoundsException") (List.mem_of_getElem? (i := 2) rfl)
  subst hsz
  have hD := hD0.self (sz := s.heap.size)
  generalize hAe : va_A (wXo ad cI cZ cJ o z v f g) s.heap.size = A at hD hT ⊢
  have hA : ∀ q : Nat, s.heap.size ≤ q → A q := fun q h => by rw [← hAe]; exact Or.inr h
  have hS : va_S A s.heap s.heap [] := va_S.rf
  have hl := lv_entry ([.ref (ad 0), .int n, .int i, .ref o]) (n := 5) (Nat.le_of_ble_eq_true rfl)
  rw [lg_entry_eq]
  generalize (lg_sl ([.ref (ad 0), .int n, .int i, .ref o]) ++ List.replicate (5 - (lg_sl ([.ref (ad 0), .int n, .int i, .ref o])).length) Slot.unset).toArray = ls at hl ⊢
  have hl : lv_has ls 5 [(0, .ref (ad 0)), (1, .int n), (2, .int i), (3, .ref o)] := hl
  have hkc := kc_letter z v f n i
  have hM := c_X4_letter l dC dI ad cI cZ z v f s.heap.size n i hok hlt
  generalize F_X4_letter z v f n i = FF at hkc hM ⊢
  refine lv_aload_n hx hb dL_letter_0 rfl (lv_at hl 3 rfl) ?_
  refine lv_iconst (v := 0) hx hb dL_letter_1 (by decide) ?_
  refine lv_aload_n hx hb dL_letter_2 rfl (lv_at hl 0 rfl) ?_
  refine lv_iload_n hx hb dL_letter_3 rfl (lv_at hl 1 rfl) ?_
  refine lv_iload_n hx hb dL_letter_4 rfl (lv_at hl 2 rfl) ?_
  have hPc := hP.sub (ws' := (wX ad cI cZ z v f)) [0, 1, 2, 3, 4, 5, 6, 7, 8, 9, 10, 11, 12, 13, 14, 15, 16, 17, 18, 19, 20, 21] rfl
  have hDc := hD.sub (ws' := (wX ad cI cZ z v f)) [0, 1, 2, 3, 4, 5, 6, 7, 8, 9, 10, 11, 12, 13, 14, 15, 16, 17, 18, 19, 20, 21] (by decide) rfl
  have hKc := hK.sub (tys' := [(cI, .int), (cZ, .boolean)]) [0, 1] rfl
  have hFc := va_free (wc := (wX ad cI cZ z v f)) hD hS hA [0, 1, 2, 3, 4, 5, 6, 7, 8, 9, 10, 11, 12, 13, 14, 15, 16, 17, 18, 19, 20, 21] rfl
  refine vx_calli (vx_runV (As := [.int n, .int i]) (rest := [.int 0, .ref o]) ⟨hx, hb, hml, hown, hts⟩ hM (cwV 2 hts gL_letter_X4_letter rfl rfl rfl (by decide +kernel) ⟨Nat.le_of_ble_eq_true rfl, Nat.le_of_ble_eq_true rfl⟩) (preXt (ci := 4) (q0 := 0) hPc hKc hN hDc hT hS hFc rfl rfl rfl) rfl rfl hl.1 rfl (lv_room (Nat.le_of_ble_eq_true rfl)) dL_letter_5 ⟨Nat.le_of_ble_eq_true rfl, Nat.le_of_ble_eq_true rfl⟩) hS (fun q _ h => hFc q h) hFc (fun q _ h => hFc q h) (fun E ce q9 u9 t9 H1 locs ht hvm hpx hBX hz1 hk1 hS hce hcv hcl => ?_) (fun r u9 t9 H1 locs ht hvm hw hB hz1 hk1 hS => ?_)
  · obtain ⟨hE, hne, hP1⟩ := hBX
    rw [ht] at hP1
    obtain ⟨hP, hD⟩ := va_join (wr := [(o, .inl (cJ, 1, .inr (.inl g)))]) (w1 := (wX ad cI cZ z v f)) hP hD [0, 1, 2, 3, 4, 5, 6, 7, 8, 9, 10, 11, 12, 13, 14, 15, 16, 17, 18, 19, 20, 21] [22] rfl rfl (by decide) (by decide) hk1 hFc hP1 (va_D.fst (ws := (wX ad cI cZ z v f)) rfl (hDc.self (sz := s.heap.size)))
    generalize H1 = H at hP hS hce ⊢
    have hP : va_P (dC, dI) vwCl (wXo ad cI cZ cJ o z v f g) H := hP.sub [1, 2, 3, 4, 5, 6, 7, 8, 9, 10, 11, 12, 13, 14, 15, 16, 17, 18, 19, 20, 21, 22, 0] rfl
    rcases hkc with h0 | ⟨h1, e1⟩ | ⟨h3, e3⟩
    · exact absurd h0 hne
    · rw [h1] at hE
      have hE : E = "java/lang/IllegalArgumentException" := hE
      subst hE
      refine vx_catch (name := "java/lang/IllegalArgumentException") hown [] ⟨0, 10, 13, 19⟩ [⟨0, 10, 17, 39⟩] htab (fun z9 hz => by cases hz) (by decide) (by decide) hck19 (va_Nw.use rfl (hT.2.2.2 (.castable "java/lang/IllegalArgumentException" "java/lang/IllegalArgumentException") (by decide +kernel))) hce hcv hcl ?_
      refine lv_astore (lv' := [(4, .ref q9), (0, .ref (ad 0)), (1, .int n), (2, .int i), (3, .ref o)]) hx hb dL_letter_13 hl (by decide) rfl (fun ls hl => ?_)
      refine lv_iconst (v := 1) hx hb dL_letter_15 (by decide) ?_
      refine W.widen (k := 1) (n := 6) (Nat.le_of_ble_eq_true rfl) (Nat.le_of_ble_eq_true rfl) ?_
      exact W.iret (v := 1) hx hb hr (fun t9 ht hW => ⟨⟨1, g, rfl, ⟨by rw [h1]; rfl, fun h => absurd (h.symm.trans h1) (by decide)⟩, by show va_P (dC, dI) vwCl _ t9.heap; rw [ht, e1]; exact hP⟩, hS.F ht⟩) hS.2.2 dL_letter_16
    · rw [h3] at hE
      have hE : E = "java/lang/IndexOutOfBoundsException" := hE
      subst hE
      refine vx_catch (name := "java/lang/IndexOutOfBoundsException") hown [⟨0, 10, 13, 19⟩] ⟨0, 10, 17, 39⟩ [] htab (fun z9 hz => by rcases List.mem_singleton.mp hz with rfl; exact Or.inr ⟨by decide, "java/lang/IllegalArgumentException", hck19, hC.2.1⟩) (by decide) (by decide) hck39 (va_Nw.use rfl (hT.2.2.2 (.castable "java/lang/IndexOutOfBoundsException" "java/lang/IndexOutOfBoundsException") (by decide +kernel))) hce hcv hcl ?_
      refine lv_astore (lv' := [(4, .ref q9), (0, .ref (ad 0)), (1, .int n), (2, .int i), (3, .ref o)]) hx hb dL_letter_17 hl (by decide) rfl (fun ls hl => ?_)
      refine lv_iconst (v := 2) hx hb dL_letter_19 (by decide) ?_
      refine W.widen (k := 1) (n := 6) (Nat.le_of_ble_eq_true rfl) (Nat.le_of_ble_eq_true rfl) ?_
      exact W.iret (v := 2) hx hb hr (fun t9 ht hW => ⟨⟨2, g, rfl, ⟨by rw [h3]; rfl, fun h => absurd (h.symm.trans h3) (by decide)⟩, by show va_P (dC, dI) vwCl _ t9.heap; rw [ht, e3]; exact hP⟩, hS.F ht⟩) hS.2.2 dL_letter_20
  · have hP1 : va_P (dC, dI) vwCl _ t9.heap := hB
    rw [ht] at hP1
    obtain ⟨hP, hD⟩ := va_join (wr := [(o, .inl (cJ, 1, .inr (.inl g)))]) (w1 := (wX ad cI cZ FF.2.2.1 FF.2.2.2.1 FF.2.2.2.2)) hP hD [0, 1, 2, 3, 4, 5, 6, 7, 8, 9, 10, 11, 12, 13, 14, 15, 16, 17, 18, 19, 20, 21] [22] rfl rfl (by decide) (by decide) hk1 hFc hP1 (va_D.fst (ws := (wX ad cI cZ z v f)) rfl (hDc.self (sz := s.heap.size)))
    generalize H1 = H at hP hS ⊢
    have hP : va_P (dC, dI) vwCl (wXo ad cI cZ cJ o FF.2.2.1 FF.2.2.2.1 FF.2.2.2.2 g) H := hP.sub [1, 2, 3, 4, 5, 6, 7, 8, 9, 10, 11, 12, 13, 14, 15, 16, 17, 18, 19, 20, 21, 22, 0] rfl
    have hD : va_D A (wXo ad cI cZ cJ o FF.2.2.1 FF.2.2.2.1 FF.2.2.2.2 g) := hD.sub [1, 2, 3, 4, 5, 6, 7, 8, 9, 10, 11, 12, 13, 14, 15, 16, 17, 18, 19, 20, 21, 22, 0] (by decide) rfl
    refine lv_i2l hx hb dL_letter_8 rfl ?_
    refine va_last hx hb hK hP hD hS 22 2 rfl rfl (vp_in_nI (n := 0) (by decide) (by decide)) dL_letter_9 (fun H locs hP hD hS => ?_)
    have hP : va_P (dC, dI) vwCl (wXo ad cI cZ cJ o FF.2.2.1 FF.2.2.2.1 FF.2.2.2.2 (vp_updL g (0 : Int32).toNatClampNeg r.toInt64)) H := hP
    refine lv_goto (tgt := 21) hx hb dL_letter_10 (by decide) ?_
    refine lv_iconst (v := 0) hx hb dL_letter_21 (by decide) ?_
    refine W.widen (k := 1) (n := 6) (Nat.le_of_ble_eq_true rfl) (Nat.le_of_ble_eq_true rfl) ?_
    exact W.iret (v := 0) hx hb hr (fun t9 ht hW => ⟨⟨0, (vp_updL g (0 : Int32).toNatClampNeg r.toInt64), rfl, ⟨by rw [hw.1]; rfl, fun _ => by rw [← hw.2]; rfl⟩, by show va_P (dC, dI) vwCl _ t9.heap; rw [ht]; exact hP⟩, hS.F ht⟩) hS.2.2 dL_letter_22
theorem kc_look (z : Nat → Nat) (v : Nat → Int32) (f : Nat → Nat → Int32) (t day w : Int32) : (F_X4_look z v f t day w).1 = 0 ∨ ((F_X4_look z v f t day w).1 = 1 ∧ (F_X4_look z v f t day w).2.2 = (z, v, f)) ∨ ((F_X4_look z v f t day w).1 = 3 ∧ (F_X4_look z v f t day w).2.2 = (z, v, f)) := by
  rw [F_X4_look]
  repeat' split
  all_goals first | exact Or.inl rfl | exact Or.inr ⟨rfl, rfl⟩ | exact Or.inr (Or.inl ⟨rfl, rfl⟩) | exact Or.inr (Or.inr ⟨rfl, rfl⟩)
def hc_look : Nat → Int32
  | 1 => 2
  | 3 => 1
  | _ => 0
set_option maxHeartbeats 4000000 in
set_option maxRecDepth 100000 in
theorem c_L_look (l : Launch) (dC : Nat → ClassId) (dI : Nat → Nat → Nat) (ad : Nat → Nat) (cI cZ cJ : ClassId) (z : Nat → Nat) (v : Nat → Int32) (f : Nat → Nat → Int32) (sz o : Nat) (g : Nat → Int64) (t day w : Int32) (hok : okX z v f) (hlt : l.stackTraces = false) : Met l yL_look wsL_look ({ frames := 7, cells := 1, slots := 6, locals := 114 }) (va_Pc [.ref (ad 0), .int t, .int day, .int w, .ref o] (fun U => U.heap.size = sz ∧ va_D (fun _ => True) (wXo ad cI cZ cJ o z v f g) ∧ va_P (dC, dI) vwCl (wXo ad cI cZ cJ o z v f g) U.heap ∧ va_K (dC, dI) vwCl (cL3 cI cZ cJ) U ∧ nW U ∧ tW (va_A (wXo ad cI cZ cJ o z v f g) sz) U ∧ cW U)) (va_Qi (fun (r : Int32) (g' : Nat → Int64) => r = hc_look (F_X4_look z v f t day w).1 ∧ ((F_X4_look z v f t day w).1 = 0 → g' 0 = (F_X4_look z v f t day w).2.1.toInt64)) (fun g' U => va_P (dC, dI) vwCl (wXo ad cI cZ cJ o (F_X4_look z v f t day w).2.2.1 (F_X4_look z v f t day w).2.2.2.1 (F_X4_look z v f t day w).2.2.2.2 g') U.heap) (va_A (wXo ad cI cZ cJ o z v f g) sz)) 1 6 (va_A (wXo ad cI cZ cJ o z v f g) sz) := by
  refine va_MetW (cc := cL_look) (maxL := 6) (ret := (some .int)) (hh := [(0, 12, 15, 39), (0, 12, 19, 19)]) (by decide) rfl ?_
  intro p e s m args below meth c s₁ B hml hv
  obtain ⟨rfl, hsz, hD0, hP, hK, hN, hT, hC⟩ := hv
  have hx := B.exec
  have hb := B.bytes
  have hr := B.returns
  have hts := atoms_spec (ws := wsL_look) B.pre
  have hown : s.vm.findClass RL = some m.cls := findClass_of_methodNamed B.named
  have hlocks := B.notSynchronized
  have htab : c.exceptionTable.toList = tableOf [(0, 12, 15, 39), (0, 12, 19, 19)] := vx_table (x := yL_look) B (hts _ List.mem_cons_self)
  have hck19 := hts (.classLink RL 19 "java/lang/IllegalArgumentException") (List.mem_of_getElem? (i := 2) rfl)
  have hck39 := hts (.classLink RL 39 "java/lang/IndexOutOfBoundsException") (List.mem_of_getElem? (i := 1) rfl)
  subst hsz
  have hD := hD0.self (sz := s.heap.size)
  generalize hAe : va_A (wXo ad cI cZ cJ o z v f g) s.heap.size = A at hD hT ⊢
  have hA : ∀ q : Nat, s.heap.size ≤ q → A q := fun q h => by rw [← hAe]; exact Or.inr h
  have hS : va_S A s.heap s.heap [] := va_S.rf
  have hl := lv_entry ([.ref (ad 0), .int t, .int day, .int w, .ref o]) (n := 6) (Nat.le_of_ble_eq_true rfl)
  rw [lg_entry_eq]
  generalize (lg_sl ([.ref (ad 0), .int t, .int day, .int w, .ref o]) ++ List.replicate (6 - (lg_sl ([.ref (ad 0), .int t, .int day, .int w, .ref o])).length) Slot.unset).toArray = ls at hl ⊢
  have hl : lv_has ls 6 [(0, .ref (ad 0)), (1, .int t), (2, .int day), (3, .int w), (4, .ref o)] := hl
  have hkc := kc_look z v f t day w
  have hM := c_X4_look l dC dI ad cI cZ z v f s.heap.size t day w hok hlt
  generalize F_X4_look z v f t day w = FF at hkc hM ⊢
  refine lv_aload hx hb dL_look_0 (lv_at hl 4 rfl) ?_
  refine lv_iconst (v := 0) hx hb dL_look_2 (by decide) ?_
  refine lv_aload_n hx hb dL_look_3 rfl (lv_at hl 0 rfl) ?_
  refine lv_iload_n hx hb dL_look_4 rfl (lv_at hl 1 rfl) ?_
  refine lv_iload_n hx hb dL_look_5 rfl (lv_at hl 2 rfl) ?_
  refine lv_iload_n hx hb dL_look_6 rfl (lv_at hl 3 rfl) ?_
  have hPc := hP.sub (ws' := (wX ad cI cZ z v f)) [0, 1, 2, 3, 4, 5, 6, 7, 8, 9, 10, 11, 12, 13, 14, 15, 16, 17, 18, 19, 20, 21] rfl
  have hDc := hD.sub (ws' := (wX ad cI cZ z v f)) [0, 1, 2, 3, 4, 5, 6, 7, 8, 9, 10, 11, 12, 13, 14, 15, 16, 17, 18, 19, 20, 21] (by decide) rfl
  have hKc := hK.sub (tys' := [(cI, .int), (cZ, .boolean)]) [0, 1] rfl
  have hFc := va_free (wc := (wX ad cI cZ z v f)) hD hS hA [0, 1, 2, 3, 4, 5, 6, 7, 8, 9, 10, 11, 12, 13, 14, 15, 16, 17, 18, 19, 20, 21] rfl
  refine vx_calli (vx_runV (As := [.int t, .int day, .int w]) (rest := [.int 0, .ref o]) ⟨hx, hb, hml, hown, hts⟩ hM (cwV 3 hts gL_look_X4_look rfl rfl rfl (by decide +kernel) ⟨Nat.le_of_ble_eq_true rfl, Nat.le_of_ble_eq_true rfl⟩) (preXt (ci := 4) (q0 := 0) hPc hKc hN hDc hT hS hFc rfl rfl rfl) rfl rfl hl.1 rfl (lv_room (Nat.le_of_ble_eq_true rfl)) dL_look_7 ⟨Nat.le_of_ble_eq_true rfl, Nat.le_of_ble_eq_true rfl⟩) hS (fun q _ h => hFc q h) hFc (fun q _ h => hFc q h) (fun E ce q9 u9 t9 H1 locs ht hvm hpx hBX hz1 hk1 hS hce hcv hcl => ?_) (fun r u9 t9 H1 locs ht hvm hw hB hz1 hk1 hS => ?_)
  · obtain ⟨hE, hne, hP1⟩ := hBX
    rw [ht] at hP1
    obtain ⟨hP, hD⟩ := va_join (wr := [(o, .inl (cJ, 1, .inr (.inl g)))]) (w1 := (wX ad cI cZ z v f)) hP hD [0, 1, 2, 3, 4, 5, 6, 7, 8, 9, 10, 11, 12, 13, 14, 15, 16, 17, 18, 19, 20, 21] [22] rfl rfl (by decide) (by decide) hk1 hFc hP1 (va_D.fst (ws := (wX ad cI cZ z v f)) rfl (hDc.self (sz := s.heap.size)))
    generalize H1 = H at hP hS hce ⊢
    have hP : va_P (dC, dI) vwCl (wXo ad cI cZ cJ o z v f g) H := hP.sub [1, 2, 3, 4, 5, 6, 7, 8, 9, 10, 11, 12, 13, 14, 15, 16, 17, 18, 19, 20, 21, 22, 0] rfl
    rcases hkc with h0 | ⟨h1, e1⟩ | ⟨h3, e3⟩
    · exact absurd h0 hne
    · rw [h1] at hE
      have hE : E = "java/lang/IllegalArgumentException" := hE
      subst hE
      refine vx_catch (name := "java/lang/IllegalArgumentException") hown [⟨0, 12, 15, 39⟩] ⟨0, 12, 19, 19⟩ [] htab (fun z9 hz => by rcases List.mem_singleton.mp hz with rfl; exact Or.inr ⟨by decide, "java/lang/IndexOutOfBoundsException", hck39, hC.2.2⟩) (by decide) (by decide) hck19 (va_Nw.use rfl (hT.2.2.2 (.castable "java/lang/IllegalArgumentException" "java/lang/IllegalArgumentException") (by decide +kernel))) hce hcv hcl ?_
      refine lv_astore (lv' := [(5, .ref q9), (0, .ref (ad 0)), (1, .int t), (2, .int day), (3, .int w), (4, .ref o)]) hx hb dL_look_19 hl (by decide) rfl (fun ls hl => ?_)
      refine lv_iconst (v := 2) hx hb dL_look_21 (by decide) ?_
      refine W.widen (k := 1) (n := 6) (Nat.le_of_ble_eq_true rfl) (Nat.le_of_ble_eq_true rfl) ?_
      exact W.iret (v := 2) hx hb hr (fun t9 ht hW => ⟨⟨2, g, rfl, ⟨by rw [h1]; rfl, fun h => absurd (h.symm.trans h1) (by decide)⟩, by show va_P (dC, dI) vwCl _ t9.heap; rw [ht, e1]; exact hP⟩, hS.F ht⟩) hS.2.2 dL_look_22
    · rw [h3] at hE
      have hE : E = "java/lang/IndexOutOfBoundsException" := hE
      subst hE
      refine vx_catch (name := "java/lang/IndexOutOfBoundsException") hown [] ⟨0, 12, 15, 39⟩ [⟨0, 12, 19, 19⟩] htab (fun z9 hz => by cases hz) (by decide) (by decide) hck39 (va_Nw.use rfl (hT.2.2.2 (.castable "java/lang/IndexOutOfBoundsException" "java/lang/IndexOutOfBoundsException") (by decide +kernel))) hce hcv hcl ?_
      refine lv_astore (lv' := [(5, .ref q9), (0, .ref (ad 0)), (1, .int t), (2, .int day), (3, .int w), (4, .ref o)]) hx hb dL_look_15 hl (by decide) rfl (fun ls hl => ?_)
      refine lv_iconst (v := 1) hx hb dL_look_17 (by decide) ?_
      refine W.widen (k := 1) (n := 6) (Nat.le_of_ble_eq_true rfl) (Nat.le_of_ble_eq_true rfl) ?_
      exact W.iret (v := 1) hx hb hr (fun t9 ht hW => ⟨⟨1, g, rfl, ⟨by rw [h3]; rfl, fun h => absurd (h.symm.trans h3) (by decide)⟩, by show va_P (dC, dI) vwCl _ t9.heap; rw [ht, e3]; exact hP⟩, hS.F ht⟩) hS.2.2 dL_look_18
  · have hP1 : va_P (dC, dI) vwCl _ t9.heap := hB
    rw [ht] at hP1
    obtain ⟨hP, hD⟩ := va_join (wr := [(o, .inl (cJ, 1, .inr (.inl g)))]) (w1 := (wX ad cI cZ FF.2.2.1 FF.2.2.2.1 FF.2.2.2.2)) hP hD [0, 1, 2, 3, 4, 5, 6, 7, 8, 9, 10, 11, 12, 13, 14, 15, 16, 17, 18, 19, 20, 21] [22] rfl rfl (by decide) (by decide) hk1 hFc hP1 (va_D.fst (ws := (wX ad cI cZ z v f)) rfl (hDc.self (sz := s.heap.size)))
    generalize H1 = H at hP hS ⊢
    have hP : va_P (dC, dI) vwCl (wXo ad cI cZ cJ o FF.2.2.1 FF.2.2.2.1 FF.2.2.2.2 g) H := hP.sub [1, 2, 3, 4, 5, 6, 7, 8, 9, 10, 11, 12, 13, 14, 15, 16, 17, 18, 19, 20, 21, 22, 0] rfl
    have hD : va_D A (wXo ad cI cZ cJ o FF.2.2.1 FF.2.2.2.1 FF.2.2.2.2 g) := hD.sub [1, 2, 3, 4, 5, 6, 7, 8, 9, 10, 11, 12, 13, 14, 15, 16, 17, 18, 19, 20, 21, 22, 0] (by decide) rfl
    refine lv_i2l hx hb dL_look_10 rfl ?_
    refine va_last hx hb hK hP hD hS 22 2 rfl rfl (vp_in_nI (n := 0) (by decide) (by decide)) dL_look_11 (fun H locs hP hD hS => ?_)
    have hP : va_P (dC, dI) vwCl (wXo ad cI cZ cJ o FF.2.2.1 FF.2.2.2.1 FF.2.2.2.2 (vp_updL g (0 : Int32).toNatClampNeg r.toInt64)) H := hP
    refine lv_goto (tgt := 23) hx hb dL_look_12 (by decide) ?_
    refine lv_iconst (v := 0) hx hb dL_look_23 (by decide) ?_
    refine W.widen (k := 1) (n := 6) (Nat.le_of_ble_eq_true rfl) (Nat.le_of_ble_eq_true rfl) ?_
    exact W.iret (v := 0) hx hb hr (fun t9 ht hW => ⟨⟨0, (vp_updL g (0 : Int32).toNatClampNeg r.toInt64), rfl, ⟨by rw [hw.1]; rfl, fun _ => by rw [← hw.2]; rfl⟩, by show va_P (dC, dI) vwCl _ t9.heap; rw [ht]; exact hP⟩, hS.F ht⟩) hS.2.2 dL_look_24
