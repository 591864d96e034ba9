def F_X2_append (z : Nat → Nat) (v : Nat → Int32) (f : Nat → Nat → Int32) (t a pl fr to : Int32) : (Nat → Nat) × (Nat → Int32) × (Nat → Nat → Int32) :=
  (uu z 1 (z 1 + 1), v, uu (uu (uu (uu (uu f 5 (upd (f 5) (z 1) t)) 6 (upd (f 6) (z 1) a)) 7 (upd (f 7) (z 1) pl)) 8 (upd (f 8) (z 1) fr)) 9 (upd (f 9) (z 1) to))
set_option maxHeartbeats 4000000 in
set_option maxRecDepth 100000 in
theorem c_X2_append (l : Launch) (dC : Nat → ClassId) (dI : Nat → Nat → Nat) (ad : Nat → Nat) (cI cZ : ClassId) (z : Nat → Nat) (v : Nat → Int32) (f : Nat → Nat → Int32) (sz : Nat) (t a pl fr to : Int32) (hok : okX z v f) (hs1 : z 1 < 60) : Met l yX2_append wsX2_append ({ frames := 0, cells := 0, slots := 0, locals := 0 }) (va_Pc [.ref (ad 6), .int t, .int a, .int pl, .int fr, .int to] (fun U => U.heap.size = sz ∧ va_D (fun _ => True) (wX ad cI cZ z v f) ∧ kX dC dI ad cI cZ z v f U)) (va_Qv (fun _ : Unit => True) (fun _ U9 => va_P (dC, dI) vwCl (wX ad cI cZ ((F_X2_append z v f t a pl fr to).1) ((F_X2_append z v f t a pl fr to).2.1) ((F_X2_append z v f t a pl fr to).2.2)) U9.heap) (va_A (wX ad cI cZ z v f) sz)) 0 0 (va_A (wX ad cI cZ z v f) sz) := by
  refine Met.ofW (cc := cX2_append) (maxL := 6) (ret := none) (by decide) rfl ?_
  intro p e s m args below meth c s₁ B hml hv
  obtain ⟨rfl, hsz, hD0, hP, hK, hN⟩ := hv
  have hx := B.exec
  have hb := B.bytes
  have hr := B.returns
  have hts := atoms_spec (ws := wsX2_append) B.pre
  have hown : s.vm.findClass RX2 = some m.cls := findClass_of_methodNamed B.named
  have hlocks := B.notSynchronized
  have hok9 := hok
  obtain ⟨hz0, hz1, hz2, hz3, hz4, hbz, hbs⟩ := hok9
  have hfl15 := hts (.fieldLink RX2 15 "TraderRights$Rights" "trader" "[I") (List.mem_of_getElem? (i := 1) rfl)
  have hfl19 := hts (.fieldLink RX2 19 "TraderRights$Rights" "act" "[I") (List.mem_of_getElem? (i := 3) rfl)
  have hfl22 := hts (.fieldLink RX2 22 "TraderRights$Rights" "place" "[I") (List.mem_of_getElem? (i := 4) rfl)
  have hfl25 := hts (.fieldLink RX2 25 "TraderRights$Rights" "from" "[I") (List.mem_of_getElem? (i := 5) rfl)
  have hfl28 := hts (.fieldLink RX2 28 "TraderRights$Rights" "to" "[I") (List.mem_of_getElem? (i := 6) rfl)
  have hfl9 := hts (.fieldLink RX2 9 "TraderRights$Rights" "size" "I") (List.mem_of_getElem? (i := 2) rfl)
  have hinX2 : ∀ w ∈ u_ws RX2 TX2 6, w ∈ wsX2_append := fun w h => List.mem_cons_of_mem _ (List.mem_append_right _ h)
  subst hsz
  have hD := hD0.self (sz := s.heap.size)
  generalize hAe : va_A (wX ad cI cZ z v f) s.heap.size = A at hD ⊢
  have hA : ∀ q : Nat, s.heap.size ≤ q → A q := fun q h => by rw [← hAe]; exact Or.inr h
  have hS : va_S A s.heap s.heap [] := va_S.rf
  have hl := lv_entry ([.ref (ad 6), .int t, .int a, .int pl, .int fr, .int to]) (n := 6) (Nat.le_of_ble_eq_true rfl)
  rw [lg_entry_eq]
  generalize (lg_sl ([.ref (ad 6), .int t, .int a, .int pl, .int fr, .int to]) ++ List.replicate (6 - (lg_sl ([.ref (ad 6), .int t, .int a, .int pl, .int fr, .int to])).length) Slot.unset).toArray = ls at hl ⊢
  have hl : lv_has ls 6 [(0, .ref (ad 6)), (1, .int t), (2, .int a), (3, .int pl), (4, .int fr), (5, .int to)] := hl
  generalize hF : F_X2_append z v f t a pl fr to = R9
  generalize hQ9 : MQ below _ _ s 0 0 A = Q9
  rw [F_X2_append] at hF
  refine lv_aload_n hx hb dX2_append_0 rfl (lv_at hl 0 rfl) ?_
  refine va_get (D := (dC, dI)) (ci := 2) (v := .ref (ad 7)) (C := RX2) (T := TX2) (N := 6) hx hb hts hinX2 hown hK hP 6 rfl rfl 1 (by decide) hfl15 (fun _ h9 => h9) rfl dX2_append_1 ?_
  refine lv_aload_n hx hb dX2_append_4 rfl (lv_at hl 0 rfl) ?_
  refine va_get (D := (dC, dI)) (ci := 2) (v := .int (nI (z 1))) (C := RX2) (T := TX2) (N := 6) hx hb hts hinX2 hown hK hP 6 rfl rfl 0 (by decide) hfl9 (fun _ h9 => h9) rfl dX2_append_5 ?_
  refine lv_iload_n hx hb dX2_append_8 rfl (lv_at hl 1 rfl) ?_
  refine xa_ist hx hb hK hP hD hS 7 0 rfl rfl (by omega) (by decide) dX2_append_9 (fun H locs hP hD hS => ?_)
  have hP : va_P (dC, dI) vwCl (wX ad cI cZ z v (uu f 5 (upd (f 5) (z 1) t))) H := hP
  have hD : va_D A (wX ad cI cZ z v (uu f 5 (upd (f 5) (z 1) t))) := hD
  refine lv_aload_n hx hb dX2_append_10 rfl (lv_at hl 0 rfl) ?_
  refine va_get (D := (dC, dI)) (ci := 2) (v := .ref (ad 8)) (C := RX2) (T := TX2) (N := 6) hx hb hts hinX2 hown hK hP 6 rfl rfl 2 (by decide) hfl19 (fun _ h9 => h9) rfl dX2_append_11 ?_
  refine lv_aload_n hx hb dX2_append_14 rfl (lv_at hl 0 rfl) ?_
  refine va_get (D := (dC, dI)) (ci := 2) (v := .int (nI (z 1))) (C := RX2) (T := TX2) (N := 6) hx hb hts hinX2 hown hK hP 6 rfl rfl 0 (by decide) hfl9 (fun _ h9 => h9) rfl dX2_append_15 ?_
  refine lv_iload_n hx hb dX2_append_18 rfl (lv_at hl 2 rfl) ?_
  refine xa_ist hx hb hK hP hD hS 8 0 rfl rfl (by omega) (by decide) dX2_append_19 (fun H locs hP hD hS => ?_)
  have hP : va_P (dC, dI) vwCl (wX ad cI cZ z v (uu (uu f 5 (upd (f 5) (z 1) t)) 6 (upd (f 6) (z 1) a))) H := hP
  have hD : va_D A (wX ad cI cZ z v (uu (uu f 5 (upd (f 5) (z 1) t)) 6 (upd (f 6) (z 1) a))) := hD
  refine lv_aload_n hx hb dX2_append_20 rfl (lv_at hl 0 rfl) ?_
  refine va_get (D := (dC, dI)) (ci := 2) (v := .ref (ad 9)) (C := RX2) (T := TX2) (N := 6) hx hb hts hinX2 hown hK hP 6 rfl rfl 3 (by decide) hfl22 (fun _ h9 => h9) rfl dX2_append_21 ?_
  refine lv_aload_n hx hb dX2_append_24 rfl (lv_at hl 0 rfl) ?_
  refine va_get (D := (dC, dI)) (ci := 2) (v := .int (nI (z 1))) (C := RX2) (T := TX2) (N := 6) hx hb hts hinX2 hown hK hP 6 rfl rfl 0 (by decide) hfl9 (fun _ h9 => h9) rfl dX2_append_25 ?_
  refine lv_iload_n hx hb dX2_append_28 rfl (lv_at hl 3 rfl) ?_
  refine xa_ist hx hb hK hP hD hS 9 0 rfl rfl (by omega) (by decide) dX2_append_29 (fun H locs hP hD hS => ?_)
  have hP : va_P (dC, dI) vwCl (wX ad cI cZ z v (uu (uu (uu f 5 (upd (f 5) (z 1) t)) 6 (upd (f 6) (z 1) a)) 7 (upd (f 7) (z 1) pl))) H := hP
  have hD : va_D A (wX ad cI cZ z v (uu (uu (uu f 5 (upd (f 5) (z 1) t)) 6 (upd (f 6) (z 1) a)) 7 (upd (f 7) (z 1) pl))) := hD
  refine lv_aload_n hx hb dX2_append_30 rfl (lv_at hl 0 rfl) ?_
  refine va_get (D := (dC, dI)) (ci := 2) (v := .ref (ad 10)) (C := RX2) (T := TX2) (N := 6) hx hb hts hinX2 hown hK hP 6 rfl rfl 4 (by decide) hfl25 (fun _ h9 => h9) rfl dX2_append_31 ?_
  refine lv_aload_n hx hb dX2_append_34 rfl (lv_at hl 0 rfl) ?_
  refine va_get (D := (dC, dI)) (ci := 2) (v := .int (nI (z 1))) (C := RX2) (T := TX2) (N := 6) hx hb hts hinX2 hown hK hP 6 rfl rfl 0 (by decide) hfl9 (fun _ h9 => h9) rfl dX2_append_35 ?_
  refine lv_iload hx hb dX2_append_38 (lv_at hl 4 rfl) ?_
  refine xa_ist hx hb hK hP hD hS 10 0 rfl rfl (by omega) (by decide) dX2_append_40 (fun H locs hP hD hS => ?_)
  have hP : va_P (dC, dI) vwCl (wX ad cI cZ z v (uu (uu (uu (uu f 5 (upd (f 5) (z 1) t)) 6 (upd (f 6) (z 1) a)) 7 (upd (f 7) (z 1) pl)) 8 (upd (f 8) (z 1) fr))) H := hP
  have hD : va_D A (wX ad cI cZ z v (uu (uu (uu (uu f 5 (upd (f 5) (z 1) t)) 6 (upd (f 6) (z 1) a)) 7 (upd (f 7) (z 1) pl)) 8 (upd (f 8) (z 1) fr))) := hD
  refine lv_aload_n hx hb dX2_append_41 rfl (lv_at hl 0 rfl) ?_
  refine va_get (D := (dC, dI)) (ci := 2) (v := .ref (ad 11)) (C := RX2) (T := TX2) (N := 6) hx hb hts hinX2 hown hK hP 6 rfl rfl 5 (by decide) hfl28 (fun _ h9 => h9) rfl dX2_append_42 ?_
  refine lv_aload_n hx hb dX2_append_45 rfl (lv_at hl 0 rfl) ?_
  refine va_get (D := (dC, dI)) (ci := 2) (v := .int (nI (z 1))) (C := RX2) (T := TX2) (N := 6) hx hb hts hinX2 hown hK hP 6 rfl rfl 0 (by decide) hfl9 (fun _ h9 => h9) rfl dX2_append_46 ?_
  refine lv_iload hx hb dX2_append_49 (lv_at hl 5 rfl) ?_
  refine xa_ist hx hb hK hP hD hS 11 0 rfl rfl (by omega) (by decide) dX2_append_51 (fun H locs hP hD hS => ?_)
  have hP : va_P (dC, dI) vwCl (wX ad cI cZ z v (uu (uu (uu (uu (uu f 5 (upd (f 5) (z 1) t)) 6 (upd (f 6) (z 1) a)) 7 (upd (f 7) (z 1) pl)) 8 (upd (f 8) (z 1) fr)) 9 (upd (f 9) (z 1) to))) H := hP
  have hD : va_D A (wX ad cI cZ z v (uu (uu (uu (uu (uu f 5 (upd (f 5) (z 1) t)) 6 (upd (f 6) (z 1) a)) 7 (upd (f 7) (z 1) pl)) 8 (upd (f 8) (z 1) fr)) 9 (upd (f 9) (z 1) to))) := hD
  refine lv_aload_n hx hb dX2_append_52 rfl (lv_at hl 0 rfl) ?_
  refine lv_aload_n hx hb dX2_append_53 rfl (lv_at hl 0 rfl) ?_
  refine va_get (D := (dC, dI)) (ci := 2) (v := .int (nI (z 1))) (C := RX2) (T := TX2) (N := 6) hx hb hts hinX2 hown hK hP 6 rfl rfl 0 (by decide) hfl9 (fun _ h9 => h9) rfl dX2_append_54 ?_
  refine lv_iconst (v := 1) hx hb dX2_append_57 (by decide) ?_
  refine lv_iadd hx hb dX2_append_58 ?_
  refine xe_top (nI_1 _) ?_
  refine va_put (D := (dC, dI)) (ci := 2) (v := .int (nI (z 1 + 1))) (ty := .int) (C := RX2) (T := TX2) (N := 6) hx hb hts hinX2 tyX2 tyX2_ok nmX2 hown hK hP hD hS 6 rfl rfl 0 (by decide) hfl9 (fun _ h9 => h9) rfl (by decide +kernel) rfl rfl (Nat.le_of_ble_eq_true rfl) dX2_append_59 (fun H locs hP hD hS => ?_)
  have hP : va_P (dC, dI) vwCl (wX ad cI cZ (uu z 1 (z 1 + 1)) v (uu (uu (uu (uu (uu f 5 (upd (f 5) (z 1) t)) 6 (upd (f 6) (z 1) a)) 7 (upd (f 7) (z 1) pl)) 8 (upd (f 8) (z 1) fr)) 9 (upd (f 9) (z 1) to))) H := hP
  have hD : va_D A (wX ad cI cZ (uu z 1 (z 1 + 1)) v (uu (uu (uu (uu (uu f 5 (upd (f 5) (z 1) t)) 6 (upd (f 6) (z 1) a)) 7 (upd (f 7) (z 1) pl)) 8 (upd (f 8) (z 1) fr)) 9 (upd (f 9) (z 1) to))) := hD
  subst hF
  subst hQ9
  exact W.vret hx hb hr (fun t9 ht hW => ⟨⟨(), rfl, trivial, by show va_P (dC, dI) vwCl _ t9.heap; rw [ht]; exact hP⟩, hS.F ht⟩) hS.2.2 dX2_append_62
def F_X0_append (z : Nat → Nat) (v : Nat → Int32) (f : Nat → Nat → Int32) (fr to di un : Int32) : (Nat → Nat) × (Nat → Int32) × (Nat → Nat → Int32) :=
  (uu z 2 (z 2 + 1), v, uu (uu (uu (uu f 10 (upd (f 10) (z 2) fr)) 11 (upd (f 11) (z 2) to)) 12 (upd (f 12) (z 2) di)) 13 (upd (f 13) (z 2) un))
set_option maxHeartbeats 4000000 in
set_option maxRecDepth 100000 in
theorem c_X0_append (l : Launch) (dC : Nat → ClassId) (dI : Nat → Nat → Nat) (ad : Nat → Nat) (cI cZ : ClassId) (z : Nat → Nat) (v : Nat → Int32) (f : Nat → Nat → Int32) (sz : Nat) (fr to di un : Int32) (hok : okX z v f) (hs2 : z 2 < 60) (hdi : zB di) : Met l yX0_append wsX0_append ({ frames := 0, cells := 0, slots := 0, locals := 0 }) (va_Pc [.ref (ad 12), .int fr, .int to, .int di, .int un] (fun U => U.heap.size = sz ∧ va_D (fun _ => True) (wX ad cI cZ z v f) ∧ kX dC dI ad cI cZ z v f U)) (va_Qv (fun _ : Unit => True) (fun _ U9 => va_P (dC, dI) vwCl (wX ad cI cZ ((F_X0_append z v f fr to di un).1) ((F_X0_append z v f fr to di un).2.1) ((F_X0_append z v f fr to di un).2.2)) U9.heap) (va_A (wX ad cI cZ z v f) sz)) 0 0 (va_A (wX ad cI cZ z v f) sz) := by
  refine Met.ofW (cc := cX0_append) (maxL := 5) (ret := none) (by decide) rfl ?_
  intro p e s m args below meth c s₁ B hml hv
  obtain ⟨rfl, hsz, hD0, hP, hK, hN⟩ := hv
  have hx := B.exec
  have hb := B.bytes
  have hr := B.returns
  have hts := atoms_spec (ws := wsX0_append) B.pre
  have hown : s.vm.findClass RX0 = some m.cls := findClass_of_methodNamed B.named
  have hlocks := B.notSynchronized
  have hok9 := hok
  obtain ⟨hz0, hz1, hz2, hz3, hz4, hbz, hbs⟩ := hok9
  have hfl15 := hts (.fieldLink RX0 15 "TraderRights$Mandates" "giver" "[I") (List.mem_of_getElem? (i := 1) rfl)
  have hfl19 := hts (.fieldLink RX0 19 "TraderRights$Mandates" "taker" "[I") (List.mem_of_getElem? (i := 3) rfl)
  have hfl22 := hts (.fieldLink RX0 22 "TraderRights$Mandates" "isDirect" "[Z") (List.mem_of_getElem? (i := 4) rfl)
  have hfl26 := hts (.fieldLink RX0 26 "TraderRights$Mandates" "until" "[I") (List.mem_of_getElem? (i := 5) rfl)
  have hfl9 := hts (.fieldLink RX0 9 "TraderRights$Mandates" "size" "I") (List.mem_of_getElem? (i := 2) rfl)
  have hinX0 : ∀ w ∈ u_ws RX0 TX0 5, w ∈ wsX0_append := fun w h => List.mem_cons_of_mem _ (List.mem_append_right _ h)
  subst hsz
  have hD := hD0.self (sz := s.heap.size)
  generalize hAe : va_A (wX ad cI cZ z v f) s.heap.size = A at hD ⊢
  have hA : ∀ q : Nat, s.heap.size ≤ q → A q := fun q h => by rw [← hAe]; exact Or.inr h
  have hS : va_S A s.heap s.heap [] := va_S.rf
  have hl := lv_entry ([.ref (ad 12), .int fr, .int to, .int di, .int un]) (n := 5) (Nat.le_of_ble_eq_true rfl)
  rw [lg_entry_eq]
  generalize (lg_sl ([.ref (ad 12), .int fr, .int to, .int di, .int un]) ++ List.replicate (5 - (lg_sl ([.ref (ad 12), .int fr, .int to, .int di, .int un])).length) Slot.unset).toArray = ls at hl ⊢
  have hl : lv_has ls 5 [(0, .ref (ad 12)), (1, .int fr), (2, .int to), (3, .int di), (4, .int un)] := hl
  generalize hF : F_X0_append z v f fr to di un = R9
  generalize hQ9 : MQ below _ _ s 0 0 A = Q9
  rw [F_X0_append] at hF
  refine lv_aload_n hx hb dX0_append_0 rfl (lv_at hl 0 rfl) ?_
  refine va_get (D := (dC, dI)) (ci := 0) (v := .ref (ad 13)) (C := RX0) (T := TX0) (N := 5) hx hb hts hinX0 hown hK hP 12 rfl rfl 1 (by decide) hfl15 (fun _ h9 => h9) rfl dX0_append_1 ?_
  refine lv_aload_n hx hb dX0_append_4 rfl (lv_at hl 0 rfl) ?_
  refine va_get (D := (dC, dI)) (ci := 0) (v := .int (nI (z 2))) (C := RX0) (T := TX0) (N := 5) hx hb hts hinX0 hown hK hP 12 rfl rfl 0 (by decide) hfl9 (fun _ h9 => h9) rfl dX0_append_5 ?_
  refine lv_iload_n hx hb dX0_append_8 rfl (lv_at hl 1 rfl) ?_
  refine xa_ist hx hb hK hP hD hS 13 0 rfl rfl (by omega) (by decide) dX0_append_9 (fun H locs hP hD hS => ?_)
  have hP : va_P (dC, dI) vwCl (wX ad cI cZ z v (uu f 10 (upd (f 10) (z 2) fr))) H := hP
  have hD : va_D A (wX ad cI cZ z v (uu f 10 (upd (f 10) (z 2) fr))) := hD
  refine lv_aload_n hx hb dX0_append_10 rfl (lv_at hl 0 rfl) ?_
  refine va_get (D := (dC, dI)) (ci := 0) (v := .ref (ad 14)) (C := RX0) (T := TX0) (N := 5) hx hb hts hinX0 hown hK hP 12 rfl rfl 2 (by decide) hfl19 (fun _ h9 => h9) rfl dX0_append_11 ?_
  refine lv_aload_n hx hb dX0_append_14 rfl (lv_at hl 0 rfl) ?_
  refine va_get (D := (dC, dI)) (ci := 0) (v := .int (nI (z 2))) (C := RX0) (T := TX0) (N := 5) hx hb hts hinX0 hown hK hP 12 rfl rfl 0 (by decide) hfl9 (fun _ h9 => h9) rfl dX0_append_15 ?_
  refine lv_iload_n hx hb dX0_append_18 rfl (lv_at hl 2 rfl) ?_
  refine xa_ist hx hb hK hP hD hS 14 0 rfl rfl (by omega) (by decide) dX0_append_19 (fun H locs hP hD hS => ?_)
  have hP : va_P (dC, dI) vwCl (wX ad cI cZ z v (uu (uu f 10 (upd (f 10) (z 2) fr)) 11 (upd (f 11) (z 2) to))) H := hP
  have hD : va_D A (wX ad cI cZ z v (uu (uu f 10 (upd (f 10) (z 2) fr)) 11 (upd (f 11) (z 2) to))) := hD
  refine lv_aload_n hx hb dX0_append_20 rfl (lv_at hl 0 rfl) ?_
  refine va_get (D := (dC, dI)) (ci := 0) (v := .ref (ad 15)) (C := RX0) (T := TX0) (N := 5) hx hb hts hinX0 hown hK hP 12 rfl rfl 3 (by decide) hfl22 (fun _ h9 => h9) rfl dX0_append_21 ?_
  refine lv_aload_n hx hb dX0_append_24 rfl (lv_at hl 0 rfl) ?_
  refine va_get (D := (dC, dI)) (ci := 0) (v := .int (nI (z 2))) (C := RX0) (T := TX0) (N := 5) hx hb hts hinX0 hown hK hP 12 rfl rfl 0 (by decide) hfl9 (fun _ h9 => h9) rfl dX0_append_25 ?_
  refine lv_iload_n hx hb dX0_append_28 rfl (lv_at hl 3 rfl) ?_
  refine xa_zst hx hb hK hP hD hS 15 1 rfl rfl (zB_nar (by assumption)) (by omega) (by decide) dX0_append_29 (fun H locs hP hD hS => ?_)
  have hP : va_P (dC, dI) vwCl (wX ad cI cZ z v (uu (uu (uu f 10 (upd (f 10) (z 2) fr)) 11 (upd (f 11) (z 2) to)) 12 (upd (f 12) (z 2) di))) H := hP
  have hD : va_D A (wX ad cI cZ z v (uu (uu (uu f 10 (upd (f 10) (z 2) fr)) 11 (upd (f 11) (z 2) to)) 12 (upd (f 12) (z 2) di))) := hD
  refine lv_aload_n hx hb dX0_append_30 rfl (lv_at hl 0 rfl) ?_
  refine va_get (D := (dC, dI)) (ci := 0) (v := .ref (ad 16)) (C := RX0) (T := TX0) (N := 5) hx hb hts hinX0 hown hK hP 12 rfl rfl 4 (by decide) hfl26 (fun _ h9 => h9) rfl dX0_append_31 ?_
  refine lv_aload_n hx hb dX0_append_34 rfl (lv_at hl 0 rfl) ?_
  refine va_get (D := (dC, dI)) (ci := 0) (v := .int (nI (z 2))) (C := RX0) (T := TX0) (N := 5) hx hb hts hinX0 hown hK hP 12 rfl rfl 0 (by decide) hfl9 (fun _ h9 => h9) rfl dX0_append_35 ?_
  refine lv_iload hx hb dX0_append_38 (lv_at hl 4 rfl) ?_
  refine xa_ist hx hb hK hP hD hS 16 0 rfl rfl (by omega) (by decide) dX0_append_40 (fun H locs hP hD hS => ?_)
  have hP : va_P (dC, dI) vwCl (wX ad cI cZ z v (uu (uu (uu (uu f 10 (upd (f 10) (z 2) fr)) 11 (upd (f 11) (z 2) to)) 12 (upd (f 12) (z 2) di)) 13 (upd (f 13) (z 2) un))) H := hP
  have hD : va_D A (wX ad cI cZ z v (uu (uu (uu (uu f 10 (upd (f 10) (z 2) fr)) 11 (upd (f 11) (z 2) to)) 12 (upd (f 12) (z 2) di)) 13 (upd (f 13) (z 2) un))) := hD
  refine lv_aload_n hx hb dX0_append_41 rfl (lv_at hl 0 rfl) ?_
  refine lv_aload_n hx hb dX0_append_42 rfl (lv_at hl 0 rfl) ?_
  refine va_get (D := (dC, dI)) (ci := 0) (v := .int (nI (z 2))) (C := RX0) (T := TX0) (N := 5) hx hb hts hinX0 hown hK hP 12 rfl rfl 0 (by decide) hfl9 (fun _ h9 => h9) rfl dX0_append_43 ?_
  refine lv_iconst (v := 1) hx hb dX0_append_46 (by decide) ?_
  refine lv_iadd hx hb dX0_append_47 ?_
  refine xe_top (nI_1 _) ?_
  refine va_put (D := (dC, dI)) (ci := 0) (v := .int (nI (z 2 + 1))) (ty := .int) (C := RX0) (T := TX0) (N := 5) hx hb hts hinX0 tyX0 tyX0_ok nmX0 hown hK hP hD hS 12 rfl rfl 0 (by decide) hfl9 (fun _ h9 => h9) rfl (by decide +kernel) rfl rfl (Nat.le_of_ble_eq_true rfl) dX0_append_48 (fun H locs hP hD hS => ?_)
  have hP : va_P (dC, dI) vwCl (wX ad cI cZ (uu z 2 (z 2 + 1)) v (uu (uu (uu (uu f 10 (upd (f 10) (z 2) fr)) 11 (upd (f 11) (z 2) to)) 12 (upd (f 12) (z 2) di)) 13 (upd (f 13) (z 2) un))) H := hP
  have hD : va_D A (wX ad cI cZ (uu z 2 (z 2 + 1)) v (uu (uu (uu (uu f 10 (upd (f 10) (z 2) fr)) 11 (upd (f 11) (z 2) to)) 12 (upd (f 12) (z 2) di)) 13 (upd (f 13) (z 2) un))) := hD
  subst hF
  subst hQ9
  exact W.vret hx hb hr (fun t9 ht hW => ⟨⟨(), rfl, trivial, by show va_P (dC, dI) vwCl _ t9.heap; rw [ht]; exact hP⟩, hS.F ht⟩) hS.2.2 dX0_append_51
def F_X3_append (z : Nat → Nat) (v : Nat → Int32) (f : Nat → Nat → Int32) (t day on : Int32) : (Nat → Nat) × (Nat → Int32) × (Nat → Nat → Int32) :=
  (uu z 3 (z 3 + 1), v, uu (uu (uu f 14 (upd (f 14) (z 3) t)) 15 (upd (f 15) (z 3) day)) 16 (upd (f 16) (z 3) on))
set_option maxHeartbeats 4000000 in
set_option maxRecDepth 100000 in
theorem c_X3_append (l : Launch) (dC : Nat → ClassId) (dI : Nat → Nat → Nat) (ad : Nat → Nat) (cI cZ : ClassId) (z : Nat → Nat) (v : Nat → Int32) (f : Nat → Nat → Int32) (sz : Nat) (t day on : Int32) (hok : okX z v f) (hs3 : z 3 < 60) (hon : zB on) : Met l yX3_append wsX3_append ({ frames := 0, cells := 0, slots := 0, locals := 0 }) (va_Pc [.ref (ad 17), .int t, .int day, .int on] (fun U => U.heap.size = sz ∧ va_D (fun _ => True) (wX ad cI cZ z v f) ∧ kX dC dI ad cI cZ z v f U)) (va_Qv (fun _ : Unit => True) (fun _ U9 => va_P (dC, dI) vwCl (wX ad cI cZ ((F_X3_append z v f t day on).1) ((F_X3_append z v f t day on).2.1) ((F_X3_append z v f t day on).2.2)) U9.heap) (va_A (wX ad cI cZ z v f) sz)) 0 0 (va_A (wX ad cI cZ z v f) sz) := by
  refine Met.ofW (cc := cX3_append) (maxL := 4) (ret := none) (by decide) rfl ?_
  intro p e s m args below meth c s₁ B hml hv
  obtain ⟨rfl, hsz, hD0, hP, hK, hN⟩ := hv
  have hx := B.exec
  have hb := B.bytes
  have hr := B.returns
  have hts := atoms_spec (ws := wsX3_append) B.pre
  have hown : s.vm.findClass RX3 = some m.cls := findClass_of_methodNamed B.named
  have hlocks := B.notSynchronized
  have hok9 := hok
  obtain ⟨hz0, hz1, hz2, hz3, hz4, hbz, hbs⟩ := hok9
  have hfl15 := hts (.fieldLink RX3 15 "TraderRights$Suspensions" "trader" "[I") (List.mem_of_getElem? (i := 1) rfl)
  have hfl19 := hts (.fieldLink RX3 19 "TraderRights$Suspensions" "from" "[I") (List.mem_of_getElem? (i := 3) rfl)
  have hfl22 := hts (.fieldLink RX3 22 "TraderRights$Suspensions" "isSuspending" "[Z") (List.mem_of_getElem? (i := 4) rfl)
  have hfl9 := hts (.fieldLink RX3 9 "TraderRights$Suspensions" "size" "I") (List.mem_of_getElem? (i := 2) rfl)
  have hinX3 : ∀ w ∈ u_ws RX3 TX3 4, w ∈ wsX3_append := fun w h => List.mem_cons_of_mem _ (List.mem_append_right _ h)
  subst hsz
  have hD := hD0.self (sz := s.heap.size)
  generalize hAe : va_A (wX ad cI cZ z v f) s.heap.size = A at hD ⊢
  have hA : ∀ q : Nat, s.heap.size ≤ q → A q := fun q h => by rw [← hAe]; exact Or.inr h
  have hS : va_S A s.heap s.heap [] := va_S.rf
  have hl := lv_entry ([.ref (ad 17), .int t, .int day, .int on]) (n := 4) (Nat.le_of_ble_eq_true rfl)
  rw [lg_entry_eq]
  generalize (lg_sl ([.ref (ad 17), .int t, .int day, .int on]) ++ List.replicate (4 - (lg_sl ([.ref (ad 17), .int t, .int day, .int on])).length) Slot.unset).toArray = ls at hl ⊢
  have hl : lv_has ls 4 [(0, .ref (ad 17)), (1, .int t), (2, .int day), (3, .int on)] := hl
  generalize hF : F_X3_append z v f t day on = R9
  generalize hQ9 : MQ below _ _ s 0 0 A = Q9
  rw [F_X3_append] at hF
  refine lv_aload_n hx hb dX3_append_0 rfl (lv_at hl 0 rfl) ?_
  refine va_get (D := (dC, dI)) (ci := 3) (v := .ref (ad 18)) (C := RX3) (T := TX3) (N := 4) hx hb hts hinX3 hown hK hP 17 rfl rfl 1 (by decide) hfl15 (fun _ h9 => h9) rfl dX3_append_1 ?_
  refine lv_aload_n hx hb dX3_append_4 rfl (lv_at hl 0 rfl) ?_
  refine va_get (D := (dC, dI)) (ci := 3) (v := .int (nI (z 3))) (C := RX3) (T := TX3) (N := 4) hx hb hts hinX3 hown hK hP 17 rfl rfl 0 (by decide) hfl9 (fun _ h9 => h9) rfl dX3_append_5 ?_
  refine lv_iload_n hx hb dX3_append_8 rfl (lv_at hl 1 rfl) ?_
  refine xa_ist hx hb hK hP hD hS 18 0 rfl rfl (by omega) (by decide) dX3_append_9 (fun H locs hP hD hS => ?_)
  have hP : va_P (dC, dI) vwCl (wX ad cI cZ z v (uu f 14 (upd (f 14) (z 3) t))) H := hP
  have hD : va_D A (wX ad cI cZ z v (uu f 14 (upd (f 14) (z 3) t))) := hD
  refine lv_aload_n hx hb dX3_append_10 rfl (lv_at hl 0 rfl) ?_
  refine va_get (D := (dC, dI)) (ci := 3) (v := .ref (ad 19)) (C := RX3) (T := TX3) (N := 4) hx hb hts hinX3 hown hK hP 17 rfl rfl 2 (by decide) hfl19 (fun _ h9 => h9) rfl dX3_append_11 ?_
  refine lv_aload_n hx hb dX3_append_14 rfl (lv_at hl 0 rfl) ?_
  refine va_get (D := (dC, dI)) (ci := 3) (v := .int (nI (z 3))) (C := RX3) (T := TX3) (N := 4) hx hb hts hinX3 hown hK hP 17 rfl rfl 0 (by decide) hfl9 (fun _ h9 => h9) rfl dX3_append_15 ?_
  refine lv_iload_n hx hb dX3_append_18 rfl (lv_at hl 2 rfl) ?_
  refine xa_ist hx hb hK hP hD hS 19 0 rfl rfl (by omega) (by decide) dX3_append_19 (fun H locs hP hD hS => ?_)
  have hP : va_P (dC, dI) vwCl (wX ad cI cZ z v (uu (uu f 14 (upd (f 14) (z 3) t)) 15 (upd (f 15) (z 3) day))) H := hP
  have hD : va_D A (wX ad cI cZ z v (uu (uu f 14 (upd (f 14) (z 3) t)) 15 (upd (f 15) (z 3) day))) := hD
  refine lv_aload_n hx hb dX3_append_20 rfl (lv_at hl 0 rfl) ?_
  refine va_get (D := (dC, dI)) (ci := 3) (v := .ref (ad 20)) (C := RX3) (T := TX3) (N := 4) hx hb hts hinX3 hown hK hP 17 rfl rfl 3 (by decide) hfl22 (fun _ h9 => h9) rfl dX3_append_21 ?_
  refine lv_aload_n hx hb dX3_append_24 rfl (lv_at hl 0 rfl) ?_
  refine va_get (D := (dC, dI)) (ci := 3) (v := .int (nI (z 3))) (C := RX3) (T := TX3) (N := 4) hx hb hts hinX3 hown hK hP 17 rfl rfl 0 (by decide) hfl9 (fun _ h9 => h9) rfl dX3_append_25 ?_
  refine lv_iload_n hx hb dX3_append_28 rfl (lv_at hl 3 rfl) ?_
  refine xa_zst hx hb hK hP hD hS 20 1 rfl rfl (zB_nar (by assumption)) (by omega) (by decide) dX3_append_29 (fun H locs hP hD hS => ?_)
  have hP : va_P (dC, dI) vwCl (wX ad cI cZ z v (uu (uu (uu f 14 (upd (f 14) (z 3) t)) 15 (upd (f 15) (z 3) day)) 16 (upd (f 16) (z 3) on))) H := hP
  have hD : va_D A (wX ad cI cZ z v (uu (uu (uu f 14 (upd (f 14) (z 3) t)) 15 (upd (f 15) (z 3) day)) 16 (upd (f 16) (z 3) on))) := hD
  refine lv_aload_n hx hb dX3_append_30 rfl (lv_at hl 0 rfl) ?_
  refine lv_aload_n hx hb dX3_append_31 rfl (lv_at hl 0 rfl) ?_
  refine va_get (D := (dC, dI)) (ci := 3) (v := .int (nI (z 3))) (C := RX3) (T := TX3) (N := 4) hx hb hts hinX3 hown hK hP 17 rfl rfl 0 (by decide) hfl9 (fun _ h9 => h9) rfl dX3_append_32 ?_
  refine lv_iconst (v := 1) hx hb dX3_append_35 (by decide) ?_
  refine lv_iadd hx hb dX3_append_36 ?_
  refine xe_top (nI_1 _) ?_
  refine va_put (D := (dC, dI)) (ci := 3) (v := .int (nI (z 3 + 1))) (ty := .int) (C := RX3) (T := TX3) (N := 4) hx hb hts hinX3 tyX3 tyX3_ok nmX3 hown hK hP hD hS 17 rfl rfl 0 (by decide) hfl9 (fun _ h9 => h9) rfl (by decide +kernel) rfl rfl (Nat.le_of_ble_eq_true rfl) dX3_append_37 (fun H locs hP hD hS => ?_)
  have hP : va_P (dC, dI) vwCl (wX ad cI cZ (uu z 3 (z 3 + 1)) v (uu (uu (uu f 14 (upd (f 14) (z 3) t)) 15 (upd (f 15) (z 3) day)) 16 (upd (f 16) (z 3) on))) H := hP
  have hD : va_D A (wX ad cI cZ (uu z 3 (z 3 + 1)) v (uu (uu (uu f 14 (upd (f 14) (z 3) t)) 15 (upd (f 15) (z 3) day)) 16 (upd (f 16) (z 3) on))) := hD
  subst hF
  subst hQ9
  exact W.vret hx hb hr (fun t9 ht hW => ⟨⟨(), rfl, trivial, by show va_P (dC, dI) vwCl _ t9.heap; rw [ht]; exact hP⟩, hS.F ht⟩) hS.2.2 dX3_append_40
def F_X4_forbid (z : Nat → Nat) (v : Nat → Int32) (f : Nat → Nat → Int32) (t a b : Int32) : Int32 × (Nat → Nat) × (Nat → Int32) × (Nat → Nat → Int32) :=
  if F_X4_isTrader z v f t = 0 then
    (0, z, v, f)
  else
    if F_X4_isAct a = 0 then
      (0, z, v, f)
    else
      if F_X4_isForbidden z v f t a = b then
        (0, z, v, f)
      else
        (1, z, v, uu f 1 (upd (f 1) t.toNatClampNeg ((f 1 t.toNatClampNeg) ^^^ (F_X4_bit a))))
set_option maxHeartbeats 4000000 in
set_option maxRecDepth 100000 in
theorem c_X4_forbid (l : Launch) (dC : Nat → ClassId) (dI : Nat → Nat → Nat) (ad : Nat → Nat) (cI cZ : ClassId) (z : Nat → Nat) (v : Nat → Int32) (f : Nat → Nat → Int32) (sz : Nat) (t a b : Int32) (hok : okX z v f) : Met l yX4_forbid wsX4_forbid ({ frames := 2, cells := 0, slots := 0, locals := 43 }) (va_Pc [.ref (ad 0), .int t, .int a, .int b] (fun U => U.heap.size = sz ∧ va_D (fun _ => True) (wX ad cI cZ z v f) ∧ kX dC dI ad cI cZ z v f U)) (va_Qi (fun (r : Int32) (_ : Unit) => r = (F_X4_forbid z v f t a b).1) (fun _ U9 => va_P (dC, dI) vwCl (wX ad cI cZ ((F_X4_forbid z v f t a b).2.1) ((F_X4_forbid z v f t a b).2.2.1) ((F_X4_forbid z v f t a b).2.2.2)) U9.heap) (va_A (wX ad cI cZ z v f) sz)) 0 0 (va_A (wX ad cI cZ z v f) sz) := by
  refine Met.ofW (cc := cX4_forbid) (maxL := 4) (ret := (some .boolean)) (by decide) rfl ?_
  intro p e s m args below meth c s₁ B hml hv
  obtain ⟨rfl, hsz, hD0, hP, hK, hN⟩ := hv
  have hx := B.exec
  have hb := B.bytes
  have hr := B.returns
  have hts := atoms_spec (ws := wsX4_forbid) B.pre
  have hown : s.vm.findClass RX4 = some m.cls := findClass_of_methodNamed B.named
  have hlocks := B.notSynchronized
  have hok9 := hok
  obtain ⟨hz0, hz1, hz2, hz3, hz4, hbz, hbs⟩ := hok9
  have hfl20 := hts (.fieldLink RX4 20 "TraderRights" "forbiddenActs" "[I") (List.mem_of_getElem? (i := 1) rfl)
  have hinX4 : ∀ w ∈ u_ws RX4 TX4 11, w ∈ wsX4_forbid := fun w h => List.mem_cons_of_mem _ (List.mem_append_right _ h)
  subst hsz
  have hD := hD0.self (sz := s.heap.size)
  generalize hAe : va_A (wX ad cI cZ z v f) s.heap.size = A at hD ⊢
  have hA : ∀ q : Nat, s.heap.size ≤ q → A q := fun q h => by rw [← hAe]; exact Or.inr h
  have hS : va_S A s.heap s.heap [] := va_S.rf
  have hl := lv_entry ([.ref (ad 0), .int t, .int a, .int b]) (n := 4) (Nat.le_of_ble_eq_true rfl)
  rw [lg_entry_eq]
  generalize (lg_sl ([.ref (ad 0), .int t, .int a, .int b]) ++ List.replicate (4 - (lg_sl ([.ref (ad 0), .int t, .int a, .int b])).length) Slot.unset).toArray = ls at hl ⊢
  have hl : lv_has ls 4 [(0, .ref (ad 0)), (1, .int t), (2, .int a), (3, .int b)] := hl
  generalize hF : F_X4_forbid z v f t a b = R9
  generalize hQ9 : MQ below _ _ s 0 0 A = Q9
  rw [F_X4_forbid] at hF
  refine lv_aload_n hx hb dX4_forbid_0 rfl (lv_at hl 0 rfl) ?_
  refine lv_iload_n hx hb dX4_forbid_1 rfl (lv_at hl 1 rfl) ?_
  refine vp_callSi (W.runV (As := [.int t]) (rest := []) ⟨hx, hb, hml, hown, hts⟩ (c_X4_isTrader l dC dI ad cI cZ z v f t hok) (cwV 1 hts gX4_forbid_X4_isTrader rfl rfl rfl (by decide +kernel) ⟨Nat.le_of_ble_eq_true rfl, Nat.le_of_ble_eq_true rfl⟩) (preX (ci := 4) (q0 := 0) hP hK hN rfl rfl rfl) rfl rfl hl.1 rfl (lv_room (Nat.le_of_ble_eq_true rfl)) dX4_forbid_2 ⟨Nat.zero_le _, Nat.zero_le _⟩) (fun r1 h9 => ?_)
  have hr1 : r1 = F_X4_isTrader z v f t := h9
  try rw [← hr1] at hF
  refine lv_if_eq (tgt := 25) hx hb dX4_forbid_5 (by decide) (fun c2 => ?_) (fun c2 => ?_)
  · rw [if_pos c2] at hF
    have c2f : F_X4_isTrader z v f t = 0 := by rw [← hr1]; exact c2
    refine lv_iconst (v := 0) hx hb dX4_forbid_25 (by decide) ?_
    subst hF
    subst hQ9
    exact W.zret (ty := .boolean) (v := 0) hx hb hr rfl (fun t9 ht hW => ⟨⟨0, (), rfl, rfl, by show va_P (dC, dI) vwCl _ t9.heap; rw [ht]; exact hP⟩, hS.F ht⟩) hS.2.2 dX4_forbid_26
  · rw [if_neg c2] at hF
    have c2f : ¬ F_X4_isTrader z v f t = 0 := by rw [← hr1]; exact c2
    refine lv_iload_n hx hb dX4_forbid_8 rfl (lv_at hl 2 rfl) ?_
    refine vp_callSi (W.runS (As := [.int a]) (rest := []) ⟨hx, hb, hml, hown, hts⟩ (c_X4_isAct l a) (cwS 1 hts gX4_forbid_X4_isAct rfl rfl rfl (by decide +kernel) ⟨Nat.le_of_ble_eq_true rfl, Nat.le_of_ble_eq_true rfl⟩) preT rfl rfl hl.1 rfl (lv_room (Nat.le_of_ble_eq_true rfl)) dX4_forbid_9 ⟨Nat.zero_le _, Nat.zero_le _⟩) (fun r3 h9 => ?_)
    have hr3 : r3 = F_X4_isAct a := h9
    try rw [← hr3] at hF
    refine lv_if_eq (tgt := 25) hx hb dX4_forbid_12 (by decide) (fun c4 => ?_) (fun c4 => ?_)
    · rw [if_pos c4] at hF
      have c4f : F_X4_isAct a = 0 := by rw [← hr3]; exact c4
      refine lv_iconst (v := 0) hx hb dX4_forbid_25 (by decide) ?_
      subst hF
      subst hQ9
      exact W.zret (ty := .boolean) (v := 0) hx hb hr rfl (fun t9 ht hW => ⟨⟨0, (), rfl, rfl, by show va_P (dC, dI) vwCl _ t9.heap; rw [ht]; exact hP⟩, hS.F ht⟩) hS.2.2 dX4_forbid_26
    · rw [if_neg c4] at hF
      have c4f : ¬ F_X4_isAct a = 0 := by rw [← hr3]; exact c4
      refine lv_aload_n hx hb dX4_forbid_15 rfl (lv_at hl 0 rfl) ?_
      refine lv_iload_n hx hb dX4_forbid_16 rfl (lv_at hl 1 rfl) ?_
      refine lv_iload_n hx hb dX4_forbid_17 rfl (lv_at hl 2 rfl) ?_
      refine vp_callSi (W.runV (As := [.int t, .int a]) (rest := []) ⟨hx, hb, hml, hown, hts⟩ (c_X4_isForbidden l dC dI ad cI cZ z v f t a hok (in_isTX hok c2f)) (cwV 2 hts gX4_forbid_X4_isForbidden rfl rfl rfl (by decide +kernel) ⟨Nat.le_of_ble_eq_true rfl, Nat.le_of_ble_eq_true rfl⟩) (preX (ci := 4) (q0 := 0) hP hK hN rfl rfl rfl) rfl rfl hl.1 rfl (lv_room (Nat.le_of_ble_eq_true rfl)) dX4_forbid_18 ⟨Nat.zero_le _, Nat.zero_le _⟩) (fun r5 h9 => ?_)
      have hr5 : r5 = F_X4_isForbidden z v f t a := h9
      try rw [← hr5] at hF
      refine lv_iload_n hx hb dX4_forbid_21 rfl (lv_at hl 3 rfl) ?_
      refine lv_icmp_ne (tgt := 27) hx hb dX4_forbid_22 (by decide) (fun c6 => ?_) (fun c6 => ?_)
      · rw [if_neg c6] at hF
        refine lv_aload_n hx hb dX4_forbid_27 rfl (lv_at hl 0 rfl) ?_
        refine va_get (D := (dC, dI)) (ci := 4) (v := .ref (ad 2)) (C := RX4) (T := TX4) (N := 11) hx hb hts hinX4 hown hK hP 0 rfl rfl 3 (by decide) hfl20 (fun _ h9 => h9) rfl dX4_forbid_28 ?_
        refine lv_iload_n hx hb dX4_forbid_31 rfl (lv_at hl 1 rfl) ?_
        refine lv_aload_n hx hb dX4_forbid_32 rfl (lv_at hl 0 rfl) ?_
        refine va_get (D := (dC, dI)) (ci := 4) (v := .ref (ad 2)) (C := RX4) (T := TX4) (N := 11) hx hb hts hinX4 hown hK hP 0 rfl rfl 3 (by decide) hfl20 (fun _ h9 => h9) rfl dX4_forbid_33 ?_
        refine lv_iload_n hx hb dX4_forbid_36 rfl (lv_at hl 1 rfl) ?_
        refine va_iald hx hb hK hP 2 0 rfl rfl (in_isTX hok c2f) dX4_forbid_37 ?_
        refine lv_iload_n hx hb dX4_forbid_38 rfl (lv_at hl 2 rfl) ?_
        refine vp_callSi (W.runS (As := [.int a]) (rest := [.int (f 1 t.toNatClampNeg), .int t, .ref (ad 2)]) ⟨hx, hb, hml, hown, hts⟩ (c_X4_bit l a) (cwS 1 hts gX4_forbid_X4_bit rfl rfl rfl (by decide +kernel) ⟨Nat.le_of_ble_eq_true rfl, Nat.le_of_ble_eq_true rfl⟩) preT rfl rfl hl.1 rfl (lv_room (Nat.le_of_ble_eq_true rfl)) dX4_forbid_39 ⟨Nat.zero_le _, Nat.zero_le _⟩) (fun r7 h9 => ?_)
        have hr7 : r7 = F_X4_bit a := h9
        try rw [← hr7] at hF
        refine lv_ixor hx hb dX4_forbid_42 ?_
        refine va_iast hx hb hK hP hD hS 2 0 rfl rfl (in_isTX hok c2f) dX4_forbid_43 (fun H locs hP hD hS => ?_)
        have hP : va_P (dC, dI) vwCl (wX ad cI cZ z v (uu f 1 (upd (f 1) t.toNatClampNeg ((f 1 t.toNatClampNeg) ^^^ r7)))) H := hP
        have hD : va_D A (wX ad cI cZ z v (uu f 1 (upd (f 1) t.toNatClampNeg ((f 1 t.toNatClampNeg) ^^^ r7)))) := hD
        refine lv_iconst (v := 1) hx hb dX4_forbid_44 (by decide) ?_
        subst hF
        subst hQ9
        exact W.zret (ty := .boolean) (v := 1) hx hb hr rfl (fun t9 ht hW => ⟨⟨1, (), rfl, rfl, by show va_P (dC, dI) vwCl _ t9.heap; rw [ht]; exact hP⟩, hS.F ht⟩) hS.2.2 dX4_forbid_45
      · rw [if_pos c6] at hF
        refine lv_iconst (v := 0) hx hb dX4_forbid_25 (by decide) ?_
        subst hF
        subst hQ9
        exact W.zret (ty := .boolean) (v := 0) hx hb hr rfl (fun t9 ht hW => ⟨⟨0, (), rfl, rfl, by show va_P (dC, dI) vwCl _ t9.heap; rw [ht]; exact hP⟩, hS.F ht⟩) hS.2.2 dX4_forbid_26
def F_X4_end (z : Nat → Nat) (v : Nat → Int32) (f : Nat → Nat → Int32) (t day : Int32) : Int32 × (Nat → Nat) × (Nat → Int32) × (Nat → Nat → Int32) :=
  if F_X4_isTrader z v f t = 0 then
    (0, z, v, f)
  else
    if F_X4_isDay day = 0 then
      (0, z, v, f)
    else
      if f 4 t.toNatClampNeg = (-1) then
        (1, z, v, uu f 4 (upd (f 4) t.toNatClampNeg day))
      else
        (0, z, v, f)
set_option maxHeartbeats 4000000 in
set_option maxRecDepth 100000 in
theorem c_X4_end (l : Launch) (dC : Nat → ClassId) (dI : Nat → Nat → Nat) (ad : Nat → Nat) (cI cZ : ClassId) (z : Nat → Nat) (v : Nat → Int32) (f : Nat → Nat → Int32) (sz : Nat) (t day : Int32) (hok : okX z v f) : Met l yX4_end wsX4_end ({ frames := 1, cells := 0, slots := 0, locals := 21 }) (va_Pc [.ref (ad 0), .int t, .int day] (fun U => U.heap.size = sz ∧ va_D (fun _ => True) (wX ad cI cZ z v f) ∧ kX dC dI ad cI cZ z v f U)) (va_Qi (fun (r : Int32) (_ : Unit) => r = (F_X4_end z v f t day).1) (fun _ U9 => va_P (dC, dI) vwCl (wX ad cI cZ ((F_X4_end z v f t day).2.1) ((F_X4_end z v f t day).2.2.1) ((F_X4_end z v f t day).2.2.2)) U9.heap) (va_A (wX ad cI cZ z v f) sz)) 0 0 (va_A (wX ad cI cZ z v f) sz) := by
  refine Met.ofW (cc := cX4_end) (maxL := 3) (ret := (some .boolean)) (by decide) rfl ?_
  intro p e s m args below meth c s₁ B hml hv
  obtain ⟨rfl, hsz, hD0, hP, hK, hN⟩ := hv
  have hx := B.exec
  have hb := B.bytes
  have hr := B.returns
  have hts := atoms_spec (ws := wsX4_end) B.pre
  have hown : s.vm.findClass RX4 = some m.cls := findClass_of_methodNamed B.named
  have hlocks := B.notSynchronized
  have hok9 := hok
  obtain ⟨hz0, hz1, hz2, hz3, hz4, hbz, hbs⟩ := hok9
  have hfl29 := hts (.fieldLink RX4 29 "TraderRights" "endDays" "[I") (List.mem_of_getElem? (i := 1) rfl)
  have hinX4 : ∀ w ∈ u_ws RX4 TX4 11, w ∈ wsX4_end := fun w h => List.mem_cons_of_mem _ (List.mem_append_right _ h)
  subst hsz
  have hD := hD0.self (sz := s.heap.size)
  generalize hAe : va_A (wX ad cI cZ z v f) s.heap.size = A at hD ⊢
  have hA : ∀ q : Nat, s.heap.size ≤ q → A q := fun q h => by rw [← hAe]; exact Or.inr h
  have hS : va_S A s.heap s.heap [] := va_S.rf
  have hl := lv_entry ([.ref (ad 0), .int t, .int day]) (n := 3) (Nat.le_of_ble_eq_true rfl)
  rw [lg_entry_eq]
  generalize (lg_sl ([.ref (ad 0), .int t, .int day]) ++ List.replicate (3 - (lg_sl ([.ref (ad 0), .int t, .int day])).length) Slot.unset).toArray = ls at hl ⊢
  have hl : lv_has ls 3 [(0, .ref (ad 0)), (1, .int t), (2, .int day)] := hl
  generalize hF : F_X4_end z v f t day = R9
  generalize hQ9 : MQ below _ _ s 0 0 A = Q9
  rw [F_X4_end] at hF
  refine lv_aload_n hx hb dX4_end_0 rfl (lv_at hl 0 rfl) ?_
  refine lv_iload_n hx hb dX4_end_1 rfl (lv_at hl 1 rfl) ?_
  refine vp_callSi (W.runV (As := [.int t]) (rest := []) ⟨hx, hb, hml, hown, hts⟩ (c_X4_isTrader l dC dI ad cI cZ z v f t hok) (cwV 1 hts gX4_end_X4_isTrader rfl rfl rfl (by decide +kernel) ⟨Nat.le_of_ble_eq_true rfl, Nat.le_of_ble_eq_true rfl⟩) (preX (ci := 4) (q0 := 0) hP hK hN rfl rfl rfl) rfl rfl hl.1 rfl (lv_room (Nat.le_of_ble_eq_true rfl)) dX4_end_2 ⟨Nat.zero_le _, Nat.zero_le _⟩) (fun r1 h9 => ?_)
  have hr1 : r1 = F_X4_isTrader z v f t := h9
  try rw [← hr1] at hF
  refine lv_if_eq (tgt := 25) hx hb dX4_end_5 (by decide) (fun c2 => ?_) (fun c2 => ?_)
  · rw [if_pos c2] at hF
    have c2f : F_X4_isTrader z v f t = 0 := by rw [← hr1]; exact c2
    refine lv_iconst (v := 0) hx hb dX4_end_25 (by decide) ?_
    subst hF
    subst hQ9
    exact W.zret (ty := .boolean) (v := 0) hx hb hr rfl (fun t9 ht hW => ⟨⟨0, (), rfl, rfl, by show va_P (dC, dI) vwCl _ t9.heap; rw [ht]; exact hP⟩, hS.F ht⟩) hS.2.2 dX4_end_26
  · rw [if_neg c2] at hF
    have c2f : ¬ F_X4_isTrader z v f t = 0 := by rw [← hr1]; exact c2
    refine lv_iload_n hx hb dX4_end_8 rfl (lv_at hl 2 rfl) ?_
    refine vp_callSi (W.runS (As := [.int day]) (rest := []) ⟨hx, hb, hml, hown, hts⟩ (c_X4_isDay l day) (cwS 1 hts gX4_end_X4_isDay rfl rfl rfl (by decide +kernel) ⟨Nat.le_of_ble_eq_true rfl, Nat.le_of_ble_eq_true rfl⟩) preT rfl rfl hl.1 rfl (lv_room (Nat.le_of_ble_eq_true rfl)) dX4_end_9 ⟨Nat.zero_le _, Nat.zero_le _⟩) (fun r3 h9 => ?_)
    have hr3 : r3 = F_X4_isDay day := h9
    try rw [← hr3] at hF
    refine lv_if_eq (tgt := 25) hx hb dX4_end_12 (by decide) (fun c4 => ?_) (fun c4 => ?_)
    · rw [if_pos c4] at hF
      have c4f : F_X4_isDay day = 0 := by rw [← hr3]; exact c4
      refine lv_iconst (v := 0) hx hb dX4_end_25 (by decide) ?_
      subst hF
      subst hQ9
      exact W.zret (ty := .boolean) (v := 0) hx hb hr rfl (fun t9 ht hW => ⟨⟨0, (), rfl, rfl, by show va_P (dC, dI) vwCl _ t9.heap; rw [ht]; exact hP⟩, hS.F ht⟩) hS.2.2 dX4_end_26
    · rw [if_neg c4] at hF
      have c4f : ¬ F_X4_isDay day = 0 := by rw [← hr3]; exact c4
      refine lv_aload_n hx hb dX4_end_15 rfl (lv_at hl 0 rfl) ?_
      refine va_get (D := (dC, dI)) (ci := 4) (v := .ref (ad 5)) (C := RX4) (T := TX4) (N := 11) hx hb hts hinX4 hown hK hP 0 rfl rfl 6 (by decide) hfl29 (fun _ h9 => h9) rfl dX4_end_16 ?_
      refine lv_iload_n hx hb dX4_end_19 rfl (lv_at hl 1 rfl) ?_
      refine va_iald hx hb hK hP 5 0 rfl rfl (in_isTX hok c2f) dX4_end_20 ?_
      refine lv_iconst (v := (-1)) hx hb dX4_end_21 (by decide) ?_
      refine lv_icmp_eq (tgt := 27) hx hb dX4_end_22 (by decide) (fun c5 => ?_) (fun c5 => ?_)
      · rw [if_pos c5] at hF
        refine lv_aload_n hx hb dX4_end_27 rfl (lv_at hl 0 rfl) ?_
        refine va_get (D := (dC, dI)) (ci := 4) (v := .ref (ad 5)) (C := RX4) (T := TX4) (N := 11) hx hb hts hinX4 hown hK hP 0 rfl rfl 6 (by decide) hfl29 (fun _ h9 => h9) rfl dX4_end_28 ?_
        refine lv_iload_n hx hb dX4_end_31 rfl (lv_at hl 1 rfl) ?_
        refine lv_iload_n hx hb dX4_end_32 rfl (lv_at hl 2 rfl) ?_
        refine va_iast hx hb hK hP hD hS 5 0 rfl rfl (in_isTX hok c2f) dX4_end_33 (fun H locs hP hD hS => ?_)
        have hP : va_P (dC, dI) vwCl (wX ad cI cZ z v (uu f 4 (upd (f 4) t.toNatClampNeg day))) H := hP
        have hD : va_D A (wX ad cI cZ z v (uu f 4 (upd (f 4) t.toNatClampNeg day))) := hD
        refine lv_iconst (v := 1) hx hb dX4_end_34 (by decide) ?_
        subst hF
        subst hQ9
        exact W.zret (ty := .boolean) (v := 1) hx hb hr rfl (fun t9 ht hW => ⟨⟨1, (), rfl, rfl, by show va_P (dC, dI) vwCl _ t9.heap; rw [ht]; exact hP⟩, hS.F ht⟩) hS.2.2 dX4_end_35
      · rw [if_neg c5] at hF
        refine lv_iconst (v := 0) hx hb dX4_end_25 (by decide) ?_
        subst hF
        subst hQ9
        exact W.zret (ty := .boolean) (v := 0) hx hb hr rfl (fun t9 ht hW => ⟨⟨0, (), rfl, rfl, by show va_P (dC, dI) vwCl _ t9.heap; rw [ht]; exact hP⟩, hS.F ht⟩) hS.2.2 dX4_end_26
def F_X4_two (z : Nat → Nat) (v : Nat → Int32) (f : Nat → Nat → Int32) (a b : Int32) : Int32 × (Nat → Nat) × (Nat → Int32) × (Nat → Nat → Int32) :=
  if F_X4_isAct a = 0 then
    (0, z, v, f)
  else
    if F_X4_needsTwo z v f a = b then
      (0, z, v, f)
    else
      (1, z, uu v 0 ((v 0) ^^^ (F_X4_bit a)), f)
set_option maxHeartbeats 4000000 in
set_option maxRecDepth 100000 in
theorem c_X4_two (l : Launch) (dC : Nat → ClassId) (dI : Nat → Nat → Nat) (ad : Nat → Nat) (cI cZ : ClassId) (z : Nat → Nat) (v : Nat → Int32) (f : Nat → Nat → Int32) (sz : Nat) (a b : Int32) (hok : okX z v f) : Met l yX4_two wsX4_two ({ frames := 2, cells := 0, slots := 0, locals := 42 }) (va_Pc [.ref (ad 0), .int a, .int b] (fun U => U.heap.size = sz ∧ va_D (fun _ => True) (wX ad cI cZ z v f) ∧ kX dC dI ad cI cZ z v f U)) (va_Qi (fun (r : Int32) (_ : Unit) => r = (F_X4_two z v f a b).1) (fun _ U9 => va_P (dC, dI) vwCl (wX ad cI cZ ((F_X4_two z v f a b).2.1) ((F_X4_two z v f a b).2.2.1) ((F_X4_two z v f a b).2.2.2)) U9.heap) (va_A (wX ad cI cZ z v f) sz)) 0 0 (va_A (wX ad cI cZ z v f) sz) := by
  refine Met.ofW (cc := cX4_two) (maxL := 3) (ret := (some .boolean)) (by decide) rfl ?_
  intro p e s m args below meth c s₁ B hml hv
  obtain ⟨rfl, hsz, hD0, hP, hK, hN⟩ := hv
  have hx := B.exec
  have hb := B.bytes
  have hr := B.returns
  have hts := atoms_spec (ws := wsX4_two) B.pre
  have hown : s.vm.findClass RX4 = some m.cls := findClass_of_methodNamed B.named
  have hlocks := B.notSynchronized
  have hok9 := hok
  obtain ⟨hz0, hz1, hz2, hz3, hz4, hbz, hbs⟩ := hok9
  have hfl13 := hts (.fieldLink RX4 13 "TraderRights" "actsOfTwo" "I") (List.mem_of_getElem? (i := 1) rfl)
  have hinX4 : ∀ w ∈ u_ws RX4 TX4 11, w ∈ wsX4_two := fun w h => List.mem_cons_of_mem _ (List.mem_append_right _ h)
  subst hsz
  have hD := hD0.self (sz := s.heap.size)
  generalize hAe : va_A (wX ad cI cZ z v f) s.heap.size = A at hD ⊢
  have hA : ∀ q : Nat, s.heap.size ≤ q → A q := fun q h => by rw [← hAe]; exact Or.inr h
  have hS : va_S A s.heap s.heap [] := va_S.rf
  have hl := lv_entry ([.ref (ad 0), .int a, .int b]) (n := 3) (Nat.le_of_ble_eq_true rfl)
  rw [lg_entry_eq]
  generalize (lg_sl ([.ref (ad 0), .int a, .int b]) ++ List.replicate (3 - (lg_sl ([.ref (ad 0), .int a, .int b])).length) Slot.unset).toArray = ls at hl ⊢
  have hl : lv_has ls 3 [(0, .ref (ad 0)), (1, .int a), (2, .int b)] := hl
  generalize hF : F_X4_two z v f a b = R9
  generalize hQ9 : MQ below _ _ s 0 0 A = Q9
  rw [F_X4_two] at hF
  refine lv_iload_n hx hb dX4_two_0 rfl (lv_at hl 1 rfl) ?_
  refine vp_callSi (W.runS (As := [.int a]) (rest := []) ⟨hx, hb, hml, hown, hts⟩ (c_X4_isAct l a) (cwS 1 hts gX4_two_X4_isAct rfl rfl rfl (by decide +kernel) ⟨Nat.le_of_ble_eq_true rfl, Nat.le_of_ble_eq_true rfl⟩) preT rfl rfl hl.1 rfl (lv_room (Nat.le_of_ble_eq_true rfl)) dX4_two_1 ⟨Nat.zero_le _, Nat.zero_le _⟩) (fun r1 h9 => ?_)
  have hr1 : r1 = F_X4_isAct a := h9
  try rw [← hr1] at hF
  refine lv_if_eq (tgt := 16) hx hb dX4_two_4 (by decide) (fun c2 => ?_) (fun c2 => ?_)
  · rw [if_pos c2] at hF
    have c2f : F_X4_isAct a = 0 := by rw [← hr1]; exact c2
    refine lv_iconst (v := 0) hx hb dX4_two_16 (by decide) ?_
    subst hF
    subst hQ9
    exact W.zret (ty := .boolean) (v := 0) hx hb hr rfl (fun t9 ht hW => ⟨⟨0, (), rfl, rfl, by show va_P (dC, dI) vwCl _ t9.heap; rw [ht]; exact hP⟩, hS.F ht⟩) hS.2.2 dX4_two_17
  · rw [if_neg c2] at hF
    have c2f : ¬ F_X4_isAct a = 0 := by rw [← hr1]; exact c2
    refine lv_aload_n hx hb dX4_two_7 rfl (lv_at hl 0 rfl) ?_
    refine lv_iload_n hx hb dX4_two_8 rfl (lv_at hl 1 rfl) ?_
    refine vp_callSi (W.runV (As := [.int a]) (rest := []) ⟨hx, hb, hml, hown, hts⟩ (c_X4_needsTwo l dC dI ad cI cZ z v f a hok) (cwV 1 hts gX4_two_X4_needsTwo rfl rfl rfl (by decide +kernel) ⟨Nat.le_of_ble_eq_true rfl, Nat.le_of_ble_eq_true rfl⟩) (preX (ci := 4) (q0 := 0) hP hK hN rfl rfl rfl) rfl rfl hl.1 rfl (lv_room (Nat.le_of_ble_eq_true rfl)) dX4_two_9 ⟨Nat.zero_le _, Nat.zero_le _⟩) (fun r3 h9 => ?_)
    have hr3 : r3 = F_X4_needsTwo z v f a := h9
    try rw [← hr3] at hF
    refine lv_iload_n hx hb dX4_two_12 rfl (lv_at hl 2 rfl) ?_
    refine lv_icmp_ne (tgt := 18) hx hb dX4_two_13 (by decide) (fun c4 => ?_) (fun c4 => ?_)
    · rw [if_neg c4] at hF
      refine lv_aload_n hx hb dX4_two_18 rfl (lv_at hl 0 rfl) ?_
      refine lv_aload_n hx hb dX4_two_19 rfl (lv_at hl 0 rfl) ?_
      refine va_get (D := (dC, dI)) (ci := 4) (v := .int (v 0)) (C := RX4) (T := TX4) (N := 11) hx hb hts hinX4 hown hK hP 0 rfl rfl 1 (by decide) hfl13 (fun _ h9 => h9) rfl dX4_two_20 ?_
      refine lv_iload_n hx hb dX4_two_23 rfl (lv_at hl 1 rfl) ?_
      refine vp_callSi (W.runS (As := [.int a]) (rest := [.int (v 0), .ref (ad 0)]) ⟨hx, hb, hml, hown, hts⟩ (c_X4_bit l a) (cwS 1 hts gX4_two_X4_bit rfl rfl rfl (by decide +kernel) ⟨Nat.le_of_ble_eq_true rfl, Nat.le_of_ble_eq_true rfl⟩) preT rfl rfl hl.1 rfl (lv_room (Nat.le_of_ble_eq_true rfl)) dX4_two_24 ⟨Nat.zero_le _, Nat.zero_le _⟩) (fun r5 h9 => ?_)
      have hr5 : r5 = F_X4_bit a := h9
      try rw [← hr5] at hF
      refine lv_ixor hx hb dX4_two_27 ?_
      refine va_put (D := (dC, dI)) (ci := 4) (v := .int ((v 0) ^^^ r5)) (ty := .int) (C := RX4) (T := TX4) (N := 11) hx hb hts hinX4 tyX4 tyX4_ok nmX4 hown hK hP hD hS 0 rfl rfl 1 (by decide) hfl13 (fun _ h9 => h9) rfl (by decide +kernel) rfl rfl (Nat.le_of_ble_eq_true rfl) dX4_two_28 (fun H locs hP hD hS => ?_)
      have hP : va_P (dC, dI) vwCl (wX ad cI cZ z (uu v 0 ((v 0) ^^^ r5)) f) H := hP
      have hD : va_D A (wX ad cI cZ z (uu v 0 ((v 0) ^^^ r5)) f) := hD
      refine lv_iconst (v := 1) hx hb dX4_two_31 (by decide) ?_
      subst hF
      subst hQ9
      exact W.zret (ty := .boolean) (v := 1) hx hb hr rfl (fun t9 ht hW => ⟨⟨1, (), rfl, rfl, by show va_P (dC, dI) vwCl _ t9.heap; rw [ht]; exact hP⟩, hS.F ht⟩) hS.2.2 dX4_two_32
    · rw [if_pos c4] at hF
      refine lv_iconst (v := 0) hx hb dX4_two_16 (by decide) ?_
      subst hF
      subst hQ9
      exact W.zret (ty := .boolean) (v := 0) hx hb hr rfl (fun t9 ht hW => ⟨⟨0, (), rfl, rfl, by show va_P (dC, dI) vwCl _ t9.heap; rw [ht]; exact hP⟩, hS.F ht⟩) hS.2.2 dX4_two_17
def F_X4_certified (z : Nat → Nat) (v : Nat → Int32) (f : Nat → Nat → Int32)  : Int32 :=
  v 1
set_option maxHeartbeats 4000000 in
set_option maxRecDepth 100000 in
theorem c_X4_certified (l : Launch) (dC : Nat → ClassId) (dI : Nat → Nat → Nat) (ad : Nat → Nat) (cI cZ : ClassId) (z : Nat → Nat) (v : Nat → Int32) (f : Nat → Nat → Int32) (hok : okX z v f) : Met l yX4_certified wsX4_certified ({ frames := 0, cells := 0, slots := 0, locals := 0 }) (va_Pc [.ref (ad 0)] (kX dC dI ad cI cZ z v f)) (vp_Si (fun r => r = F_X4_certified z v f )) 0 0 (fun _ => False) := by
  refine Met.ofW (cc := cX4_certified) (maxL := 1) (ret := (some .int)) (by decide) rfl ?_
  intro p e s m args below meth c s₁ B hml hv
  obtain ⟨rfl, hP, hK, hN⟩ := hv
  have hx := B.exec
  have hb := B.bytes
  have hr := B.returns
  have hts := atoms_spec (ws := wsX4_certified) B.pre
  have hown : s.vm.findClass RX4 = some m.cls := findClass_of_methodNamed B.named
  have hlocks := B.notSynchronized
  have hok9 := hok
  obtain ⟨hz0, hz1, hz2, hz3, hz4, hbz, hbs⟩ := hok9
  have hfl183 := hN.use (args := ([.ref (ad 0)] : List Value).toArray) (w := .fieldLinkNest RX4 183 "TraderRights$Reader" "latest" "I" "TraderRights") (by decide +kernel)
  have hfl62 := hts (.fieldLink RX4 62 "TraderRights" "reader" "LTraderRights$Reader;") (List.mem_of_getElem? (i := 1) rfl)
  have hinX1 : ∀ w ∈ u_ws RX1 TX1 3, w ∈ wsX4_certified := fun w h => List.mem_cons_of_mem _ (List.mem_append_right _ h)
  have hinX4 : ∀ w ∈ u_ws RX4 TX4 11, w ∈ wsX4_certified := fun w h => List.mem_cons_of_mem _ (List.mem_append_left _ (List.mem_append_right _ h))
  have hl := lv_entry ([.ref (ad 0)]) (n := 1) (Nat.le_of_ble_eq_true rfl)
  rw [lg_entry_eq]
  generalize (lg_sl ([.ref (ad 0)]) ++ List.replicate (1 - (lg_sl ([.ref (ad 0)])).length) Slot.unset).toArray = ls at hl ⊢
  have hl : lv_has ls 1 [(0, .ref (ad 0))] := hl
  generalize hF : F_X4_certified z v f  = R9
  generalize hQ9 : MQ below (vp_Si (fun r => r = R9)) _ s 0 0 (fun _ => False) = Q9
  rw [F_X4_certified] at hF
  refine lv_aload_n hx hb dX4_certified_0 rfl (lv_at hl 0 rfl) ?_
  refine va_get (D := (dC, dI)) (ci := 4) (v := .ref (ad 21)) (C := RX4) (T := TX4) (N := 11) hx hb hts hinX4 hown hK hP 0 rfl rfl 10 (by decide) hfl62 (fun _ h9 => h9) rfl dX4_certified_1 ?_
  refine va_getN (D := (dC, dI)) (ci := 1) (v := .int (v 1)) (C := RX1) (T := TX1) (N := 3) hx hb hts hinX1 hown hK hP 21 rfl rfl 0 (by decide) hfl183 (fun _ h9 => h9) rfl dX4_certified_4 ?_
  subst hQ9
  exact W.iret hx hb hr (fun t ht hW => ⟨_, rfl, hF, ht⟩) (fun q h => by cases h) dX4_certified_7
def F_X1_restart (z : Nat → Nat) (v : Nat → Int32) (f : Nat → Nat → Int32)  : (Nat → Nat) × (Nat → Int32) × (Nat → Nat → Int32) :=
  (uu z 4 0, uu v 2 0, f)
set_option maxHeartbeats 4000000 in
set_option maxRecDepth 100000 in
theorem c_X1_restart (l : Launch) (dC : Nat → ClassId) (dI : Nat → Nat → Nat) (ad : Nat → Nat) (cI cZ : ClassId) (z : Nat → Nat) (v : Nat → Int32) (f : Nat → Nat → Int32) (sz : Nat) (hok : okX z v f) : Met l yX1_restart wsX1_restart ({ frames := 0, cells := 0, slots := 0, locals := 0 }) (va_Pc [.ref (ad 21)] (fun U => U.heap.size = sz ∧ va_D (fun _ => True) (wX ad cI cZ z v f) ∧ kX dC dI ad cI cZ z v f U)) (va_Qv (fun _ : Unit => True) (fun _ U9 => va_P (dC, dI) vwCl (wX ad cI cZ ((F_X1_restart z v f ).1) ((F_X1_restart z v f ).2.1) ((F_X1_restart z v f ).2.2)) U9.heap) (va_A (wX ad cI cZ z v f) sz)) 0 0 (va_A (wX ad cI cZ z v f) sz) := by
  refine Met.ofW (cc := cX1_restart) (maxL := 1) (ret := none) (by decide) rfl ?_
  intro p e s m args below meth c s₁ B hml hv
  obtain ⟨rfl, hsz, hD0, hP, hK, hN⟩ := hv
  have hx := B.exec
  have hb := B.bytes
  have hr := B.returns
  have hts := atoms_spec (ws := wsX1_restart) B.pre
  have hown : s.vm.findClass RX1 = some m.cls := findClass_of_methodNamed B.named
  have hlocks := B.notSynchronized
  have hok9 := hok
  obtain ⟨hz0, hz1, hz2, hz3, hz4, hbz, hbs⟩ := hok9
  have hfl15 := hts (.fieldLink RX1 15 "TraderRights$Reader" "lettersRead" "I") (List.mem_of_getElem? (i := 1) rfl)
  have hfl18 := hts (.fieldLink RX1 18 "TraderRights$Reader" "number" "I") (List.mem_of_getElem? (i := 2) rfl)
  have hinX1 : ∀ w ∈ u_ws RX1 TX1 3, w ∈ wsX1_restart := fun w h => List.mem_cons_of_mem _ (List.mem_append_right _ h)
  subst hsz
  have hD := hD0.self (sz := s.heap.size)
  generalize hAe : va_A (wX ad cI cZ z v f) s.heap.size = A at hD ⊢
  have hA : ∀ q : Nat, s.heap.size ≤ q → A q := fun q h => by rw [← hAe]; exact Or.inr h
  have hS : va_S A s.heap s.heap [] := va_S.rf
  have hl := lv_entry ([.ref (ad 21)]) (n := 1) (Nat.le_of_ble_eq_true rfl)
  rw [lg_entry_eq]
  generalize (lg_sl ([.ref (ad 21)]) ++ List.replicate (1 - (lg_sl ([.ref (ad 21)])).length) Slot.unset).toArray = ls at hl ⊢
  have hl : lv_has ls 1 [(0, .ref (ad 21))] := hl
  generalize hF : F_X1_restart z v f  = R9
  generalize hQ9 : MQ below _ _ s 0 0 A = Q9
  rw [F_X1_restart] at hF
  refine lv_aload_n hx hb dX1_restart_0 rfl (lv_at hl 0 rfl) ?_
  refine lv_iconst (v := 0) hx hb dX1_restart_1 (by decide) ?_
  refine va_put (D := (dC, dI)) (ci := 1) (v := .int (nI 0)) (ty := .int) (C := RX1) (T := TX1) (N := 3) hx hb hts hinX1 tyX1 tyX1_ok nmX1 hown hK hP hD hS 21 rfl rfl 1 (by decide) hfl15 (fun _ h9 => h9) rfl (by decide +kernel) rfl rfl (Nat.le_of_ble_eq_true rfl) dX1_restart_2 (fun H locs hP hD hS => ?_)
  have hP : va_P (dC, dI) vwCl (wX ad cI cZ (uu z 4 0) v f) H := hP
  have hD : va_D A (wX ad cI cZ (uu z 4 0) v f) := hD
  refine lv_aload_n hx hb dX1_restart_5 rfl (lv_at hl 0 rfl) ?_
  refine lv_iconst (v := 0) hx hb dX1_restart_6 (by decide) ?_
  refine va_put (D := (dC, dI)) (ci := 1) (v := .int 0) (ty := .int) (C := RX1) (T := TX1) (N := 3) hx hb hts hinX1 tyX1 tyX1_ok nmX1 hown hK hP hD hS 21 rfl rfl 2 (by decide) hfl18 (fun _ h9 => h9) rfl (by decide +kernel) rfl rfl (Nat.le_of_ble_eq_true rfl) dX1_restart_7 (fun H locs hP hD hS => ?_)
  have hP : va_P (dC, dI) vwCl (wX ad cI cZ (uu z 4 0) (uu v 2 0) f) H := hP
  have hD : va_D A (wX ad cI cZ (uu z 4 0) (uu v 2 0) f) := hD
  subst hF
  subst hQ9
  exact W.vret hx hb hr (fun t9 ht hW => ⟨⟨(), rfl, trivial, by show va_P (dC, dI) vwCl _ t9.heap; rw [ht]; exact hP⟩, hS.F ht⟩) hS.2.2 dX1_restart_10
