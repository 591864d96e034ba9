def F_X4_mandate (z : Nat → Nat) (v : Nat → Int32) (f : Nat → Nat → Int32) (fr to di un : Int32) : Nat × Int32 × (Nat → Nat) × (Nat → Int32) × (Nat → Nat → Int32) :=
  if F_X4_areTwoTraders z v f fr to = 0 then
    (1, 0, z, v, f)
  else
    if F_X4_isDay un = 0 then
      (1, 0, z, v, f)
    else
      if z 2 < 60 then
        (0, nI (z 2 + 1), uu z 2 (z 2 + 1), v, uu (uu (uu (uu f 10 (upd (f 10) (z 2) fr)) 11 (upd (f 11) (z 2) to)) 12 (upd (f 12) (z 2) di)) 13 (upd (f 13) (z 2) un))
      else
        (2, 0, z, v, f)
set_option maxHeartbeats 4000000 in
set_option maxRecDepth 100000 in
theorem c_X4_mandate (l : Launch) (dC : Nat → ClassId) (dI : Nat → Nat → Nat) (ad : Nat → Nat) (cI cZ : ClassId) (z : Nat → Nat) (v : Nat → Int32) (f : Nat → Nat → Int32) (sz : Nat) (fr to di un : Int32) (hok : okX z v f) (hlt : l.stackTraces = false) (hdi : zB di) : vx_Met l yX4_mandate wsX4_mandate ({ frames := 6, cells := 1, slots := 6, locals := 82 }) (va_Pc [.ref (ad 0), .int fr, .int to, .int di, .int un] (fun U => U.heap.size = sz ∧ va_D (fun _ => True) (wX ad cI cZ z v f) ∧ kX dC dI ad cI cZ z v f U ∧ tW (va_A (wX ad cI cZ z v f) sz) U)) (va_Qi (fun (r : Int32) (_ : Unit) => (F_X4_mandate z v f fr to di un).1 = 0 ∧ r = (F_X4_mandate z v f fr to di un).2.1) (fun _ U9 => va_P (dC, dI) vwCl (wX ad cI cZ ((F_X4_mandate z v f fr to di un).2.2.1) ((F_X4_mandate z v f fr to di un).2.2.2.1) ((F_X4_mandate z v f fr to di un).2.2.2.2)) U9.heap) (va_A (wX ad cI cZ z v f) sz)) (vx_X (fun _ : Unit => True) (fun E _ U9 => E = exN (F_X4_mandate z v f fr to di un).1 ∧ ¬ (F_X4_mandate z v f fr to di un).1 = 0 ∧ va_P (dC, dI) vwCl (wX ad cI cZ z v f) U9.heap) (va_A (wX ad cI cZ z v f) sz)) 1 6 (va_A (wX ad cI cZ z v f) sz) := by
  refine vx_ofW (cc := cX4_mandate) (maxL := 5) (ret := (some .int)) (by decide) rfl ?_
  intro p e s m args below meth c s₁ B hml hexc hv
  obtain ⟨rfl, hsz, hD0, ⟨hP, hK, hN⟩, hT⟩ := hv
  have hx := B.exec
  have hb := B.bytes
  have hr := B.returns
  have hts := atoms_spec (ws := wsX4_mandate) B.pre
  have hown : s.vm.findClass RX4 = some m.cls := findClass_of_methodNamed B.named
  have hlocks := B.notSynchronized
  have hok9 := hok
  obtain ⟨hz0, hz1, hz2, hz3, hz4, hbz, hbs⟩ := hok9
  have hat70 : ∀ w ∈ vx_atS RX4 70 "java/lang/IllegalStateException" ["java/lang/RuntimeException", "java/lang/Exception"], w.before _ s = true := vx_hat (B := badL) (fun w hw => hts w ((fun w h => List.mem_cons_of_mem _ (List.mem_append_right _ h)) w hw)) at_bad70 (fun w hw => va_Nw.use (bad_tab (badL_all w hw)) (hT.2.2.2 w hw))
  have hat87 : ∀ w ∈ vx_atS RX4 87 "java/lang/IllegalArgumentException" ["java/lang/RuntimeException", "java/lang/Exception"], w.before _ s = true := vx_hat (B := badL) (fun w hw => hts w ((fun w h => List.mem_cons_of_mem _ (List.mem_append_left _ (List.mem_append_right _ h))) w hw)) at_bad87 (fun w hw => va_Nw.use (bad_tab (badL_all w hw)) (hT.2.2.2 w hw))
  have hck66 := hts (.classLink RX4 66 "java/lang/IllegalStateException") (List.mem_of_getElem? (i := 3) rfl)
  have hck83 := hts (.classLink RX4 83 "java/lang/IllegalArgumentException") (List.mem_of_getElem? (i := 1) rfl)
  have hei66 := hts (.initialized "java/lang/IllegalStateException") (List.mem_of_getElem? (i := 4) rfl)
  have hei83 := hts (.initialized "java/lang/IllegalArgumentException") (List.mem_of_getElem? (i := 2) rfl)
  have hfl136 := hN.use (args := ([.ref (ad 0), .int fr, .int to, .int di, .int un] : List Value).toArray) (w := .fieldLinkNest RX4 136 "TraderRights$Mandates" "size" "I" "TraderRights") (by decide +kernel)
  have hfl48 := hts (.fieldLink RX4 48 "TraderRights" "mandates" "LTraderRights$Mandates;") (List.mem_of_getElem? (i := 5) rfl)
  have himX0_append := hts (.instanceMethod yX0_append) (List.mem_of_getElem? (i := 20) rfl)
  have hinX0 : ∀ w ∈ u_ws RX0 TX0 5, w ∈ wsX4_mandate := fun w h => List.mem_cons_of_mem _ (List.mem_append_left _ (List.mem_append_left _ (List.mem_append_right _ h)))
  have hinX4 : ∀ w ∈ u_ws RX4 TX4 11, w ∈ wsX4_mandate := fun w h => List.mem_cons_of_mem _ (List.mem_append_left _ (List.mem_append_left _ (List.mem_append_left _ (List.mem_append_right _ h))))
  have hiniX0 := hts (.initialized RX0) (List.mem_of_getElem? (i := 21) rfl)
  have hnw139 := hN (.methodLinkNest RX4 139 yX0_append "TraderRights") (by decide +kernel)
  have hseX0_append := hts (.selects RX0 yX0_append yX0_append) (List.mem_of_getElem? (i := 22) rfl)
  subst hsz
  have hD := hD0.self (sz := s.heap.size)
  generalize hAe : va_A (wX ad cI cZ z v f) s.heap.size = A at hD hT ⊢
  have hA : ∀ q : Nat, s.heap.size ≤ q → A q := fun q h => by rw [← hAe]; exact Or.inr h
  have hS : va_S A s.heap s.heap [] := va_S.rf
  have hl := lv_entry ([.ref (ad 0), .int fr, .int to, .int di, .int un]) (n := 5) (Nat.le_of_ble_eq_true rfl)
  rw [lg_entry_eq]
  generalize (lg_sl ([.ref (ad 0), .int fr, .int to, .int di, .int un]) ++ List.replicate (5 - (lg_sl ([.ref (ad 0), .int fr, .int to, .int di, .int un])).length) Slot.unset).toArray = ls at hl ⊢
  have hl : lv_has ls 5 [(0, .ref (ad 0)), (1, .int fr), (2, .int to), (3, .int di), (4, .int un)] := hl
  generalize hF : F_X4_mandate z v f fr to di un = R9
  generalize hQ9 : vx_MQ below _ _ _ s 1 6 A = Q9
  rw [F_X4_mandate] at hF
  refine lv_aload_n hx hb dX4_mandate_0 rfl (lv_at hl 0 rfl) ?_
  refine lv_iload_n hx hb dX4_mandate_1 rfl (lv_at hl 1 rfl) ?_
  refine lv_iload_n hx hb dX4_mandate_2 rfl (lv_at hl 2 rfl) ?_
  refine vp_callSi (W.runV (As := [.int fr, .int to]) (rest := []) ⟨hx, hb, hml, hown, hts⟩ (c_X4_areTwoTraders l dC dI ad cI cZ z v f fr to hok) (cwV 2 hts gX4_mandate_X4_areTwoTraders rfl rfl rfl (by decide +kernel) ⟨Nat.le_of_ble_eq_true rfl, Nat.le_of_ble_eq_true rfl⟩) (preX (ci := 4) (q0 := 0) hP hK hN rfl rfl rfl) rfl rfl hl.1 rfl (lv_room (Nat.le_of_ble_eq_true rfl)) dX4_mandate_3 ⟨Nat.zero_le _, Nat.zero_le _⟩) (fun r1 h9 => ?_)
  have hr1 : r1 = F_X4_areTwoTraders z v f fr to := h9
  try rw [← hr1] at hF
  refine lv_if_ne (tgt := 19) hx hb dX4_mandate_6 (by decide) (fun c2 => ?_) (fun c2 => ?_)
  · rw [if_neg c2] at hF
    have c2f : ¬ F_X4_areTwoTraders z v f fr to = 0 := by rw [← hr1]; exact c2
    refine lv_iload hx hb dX4_mandate_19 (lv_at hl 4 rfl) ?_
    refine vp_callSi (W.runS (As := [.int un]) (rest := []) ⟨hx, hb, hml, hown, hts⟩ (c_X4_isDay l un) (cwS 1 hts gX4_mandate_X4_isDay rfl rfl rfl (by decide +kernel) ⟨Nat.le_of_ble_eq_true rfl, Nat.le_of_ble_eq_true rfl⟩) preT rfl rfl hl.1 rfl (lv_room (Nat.le_of_ble_eq_true rfl)) dX4_mandate_21 ⟨Nat.zero_le _, Nat.zero_le _⟩) (fun r3 h9 => ?_)
    have hr3 : r3 = F_X4_isDay un := h9
    try rw [← hr3] at hF
    refine lv_if_ne (tgt := 37) hx hb dX4_mandate_24 (by decide) (fun c4 => ?_) (fun c4 => ?_)
    · rw [if_neg c4] at hF
      have c4f : ¬ F_X4_isDay un = 0 := by rw [← hr3]; exact c4
      refine lv_aload_n hx hb dX4_mandate_37 rfl (lv_at hl 0 rfl) ?_
      refine va_get (D := (dC, dI)) (ci := 4) (v := .ref (ad 12)) (C := RX4) (T := TX4) (N := 11) hx hb hts hinX4 hown hK hP 0 rfl rfl 8 (by decide) hfl48 (fun _ h9 => h9) rfl dX4_mandate_38 ?_
      refine va_getN (D := (dC, dI)) (ci := 0) (v := .int (nI (z 2))) (C := RX0) (T := TX0) (N := 5) hx hb hts hinX0 hown hK hP 12 rfl rfl 0 (by decide) hfl136 (fun _ h9 => h9) rfl dX4_mandate_41 ?_
      refine lv_bipush (v := 60) hx hb dX4_mandate_44 (by decide) ?_
      refine lv_icmp_lt (tgt := 59) hx hb dX4_mandate_46 (by decide) (fun c5 => ?_) (fun c5 => ?_)
      · have c5 : z 2 < 60 := (nI_ltI (a := z 2) (b := 60) (by omega) (by omega)).mp c5
        rw [if_pos c5] at hF
        refine lv_aload_n hx hb dX4_mandate_59 rfl (lv_at hl 0 rfl) ?_
        refine va_get (D := (dC, dI)) (ci := 4) (v := .ref (ad 12)) (C := RX4) (T := TX4) (N := 11) hx hb hts hinX4 hown hK hP 0 rfl rfl 8 (by decide) hfl48 (fun _ h9 => h9) rfl dX4_mandate_60 ?_
        refine lv_iload_n hx hb dX4_mandate_63 rfl (lv_at hl 1 rfl) ?_
        refine lv_iload_n hx hb dX4_mandate_64 rfl (lv_at hl 2 rfl) ?_
        refine lv_iload_n hx hb dX4_mandate_65 rfl (lv_at hl 3 rfl) ?_
        refine lv_iload hx hb dX4_mandate_66 (lv_at hl 4 rfl) ?_
        have hFc := va_free (wc := (wX ad cI cZ z v f)) hD hS hA [0, 1, 2, 3, 4, 5, 6, 7, 8, 9, 10, 11, 12, 13, 14, 15, 16, 17, 18, 19, 20, 21] rfl
        refine va_callv (va_runVN (As := [.int fr, .int to, .int di, .int un]) (rest := []) ⟨hx, hb, hml, hown, hts⟩ (c_X0_append l dC dI ad cI cZ z v f s.heap.size fr to di un hok (by first | assumption | exact vp_in_nI (by omega) (by omega) | exact in_isTX hok (by assumption) | exact in_twoX hok (by assumption) | exact in_towX hok (by assumption) | omega) (by first | assumption | exact vp_in_nI (by omega) (by omega) | exact in_isTX hok (by assumption) | exact in_twoX hok (by assumption) | exact in_towX hok (by assumption) | omega)) ⟨(va_cnB 4 hts gX4_mandate_X0_append_n139 rfl rfl rfl hnw139 hiniX0 (by decide +kernel) ⟨Nat.le_of_ble_eq_true rfl, Nat.le_of_ble_eq_true rfl⟩), himX0_append, hseX0_append⟩ (preXw (ci := 0) (q0 := 12) hP hK hN hD rfl rfl rfl) rfl rfl hl.1 rfl (lv_room (Nat.le_of_ble_eq_true rfl)) dX4_mandate_68 ⟨Nat.zero_le _, Nat.zero_le _⟩) hS (fun q _ h => hFc q h) hFc (fun u9 t9 H locs ht hvm hw hB hz1 hk1 hS => ?_)
        have hP : va_P (dC, dI) vwCl _ t9.heap := hB
        rw [ht] at hP
        have hP : va_P (dC, dI) vwCl (wX ad cI cZ (uu z 2 (z 2 + 1)) v (uu (uu (uu (uu f 10 (upd (f 10) (z 2) fr)) 11 (upd (f 11) (z 2) to)) 12 (upd (f 12) (z 2) di)) 13 (upd (f 13) (z 2) un))) H := hP
        have hD : va_D A (wX ad cI cZ (uu z 2 (z 2 + 1)) v (uu (uu (uu (uu f 10 (upd (f 10) (z 2) fr)) 11 (upd (f 11) (z 2) to)) 12 (upd (f 12) (z 2) di)) 13 (upd (f 13) (z 2) un))) := va_D.fst (ws := (wX ad cI cZ z v f)) rfl hD
        refine lv_aload_n hx hb dX4_mandate_71 rfl (lv_at hl 0 rfl) ?_
        refine va_get (D := (dC, dI)) (ci := 4) (v := .ref (ad 12)) (C := RX4) (T := TX4) (N := 11) hx hb hts hinX4 hown hK hP 0 rfl rfl 8 (by decide) hfl48 (fun _ h9 => h9) rfl dX4_mandate_72 ?_
        refine va_getN (D := (dC, dI)) (ci := 0) (v := .int (nI (z 2 + 1))) (C := RX0) (T := TX0) (N := 5) hx hb hts hinX0 hown hK hP 12 rfl rfl 0 (by decide) hfl136 (fun _ h9 => h9) rfl dX4_mandate_75 ?_
        subst hF
        subst hQ9
        refine vx_ret ?_
        refine W.widen (k := 1) (n := 6) (by decide) (by decide) ?_
        exact W.iret (v := nI (z 2 + 1)) hx hb hr (fun t9 ht hW => ⟨⟨(nI (z 2 + 1)), (), rfl, ⟨rfl, rfl⟩, by show va_P (dC, dI) vwCl _ t9.heap; rw [ht]; exact hP⟩, hS.F ht⟩) hS.2.2 dX4_mandate_78
      · have c5 : ¬ z 2 < 60 := fun h9 => c5 ((nI_ltI (a := z 2) (b := 60) (by omega) (by omega)).mpr h9)
        rw [if_neg c5] at hF
        subst hF
        subst hQ9
        obtain ⟨sa9, hstr9⟩ := hT.2.2.1 (137, "there are 60 mandates") (by decide +kernel)
        exact vx_throwS (cls := "java/lang/IllegalStateException") (names := ["java/lang/RuntimeException", "java/lang/Exception"]) hx hb hlt hown (by decide +kernel) (by decide +kernel) hck66 hei66 hstr9 hat70 ot70 hT.1 hT.2.1 hS (by rw [hml]; exact hl.1) dX4_mandate_49 dX4_mandate_52 dX4_mandate_53 dX4_mandate_55 dX4_mandate_58 (fun x h => (hexc x h).elim) (by decide) (by decide) (by decide) (by decide) hlocks (fun t9 hal hsz hkp => ⟨(), trivial, ⟨rfl, by show ¬ (2 : Nat) = 0; decide, hP.kept (fun k q hq => hkp _ (hP k q hq).lt)⟩, ⟨Nat.le_trans hS.1 hsz, fun q h1 h2 => (hkp q (Nat.lt_of_lt_of_le h1 hS.1)).trans (hS.2.1 q h1 h2)⟩⟩) hS.2.2 (by decide) (by decide)
    · rw [if_pos c4] at hF
      have c4f : F_X4_isDay un = 0 := by rw [← hr3]; exact c4
      subst hF
      subst hQ9
      obtain ⟨sa9, hstr9⟩ := hT.2.2.1 (134, "no such day") (by decide +kernel)
      exact vx_throwS (cls := "java/lang/IllegalArgumentException") (names := ["java/lang/RuntimeException", "java/lang/Exception"]) hx hb hlt hown (by decide +kernel) (by decide +kernel) hck83 hei83 hstr9 hat87 ot87 hT.1 hT.2.1 hS (by rw [hml]; exact hl.1) dX4_mandate_27 dX4_mandate_30 dX4_mandate_31 dX4_mandate_33 dX4_mandate_36 (fun x h => (hexc x h).elim) (by decide) (by decide) (by decide) (by decide) hlocks (fun t9 hal hsz hkp => ⟨(), trivial, ⟨rfl, by show ¬ (1 : Nat) = 0; decide, hP.kept (fun k q hq => hkp _ (hP k q hq).lt)⟩, ⟨Nat.le_trans hS.1 hsz, fun q h1 h2 => (hkp q (Nat.lt_of_lt_of_le h1 hS.1)).trans (hS.2.1 q h1 h2)⟩⟩) hS.2.2 (by decide) (by decide)
  · rw [if_pos c2] at hF
    have c2f : F_X4_areTwoTraders z v f fr to = 0 := by rw [← hr1]; exact c2
    subst hF
    subst hQ9
    obtain ⟨sa9, hstr9⟩ := hT.2.2.1 (113, "no such two traders") (by decide +kernel)
    exact vx_throwS (cls := "java/lang/IllegalArgumentException") (names := ["java/lang/RuntimeException", "java/lang/Exception"]) hx hb hlt hown (by decide +kernel) (by decide +kernel) hck83 hei83 hstr9 hat87 ot87 hT.1 hT.2.1 hS (by rw [hml]; exact hl.1) dX4_mandate_9 dX4_mandate_12 dX4_mandate_13 dX4_mandate_15 dX4_mandate_18 (fun x h => (hexc x h).elim) (by decide) (by decide) (by decide) (by decide) hlocks (fun t9 hal hsz hkp => ⟨(), trivial, ⟨rfl, by show ¬ (1 : Nat) = 0; decide, hP.kept (fun k q hq => hkp _ (hP k q hq).lt)⟩, ⟨Nat.le_trans hS.1 hsz, fun q h1 h2 => (hkp q (Nat.lt_of_lt_of_le h1 hS.1)).trans (hS.2.1 q h1 h2)⟩⟩) hS.2.2 (by decide) (by decide)
def F_X4_suspend (z : Nat → Nat) (v : Nat → Int32) (f : Nat → Nat → Int32) (t day on : Int32) : Nat × Int32 × (Nat → Nat) × (Nat → Int32) × (Nat → Nat → Int32) :=
  if F_X4_isTrader z v f t = 0 then
    (1, 0, z, v, f)
  else
    if F_X4_isDay day = 0 then
      (1, 0, z, v, f)
    else
      if z 3 < 60 then
        (0, nI (z 3 + 1), uu z 3 (z 3 + 1), v, uu (uu (uu f 14 (upd (f 14) (z 3) t)) 15 (upd (f 15) (z 3) day)) 16 (upd (f 16) (z 3) on))
      else
        (2, 0, z, v, f)
set_option maxHeartbeats 4000000 in
set_option maxRecDepth 100000 in
theorem c_X4_suspend (l : Launch) (dC : Nat → ClassId) (dI : Nat → Nat → Nat) (ad : Nat → Nat) (cI cZ : ClassId) (z : Nat → Nat) (v : Nat → Int32) (f : Nat → Nat → Int32) (sz : Nat) (t day on : Int32) (hok : okX z v f) (hlt : l.stackTraces = false) (hon : zB on) : vx_Met l yX4_suspend wsX4_suspend ({ frames := 6, cells := 1, slots := 6, locals := 82 }) (va_Pc [.ref (ad 0), .int t, .int day, .int on] (fun U => U.heap.size = sz ∧ va_D (fun _ => True) (wX ad cI cZ z v f) ∧ kX dC dI ad cI cZ z v f U ∧ tW (va_A (wX ad cI cZ z v f) sz) U)) (va_Qi (fun (r : Int32) (_ : Unit) => (F_X4_suspend z v f t day on).1 = 0 ∧ r = (F_X4_suspend z v f t day on).2.1) (fun _ U9 => va_P (dC, dI) vwCl (wX ad cI cZ ((F_X4_suspend z v f t day on).2.2.1) ((F_X4_suspend z v f t day on).2.2.2.1) ((F_X4_suspend z v f t day on).2.2.2.2)) U9.heap) (va_A (wX ad cI cZ z v f) sz)) (vx_X (fun _ : Unit => True) (fun E _ U9 => E = exN (F_X4_suspend z v f t day on).1 ∧ ¬ (F_X4_suspend z v f t day on).1 = 0 ∧ va_P (dC, dI) vwCl (wX ad cI cZ z v f) U9.heap) (va_A (wX ad cI cZ z v f) sz)) 1 6 (va_A (wX ad cI cZ z v f) sz) := by
  refine vx_ofW (cc := cX4_suspend) (maxL := 4) (ret := (some .int)) (by decide) rfl ?_
  intro p e s m args below meth c s₁ B hml hexc hv
  obtain ⟨rfl, hsz, hD0, ⟨hP, hK, hN⟩, hT⟩ := hv
  have hx := B.exec
  have hb := B.bytes
  have hr := B.returns
  have hts := atoms_spec (ws := wsX4_suspend) B.pre
  have hown : s.vm.findClass RX4 = some m.cls := findClass_of_methodNamed B.named
  have hlocks := B.notSynchronized
  have hok9 := hok
  obtain ⟨hz0, hz1, hz2, hz3, hz4, hbz, hbs⟩ := hok9
  have hat70 : ∀ w ∈ vx_atS RX4 70 "java/lang/IllegalStateException" ["java/lang/RuntimeException", "java/lang/Exception"], w.before _ s = true := vx_hat (B := badL) (fun w hw => hts w ((fun w h => List.mem_cons_of_mem _ (List.mem_append_right _ h)) w hw)) at_bad70 (fun w hw => va_Nw.use (bad_tab (badL_all w hw)) (hT.2.2.2 w hw))
  have hat87 : ∀ w ∈ vx_atS RX4 87 "java/lang/IllegalArgumentException" ["java/lang/RuntimeException", "java/lang/Exception"], w.before _ s = true := vx_hat (B := badL) (fun w hw => hts w ((fun w h => List.mem_cons_of_mem _ (List.mem_append_left _ (List.mem_append_right _ h))) w hw)) at_bad87 (fun w hw => va_Nw.use (bad_tab (badL_all w hw)) (hT.2.2.2 w hw))
  have hck66 := hts (.classLink RX4 66 "java/lang/IllegalStateException") (List.mem_of_getElem? (i := 3) rfl)
  have hck83 := hts (.classLink RX4 83 "java/lang/IllegalArgumentException") (List.mem_of_getElem? (i := 1) rfl)
  have hei66 := hts (.initialized "java/lang/IllegalStateException") (List.mem_of_getElem? (i := 4) rfl)
  have hei83 := hts (.initialized "java/lang/IllegalArgumentException") (List.mem_of_getElem? (i := 2) rfl)
  have hfl144 := hN.use (args := ([.ref (ad 0), .int t, .int day, .int on] : List Value).toArray) (w := .fieldLinkNest RX4 144 "TraderRights$Suspensions" "size" "I" "TraderRights") (by decide +kernel)
  have hfl55 := hts (.fieldLink RX4 55 "TraderRights" "suspensions" "LTraderRights$Suspensions;") (List.mem_of_getElem? (i := 5) rfl)
  have himX3_append := hts (.instanceMethod yX3_append) (List.mem_of_getElem? (i := 16) rfl)
  have hinX3 : ∀ w ∈ u_ws RX3 TX3 4, w ∈ wsX4_suspend := fun w h => List.mem_cons_of_mem _ (List.mem_append_left _ (List.mem_append_left _ (List.mem_append_right _ h)))
  have hinX4 : ∀ w ∈ u_ws RX4 TX4 11, w ∈ wsX4_suspend := fun w h => List.mem_cons_of_mem _ (List.mem_append_left _ (List.mem_append_left _ (List.mem_append_left _ (List.mem_append_right _ h))))
  have hiniX3 := hts (.initialized RX3) (List.mem_of_getElem? (i := 17) rfl)
  have hnw147 := hN (.methodLinkNest RX4 147 yX3_append "TraderRights") (by decide +kernel)
  have hseX3_append := hts (.selects RX3 yX3_append yX3_append) (List.mem_of_getElem? (i := 18) rfl)
  subst hsz
  have hD := hD0.self (sz := s.heap.size)
  generalize hAe : va_A (wX ad cI cZ z v f) s.heap.size = A at hD hT ⊢
  have hA : ∀ q : Nat, s.heap.size ≤ q → A q := fun q h => by rw [← hAe]; exact Or.inr h
  have hS : va_S A s.heap s.heap [] := va_S.rf
  have hl := lv_entry ([.ref (ad 0), .int t, .int day, .int on]) (n := 4) (Nat.le_of_ble_eq_true rfl)
  rw [lg_entry_eq]
  generalize (lg_sl ([.ref (ad 0), .int t, .int day, .int on]) ++ List.replicate (4 - (lg_sl ([.ref (ad 0), .int t, .int day, .int on])).length) Slot.unset).toArray = ls at hl ⊢
  have hl : lv_has ls 4 [(0, .ref (ad 0)), (1, .int t), (2, .int day), (3, .int on)] := hl
  generalize hF : F_X4_suspend z v f t day on = R9
  generalize hQ9 : vx_MQ below _ _ _ s 1 6 A = Q9
  rw [F_X4_suspend] at hF
  refine lv_aload_n hx hb dX4_suspend_0 rfl (lv_at hl 0 rfl) ?_
  refine lv_iload_n hx hb dX4_suspend_1 rfl (lv_at hl 1 rfl) ?_
  refine vp_callSi (W.runV (As := [.int t]) (rest := []) ⟨hx, hb, hml, hown, hts⟩ (c_X4_isTrader l dC dI ad cI cZ z v f t hok) (cwV 1 hts gX4_suspend_X4_isTrader rfl rfl rfl (by decide +kernel) ⟨Nat.le_of_ble_eq_true rfl, Nat.le_of_ble_eq_true rfl⟩) (preX (ci := 4) (q0 := 0) hP hK hN rfl rfl rfl) rfl rfl hl.1 rfl (lv_room (Nat.le_of_ble_eq_true rfl)) dX4_suspend_2 ⟨Nat.zero_le _, Nat.zero_le _⟩) (fun r1 h9 => ?_)
  have hr1 : r1 = F_X4_isTrader z v f t := h9
  try rw [← hr1] at hF
  refine lv_if_eq (tgt := 15) hx hb dX4_suspend_5 (by decide) (fun c2 => ?_) (fun c2 => ?_)
  · rw [if_pos c2] at hF
    have c2f : F_X4_isTrader z v f t = 0 := by rw [← hr1]; exact c2
    subst hF
    subst hQ9
    obtain ⟨sa9, hstr9⟩ := hT.2.2.1 (142, "no such trader or day") (by decide +kernel)
    exact vx_throwS (cls := "java/lang/IllegalArgumentException") (names := ["java/lang/RuntimeException", "java/lang/Exception"]) hx hb hlt hown (by decide +kernel) (by decide +kernel) hck83 hei83 hstr9 hat87 ot87 hT.1 hT.2.1 hS (by rw [hml]; exact hl.1) dX4_suspend_15 dX4_suspend_18 dX4_suspend_19 dX4_suspend_21 dX4_suspend_24 (fun x h => (hexc x h).elim) (by decide) (by decide) (by decide) (by decide) hlocks (fun t9 hal hsz hkp => ⟨(), trivial, ⟨rfl, by show ¬ (1 : Nat) = 0; decide, hP.kept (fun k q hq => hkp _ (hP k q hq).lt)⟩, ⟨Nat.le_trans hS.1 hsz, fun q h1 h2 => (hkp q (Nat.lt_of_lt_of_le h1 hS.1)).trans (hS.2.1 q h1 h2)⟩⟩) hS.2.2 (by decide) (by decide)
  · rw [if_neg c2] at hF
    have c2f : ¬ F_X4_isTrader z v f t = 0 := by rw [← hr1]; exact c2
    refine lv_iload_n hx hb dX4_suspend_8 rfl (lv_at hl 2 rfl) ?_
    refine vp_callSi (W.runS (As := [.int day]) (rest := []) ⟨hx, hb, hml, hown, hts⟩ (c_X4_isDay l day) (cwS 1 hts gX4_suspend_X4_isDay rfl rfl rfl (by decide +kernel) ⟨Nat.le_of_ble_eq_true rfl, Nat.le_of_ble_eq_true rfl⟩) preT rfl rfl hl.1 rfl (lv_room (Nat.le_of_ble_eq_true rfl)) dX4_suspend_9 ⟨Nat.zero_le _, Nat.zero_le _⟩) (fun r3 h9 => ?_)
    have hr3 : r3 = F_X4_isDay day := h9
    try rw [← hr3] at hF
    refine lv_if_ne (tgt := 25) hx hb dX4_suspend_12 (by decide) (fun c4 => ?_) (fun c4 => ?_)
    · rw [if_neg c4] at hF
      have c4f : ¬ F_X4_isDay day = 0 := by rw [← hr3]; exact c4
      refine lv_aload_n hx hb dX4_suspend_25 rfl (lv_at hl 0 rfl) ?_
      refine va_get (D := (dC, dI)) (ci := 4) (v := .ref (ad 17)) (C := RX4) (T := TX4) (N := 11) hx hb hts hinX4 hown hK hP 0 rfl rfl 9 (by decide) hfl55 (fun _ h9 => h9) rfl dX4_suspend_26 ?_
      refine va_getN (D := (dC, dI)) (ci := 3) (v := .int (nI (z 3))) (C := RX3) (T := TX3) (N := 4) hx hb hts hinX3 hown hK hP 17 rfl rfl 0 (by decide) hfl144 (fun _ h9 => h9) rfl dX4_suspend_29 ?_
      refine lv_bipush (v := 60) hx hb dX4_suspend_32 (by decide) ?_
      refine lv_icmp_lt (tgt := 47) hx hb dX4_suspend_34 (by decide) (fun c5 => ?_) (fun c5 => ?_)
      · have c5 : z 3 < 60 := (nI_ltI (a := z 3) (b := 60) (by omega) (by omega)).mp c5
        rw [if_pos c5] at hF
        refine lv_aload_n hx hb dX4_suspend_47 rfl (lv_at hl 0 rfl) ?_
        refine va_get (D := (dC, dI)) (ci := 4) (v := .ref (ad 17)) (C := RX4) (T := TX4) (N := 11) hx hb hts hinX4 hown hK hP 0 rfl rfl 9 (by decide) hfl55 (fun _ h9 => h9) rfl dX4_suspend_48 ?_
        refine lv_iload_n hx hb dX4_suspend_51 rfl (lv_at hl 1 rfl) ?_
        refine lv_iload_n hx hb dX4_suspend_52 rfl (lv_at hl 2 rfl) ?_
        refine lv_iload_n hx hb dX4_suspend_53 rfl (lv_at hl 3 rfl) ?_
        have hFc := va_free (wc := (wX ad cI cZ z v f)) hD hS hA [0, 1, 2, 3, 4, 5, 6, 7, 8, 9, 10, 11, 12, 13, 14, 15, 16, 17, 18, 19, 20, 21] rfl
        refine va_callv (va_runVN (As := [.int t, .int day, .int on]) (rest := []) ⟨hx, hb, hml, hown, hts⟩ (c_X3_append l dC dI ad cI cZ z v f s.heap.size t day on hok (by first | assumption | exact vp_in_nI (by omega) (by omega) | exact in_isTX hok (by assumption) | exact in_twoX hok (by assumption) | exact in_towX hok (by assumption) | omega) (by first | assumption | exact vp_in_nI (by omega) (by omega) | exact in_isTX hok (by assumption) | exact in_twoX hok (by assumption) | exact in_towX hok (by assumption) | omega)) ⟨(va_cnB 3 hts gX4_suspend_X3_append_n147 rfl rfl rfl hnw147 hiniX3 (by decide +kernel) ⟨Nat.le_of_ble_eq_true rfl, Nat.le_of_ble_eq_true rfl⟩), himX3_append, hseX3_append⟩ (preXw (ci := 3) (q0 := 17) hP hK hN hD rfl rfl rfl) rfl rfl hl.1 rfl (lv_room (Nat.le_of_ble_eq_true rfl)) dX4_suspend_54 ⟨Nat.zero_le _, Nat.zero_le _⟩) hS (fun q _ h => hFc q h) hFc (fun u9 t9 H locs ht hvm hw hB hz1 hk1 hS => ?_)
        have hP : va_P (dC, dI) vwCl _ t9.heap := hB
        rw [ht] at hP
        have hP : va_P (dC, dI) vwCl (wX ad cI cZ (uu z 3 (z 3 + 1)) v (uu (uu (uu f 14 (upd (f 14) (z 3) t)) 15 (upd (f 15) (z 3) day)) 16 (upd (f 16) (z 3) on))) H := hP
        have hD : va_D A (wX ad cI cZ (uu z 3 (z 3 + 1)) v (uu (uu (uu f 14 (upd (f 14) (z 3) t)) 15 (upd (f 15) (z 3) day)) 16 (upd (f 16) (z 3) on))) := va_D.fst (ws := (wX ad cI cZ z v f)) rfl hD
        refine lv_aload_n hx hb dX4_suspend_57 rfl (lv_at hl 0 rfl) ?_
        refine va_get (D := (dC, dI)) (ci := 4) (v := .ref (ad 17)) (C := RX4) (T := TX4) (N := 11) hx hb hts hinX4 hown hK hP 0 rfl rfl 9 (by decide) hfl55 (fun _ h9 => h9) rfl dX4_suspend_58 ?_
        refine va_getN (D := (dC, dI)) (ci := 3) (v := .int (nI (z 3 + 1))) (C := RX3) (T := TX3) (N := 4) hx hb hts hinX3 hown hK hP 17 rfl rfl 0 (by decide) hfl144 (fun _ h9 => h9) rfl dX4_suspend_61 ?_
        subst hF
        subst hQ9
        refine vx_ret ?_
        refine W.widen (k := 1) (n := 6) (by decide) (by decide) ?_
        exact W.iret (v := nI (z 3 + 1)) hx hb hr (fun t9 ht hW => ⟨⟨(nI (z 3 + 1)), (), rfl, ⟨rfl, rfl⟩, by show va_P (dC, dI) vwCl _ t9.heap; rw [ht]; exact hP⟩, hS.F ht⟩) hS.2.2 dX4_suspend_64
      · have c5 : ¬ z 3 < 60 := fun h9 => c5 ((nI_ltI (a := z 3) (b := 60) (by omega) (by omega)).mpr h9)
        rw [if_neg c5] at hF
        subst hF
        subst hQ9
        obtain ⟨sa9, hstr9⟩ := hT.2.2.1 (145, "there are 60 suspensions") (by decide +kernel)
        exact vx_throwS (cls := "java/lang/IllegalStateException") (names := ["java/lang/RuntimeException", "java/lang/Exception"]) hx hb hlt hown (by decide +kernel) (by decide +kernel) hck66 hei66 hstr9 hat70 ot70 hT.1 hT.2.1 hS (by rw [hml]; exact hl.1) dX4_suspend_37 dX4_suspend_40 dX4_suspend_41 dX4_suspend_43 dX4_suspend_46 (fun x h => (hexc x h).elim) (by decide) (by decide) (by decide) (by decide) hlocks (fun t9 hal hsz hkp => ⟨(), trivial, ⟨rfl, by show ¬ (2 : Nat) = 0; decide, hP.kept (fun k q hq => hkp _ (hP k q hq).lt)⟩, ⟨Nat.le_trans hS.1 hsz, fun q h1 h2 => (hkp q (Nat.lt_of_lt_of_le h1 hS.1)).trans (hS.2.1 q h1 h2)⟩⟩) hS.2.2 (by decide) (by decide)
    · rw [if_pos c4] at hF
      have c4f : F_X4_isDay day = 0 := by rw [← hr3]; exact c4
      subst hF
      subst hQ9
      obtain ⟨sa9, hstr9⟩ := hT.2.2.1 (142, "no such trader or day") (by decide +kernel)
      exact vx_throwS (cls := "java/lang/IllegalArgumentException") (names := ["java/lang/RuntimeException", "java/lang/Exception"]) hx hb hlt hown (by decide +kernel) (by decide +kernel) hck83 hei83 hstr9 hat87 ot87 hT.1 hT.2.1 hS (by rw [hml]; exact hl.1) dX4_suspend_15 dX4_suspend_18 dX4_suspend_19 dX4_suspend_21 dX4_suspend_24 (fun x h => (hexc x h).elim) (by decide) (by decide) (by decide) (by decide) hlocks (fun t9 hal hsz hkp => ⟨(), trivial, ⟨rfl, by show ¬ (1 : Nat) = 0; decide, hP.kept (fun k q hq => hkp _ (hP k q hq).lt)⟩, ⟨Nat.le_trans hS.1 hsz, fun q h1 h2 => (hkp q (Nat.lt_of_lt_of_le h1 hS.1)).trans (hS.2.1 q h1 h2)⟩⟩) hS.2.2 (by decide) (by decide)
