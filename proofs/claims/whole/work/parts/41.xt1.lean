def F_X4_trader (z : Nat → Nat) (v : Nat → Int32) (f : Nat → Nat → Int32)  : Nat × Int32 × (Nat → Nat) × (Nat → Int32) × (Nat → Nat → Int32) :=
  if z 0 < 12 then
    (0, nI (z 0), uu z 0 (z 0 + 1), v, f)
  else
    (2, 0, z, v, f)
set_option maxHeartbeats 4000000 in
set_option maxRecDepth 100000 in
theorem c_X4_trader (l : Launch) (dC : Nat → ClassId) (dI : Nat → Nat → Nat) (ad : Nat → Nat) (cI cZ : ClassId) (z : Nat → Nat) (v : Nat → Int32) (f : Nat → Nat → Int32) (sz : Nat) (hok : okX z v f) (hlt : l.stackTraces = false) : vx_Met l yX4_trader wsX4_trader ({ frames := 6, cells := 1, slots := 6, locals := 82 }) (va_Pc [.ref (ad 0)] (fun U => U.heap.size = sz ∧ va_D (fun _ => True) (wX ad cI cZ z v f) ∧ kX dC dI ad cI cZ z v f U ∧ tW (va_A (wX ad cI cZ z v f) sz) U)) (va_Qi (fun (r : Int32) (_ : Unit) => (F_X4_trader z v f ).1 = 0 ∧ r = (F_X4_trader z v f ).2.1) (fun _ U9 => va_P (dC, dI) vwCl (wX ad cI cZ ((F_X4_trader z v f ).2.2.1) ((F_X4_trader z v f ).2.2.2.1) ((F_X4_trader z v f ).2.2.2.2)) U9.heap) (va_A (wX ad cI cZ z v f) sz)) (vx_X (fun _ : Unit => True) (fun E _ U9 => E = exN (F_X4_trader z v f ).1 ∧ ¬ (F_X4_trader z v f ).1 = 0 ∧ va_P (dC, dI) vwCl (wX ad cI cZ z v f) U9.heap) (va_A (wX ad cI cZ z v f) sz)) 1 6 (va_A (wX ad cI cZ z v f) sz) := by
  refine vx_ofW (cc := cX4_trader) (maxL := 2) (ret := (some .int)) (by decide) rfl ?_
  intro p e s m args below meth c s₁ B hml hexc hv
  obtain ⟨rfl, hsz, hD0, ⟨hP, hK, hN⟩, hT⟩ := hv
  have hx := B.exec
  have hb := B.bytes
  have hr := B.returns
  have hts := atoms_spec (ws := wsX4_trader) B.pre
  have hown : s.vm.findClass RX4 = some m.cls := findClass_of_methodNamed B.named
  have hlocks := B.notSynchronized
  have hok9 := hok
  obtain ⟨hz0, hz1, hz2, hz3, hz4, hbz, hbs⟩ := hok9
  have hat70 : ∀ w ∈ vx_atS RX4 70 "java/lang/IllegalStateException" ["java/lang/RuntimeException", "java/lang/Exception"], w.before _ s = true := vx_hat (B := badL) (fun w hw => hts w ((fun w h => List.mem_cons_of_mem _ (List.mem_append_right _ h)) w hw)) at_bad70 (fun w hw => va_Nw.use (bad_tab (badL_all w hw)) (hT.2.2.2 w hw))
  have hck66 := hts (.classLink RX4 66 "java/lang/IllegalStateException") (List.mem_of_getElem? (i := 1) rfl)
  have hei66 := hts (.initialized "java/lang/IllegalStateException") (List.mem_of_getElem? (i := 2) rfl)
  have hfl7 := hts (.fieldLink RX4 7 "TraderRights" "traders" "I") (List.mem_of_getElem? (i := 3) rfl)
  have hinX4 : ∀ w ∈ u_ws RX4 TX4 11, w ∈ wsX4_trader := fun w h => List.mem_cons_of_mem _ (List.mem_append_left _ (List.mem_append_right _ h))
  subst hsz
  have hD := hD0.self (sz := s.heap.size)
  generalize hAe : va_A (wX ad cI cZ z v f) s.heap.size = A at hD hT ⊢
  have hA : ∀ q : Nat, s.heap.size ≤ q → A q := fun q h => by rw [← hAe]; exact Or.inr h
  have hS : va_S A s.heap s.heap [] := va_S.rf
  have hl := lv_entry ([.ref (ad 0)]) (n := 2) (Nat.le_of_ble_eq_true rfl)
  rw [lg_entry_eq]
  generalize (lg_sl ([.ref (ad 0)]) ++ List.replicate (2 - (lg_sl ([.ref (ad 0)])).length) Slot.unset).toArray = ls at hl ⊢
  have hl : lv_has ls 2 [(0, .ref (ad 0))] := hl
  generalize hF : F_X4_trader z v f  = R9
  generalize hQ9 : vx_MQ below _ _ _ s 1 6 A = Q9
  rw [F_X4_trader] at hF
  refine lv_aload_n hx hb dX4_trader_0 rfl (lv_at hl 0 rfl) ?_
  refine va_get (D := (dC, dI)) (ci := 4) (v := .int (nI (z 0))) (C := RX4) (T := TX4) (N := 11) hx hb hts hinX4 hown hK hP 0 rfl rfl 0 (by decide) hfl7 (fun _ h9 => h9) rfl dX4_trader_1 ?_
  refine lv_bipush (v := 12) hx hb dX4_trader_4 (by decide) ?_
  refine lv_icmp_lt (tgt := 19) hx hb dX4_trader_6 (by decide) (fun c1 => ?_) (fun c1 => ?_)
  · have c1 : z 0 < 12 := (nI_ltI (a := z 0) (b := 12) (by omega) (by omega)).mp c1
    rw [if_pos c1] at hF
    refine lv_aload_n hx hb dX4_trader_19 rfl (lv_at hl 0 rfl) ?_
    refine va_get (D := (dC, dI)) (ci := 4) (v := .int (nI (z 0))) (C := RX4) (T := TX4) (N := 11) hx hb hts hinX4 hown hK hP 0 rfl rfl 0 (by decide) hfl7 (fun _ h9 => h9) rfl dX4_trader_20 ?_
    refine lv_istore_n (lv' := [(1, .int (nI (z 0))), (0, .ref (ad 0))]) hx hb dX4_trader_23 rfl hl (by decide) rfl (fun ls hl => ?_)
    refine lv_aload_n hx hb dX4_trader_24 rfl (lv_at hl 1 rfl) ?_
    refine lv_aload_n hx hb dX4_trader_25 rfl (lv_at hl 1 rfl) ?_
    refine va_get (D := (dC, dI)) (ci := 4) (v := .int (nI (z 0))) (C := RX4) (T := TX4) (N := 11) hx hb hts hinX4 hown hK hP 0 rfl rfl 0 (by decide) hfl7 (fun _ h9 => h9) rfl dX4_trader_26 ?_
    refine lv_iconst (v := 1) hx hb dX4_trader_29 (by decide) ?_
    refine lv_iadd hx hb dX4_trader_30 ?_
    refine xe_top (nI_1 _) ?_
    refine va_put (D := (dC, dI)) (ci := 4) (v := .int (nI (z 0 + 1))) (ty := .int) (C := RX4) (T := TX4) (N := 11) hx hb hts hinX4 tyX4 tyX4_ok nmX4 hown hK hP hD hS 0 rfl rfl 0 (by decide) hfl7 (fun _ h9 => h9) rfl (by decide +kernel) rfl rfl (Nat.le_of_ble_eq_true rfl) dX4_trader_31 (fun H locs hP hD hS => ?_)
    have hP : va_P (dC, dI) vwCl (wX ad cI cZ (uu z 0 (z 0 + 1)) v f) H := hP
    have hD : va_D A (wX ad cI cZ (uu z 0 (z 0 + 1)) v f) := hD
    refine lv_iload_n hx hb dX4_trader_34 rfl (lv_at hl 0 rfl) ?_
    subst hF
    subst hQ9
    refine vx_ret ?_
    refine W.widen (k := 1) (n := 6) (by decide) (by decide) ?_
    exact W.iret (v := nI (z 0)) hx hb hr (fun t9 ht hW => ⟨⟨(nI (z 0)), (), rfl, ⟨rfl, rfl⟩, by show va_P (dC, dI) vwCl _ t9.heap; rw [ht]; exact hP⟩, hS.F ht⟩) hS.2.2 dX4_trader_35
  · have c1 : ¬ z 0 < 12 := fun h9 => c1 ((nI_ltI (a := z 0) (b := 12) (by omega) (by omega)).mpr h9)
    rw [if_neg c1] at hF
    subst hF
    subst hQ9
    obtain ⟨sa9, hstr9⟩ := hT.2.2.1 (68, "there are 12 traders") (by decide +kernel)
    exact vx_throwS (cls := "java/lang/IllegalStateException") (names := ["java/lang/RuntimeException", "java/lang/Exception"]) hx hb hlt hown (by decide +kernel) (by decide +kernel) hck66 hei66 hstr9 hat70 ot70 hT.1 hT.2.1 hS (by rw [hml]; exact hl.1) dX4_trader_9 dX4_trader_12 dX4_trader_13 dX4_trader_15 dX4_trader_18 (fun x h => (hexc x h).elim) (by decide) (by decide) (by decide) (by decide) hlocks (fun t9 hal hsz hkp => ⟨(), trivial, ⟨rfl, by show ¬ (2 : Nat) = 0; decide, hP.kept (fun k q hq => hkp _ (hP k q hq).lt)⟩, ⟨Nat.le_trans hS.1 hsz, fun q h1 h2 => (hkp q (Nat.lt_of_lt_of_le h1 hS.1)).trans (hS.2.1 q h1 h2)⟩⟩) hS.2.2 (by decide) (by decide)
def F_X4_right (z : Nat → Nat) (v : Nat → Int32) (f : Nat → Nat → Int32) (t a pl fr to : Int32) : Nat × Int32 × (Nat → Nat) × (Nat → Int32) × (Nat → Nat → Int32) :=
  if F_X4_isTrader z v f t = 0 then
    (1, 0, z, v, f)
  else
    if F_X4_isAct a = 0 then
      (1, 0, z, v, f)
    else
      if pl = (-1) then
        if F_X4_isDay fr = 0 then
          (1, 0, z, v, f)
        else
          if F_X4_isDay to = 0 then
            (1, 0, z, v, f)
          else
            if fr ≤ to then
              if z 1 < 60 then
                (0, nI (z 1 + 1), uu z 1 (z 1 + 1), v, uu (uu (uu (uu (uu f 5 (upd (f 5) (z 1) t)) 6 (upd (f 6) (z 1) a)) 7 (upd (f 7) (z 1) pl)) 8 (upd (f 8) (z 1) fr)) 9 (upd (f 9) (z 1) to))
              else
                (2, 0, z, v, f)
            else
              (1, 0, z, v, f)
      else
        if F_X4_isPlace pl = 0 then
          (1, 0, z, v, f)
        else
          if F_X4_isDay fr = 0 then
            (1, 0, z, v, f)
          else
            if F_X4_isDay to = 0 then
              (1, 0, z, v, f)
            else
              if fr ≤ to then
                if z 1 < 60 then
                  (0, nI (z 1 + 1), uu z 1 (z 1 + 1), v, uu (uu (uu (uu (uu f 5 (upd (f 5) (z 1) t)) 6 (upd (f 6) (z 1) a)) 7 (upd (f 7) (z 1) pl)) 8 (upd (f 8) (z 1) fr)) 9 (upd (f 9) (z 1) to))
                else
                  (2, 0, z, v, f)
              else
                (1, 0, z, v, f)
set_option maxHeartbeats 4000000 in
set_option maxRecDepth 100000 in
theorem c_X4_right (l : Launch) (dC : Nat → ClassId) (dI : Nat → Nat → Nat) (ad : Nat → Nat) (cI cZ : ClassId) (z : Nat → Nat) (v : Nat → Int32) (f : Nat → Nat → Int32) (sz : Nat) (t a pl fr to : Int32) (hok : okX z v f) (hlt : l.stackTraces = false) : vx_Met l yX4_right wsX4_right ({ frames := 6, cells := 1, slots := 6, locals := 82 }) (va_Pc [.ref (ad 0), .int t, .int a, .int pl, .int fr, .int to] (fun U => U.heap.size = sz ∧ va_D (fun _ => True) (wX ad cI cZ z v f) ∧ kX dC dI ad cI cZ z v f U ∧ tW (va_A (wX ad cI cZ z v f) sz) U)) (va_Qi (fun (r : Int32) (_ : Unit) => (F_X4_right z v f t a pl fr to).1 = 0 ∧ r = (F_X4_right z v f t a pl fr to).2.1) (fun _ U9 => va_P (dC, dI) vwCl (wX ad cI cZ ((F_X4_right z v f t a pl fr to).2.2.1) ((F_X4_right z v f t a pl fr to).2.2.2.1) ((F_X4_right z v f t a pl fr to).2.2.2.2)) U9.heap) (va_A (wX ad cI cZ z v f) sz)) (vx_X (fun _ : Unit => True) (fun E _ U9 => E = exN (F_X4_right z v f t a pl fr to).1 ∧ ¬ (F_X4_right z v f t a pl fr to).1 = 0 ∧ va_P (dC, dI) vwCl (wX ad cI cZ z v f) U9.heap) (va_A (wX ad cI cZ z v f) sz)) 1 6 (va_A (wX ad cI cZ z v f) sz) := by
  refine vx_ofW (cc := cX4_right) (maxL := 6) (ret := (some .int)) (by decide) rfl ?_
  intro p e s m args below meth c s₁ B hml hexc hv
  obtain ⟨rfl, hsz, hD0, ⟨hP, hK, hN⟩, hT⟩ := hv
  have hx := B.exec
  have hb := B.bytes
  have hr := B.returns
  have hts := atoms_spec (ws := wsX4_right) B.pre
  have hown : s.vm.findClass RX4 = some m.cls := findClass_of_methodNamed B.named
  have hlocks := B.notSynchronized
  have hok9 := hok
  obtain ⟨hz0, hz1, hz2, hz3, hz4, hbz, hbs⟩ := hok9
  have hat70 : ∀ w ∈ vx_atS RX4 70 "java/lang/IllegalStateException" ["java/lang/RuntimeException", "java/lang/Exception"], w.before _ s = true := vx_hat (B := badL) (fun w hw => hts w ((fun w h => List.mem_cons_of_mem _ (List.mem_append_right _ h)) w hw)) at_bad70 (fun w hw => va_Nw.use (bad_tab (badL_all w hw)) (hT.2.2.2 w hw))
  have hat87 : ∀ w ∈ vx_atS RX4 87 "java/lang/IllegalArgumentException" ["java/lang/RuntimeException", "java/lang/Exception"], w.before _ s = true := vx_hat (B := badL) (fun w hw => hts w ((fun w h => List.mem_cons_of_mem _ (List.mem_append_left _ (List.mem_append_right _ h))) w hw)) at_bad87 (fun w hw => va_Nw.use (bad_tab (badL_all w hw)) (hT.2.2.2 w hw))
  have hck66 := hts (.classLink RX4 66 "java/lang/IllegalStateException") (List.mem_of_getElem? (i := 3) rfl)
  have hck83 := hts (.classLink RX4 83 "java/lang/IllegalArgumentException") (List.mem_of_getElem? (i := 1) rfl)
  have hei66 := hts (.initialized "java/lang/IllegalStateException") (List.mem_of_getElem? (i := 4) rfl)
  have hei83 := hts (.initialized "java/lang/IllegalArgumentException") (List.mem_of_getElem? (i := 2) rfl)
  have hfl41 := hts (.fieldLink RX4 41 "TraderRights" "rights" "LTraderRights$Rights;") (List.mem_of_getElem? (i := 5) rfl)
  have hfl93 := hN.use (args := ([.ref (ad 0), .int t, .int a, .int pl, .int fr, .int to] : List Value).toArray) (w := .fieldLinkNest RX4 93 "TraderRights$Rights" "size" "I" "TraderRights") (by decide +kernel)
  have himX2_append := hts (.instanceMethod yX2_append) (List.mem_of_getElem? (i := 22) rfl)
  have hinX2 : ∀ w ∈ u_ws RX2 TX2 6, w ∈ wsX4_right := fun w h => List.mem_cons_of_mem _ (List.mem_append_left _ (List.mem_append_left _ (List.mem_append_right _ h)))
  have hinX4 : ∀ w ∈ u_ws RX4 TX4 11, w ∈ wsX4_right := fun w h => List.mem_cons_of_mem _ (List.mem_append_left _ (List.mem_append_left _ (List.mem_append_left _ (List.mem_append_right _ h))))
  have hiniX2 := hts (.initialized RX2) (List.mem_of_getElem? (i := 23) rfl)
  have hnw98 := hN (.methodLinkNest RX4 98 yX2_append "TraderRights") (by decide +kernel)
  have hseX2_append := hts (.selects RX2 yX2_append yX2_append) (List.mem_of_getElem? (i := 24) rfl)
  subst hsz
  have hD := hD0.self (sz := s.heap.size)
  generalize hAe : va_A (wX ad cI cZ z v f) s.heap.size = A at hD hT ⊢
  have hA : ∀ q : Nat, s.heap.size ≤ q → A q := fun q h => by rw [← hAe]; exact Or.inr h
  have hS : va_S A s.heap s.heap [] := va_S.rf
  have hl := lv_entry ([.ref (ad 0), .int t, .int a, .int pl, .int fr, .int to]) (n := 6) (Nat.le_of_ble_eq_true rfl)
  rw [lg_entry_eq]
  generalize (lg_sl ([.ref (ad 0), .int t, .int a, .int pl, .int fr, .int to]) ++ List.replicate (6 - (lg_sl ([.ref (ad 0), .int t, .int a, .int pl, .int fr, .int to])).length) Slot.unset).toArray = ls at hl ⊢
  have hl : lv_has ls 6 [(0, .ref (ad 0)), (1, .int t), (2, .int a), (3, .int pl), (4, .int fr), (5, .int to)] := hl
  generalize hF : F_X4_right z v f t a pl fr to = R9
  generalize hQ9 : vx_MQ below _ _ _ s 1 6 A = Q9
  rw [F_X4_right] at hF
  refine lv_aload_n hx hb dX4_right_0 rfl (lv_at hl 0 rfl) ?_
  refine lv_iload_n hx hb dX4_right_1 rfl (lv_at hl 1 rfl) ?_
  refine vp_callSi (W.runV (As := [.int t]) (rest := []) ⟨hx, hb, hml, hown, hts⟩ (c_X4_isTrader l dC dI ad cI cZ z v f t hok) (cwV 1 hts gX4_right_X4_isTrader rfl rfl rfl (by decide +kernel) ⟨Nat.le_of_ble_eq_true rfl, Nat.le_of_ble_eq_true rfl⟩) (preX (ci := 4) (q0 := 0) hP hK hN rfl rfl rfl) rfl rfl hl.1 rfl (lv_room (Nat.le_of_ble_eq_true rfl)) dX4_right_2 ⟨Nat.zero_le _, Nat.zero_le _⟩) (fun r1 h9 => ?_)
  have hr1 : r1 = F_X4_isTrader z v f t := h9
  try rw [← hr1] at hF
  refine lv_if_eq (tgt := 27) hx hb dX4_right_5 (by decide) (fun c2 => ?_) (fun c2 => ?_)
  · rw [if_pos c2] at hF
    have c2f : F_X4_isTrader z v f t = 0 := by rw [← hr1]; exact c2
    subst hF
    subst hQ9
    obtain ⟨sa9, hstr9⟩ := hT.2.2.1 (85, "no such trader, act or place") (by decide +kernel)
    exact vx_throwS (cls := "java/lang/IllegalArgumentException") (names := ["java/lang/RuntimeException", "java/lang/Exception"]) hx hb hlt hown (by decide +kernel) (by decide +kernel) hck83 hei83 hstr9 hat87 ot87 hT.1 hT.2.1 hS (by rw [hml]; exact hl.1) dX4_right_27 dX4_right_30 dX4_right_31 dX4_right_33 dX4_right_36 (fun x h => (hexc x h).elim) (by decide) (by decide) (by decide) (by decide) hlocks (fun t9 hal hsz hkp => ⟨(), trivial, ⟨rfl, by show ¬ (1 : Nat) = 0; decide, hP.kept (fun k q hq => hkp _ (hP k q hq).lt)⟩, ⟨Nat.le_trans hS.1 hsz, fun q h1 h2 => (hkp q (Nat.lt_of_lt_of_le h1 hS.1)).trans (hS.2.1 q h1 h2)⟩⟩) hS.2.2 (by decide) (by decide)
  · rw [if_neg c2] at hF
    have c2f : ¬ F_X4_isTrader z v f t = 0 := by rw [← hr1]; exact c2
    refine lv_iload_n hx hb dX4_right_8 rfl (lv_at hl 2 rfl) ?_
    refine vp_callSi (W.runS (As := [.int a]) (rest := []) ⟨hx, hb, hml, hown, hts⟩ (c_X4_isAct l a) (cwS 1 hts gX4_right_X4_isAct rfl rfl rfl (by decide +kernel) ⟨Nat.le_of_ble_eq_true rfl, Nat.le_of_ble_eq_true rfl⟩) preT rfl rfl hl.1 rfl (lv_room (Nat.le_of_ble_eq_true rfl)) dX4_right_9 ⟨Nat.zero_le _, Nat.zero_le _⟩) (fun r3 h9 => ?_)
    have hr3 : r3 = F_X4_isAct a := h9
    try rw [← hr3] at hF
    refine lv_if_eq (tgt := 27) hx hb dX4_right_12 (by decide) (fun c4 => ?_) (fun c4 => ?_)
    · rw [if_pos c4] at hF
      have c4f : F_X4_isAct a = 0 := by rw [← hr3]; exact c4
      subst hF
      subst hQ9
      obtain ⟨sa9, hstr9⟩ := hT.2.2.1 (85, "no such trader, act or place") (by decide +kernel)
      exact vx_throwS (cls := "java/lang/IllegalArgumentException") (names := ["java/lang/RuntimeException", "java/lang/Exception"]) hx hb hlt hown (by decide +kernel) (by decide +kernel) hck83 hei83 hstr9 hat87 ot87 hT.1 hT.2.1 hS (by rw [hml]; exact hl.1) dX4_right_27 dX4_right_30 dX4_right_31 dX4_right_33 dX4_right_36 (fun x h => (hexc x h).elim) (by decide) (by decide) (by decide) (by decide) hlocks (fun t9 hal hsz hkp => ⟨(), trivial, ⟨rfl, by show ¬ (1 : Nat) = 0; decide, hP.kept (fun k q hq => hkp _ (hP k q hq).lt)⟩, ⟨Nat.le_trans hS.1 hsz, fun q h1 h2 => (hkp q (Nat.lt_of_lt_of_le h1 hS.1)).trans (hS.2.1 q h1 h2)⟩⟩) hS.2.2 (by decide) (by decide)
    · rw [if_neg c4] at hF
      have c4f : ¬ F_X4_isAct a = 0 := by rw [← hr3]; exact c4
      refine lv_iload_n hx hb dX4_right_15 rfl (lv_at hl 3 rfl) ?_
      refine lv_iconst (v := (-1)) hx hb dX4_right_16 (by decide) ?_
      refine lv_icmp_eq (tgt := 37) hx hb dX4_right_17 (by decide) (fun c5 => ?_) (fun c5 => ?_)
      · rw [if_pos c5] at hF
        refine lv_iload hx hb dX4_right_37 (lv_at hl 4 rfl) ?_
        refine vp_callSi (W.runS (As := [.int fr]) (rest := []) ⟨hx, hb, hml, hown, hts⟩ (c_X4_isDay l fr) (cwS 1 hts gX4_right_X4_isDay rfl rfl rfl (by decide +kernel) ⟨Nat.le_of_ble_eq_true rfl, Nat.le_of_ble_eq_true rfl⟩) preT rfl rfl hl.1 rfl (lv_room (Nat.le_of_ble_eq_true rfl)) dX4_right_39 ⟨Nat.zero_le _, Nat.zero_le _⟩) (fun r6 h9 => ?_)
        have hr6 : r6 = F_X4_isDay fr := h9
        try rw [← hr6] at hF
        refine lv_if_eq (tgt := 60) hx hb dX4_right_42 (by decide) (fun c7 => ?_) (fun c7 => ?_)
        · rw [if_pos c7] at hF
          have c7f : F_X4_isDay fr = 0 := by rw [← hr6]; exact c7
          subst hF
          subst hQ9
          obtain ⟨sa9, hstr9⟩ := hT.2.2.1 (91, "no such days") (by decide +kernel)
          exact vx_throwS (cls := "java/lang/IllegalArgumentException") (names := ["java/lang/RuntimeException", "java/lang/Exception"]) hx hb hlt hown (by decide +kernel) (by decide +kernel) hck83 hei83 hstr9 hat87 ot87 hT.1 hT.2.1 hS (by rw [hml]; exact hl.1) dX4_right_60 dX4_right_63 dX4_right_64 dX4_right_66 dX4_right_69 (fun x h => (hexc x h).elim) (by decide) (by decide) (by decide) (by decide) hlocks (fun t9 hal hsz hkp => ⟨(), trivial, ⟨rfl, by show ¬ (1 : Nat) = 0; decide, hP.kept (fun k q hq => hkp _ (hP k q hq).lt)⟩, ⟨Nat.le_trans hS.1 hsz, fun q h1 h2 => (hkp q (Nat.lt_of_lt_of_le h1 hS.1)).trans (hS.2.1 q h1 h2)⟩⟩) hS.2.2 (by decide) (by decide)
        · rw [if_neg c7] at hF
          have c7f : ¬ F_X4_isDay fr = 0 := by rw [← hr6]; exact c7
          refine lv_iload hx hb dX4_right_45 (lv_at hl 5 rfl) ?_
          refine vp_callSi (W.runS (As := [.int to]) (rest := []) ⟨hx, hb, hml, hown, hts⟩ (c_X4_isDay l to) (cwS 1 hts gX4_right_X4_isDay rfl rfl rfl (by decide +kernel) ⟨Nat.le_of_ble_eq_true rfl, Nat.le_of_ble_eq_true rfl⟩) preT rfl rfl hl.1 rfl (lv_room (Nat.le_of_ble_eq_true rfl)) dX4_right_47 ⟨Nat.zero_le _, Nat.zero_le _⟩) (fun r8 h9 => ?_)
          have hr8 : r8 = F_X4_isDay to := h9
          try rw [← hr8] at hF
          refine lv_if_eq (tgt := 60) hx hb dX4_right_50 (by decide) (fun c9 => ?_) (fun c9 => ?_)
          · rw [if_pos c9] at hF
            have c9f : F_X4_isDay to = 0 := by rw [← hr8]; exact c9
            subst hF
            subst hQ9
            obtain ⟨sa9, hstr9⟩ := hT.2.2.1 (91, "no such days") (by decide +kernel)
            exact vx_throwS (cls := "java/lang/IllegalArgumentException") (names := ["java/lang/RuntimeException", "java/lang/Exception"]) hx hb hlt hown (by decide +kernel) (by decide +kernel) hck83 hei83 hstr9 hat87 ot87 hT.1 hT.2.1 hS (by rw [hml]; exact hl.1) dX4_right_60 dX4_right_63 dX4_right_64 dX4_right_66 dX4_right_69 (fun x h => (hexc x h).elim) (by decide) (by decide) (by decide) (by decide) hlocks (fun t9 hal hsz hkp => ⟨(), trivial, ⟨rfl, by show ¬ (1 : Nat) = 0; decide, hP.kept (fun k q hq => hkp _ (hP k q hq).lt)⟩, ⟨Nat.le_trans hS.1 hsz, fun q h1 h2 => (hkp q (Nat.lt_of_lt_of_le h1 hS.1)).trans (hS.2.1 q h1 h2)⟩⟩) hS.2.2 (by decide) (by decide)
          · rw [if_neg c9] at hF
            have c9f : ¬ F_X4_isDay to = 0 := by rw [← hr8]; exact c9
            refine lv_iload hx hb dX4_right_53 (lv_at hl 4 rfl) ?_
            refine lv_iload hx hb dX4_right_55 (lv_at hl 5 rfl) ?_
            refine lv_icmp_le (tgt := 70) hx hb dX4_right_57 (by decide) (fun c10 => ?_) (fun c10 => ?_)
            · rw [if_pos c10] at hF
              refine lv_aload_n hx hb dX4_right_70 rfl (lv_at hl 0 rfl) ?_
              refine va_get (D := (dC, dI)) (ci := 4) (v := .ref (ad 6)) (C := RX4) (T := TX4) (N := 11) hx hb hts hinX4 hown hK hP 0 rfl rfl 7 (by decide) hfl41 (fun _ h9 => h9) rfl dX4_right_71 ?_
              refine va_getN (D := (dC, dI)) (ci := 2) (v := .int (nI (z 1))) (C := RX2) (T := TX2) (N := 6) hx hb hts hinX2 hown hK hP 6 rfl rfl 0 (by decide) hfl93 (fun _ h9 => h9) rfl dX4_right_74 ?_
              refine lv_bipush (v := 60) hx hb dX4_right_77 (by decide) ?_
              refine lv_icmp_lt (tgt := 92) hx hb dX4_right_79 (by decide) (fun c11 => ?_) (fun c11 => ?_)
              · have c11 : z 1 < 60 := (nI_ltI (a := z 1) (b := 60) (by omega) (by omega)).mp c11
                rw [if_pos c11] at hF
                refine lv_aload_n hx hb dX4_right_92 rfl (lv_at hl 0 rfl) ?_
                refine va_get (D := (dC, dI)) (ci := 4) (v := .ref (ad 6)) (C := RX4) (T := TX4) (N := 11) hx hb hts hinX4 hown hK hP 0 rfl rfl 7 (by decide) hfl41 (fun _ h9 => h9) rfl dX4_right_93 ?_
                refine lv_iload_n hx hb dX4_right_96 rfl (lv_at hl 1 rfl) ?_
                refine lv_iload_n hx hb dX4_right_97 rfl (lv_at hl 2 rfl) ?_
                refine lv_iload_n hx hb dX4_right_98 rfl (lv_at hl 3 rfl) ?_
                refine lv_iload hx hb dX4_right_99 (lv_at hl 4 rfl) ?_
                refine lv_iload hx hb dX4_right_101 (lv_at hl 5 rfl) ?_
                have hFc := va_free (wc := (wX ad cI cZ z v f)) hD hS hA [0, 1, 2, 3, 4, 5, 6, 7, 8, 9, 10, 11, 12, 13, 14, 15, 16, 17, 18, 19, 20, 21] rfl
                refine va_callv (va_runVN (As := [.int t, .int a, .int pl, .int fr, .int to]) (rest := []) ⟨hx, hb, hml, hown, hts⟩ (c_X2_append l dC dI ad cI cZ z v f s.heap.size t a pl fr to hok (by first | assumption | exact vp_in_nI (by omega) (by omega) | exact in_isTX hok (by assumption) | exact in_twoX hok (by assumption) | exact in_towX hok (by assumption) | omega)) ⟨(va_cnB 5 hts gX4_right_X2_append_n98 rfl rfl rfl hnw98 hiniX2 (by decide +kernel) ⟨Nat.le_of_ble_eq_true rfl, Nat.le_of_ble_eq_true rfl⟩), himX2_append, hseX2_append⟩ (preXw (ci := 2) (q0 := 6) hP hK hN hD rfl rfl rfl) rfl rfl hl.1 rfl (lv_room (Nat.le_of_ble_eq_true rfl)) dX4_right_103 ⟨Nat.zero_le _, Nat.zero_le _⟩) hS (fun q _ h => hFc q h) hFc (fun u9 t9 H locs ht hvm hw hB hz1 hk1 hS => ?_)
                have hP : va_P (dC, dI) vwCl _ t9.heap := hB
                rw [ht] at hP
                have hP : va_P (dC, dI) vwCl (wX ad cI cZ (uu z 1 (z 1 + 1)) v (uu (uu (uu (uu (uu f 5 (upd (f 5) (z 1) t)) 6 (upd (f 6) (z 1) a)) 7 (upd (f 7) (z 1) pl)) 8 (upd (f 8) (z 1) fr)) 9 (upd (f 9) (z 1) to))) H := hP
                have hD : va_D A (wX ad cI cZ (uu z 1 (z 1 + 1)) v (uu (uu (uu (uu (uu f 5 (upd (f 5) (z 1) t)) 6 (upd (f 6) (z 1) a)) 7 (upd (f 7) (z 1) pl)) 8 (upd (f 8) (z 1) fr)) 9 (upd (f 9) (z 1) to))) := va_D.fst (ws := (wX ad cI cZ z v f)) rfl hD
                refine lv_aload_n hx hb dX4_right_106 rfl (lv_at hl 0 rfl) ?_
                refine va_get (D := (dC, dI)) (ci := 4) (v := .ref (ad 6)) (C := RX4) (T := TX4) (N := 11) hx hb hts hinX4 hown hK hP 0 rfl rfl 7 (by decide) hfl41 (fun _ h9 => h9) rfl dX4_right_107 ?_
                refine va_getN (D := (dC, dI)) (ci := 2) (v := .int (nI (z 1 + 1))) (C := RX2) (T := TX2) (N := 6) hx hb hts hinX2 hown hK hP 6 rfl rfl 0 (by decide) hfl93 (fun _ h9 => h9) rfl dX4_right_110 ?_
                subst hF
                subst hQ9
                refine vx_ret ?_
                refine W.widen (k := 1) (n := 6) (by decide) (by decide) ?_
                exact W.iret (v := nI (z 1 + 1)) hx hb hr (fun t9 ht hW => ⟨⟨(nI (z 1 + 1)), (), rfl, ⟨rfl, rfl⟩, by show va_P (dC, dI) vwCl _ t9.heap; rw [ht]; exact hP⟩, hS.F ht⟩) hS.2.2 dX4_right_113
              · have c11 : ¬ z 1 < 60 := fun h9 => c11 ((nI_ltI (a := z 1) (b := 60) (by omega) (by omega)).mpr h9)
                rw [if_neg c11] at hF
                subst hF
                subst hQ9
                obtain ⟨sa9, hstr9⟩ := hT.2.2.1 (96, "there are 60 rights") (by decide +kernel)
                exact vx_throwS (cls := "java/lang/IllegalStateException") (names := ["java/lang/RuntimeException", "java/lang/Exception"]) hx hb hlt hown (by decide +kernel) (by decide +kernel) hck66 hei66 hstr9 hat70 ot70 hT.1 hT.2.1 hS (by rw [hml]; exact hl.1) dX4_right_82 dX4_right_85 dX4_right_86 dX4_right_88 dX4_right_91 (fun x h => (hexc x h).elim) (by decide) (by decide) (by decide) (by decide) hlocks (fun t9 hal hsz hkp => ⟨(), trivial, ⟨rfl, by show ¬ (2 : Nat) = 0; decide, hP.kept (fun k q hq => hkp _ (hP k q hq).lt)⟩, ⟨Nat.le_trans hS.1 hsz, fun q h1 h2 => (hkp q (Nat.lt_of_lt_of_le h1 hS.1)).trans (hS.2.1 q h1 h2)⟩⟩) hS.2.2 (by decide) (by decide)
            · rw [if_neg c10] at hF
              subst hF
              subst hQ9
              obtain ⟨sa9, hstr9⟩ := hT.2.2.1 (91, "no such days") (by decide +kernel)
              exact vx_throwS (cls := "java/lang/IllegalArgumentException") (names := ["java/lang/RuntimeException", "java/lang/Exception"]) hx hb hlt hown (by decide +kernel) (by decide +kernel) hck83 hei83 hstr9 hat87 ot87 hT.1 hT.2.1 hS (by rw [hml]; exact hl.1) dX4_right_60 dX4_right_63 dX4_right_64 dX4_right_66 dX4_right_69 (fun x h => (hexc x h).elim) (by decide) (by decide) (by decide) (by decide) hlocks (fun t9 hal hsz hkp => ⟨(), trivial, ⟨rfl, by show ¬ (1 : Nat) = 0; decide, hP.kept (fun k q hq => hkp _ (hP k q hq).lt)⟩, ⟨Nat.le_trans hS.1 hsz, fun q h1 h2 => (hkp q (Nat.lt_of_lt_of_le h1 hS.1)).trans (hS.2.1 q h1 h2)⟩⟩) hS.2.2 (by decide) (by decide)
      · rw [if_neg c5] at hF
        refine lv_iload_n hx hb dX4_right_20 rfl (lv_at hl 3 rfl) ?_
        refine vp_callSi (W.runS (As := [.int pl]) (rest := []) ⟨hx, hb, hml, hown, hts⟩ (c_X4_isPlace l pl) (cwS 1 hts gX4_right_X4_isPlace rfl rfl rfl (by decide +kernel) ⟨Nat.le_of_ble_eq_true rfl, Nat.le_of_ble_eq_true rfl⟩) preT rfl rfl hl.1 rfl (lv_room (Nat.le_of_ble_eq_true rfl)) dX4_right_21 ⟨Nat.zero_le _, Nat.zero_le _⟩) (fun r13 h9 => ?_)
        have hr13 : r13 = F_X4_isPlace pl := h9
        try rw [← hr13] at hF
        refine lv_if_ne (tgt := 37) hx hb dX4_right_24 (by decide) (fun c14 => ?_) (fun c14 => ?_)
        · rw [if_neg c14] at hF
          have c14f : ¬ F_X4_isPlace pl = 0 := by rw [← hr13]; exact c14
          refine lv_iload hx hb dX4_right_37 (lv_at hl 4 rfl) ?_
          refine vp_callSi (W.runS (As := [.int fr]) (rest := []) ⟨hx, hb, hml, hown, hts⟩ (c_X4_isDay l fr) (cwS 1 hts gX4_right_X4_isDay rfl rfl rfl (by decide +kernel) ⟨Nat.le_of_ble_eq_true rfl, Nat.le_of_ble_eq_true rfl⟩) preT rfl rfl hl.1 rfl (lv_room (Nat.le_of_ble_eq_true rfl)) dX4_right_39 ⟨Nat.zero_le _, Nat.zero_le _⟩) (fun r15 h9 => ?_)
          have hr15 : r15 = F_X4_isDay fr := h9
          try rw [← hr15] at hF
          refine lv_if_eq (tgt := 60) hx hb dX4_right_42 (by decide) (fun c16 => ?_) (fun c16 => ?_)
          · rw [if_pos c16] at hF
            have c16f : F_X4_isDay fr = 0 := by rw [← hr15]; exact c16
            subst hF
            subst hQ9
            obtain ⟨sa9, hstr9⟩ := hT.2.2.1 (91, "no such days") (by decide +kernel)
            exact vx_throwS (cls := "java/lang/IllegalArgumentException") (names := ["java/lang/RuntimeException", "java/lang/Exception"]) hx hb hlt hown (by decide +kernel) (by decide +kernel) hck83 hei83 hstr9 hat87 ot87 hT.1 hT.2.1 hS (by rw [hml]; exact hl.1) dX4_right_60 dX4_right_63 dX4_right_64 dX4_right_66 dX4_right_69 (fun x h => (hexc x h).elim) (by decide) (by decide) (by decide) (by decide) hlocks (fun t9 hal hsz hkp => ⟨(), trivial, ⟨rfl, by show ¬ (1 : Nat) = 0; decide, hP.kept (fun k q hq => hkp _ (hP k q hq).lt)⟩, ⟨Nat.le_trans hS.1 hsz, fun q h1 h2 => (hkp q (Nat.lt_of_lt_of_le h1 hS.1)).trans (hS.2.1 q h1 h2)⟩⟩) hS.2.2 (by decide) (by decide)
          · rw [if_neg c16] at hF
            have c16f : ¬ F_X4_isDay fr = 0 := by rw [← hr15]; exact c16
            refine lv_iload hx hb dX4_right_45 (lv_at hl 5 rfl) ?_
            refine vp_callSi (W.runS (As := [.int to]) (rest := []) ⟨hx, hb, hml, hown, hts⟩ (c_X4_isDay l to) (cwS 1 hts gX4_right_X4_isDay rfl rfl rfl (by decide +kernel) ⟨Nat.le_of_ble_eq_true rfl, Nat.le_of_ble_eq_true rfl⟩) preT rfl rfl hl.1 rfl (lv_room (Nat.le_of_ble_eq_true rfl)) dX4_right_47 ⟨Nat.zero_le _, Nat.zero_le _⟩) (fun r17 h9 => ?_)
            have hr17 : r17 = F_X4_isDay to := h9
            try rw [← hr17] at hF
            refine lv_if_eq (tgt := 60) hx hb dX4_right_50 (by decide) (fun c18 => ?_) (fun c18 => ?_)
            · rw [if_pos c18] at hF
              have c18f : F_X4_isDay to = 0 := by rw [← hr17]; exact c18
              subst hF
              subst hQ9
              obtain ⟨sa9, hstr9⟩ := hT.2.2.1 (91, "no such days") (by decide +kernel)
              exact vx_throwS (cls := "java/lang/IllegalArgumentException") (names := ["java/lang/RuntimeException", "java/lang/Exception"]) hx hb hlt hown (by decide +kernel) (by decide +kernel) hck83 hei83 hstr9 hat87 ot87 hT.1 hT.2.1 hS (by rw [hml]; exact hl.1) dX4_right_60 dX4_right_63 dX4_right_64 dX4_right_66 dX4_right_69 (fun x h => (hexc x h).elim) (by decide) (by decide) (by decide) (by decide) hlocks (fun t9 hal hsz hkp => ⟨(), trivial, ⟨rfl, by show ¬ (1 : Nat) = 0; decide, hP.kept (fun k q hq => hkp _ (hP k q hq).lt)⟩, ⟨Nat.le_trans hS.1 hsz, fun q h1 h2 => (hkp q (Nat.lt_of_lt_of_le h1 hS.1)).trans (hS.2.1 q h1 h2)⟩⟩) hS.2.2 (by decide) (by decide)
            · rw [if_neg c18] at hF
              have c18f : ¬ F_X4_isDay to = 0 := by rw [← hr17]; exact c18
              refine lv_iload hx hb dX4_right_53 (lv_at hl 4 rfl) ?_
              refine lv_iload hx hb dX4_right_55 (lv_at hl 5 rfl) ?_
              refine lv_icmp_le (tgt := 70) hx hb dX4_right_57 (by decide) (fun c19 => ?_) (fun c19 => ?_)
              · rw [if_pos c19] at hF
                refine lv_aload_n hx hb dX4_right_70 rfl (lv_at hl 0 rfl) ?_
                refine va_get (D := (dC, dI)) (ci := 4) (v := .ref (ad 6)) (C := RX4) (T := TX4) (N := 11) hx hb hts hinX4 hown hK hP 0 rfl rfl 7 (by decide) hfl41 (fun _ h9 => h9) rfl dX4_right_71 ?_
                refine va_getN (D := (dC, dI)) (ci := 2) (v := .int (nI (z 1))) (C := RX2) (T := TX2) (N := 6) hx hb hts hinX2 hown hK hP 6 rfl rfl 0 (by decide) hfl93 (fun _ h9 => h9) rfl dX4_right_74 ?_
                refine lv_bipush (v := 60) hx hb dX4_right_77 (by decide) ?_
                refine lv_icmp_lt (tgt := 92) hx hb dX4_right_79 (by decide) (fun c20 => ?_) (fun c20 => ?_)
                · have c20 : z 1 < 60 := (nI_ltI (a := z 1) (b := 60) (by omega) (by omega)).mp c20
                  rw [if_pos c20] at hF
                  refine lv_aload_n hx hb dX4_right_92 rfl (lv_at hl 0 rfl) ?_
                  refine va_get (D := (dC, dI)) (ci := 4) (v := .ref (ad 6)) (C := RX4) (T := TX4) (N := 11) hx hb hts hinX4 hown hK hP 0 rfl rfl 7 (by decide) hfl41 (fun _ h9 => h9) rfl dX4_right_93 ?_
                  refine lv_iload_n hx hb dX4_right_96 rfl (lv_at hl 1 rfl) ?_
                  refine lv_iload_n hx hb dX4_right_97 rfl (lv_at hl 2 rfl) ?_
                  refine lv_iload_n hx hb dX4_right_98 rfl (lv_at hl 3 rfl) ?_
                  refine lv_iload hx hb dX4_right_99 (lv_at hl 4 rfl) ?_
                  refine lv_iload hx hb dX4_right_101 (lv_at hl 5 rfl) ?_
                  have hFc := va_free (wc := (wX ad cI cZ z v f)) hD hS hA [0, 1, 2, 3, 4, 5, 6, 7, 8, 9, 10, 11, 12, 13, 14, 15, 16, 17, 18, 19, 20, 21] rfl
                  refine va_callv (va_runVN (As := [.int t, .int a, .int pl, .int fr, .int to]) (rest := []) ⟨hx, hb, hml, hown, hts⟩ (c_X2_append l dC dI ad cI cZ z v f s.heap.size t a pl fr to hok (by first | assumption | exact vp_in_nI (by omega) (by omega) | exact in_isTX hok (by assumption) | exact in_twoX hok (by assumption) | exact in_towX hok (by assumption) | omega)) ⟨(va_cnB 5 hts gX4_right_X2_append_n98 rfl rfl rfl hnw98 hiniX2 (by decide +kernel) ⟨Nat.le_of_ble_eq_true rfl, Nat.le_of_ble_eq_true rfl⟩), himX2_append, hseX2_append⟩ (preXw (ci := 2) (q0 := 6) hP hK hN hD rfl rfl rfl) rfl rfl hl.1 rfl (lv_room (Nat.le_of_ble_eq_true rfl)) dX4_right_103 ⟨Nat.zero_le _, Nat.zero_le _⟩) hS (fun q _ h => hFc q h) hFc (fun u9 t9 H locs ht hvm hw hB hz1 hk1 hS => ?_)
                  have hP : va_P (dC, dI) vwCl _ t9.heap := hB
                  rw [ht] at hP
                  have hP : va_P (dC, dI) vwCl (wX ad cI cZ (uu z 1 (z 1 + 1)) v (uu (uu (uu (uu (uu f 5 (upd (f 5) (z 1) t)) 6 (upd (f 6) (z 1) a)) 7 (upd (f 7) (z 1) pl)) 8 (upd (f 8) (z 1) fr)) 9 (upd (f 9) (z 1) to))) H := hP
                  have hD : va_D A (wX ad cI cZ (uu z 1 (z 1 + 1)) v (uu (uu (uu (uu (uu f 5 (upd (f 5) (z 1) t)) 6 (upd (f 6) (z 1) a)) 7 (upd (f 7) (z 1) pl)) 8 (upd (f 8) (z 1) fr)) 9 (upd (f 9) (z 1) to))) := va_D.fst (ws := (wX ad cI cZ z v f)) rfl hD
                  refine lv_aload_n hx hb dX4_right_106 rfl (lv_at hl 0 rfl) ?_
                  refine va_get (D := (dC, dI)) (ci := 4) (v := .ref (ad 6)) (C := RX4) (T := TX4) (N := 11) hx hb hts hinX4 hown hK hP 0 rfl rfl 7 (by decide) hfl41 (fun _ h9 => h9) rfl dX4_right_107 ?_
                  refine va_getN (D := (dC, dI)) (ci := 2) (v := .int (nI (z 1 + 1))) (C := RX2) (T := TX2) (N := 6) hx hb hts hinX2 hown hK hP 6 rfl rfl 0 (by decide) hfl93 (fun _ h9 => h9) rfl dX4_right_110 ?_
                  subst hF
                  subst hQ9
                  refine vx_ret ?_
                  refine W.widen (k := 1) (n := 6) (by decide) (by decide) ?_
                  exact W.iret (v := nI (z 1 + 1)) hx hb hr (fun t9 ht hW => ⟨⟨(nI (z 1 + 1)), (), rfl, ⟨rfl, rfl⟩, by show va_P (dC, dI) vwCl _ t9.heap; rw [ht]; exact hP⟩, hS.F ht⟩) hS.2.2 dX4_right_113
                · have c20 : ¬ z 1 < 60 := fun h9 => c20 ((nI_ltI (a := z 1) (b := 60) (by omega) (by omega)).mpr h9)
                  rw [if_neg c20] at hF
                  subst hF
                  subst hQ9
                  obtain ⟨sa9, hstr9⟩ := hT.2.2.1 (96, "there are 60 rights") (by decide +kernel)
                  exact vx_throwS (cls := "java/lang/IllegalStateException") (names := ["java/lang/RuntimeException", "java/lang/Exception"]) hx hb hlt hown (by decide +kernel) (by decide +kernel) hck66 hei66 hstr9 hat70 ot70 hT.1 hT.2.1 hS (by rw [hml]; exact hl.1) dX4_right_82 dX4_right_85 dX4_right_86 dX4_right_88 dX4_right_91 (fun x h => (hexc x h).elim) (by decide) (by decide) (by decide) (by decide) hlocks (fun t9 hal hsz hkp => ⟨(), trivial, ⟨rfl, by show ¬ (2 : Nat) = 0; decide, hP.kept (fun k q hq => hkp _ (hP k q hq).lt)⟩, ⟨Nat.le_trans hS.1 hsz, fun q h1 h2 => (hkp q (Nat.lt_of_lt_of_le h1 hS.1)).trans (hS.2.1 q h1 h2)⟩⟩) hS.2.2 (by decide) (by decide)
              · rw [if_neg c19] at hF
                subst hF
                subst hQ9
                obtain ⟨sa9, hstr9⟩ := hT.2.2.1 (91, "no such days") (by decide +kernel)
                exact vx_throwS (cls := "java/lang/IllegalArgumentException") (names := ["java/lang/RuntimeException", "java/lang/Exception"]) hx hb hlt hown (by decide +kernel) (by decide +kernel) hck83 hei83 hstr9 hat87 ot87 hT.1 hT.2.1 hS (by rw [hml]; exact hl.1) dX4_right_60 dX4_right_63 dX4_right_64 dX4_right_66 dX4_right_69 (fun x h => (hexc x h).elim) (by decide) (by decide) (by decide) (by decide) hlocks (fun t9 hal hsz hkp => ⟨(), trivial, ⟨rfl, by show ¬ (1 : Nat) = 0; decide, hP.kept (fun k q hq => hkp _ (hP k q hq).lt)⟩, ⟨Nat.le_trans hS.1 hsz, fun q h1 h2 => (hkp q (Nat.lt_of_lt_of_le h1 hS.1)).trans (hS.2.1 q h1 h2)⟩⟩) hS.2.2 (by decide) (by decide)
        · rw [if_pos c14] at hF
          have c14f : F_X4_isPlace pl = 0 := by rw [← hr13]; exact c14
          subst hF
          subst hQ9
          obtain ⟨sa9, hstr9⟩ := hT.2.2.1 (85, "no such trader, act or place") (by decide +kernel)
          exact vx_throwS (cls := "java/lang/IllegalArgumentException") (names := ["java/lang/RuntimeException", "java/lang/Exception"]) hx hb hlt hown (by decide +kernel) (by decide +kernel) hck83 hei83 hstr9 hat87 ot87 hT.1 hT.2.1 hS (by rw [hml]; exact hl.1) dX4_right_27 dX4_right_30 dX4_right_31 dX4_right_33 dX4_right_36 (fun x h => (hexc x h).elim) (by decide) (by decide) (by decide) (by decide) hlocks (fun t9 hal hsz hkp => ⟨(), trivial, ⟨rfl, by show ¬ (1 : Nat) = 0; decide, hP.kept (fun k q hq => hkp _ (hP k q hq).lt)⟩, ⟨Nat.le_trans hS.1 hsz, fun q h1 h2 => (hkp q (Nat.lt_of_lt_of_le h1 hS.1)).trans (hS.2.1 q h1 h2)⟩⟩) hS.2.2 (by decide) (by decide)
