def F_X5_trader (z : Nat → Nat) (v : Nat → Int32) (f : Nat → Nat → Int32)  : Int32 × Int32 × (Nat → Nat) × (Nat → Int32) × (Nat → Nat → Int32) :=
  if z 0 = 12 then
    (0, 1, z, v, f)
  else
    (nI (z 0), 0, uu z 0 (z 0 + 1), v, uu (uu f 2 (upd (f 2) (z 0) (-1))) 3 (upd (f 3) (z 0) (-1)))
set_option maxHeartbeats 4000000 in
set_option maxRecDepth 100000 in
theorem c_X5_trader (l : Launch) (dC : Nat → ClassId) (dI : Nat → Nat → Nat) (am : Nat → Nat) (cI cZ : ClassId) (th : Int32) (z : Nat → Nat) (v : Nat → Int32) (f : Nat → Nat → Int32) (sz : Nat) (hok : okM z v f) : Met l yX5_trader wsX5_trader ({ frames := 0, cells := 0, slots := 0, locals := 0 }) (va_Pc [.ref (am 0)] (fun U => U.heap.size = sz ∧ va_D (fun _ => True) (wM am cI cZ th z v f) ∧ kM dC dI am cI cZ th z v f U)) (va_Qi (fun (r : Int32) (_ : Unit) => r = (F_X5_trader z v f ).1) (fun _ U9 => va_P (dC, dI) vwCl (wM am cI cZ ((F_X5_trader z v f ).2.1) ((F_X5_trader z v f ).2.2.1) ((F_X5_trader z v f ).2.2.2.1) ((F_X5_trader z v f ).2.2.2.2)) U9.heap) (va_A (wM am cI cZ th z v f) sz)) 0 0 (va_A (wM am cI cZ th z v f) sz) := by
  refine Met.ofW (cc := cX5_trader) (maxL := 1) (ret := (some .int)) (by decide) rfl ?_
  intro p e s m args below meth c s₁ B hml hv
  obtain ⟨rfl, hsz, hD0, hP, hK, hN⟩ := hv
  have hx := B.exec
  have hb := B.bytes
  have hr := B.returns
  have hts := atoms_spec (ws := wsX5_trader) B.pre
  have hown : s.vm.findClass RX5 = some m.cls := findClass_of_methodNamed B.named
  have hlocks := B.notSynchronized
  have hok9 := hok
  obtain ⟨hz0, hz1, hz2, hz3, hz4, hbz, hbs, hdp, hgv⟩ := hok9
  have hfl16 := hts (.fieldLink RX5 16 "TraderRightsModel" "deputyOf" "[I") (List.mem_of_getElem? (i := 3) rfl)
  have hfl19 := hts (.fieldLink RX5 19 "TraderRightsModel" "endsAt" "[I") (List.mem_of_getElem? (i := 4) rfl)
  have hfl66 := hts (.fieldLink RX5 66 "TraderRightsModel" "thrown" "I") (List.mem_of_getElem? (i := 2) rfl)
  have hfl69 := hts (.fieldLink RX5 69 "TraderRightsModel" "traders" "I") (List.mem_of_getElem? (i := 1) rfl)
  have hinX5 : ∀ w ∈ u_ws RX5 TX5 25, w ∈ wsX5_trader := fun w h => List.mem_cons_of_mem _ (List.mem_append_right _ h)
  subst hsz
  have hD := hD0.self (sz := s.heap.size)
  generalize hAe : va_A (wM am cI cZ th z v f) s.heap.size = A at hD ⊢
  have hA : ∀ q : Nat, s.heap.size ≤ q → A q := fun q h => by rw [← hAe]; exact Or.inr h
  have hS : va_S A s.heap s.heap [] := va_S.rf
  have hl := lv_entry ([.ref (am 0)]) (n := 1) (Nat.le_of_ble_eq_true rfl)
  rw [lg_entry_eq]
  generalize (lg_sl ([.ref (am 0)]) ++ List.replicate (1 - (lg_sl ([.ref (am 0)])).length) Slot.unset).toArray = ls at hl ⊢
  have hl : lv_has ls 1 [(0, .ref (am 0))] := hl
  generalize hF : F_X5_trader z v f  = R9
  generalize hQ9 : MQ below _ _ s 0 0 A = Q9
  rw [F_X5_trader] at hF
  refine lv_aload_n hx hb dX5_trader_0 rfl (lv_at hl 0 rfl) ?_
  refine lv_aload_n hx hb dX5_trader_1 rfl (lv_at hl 0 rfl) ?_
  refine va_get (D := (dC, dI)) (ci := 5) (v := .int (nI (z 0))) (C := RX5) (T := TX5) (N := 25) hx hb hts hinX5 hown hK hP 0 rfl rfl 1 (by decide) hfl69 (fun _ h9 => h9) rfl dX5_trader_2 ?_
  refine lv_bipush (v := 12) hx hb dX5_trader_5 (by decide) ?_
  refine lv_icmp_ne (tgt := 14) hx hb dX5_trader_7 (by decide) (fun c1 => ?_) (fun c1 => ?_)
  · have c1 : ¬ z 0 = 12 := fun h9 => c1 ((nI_eq (a := z 0) (b := 12) (by omega) (by omega)).mpr h9)
    rw [if_neg c1] at hF
    refine lv_iconst (v := 0) hx hb dX5_trader_14 (by decide) ?_
    refine va_put (D := (dC, dI)) (ci := 5) (v := .int 0) (ty := .int) (C := RX5) (T := TX5) (N := 25) hx hb hts hinX5 tyX5 tyX5_ok nmX5 hown hK hP hD hS 0 rfl rfl 0 (by decide) hfl66 (fun _ h9 => h9) rfl (by decide +kernel) rfl rfl (Nat.le_of_ble_eq_true rfl) dX5_trader_15 (fun H locs hP hD hS => ?_)
    have hP : va_P (dC, dI) vwCl (wM am cI cZ 0 z v f) H := hP
    have hD : va_D A (wM am cI cZ 0 z v f) := hD
    refine lv_aload_n hx hb dX5_trader_18 rfl (lv_at hl 0 rfl) ?_
    refine va_get (D := (dC, dI)) (ci := 5) (v := .int 0) (C := RX5) (T := TX5) (N := 25) hx hb hts hinX5 hown hK hP 0 rfl rfl 0 (by decide) hfl66 (fun _ h9 => h9) rfl dX5_trader_19 ?_
    refine lv_if_le (tgt := 27) hx hb dX5_trader_22 (by decide) (fun _ => ?_) (fun c9 => absurd c9 (by decide))
    refine lv_aload_n hx hb dX5_trader_27 rfl (lv_at hl 0 rfl) ?_
    refine va_get (D := (dC, dI)) (ci := 5) (v := .ref (am 3)) (C := RX5) (T := TX5) (N := 25) hx hb hts hinX5 hown hK hP 0 rfl rfl 8 (by decide) hfl16 (fun _ h9 => h9) rfl dX5_trader_28 ?_
    refine lv_aload_n hx hb dX5_trader_31 rfl (lv_at hl 0 rfl) ?_
    refine va_get (D := (dC, dI)) (ci := 5) (v := .int (nI (z 0))) (C := RX5) (T := TX5) (N := 25) hx hb hts hinX5 hown hK hP 0 rfl rfl 1 (by decide) hfl69 (fun _ h9 => h9) rfl dX5_trader_32 ?_
    refine lv_iconst (v := (-1)) hx hb dX5_trader_35 (by decide) ?_
    refine xa_ist hx hb hK hP hD hS 3 0 rfl rfl (by omega) (by decide) dX5_trader_36 (fun H locs hP hD hS => ?_)
    have hP : va_P (dC, dI) vwCl (wM am cI cZ 0 z v (uu f 2 (upd (f 2) (z 0) (-1)))) H := hP
    have hD : va_D A (wM am cI cZ 0 z v (uu f 2 (upd (f 2) (z 0) (-1)))) := hD
    refine lv_aload_n hx hb dX5_trader_37 rfl (lv_at hl 0 rfl) ?_
    refine va_get (D := (dC, dI)) (ci := 5) (v := .ref (am 4)) (C := RX5) (T := TX5) (N := 25) hx hb hts hinX5 hown hK hP 0 rfl rfl 9 (by decide) hfl19 (fun _ h9 => h9) rfl dX5_trader_38 ?_
    refine lv_aload_n hx hb dX5_trader_41 rfl (lv_at hl 0 rfl) ?_
    refine va_get (D := (dC, dI)) (ci := 5) (v := .int (nI (z 0))) (C := RX5) (T := TX5) (N := 25) hx hb hts hinX5 hown hK hP 0 rfl rfl 1 (by decide) hfl69 (fun _ h9 => h9) rfl dX5_trader_42 ?_
    refine lv_iconst (v := (-1)) hx hb dX5_trader_45 (by decide) ?_
    refine xa_ist hx hb hK hP hD hS 4 0 rfl rfl (by omega) (by decide) dX5_trader_46 (fun H locs hP hD hS => ?_)
    have hP : va_P (dC, dI) vwCl (wM am cI cZ 0 z v (uu (uu f 2 (upd (f 2) (z 0) (-1))) 3 (upd (f 3) (z 0) (-1)))) H := hP
    have hD : va_D A (wM am cI cZ 0 z v (uu (uu f 2 (upd (f 2) (z 0) (-1))) 3 (upd (f 3) (z 0) (-1)))) := hD
    refine lv_aload_n hx hb dX5_trader_47 rfl (lv_at hl 0 rfl) ?_
    refine lv_dup hx hb dX5_trader_48 rfl ?_
    refine va_get (D := (dC, dI)) (ci := 5) (v := .int (nI (z 0))) (C := RX5) (T := TX5) (N := 25) hx hb hts hinX5 hown hK hP 0 rfl rfl 1 (by decide) hfl69 (fun _ h9 => h9) rfl dX5_trader_49 ?_
    refine lv_iconst (v := 1) hx hb dX5_trader_52 (by decide) ?_
    refine lv_iadd hx hb dX5_trader_53 ?_
    refine xe_top (nI_1 _) ?_
    refine va_put (D := (dC, dI)) (ci := 5) (v := .int (nI (z 0 + 1))) (ty := .int) (C := RX5) (T := TX5) (N := 25) hx hb hts hinX5 tyX5 tyX5_ok nmX5 hown hK hP hD hS 0 rfl rfl 1 (by decide) hfl69 (fun _ h9 => h9) rfl (by decide +kernel) rfl rfl (Nat.le_of_ble_eq_true rfl) dX5_trader_54 (fun H locs hP hD hS => ?_)
    have hP : va_P (dC, dI) vwCl (wM am cI cZ 0 (uu z 0 (z 0 + 1)) v (uu (uu f 2 (upd (f 2) (z 0) (-1))) 3 (upd (f 3) (z 0) (-1)))) H := hP
    have hD : va_D A (wM am cI cZ 0 (uu z 0 (z 0 + 1)) v (uu (uu f 2 (upd (f 2) (z 0) (-1))) 3 (upd (f 3) (z 0) (-1)))) := hD
    refine lv_aload_n hx hb dX5_trader_57 rfl (lv_at hl 0 rfl) ?_
    refine va_get (D := (dC, dI)) (ci := 5) (v := .int (nI (z 0 + 1))) (C := RX5) (T := TX5) (N := 25) hx hb hts hinX5 hown hK hP 0 rfl rfl 1 (by decide) hfl69 (fun _ h9 => h9) rfl dX5_trader_58 ?_
    refine lv_iconst (v := 1) hx hb dX5_trader_61 (by decide) ?_
    refine lv_isub hx hb dX5_trader_62 ?_
    refine xe_top (nI_pred _) ?_
    subst hF
    subst hQ9
    exact W.iret (v := nI (z 0)) hx hb hr (fun t9 ht hW => ⟨⟨(nI (z 0)), (), rfl, rfl, by show va_P (dC, dI) vwCl _ t9.heap; rw [ht]; exact hP⟩, hS.F ht⟩) hS.2.2 dX5_trader_63
  · have c1 : z 0 = 12 := (nI_eq (a := z 0) (b := 12) (by omega) (by omega)).mp c1
    rw [if_pos c1] at hF
    refine lv_iconst (v := 1) hx hb dX5_trader_10 (by decide) ?_
    refine lv_goto (tgt := 15) hx hb dX5_trader_11 (by decide) ?_
    refine va_put (D := (dC, dI)) (ci := 5) (v := .int 1) (ty := .int) (C := RX5) (T := TX5) (N := 25) hx hb hts hinX5 tyX5 tyX5_ok nmX5 hown hK hP hD hS 0 rfl rfl 0 (by decide) hfl66 (fun _ h9 => h9) rfl (by decide +kernel) rfl rfl (Nat.le_of_ble_eq_true rfl) dX5_trader_15 (fun H locs hP hD hS => ?_)
    have hP : va_P (dC, dI) vwCl (wM am cI cZ 1 z v f) H := hP
    have hD : va_D A (wM am cI cZ 1 z v f) := hD
    refine lv_aload_n hx hb dX5_trader_18 rfl (lv_at hl 0 rfl) ?_
    refine va_get (D := (dC, dI)) (ci := 5) (v := .int 1) (C := RX5) (T := TX5) (N := 25) hx hb hts hinX5 hown hK hP 0 rfl rfl 0 (by decide) hfl66 (fun _ h9 => h9) rfl dX5_trader_19 ?_
    refine lv_if_le (tgt := 27) hx hb dX5_trader_22 (by decide) (fun c9 => absurd c9 (by decide)) (fun _ => ?_)
    refine lv_iconst (v := 0) hx hb dX5_trader_25 (by decide) ?_
    subst hF
    subst hQ9
    exact W.iret (v := 0) hx hb hr (fun t9 ht hW => ⟨⟨0, (), rfl, rfl, by show va_P (dC, dI) vwCl _ t9.heap; rw [ht]; exact hP⟩, hS.F ht⟩) hS.2.2 dX5_trader_26
def F_X5_right (z : Nat → Nat) (v : Nat → Int32) (f : Nat → Nat → Int32) (t a pl fr to : Int32) : Int32 × Int32 × (Nat → Nat) × (Nat → Int32) × (Nat → Nat → Int32) :=
  if F_X5_isTrader z v f t = 0 then
    (0, 1, z, v, f)
  else
    if F_X5_isEight a = 0 then
      (0, 1, z, v, f)
    else
      if pl = (-1) then
        if F_X5_isDay fr = 0 then
          (0, 1, z, v, f)
        else
          if F_X5_isDay to = 0 then
            (0, 1, z, v, f)
          else
            if to < fr then
              (0, 1, z, v, f)
            else
              if z 1 = 60 then
                (0, 2, z, v, f)
              else
                (nI (z 1 + 1), 0, uu z 1 (z 1 + 1), v, uu (uu (uu (uu (uu f 4 (upd (f 4) (z 1) t)) 5 (upd (f 5) (z 1) a)) 6 (upd (f 6) (z 1) pl)) 7 (upd (f 7) (z 1) fr)) 8 (upd (f 8) (z 1) to))
      else
        if F_X5_isEight pl = 0 then
          (0, 1, z, v, f)
        else
          if F_X5_isDay fr = 0 then
            (0, 1, z, v, f)
          else
            if F_X5_isDay to = 0 then
              (0, 1, z, v, f)
            else
              if to < fr then
                (0, 1, z, v, f)
              else
                if z 1 = 60 then
                  (0, 2, z, v, f)
                else
                  (nI (z 1 + 1), 0, uu z 1 (z 1 + 1), v, uu (uu (uu (uu (uu f 4 (upd (f 4) (z 1) t)) 5 (upd (f 5) (z 1) a)) 6 (upd (f 6) (z 1) pl)) 7 (upd (f 7) (z 1) fr)) 8 (upd (f 8) (z 1) to))
set_option maxHeartbeats 4000000 in
set_option maxRecDepth 100000 in
theorem c_X5_right (l : Launch) (dC : Nat → ClassId) (dI : Nat → Nat → Nat) (am : Nat → Nat) (cI cZ : ClassId) (th : Int32) (z : Nat → Nat) (v : Nat → Int32) (f : Nat → Nat → Int32) (sz : Nat) (t a pl fr to : Int32) (hok : okM z v f) : Met l yX5_right wsX5_right ({ frames := 2, cells := 0, slots := 0, locals := 42 }) (va_Pc [.ref (am 0), .int t, .int a, .int pl, .int fr, .int to] (fun U => U.heap.size = sz ∧ va_D (fun _ => True) (wM am cI cZ th z v f) ∧ kM dC dI am cI cZ th z v f U)) (va_Qi (fun (r : Int32) (_ : Unit) => r = (F_X5_right z v f t a pl fr to).1) (fun _ U9 => va_P (dC, dI) vwCl (wM am cI cZ ((F_X5_right z v f t a pl fr to).2.1) ((F_X5_right z v f t a pl fr to).2.2.1) ((F_X5_right z v f t a pl fr to).2.2.2.1) ((F_X5_right z v f t a pl fr to).2.2.2.2)) U9.heap) (va_A (wM am cI cZ th z v f) sz)) 0 0 (va_A (wM am cI cZ th z v f) sz) := by
  refine Met.ofW (cc := cX5_right) (maxL := 7) (ret := (some .int)) (by decide) rfl ?_
  intro p e s m args below meth c s₁ B hml hv
  obtain ⟨rfl, hsz, hD0, hP, hK, hN⟩ := hv
  have hx := B.exec
  have hb := B.bytes
  have hr := B.returns
  have hts := atoms_spec (ws := wsX5_right) B.pre
  have hown : s.vm.findClass RX5 = some m.cls := findClass_of_methodNamed B.named
  have hlocks := B.notSynchronized
  have hok9 := hok
  obtain ⟨hz0, hz1, hz2, hz3, hz4, hbz, hbs, hdp, hgv⟩ := hok9
  have hfl22 := hts (.fieldLink RX5 22 "TraderRightsModel" "rightOf" "[I") (List.mem_of_getElem? (i := 3) rfl)
  have hfl25 := hts (.fieldLink RX5 25 "TraderRightsModel" "rightAct" "[I") (List.mem_of_getElem? (i := 4) rfl)
  have hfl28 := hts (.fieldLink RX5 28 "TraderRightsModel" "rightPlace" "[I") (List.mem_of_getElem? (i := 5) rfl)
  have hfl31 := hts (.fieldLink RX5 31 "TraderRightsModel" "rightFrom" "[I") (List.mem_of_getElem? (i := 6) rfl)
  have hfl34 := hts (.fieldLink RX5 34 "TraderRightsModel" "rightTo" "[I") (List.mem_of_getElem? (i := 7) rfl)
  have hfl66 := hts (.fieldLink RX5 66 "TraderRightsModel" "thrown" "I") (List.mem_of_getElem? (i := 2) rfl)
  have hfl87 := hts (.fieldLink RX5 87 "TraderRightsModel" "rights" "I") (List.mem_of_getElem? (i := 1) rfl)
  have hinX5 : ∀ w ∈ u_ws RX5 TX5 25, w ∈ wsX5_right := fun w h => List.mem_cons_of_mem _ (List.mem_append_right _ h)
  subst hsz
  have hD := hD0.self (sz := s.heap.size)
  generalize hAe : va_A (wM am cI cZ th z v f) s.heap.size = A at hD ⊢
  have hA : ∀ q : Nat, s.heap.size ≤ q → A q := fun q h => by rw [← hAe]; exact Or.inr h
  have hS : va_S A s.heap s.heap [] := va_S.rf
  have hl := lv_entry ([.ref (am 0), .int t, .int a, .int pl, .int fr, .int to]) (n := 7) (Nat.le_of_ble_eq_true rfl)
  rw [lg_entry_eq]
  generalize (lg_sl ([.ref (am 0), .int t, .int a, .int pl, .int fr, .int to]) ++ List.replicate (7 - (lg_sl ([.ref (am 0), .int t, .int a, .int pl, .int fr, .int to])).length) Slot.unset).toArray = ls at hl ⊢
  have hl : lv_has ls 7 [(0, .ref (am 0)), (1, .int t), (2, .int a), (3, .int pl), (4, .int fr), (5, .int to)] := hl
  generalize hF : F_X5_right z v f t a pl fr to = R9
  generalize hQ9 : MQ below _ _ s 0 0 A = Q9
  rw [F_X5_right] at hF
  refine lv_aload_n hx hb dX5_right_0 rfl (lv_at hl 0 rfl) ?_
  refine lv_iload_n hx hb dX5_right_1 rfl (lv_at hl 1 rfl) ?_
  refine vp_callSi (W.runV (As := [.int t]) (rest := []) ⟨hx, hb, hml, hown, hts⟩ (c_X5_isTrader l dC dI am cI cZ th z v f t hok) (cwV 1 hts gX5_right_X5_isTrader rfl rfl rfl (by decide +kernel) ⟨Nat.le_of_ble_eq_true rfl, Nat.le_of_ble_eq_true rfl⟩) (preM (ci := 5) (q0 := 0) hP hK hN rfl rfl rfl) rfl rfl hl.1 rfl (lv_room (Nat.le_of_ble_eq_true rfl)) dX5_right_2 ⟨Nat.zero_le _, Nat.zero_le _⟩) (fun r1 h9 => ?_)
  have hr1 : r1 = F_X5_isTrader z v f t := h9
  try rw [← hr1] at hF
  refine lv_if_eq (tgt := 54) hx hb dX5_right_5 (by decide) (fun c2 => ?_) (fun c2 => ?_)
  · rw [if_pos c2] at hF
    have c2f : F_X5_isTrader z v f t = 0 := by rw [← hr1]; exact c2
    refine lv_iconst (v := 0) hx hb dX5_right_54 (by decide) ?_
    refine lv_istore (lv' := [(6, .int 0), (0, .ref (am 0)), (1, .int t), (2, .int a), (3, .int pl), (4, .int fr), (5, .int to)]) hx hb dX5_right_55 hl (by decide) rfl (fun ls hl => ?_)
    refine lv_aload_n hx hb dX5_right_57 rfl (lv_at hl 1 rfl) ?_
    refine lv_iload hx hb dX5_right_58 (lv_at hl 0 rfl) ?_
    refine lv_if_ne (tgt := 67) hx hb dX5_right_60 (by decide) (fun c9 => absurd c9 (by decide)) (fun _ => ?_)
    refine lv_iconst (v := 1) hx hb dX5_right_63 (by decide) ?_
    refine lv_goto (tgt := 81) hx hb dX5_right_64 (by decide) ?_
    refine va_put (D := (dC, dI)) (ci := 5) (v := .int 1) (ty := .int) (C := RX5) (T := TX5) (N := 25) hx hb hts hinX5 tyX5 tyX5_ok nmX5 hown hK hP hD hS 0 rfl rfl 0 (by decide) hfl66 (fun _ h9 => h9) rfl (by decide +kernel) rfl rfl (Nat.le_of_ble_eq_true rfl) dX5_right_81 (fun H locs hP hD hS => ?_)
    have hP : va_P (dC, dI) vwCl (wM am cI cZ 1 z v f) H := hP
    have hD : va_D A (wM am cI cZ 1 z v f) := hD
    refine lv_aload_n hx hb dX5_right_84 rfl (lv_at hl 1 rfl) ?_
    refine va_get (D := (dC, dI)) (ci := 5) (v := .int 1) (C := RX5) (T := TX5) (N := 25) hx hb hts hinX5 hown hK hP 0 rfl rfl 0 (by decide) hfl66 (fun _ h9 => h9) rfl dX5_right_85 ?_
    refine lv_if_le (tgt := 93) hx hb dX5_right_88 (by decide) (fun c9 => absurd c9 (by decide)) (fun _ => ?_)
    refine lv_iconst (v := 0) hx hb dX5_right_91 (by decide) ?_
    subst hF
    subst hQ9
    exact W.iret (v := 0) hx hb hr (fun t9 ht hW => ⟨⟨0, (), rfl, rfl, by show va_P (dC, dI) vwCl _ t9.heap; rw [ht]; exact hP⟩, hS.F ht⟩) hS.2.2 dX5_right_92
  · rw [if_neg c2] at hF
    have c2f : ¬ F_X5_isTrader z v f t = 0 := by rw [← hr1]; exact c2
    refine lv_iload_n hx hb dX5_right_8 rfl (lv_at hl 2 rfl) ?_
    refine vp_callSi (W.runS (As := [.int a]) (rest := []) ⟨hx, hb, hml, hown, hts⟩ (c_X5_isEight l a) (cwS 1 hts gX5_right_X5_isEight rfl rfl rfl (by decide +kernel) ⟨Nat.le_of_ble_eq_true rfl, Nat.le_of_ble_eq_true rfl⟩) preT rfl rfl hl.1 rfl (lv_room (Nat.le_of_ble_eq_true rfl)) dX5_right_9 ⟨Nat.zero_le _, Nat.zero_le _⟩) (fun r3 h9 => ?_)
    have hr3 : r3 = F_X5_isEight a := h9
    try rw [← hr3] at hF
    refine lv_if_eq (tgt := 54) hx hb dX5_right_12 (by decide) (fun c4 => ?_) (fun c4 => ?_)
    · rw [if_pos c4] at hF
      have c4f : F_X5_isEight a = 0 := by rw [← hr3]; exact c4
      refine lv_iconst (v := 0) hx hb dX5_right_54 (by decide) ?_
      refine lv_istore (lv' := [(6, .int 0), (0, .ref (am 0)), (1, .int t), (2, .int a), (3, .int pl), (4, .int fr), (5, .int to)]) hx hb dX5_right_55 hl (by decide) rfl (fun ls hl => ?_)
      refine lv_aload_n hx hb dX5_right_57 rfl (lv_at hl 1 rfl) ?_
      refine lv_iload hx hb dX5_right_58 (lv_at hl 0 rfl) ?_
      refine lv_if_ne (tgt := 67) hx hb dX5_right_60 (by decide) (fun c9 => absurd c9 (by decide)) (fun _ => ?_)
      refine lv_iconst (v := 1) hx hb dX5_right_63 (by decide) ?_
      refine lv_goto (tgt := 81) hx hb dX5_right_64 (by decide) ?_
      refine va_put (D := (dC, dI)) (ci := 5) (v := .int 1) (ty := .int) (C := RX5) (T := TX5) (N := 25) hx hb hts hinX5 tyX5 tyX5_ok nmX5 hown hK hP hD hS 0 rfl rfl 0 (by decide) hfl66 (fun _ h9 => h9) rfl (by decide +kernel) rfl rfl (Nat.le_of_ble_eq_true rfl) dX5_right_81 (fun H locs hP hD hS => ?_)
      have hP : va_P (dC, dI) vwCl (wM am cI cZ 1 z v f) H := hP
      have hD : va_D A (wM am cI cZ 1 z v f) := hD
      refine lv_aload_n hx hb dX5_right_84 rfl (lv_at hl 1 rfl) ?_
      refine va_get (D := (dC, dI)) (ci := 5) (v := .int 1) (C := RX5) (T := TX5) (N := 25) hx hb hts hinX5 hown hK hP 0 rfl rfl 0 (by decide) hfl66 (fun _ h9 => h9) rfl dX5_right_85 ?_
      refine lv_if_le (tgt := 93) hx hb dX5_right_88 (by decide) (fun c9 => absurd c9 (by decide)) (fun _ => ?_)
      refine lv_iconst (v := 0) hx hb dX5_right_91 (by decide) ?_
      subst hF
      subst hQ9
      exact W.iret (v := 0) hx hb hr (fun t9 ht hW => ⟨⟨0, (), rfl, rfl, by show va_P (dC, dI) vwCl _ t9.heap; rw [ht]; exact hP⟩, hS.F ht⟩) hS.2.2 dX5_right_92
    · rw [if_neg c4] at hF
      have c4f : ¬ F_X5_isEight a = 0 := by rw [← hr3]; exact c4
      refine lv_iload_n hx hb dX5_right_15 rfl (lv_at hl 3 rfl) ?_
      refine lv_iconst (v := (-1)) hx hb dX5_right_16 (by decide) ?_
      refine lv_icmp_eq (tgt := 27) hx hb dX5_right_17 (by decide) (fun c5 => ?_) (fun c5 => ?_)
      · rw [if_pos c5] at hF
        refine lv_iload hx hb dX5_right_27 (lv_at hl 4 rfl) ?_
        refine vp_callSi (W.runS (As := [.int fr]) (rest := []) ⟨hx, hb, hml, hown, hts⟩ (c_X5_isDay l fr) (cwS 1 hts gX5_right_X5_isDay rfl rfl rfl (by decide +kernel) ⟨Nat.le_of_ble_eq_true rfl, Nat.le_of_ble_eq_true rfl⟩) preT rfl rfl hl.1 rfl (lv_room (Nat.le_of_ble_eq_true rfl)) dX5_right_29 ⟨Nat.zero_le _, Nat.zero_le _⟩) (fun r6 h9 => ?_)
        have hr6 : r6 = F_X5_isDay fr := h9
        try rw [← hr6] at hF
        refine lv_if_eq (tgt := 54) hx hb dX5_right_32 (by decide) (fun c7 => ?_) (fun c7 => ?_)
        · rw [if_pos c7] at hF
          have c7f : F_X5_isDay fr = 0 := by rw [← hr6]; exact c7
          refine lv_iconst (v := 0) hx hb dX5_right_54 (by decide) ?_
          refine lv_istore (lv' := [(6, .int 0), (0, .ref (am 0)), (1, .int t), (2, .int a), (3, .int pl), (4, .int fr), (5, .int to)]) hx hb dX5_right_55 hl (by decide) rfl (fun ls hl => ?_)
          refine lv_aload_n hx hb dX5_right_57 rfl (lv_at hl 1 rfl) ?_
          refine lv_iload hx hb dX5_right_58 (lv_at hl 0 rfl) ?_
          refine lv_if_ne (tgt := 67) hx hb dX5_right_60 (by decide) (fun c9 => absurd c9 (by decide)) (fun _ => ?_)
          refine lv_iconst (v := 1) hx hb dX5_right_63 (by decide) ?_
          refine lv_goto (tgt := 81) hx hb dX5_right_64 (by decide) ?_
          refine va_put (D := (dC, dI)) (ci := 5) (v := .int 1) (ty := .int) (C := RX5) (T := TX5) (N := 25) hx hb hts hinX5 tyX5 tyX5_ok nmX5 hown hK hP hD hS 0 rfl rfl 0 (by decide) hfl66 (fun _ h9 => h9) rfl (by decide +kernel) rfl rfl (Nat.le_of_ble_eq_true rfl) dX5_right_81 (fun H locs hP hD hS => ?_)
          have hP : va_P (dC, dI) vwCl (wM am cI cZ 1 z v f) H := hP
          have hD : va_D A (wM am cI cZ 1 z v f) := hD
          refine lv_aload_n hx hb dX5_right_84 rfl (lv_at hl 1 rfl) ?_
          refine va_get (D := (dC, dI)) (ci := 5) (v := .int 1) (C := RX5) (T := TX5) (N := 25) hx hb hts hinX5 hown hK hP 0 rfl rfl 0 (by decide) hfl66 (fun _ h9 => h9) rfl dX5_right_85 ?_
          refine lv_if_le (tgt := 93) hx hb dX5_right_88 (by decide) (fun c9 => absurd c9 (by decide)) (fun _ => ?_)
          refine lv_iconst (v := 0) hx hb dX5_right_91 (by decide) ?_
          subst hF
          subst hQ9
          exact W.iret (v := 0) hx hb hr (fun t9 ht hW => ⟨⟨0, (), rfl, rfl, by show va_P (dC, dI) vwCl _ t9.heap; rw [ht]; exact hP⟩, hS.F ht⟩) hS.2.2 dX5_right_92
        · rw [if_neg c7] at hF
          have c7f : ¬ F_X5_isDay fr = 0 := by rw [← hr6]; exact c7
          refine lv_iload hx hb dX5_right_35 (lv_at hl 5 rfl) ?_
          refine vp_callSi (W.runS (As := [.int to]) (rest := []) ⟨hx, hb, hml, hown, hts⟩ (c_X5_isDay l to) (cwS 1 hts gX5_right_X5_isDay rfl rfl rfl (by decide +kernel) ⟨Nat.le_of_ble_eq_true rfl, Nat.le_of_ble_eq_true rfl⟩) preT rfl rfl hl.1 rfl (lv_room (Nat.le_of_ble_eq_true rfl)) dX5_right_37 ⟨Nat.zero_le _, Nat.zero_le _⟩) (fun r8 h9 => ?_)
          have hr8 : r8 = F_X5_isDay to := h9
          try rw [← hr8] at hF
          refine lv_if_eq (tgt := 54) hx hb dX5_right_40 (by decide) (fun c9 => ?_) (fun c9 => ?_)
          · rw [if_pos c9] at hF
            have c9f : F_X5_isDay to = 0 := by rw [← hr8]; exact c9
            refine lv_iconst (v := 0) hx hb dX5_right_54 (by decide) ?_
            refine lv_istore (lv' := [(6, .int 0), (0, .ref (am 0)), (1, .int t), (2, .int a), (3, .int pl), (4, .int fr), (5, .int to)]) hx hb dX5_right_55 hl (by decide) rfl (fun ls hl => ?_)
            refine lv_aload_n hx hb dX5_right_57 rfl (lv_at hl 1 rfl) ?_
            refine lv_iload hx hb dX5_right_58 (lv_at hl 0 rfl) ?_
            refine lv_if_ne (tgt := 67) hx hb dX5_right_60 (by decide) (fun c9 => absurd c9 (by decide)) (fun _ => ?_)
            refine lv_iconst (v := 1) hx hb dX5_right_63 (by decide) ?_
            refine lv_goto (tgt := 81) hx hb dX5_right_64 (by decide) ?_
            refine va_put (D := (dC, dI)) (ci := 5) (v := .int 1) (ty := .int) (C := RX5) (T := TX5) (N := 25) hx hb hts hinX5 tyX5 tyX5_ok nmX5 hown hK hP hD hS 0 rfl rfl 0 (by decide) hfl66 (fun _ h9 => h9) rfl (by decide +kernel) rfl rfl (Nat.le_of_ble_eq_true rfl) dX5_right_81 (fun H locs hP hD hS => ?_)
            have hP : va_P (dC, dI) vwCl (wM am cI cZ 1 z v f) H := hP
            have hD : va_D A (wM am cI cZ 1 z v f) := hD
            refine lv_aload_n hx hb dX5_right_84 rfl (lv_at hl 1 rfl) ?_
            refine va_get (D := (dC, dI)) (ci := 5) (v := .int 1) (C := RX5) (T := TX5) (N := 25) hx hb hts hinX5 hown hK hP 0 rfl rfl 0 (by decide) hfl66 (fun _ h9 => h9) rfl dX5_right_85 ?_
            refine lv_if_le (tgt := 93) hx hb dX5_right_88 (by decide) (fun c9 => absurd c9 (by decide)) (fun _ => ?_)
            refine lv_iconst (v := 0) hx hb dX5_right_91 (by decide) ?_
            subst hF
            subst hQ9
            exact W.iret (v := 0) hx hb hr (fun t9 ht hW => ⟨⟨0, (), rfl, rfl, by show va_P (dC, dI) vwCl _ t9.heap; rw [ht]; exact hP⟩, hS.F ht⟩) hS.2.2 dX5_right_92
          · rw [if_neg c9] at hF
            have c9f : ¬ F_X5_isDay to = 0 := by rw [← hr8]; exact c9
            refine lv_iload hx hb dX5_right_43 (lv_at hl 4 rfl) ?_
            refine lv_iload hx hb dX5_right_45 (lv_at hl 5 rfl) ?_
            refine lv_icmp_gt (tgt := 54) hx hb dX5_right_47 (by decide) (fun c10 => ?_) (fun c10 => ?_)
            · rw [if_pos c10] at hF
              refine lv_iconst (v := 0) hx hb dX5_right_54 (by decide) ?_
              refine lv_istore (lv' := [(6, .int 0), (0, .ref (am 0)), (1, .int t), (2, .int a), (3, .int pl), (4, .int fr), (5, .int to)]) hx hb dX5_right_55 hl (by decide) rfl (fun ls hl => ?_)
              refine lv_aload_n hx hb dX5_right_57 rfl (lv_at hl 1 rfl) ?_
              refine lv_iload hx hb dX5_right_58 (lv_at hl 0 rfl) ?_
              refine lv_if_ne (tgt := 67) hx hb dX5_right_60 (by decide) (fun c9 => absurd c9 (by decide)) (fun _ => ?_)
              refine lv_iconst (v := 1) hx hb dX5_right_63 (by decide) ?_
              refine lv_goto (tgt := 81) hx hb dX5_right_64 (by decide) ?_
              refine va_put (D := (dC, dI)) (ci := 5) (v := .int 1) (ty := .int) (C := RX5) (T := TX5) (N := 25) hx hb hts hinX5 tyX5 tyX5_ok nmX5 hown hK hP hD hS 0 rfl rfl 0 (by decide) hfl66 (fun _ h9 => h9) rfl (by decide +kernel) rfl rfl (Nat.le_of_ble_eq_true rfl) dX5_right_81 (fun H locs hP hD hS => ?_)
              have hP : va_P (dC, dI) vwCl (wM am cI cZ 1 z v f) H := hP
              have hD : va_D A (wM am cI cZ 1 z v f) := hD
              refine lv_aload_n hx hb dX5_right_84 rfl (lv_at hl 1 rfl) ?_
              refine va_get (D := (dC, dI)) (ci := 5) (v := .int 1) (C := RX5) (T := TX5) (N := 25) hx hb hts hinX5 hown hK hP 0 rfl rfl 0 (by decide) hfl66 (fun _ h9 => h9) rfl dX5_right_85 ?_
              refine lv_if_le (tgt := 93) hx hb dX5_right_88 (by decide) (fun c9 => absurd c9 (by decide)) (fun _ => ?_)
              refine lv_iconst (v := 0) hx hb dX5_right_91 (by decide) ?_
              subst hF
              subst hQ9
              exact W.iret (v := 0) hx hb hr (fun t9 ht hW => ⟨⟨0, (), rfl, rfl, by show va_P (dC, dI) vwCl _ t9.heap; rw [ht]; exact hP⟩, hS.F ht⟩) hS.2.2 dX5_right_92
            · rw [if_neg c10] at hF
              refine lv_iconst (v := 1) hx hb dX5_right_50 (by decide) ?_
              refine lv_goto (tgt := 55) hx hb dX5_right_51 (by decide) ?_
              refine lv_istore (lv' := [(6, .int 1), (0, .ref (am 0)), (1, .int t), (2, .int a), (3, .int pl), (4, .int fr), (5, .int to)]) hx hb dX5_right_55 hl (by decide) rfl (fun ls hl => ?_)
              refine lv_aload_n hx hb dX5_right_57 rfl (lv_at hl 1 rfl) ?_
              refine lv_iload hx hb dX5_right_58 (lv_at hl 0 rfl) ?_
              refine lv_if_ne (tgt := 67) hx hb dX5_right_60 (by decide) (fun _ => ?_) (fun c9 => absurd c9 (by decide))
              refine lv_aload_n hx hb dX5_right_67 rfl (lv_at hl 1 rfl) ?_
              refine va_get (D := (dC, dI)) (ci := 5) (v := .int (nI (z 1))) (C := RX5) (T := TX5) (N := 25) hx hb hts hinX5 hown hK hP 0 rfl rfl 2 (by decide) hfl87 (fun _ h9 => h9) rfl dX5_right_68 ?_
              refine lv_bipush (v := 60) hx hb dX5_right_71 (by decide) ?_
              refine lv_icmp_ne (tgt := 80) hx hb dX5_right_73 (by decide) (fun c11 => ?_) (fun c11 => ?_)
              · have c11 : ¬ z 1 = 60 := fun h9 => c11 ((nI_eq (a := z 1) (b := 60) (by omega) (by omega)).mpr h9)
                rw [if_neg c11] at hF
                refine lv_iconst (v := 0) hx hb dX5_right_80 (by decide) ?_
                refine va_put (D := (dC, dI)) (ci := 5) (v := .int 0) (ty := .int) (C := RX5) (T := TX5) (N := 25) hx hb hts hinX5 tyX5 tyX5_ok nmX5 hown hK hP hD hS 0 rfl rfl 0 (by decide) hfl66 (fun _ h9 => h9) rfl (by decide +kernel) rfl rfl (Nat.le_of_ble_eq_true rfl) dX5_right_81 (fun H locs hP hD hS => ?_)
                have hP : va_P (dC, dI) vwCl (wM am cI cZ 0 z v f) H := hP
                have hD : va_D A (wM am cI cZ 0 z v f) := hD
                refine lv_aload_n hx hb dX5_right_84 rfl (lv_at hl 1 rfl) ?_
                refine va_get (D := (dC, dI)) (ci := 5) (v := .int 0) (C := RX5) (T := TX5) (N := 25) hx hb hts hinX5 hown hK hP 0 rfl rfl 0 (by decide) hfl66 (fun _ h9 => h9) rfl dX5_right_85 ?_
                refine lv_if_le (tgt := 93) hx hb dX5_right_88 (by decide) (fun _ => ?_) (fun c9 => absurd c9 (by decide))
                refine lv_aload_n hx hb dX5_right_93 rfl (lv_at hl 1 rfl) ?_
                refine va_get (D := (dC, dI)) (ci := 5) (v := .ref (am 5)) (C := RX5) (T := TX5) (N := 25) hx hb hts hinX5 hown hK hP 0 rfl rfl 10 (by decide) hfl22 (fun _ h9 => h9) rfl dX5_right_94 ?_
                refine lv_aload_n hx hb dX5_right_97 rfl (lv_at hl 1 rfl) ?_
                refine va_get (D := (dC, dI)) (ci := 5) (v := .int (nI (z 1))) (C := RX5) (T := TX5) (N := 25) hx hb hts hinX5 hown hK hP 0 rfl rfl 2 (by decide) hfl87 (fun _ h9 => h9) rfl dX5_right_98 ?_
                refine lv_iload_n hx hb dX5_right_101 rfl (lv_at hl 2 rfl) ?_
                refine xa_ist hx hb hK hP hD hS 5 0 rfl rfl (by omega) (by decide) dX5_right_102 (fun H locs hP hD hS => ?_)
                have hP : va_P (dC, dI) vwCl (wM am cI cZ 0 z v (uu f 4 (upd (f 4) (z 1) t))) H := hP
                have hD : va_D A (wM am cI cZ 0 z v (uu f 4 (upd (f 4) (z 1) t))) := hD
                refine lv_aload_n hx hb dX5_right_103 rfl (lv_at hl 1 rfl) ?_
                refine va_get (D := (dC, dI)) (ci := 5) (v := .ref (am 6)) (C := RX5) (T := TX5) (N := 25) hx hb hts hinX5 hown hK hP 0 rfl rfl 11 (by decide) hfl25 (fun _ h9 => h9) rfl dX5_right_104 ?_
                refine lv_aload_n hx hb dX5_right_107 rfl (lv_at hl 1 rfl) ?_
                refine va_get (D := (dC, dI)) (ci := 5) (v := .int (nI (z 1))) (C := RX5) (T := TX5) (N := 25) hx hb hts hinX5 hown hK hP 0 rfl rfl 2 (by decide) hfl87 (fun _ h9 => h9) rfl dX5_right_108 ?_
                refine lv_iload_n hx hb dX5_right_111 rfl (lv_at hl 3 rfl) ?_
                refine xa_ist hx hb hK hP hD hS 6 0 rfl rfl (by omega) (by decide) dX5_right_112 (fun H locs hP hD hS => ?_)
                have hP : va_P (dC, dI) vwCl (wM am cI cZ 0 z v (uu (uu f 4 (upd (f 4) (z 1) t)) 5 (upd (f 5) (z 1) a))) H := hP
                have hD : va_D A (wM am cI cZ 0 z v (uu (uu f 4 (upd (f 4) (z 1) t)) 5 (upd (f 5) (z 1) a))) := hD
                refine lv_aload_n hx hb dX5_right_113 rfl (lv_at hl 1 rfl) ?_
                refine va_get (D := (dC, dI)) (ci := 5) (v := .ref (am 7)) (C := RX5) (T := TX5) (N := 25) hx hb hts hinX5 hown hK hP 0 rfl rfl 12 (by decide) hfl28 (fun _ h9 => h9) rfl dX5_right_114 ?_
                refine lv_aload_n hx hb dX5_right_117 rfl (lv_at hl 1 rfl) ?_
                refine va_get (D := (dC, dI)) (ci := 5) (v := .int (nI (z 1))) (C := RX5) (T := TX5) (N := 25) hx hb hts hinX5 hown hK hP 0 rfl rfl 2 (by decide) hfl87 (fun _ h9 => h9) rfl dX5_right_118 ?_
                refine lv_iload_n hx hb dX5_right_121 rfl (lv_at hl 4 rfl) ?_
                refine xa_ist hx hb hK hP hD hS 7 0 rfl rfl (by omega) (by decide) dX5_right_122 (fun H locs hP hD hS => ?_)
                have hP : va_P (dC, dI) vwCl (wM am cI cZ 0 z v (uu (uu (uu f 4 (upd (f 4) (z 1) t)) 5 (upd (f 5) (z 1) a)) 6 (upd (f 6) (z 1) pl))) H := hP
                have hD : va_D A (wM am cI cZ 0 z v (uu (uu (uu f 4 (upd (f 4) (z 1) t)) 5 (upd (f 5) (z 1) a)) 6 (upd (f 6) (z 1) pl))) := hD
                refine lv_aload_n hx hb dX5_right_123 rfl (lv_at hl 1 rfl) ?_
                refine va_get (D := (dC, dI)) (ci := 5) (v := .ref (am 8)) (C := RX5) (T := TX5) (N := 25) hx hb hts hinX5 hown hK hP 0 rfl rfl 13 (by decide) hfl31 (fun _ h9 => h9) rfl dX5_right_124 ?_
                refine lv_aload_n hx hb dX5_right_127 rfl (lv_at hl 1 rfl) ?_
                refine va_get (D := (dC, dI)) (ci := 5) (v := .int (nI (z 1))) (C := RX5) (T := TX5) (N := 25) hx hb hts hinX5 hown hK hP 0 rfl rfl 2 (by decide) hfl87 (fun _ h9 => h9) rfl dX5_right_128 ?_
                refine lv_iload hx hb dX5_right_131 (lv_at hl 5 rfl) ?_
                refine xa_ist hx hb hK hP hD hS 8 0 rfl rfl (by omega) (by decide) dX5_right_133 (fun H locs hP hD hS => ?_)
                have hP : va_P (dC, dI) vwCl (wM am cI cZ 0 z v (uu (uu (uu (uu f 4 (upd (f 4) (z 1) t)) 5 (upd (f 5) (z 1) a)) 6 (upd (f 6) (z 1) pl)) 7 (upd (f 7) (z 1) fr))) H := hP
                have hD : va_D A (wM am cI cZ 0 z v (uu (uu (uu (uu f 4 (upd (f 4) (z 1) t)) 5 (upd (f 5) (z 1) a)) 6 (upd (f 6) (z 1) pl)) 7 (upd (f 7) (z 1) fr))) := hD
                refine lv_aload_n hx hb dX5_right_134 rfl (lv_at hl 1 rfl) ?_
                refine va_get (D := (dC, dI)) (ci := 5) (v := .ref (am 9)) (C := RX5) (T := TX5) (N := 25) hx hb hts hinX5 hown hK hP 0 rfl rfl 14 (by decide) hfl34 (fun _ h9 => h9) rfl dX5_right_135 ?_
                refine lv_aload_n hx hb dX5_right_138 rfl (lv_at hl 1 rfl) ?_
                refine va_get (D := (dC, dI)) (ci := 5) (v := .int (nI (z 1))) (C := RX5) (T := TX5) (N := 25) hx hb hts hinX5 hown hK hP 0 rfl rfl 2 (by decide) hfl87 (fun _ h9 => h9) rfl dX5_right_139 ?_
                refine lv_iload hx hb dX5_right_142 (lv_at hl 6 rfl) ?_
                refine xa_ist hx hb hK hP hD hS 9 0 rfl rfl (by omega) (by decide) dX5_right_144 (fun H locs hP hD hS => ?_)
                have hP : va_P (dC, dI) vwCl (wM am cI cZ 0 z v (uu (uu (uu (uu (uu f 4 (upd (f 4) (z 1) t)) 5 (upd (f 5) (z 1) a)) 6 (upd (f 6) (z 1) pl)) 7 (upd (f 7) (z 1) fr)) 8 (upd (f 8) (z 1) to))) H := hP
                have hD : va_D A (wM am cI cZ 0 z v (uu (uu (uu (uu (uu f 4 (upd (f 4) (z 1) t)) 5 (upd (f 5) (z 1) a)) 6 (upd (f 6) (z 1) pl)) 7 (upd (f 7) (z 1) fr)) 8 (upd (f 8) (z 1) to))) := hD
                refine lv_aload_n hx hb dX5_right_145 rfl (lv_at hl 1 rfl) ?_
                refine lv_dup hx hb dX5_right_146 rfl ?_
                refine va_get (D := (dC, dI)) (ci := 5) (v := .int (nI (z 1))) (C := RX5) (T := TX5) (N := 25) hx hb hts hinX5 hown hK hP 0 rfl rfl 2 (by decide) hfl87 (fun _ h9 => h9) rfl dX5_right_147 ?_
                refine lv_iconst (v := 1) hx hb dX5_right_150 (by decide) ?_
                refine lv_iadd hx hb dX5_right_151 ?_
                refine xe_top (nI_1 _) ?_
                refine va_put (D := (dC, dI)) (ci := 5) (v := .int (nI (z 1 + 1))) (ty := .int) (C := RX5) (T := TX5) (N := 25) hx hb hts hinX5 tyX5 tyX5_ok nmX5 hown hK hP hD hS 0 rfl rfl 2 (by decide) hfl87 (fun _ h9 => h9) rfl (by decide +kernel) rfl rfl (Nat.le_of_ble_eq_true rfl) dX5_right_152 (fun H locs hP hD hS => ?_)
                have hP : va_P (dC, dI) vwCl (wM am cI cZ 0 (uu z 1 (z 1 + 1)) v (uu (uu (uu (uu (uu f 4 (upd (f 4) (z 1) t)) 5 (upd (f 5) (z 1) a)) 6 (upd (f 6) (z 1) pl)) 7 (upd (f 7) (z 1) fr)) 8 (upd (f 8) (z 1) to))) H := hP
                have hD : va_D A (wM am cI cZ 0 (uu z 1 (z 1 + 1)) v (uu (uu (uu (uu (uu f 4 (upd (f 4) (z 1) t)) 5 (upd (f 5) (z 1) a)) 6 (upd (f 6) (z 1) pl)) 7 (upd (f 7) (z 1) fr)) 8 (upd (f 8) (z 1) to))) := hD
                refine lv_aload_n hx hb dX5_right_155 rfl (lv_at hl 1 rfl) ?_
                refine va_get (D := (dC, dI)) (ci := 5) (v := .int (nI (z 1 + 1))) (C := RX5) (T := TX5) (N := 25) hx hb hts hinX5 hown hK hP 0 rfl rfl 2 (by decide) hfl87 (fun _ h9 => h9) rfl dX5_right_156 ?_
                subst hF
                subst hQ9
                exact W.iret (v := nI (z 1 + 1)) hx hb hr (fun t9 ht hW => ⟨⟨(nI (z 1 + 1)), (), rfl, rfl, by show va_P (dC, dI) vwCl _ t9.heap; rw [ht]; exact hP⟩, hS.F ht⟩) hS.2.2 dX5_right_159
              · have c11 : z 1 = 60 := (nI_eq (a := z 1) (b := 60) (by omega) (by omega)).mp c11
                rw [if_pos c11] at hF
                refine lv_iconst (v := 2) hx hb dX5_right_76 (by decide) ?_
                refine lv_goto (tgt := 81) hx hb dX5_right_77 (by decide) ?_
                refine va_put (D := (dC, dI)) (ci := 5) (v := .int 2) (ty := .int) (C := RX5) (T := TX5) (N := 25) hx hb hts hinX5 tyX5 tyX5_ok nmX5 hown hK hP hD hS 0 rfl rfl 0 (by decide) hfl66 (fun _ h9 => h9) rfl (by decide +kernel) rfl rfl (Nat.le_of_ble_eq_true rfl) dX5_right_81 (fun H locs hP hD hS => ?_)
                have hP : va_P (dC, dI) vwCl (wM am cI cZ 2 z v f) H := hP
                have hD : va_D A (wM am cI cZ 2 z v f) := hD
                refine lv_aload_n hx hb dX5_right_84 rfl (lv_at hl 1 rfl) ?_
                refine va_get (D := (dC, dI)) (ci := 5) (v := .int 2) (C := RX5) (T := TX5) (N := 25) hx hb hts hinX5 hown hK hP 0 rfl rfl 0 (by decide) hfl66 (fun _ h9 => h9) rfl dX5_right_85 ?_
                refine lv_if_le (tgt := 93) hx hb dX5_right_88 (by decide) (fun c9 => absurd c9 (by decide)) (fun _ => ?_)
                refine lv_iconst (v := 0) hx hb dX5_right_91 (by decide) ?_
                subst hF
                subst hQ9
                exact W.iret (v := 0) hx hb hr (fun t9 ht hW => ⟨⟨0, (), rfl, rfl, by show va_P (dC, dI) vwCl _ t9.heap; rw [ht]; exact hP⟩, hS.F ht⟩) hS.2.2 dX5_right_92
      · rw [if_neg c5] at hF
        refine lv_iload_n hx hb dX5_right_20 rfl (lv_at hl 3 rfl) ?_
        refine vp_callSi (W.runS (As := [.int pl]) (rest := []) ⟨hx, hb, hml, hown, hts⟩ (c_X5_isEight l pl) (cwS 1 hts gX5_right_X5_isEight rfl rfl rfl (by decide +kernel) ⟨Nat.le_of_ble_eq_true rfl, Nat.le_of_ble_eq_true rfl⟩) preT rfl rfl hl.1 rfl (lv_room (Nat.le_of_ble_eq_true rfl)) dX5_right_21 ⟨Nat.zero_le _, Nat.zero_le _⟩) (fun r12 h9 => ?_)
        have hr12 : r12 = F_X5_isEight pl := h9
        try rw [← hr12] at hF
        refine lv_if_eq (tgt := 54) hx hb dX5_right_24 (by decide) (fun c13 => ?_) (fun c13 => ?_)
        · rw [if_pos c13] at hF
          have c13f : F_X5_isEight pl = 0 := by rw [← hr12]; exact c13
          refine lv_iconst (v := 0) hx hb dX5_right_54 (by decide) ?_
          refine lv_istore (lv' := [(6, .int 0), (0, .ref (am 0)), (1, .int t), (2, .int a), (3, .int pl), (4, .int fr), (5, .int to)]) hx hb dX5_right_55 hl (by decide) rfl (fun ls hl => ?_)
          refine lv_aload_n hx hb dX5_right_57 rfl (lv_at hl 1 rfl) ?_
          refine lv_iload hx hb dX5_right_58 (lv_at hl 0 rfl) ?_
          refine lv_if_ne (tgt := 67) hx hb dX5_right_60 (by decide) (fun c9 => absurd c9 (by decide)) (fun _ => ?_)
          refine lv_iconst (v := 1) hx hb dX5_right_63 (by decide) ?_
          refine lv_goto (tgt := 81) hx hb dX5_right_64 (by decide) ?_
          refine va_put (D := (dC, dI)) (ci := 5) (v := .int 1) (ty := .int) (C := RX5) (T := TX5) (N := 25) hx hb hts hinX5 tyX5 tyX5_ok nmX5 hown hK hP hD hS 0 rfl rfl 0 (by decide) hfl66 (fun _ h9 => h9) rfl (by decide +kernel) rfl rfl (Nat.le_of_ble_eq_true rfl) dX5_right_81 (fun H locs hP hD hS => ?_)
          have hP : va_P (dC, dI) vwCl (wM am cI cZ 1 z v f) H := hP
          have hD : va_D A (wM am cI cZ 1 z v f) := hD
          refine lv_aload_n hx hb dX5_right_84 rfl (lv_at hl 1 rfl) ?_
          refine va_get (D := (dC, dI)) (ci := 5) (v := .int 1) (C := RX5) (T := TX5) (N := 25) hx hb hts hinX5 hown hK hP 0 rfl rfl 0 (by decide) hfl66 (fun _ h9 => h9) rfl dX5_right_85 ?_
          refine lv_if_le (tgt := 93) hx hb dX5_right_88 (by decide) (fun c9 => absurd c9 (by decide)) (fun _ => ?_)
          refine lv_iconst (v := 0) hx hb dX5_right_91 (by decide) ?_
          subst hF
          subst hQ9
          exact W.iret (v := 0) hx hb hr (fun t9 ht hW => ⟨⟨0, (), rfl, rfl, by show va_P (dC, dI) vwCl _ t9.heap; rw [ht]; exact hP⟩, hS.F ht⟩) hS.2.2 dX5_right_92
        · rw [if_neg c13] at hF
          have c13f : ¬ F_X5_isEight pl = 0 := by rw [← hr12]; exact c13
          refine lv_iload hx hb dX5_right_27 (lv_at hl 4 rfl) ?_
          refine vp_callSi (W.runS (As := [.int fr]) (rest := []) ⟨hx, hb, hml, hown, hts⟩ (c_X5_isDay l fr) (cwS 1 hts gX5_right_X5_isDay rfl rfl rfl (by decide +kernel) ⟨Nat.le_of_ble_eq_true rfl, Nat.le_of_ble_eq_true rfl⟩) preT rfl rfl hl.1 rfl (lv_room (Nat.le_of_ble_eq_true rfl)) dX5_right_29 ⟨Nat.zero_le _, Nat.zero_le _⟩) (fun r14 h9 => ?_)
          have hr14 : r14 = F_X5_isDay fr := h9
          try rw [← hr14] at hF
          refine lv_if_eq (tgt := 54) hx hb dX5_right_32 (by decide) (fun c15 => ?_) (fun c15 => ?_)
          · rw [if_pos c15] at hF
            have c15f : F_X5_isDay fr = 0 := by rw [← hr14]; exact c15
            refine lv_iconst (v := 0) hx hb dX5_right_54 (by decide) ?_
            refine lv_istore (lv' := [(6, .int 0), (0, .ref (am 0)), (1, .int t), (2, .int a), (3, .int pl), (4, .int fr), (5, .int to)]) hx hb dX5_right_55 hl (by decide) rfl (fun ls hl => ?_)
            refine lv_aload_n hx hb dX5_right_57 rfl (lv_at hl 1 rfl) ?_
            refine lv_iload hx hb dX5_right_58 (lv_at hl 0 rfl) ?_
            refine lv_if_ne (tgt := 67) hx hb dX5_right_60 (by decide) (fun c9 => absurd c9 (by decide)) (fun _ => ?_)
            refine lv_iconst (v := 1) hx hb dX5_right_63 (by decide) ?_
            refine lv_goto (tgt := 81) hx hb dX5_right_64 (by decide) ?_
            refine va_put (D := (dC, dI)) (ci := 5) (v := .int 1) (ty := .int) (C := RX5) (T := TX5) (N := 25) hx hb hts hinX5 tyX5 tyX5_ok nmX5 hown hK hP hD hS 0 rfl rfl 0 (by decide) hfl66 (fun _ h9 => h9) rfl (by decide +kernel) rfl rfl (Nat.le_of_ble_eq_true rfl) dX5_right_81 (fun H locs hP hD hS => ?_)
            have hP : va_P (dC, dI) vwCl (wM am cI cZ 1 z v f) H := hP
            have hD : va_D A (wM am cI cZ 1 z v f) := hD
            refine lv_aload_n hx hb dX5_right_84 rfl (lv_at hl 1 rfl) ?_
            refine va_get (D := (dC, dI)) (ci := 5) (v := .int 1) (C := RX5) (T := TX5) (N := 25) hx hb hts hinX5 hown hK hP 0 rfl rfl 0 (by decide) hfl66 (fun _ h9 => h9) rfl dX5_right_85 ?_
            refine lv_if_le (tgt := 93) hx hb dX5_right_88 (by decide) (fun c9 => absurd c9 (by decide)) (fun _ => ?_)
            refine lv_iconst (v := 0) hx hb dX5_right_91 (by decide) ?_
            subst hF
            subst hQ9
            exact W.iret (v := 0) hx hb hr (fun t9 ht hW => ⟨⟨0, (), rfl, rfl, by show va_P (dC, dI) vwCl _ t9.heap; rw [ht]; exact hP⟩, hS.F ht⟩) hS.2.2 dX5_right_92
          · rw [if_neg c15] at hF
            have c15f : ¬ F_X5_isDay fr = 0 := by rw [← hr14]; exact c15
            refine lv_iload hx hb dX5_right_35 (lv_at hl 5 rfl) ?_
            refine vp_callSi (W.runS (As := [.int to]) (rest := []) ⟨hx, hb, hml, hown, hts⟩ (c_X5_isDay l to) (cwS 1 hts gX5_right_X5_isDay rfl rfl rfl (by decide +kernel) ⟨Nat.le_of_ble_eq_true rfl, Nat.le_of_ble_eq_true rfl⟩) preT rfl rfl hl.1 rfl (lv_room (Nat.le_of_ble_eq_true rfl)) dX5_right_37 ⟨Nat.zero_le _, Nat.zero_le _⟩) (fun r16 h9 => ?_)
            have hr16 : r16 = F_X5_isDay to := h9
            try rw [← hr16] at hF
            refine lv_if_eq (tgt := 54) hx hb dX5_right_40 (by decide) (fun c17 => ?_) (fun c17 => ?_)
            · rw [if_pos c17] at hF
              have c17f : F_X5_isDay to = 0 := by rw [← hr16]; exact c17
              refine lv_iconst (v := 0) hx hb dX5_right_54 (by decide) ?_
              refine lv_istore (lv' := [(6, .int 0), (0, .ref (am 0)), (1, .int t), (2, .int a), (3, .int pl), (4, .int fr), (5, .int to)]) hx hb dX5_right_55 hl (by decide) rfl (fun ls hl => ?_)
              refine lv_aload_n hx hb dX5_right_57 rfl (lv_at hl 1 rfl) ?_
              refine lv_iload hx hb dX5_right_58 (lv_at hl 0 rfl) ?_
              refine lv_if_ne (tgt := 67) hx hb dX5_right_60 (by decide) (fun c9 => absurd c9 (by decide)) (fun _ => ?_)
              refine lv_iconst (v := 1) hx hb dX5_right_63 (by decide) ?_
              refine lv_goto (tgt := 81) hx hb dX5_right_64 (by decide) ?_
              refine va_put (D := (dC, dI)) (ci := 5) (v := .int 1) (ty := .int) (C := RX5) (T := TX5) (N := 25) hx hb hts hinX5 tyX5 tyX5_ok nmX5 hown hK hP hD hS 0 rfl rfl 0 (by decide) hfl66 (fun _ h9 => h9) rfl (by decide +kernel) rfl rfl (Nat.le_of_ble_eq_true rfl) dX5_right_81 (fun H locs hP hD hS => ?_)
              have hP : va_P (dC, dI) vwCl (wM am cI cZ 1 z v f) H := hP
              have hD : va_D A (wM am cI cZ 1 z v f) := hD
              refine lv_aload_n hx hb dX5_right_84 rfl (lv_at hl 1 rfl) ?_
              refine va_get (D := (dC, dI)) (ci := 5) (v := .int 1) (C := RX5) (T := TX5) (N := 25) hx hb hts hinX5 hown hK hP 0 rfl rfl 0 (by decide) hfl66 (fun _ h9 => h9) rfl dX5_right_85 ?_
              refine lv_if_le (tgt := 93) hx hb dX5_right_88 (by decide) (fun c9 => absurd c9 (by decide)) (fun _ => ?_)
              refine lv_iconst (v := 0) hx hb dX5_right_91 (by decide) ?_
              subst hF
              subst hQ9
              exact W.iret (v := 0) hx hb hr (fun t9 ht hW => ⟨⟨0, (), rfl, rfl, by show va_P (dC, dI) vwCl _ t9.heap; rw [ht]; exact hP⟩, hS.F ht⟩) hS.2.2 dX5_right_92
            · rw [if_neg c17] at hF
              have c17f : ¬ F_X5_isDay to = 0 := by rw [← hr16]; exact c17
              refine lv_iload hx hb dX5_right_43 (lv_at hl 4 rfl) ?_
              refine lv_iload hx hb dX5_right_45 (lv_at hl 5 rfl) ?_
              refine lv_icmp_gt (tgt := 54) hx hb dX5_right_47 (by decide) (fun c18 => ?_) (fun c18 => ?_)
              · rw [if_pos c18] at hF
                refine lv_iconst (v := 0) hx hb dX5_right_54 (by decide) ?_
                refine lv_istore (lv' := [(6, .int 0), (0, .ref (am 0)), (1, .int t), (2, .int a), (3, .int pl), (4, .int fr), (5, .int to)]) hx hb dX5_right_55 hl (by decide) rfl (fun ls hl => ?_)
                refine lv_aload_n hx hb dX5_right_57 rfl (lv_at hl 1 rfl) ?_
                refine lv_iload hx hb dX5_right_58 (lv_at hl 0 rfl) ?_
                refine lv_if_ne (tgt := 67) hx hb dX5_right_60 (by decide) (fun c9 => absurd c9 (by decide)) (fun _ => ?_)
                refine lv_iconst (v := 1) hx hb dX5_right_63 (by decide) ?_
                refine lv_goto (tgt := 81) hx hb dX5_right_64 (by decide) ?_
                refine va_put (D := (dC, dI)) (ci := 5) (v := .int 1) (ty := .int) (C := RX5) (T := TX5) (N := 25) hx hb hts hinX5 tyX5 tyX5_ok nmX5 hown hK hP hD hS 0 rfl rfl 0 (by decide) hfl66 (fun _ h9 => h9) rfl (by decide +kernel) rfl rfl (Nat.le_of_ble_eq_true rfl) dX5_right_81 (fun H locs hP hD hS => ?_)
                have hP : va_P (dC, dI) vwCl (wM am cI cZ 1 z v f) H := hP
                have hD : va_D A (wM am cI cZ 1 z v f) := hD
                refine lv_aload_n hx hb dX5_right_84 rfl (lv_at hl 1 rfl) ?_
                refine va_get (D := (dC, dI)) (ci := 5) (v := .int 1) (C := RX5) (T := TX5) (N := 25) hx hb hts hinX5 hown hK hP 0 rfl rfl 0 (by decide) hfl66 (fun _ h9 => h9) rfl dX5_right_85 ?_
                refine lv_if_le (tgt := 93) hx hb dX5_right_88 (by decide) (fun c9 => absurd c9 (by decide)) (fun _ => ?_)
                refine lv_iconst (v := 0) hx hb dX5_right_91 (by decide) ?_
                subst hF
                subst hQ9
                exact W.iret (v := 0) hx hb hr (fun t9 ht hW => ⟨⟨0, (), rfl, rfl, by show va_P (dC, dI) vwCl _ t9.heap; rw [ht]; exact hP⟩, hS.F ht⟩) hS.2.2 dX5_right_92
              · rw [if_neg c18] at hF
                refine lv_iconst (v := 1) hx hb dX5_right_50 (by decide) ?_
                refine lv_goto (tgt := 55) hx hb dX5_right_51 (by decide) ?_
                refine lv_istore (lv' := [(6, .int 1), (0, .ref (am 0)), (1, .int t), (2, .int a), (3, .int pl), (4, .int fr), (5, .int to)]) hx hb dX5_right_55 hl (by decide) rfl (fun ls hl => ?_)
                refine lv_aload_n hx hb dX5_right_57 rfl (lv_at hl 1 rfl) ?_
                refine lv_iload hx hb dX5_right_58 (lv_at hl 0 rfl) ?_
                refine lv_if_ne (tgt := 67) hx hb dX5_right_60 (by decide) (fun _ => ?_) (fun c9 => absurd c9 (by decide))
                refine lv_aload_n hx hb dX5_right_67 rfl (lv_at hl 1 rfl) ?_
                refine va_get (D := (dC, dI)) (ci := 5) (v := .int (nI (z 1))) (C := RX5) (T := TX5) (N := 25) hx hb hts hinX5 hown hK hP 0 rfl rfl 2 (by decide) hfl87 (fun _ h9 => h9) rfl dX5_right_68 ?_
                refine lv_bipush (v := 60) hx hb dX5_right_71 (by decide) ?_
                refine lv_icmp_ne (tgt := 80) hx hb dX5_right_73 (by decide) (fun c19 => ?_) (fun c19 => ?_)
                · have c19 : ¬ z 1 = 60 := fun h9 => c19 ((nI_eq (a := z 1) (b := 60) (by omega) (by omega)).mpr h9)
                  rw [if_neg c19] at hF
                  refine lv_iconst (v := 0) hx hb dX5_right_80 (by decide) ?_
                  refine va_put (D := (dC, dI)) (ci := 5) (v := .int 0) (ty := .int) (C := RX5) (T := TX5) (N := 25) hx hb hts hinX5 tyX5 tyX5_ok nmX5 hown hK hP hD hS 0 rfl rfl 0 (by decide) hfl66 (fun _ h9 => h9) rfl (by decide +kernel) rfl rfl (Nat.le_of_ble_eq_true rfl) dX5_right_81 (fun H locs hP hD hS => ?_)
                  have hP : va_P (dC, dI) vwCl (wM am cI cZ 0 z v f) H := hP
                  have hD : va_D A (wM am cI cZ 0 z v f) := hD
                  refine lv_aload_n hx hb dX5_right_84 rfl (lv_at hl 1 rfl) ?_
                  refine va_get (D := (dC, dI)) (ci := 5) (v := .int 0) (C := RX5) (T := TX5) (N := 25) hx hb hts hinX5 hown hK hP 0 rfl rfl 0 (by decide) hfl66 (fun _ h9 => h9) rfl dX5_right_85 ?_
                  refine lv_if_le (tgt := 93) hx hb dX5_right_88 (by decide) (fun _ => ?_) (fun c9 => absurd c9 (by decide))
                  refine lv_aload_n hx hb dX5_right_93 rfl (lv_at hl 1 rfl) ?_
                  refine va_get (D := (dC, dI)) (ci := 5) (v := .ref (am 5)) (C := RX5) (T := TX5) (N := 25) hx hb hts hinX5 hown hK hP 0 rfl rfl 10 (by decide) hfl22 (fun _ h9 => h9) rfl dX5_right_94 ?_
                  refine lv_aload_n hx hb dX5_right_97 rfl (lv_at hl 1 rfl) ?_
                  refine va_get (D := (dC, dI)) (ci := 5) (v := .int (nI (z 1))) (C := RX5) (T := TX5) (N := 25) hx hb hts hinX5 hown hK hP 0 rfl rfl 2 (by decide) hfl87 (fun _ h9 => h9) rfl dX5_right_98 ?_
                  refine lv_iload_n hx hb dX5_right_101 rfl (lv_at hl 2 rfl) ?_
                  refine xa_ist hx hb hK hP hD hS 5 0 rfl rfl (by omega) (by decide) dX5_right_102 (fun H locs hP hD hS => ?_)
                  have hP : va_P (dC, dI) vwCl (wM am cI cZ 0 z v (uu f 4 (upd (f 4) (z 1) t))) H := hP
                  have hD : va_D A (wM am cI cZ 0 z v (uu f 4 (upd (f 4) (z 1) t))) := hD
                  refine lv_aload_n hx hb dX5_right_103 rfl (lv_at hl 1 rfl) ?_
                  refine va_get (D := (dC, dI)) (ci := 5) (v := .ref (am 6)) (C := RX5) (T := TX5) (N := 25) hx hb hts hinX5 hown hK hP 0 rfl rfl 11 (by decide) hfl25 (fun _ h9 => h9) rfl dX5_right_104 ?_
                  refine lv_aload_n hx hb dX5_right_107 rfl (lv_at hl 1 rfl) ?_
                  refine va_get (D := (dC, dI)) (ci := 5) (v := .int (nI (z 1))) (C := RX5) (T := TX5) (N := 25) hx hb hts hinX5 hown hK hP 0 rfl rfl 2 (by decide) hfl87 (fun _ h9 => h9) rfl dX5_right_108 ?_
                  refine lv_iload_n hx hb dX5_right_111 rfl (lv_at hl 3 rfl) ?_
                  refine xa_ist hx hb hK hP hD hS 6 0 rfl rfl (by omega) (by decide) dX5_right_112 (fun H locs hP hD hS => ?_)
                  have hP : va_P (dC, dI) vwCl (wM am cI cZ 0 z v (uu (uu f 4 (upd (f 4) (z 1) t)) 5 (upd (f 5) (z 1) a))) H := hP
                  have hD : va_D A (wM am cI cZ 0 z v (uu (uu f 4 (upd (f 4) (z 1) t)) 5 (upd (f 5) (z 1) a))) := hD
                  refine lv_aload_n hx hb dX5_right_113 rfl (lv_at hl 1 rfl) ?_
                  refine va_get (D := (dC, dI)) (ci := 5) (v := .ref (am 7)) (C := RX5) (T := TX5) (N := 25) hx hb hts hinX5 hown hK hP 0 rfl rfl 12 (by decide) hfl28 (fun _ h9 => h9) rfl dX5_right_114 ?_
                  refine lv_aload_n hx hb dX5_right_117 rfl (lv_at hl 1 rfl) ?_
                  refine va_get (D := (dC, dI)) (ci := 5) (v := .int (nI (z 1))) (C := RX5) (T := TX5) (N := 25) hx hb hts hinX5 hown hK hP 0 rfl rfl 2 (by decide) hfl87 (fun _ h9 => h9) rfl dX5_right_118 ?_
                  refine lv_iload_n hx hb dX5_right_121 rfl (lv_at hl 4 rfl) ?_
                  refine xa_ist hx hb hK hP hD hS 7 0 rfl rfl (by omega) (by decide) dX5_right_122 (fun H locs hP hD hS => ?_)
                  have hP : va_P (dC, dI) vwCl (wM am cI cZ 0 z v (uu (uu (uu f 4 (upd (f 4) (z 1) t)) 5 (upd (f 5) (z 1) a)) 6 (upd (f 6) (z 1) pl))) H := hP
                  have hD : va_D A (wM am cI cZ 0 z v (uu (uu (uu f 4 (upd (f 4) (z 1) t)) 5 (upd (f 5) (z 1) a)) 6 (upd (f 6) (z 1) pl))) := hD
                  refine lv_aload_n hx hb dX5_right_123 rfl (lv_at hl 1 rfl) ?_
                  refine va_get (D := (dC, dI)) (ci := 5) (v := .ref (am 8)) (C := RX5) (T := TX5) (N := 25) hx hb hts hinX5 hown hK hP 0 rfl rfl 13 (by decide) hfl31 (fun _ h9 => h9) rfl dX5_right_124 ?_
                  refine lv_aload_n hx hb dX5_right_127 rfl (lv_at hl 1 rfl) ?_
                  refine va_get (D := (dC, dI)) (ci := 5) (v := .int (nI (z 1))) (C := RX5) (T := TX5) (N := 25) hx hb hts hinX5 hown hK hP 0 rfl rfl 2 (by decide) hfl87 (fun _ h9 => h9) rfl dX5_right_128 ?_
                  refine lv_iload hx hb dX5_right_131 (lv_at hl 5 rfl) ?_
                  refine xa_ist hx hb hK hP hD hS 8 0 rfl rfl (by omega) (by decide) dX5_right_133 (fun H locs hP hD hS => ?_)
                  have hP : va_P (dC, dI) vwCl (wM am cI cZ 0 z v (uu (uu (uu (uu f 4 (upd (f 4) (z 1) t)) 5 (upd (f 5) (z 1) a)) 6 (upd (f 6) (z 1) pl)) 7 (upd (f 7) (z 1) fr))) H := hP
                  have hD : va_D A (wM am cI cZ 0 z v (uu (uu (uu (uu f 4 (upd (f 4) (z 1) t)) 5 (upd (f 5) (z 1) a)) 6 (upd (f 6) (z 1) pl)) 7 (upd (f 7) (z 1) fr))) := hD
                  refine lv_aload_n hx hb dX5_right_134 rfl (lv_at hl 1 rfl) ?_
                  refine va_get (D := (dC, dI)) (ci := 5) (v := .ref (am 9)) (C := RX5) (T := TX5) (N := 25) hx hb hts hinX5 hown hK hP 0 rfl rfl 14 (by decide) hfl34 (fun _ h9 => h9) rfl dX5_right_135 ?_
                  refine lv_aload_n hx hb dX5_right_138 rfl (lv_at hl 1 rfl) ?_
                  refine va_get (D := (dC, dI)) (ci := 5) (v := .int (nI (z 1))) (C := RX5) (T := TX5) (N := 25) hx hb hts hinX5 hown hK hP 0 rfl rfl 2 (by decide) hfl87 (fun _ h9 => h9) rfl dX5_right_139 ?_
                  refine lv_iload hx hb dX5_right_142 (lv_at hl 6 rfl) ?_
                  refine xa_ist hx hb hK hP hD hS 9 0 rfl rfl (by omega) (by decide) dX5_right_144 (fun H locs hP hD hS => ?_)
                  have hP : va_P (dC, dI) vwCl (wM am cI cZ 0 z v (uu (uu (uu (uu (uu f 4 (upd (f 4) (z 1) t)) 5 (upd (f 5) (z 1) a)) 6 (upd (f 6) (z 1) pl)) 7 (upd (f 7) (z 1) fr)) 8 (upd (f 8) (z 1) to))) H := hP
                  have hD : va_D A (wM am cI cZ 0 z v (uu (uu (uu (uu (uu f 4 (upd (f 4) (z 1) t)) 5 (upd (f 5) (z 1) a)) 6 (upd (f 6) (z 1) pl)) 7 (upd (f 7) (z 1) fr)) 8 (upd (f 8) (z 1) to))) := hD
                  refine lv_aload_n hx hb dX5_right_145 rfl (lv_at hl 1 rfl) ?_
                  refine lv_dup hx hb dX5_right_146 rfl ?_
                  refine va_get (D := (dC, dI)) (ci := 5) (v := .int (nI (z 1))) (C := RX5) (T := TX5) (N := 25) hx hb hts hinX5 hown hK hP 0 rfl rfl 2 (by decide) hfl87 (fun _ h9 => h9) rfl dX5_right_147 ?_
                  refine lv_iconst (v := 1) hx hb dX5_right_150 (by decide) ?_
                  refine lv_iadd hx hb dX5_right_151 ?_
                  refine xe_top (nI_1 _) ?_
                  refine va_put (D := (dC, dI)) (ci := 5) (v := .int (nI (z 1 + 1))) (ty := .int) (C := RX5) (T := TX5) (N := 25) hx hb hts hinX5 tyX5 tyX5_ok nmX5 hown hK hP hD hS 0 rfl rfl 2 (by decide) hfl87 (fun _ h9 => h9) rfl (by decide +kernel) rfl rfl (Nat.le_of_ble_eq_true rfl) dX5_right_152 (fun H locs hP hD hS => ?_)
                  have hP : va_P (dC, dI) vwCl (wM am cI cZ 0 (uu z 1 (z 1 + 1)) v (uu (uu (uu (uu (uu f 4 (upd (f 4) (z 1) t)) 5 (upd (f 5) (z 1) a)) 6 (upd (f 6) (z 1) pl)) 7 (upd (f 7) (z 1) fr)) 8 (upd (f 8) (z 1) to))) H := hP
                  have hD : va_D A (wM am cI cZ 0 (uu z 1 (z 1 + 1)) v (uu (uu (uu (uu (uu f 4 (upd (f 4) (z 1) t)) 5 (upd (f 5) (z 1) a)) 6 (upd (f 6) (z 1) pl)) 7 (upd (f 7) (z 1) fr)) 8 (upd (f 8) (z 1) to))) := hD
                  refine lv_aload_n hx hb dX5_right_155 rfl (lv_at hl 1 rfl) ?_
                  refine va_get (D := (dC, dI)) (ci := 5) (v := .int (nI (z 1 + 1))) (C := RX5) (T := TX5) (N := 25) hx hb hts hinX5 hown hK hP 0 rfl rfl 2 (by decide) hfl87 (fun _ h9 => h9) rfl dX5_right_156 ?_
                  subst hF
                  subst hQ9
                  exact W.iret (v := nI (z 1 + 1)) hx hb hr (fun t9 ht hW => ⟨⟨(nI (z 1 + 1)), (), rfl, rfl, by show va_P (dC, dI) vwCl _ t9.heap; rw [ht]; exact hP⟩, hS.F ht⟩) hS.2.2 dX5_right_159
                · have c19 : z 1 = 60 := (nI_eq (a := z 1) (b := 60) (by omega) (by omega)).mp c19
                  rw [if_pos c19] at hF
                  refine lv_iconst (v := 2) hx hb dX5_right_76 (by decide) ?_
                  refine lv_goto (tgt := 81) hx hb dX5_right_77 (by decide) ?_
                  refine va_put (D := (dC, dI)) (ci := 5) (v := .int 2) (ty := .int) (C := RX5) (T := TX5) (N := 25) hx hb hts hinX5 tyX5 tyX5_ok nmX5 hown hK hP hD hS 0 rfl rfl 0 (by decide) hfl66 (fun _ h9 => h9) rfl (by decide +kernel) rfl rfl (Nat.le_of_ble_eq_true rfl) dX5_right_81 (fun H locs hP hD hS => ?_)
                  have hP : va_P (dC, dI) vwCl (wM am cI cZ 2 z v f) H := hP
                  have hD : va_D A (wM am cI cZ 2 z v f) := hD
                  refine lv_aload_n hx hb dX5_right_84 rfl (lv_at hl 1 rfl) ?_
                  refine va_get (D := (dC, dI)) (ci := 5) (v := .int 2) (C := RX5) (T := TX5) (N := 25) hx hb hts hinX5 hown hK hP 0 rfl rfl 0 (by decide) hfl66 (fun _ h9 => h9) rfl dX5_right_85 ?_
                  refine lv_if_le (tgt := 93) hx hb dX5_right_88 (by decide) (fun c9 => absurd c9 (by decide)) (fun _ => ?_)
                  refine lv_iconst (v := 0) hx hb dX5_right_91 (by decide) ?_
                  subst hF
                  subst hQ9
                  exact W.iret (v := 0) hx hb hr (fun t9 ht hW => ⟨⟨0, (), rfl, rfl, by show va_P (dC, dI) vwCl _ t9.heap; rw [ht]; exact hP⟩, hS.F ht⟩) hS.2.2 dX5_right_92
def F_X5_mandate (z : Nat → Nat) (v : Nat → Int32) (f : Nat → Nat → Int32) (fr to di un : Int32) : Int32 × Int32 × (Nat → Nat) × (Nat → Int32) × (Nat → Nat → Int32) :=
  if F_X5_areTwo z v f fr to = 0 then
    (0, 1, z, v, f)
  else
    if F_X5_isDay un = 0 then
      (0, 1, z, v, f)
    else
      if z 2 = 60 then
        (0, 2, z, v, f)
      else
        (nI (z 2 + 1), 0, uu z 2 (z 2 + 1), v, uu (uu (uu (uu f 9 (upd (f 9) (z 2) fr)) 10 (upd (f 10) (z 2) to)) 11 (upd (f 11) (z 2) di)) 12 (upd (f 12) (z 2) un))
set_option maxHeartbeats 4000000 in
set_option maxRecDepth 100000 in
theorem c_X5_mandate (l : Launch) (dC : Nat → ClassId) (dI : Nat → Nat → Nat) (am : Nat → Nat) (cI cZ : ClassId) (th : Int32) (z : Nat → Nat) (v : Nat → Int32) (f : Nat → Nat → Int32) (sz : Nat) (fr to di un : Int32) (hok : okM z v f) (hdi : zB di) : Met l yX5_mandate wsX5_mandate ({ frames := 2, cells := 0, slots := 0, locals := 43 }) (va_Pc [.ref (am 0), .int fr, .int to, .int di, .int un] (fun U => U.heap.size = sz ∧ va_D (fun _ => True) (wM am cI cZ th z v f) ∧ kM dC dI am cI cZ th z v f U)) (va_Qi (fun (r : Int32) (_ : Unit) => r = (F_X5_mandate z v f fr to di un).1) (fun _ U9 => va_P (dC, dI) vwCl (wM am cI cZ ((F_X5_mandate z v f fr to di un).2.1) ((F_X5_mandate z v f fr to di un).2.2.1) ((F_X5_mandate z v f fr to di un).2.2.2.1) ((F_X5_mandate z v f fr to di un).2.2.2.2)) U9.heap) (va_A (wM am cI cZ th z v f) sz)) 0 0 (va_A (wM am cI cZ th z v f) sz) := by
  refine Met.ofW (cc := cX5_mandate) (maxL := 5) (ret := (some .int)) (by decide) rfl ?_
  intro p e s m args below meth c s₁ B hml hv
  obtain ⟨rfl, hsz, hD0, hP, hK, hN⟩ := hv
  have hx := B.exec
  have hb := B.bytes
  have hr := B.returns
  have hts := atoms_spec (ws := wsX5_mandate) B.pre
  have hown : s.vm.findClass RX5 = some m.cls := findClass_of_methodNamed B.named
  have hlocks := B.notSynchronized
  have hok9 := hok
  obtain ⟨hz0, hz1, hz2, hz3, hz4, hbz, hbs, hdp, hgv⟩ := hok9
  have hfl111 := hts (.fieldLink RX5 111 "TraderRightsModel" "mandates" "I") (List.mem_of_getElem? (i := 1) rfl)
  have hfl37 := hts (.fieldLink RX5 37 "TraderRightsModel" "giver" "[I") (List.mem_of_getElem? (i := 3) rfl)
  have hfl40 := hts (.fieldLink RX5 40 "TraderRightsModel" "taker" "[I") (List.mem_of_getElem? (i := 4) rfl)
  have hfl43 := hts (.fieldLink RX5 43 "TraderRightsModel" "isDirect" "[Z") (List.mem_of_getElem? (i := 5) rfl)
  have hfl47 := hts (.fieldLink RX5 47 "TraderRightsModel" "until" "[I") (List.mem_of_getElem? (i := 6) rfl)
  have hfl66 := hts (.fieldLink RX5 66 "TraderRightsModel" "thrown" "I") (List.mem_of_getElem? (i := 2) rfl)
  have hinX5 : ∀ w ∈ u_ws RX5 TX5 25, w ∈ wsX5_mandate := fun w h => List.mem_cons_of_mem _ (List.mem_append_right _ h)
  subst hsz
  have hD := hD0.self (sz := s.heap.size)
  generalize hAe : va_A (wM am cI cZ th z v f) s.heap.size = A at hD ⊢
  have hA : ∀ q : Nat, s.heap.size ≤ q → A q := fun q h => by rw [← hAe]; exact Or.inr h
  have hS : va_S A s.heap s.heap [] := va_S.rf
  have hl := lv_entry ([.ref (am 0), .int fr, .int to, .int di, .int un]) (n := 5) (Nat.le_of_ble_eq_true rfl)
  rw [lg_entry_eq]
  generalize (lg_sl ([.ref (am 0), .int fr, .int to, .int di, .int un]) ++ List.replicate (5 - (lg_sl ([.ref (am 0), .int fr, .int to, .int di, .int un])).length) Slot.unset).toArray = ls at hl ⊢
  have hl : lv_has ls 5 [(0, .ref (am 0)), (1, .int fr), (2, .int to), (3, .int di), (4, .int un)] := hl
  generalize hF : F_X5_mandate z v f fr to di un = R9
  generalize hQ9 : MQ below _ _ s 0 0 A = Q9
  rw [F_X5_mandate] at hF
  refine lv_aload_n hx hb dX5_mandate_0 rfl (lv_at hl 0 rfl) ?_
  refine lv_aload_n hx hb dX5_mandate_1 rfl (lv_at hl 0 rfl) ?_
  refine lv_iload_n hx hb dX5_mandate_2 rfl (lv_at hl 1 rfl) ?_
  refine lv_iload_n hx hb dX5_mandate_3 rfl (lv_at hl 2 rfl) ?_
  refine vp_callSi (W.runV (As := [.int fr, .int to]) (rest := [.ref (am 0)]) ⟨hx, hb, hml, hown, hts⟩ (c_X5_areTwo l dC dI am cI cZ th z v f fr to hok) (cwV 2 hts gX5_mandate_X5_areTwo rfl rfl rfl (by decide +kernel) ⟨Nat.le_of_ble_eq_true rfl, Nat.le_of_ble_eq_true rfl⟩) (preM (ci := 5) (q0 := 0) hP hK hN rfl rfl rfl) rfl rfl hl.1 rfl (lv_room (Nat.le_of_ble_eq_true rfl)) dX5_mandate_4 ⟨Nat.zero_le _, Nat.zero_le _⟩) (fun r1 h9 => ?_)
  have hr1 : r1 = F_X5_areTwo z v f fr to := h9
  try rw [← hr1] at hF
  refine lv_if_eq (tgt := 18) hx hb dX5_mandate_7 (by decide) (fun c2 => ?_) (fun c2 => ?_)
  · rw [if_pos c2] at hF
    have c2f : F_X5_areTwo z v f fr to = 0 := by rw [← hr1]; exact c2
    refine lv_iconst (v := 1) hx hb dX5_mandate_18 (by decide) ?_
    refine lv_goto (tgt := 36) hx hb dX5_mandate_19 (by decide) ?_
    refine va_put (D := (dC, dI)) (ci := 5) (v := .int 1) (ty := .int) (C := RX5) (T := TX5) (N := 25) hx hb hts hinX5 tyX5 tyX5_ok nmX5 hown hK hP hD hS 0 rfl rfl 0 (by decide) hfl66 (fun _ h9 => h9) rfl (by decide +kernel) rfl rfl (Nat.le_of_ble_eq_true rfl) dX5_mandate_36 (fun H locs hP hD hS => ?_)
    have hP : va_P (dC, dI) vwCl (wM am cI cZ 1 z v f) H := hP
    have hD : va_D A (wM am cI cZ 1 z v f) := hD
    refine lv_aload_n hx hb dX5_mandate_39 rfl (lv_at hl 0 rfl) ?_
    refine va_get (D := (dC, dI)) (ci := 5) (v := .int 1) (C := RX5) (T := TX5) (N := 25) hx hb hts hinX5 hown hK hP 0 rfl rfl 0 (by decide) hfl66 (fun _ h9 => h9) rfl dX5_mandate_40 ?_
    refine lv_if_le (tgt := 48) hx hb dX5_mandate_43 (by decide) (fun c9 => absurd c9 (by decide)) (fun _ => ?_)
    refine lv_iconst (v := 0) hx hb dX5_mandate_46 (by decide) ?_
    subst hF
    subst hQ9
    exact W.iret (v := 0) hx hb hr (fun t9 ht hW => ⟨⟨0, (), rfl, rfl, by show va_P (dC, dI) vwCl _ t9.heap; rw [ht]; exact hP⟩, hS.F ht⟩) hS.2.2 dX5_mandate_47
  · rw [if_neg c2] at hF
    have c2f : ¬ F_X5_areTwo z v f fr to = 0 := by rw [← hr1]; exact c2
    refine lv_iload hx hb dX5_mandate_10 (lv_at hl 4 rfl) ?_
    refine vp_callSi (W.runS (As := [.int un]) (rest := [.ref (am 0)]) ⟨hx, hb, hml, hown, hts⟩ (c_X5_isDay l un) (cwS 1 hts gX5_mandate_X5_isDay rfl rfl rfl (by decide +kernel) ⟨Nat.le_of_ble_eq_true rfl, Nat.le_of_ble_eq_true rfl⟩) preT rfl rfl hl.1 rfl (lv_room (Nat.le_of_ble_eq_true rfl)) dX5_mandate_12 ⟨Nat.zero_le _, Nat.zero_le _⟩) (fun r3 h9 => ?_)
    have hr3 : r3 = F_X5_isDay un := h9
    try rw [← hr3] at hF
    refine lv_if_ne (tgt := 22) hx hb dX5_mandate_15 (by decide) (fun c4 => ?_) (fun c4 => ?_)
    · rw [if_neg c4] at hF
      have c4f : ¬ F_X5_isDay un = 0 := by rw [← hr3]; exact c4
      refine lv_aload_n hx hb dX5_mandate_22 rfl (lv_at hl 0 rfl) ?_
      refine va_get (D := (dC, dI)) (ci := 5) (v := .int (nI (z 2))) (C := RX5) (T := TX5) (N := 25) hx hb hts hinX5 hown hK hP 0 rfl rfl 3 (by decide) hfl111 (fun _ h9 => h9) rfl dX5_mandate_23 ?_
      refine lv_bipush (v := 60) hx hb dX5_mandate_26 (by decide) ?_
      refine lv_icmp_ne (tgt := 35) hx hb dX5_mandate_28 (by decide) (fun c5 => ?_) (fun c5 => ?_)
      · have c5 : ¬ z 2 = 60 := fun h9 => c5 ((nI_eq (a := z 2) (b := 60) (by omega) (by omega)).mpr h9)
        rw [if_neg c5] at hF
        refine lv_iconst (v := 0) hx hb dX5_mandate_35 (by decide) ?_
        refine va_put (D := (dC, dI)) (ci := 5) (v := .int 0) (ty := .int) (C := RX5) (T := TX5) (N := 25) hx hb hts hinX5 tyX5 tyX5_ok nmX5 hown hK hP hD hS 0 rfl rfl 0 (by decide) hfl66 (fun _ h9 => h9) rfl (by decide +kernel) rfl rfl (Nat.le_of_ble_eq_true rfl) dX5_mandate_36 (fun H locs hP hD hS => ?_)
        have hP : va_P (dC, dI) vwCl (wM am cI cZ 0 z v f) H := hP
        have hD : va_D A (wM am cI cZ 0 z v f) := hD
        refine lv_aload_n hx hb dX5_mandate_39 rfl (lv_at hl 0 rfl) ?_
        refine va_get (D := (dC, dI)) (ci := 5) (v := .int 0) (C := RX5) (T := TX5) (N := 25) hx hb hts hinX5 hown hK hP 0 rfl rfl 0 (by decide) hfl66 (fun _ h9 => h9) rfl dX5_mandate_40 ?_
        refine lv_if_le (tgt := 48) hx hb dX5_mandate_43 (by decide) (fun _ => ?_) (fun c9 => absurd c9 (by decide))
        refine lv_aload_n hx hb dX5_mandate_48 rfl (lv_at hl 0 rfl) ?_
        refine va_get (D := (dC, dI)) (ci := 5) (v := .ref (am 10)) (C := RX5) (T := TX5) (N := 25) hx hb hts hinX5 hown hK hP 0 rfl rfl 15 (by decide) hfl37 (fun _ h9 => h9) rfl dX5_mandate_49 ?_
        refine lv_aload_n hx hb dX5_mandate_52 rfl (lv_at hl 0 rfl) ?_
        refine va_get (D := (dC, dI)) (ci := 5) (v := .int (nI (z 2))) (C := RX5) (T := TX5) (N := 25) hx hb hts hinX5 hown hK hP 0 rfl rfl 3 (by decide) hfl111 (fun _ h9 => h9) rfl dX5_mandate_53 ?_
        refine lv_iload_n hx hb dX5_mandate_56 rfl (lv_at hl 1 rfl) ?_
        refine xa_ist hx hb hK hP hD hS 10 0 rfl rfl (by omega) (by decide) dX5_mandate_57 (fun H locs hP hD hS => ?_)
        have hP : va_P (dC, dI) vwCl (wM am cI cZ 0 z v (uu f 9 (upd (f 9) (z 2) fr))) H := hP
        have hD : va_D A (wM am cI cZ 0 z v (uu f 9 (upd (f 9) (z 2) fr))) := hD
        refine lv_aload_n hx hb dX5_mandate_58 rfl (lv_at hl 0 rfl) ?_
        refine va_get (D := (dC, dI)) (ci := 5) (v := .ref (am 11)) (C := RX5) (T := TX5) (N := 25) hx hb hts hinX5 hown hK hP 0 rfl rfl 16 (by decide) hfl40 (fun _ h9 => h9) rfl dX5_mandate_59 ?_
        refine lv_aload_n hx hb dX5_mandate_62 rfl (lv_at hl 0 rfl) ?_
        refine va_get (D := (dC, dI)) (ci := 5) (v := .int (nI (z 2))) (C := RX5) (T := TX5) (N := 25) hx hb hts hinX5 hown hK hP 0 rfl rfl 3 (by decide) hfl111 (fun _ h9 => h9) rfl dX5_mandate_63 ?_
        refine lv_iload_n hx hb dX5_mandate_66 rfl (lv_at hl 2 rfl) ?_
        refine xa_ist hx hb hK hP hD hS 11 0 rfl rfl (by omega) (by decide) dX5_mandate_67 (fun H locs hP hD hS => ?_)
        have hP : va_P (dC, dI) vwCl (wM am cI cZ 0 z v (uu (uu f 9 (upd (f 9) (z 2) fr)) 10 (upd (f 10) (z 2) to))) H := hP
        have hD : va_D A (wM am cI cZ 0 z v (uu (uu f 9 (upd (f 9) (z 2) fr)) 10 (upd (f 10) (z 2) to))) := hD
        refine lv_aload_n hx hb dX5_mandate_68 rfl (lv_at hl 0 rfl) ?_
        refine va_get (D := (dC, dI)) (ci := 5) (v := .ref (am 12)) (C := RX5) (T := TX5) (N := 25) hx hb hts hinX5 hown hK hP 0 rfl rfl 17 (by decide) hfl43 (fun _ h9 => h9) rfl dX5_mandate_69 ?_
        refine lv_aload_n hx hb dX5_mandate_72 rfl (lv_at hl 0 rfl) ?_
        refine va_get (D := (dC, dI)) (ci := 5) (v := .int (nI (z 2))) (C := RX5) (T := TX5) (N := 25) hx hb hts hinX5 hown hK hP 0 rfl rfl 3 (by decide) hfl111 (fun _ h9 => h9) rfl dX5_mandate_73 ?_
        refine lv_iload_n hx hb dX5_mandate_76 rfl (lv_at hl 3 rfl) ?_
        refine xa_zst hx hb hK hP hD hS 12 1 rfl rfl (zB_nar (by assumption)) (by omega) (by decide) dX5_mandate_77 (fun H locs hP hD hS => ?_)
        have hP : va_P (dC, dI) vwCl (wM am cI cZ 0 z v (uu (uu (uu f 9 (upd (f 9) (z 2) fr)) 10 (upd (f 10) (z 2) to)) 11 (upd (f 11) (z 2) di))) H := hP
        have hD : va_D A (wM am cI cZ 0 z v (uu (uu (uu f 9 (upd (f 9) (z 2) fr)) 10 (upd (f 10) (z 2) to)) 11 (upd (f 11) (z 2) di))) := hD
        refine lv_aload_n hx hb dX5_mandate_78 rfl (lv_at hl 0 rfl) ?_
        refine va_get (D := (dC, dI)) (ci := 5) (v := .ref (am 13)) (C := RX5) (T := TX5) (N := 25) hx hb hts hinX5 hown hK hP 0 rfl rfl 18 (by decide) hfl47 (fun _ h9 => h9) rfl dX5_mandate_79 ?_
        refine lv_aload_n hx hb dX5_mandate_82 rfl (lv_at hl 0 rfl) ?_
        refine va_get (D := (dC, dI)) (ci := 5) (v := .int (nI (z 2))) (C := RX5) (T := TX5) (N := 25) hx hb hts hinX5 hown hK hP 0 rfl rfl 3 (by decide) hfl111 (fun _ h9 => h9) rfl dX5_mandate_83 ?_
        refine lv_iload hx hb dX5_mandate_86 (lv_at hl 4 rfl) ?_
        refine xa_ist hx hb hK hP hD hS 13 0 rfl rfl (by omega) (by decide) dX5_mandate_88 (fun H locs hP hD hS => ?_)
        have hP : va_P (dC, dI) vwCl (wM am cI cZ 0 z v (uu (uu (uu (uu f 9 (upd (f 9) (z 2) fr)) 10 (upd (f 10) (z 2) to)) 11 (upd (f 11) (z 2) di)) 12 (upd (f 12) (z 2) un))) H := hP
        have hD : va_D A (wM am cI cZ 0 z v (uu (uu (uu (uu f 9 (upd (f 9) (z 2) fr)) 10 (upd (f 10) (z 2) to)) 11 (upd (f 11) (z 2) di)) 12 (upd (f 12) (z 2) un))) := hD
        refine lv_aload_n hx hb dX5_mandate_89 rfl (lv_at hl 0 rfl) ?_
        refine lv_dup hx hb dX5_mandate_90 rfl ?_
        refine va_get (D := (dC, dI)) (ci := 5) (v := .int (nI (z 2))) (C := RX5) (T := TX5) (N := 25) hx hb hts hinX5 hown hK hP 0 rfl rfl 3 (by decide) hfl111 (fun _ h9 => h9) rfl dX5_mandate_91 ?_
        refine lv_iconst (v := 1) hx hb dX5_mandate_94 (by decide) ?_
        refine lv_iadd hx hb dX5_mandate_95 ?_
        refine xe_top (nI_1 _) ?_
        refine va_put (D := (dC, dI)) (ci := 5) (v := .int (nI (z 2 + 1))) (ty := .int) (C := RX5) (T := TX5) (N := 25) hx hb hts hinX5 tyX5 tyX5_ok nmX5 hown hK hP hD hS 0 rfl rfl 3 (by decide) hfl111 (fun _ h9 => h9) rfl (by decide +kernel) rfl rfl (Nat.le_of_ble_eq_true rfl) dX5_mandate_96 (fun H locs hP hD hS => ?_)
        have hP : va_P (dC, dI) vwCl (wM am cI cZ 0 (uu z 2 (z 2 + 1)) v (uu (uu (uu (uu f 9 (upd (f 9) (z 2) fr)) 10 (upd (f 10) (z 2) to)) 11 (upd (f 11) (z 2) di)) 12 (upd (f 12) (z 2) un))) H := hP
        have hD : va_D A (wM am cI cZ 0 (uu z 2 (z 2 + 1)) v (uu (uu (uu (uu f 9 (upd (f 9) (z 2) fr)) 10 (upd (f 10) (z 2) to)) 11 (upd (f 11) (z 2) di)) 12 (upd (f 12) (z 2) un))) := hD
        refine lv_aload_n hx hb dX5_mandate_99 rfl (lv_at hl 0 rfl) ?_
        refine va_get (D := (dC, dI)) (ci := 5) (v := .int (nI (z 2 + 1))) (C := RX5) (T := TX5) (N := 25) hx hb hts hinX5 hown hK hP 0 rfl rfl 3 (by decide) hfl111 (fun _ h9 => h9) rfl dX5_mandate_100 ?_
        subst hF
        subst hQ9
        exact W.iret (v := nI (z 2 + 1)) hx hb hr (fun t9 ht hW => ⟨⟨(nI (z 2 + 1)), (), rfl, rfl, by show va_P (dC, dI) vwCl _ t9.heap; rw [ht]; exact hP⟩, hS.F ht⟩) hS.2.2 dX5_mandate_103
      · have c5 : z 2 = 60 := (nI_eq (a := z 2) (b := 60) (by omega) (by omega)).mp c5
        rw [if_pos c5] at hF
        refine lv_iconst (v := 2) hx hb dX5_mandate_31 (by decide) ?_
        refine lv_goto (tgt := 36) hx hb dX5_mandate_32 (by decide) ?_
        refine va_put (D := (dC, dI)) (ci := 5) (v := .int 2) (ty := .int) (C := RX5) (T := TX5) (N := 25) hx hb hts hinX5 tyX5 tyX5_ok nmX5 hown hK hP hD hS 0 rfl rfl 0 (by decide) hfl66 (fun _ h9 => h9) rfl (by decide +kernel) rfl rfl (Nat.le_of_ble_eq_true rfl) dX5_mandate_36 (fun H locs hP hD hS => ?_)
        have hP : va_P (dC, dI) vwCl (wM am cI cZ 2 z v f) H := hP
        have hD : va_D A (wM am cI cZ 2 z v f) := hD
        refine lv_aload_n hx hb dX5_mandate_39 rfl (lv_at hl 0 rfl) ?_
        refine va_get (D := (dC, dI)) (ci := 5) (v := .int 2) (C := RX5) (T := TX5) (N := 25) hx hb hts hinX5 hown hK hP 0 rfl rfl 0 (by decide) hfl66 (fun _ h9 => h9) rfl dX5_mandate_40 ?_
        refine lv_if_le (tgt := 48) hx hb dX5_mandate_43 (by decide) (fun c9 => absurd c9 (by decide)) (fun _ => ?_)
        refine lv_iconst (v := 0) hx hb dX5_mandate_46 (by decide) ?_
        subst hF
        subst hQ9
        exact W.iret (v := 0) hx hb hr (fun t9 ht hW => ⟨⟨0, (), rfl, rfl, by show va_P (dC, dI) vwCl _ t9.heap; rw [ht]; exact hP⟩, hS.F ht⟩) hS.2.2 dX5_mandate_47
    · rw [if_pos c4] at hF
      have c4f : F_X5_isDay un = 0 := by rw [← hr3]; exact c4
      refine lv_iconst (v := 1) hx hb dX5_mandate_18 (by decide) ?_
      refine lv_goto (tgt := 36) hx hb dX5_mandate_19 (by decide) ?_
      refine va_put (D := (dC, dI)) (ci := 5) (v := .int 1) (ty := .int) (C := RX5) (T := TX5) (N := 25) hx hb hts hinX5 tyX5 tyX5_ok nmX5 hown hK hP hD hS 0 rfl rfl 0 (by decide) hfl66 (fun _ h9 => h9) rfl (by decide +kernel) rfl rfl (Nat.le_of_ble_eq_true rfl) dX5_mandate_36 (fun H locs hP hD hS => ?_)
      have hP : va_P (dC, dI) vwCl (wM am cI cZ 1 z v f) H := hP
      have hD : va_D A (wM am cI cZ 1 z v f) := hD
      refine lv_aload_n hx hb dX5_mandate_39 rfl (lv_at hl 0 rfl) ?_
      refine va_get (D := (dC, dI)) (ci := 5) (v := .int 1) (C := RX5) (T := TX5) (N := 25) hx hb hts hinX5 hown hK hP 0 rfl rfl 0 (by decide) hfl66 (fun _ h9 => h9) rfl dX5_mandate_40 ?_
      refine lv_if_le (tgt := 48) hx hb dX5_mandate_43 (by decide) (fun c9 => absurd c9 (by decide)) (fun _ => ?_)
      refine lv_iconst (v := 0) hx hb dX5_mandate_46 (by decide) ?_
      subst hF
      subst hQ9
      exact W.iret (v := 0) hx hb hr (fun t9 ht hW => ⟨⟨0, (), rfl, rfl, by show va_P (dC, dI) vwCl _ t9.heap; rw [ht]; exact hP⟩, hS.F ht⟩) hS.2.2 dX5_mandate_47
def F_X5_suspend (z : Nat → Nat) (v : Nat → Int32) (f : Nat → Nat → Int32) (t day on : Int32) : Int32 × Int32 × (Nat → Nat) × (Nat → Int32) × (Nat → Nat → Int32) :=
  if F_X5_isTrader z v f t = 0 then
    (0, 1, z, v, f)
  else
    if F_X5_isDay day = 0 then
      (0, 1, z, v, f)
    else
      if z 3 = 60 then
        (0, 2, z, v, f)
      else
        (nI (z 3 + 1), 0, uu z 3 (z 3 + 1), v, uu (uu (uu f 13 (upd (f 13) (z 3) t)) 14 (upd (f 14) (z 3) day)) 15 (upd (f 15) (z 3) on))
set_option maxHeartbeats 4000000 in
set_option maxRecDepth 100000 in
theorem c_X5_suspend (l : Launch) (dC : Nat → ClassId) (dI : Nat → Nat → Nat) (am : Nat → Nat) (cI cZ : ClassId) (th : Int32) (z : Nat → Nat) (v : Nat → Int32) (f : Nat → Nat → Int32) (sz : Nat) (t day on : Int32) (hok : okM z v f) (hon : zB on) : Met l yX5_suspend wsX5_suspend ({ frames := 2, cells := 0, slots := 0, locals := 42 }) (va_Pc [.ref (am 0), .int t, .int day, .int on] (fun U => U.heap.size = sz ∧ va_D (fun _ => True) (wM am cI cZ th z v f) ∧ kM dC dI am cI cZ th z v f U)) (va_Qi (fun (r : Int32) (_ : Unit) => r = (F_X5_suspend z v f t day on).1) (fun _ U9 => va_P (dC, dI) vwCl (wM am cI cZ ((F_X5_suspend z v f t day on).2.1) ((F_X5_suspend z v f t day on).2.2.1) ((F_X5_suspend z v f t day on).2.2.2.1) ((F_X5_suspend z v f t day on).2.2.2.2)) U9.heap) (va_A (wM am cI cZ th z v f) sz)) 0 0 (va_A (wM am cI cZ th z v f) sz) := by
  refine Met.ofW (cc := cX5_suspend) (maxL := 4) (ret := (some .int)) (by decide) rfl ?_
  intro p e s m args below meth c s₁ B hml hv
  obtain ⟨rfl, hsz, hD0, hP, hK, hN⟩ := hv
  have hx := B.exec
  have hb := B.bytes
  have hr := B.returns
  have hts := atoms_spec (ws := wsX5_suspend) B.pre
  have hown : s.vm.findClass RX5 = some m.cls := findClass_of_methodNamed B.named
  have hlocks := B.notSynchronized
  have hok9 := hok
  obtain ⟨hz0, hz1, hz2, hz3, hz4, hbz, hbs, hdp, hgv⟩ := hok9
  have hfl114 := hts (.fieldLink RX5 114 "TraderRightsModel" "suspensions" "I") (List.mem_of_getElem? (i := 1) rfl)
  have hfl50 := hts (.fieldLink RX5 50 "TraderRightsModel" "suspended" "[I") (List.mem_of_getElem? (i := 3) rfl)
  have hfl53 := hts (.fieldLink RX5 53 "TraderRightsModel" "suspendedOn" "[I") (List.mem_of_getElem? (i := 4) rfl)
  have hfl56 := hts (.fieldLink RX5 56 "TraderRightsModel" "isOn" "[Z") (List.mem_of_getElem? (i := 5) rfl)
  have hfl66 := hts (.fieldLink RX5 66 "TraderRightsModel" "thrown" "I") (List.mem_of_getElem? (i := 2) rfl)
  have hinX5 : ∀ w ∈ u_ws RX5 TX5 25, w ∈ wsX5_suspend := fun w h => List.mem_cons_of_mem _ (List.mem_append_right _ h)
  subst hsz
  have hD := hD0.self (sz := s.heap.size)
  generalize hAe : va_A (wM am cI cZ th z v f) s.heap.size = A at hD ⊢
  have hA : ∀ q : Nat, s.heap.size ≤ q → A q := fun q h => by rw [← hAe]; exact Or.inr h
  have hS : va_S A s.heap s.heap [] := va_S.rf
  have hl := lv_entry ([.ref (am 0), .int t, .int day, .int on]) (n := 4) (Nat.le_of_ble_eq_true rfl)
  rw [lg_entry_eq]
  generalize (lg_sl ([.ref (am 0), .int t, .int day, .int on]) ++ List.replicate (4 - (lg_sl ([.ref (am 0), .int t, .int day, .int on])).length) Slot.unset).toArray = ls at hl ⊢
  have hl : lv_has ls 4 [(0, .ref (am 0)), (1, .int t), (2, .int day), (3, .int on)] := hl
  generalize hF : F_X5_suspend z v f t day on = R9
  generalize hQ9 : MQ below _ _ s 0 0 A = Q9
  rw [F_X5_suspend] at hF
  refine lv_aload_n hx hb dX5_suspend_0 rfl (lv_at hl 0 rfl) ?_
  refine lv_aload_n hx hb dX5_suspend_1 rfl (lv_at hl 0 rfl) ?_
  refine lv_iload_n hx hb dX5_suspend_2 rfl (lv_at hl 1 rfl) ?_
  refine vp_callSi (W.runV (As := [.int t]) (rest := [.ref (am 0)]) ⟨hx, hb, hml, hown, hts⟩ (c_X5_isTrader l dC dI am cI cZ th z v f t hok) (cwV 1 hts gX5_suspend_X5_isTrader rfl rfl rfl (by decide +kernel) ⟨Nat.le_of_ble_eq_true rfl, Nat.le_of_ble_eq_true rfl⟩) (preM (ci := 5) (q0 := 0) hP hK hN rfl rfl rfl) rfl rfl hl.1 rfl (lv_room (Nat.le_of_ble_eq_true rfl)) dX5_suspend_3 ⟨Nat.zero_le _, Nat.zero_le _⟩) (fun r1 h9 => ?_)
  have hr1 : r1 = F_X5_isTrader z v f t := h9
  try rw [← hr1] at hF
  refine lv_if_eq (tgt := 16) hx hb dX5_suspend_6 (by decide) (fun c2 => ?_) (fun c2 => ?_)
  · rw [if_pos c2] at hF
    have c2f : F_X5_isTrader z v f t = 0 := by rw [← hr1]; exact c2
    refine lv_iconst (v := 1) hx hb dX5_suspend_16 (by decide) ?_
    refine lv_goto (tgt := 34) hx hb dX5_suspend_17 (by decide) ?_
    refine va_put (D := (dC, dI)) (ci := 5) (v := .int 1) (ty := .int) (C := RX5) (T := TX5) (N := 25) hx hb hts hinX5 tyX5 tyX5_ok nmX5 hown hK hP hD hS 0 rfl rfl 0 (by decide) hfl66 (fun _ h9 => h9) rfl (by decide +kernel) rfl rfl (Nat.le_of_ble_eq_true rfl) dX5_suspend_34 (fun H locs hP hD hS => ?_)
    have hP : va_P (dC, dI) vwCl (wM am cI cZ 1 z v f) H := hP
    have hD : va_D A (wM am cI cZ 1 z v f) := hD
    refine lv_aload_n hx hb dX5_suspend_37 rfl (lv_at hl 0 rfl) ?_
    refine va_get (D := (dC, dI)) (ci := 5) (v := .int 1) (C := RX5) (T := TX5) (N := 25) hx hb hts hinX5 hown hK hP 0 rfl rfl 0 (by decide) hfl66 (fun _ h9 => h9) rfl dX5_suspend_38 ?_
    refine lv_if_le (tgt := 46) hx hb dX5_suspend_41 (by decide) (fun c9 => absurd c9 (by decide)) (fun _ => ?_)
    refine lv_iconst (v := 0) hx hb dX5_suspend_44 (by decide) ?_
    subst hF
    subst hQ9
    exact W.iret (v := 0) hx hb hr (fun t9 ht hW => ⟨⟨0, (), rfl, rfl, by show va_P (dC, dI) vwCl _ t9.heap; rw [ht]; exact hP⟩, hS.F ht⟩) hS.2.2 dX5_suspend_45
  · rw [if_neg c2] at hF
    have c2f : ¬ F_X5_isTrader z v f t = 0 := by rw [← hr1]; exact c2
    refine lv_iload_n hx hb dX5_suspend_9 rfl (lv_at hl 2 rfl) ?_
    refine vp_callSi (W.runS (As := [.int day]) (rest := [.ref (am 0)]) ⟨hx, hb, hml, hown, hts⟩ (c_X5_isDay l day) (cwS 1 hts gX5_suspend_X5_isDay rfl rfl rfl (by decide +kernel) ⟨Nat.le_of_ble_eq_true rfl, Nat.le_of_ble_eq_true rfl⟩) preT rfl rfl hl.1 rfl (lv_room (Nat.le_of_ble_eq_true rfl)) dX5_suspend_10 ⟨Nat.zero_le _, Nat.zero_le _⟩) (fun r3 h9 => ?_)
    have hr3 : r3 = F_X5_isDay day := h9
    try rw [← hr3] at hF
    refine lv_if_ne (tgt := 20) hx hb dX5_suspend_13 (by decide) (fun c4 => ?_) (fun c4 => ?_)
    · rw [if_neg c4] at hF
      have c4f : ¬ F_X5_isDay day = 0 := by rw [← hr3]; exact c4
      refine lv_aload_n hx hb dX5_suspend_20 rfl (lv_at hl 0 rfl) ?_
      refine va_get (D := (dC, dI)) (ci := 5) (v := .int (nI (z 3))) (C := RX5) (T := TX5) (N := 25) hx hb hts hinX5 hown hK hP 0 rfl rfl 4 (by decide) hfl114 (fun _ h9 => h9) rfl dX5_suspend_21 ?_
      refine lv_bipush (v := 60) hx hb dX5_suspend_24 (by decide) ?_
      refine lv_icmp_ne (tgt := 33) hx hb dX5_suspend_26 (by decide) (fun c5 => ?_) (fun c5 => ?_)
      · have c5 : ¬ z 3 = 60 := fun h9 => c5 ((nI_eq (a := z 3) (b := 60) (by omega) (by omega)).mpr h9)
        rw [if_neg c5] at hF
        refine lv_iconst (v := 0) hx hb dX5_suspend_33 (by decide) ?_
        refine va_put (D := (dC, dI)) (ci := 5) (v := .int 0) (ty := .int) (C := RX5) (T := TX5) (N := 25) hx hb hts hinX5 tyX5 tyX5_ok nmX5 hown hK hP hD hS 0 rfl rfl 0 (by decide) hfl66 (fun _ h9 => h9) rfl (by decide +kernel) rfl rfl (Nat.le_of_ble_eq_true rfl) dX5_suspend_34 (fun H locs hP hD hS => ?_)
        have hP : va_P (dC, dI) vwCl (wM am cI cZ 0 z v f) H := hP
        have hD : va_D A (wM am cI cZ 0 z v f) := hD
        refine lv_aload_n hx hb dX5_suspend_37 rfl (lv_at hl 0 rfl) ?_
        refine va_get (D := (dC, dI)) (ci := 5) (v := .int 0) (C := RX5) (T := TX5) (N := 25) hx hb hts hinX5 hown hK hP 0 rfl rfl 0 (by decide) hfl66 (fun _ h9 => h9) rfl dX5_suspend_38 ?_
        refine lv_if_le (tgt := 46) hx hb dX5_suspend_41 (by decide) (fun _ => ?_) (fun c9 => absurd c9 (by decide))
        refine lv_aload_n hx hb dX5_suspend_46 rfl (lv_at hl 0 rfl) ?_
        refine va_get (D := (dC, dI)) (ci := 5) (v := .ref (am 14)) (C := RX5) (T := TX5) (N := 25) hx hb hts hinX5 hown hK hP 0 rfl rfl 19 (by decide) hfl50 (fun _ h9 => h9) rfl dX5_suspend_47 ?_
        refine lv_aload_n hx hb dX5_suspend_50 rfl (lv_at hl 0 rfl) ?_
        refine va_get (D := (dC, dI)) (ci := 5) (v := .int (nI (z 3))) (C := RX5) (T := TX5) (N := 25) hx hb hts hinX5 hown hK hP 0 rfl rfl 4 (by decide) hfl114 (fun _ h9 => h9) rfl dX5_suspend_51 ?_
        refine lv_iload_n hx hb dX5_suspend_54 rfl (lv_at hl 1 rfl) ?_
        refine xa_ist hx hb hK hP hD hS 14 0 rfl rfl (by omega) (by decide) dX5_suspend_55 (fun H locs hP hD hS => ?_)
        have hP : va_P (dC, dI) vwCl (wM am cI cZ 0 z v (uu f 13 (upd (f 13) (z 3) t))) H := hP
        have hD : va_D A (wM am cI cZ 0 z v (uu f 13 (upd (f 13) (z 3) t))) := hD
        refine lv_aload_n hx hb dX5_suspend_56 rfl (lv_at hl 0 rfl) ?_
        refine va_get (D := (dC, dI)) (ci := 5) (v := .ref (am 15)) (C := RX5) (T := TX5) (N := 25) hx hb hts hinX5 hown hK hP 0 rfl rfl 20 (by decide) hfl53 (fun _ h9 => h9) rfl dX5_suspend_57 ?_
        refine lv_aload_n hx hb dX5_suspend_60 rfl (lv_at hl 0 rfl) ?_
        refine va_get (D := (dC, dI)) (ci := 5) (v := .int (nI (z 3))) (C := RX5) (T := TX5) (N := 25) hx hb hts hinX5 hown hK hP 0 rfl rfl 4 (by decide) hfl114 (fun _ h9 => h9) rfl dX5_suspend_61 ?_
        refine lv_iload_n hx hb dX5_suspend_64 rfl (lv_at hl 2 rfl) ?_
        refine xa_ist hx hb hK hP hD hS 15 0 rfl rfl (by omega) (by decide) dX5_suspend_65 (fun H locs hP hD hS => ?_)
        have hP : va_P (dC, dI) vwCl (wM am cI cZ 0 z v (uu (uu f 13 (upd (f 13) (z 3) t)) 14 (upd (f 14) (z 3) day))) H := hP
        have hD : va_D A (wM am cI cZ 0 z v (uu (uu f 13 (upd (f 13) (z 3) t)) 14 (upd (f 14) (z 3) day))) := hD
        refine lv_aload_n hx hb dX5_suspend_66 rfl (lv_at hl 0 rfl) ?_
        refine va_get (D := (dC, dI)) (ci := 5) (v := .ref (am 16)) (C := RX5) (T := TX5) (N := 25) hx hb hts hinX5 hown hK hP 0 rfl rfl 21 (by decide) hfl56 (fun _ h9 => h9) rfl dX5_suspend_67 ?_
        refine lv_aload_n hx hb dX5_suspend_70 rfl (lv_at hl 0 rfl) ?_
        refine va_get (D := (dC, dI)) (ci := 5) (v := .int (nI (z 3))) (C := RX5) (T := TX5) (N := 25) hx hb hts hinX5 hown hK hP 0 rfl rfl 4 (by decide) hfl114 (fun _ h9 => h9) rfl dX5_suspend_71 ?_
        refine lv_iload_n hx hb dX5_suspend_74 rfl (lv_at hl 3 rfl) ?_
        refine xa_zst hx hb hK hP hD hS 16 1 rfl rfl (zB_nar (by assumption)) (by omega) (by decide) dX5_suspend_75 (fun H locs hP hD hS => ?_)
        have hP : va_P (dC, dI) vwCl (wM am cI cZ 0 z v (uu (uu (uu f 13 (upd (f 13) (z 3) t)) 14 (upd (f 14) (z 3) day)) 15 (upd (f 15) (z 3) on))) H := hP
        have hD : va_D A (wM am cI cZ 0 z v (uu (uu (uu f 13 (upd (f 13) (z 3) t)) 14 (upd (f 14) (z 3) day)) 15 (upd (f 15) (z 3) on))) := hD
        refine lv_aload_n hx hb dX5_suspend_76 rfl (lv_at hl 0 rfl) ?_
        refine lv_dup hx hb dX5_suspend_77 rfl ?_
        refine va_get (D := (dC, dI)) (ci := 5) (v := .int (nI (z 3))) (C := RX5) (T := TX5) (N := 25) hx hb hts hinX5 hown hK hP 0 rfl rfl 4 (by decide) hfl114 (fun _ h9 => h9) rfl dX5_suspend_78 ?_
        refine lv_iconst (v := 1) hx hb dX5_suspend_81 (by decide) ?_
        refine lv_iadd hx hb dX5_suspend_82 ?_
        refine xe_top (nI_1 _) ?_
        refine va_put (D := (dC, dI)) (ci := 5) (v := .int (nI (z 3 + 1))) (ty := .int) (C := RX5) (T := TX5) (N := 25) hx hb hts hinX5 tyX5 tyX5_ok nmX5 hown hK hP hD hS 0 rfl rfl 4 (by decide) hfl114 (fun _ h9 => h9) rfl (by decide +kernel) rfl rfl (Nat.le_of_ble_eq_true rfl) dX5_suspend_83 (fun H locs hP hD hS => ?_)
        have hP : va_P (dC, dI) vwCl (wM am cI cZ 0 (uu z 3 (z 3 + 1)) v (uu (uu (uu f 13 (upd (f 13) (z 3) t)) 14 (upd (f 14) (z 3) day)) 15 (upd (f 15) (z 3) on))) H := hP
        have hD : va_D A (wM am cI cZ 0 (uu z 3 (z 3 + 1)) v (uu (uu (uu f 13 (upd (f 13) (z 3) t)) 14 (upd (f 14) (z 3) day)) 15 (upd (f 15) (z 3) on))) := hD
        refine lv_aload_n hx hb dX5_suspend_86 rfl (lv_at hl 0 rfl) ?_
        refine va_get (D := (dC, dI)) (ci := 5) (v := .int (nI (z 3 + 1))) (C := RX5) (T := TX5) (N := 25) hx hb hts hinX5 hown hK hP 0 rfl rfl 4 (by decide) hfl114 (fun _ h9 => h9) rfl dX5_suspend_87 ?_
        subst hF
        subst hQ9
        exact W.iret (v := nI (z 3 + 1)) hx hb hr (fun t9 ht hW => ⟨⟨(nI (z 3 + 1)), (), rfl, rfl, by show va_P (dC, dI) vwCl _ t9.heap; rw [ht]; exact hP⟩, hS.F ht⟩) hS.2.2 dX5_suspend_90
      · have c5 : z 3 = 60 := (nI_eq (a := z 3) (b := 60) (by omega) (by omega)).mp c5
        rw [if_pos c5] at hF
        refine lv_iconst (v := 2) hx hb dX5_suspend_29 (by decide) ?_
        refine lv_goto (tgt := 34) hx hb dX5_suspend_30 (by decide) ?_
        refine va_put (D := (dC, dI)) (ci := 5) (v := .int 2) (ty := .int) (C := RX5) (T := TX5) (N := 25) hx hb hts hinX5 tyX5 tyX5_ok nmX5 hown hK hP hD hS 0 rfl rfl 0 (by decide) hfl66 (fun _ h9 => h9) rfl (by decide +kernel) rfl rfl (Nat.le_of_ble_eq_true rfl) dX5_suspend_34 (fun H locs hP hD hS => ?_)
        have hP : va_P (dC, dI) vwCl (wM am cI cZ 2 z v f) H := hP
        have hD : va_D A (wM am cI cZ 2 z v f) := hD
        refine lv_aload_n hx hb dX5_suspend_37 rfl (lv_at hl 0 rfl) ?_
        refine va_get (D := (dC, dI)) (ci := 5) (v := .int 2) (C := RX5) (T := TX5) (N := 25) hx hb hts hinX5 hown hK hP 0 rfl rfl 0 (by decide) hfl66 (fun _ h9 => h9) rfl dX5_suspend_38 ?_
        refine lv_if_le (tgt := 46) hx hb dX5_suspend_41 (by decide) (fun c9 => absurd c9 (by decide)) (fun _ => ?_)
        refine lv_iconst (v := 0) hx hb dX5_suspend_44 (by decide) ?_
        subst hF
        subst hQ9
        exact W.iret (v := 0) hx hb hr (fun t9 ht hW => ⟨⟨0, (), rfl, rfl, by show va_P (dC, dI) vwCl _ t9.heap; rw [ht]; exact hP⟩, hS.F ht⟩) hS.2.2 dX5_suspend_45
    · rw [if_pos c4] at hF
      have c4f : F_X5_isDay day = 0 := by rw [← hr3]; exact c4
      refine lv_iconst (v := 1) hx hb dX5_suspend_16 (by decide) ?_
      refine lv_goto (tgt := 34) hx hb dX5_suspend_17 (by decide) ?_
      refine va_put (D := (dC, dI)) (ci := 5) (v := .int 1) (ty := .int) (C := RX5) (T := TX5) (N := 25) hx hb hts hinX5 tyX5 tyX5_ok nmX5 hown hK hP hD hS 0 rfl rfl 0 (by decide) hfl66 (fun _ h9 => h9) rfl (by decide +kernel) rfl rfl (Nat.le_of_ble_eq_true rfl) dX5_suspend_34 (fun H locs hP hD hS => ?_)
      have hP : va_P (dC, dI) vwCl (wM am cI cZ 1 z v f) H := hP
      have hD : va_D A (wM am cI cZ 1 z v f) := hD
      refine lv_aload_n hx hb dX5_suspend_37 rfl (lv_at hl 0 rfl) ?_
      refine va_get (D := (dC, dI)) (ci := 5) (v := .int 1) (C := RX5) (T := TX5) (N := 25) hx hb hts hinX5 hown hK hP 0 rfl rfl 0 (by decide) hfl66 (fun _ h9 => h9) rfl dX5_suspend_38 ?_
      refine lv_if_le (tgt := 46) hx hb dX5_suspend_41 (by decide) (fun c9 => absurd c9 (by decide)) (fun _ => ?_)
      refine lv_iconst (v := 0) hx hb dX5_suspend_44 (by decide) ?_
      subst hF
      subst hQ9
      exact W.iret (v := 0) hx hb hr (fun t9 ht hW => ⟨⟨0, (), rfl, rfl, by show va_P (dC, dI) vwCl _ t9.heap; rw [ht]; exact hP⟩, hS.F ht⟩) hS.2.2 dX5_suspend_45
