def F_X4_may (z : Nat → Nat) (v : Nat → Int32) (f : Nat → Nat → Int32) (t a pl day : Int32) : Int32 :=
  if F_X4_isTrader z v f t = 0 then
    1
  else
    if F_X4_isAct a = 0 then
      1
    else
      if F_X4_isPlace pl = 0 then
        1
      else
        if F_X4_isDay day = 0 then
          1
        else
          if F_X4_isEnded z v f t day = 0 then
            if F_X3_isOn z v f t day = 0 then
              F_X4_answerForAlive z v f t a pl day
            else
              3
          else
            2
set_option maxHeartbeats 4000000 in
set_option maxRecDepth 100000 in
theorem c_X4_may (l : Launch) (dC : Nat → ClassId) (dI : Nat → Nat → Nat) (ad : Nat → Nat) (cI cZ : ClassId) (z : Nat → Nat) (v : Nat → Int32) (f : Nat → Nat → Int32) (t a pl day : Int32) (hok : okX z v f) : Met l yX4_may wsX4_may ({ frames := 5, cells := 0, slots := 0, locals := 124 }) (va_Pc [.ref (ad 0), .int t, .int a, .int pl, .int day] (kX dC dI ad cI cZ z v f)) (vp_Si (fun r => r = F_X4_may z v f t a pl day)) 0 0 (fun _ => False) := by
  refine Met.ofW (cc := cX4_may) (maxL := 5) (ret := (some .int)) (by decide) rfl ?_
  intro p e s m args below meth c s₁ B hml hv
  obtain ⟨rfl, hP, hK, hN⟩ := hv
  have hx := B.exec
  have hb := B.bytes
  have hr := B.returns
  have hts := atoms_spec (ws := wsX4_may) B.pre
  have hown : s.vm.findClass RX4 = some m.cls := findClass_of_methodNamed B.named
  have hlocks := B.notSynchronized
  have hok9 := hok
  obtain ⟨hz0, hz1, hz2, hz3, hz4, hbz, hbs⟩ := hok9
  have hfl55 := hts (.fieldLink RX4 55 "TraderRights" "suspensions" "LTraderRights$Suspensions;") (List.mem_of_getElem? (i := 1) rfl)
  have himX3_isOn := hts (.instanceMethod yX3_isOn) (List.mem_of_getElem? (i := 23) rfl)
  have hinX4 : ∀ w ∈ u_ws RX4 TX4 11, w ∈ wsX4_may := fun w h => List.mem_cons_of_mem _ (List.mem_append_left _ (List.mem_append_left _ (List.mem_append_left _ (List.mem_append_right _ h))))
  have hiniX3 := hts (.initialized RX3) (List.mem_of_getElem? (i := 24) rfl)
  have hnw153 := hN (.methodLinkNest RX4 153 yX3_isOn "TraderRights") (by decide +kernel)
  have hseX3_isOn := hts (.selects RX3 yX3_isOn yX3_isOn) (List.mem_of_getElem? (i := 25) rfl)
  have hl := lv_entry ([.ref (ad 0), .int t, .int a, .int pl, .int day]) (n := 5) (Nat.le_of_ble_eq_true rfl)
  rw [lg_entry_eq]
  generalize (lg_sl ([.ref (ad 0), .int t, .int a, .int pl, .int day]) ++ List.replicate (5 - (lg_sl ([.ref (ad 0), .int t, .int a, .int pl, .int day])).length) Slot.unset).toArray = ls at hl ⊢
  have hl : lv_has ls 5 [(0, .ref (ad 0)), (1, .int t), (2, .int a), (3, .int pl), (4, .int day)] := hl
  generalize hF : F_X4_may z v f t a pl day = R9
  generalize hQ9 : MQ below (vp_Si (fun r => r = R9)) _ s 0 0 (fun _ => False) = Q9
  rw [F_X4_may] at hF
  refine lv_aload_n hx hb dX4_may_0 rfl (lv_at hl 0 rfl) ?_
  refine lv_iload_n hx hb dX4_may_1 rfl (lv_at hl 1 rfl) ?_
  refine vp_callSi (W.runV (As := [.int t]) (rest := []) ⟨hx, hb, hml, hown, hts⟩ (c_X4_isTrader l dC dI ad cI cZ z v f t hok) (cwV 1 hts gX4_may_X4_isTrader rfl rfl rfl (by decide +kernel) ⟨Nat.le_of_ble_eq_true rfl, Nat.le_of_ble_eq_true rfl⟩) (preX (ci := 4) (q0 := 0) hP hK hN rfl rfl rfl) rfl rfl hl.1 rfl (lv_room (Nat.le_of_ble_eq_true rfl)) dX4_may_2 ⟨Nat.zero_le _, Nat.zero_le _⟩) (fun r1 h9 => ?_)
  have hr1 : r1 = F_X4_isTrader z v f t := h9
  try rw [← hr1] at hF
  refine lv_if_eq (tgt := 30) hx hb dX4_may_5 (by decide) (fun c2 => ?_) (fun c2 => ?_)
  · rw [if_pos c2] at hF
    have c2f : F_X4_isTrader z v f t = 0 := by rw [← hr1]; exact c2
    refine lv_iconst (v := 1) hx hb dX4_may_30 (by decide) ?_
    subst hQ9
    exact W.iret hx hb hr (fun t ht hW => ⟨_, rfl, hF, ht⟩) (fun q h => by cases h) dX4_may_31
  · rw [if_neg c2] at hF
    have c2f : ¬ F_X4_isTrader z v f t = 0 := by rw [← hr1]; exact c2
    refine lv_iload_n hx hb dX4_may_8 rfl (lv_at hl 2 rfl) ?_
    refine vp_callSi (W.runS (As := [.int a]) (rest := []) ⟨hx, hb, hml, hown, hts⟩ (c_X4_isAct l a) (cwS 1 hts gX4_may_X4_isAct rfl rfl rfl (by decide +kernel) ⟨Nat.le_of_ble_eq_true rfl, Nat.le_of_ble_eq_true rfl⟩) preT rfl rfl hl.1 rfl (lv_room (Nat.le_of_ble_eq_true rfl)) dX4_may_9 ⟨Nat.zero_le _, Nat.zero_le _⟩) (fun r3 h9 => ?_)
    have hr3 : r3 = F_X4_isAct a := h9
    try rw [← hr3] at hF
    refine lv_if_eq (tgt := 30) hx hb dX4_may_12 (by decide) (fun c4 => ?_) (fun c4 => ?_)
    · rw [if_pos c4] at hF
      have c4f : F_X4_isAct a = 0 := by rw [← hr3]; exact c4
      refine lv_iconst (v := 1) hx hb dX4_may_30 (by decide) ?_
      subst hQ9
      exact W.iret hx hb hr (fun t ht hW => ⟨_, rfl, hF, ht⟩) (fun q h => by cases h) dX4_may_31
    · rw [if_neg c4] at hF
      have c4f : ¬ F_X4_isAct a = 0 := by rw [← hr3]; exact c4
      refine lv_iload_n hx hb dX4_may_15 rfl (lv_at hl 3 rfl) ?_
      refine vp_callSi (W.runS (As := [.int pl]) (rest := []) ⟨hx, hb, hml, hown, hts⟩ (c_X4_isPlace l pl) (cwS 1 hts gX4_may_X4_isPlace rfl rfl rfl (by decide +kernel) ⟨Nat.le_of_ble_eq_true rfl, Nat.le_of_ble_eq_true rfl⟩) preT rfl rfl hl.1 rfl (lv_room (Nat.le_of_ble_eq_true rfl)) dX4_may_16 ⟨Nat.zero_le _, Nat.zero_le _⟩) (fun r5 h9 => ?_)
      have hr5 : r5 = F_X4_isPlace pl := h9
      try rw [← hr5] at hF
      refine lv_if_eq (tgt := 30) hx hb dX4_may_19 (by decide) (fun c6 => ?_) (fun c6 => ?_)
      · rw [if_pos c6] at hF
        have c6f : F_X4_isPlace pl = 0 := by rw [← hr5]; exact c6
        refine lv_iconst (v := 1) hx hb dX4_may_30 (by decide) ?_
        subst hQ9
        exact W.iret hx hb hr (fun t ht hW => ⟨_, rfl, hF, ht⟩) (fun q h => by cases h) dX4_may_31
      · rw [if_neg c6] at hF
        have c6f : ¬ F_X4_isPlace pl = 0 := by rw [← hr5]; exact c6
        refine lv_iload hx hb dX4_may_22 (lv_at hl 4 rfl) ?_
        refine vp_callSi (W.runS (As := [.int day]) (rest := []) ⟨hx, hb, hml, hown, hts⟩ (c_X4_isDay l day) (cwS 1 hts gX4_may_X4_isDay rfl rfl rfl (by decide +kernel) ⟨Nat.le_of_ble_eq_true rfl, Nat.le_of_ble_eq_true rfl⟩) preT rfl rfl hl.1 rfl (lv_room (Nat.le_of_ble_eq_true rfl)) dX4_may_24 ⟨Nat.zero_le _, Nat.zero_le _⟩) (fun r7 h9 => ?_)
        have hr7 : r7 = F_X4_isDay day := h9
        try rw [← hr7] at hF
        refine lv_if_ne (tgt := 32) hx hb dX4_may_27 (by decide) (fun c8 => ?_) (fun c8 => ?_)
        · rw [if_neg c8] at hF
          have c8f : ¬ F_X4_isDay day = 0 := by rw [← hr7]; exact c8
          refine lv_aload_n hx hb dX4_may_32 rfl (lv_at hl 0 rfl) ?_
          refine lv_iload_n hx hb dX4_may_33 rfl (lv_at hl 1 rfl) ?_
          refine lv_iload hx hb dX4_may_34 (lv_at hl 4 rfl) ?_
          refine vp_callSi (W.runV (As := [.int t, .int day]) (rest := []) ⟨hx, hb, hml, hown, hts⟩ (c_X4_isEnded l dC dI ad cI cZ z v f t day hok (in_isTX hok c2f)) (cwV 2 hts gX4_may_X4_isEnded rfl rfl rfl (by decide +kernel) ⟨Nat.le_of_ble_eq_true rfl, Nat.le_of_ble_eq_true rfl⟩) (preX (ci := 4) (q0 := 0) hP hK hN rfl rfl rfl) rfl rfl hl.1 rfl (lv_room (Nat.le_of_ble_eq_true rfl)) dX4_may_36 ⟨Nat.zero_le _, Nat.zero_le _⟩) (fun r9 h9 => ?_)
          have hr9 : r9 = F_X4_isEnded z v f t day := h9
          try rw [← hr9] at hF
          refine lv_if_eq (tgt := 44) hx hb dX4_may_39 (by decide) (fun c10 => ?_) (fun c10 => ?_)
          · rw [if_pos c10] at hF
            have c10f : F_X4_isEnded z v f t day = 0 := by rw [← hr9]; exact c10
            refine lv_aload_n hx hb dX4_may_44 rfl (lv_at hl 0 rfl) ?_
            refine va_get (D := (dC, dI)) (ci := 4) (v := .ref (ad 17)) (C := RX4) (T := TX4) (N := 11) hx hb hts hinX4 hown hK hP 0 rfl rfl 9 (by decide) hfl55 (fun _ h9 => h9) rfl dX4_may_45 ?_
            refine lv_iload_n hx hb dX4_may_48 rfl (lv_at hl 1 rfl) ?_
            refine lv_iload hx hb dX4_may_49 (lv_at hl 4 rfl) ?_
            refine vp_callSi (va_Run.run (va_runVN (As := [.int t, .int day]) (rest := []) ⟨hx, hb, hml, hown, hts⟩ (c_X3_isOn l dC dI ad cI cZ z v f t day hok) ⟨(va_cnB 2 hts gX4_may_X3_isOn_n153 rfl rfl rfl hnw153 hiniX3 (by decide +kernel) ⟨Nat.le_of_ble_eq_true rfl, Nat.le_of_ble_eq_true rfl⟩), himX3_isOn, hseX3_isOn⟩ (preX (ci := 3) (q0 := 17) hP hK hN rfl rfl rfl) rfl rfl hl.1 rfl (lv_room (Nat.le_of_ble_eq_true rfl)) dX4_may_51 ⟨Nat.zero_le _, Nat.zero_le _⟩)) (fun r11 h9 => ?_)
            have hr11 : r11 = F_X3_isOn z v f t day := h9
            try rw [← hr11] at hF
            refine lv_if_eq (tgt := 59) hx hb dX4_may_54 (by decide) (fun c12 => ?_) (fun c12 => ?_)
            · rw [if_pos c12] at hF
              have c12f : F_X3_isOn z v f t day = 0 := by rw [← hr11]; exact c12
              refine lv_aload_n hx hb dX4_may_59 rfl (lv_at hl 0 rfl) ?_
              refine lv_iload_n hx hb dX4_may_60 rfl (lv_at hl 1 rfl) ?_
              refine lv_iload_n hx hb dX4_may_61 rfl (lv_at hl 2 rfl) ?_
              refine lv_iload_n hx hb dX4_may_62 rfl (lv_at hl 3 rfl) ?_
              refine lv_iload hx hb dX4_may_63 (lv_at hl 4 rfl) ?_
              refine vp_callSi (W.runV (As := [.int t, .int a, .int pl, .int day]) (rest := []) ⟨hx, hb, hml, hown, hts⟩ (c_X4_answerForAlive l dC dI ad cI cZ z v f t a pl day hok (in_isTX hok c2f)) (cwV 4 hts gX4_may_X4_answerForAlive rfl rfl rfl (by decide +kernel) ⟨Nat.le_of_ble_eq_true rfl, Nat.le_of_ble_eq_true rfl⟩) (preX (ci := 4) (q0 := 0) hP hK hN rfl rfl rfl) rfl rfl hl.1 rfl (lv_room (Nat.le_of_ble_eq_true rfl)) dX4_may_65 ⟨Nat.zero_le _, Nat.zero_le _⟩) (fun r13 h9 => ?_)
              have hr13 : r13 = F_X4_answerForAlive z v f t a pl day := h9
              try rw [← hr13] at hF
              subst hQ9
              exact W.iret hx hb hr (fun t ht hW => ⟨_, rfl, hF, ht⟩) (fun q h => by cases h) dX4_may_68
            · rw [if_neg c12] at hF
              have c12f : ¬ F_X3_isOn z v f t day = 0 := by rw [← hr11]; exact c12
              refine lv_iconst (v := 3) hx hb dX4_may_57 (by decide) ?_
              subst hQ9
              exact W.iret hx hb hr (fun t ht hW => ⟨_, rfl, hF, ht⟩) (fun q h => by cases h) dX4_may_58
          · rw [if_neg c10] at hF
            have c10f : ¬ F_X4_isEnded z v f t day = 0 := by rw [← hr9]; exact c10
            refine lv_iconst (v := 2) hx hb dX4_may_42 (by decide) ?_
            subst hQ9
            exact W.iret hx hb hr (fun t ht hW => ⟨_, rfl, hF, ht⟩) (fun q h => by cases h) dX4_may_43
        · rw [if_pos c8] at hF
          have c8f : F_X4_isDay day = 0 := by rw [← hr7]; exact c8
          refine lv_iconst (v := 1) hx hb dX4_may_30 (by decide) ?_
          subst hQ9
          exact W.iret hx hb hr (fun t ht hW => ⟨_, rfl, hF, ht⟩) (fun q h => by cases h) dX4_may_31
theorem in_mayX {z : Nat → Nat} {v : Nat → Int32} {f : Nat → Nat → Int32} {t a pl day : Int32} (hok : okX z v f) (h : F_X4_may z v f t a pl day = 0) : vp_in t 12 := by
  rw [F_X4_may] at h
  split at h
  · exact absurd h (by decide)
  · exact in_isTX hok (by assumption)
