def F_X5_look (z : Nat → Nat) (v : Nat → Int32) (f : Nat → Nat → Int32) (t day w : Int32) : Int32 × Int32 × (Nat → Nat) × (Nat → Int32) × (Nat → Nat → Int32) :=
  if F_X5_isTrader z v f t = 0 then
    (0, 1, z, v, f)
  else
    if F_X5_in w 0 6 = 0 then
      (0, 1, z, v, f)
    else
      if F_X5_isDay day = 0 then
        (0, 2, z, v, f)
      else
        if w = 0 then
          if F_X5_isEnded z v f t day = 0 then
            (0, 0, z, v, f)
          else
            (1, 0, z, v, f)
        else
          if w = 1 then
            if F_X5_isSuspended z v f t day = 0 then
              (0, 0, z, v, f)
            else
              (1, 0, z, v, f)
          else
            if w = 2 then
              ((F_X5_bits (F_X5_reached z v f t day)) - 1, 0, z, v, f)
            else
              if w = 3 then
                (F_X5_acts z v f t day, 0, z, v, f)
              else
                if w = 4 then
                  (F_X5_withDeputy z v f t, 0, z, v, f)
                else
                  if w = 5 then
                    (f 2 t.toNatClampNeg, 0, z, v, f)
                  else
                    (F_X5_standing z v f t day, 0, z, v, f)
set_option maxHeartbeats 4000000 in
set_option maxRecDepth 100000 in
theorem c_X5_look (l : Launch) (dC : Nat → ClassId) (dI : Nat → Nat → Nat) (am : Nat → Nat) (cI cZ : ClassId) (th : Int32) (z : Nat → Nat) (v : Nat → Int32) (f : Nat → Nat → Int32) (sz : Nat) (t day w : Int32) (hok : okM z v f) : Met l yX5_look wsX5_look ({ frames := 5, cells := 0, slots := 0, locals := 128 }) (va_Pc [.ref (am 0), .int t, .int day, .int w] (fun U => U.heap.size = sz ∧ va_D (fun _ => True) (wM am cI cZ th z v f) ∧ kM dC dI am cI cZ th z v f U)) (va_Qi (fun (r : Int32) (_ : Unit) => r = (F_X5_look z v f t day w).1) (fun _ U9 => va_P (dC, dI) vwCl (wM am cI cZ ((F_X5_look z v f t day w).2.1) ((F_X5_look z v f t day w).2.2.1) ((F_X5_look z v f t day w).2.2.2.1) ((F_X5_look z v f t day w).2.2.2.2)) U9.heap) (va_A (wM am cI cZ th z v f) sz)) 0 0 (va_A (wM am cI cZ th z v f) sz) := by
  refine Met.ofW (cc := cX5_look) (maxL := 4) (ret := (some .int)) (by decide) rfl ?_
  intro p e s m args below meth c s₁ B hml hv
  obtain ⟨rfl, hsz, hD0, hP, hK, hN⟩ := hv
  have hx := B.exec
  have hb := B.bytes
  have hr := B.returns
  have hts := atoms_spec (ws := wsX5_look) B.pre
  have hown : s.vm.findClass RX5 = some m.cls := findClass_of_methodNamed B.named
  have hlocks := B.notSynchronized
  have hok9 := hok
  obtain ⟨hz0, hz1, hz2, hz3, hz4, hbz, hbs, hdp, hgv⟩ := hok9
  have hfl16 := hts (.fieldLink RX5 16 "TraderRightsModel" "deputyOf" "[I") (List.mem_of_getElem? (i := 2) rfl)
  have hfl66 := hts (.fieldLink RX5 66 "TraderRightsModel" "thrown" "I") (List.mem_of_getElem? (i := 1) rfl)
  have hinX5 : ∀ w ∈ u_ws RX5 TX5 25, w ∈ wsX5_look := fun w h => List.mem_cons_of_mem _ (List.mem_append_right _ h)
  subst hsz
  have hD := hD0.self (sz := s.heap.size)
  generalize hAe : va_A (wM am cI cZ th z v f) s.heap.size = A at hD ⊢
  have hA : ∀ q : Nat, s.heap.size ≤ q → A q := fun q h => by rw [← hAe]; exact Or.inr h
  have hS : va_S A s.heap s.heap [] := va_S.rf
  have hl := lv_entry ([.ref (am 0), .int t, .int day, .int w]) (n := 4) (Nat.le_of_ble_eq_true rfl)
  rw [lg_entry_eq]
  generalize (lg_sl ([.ref (am 0), .int t, .int day, .int w]) ++ List.replicate (4 - (lg_sl ([.ref (am 0), .int t, .int day, .int w])).length) Slot.unset).toArray = ls at hl ⊢
  have hl : lv_has ls 4 [(0, .ref (am 0)), (1, .int t), (2, .int day), (3, .int w)] := hl
  generalize hF : F_X5_look z v f t day w = R9
  generalize hQ9 : MQ below _ _ s 0 0 A = Q9
  rw [F_X5_look] at hF
  refine lv_aload_n hx hb dX5_look_0 rfl (lv_at hl 0 rfl) ?_
  refine lv_aload_n hx hb dX5_look_1 rfl (lv_at hl 0 rfl) ?_
  refine lv_iload_n hx hb dX5_look_2 rfl (lv_at hl 1 rfl) ?_
  refine vp_callSi (W.runV (As := [.int t]) (rest := [.ref (am 0)]) ⟨hx, hb, hml, hown, hts⟩ (c_X5_isTrader l dC dI am cI cZ th z v f t hok) (cwV 1 hts gX5_look_X5_isTrader rfl rfl rfl (by decide +kernel) ⟨Nat.le_of_ble_eq_true rfl, Nat.le_of_ble_eq_true rfl⟩) (preM (ci := 5) (q0 := 0) hP hK hN rfl rfl rfl) rfl rfl hl.1 rfl (lv_room (Nat.le_of_ble_eq_true rfl)) dX5_look_3 ⟨Nat.zero_le _, Nat.zero_le _⟩) (fun r1 h9 => ?_)
  have hr1 : r1 = F_X5_isTrader z v f t := h9
  try rw [← hr1] at hF
  refine lv_if_eq (tgt := 19) hx hb dX5_look_6 (by decide) (fun c2 => ?_) (fun c2 => ?_)
  · rw [if_pos c2] at hF
    have c2f : F_X5_isTrader z v f t = 0 := by rw [← hr1]; exact c2
    refine lv_iconst (v := 1) hx hb dX5_look_19 (by decide) ?_
    refine lv_goto (tgt := 35) hx hb dX5_look_20 (by decide) ?_
    refine va_put (D := (dC, dI)) (ci := 5) (v := .int 1) (ty := .int) (C := RX5) (T := TX5) (N := 25) hx hb hts hinX5 tyX5 tyX5_ok nmX5 hown hK hP hD hS 0 rfl rfl 0 (by decide) hfl66 (fun _ h9 => h9) rfl (by decide +kernel) rfl rfl (Nat.le_of_ble_eq_true rfl) dX5_look_35 (fun H locs hP hD hS => ?_)
    have hP : va_P (dC, dI) vwCl (wM am cI cZ 1 z v f) H := hP
    have hD : va_D A (wM am cI cZ 1 z v f) := hD
    refine lv_aload_n hx hb dX5_look_38 rfl (lv_at hl 0 rfl) ?_
    refine va_get (D := (dC, dI)) (ci := 5) (v := .int 1) (C := RX5) (T := TX5) (N := 25) hx hb hts hinX5 hown hK hP 0 rfl rfl 0 (by decide) hfl66 (fun _ h9 => h9) rfl dX5_look_39 ?_
    refine lv_if_le (tgt := 47) hx hb dX5_look_42 (by decide) (fun c9 => absurd c9 (by decide)) (fun _ => ?_)
    refine lv_iconst (v := 0) hx hb dX5_look_45 (by decide) ?_
    subst hF
    subst hQ9
    exact W.iret (v := 0) hx hb hr (fun t9 ht hW => ⟨⟨0, (), rfl, rfl, by show va_P (dC, dI) vwCl _ t9.heap; rw [ht]; exact hP⟩, hS.F ht⟩) hS.2.2 dX5_look_46
  · rw [if_neg c2] at hF
    have c2f : ¬ F_X5_isTrader z v f t = 0 := by rw [← hr1]; exact c2
    refine lv_iload_n hx hb dX5_look_9 rfl (lv_at hl 3 rfl) ?_
    refine lv_iconst (v := 0) hx hb dX5_look_10 (by decide) ?_
    refine lv_bipush (v := 6) hx hb dX5_look_11 (by decide) ?_
    refine vp_callSi (W.runS (As := [.int w, .int 0, .int 6]) (rest := [.ref (am 0)]) ⟨hx, hb, hml, hown, hts⟩ (c_X5_in l w 0 6) (cwS 3 hts gX5_look_X5_in rfl rfl rfl (by decide +kernel) ⟨Nat.le_of_ble_eq_true rfl, Nat.le_of_ble_eq_true rfl⟩) preT rfl rfl hl.1 rfl (lv_room (Nat.le_of_ble_eq_true rfl)) dX5_look_13 ⟨Nat.zero_le _, Nat.zero_le _⟩) (fun r3 h9 => ?_)
    have hr3 : r3 = F_X5_in w 0 6 := h9
    try rw [← hr3] at hF
    refine lv_if_ne (tgt := 23) hx hb dX5_look_16 (by decide) (fun c4 => ?_) (fun c4 => ?_)
    · rw [if_neg c4] at hF
      have c4f : ¬ F_X5_in w 0 6 = 0 := by rw [← hr3]; exact c4
      refine lv_iload_n hx hb dX5_look_23 rfl (lv_at hl 2 rfl) ?_
      refine vp_callSi (W.runS (As := [.int day]) (rest := [.ref (am 0)]) ⟨hx, hb, hml, hown, hts⟩ (c_X5_isDay l day) (cwS 1 hts gX5_look_X5_isDay rfl rfl rfl (by decide +kernel) ⟨Nat.le_of_ble_eq_true rfl, Nat.le_of_ble_eq_true rfl⟩) preT rfl rfl hl.1 rfl (lv_room (Nat.le_of_ble_eq_true rfl)) dX5_look_24 ⟨Nat.zero_le _, Nat.zero_le _⟩) (fun r5 h9 => ?_)
      have hr5 : r5 = F_X5_isDay day := h9
      try rw [← hr5] at hF
      refine lv_if_ne (tgt := 34) hx hb dX5_look_27 (by decide) (fun c6 => ?_) (fun c6 => ?_)
      · rw [if_neg c6] at hF
        have c6f : ¬ F_X5_isDay day = 0 := by rw [← hr5]; exact c6
        refine lv_iconst (v := 0) hx hb dX5_look_34 (by decide) ?_
        refine va_put (D := (dC, dI)) (ci := 5) (v := .int 0) (ty := .int) (C := RX5) (T := TX5) (N := 25) hx hb hts hinX5 tyX5 tyX5_ok nmX5 hown hK hP hD hS 0 rfl rfl 0 (by decide) hfl66 (fun _ h9 => h9) rfl (by decide +kernel) rfl rfl (Nat.le_of_ble_eq_true rfl) dX5_look_35 (fun H locs hP hD hS => ?_)
        have hP : va_P (dC, dI) vwCl (wM am cI cZ 0 z v f) H := hP
        have hD : va_D A (wM am cI cZ 0 z v f) := hD
        refine lv_aload_n hx hb dX5_look_38 rfl (lv_at hl 0 rfl) ?_
        refine va_get (D := (dC, dI)) (ci := 5) (v := .int 0) (C := RX5) (T := TX5) (N := 25) hx hb hts hinX5 hown hK hP 0 rfl rfl 0 (by decide) hfl66 (fun _ h9 => h9) rfl dX5_look_39 ?_
        refine lv_if_le (tgt := 47) hx hb dX5_look_42 (by decide) (fun _ => ?_) (fun c9 => absurd c9 (by decide))
        refine lv_iload_n hx hb dX5_look_47 rfl (lv_at hl 3 rfl) ?_
        by_cases c7 : w = 0
        · rw [if_pos c7] at hF
          refine lv_tableIn (off := 40) (tgt := 88) hx hb dX5_look_48 (by rw [c7]; decide) (by rw [c7]; decide) (by rw [c7]; rfl) (by decide) ?_
          refine lv_aload_n hx hb dX5_look_88 rfl (lv_at hl 0 rfl) ?_
          refine lv_iload_n hx hb dX5_look_89 rfl (lv_at hl 1 rfl) ?_
          refine lv_iload_n hx hb dX5_look_90 rfl (lv_at hl 2 rfl) ?_
          refine vp_callSi (W.runV (As := [.int t, .int day]) (rest := []) ⟨hx, hb, hml, hown, hts⟩ (c_X5_isEnded l dC dI am cI cZ 0 z v f t day hok (in_isTM hok c2f)) (cwV 2 hts gX5_look_X5_isEnded rfl rfl rfl (by decide +kernel) ⟨Nat.le_of_ble_eq_true rfl, Nat.le_of_ble_eq_true rfl⟩) (preM (ci := 5) (q0 := 0) hP hK hN rfl rfl rfl) rfl rfl hl.1 rfl (lv_room (Nat.le_of_ble_eq_true rfl)) dX5_look_91 ⟨Nat.zero_le _, Nat.zero_le _⟩) (fun r8 h9 => ?_)
          have hr8 : r8 = F_X5_isEnded z v f t day := h9
          try rw [← hr8] at hF
          refine lv_if_eq (tgt := 101) hx hb dX5_look_94 (by decide) (fun c9 => ?_) (fun c9 => ?_)
          · rw [if_pos c9] at hF
            have c9f : F_X5_isEnded z v f t day = 0 := by rw [← hr8]; exact c9
            refine lv_iconst (v := 0) hx hb dX5_look_101 (by decide) ?_
            subst hF
            subst hQ9
            exact W.iret (v := 0) hx hb hr (fun t9 ht hW => ⟨⟨0, (), rfl, rfl, by show va_P (dC, dI) vwCl _ t9.heap; rw [ht]; exact hP⟩, hS.F ht⟩) hS.2.2 dX5_look_102
          · rw [if_neg c9] at hF
            have c9f : ¬ F_X5_isEnded z v f t day = 0 := by rw [← hr8]; exact c9
            refine lv_iconst (v := 1) hx hb dX5_look_97 (by decide) ?_
            refine lv_goto (tgt := 102) hx hb dX5_look_98 (by decide) ?_
            subst hF
            subst hQ9
            exact W.iret (v := 1) hx hb hr (fun t9 ht hW => ⟨⟨1, (), rfl, rfl, by show va_P (dC, dI) vwCl _ t9.heap; rw [ht]; exact hP⟩, hS.F ht⟩) hS.2.2 dX5_look_102
        rw [if_neg c7] at hF
        by_cases c10 : w = 1
        · rw [if_pos c10] at hF
          refine lv_tableIn (off := 55) (tgt := 103) hx hb dX5_look_48 (by rw [c10]; decide) (by rw [c10]; decide) (by rw [c10]; rfl) (by decide) ?_
          refine lv_aload_n hx hb dX5_look_103 rfl (lv_at hl 0 rfl) ?_
          refine lv_iload_n hx hb dX5_look_104 rfl (lv_at hl 1 rfl) ?_
          refine lv_iload_n hx hb dX5_look_105 rfl (lv_at hl 2 rfl) ?_
          refine vp_callSi (W.runV (As := [.int t, .int day]) (rest := []) ⟨hx, hb, hml, hown, hts⟩ (c_X5_isSuspended l dC dI am cI cZ 0 z v f t day hok) (cwV 2 hts gX5_look_X5_isSuspended rfl rfl rfl (by decide +kernel) ⟨Nat.le_of_ble_eq_true rfl, Nat.le_of_ble_eq_true rfl⟩) (preM (ci := 5) (q0 := 0) hP hK hN rfl rfl rfl) rfl rfl hl.1 rfl (lv_room (Nat.le_of_ble_eq_true rfl)) dX5_look_106 ⟨Nat.zero_le _, Nat.zero_le _⟩) (fun r11 h9 => ?_)
          have hr11 : r11 = F_X5_isSuspended z v f t day := h9
          try rw [← hr11] at hF
          refine lv_if_eq (tgt := 116) hx hb dX5_look_109 (by decide) (fun c12 => ?_) (fun c12 => ?_)
          · rw [if_pos c12] at hF
            have c12f : F_X5_isSuspended z v f t day = 0 := by rw [← hr11]; exact c12
            refine lv_iconst (v := 0) hx hb dX5_look_116 (by decide) ?_
            subst hF
            subst hQ9
            exact W.iret (v := 0) hx hb hr (fun t9 ht hW => ⟨⟨0, (), rfl, rfl, by show va_P (dC, dI) vwCl _ t9.heap; rw [ht]; exact hP⟩, hS.F ht⟩) hS.2.2 dX5_look_117
          · rw [if_neg c12] at hF
            have c12f : ¬ F_X5_isSuspended z v f t day = 0 := by rw [← hr11]; exact c12
            refine lv_iconst (v := 1) hx hb dX5_look_112 (by decide) ?_
            refine lv_goto (tgt := 117) hx hb dX5_look_113 (by decide) ?_
            subst hF
            subst hQ9
            exact W.iret (v := 1) hx hb hr (fun t9 ht hW => ⟨⟨1, (), rfl, rfl, by show va_P (dC, dI) vwCl _ t9.heap; rw [ht]; exact hP⟩, hS.F ht⟩) hS.2.2 dX5_look_117
        rw [if_neg c10] at hF
        by_cases c13 : w = 2
        · rw [if_pos c13] at hF
          refine lv_tableIn (off := 70) (tgt := 118) hx hb dX5_look_48 (by rw [c13]; decide) (by rw [c13]; decide) (by rw [c13]; rfl) (by decide) ?_
          refine lv_aload_n hx hb dX5_look_118 rfl (lv_at hl 0 rfl) ?_
          refine lv_iload_n hx hb dX5_look_119 rfl (lv_at hl 1 rfl) ?_
          refine lv_iload_n hx hb dX5_look_120 rfl (lv_at hl 2 rfl) ?_
          refine vp_callSi (W.runV (As := [.int t, .int day]) (rest := []) ⟨hx, hb, hml, hown, hts⟩ (c_X5_reached l dC dI am cI cZ 0 z v f t day hok) (cwV 2 hts gX5_look_X5_reached rfl rfl rfl (by decide +kernel) ⟨Nat.le_of_ble_eq_true rfl, Nat.le_of_ble_eq_true rfl⟩) (preM (ci := 5) (q0 := 0) hP hK hN rfl rfl rfl) rfl rfl hl.1 rfl (lv_room (Nat.le_of_ble_eq_true rfl)) dX5_look_121 ⟨Nat.zero_le _, Nat.zero_le _⟩) (fun r14 h9 => ?_)
          have hr14 : r14 = F_X5_reached z v f t day := h9
          try rw [← hr14] at hF
          refine vp_callSi (W.runS (As := [.int r14]) (rest := []) ⟨hx, hb, hml, hown, hts⟩ (c_X5_bits l r14) (cwS 1 hts gX5_look_X5_bits rfl rfl rfl (by decide +kernel) ⟨Nat.le_of_ble_eq_true rfl, Nat.le_of_ble_eq_true rfl⟩) preT rfl rfl hl.1 rfl (lv_room (Nat.le_of_ble_eq_true rfl)) dX5_look_124 ⟨Nat.zero_le _, Nat.zero_le _⟩) (fun r15 h9 => ?_)
          have hr15 : r15 = F_X5_bits r14 := h9
          try rw [← hr15] at hF
          refine lv_iconst (v := 1) hx hb dX5_look_127 (by decide) ?_
          refine lv_isub hx hb dX5_look_128 ?_
          subst hF
          subst hQ9
          exact W.iret (v := r15 - 1) hx hb hr (fun t9 ht hW => ⟨⟨(r15 - 1), (), rfl, rfl, by show va_P (dC, dI) vwCl _ t9.heap; rw [ht]; exact hP⟩, hS.F ht⟩) hS.2.2 dX5_look_129
        rw [if_neg c13] at hF
        by_cases c16 : w = 3
        · rw [if_pos c16] at hF
          refine lv_tableIn (off := 82) (tgt := 130) hx hb dX5_look_48 (by rw [c16]; decide) (by rw [c16]; decide) (by rw [c16]; rfl) (by decide) ?_
          refine lv_aload_n hx hb dX5_look_130 rfl (lv_at hl 0 rfl) ?_
          refine lv_iload_n hx hb dX5_look_131 rfl (lv_at hl 1 rfl) ?_
          refine lv_iload_n hx hb dX5_look_132 rfl (lv_at hl 2 rfl) ?_
          refine vp_callSi (W.runV (As := [.int t, .int day]) (rest := []) ⟨hx, hb, hml, hown, hts⟩ (c_X5_acts l dC dI am cI cZ 0 z v f t day hok (in_isTM hok c2f)) (cwV 2 hts gX5_look_X5_acts rfl rfl rfl (by decide +kernel) ⟨Nat.le_of_ble_eq_true rfl, Nat.le_of_ble_eq_true rfl⟩) (preM (ci := 5) (q0 := 0) hP hK hN rfl rfl rfl) rfl rfl hl.1 rfl (lv_room (Nat.le_of_ble_eq_true rfl)) dX5_look_133 ⟨Nat.zero_le _, Nat.zero_le _⟩) (fun r17 h9 => ?_)
          have hr17 : r17 = F_X5_acts z v f t day := h9
          try rw [← hr17] at hF
          subst hF
          subst hQ9
          exact W.iret (v := r17) hx hb hr (fun t9 ht hW => ⟨⟨r17, (), rfl, rfl, by show va_P (dC, dI) vwCl _ t9.heap; rw [ht]; exact hP⟩, hS.F ht⟩) hS.2.2 dX5_look_136
        rw [if_neg c16] at hF
        by_cases c18 : w = 4
        · rw [if_pos c18] at hF
          refine lv_tableIn (off := 89) (tgt := 137) hx hb dX5_look_48 (by rw [c18]; decide) (by rw [c18]; decide) (by rw [c18]; rfl) (by decide) ?_
          refine lv_aload_n hx hb dX5_look_137 rfl (lv_at hl 0 rfl) ?_
          refine lv_iload_n hx hb dX5_look_138 rfl (lv_at hl 1 rfl) ?_
          refine vp_callSi (W.runV (As := [.int t]) (rest := []) ⟨hx, hb, hml, hown, hts⟩ (c_X5_withDeputy l dC dI am cI cZ 0 z v f t hok) (cwV 1 hts gX5_look_X5_withDeputy rfl rfl rfl (by decide +kernel) ⟨Nat.le_of_ble_eq_true rfl, Nat.le_of_ble_eq_true rfl⟩) (preM (ci := 5) (q0 := 0) hP hK hN rfl rfl rfl) rfl rfl hl.1 rfl (lv_room (Nat.le_of_ble_eq_true rfl)) dX5_look_139 ⟨Nat.zero_le _, Nat.zero_le _⟩) (fun r19 h9 => ?_)
          have hr19 : r19 = F_X5_withDeputy z v f t := h9
          try rw [← hr19] at hF
          subst hF
          subst hQ9
          exact W.iret (v := r19) hx hb hr (fun t9 ht hW => ⟨⟨r19, (), rfl, rfl, by show va_P (dC, dI) vwCl _ t9.heap; rw [ht]; exact hP⟩, hS.F ht⟩) hS.2.2 dX5_look_142
        rw [if_neg c18] at hF
        by_cases c20 : w = 5
        · rw [if_pos c20] at hF
          refine lv_tableIn (off := 95) (tgt := 143) hx hb dX5_look_48 (by rw [c20]; decide) (by rw [c20]; decide) (by rw [c20]; rfl) (by decide) ?_
          refine lv_aload_n hx hb dX5_look_143 rfl (lv_at hl 0 rfl) ?_
          refine va_get (D := (dC, dI)) (ci := 5) (v := .ref (am 3)) (C := RX5) (T := TX5) (N := 25) hx hb hts hinX5 hown hK hP 0 rfl rfl 8 (by decide) hfl16 (fun _ h9 => h9) rfl dX5_look_144 ?_
          refine lv_iload_n hx hb dX5_look_147 rfl (lv_at hl 1 rfl) ?_
          refine va_iald hx hb hK hP 3 0 rfl rfl (in_isTM hok c2f) dX5_look_148 ?_
          subst hF
          subst hQ9
          exact W.iret (v := f 2 t.toNatClampNeg) hx hb hr (fun t9 ht hW => ⟨⟨(f 2 t.toNatClampNeg), (), rfl, rfl, by show va_P (dC, dI) vwCl _ t9.heap; rw [ht]; exact hP⟩, hS.F ht⟩) hS.2.2 dX5_look_149
        rw [if_neg c20] at hF
        refine lv_tableOut (tgt := 150) hx hb dX5_look_48 (sw_out c7 c10 c13 c16 c18 c20) (by decide) ?_
        refine lv_aload_n hx hb dX5_look_150 rfl (lv_at hl 0 rfl) ?_
        refine lv_iload_n hx hb dX5_look_151 rfl (lv_at hl 1 rfl) ?_
        refine lv_iload_n hx hb dX5_look_152 rfl (lv_at hl 2 rfl) ?_
        refine vp_callSi (W.runV (As := [.int t, .int day]) (rest := []) ⟨hx, hb, hml, hown, hts⟩ (c_X5_standing l dC dI am cI cZ 0 z v f t day hok) (cwV 2 hts gX5_look_X5_standing rfl rfl rfl (by decide +kernel) ⟨Nat.le_of_ble_eq_true rfl, Nat.le_of_ble_eq_true rfl⟩) (preM (ci := 5) (q0 := 0) hP hK hN rfl rfl rfl) rfl rfl hl.1 rfl (lv_room (Nat.le_of_ble_eq_true rfl)) dX5_look_153 ⟨Nat.zero_le _, Nat.zero_le _⟩) (fun r21 h9 => ?_)
        have hr21 : r21 = F_X5_standing z v f t day := h9
        try rw [← hr21] at hF
        subst hF
        subst hQ9
        exact W.iret (v := r21) hx hb hr (fun t9 ht hW => ⟨⟨r21, (), rfl, rfl, by show va_P (dC, dI) vwCl _ t9.heap; rw [ht]; exact hP⟩, hS.F ht⟩) hS.2.2 dX5_look_156
      · rw [if_pos c6] at hF
        have c6f : F_X5_isDay day = 0 := by rw [← hr5]; exact c6
        refine lv_iconst (v := 2) hx hb dX5_look_30 (by decide) ?_
        refine lv_goto (tgt := 35) hx hb dX5_look_31 (by decide) ?_
        refine va_put (D := (dC, dI)) (ci := 5) (v := .int 2) (ty := .int) (C := RX5) (T := TX5) (N := 25) hx hb hts hinX5 tyX5 tyX5_ok nmX5 hown hK hP hD hS 0 rfl rfl 0 (by decide) hfl66 (fun _ h9 => h9) rfl (by decide +kernel) rfl rfl (Nat.le_of_ble_eq_true rfl) dX5_look_35 (fun H locs hP hD hS => ?_)
        have hP : va_P (dC, dI) vwCl (wM am cI cZ 2 z v f) H := hP
        have hD : va_D A (wM am cI cZ 2 z v f) := hD
        refine lv_aload_n hx hb dX5_look_38 rfl (lv_at hl 0 rfl) ?_
        refine va_get (D := (dC, dI)) (ci := 5) (v := .int 2) (C := RX5) (T := TX5) (N := 25) hx hb hts hinX5 hown hK hP 0 rfl rfl 0 (by decide) hfl66 (fun _ h9 => h9) rfl dX5_look_39 ?_
        refine lv_if_le (tgt := 47) hx hb dX5_look_42 (by decide) (fun c9 => absurd c9 (by decide)) (fun _ => ?_)
        refine lv_iconst (v := 0) hx hb dX5_look_45 (by decide) ?_
        subst hF
        subst hQ9
        exact W.iret (v := 0) hx hb hr (fun t9 ht hW => ⟨⟨0, (), rfl, rfl, by show va_P (dC, dI) vwCl _ t9.heap; rw [ht]; exact hP⟩, hS.F ht⟩) hS.2.2 dX5_look_46
    · rw [if_pos c4] at hF
      have c4f : F_X5_in w 0 6 = 0 := by rw [← hr3]; exact c4
      refine lv_iconst (v := 1) hx hb dX5_look_19 (by decide) ?_
      refine lv_goto (tgt := 35) hx hb dX5_look_20 (by decide) ?_
      refine va_put (D := (dC, dI)) (ci := 5) (v := .int 1) (ty := .int) (C := RX5) (T := TX5) (N := 25) hx hb hts hinX5 tyX5 tyX5_ok nmX5 hown hK hP hD hS 0 rfl rfl 0 (by decide) hfl66 (fun _ h9 => h9) rfl (by decide +kernel) rfl rfl (Nat.le_of_ble_eq_true rfl) dX5_look_35 (fun H locs hP hD hS => ?_)
      have hP : va_P (dC, dI) vwCl (wM am cI cZ 1 z v f) H := hP
      have hD : va_D A (wM am cI cZ 1 z v f) := hD
      refine lv_aload_n hx hb dX5_look_38 rfl (lv_at hl 0 rfl) ?_
      refine va_get (D := (dC, dI)) (ci := 5) (v := .int 1) (C := RX5) (T := TX5) (N := 25) hx hb hts hinX5 hown hK hP 0 rfl rfl 0 (by decide) hfl66 (fun _ h9 => h9) rfl dX5_look_39 ?_
      refine lv_if_le (tgt := 47) hx hb dX5_look_42 (by decide) (fun c9 => absurd c9 (by decide)) (fun _ => ?_)
      refine lv_iconst (v := 0) hx hb dX5_look_45 (by decide) ?_
      subst hF
      subst hQ9
      exact W.iret (v := 0) hx hb hr (fun t9 ht hW => ⟨⟨0, (), rfl, rfl, by show va_P (dC, dI) vwCl _ t9.heap; rw [ht]; exact hP⟩, hS.F ht⟩) hS.2.2 dX5_look_46
def F_X5_letter_L47 (z : Nat → Nat) (v : Nat → Int32) (f : Nat → Nat → Int32) (n i : Int32)  : Nat → Int32 → Nat → Int32
  | 0, su, k => su
  | n47 + 1, su, k =>
    if 6 ≤ k then
      su
    else
      F_X5_letter_L47 z v f n i n47 (su + ((nI (k + 1)) * (F_X5_digit n (nI k)))) (k + 1)
def F_X5_letter (z : Nat → Nat) (v : Nat → Int32) (f : Nat → Nat → Int32) (n i : Int32) : Int32 × Int32 × (Nat → Nat) × (Nat → Int32) × (Nat → Nat → Int32) :=
  if F_X5_in n 0 99999999 = 0 then
    (0, 1, z, v, f)
  else
    if F_X5_in i 0 6 = 0 then
      (0, 2, z, v, f)
    else
      if i = 6 then
        (65 + ((F_X5_letter_L47 z v f n i (6 + 1) 0 0) - (F_X5_letter_L47 z v f n i (6 + 1) 0 0) / 23 * 23), 0, z, v, f)
      else
        (65 + (F_X5_digit n i), 0, z, v, f)
theorem lt_i {i : Int32} (h : ¬ F_X5_in i 0 6 = 0) (h6 : ¬ i = 6) : 0 ≤ i.toInt ∧ i.toInt ≤ 5 := by
  rw [F_X5_in] at h
  have e0 : (0 : Int32).toInt = 0 := rfl
  have e6 : (6 : Int32).toInt = 6 := rfl
  have g6 : ¬ i.toInt = 6 := fun e => h6 (Int32.toInt_inj.mp e)
  split at h
  · exact absurd rfl h
  · split at h
    · exact absurd rfl h
    · rename_i a1 a2
      rw [Int32.lt_iff_toInt_lt] at a1
      rw [Int32.lt_iff_toInt_lt] at a2
      omega
set_option maxHeartbeats 4000000 in
set_option maxRecDepth 100000 in
theorem c_X5_letter (l : Launch) (dC : Nat → ClassId) (dI : Nat → Nat → Nat) (am : Nat → Nat) (cI cZ : ClassId) (th : Int32) (z : Nat → Nat) (v : Nat → Int32) (f : Nat → Nat → Int32) (sz : Nat) (n i : Int32) (hok : okM z v f) : Met l yX5_letter wsX5_letter ({ frames := 2, cells := 0, slots := 0, locals := 43 }) (va_Pc [.ref (am 0), .int n, .int i] (fun U => U.heap.size = sz ∧ va_D (fun _ => True) (wM am cI cZ th z v f) ∧ kM dC dI am cI cZ th z v f U)) (va_Qi (fun (r : Int32) (_ : Unit) => r = (F_X5_letter z v f n i).1) (fun _ U9 => va_P (dC, dI) vwCl (wM am cI cZ ((F_X5_letter z v f n i).2.1) ((F_X5_letter z v f n i).2.2.1) ((F_X5_letter z v f n i).2.2.2.1) ((F_X5_letter z v f n i).2.2.2.2)) U9.heap) (va_A (wM am cI cZ th z v f) sz)) 0 0 (va_A (wM am cI cZ th z v f) sz) := by
  refine Met.ofW (cc := cX5_letter) (maxL := 5) (ret := (some .int)) (by decide) rfl ?_
  intro p e s m args below meth c s₁ B hml hv
  obtain ⟨rfl, hsz, hD0, hP, hK, hN⟩ := hv
  have hx := B.exec
  have hb := B.bytes
  have hr := B.returns
  have hts := atoms_spec (ws := wsX5_letter) B.pre
  have hown : s.vm.findClass RX5 = some m.cls := findClass_of_methodNamed B.named
  have hlocks := B.notSynchronized
  have hok9 := hok
  obtain ⟨hz0, hz1, hz2, hz3, hz4, hbz, hbs, hdp, hgv⟩ := hok9
  have hcn141 := hts (.constant RX5 141 (99999999)) (List.mem_of_getElem? (i := 1) rfl)
  have hfl66 := hts (.fieldLink RX5 66 "TraderRightsModel" "thrown" "I") (List.mem_of_getElem? (i := 2) rfl)
  have hinX5 : ∀ w ∈ u_ws RX5 TX5 25, w ∈ wsX5_letter := fun w h => List.mem_cons_of_mem _ (List.mem_append_right _ h)
  subst hsz
  have hD := hD0.self (sz := s.heap.size)
  generalize hAe : va_A (wM am cI cZ th z v f) s.heap.size = A at hD ⊢
  have hA : ∀ q : Nat, s.heap.size ≤ q → A q := fun q h => by rw [← hAe]; exact Or.inr h
  have hS : va_S A s.heap s.heap [] := va_S.rf
  have hl := lv_entry ([.ref (am 0), .int n, .int i]) (n := 5) (Nat.le_of_ble_eq_true rfl)
  rw [lg_entry_eq]
  generalize (lg_sl ([.ref (am 0), .int n, .int i]) ++ List.replicate (5 - (lg_sl ([.ref (am 0), .int n, .int i])).length) Slot.unset).toArray = ls at hl ⊢
  have hl : lv_has ls 5 [(0, .ref (am 0)), (1, .int n), (2, .int i)] := hl
  generalize hF : F_X5_letter z v f n i = R9
  generalize hQ9 : MQ below _ _ s 0 0 A = Q9
  rw [F_X5_letter] at hF
  refine lv_aload_n hx hb dX5_letter_0 rfl (lv_at hl 0 rfl) ?_
  refine lv_iload_n hx hb dX5_letter_1 rfl (lv_at hl 1 rfl) ?_
  refine lv_iconst (v := 0) hx hb dX5_letter_2 (by decide) ?_
  refine lv_ldc (v := 99999999) hx hb hown hcn141 dX5_letter_3 ?_
  refine vp_callSi (W.runS (As := [.int n, .int 0, .int 99999999]) (rest := [.ref (am 0)]) ⟨hx, hb, hml, hown, hts⟩ (c_X5_in l n 0 99999999) (cwS 3 hts gX5_letter_X5_in rfl rfl rfl (by decide +kernel) ⟨Nat.le_of_ble_eq_true rfl, Nat.le_of_ble_eq_true rfl⟩) preT rfl rfl hl.1 rfl (lv_room (Nat.le_of_ble_eq_true rfl)) dX5_letter_5 ⟨Nat.zero_le _, Nat.zero_le _⟩) (fun r1 h9 => ?_)
  have hr1 : r1 = F_X5_in n 0 99999999 := h9
  try rw [← hr1] at hF
  refine lv_if_ne (tgt := 15) hx hb dX5_letter_8 (by decide) (fun c2 => ?_) (fun c2 => ?_)
  · rw [if_neg c2] at hF
    have c2f : ¬ F_X5_in n 0 99999999 = 0 := by rw [← hr1]; exact c2
    refine lv_iload_n hx hb dX5_letter_15 rfl (lv_at hl 2 rfl) ?_
    refine lv_iconst (v := 0) hx hb dX5_letter_16 (by decide) ?_
    refine lv_bipush (v := 6) hx hb dX5_letter_17 (by decide) ?_
    refine vp_callSi (W.runS (As := [.int i, .int 0, .int 6]) (rest := [.ref (am 0)]) ⟨hx, hb, hml, hown, hts⟩ (c_X5_in l i 0 6) (cwS 3 hts gX5_letter_X5_in rfl rfl rfl (by decide +kernel) ⟨Nat.le_of_ble_eq_true rfl, Nat.le_of_ble_eq_true rfl⟩) preT rfl rfl hl.1 rfl (lv_room (Nat.le_of_ble_eq_true rfl)) dX5_letter_19 ⟨Nat.zero_le _, Nat.zero_le _⟩) (fun r3 h9 => ?_)
    have hr3 : r3 = F_X5_in i 0 6 := h9
    try rw [← hr3] at hF
    refine lv_if_ne (tgt := 29) hx hb dX5_letter_22 (by decide) (fun c4 => ?_) (fun c4 => ?_)
    · rw [if_neg c4] at hF
      have c4f : ¬ F_X5_in i 0 6 = 0 := by rw [← hr3]; exact c4
      refine lv_iconst (v := 0) hx hb dX5_letter_29 (by decide) ?_
      refine va_put (D := (dC, dI)) (ci := 5) (v := .int 0) (ty := .int) (C := RX5) (T := TX5) (N := 25) hx hb hts hinX5 tyX5 tyX5_ok nmX5 hown hK hP hD hS 0 rfl rfl 0 (by decide) hfl66 (fun _ h9 => h9) rfl (by decide +kernel) rfl rfl (Nat.le_of_ble_eq_true rfl) dX5_letter_30 (fun H locs hP hD hS => ?_)
      have hP : va_P (dC, dI) vwCl (wM am cI cZ 0 z v f) H := hP
      have hD : va_D A (wM am cI cZ 0 z v f) := hD
      refine lv_aload_n hx hb dX5_letter_33 rfl (lv_at hl 0 rfl) ?_
      refine va_get (D := (dC, dI)) (ci := 5) (v := .int 0) (C := RX5) (T := TX5) (N := 25) hx hb hts hinX5 hown hK hP 0 rfl rfl 0 (by decide) hfl66 (fun _ h9 => h9) rfl dX5_letter_34 ?_
      refine lv_if_le (tgt := 42) hx hb dX5_letter_37 (by decide) (fun _ => ?_) (fun c9 => absurd c9 (by decide))
      refine lv_iconst (v := 0) hx hb dX5_letter_42 (by decide) ?_
      refine lv_istore_n (lv' := [(3, .int 0), (0, .ref (am 0)), (1, .int n), (2, .int i)]) hx hb dX5_letter_43 rfl hl (by decide) rfl (fun ls hl => ?_)
      refine lv_iconst (v := 0) hx hb dX5_letter_44 (by decide) ?_
      refine lv_istore (lv' := [(4, .int 0), (3, .int 0), (0, .ref (am 0)), (1, .int n), (2, .int i)]) hx hb dX5_letter_45 hl (by decide) rfl (fun ls hl => ?_)
      have lp47 : ∀ (n47 : Nat) (su : Int32) (k : Nat) (ls : Array Slot), k ≤ 6 → 6 < k + n47 → lv_has ls 5 [(0, .ref (am 0)), (1, .int n), (2, .int i), (3, .int su), (4, .int (nI k))] → (∀ ls : Array Slot, lv_has ls 5 [(0, .ref (am 0)), (1, .int n), (2, .int i), (3, .int (F_X5_letter_L47 z v f n i n47 su k))] → W p l e (headSpec wsX5_letter ({ frames := 2, cells := 0, slots := 0, locals := 43 })).room s m ([.ref (am 0), .int n, .int i] : List Value).toArray below meth c H locs 0 0 Q9 (F0 m 74 ls [])) → W p l e (headSpec wsX5_letter ({ frames := 2, cells := 0, slots := 0, locals := 43 })).room s m ([.ref (am 0), .int n, .int i] : List Value).toArray below meth c H locs 0 0 Q9 (F0 m 47 ls []) := by
        intro n47
        induction n47 with
        | zero =>
          intro su k ls hk47 hn47
          exact absurd hn47 (by omega)
        | succ n47 ih47 =>
          intro su k ls hk47 hn47 hl hq47
          generalize hF47 : F_X5_letter_L47 z v f n i (n47 + 1) su k = R47 at hq47
          rw [F_X5_letter_L47] at hF47
          refine lv_iload hx hb dX5_letter_47 (lv_at hl 4 rfl) ?_
          refine lv_bipush (v := 6) hx hb dX5_letter_49 (by decide) ?_
          refine lv_icmp_ge (tgt := 74) hx hb dX5_letter_51 (by decide) (fun c5 => ?_) (fun c5 => ?_)
          · have c5 : 6 ≤ k := (nI_leI (a := 6) (b := k) (by omega) (by omega)).mp c5
            rw [if_pos c5] at hF47
            subst hF47
            exact hq47 ls (lv_sub hl [0, 1, 2, 3] rfl)
          · have c5 : ¬ 6 ≤ k := fun h9 => c5 ((nI_leI (a := 6) (b := k) (by omega) (by omega)).mpr h9)
            rw [if_neg c5] at hF47
            refine lv_iload_n hx hb dX5_letter_54 rfl (lv_at hl 3 rfl) ?_
            refine lv_iload hx hb dX5_letter_55 (lv_at hl 4 rfl) ?_
            refine lv_iconst (v := 1) hx hb dX5_letter_57 (by decide) ?_
            refine lv_iadd hx hb dX5_letter_58 ?_
            refine xe_top (nI_1 _) ?_
            refine lv_iload_n hx hb dX5_letter_59 rfl (lv_at hl 1 rfl) ?_
            refine lv_iload hx hb dX5_letter_60 (lv_at hl 4 rfl) ?_
            refine vp_callSi (W.runS (As := [.int n, .int (nI k)]) (rest := [.int (nI (k + 1)), .int su]) ⟨hx, hb, hml, hown, hts⟩ (c_X5_digit l n (nI k) (by rw [nI_toInt (by omega)]; omega)) (cwS 2 hts gX5_letter_X5_digit rfl rfl rfl (by decide +kernel) ⟨Nat.le_of_ble_eq_true rfl, Nat.le_of_ble_eq_true rfl⟩) preT rfl rfl hl.1 rfl (lv_room (Nat.le_of_ble_eq_true rfl)) dX5_letter_62 ⟨Nat.zero_le _, Nat.zero_le _⟩) (fun r6 h9 => ?_)
            have hr6 : r6 = F_X5_digit n (nI k) := h9
            try rw [← hr6] at hF
            try rw [← hr6] at hF47
            refine lv_imul hx hb dX5_letter_65 ?_
            refine lv_iadd hx hb dX5_letter_66 ?_
            refine lv_istore_n (lv' := [(3, .int (su + ((nI (k + 1)) * r6))), (0, .ref (am 0)), (1, .int n), (2, .int i), (4, .int (nI k))]) hx hb dX5_letter_67 rfl hl (by decide) rfl (fun ls hl => ?_)
            refine lv_iinc (v := nI (k + 1)) (lv' := [(4, .int (nI (k + 1))), (3, .int (su + ((nI (k + 1)) * r6))), (0, .ref (am 0)), (1, .int n), (2, .int i)]) hx hb dX5_letter_68 hl (k := 4) rfl (xi_inc _) (by decide) rfl (fun ls hl => ?_)
            refine lv_goto (tgt := 47) hx hb dX5_letter_71 (by decide) ?_
            exact ih47 (su + ((nI (k + 1)) * r6)) (k + 1) ls (by omega) (by omega) (lv_sub hl [2, 3, 4, 1, 0] rfl) (by rw [hF47]; exact hq47)
      refine lp47 (6 + 1) 0 0 ls (by omega) (by omega) (lv_sub hl [2, 3, 4, 1, 0] rfl) (fun ls hl => ?_)
      obtain ⟨r7, hr7⟩ : ∃ y, y = (F_X5_letter_L47 z v f n i (6 + 1) 0 0) := ⟨_, rfl⟩
      rw [← hr7] at hl
      try rw [← hr7] at hF
      refine lv_bipush (v := 65) hx hb dX5_letter_74 (by decide) ?_
      refine lv_iload_n hx hb dX5_letter_76 rfl (lv_at hl 2 rfl) ?_
      refine lv_bipush (v := 6) hx hb dX5_letter_77 (by decide) ?_
      refine lv_icmp_ne (tgt := 89) hx hb dX5_letter_79 (by decide) (fun c8 => ?_) (fun c8 => ?_)
      · rw [if_neg c8] at hF
        refine lv_iload_n hx hb dX5_letter_89 rfl (lv_at hl 1 rfl) ?_
        refine lv_iload_n hx hb dX5_letter_90 rfl (lv_at hl 2 rfl) ?_
        refine vp_callSi (W.runS (As := [.int n, .int i]) (rest := [.int 65]) ⟨hx, hb, hml, hown, hts⟩ (c_X5_digit l n i (lt_i c4f c8)) (cwS 2 hts gX5_letter_X5_digit rfl rfl rfl (by decide +kernel) ⟨Nat.le_of_ble_eq_true rfl, Nat.le_of_ble_eq_true rfl⟩) preT rfl rfl hl.1 rfl (lv_room (Nat.le_of_ble_eq_true rfl)) dX5_letter_91 ⟨Nat.zero_le _, Nat.zero_le _⟩) (fun r9 h9 => ?_)
        have hr9 : r9 = F_X5_digit n i := h9
        try rw [← hr9] at hF
        refine lv_iadd hx hb dX5_letter_94 ?_
        subst hF
        subst hQ9
        exact W.iret (v := 65 + r9) hx hb hr (fun t9 ht hW => ⟨⟨(65 + r9), (), rfl, rfl, by show va_P (dC, dI) vwCl _ t9.heap; rw [ht]; exact hP⟩, hS.F ht⟩) hS.2.2 dX5_letter_95
      · rw [if_pos c8] at hF
        refine lv_iload_n hx hb dX5_letter_82 rfl (lv_at hl 3 rfl) ?_
        refine lv_bipush (v := 23) hx hb dX5_letter_83 (by decide) ?_
        refine lv_irem hx hb dX5_letter_85 (by decide) ?_
        refine lv_goto (tgt := 94) hx hb dX5_letter_86 (by decide) ?_
        refine lv_iadd hx hb dX5_letter_94 ?_
        subst hF
        subst hQ9
        exact W.iret (v := 65 + (r7 - r7 / 23 * 23)) hx hb hr (fun t9 ht hW => ⟨⟨(65 + (r7 - r7 / 23 * 23)), (), rfl, rfl, by show va_P (dC, dI) vwCl _ t9.heap; rw [ht]; exact hP⟩, hS.F ht⟩) hS.2.2 dX5_letter_95
    · rw [if_pos c4] at hF
      have c4f : F_X5_in i 0 6 = 0 := by rw [← hr3]; exact c4
      refine lv_iconst (v := 2) hx hb dX5_letter_25 (by decide) ?_
      refine lv_goto (tgt := 30) hx hb dX5_letter_26 (by decide) ?_
      refine va_put (D := (dC, dI)) (ci := 5) (v := .int 2) (ty := .int) (C := RX5) (T := TX5) (N := 25) hx hb hts hinX5 tyX5 tyX5_ok nmX5 hown hK hP hD hS 0 rfl rfl 0 (by decide) hfl66 (fun _ h9 => h9) rfl (by decide +kernel) rfl rfl (Nat.le_of_ble_eq_true rfl) dX5_letter_30 (fun H locs hP hD hS => ?_)
      have hP : va_P (dC, dI) vwCl (wM am cI cZ 2 z v f) H := hP
      have hD : va_D A (wM am cI cZ 2 z v f) := hD
      refine lv_aload_n hx hb dX5_letter_33 rfl (lv_at hl 0 rfl) ?_
      refine va_get (D := (dC, dI)) (ci := 5) (v := .int 2) (C := RX5) (T := TX5) (N := 25) hx hb hts hinX5 hown hK hP 0 rfl rfl 0 (by decide) hfl66 (fun _ h9 => h9) rfl dX5_letter_34 ?_
      refine lv_if_le (tgt := 42) hx hb dX5_letter_37 (by decide) (fun c9 => absurd c9 (by decide)) (fun _ => ?_)
      refine lv_iconst (v := 0) hx hb dX5_letter_40 (by decide) ?_
      subst hF
      subst hQ9
      exact W.iret (v := 0) hx hb hr (fun t9 ht hW => ⟨⟨0, (), rfl, rfl, by show va_P (dC, dI) vwCl _ t9.heap; rw [ht]; exact hP⟩, hS.F ht⟩) hS.2.2 dX5_letter_41
  · rw [if_pos c2] at hF
    have c2f : F_X5_in n 0 99999999 = 0 := by rw [← hr1]; exact c2
    refine lv_iconst (v := 1) hx hb dX5_letter_11 (by decide) ?_
    refine lv_goto (tgt := 30) hx hb dX5_letter_12 (by decide) ?_
    refine va_put (D := (dC, dI)) (ci := 5) (v := .int 1) (ty := .int) (C := RX5) (T := TX5) (N := 25) hx hb hts hinX5 tyX5 tyX5_ok nmX5 hown hK hP hD hS 0 rfl rfl 0 (by decide) hfl66 (fun _ h9 => h9) rfl (by decide +kernel) rfl rfl (Nat.le_of_ble_eq_true rfl) dX5_letter_30 (fun H locs hP hD hS => ?_)
    have hP : va_P (dC, dI) vwCl (wM am cI cZ 1 z v f) H := hP
    have hD : va_D A (wM am cI cZ 1 z v f) := hD
    refine lv_aload_n hx hb dX5_letter_33 rfl (lv_at hl 0 rfl) ?_
    refine va_get (D := (dC, dI)) (ci := 5) (v := .int 1) (C := RX5) (T := TX5) (N := 25) hx hb hts hinX5 hown hK hP 0 rfl rfl 0 (by decide) hfl66 (fun _ h9 => h9) rfl dX5_letter_34 ?_
    refine lv_if_le (tgt := 42) hx hb dX5_letter_37 (by decide) (fun c9 => absurd c9 (by decide)) (fun _ => ?_)
    refine lv_iconst (v := 0) hx hb dX5_letter_40 (by decide) ?_
    subst hF
    subst hQ9
    exact W.iret (v := 0) hx hb hr (fun t9 ht hW => ⟨⟨0, (), rfl, rfl, by show va_P (dC, dI) vwCl _ t9.heap; rw [ht]; exact hP⟩, hS.F ht⟩) hS.2.2 dX5_letter_41
def F_X5_check_L69 (z : Nat → Nat) (v : Nat → Int32) (f : Nat → Nat → Int32) (x : Int32)  : Nat → Int32 → Int32 → Nat → Int32 × Int32
  | 0, nu, su, k => (nu, su)
  | n69 + 1, nu, su, k =>
    if 6 ≤ k then
      (nu, su)
    else
      F_X5_check_L69 z v f x n69 (nu + (((upd (f 16) (z 4) (x - 65)) k) * (F_X5_power (nI (5 - k))))) (su + ((nI (k + 1)) * ((upd (f 16) (z 4) (x - 65)) k))) (k + 1)
def F_X5_check (z : Nat → Nat) (v : Nat → Int32) (f : Nat → Nat → Int32) (x : Int32) : Int32 × Int32 × (Nat → Nat) × (Nat → Int32) × (Nat → Nat → Int32) :=
  if F_X5_in x 65 90 = 0 then
    ((-1), 0, uu z 4 0, v, f)
  else
    if 7 ≤ z 4 + 1 then
      if 100000000 ≤ (F_X5_check_L69 z v f x (6 + 1) 0 0 0).1 then
        ((-1), 0, uu (uu z 4 (z 4 + 1)) 4 0, uu v 2 (v 2), uu f 16 (upd (f 16) (z 4) (x - 65)))
      else
        if (upd (f 16) (z 4) (x - 65)) 6 = ((F_X5_check_L69 z v f x (6 + 1) 0 0 0).2) - ((F_X5_check_L69 z v f x (6 + 1) 0 0 0).2) / 23 * 23 then
          (1, 0, uu (uu z 4 (z 4 + 1)) 4 0, uu v 2 ((F_X5_check_L69 z v f x (6 + 1) 0 0 0).1), uu f 16 (upd (f 16) (z 4) (x - 65)))
        else
          ((-1), 0, uu (uu z 4 (z 4 + 1)) 4 0, uu v 2 (v 2), uu f 16 (upd (f 16) (z 4) (x - 65)))
    else
      (0, 0, uu z 4 (z 4 + 1), v, uu f 16 (upd (f 16) (z 4) (x - 65)))
set_option maxHeartbeats 4000000 in
set_option maxRecDepth 100000 in
theorem c_X5_check (l : Launch) (dC : Nat → ClassId) (dI : Nat → Nat → Nat) (am : Nat → Nat) (cI cZ : ClassId) (th : Int32) (z : Nat → Nat) (v : Nat → Int32) (f : Nat → Nat → Int32) (sz : Nat) (x : Int32) (hok : okM z v f) : Met l yX5_check wsX5_check ({ frames := 1, cells := 0, slots := 0, locals := 22 }) (va_Pc [.ref (am 0), .int x] (fun U => U.heap.size = sz ∧ va_D (fun _ => True) (wM am cI cZ th z v f) ∧ kM dC dI am cI cZ th z v f U)) (va_Qi (fun (r : Int32) (_ : Unit) => r = (F_X5_check z v f x).1) (fun _ U9 => va_P (dC, dI) vwCl (wM am cI cZ ((F_X5_check z v f x).2.1) ((F_X5_check z v f x).2.2.1) ((F_X5_check z v f x).2.2.2.1) ((F_X5_check z v f x).2.2.2.2)) U9.heap) (va_A (wM am cI cZ th z v f) sz)) 0 0 (va_A (wM am cI cZ th z v f) sz) := by
  refine Met.ofW (cc := cX5_check) (maxL := 5) (ret := (some .int)) (by decide) rfl ?_
  intro p e s m args below meth c s₁ B hml hv
  obtain ⟨rfl, hsz, hD0, hP, hK, hN⟩ := hv
  have hx := B.exec
  have hb := B.bytes
  have hr := B.returns
  have hts := atoms_spec (ws := wsX5_check) B.pre
  have hown : s.vm.findClass RX5 = some m.cls := findClass_of_methodNamed B.named
  have hlocks := B.notSynchronized
  have hok9 := hok
  obtain ⟨hz0, hz1, hz2, hz3, hz4, hbz, hbs, hdp, hgv⟩ := hok9
  have hcn148 := hts (.constant RX5 148 (100000000)) (List.mem_of_getElem? (i := 4) rfl)
  have hfl145 := hts (.fieldLink RX5 145 "TraderRightsModel" "read" "I") (List.mem_of_getElem? (i := 2) rfl)
  have hfl59 := hts (.fieldLink RX5 59 "TraderRightsModel" "letters" "[I") (List.mem_of_getElem? (i := 3) rfl)
  have hfl62 := hts (.fieldLink RX5 62 "TraderRightsModel" "certified" "I") (List.mem_of_getElem? (i := 5) rfl)
  have hfl66 := hts (.fieldLink RX5 66 "TraderRightsModel" "thrown" "I") (List.mem_of_getElem? (i := 1) rfl)
  have hinX5 : ∀ w ∈ u_ws RX5 TX5 25, w ∈ wsX5_check := fun w h => List.mem_cons_of_mem _ (List.mem_append_right _ h)
  subst hsz
  have hD := hD0.self (sz := s.heap.size)
  generalize hAe : va_A (wM am cI cZ th z v f) s.heap.size = A at hD ⊢
  have hA : ∀ q : Nat, s.heap.size ≤ q → A q := fun q h => by rw [← hAe]; exact Or.inr h
  have hS : va_S A s.heap s.heap [] := va_S.rf
  have hl := lv_entry ([.ref (am 0), .int x]) (n := 5) (Nat.le_of_ble_eq_true rfl)
  rw [lg_entry_eq]
  generalize (lg_sl ([.ref (am 0), .int x]) ++ List.replicate (5 - (lg_sl ([.ref (am 0), .int x])).length) Slot.unset).toArray = ls at hl ⊢
  have hl : lv_has ls 5 [(0, .ref (am 0)), (1, .int x)] := hl
  generalize hF : F_X5_check z v f x = R9
  generalize hQ9 : MQ below _ _ s 0 0 A = Q9
  rw [F_X5_check] at hF
  refine lv_aload_n hx hb dX5_check_0 rfl (lv_at hl 0 rfl) ?_
  refine lv_iconst (v := 0) hx hb dX5_check_1 (by decide) ?_
  refine va_put (D := (dC, dI)) (ci := 5) (v := .int 0) (ty := .int) (C := RX5) (T := TX5) (N := 25) hx hb hts hinX5 tyX5 tyX5_ok nmX5 hown hK hP hD hS 0 rfl rfl 0 (by decide) hfl66 (fun _ h9 => h9) rfl (by decide +kernel) rfl rfl (Nat.le_of_ble_eq_true rfl) dX5_check_2 (fun H locs hP hD hS => ?_)
  have hP : va_P (dC, dI) vwCl (wM am cI cZ 0 z v f) H := hP
  have hD : va_D A (wM am cI cZ 0 z v f) := hD
  refine lv_iload_n hx hb dX5_check_5 rfl (lv_at hl 1 rfl) ?_
  refine lv_bipush (v := 65) hx hb dX5_check_6 (by decide) ?_
  refine lv_bipush (v := 90) hx hb dX5_check_8 (by decide) ?_
  refine vp_callSi (W.runS (As := [.int x, .int 65, .int 90]) (rest := []) ⟨hx, hb, hml, hown, hts⟩ (c_X5_in l x 65 90) (cwS 3 hts gX5_check_X5_in rfl rfl rfl (by decide +kernel) ⟨Nat.le_of_ble_eq_true rfl, Nat.le_of_ble_eq_true rfl⟩) preT rfl rfl hl.1 rfl (lv_room (Nat.le_of_ble_eq_true rfl)) dX5_check_10 ⟨Nat.zero_le _, Nat.zero_le _⟩) (fun r1 h9 => ?_)
  have hr1 : r1 = F_X5_in x 65 90 := h9
  try rw [← hr1] at hF
  refine lv_if_ne (tgt := 23) hx hb dX5_check_13 (by decide) (fun c2 => ?_) (fun c2 => ?_)
  · rw [if_neg c2] at hF
    have c2f : ¬ F_X5_in x 65 90 = 0 := by rw [← hr1]; exact c2
    refine lv_aload_n hx hb dX5_check_23 rfl (lv_at hl 0 rfl) ?_
    refine va_get (D := (dC, dI)) (ci := 5) (v := .ref (am 17)) (C := RX5) (T := TX5) (N := 25) hx hb hts hinX5 hown hK hP 0 rfl rfl 22 (by decide) hfl59 (fun _ h9 => h9) rfl dX5_check_24 ?_
    refine lv_aload_n hx hb dX5_check_27 rfl (lv_at hl 0 rfl) ?_
    refine va_get (D := (dC, dI)) (ci := 5) (v := .int (nI (z 4))) (C := RX5) (T := TX5) (N := 25) hx hb hts hinX5 hown hK hP 0 rfl rfl 23 (by decide) hfl145 (fun _ h9 => h9) rfl dX5_check_28 ?_
    refine lv_iload_n hx hb dX5_check_31 rfl (lv_at hl 1 rfl) ?_
    refine lv_bipush (v := 65) hx hb dX5_check_32 (by decide) ?_
    refine lv_isub hx hb dX5_check_34 ?_
    refine xa_ist hx hb hK hP hD hS 17 0 rfl rfl (by omega) (by decide) dX5_check_35 (fun H locs hP hD hS => ?_)
    have hP : va_P (dC, dI) vwCl (wM am cI cZ 0 z v (uu f 16 (upd (f 16) (z 4) (x - 65)))) H := hP
    have hD : va_D A (wM am cI cZ 0 z v (uu f 16 (upd (f 16) (z 4) (x - 65)))) := hD
    refine lv_aload_n hx hb dX5_check_36 rfl (lv_at hl 0 rfl) ?_
    refine lv_dup hx hb dX5_check_37 rfl ?_
    refine va_get (D := (dC, dI)) (ci := 5) (v := .int (nI (z 4))) (C := RX5) (T := TX5) (N := 25) hx hb hts hinX5 hown hK hP 0 rfl rfl 23 (by decide) hfl145 (fun _ h9 => h9) rfl dX5_check_38 ?_
    refine lv_iconst (v := 1) hx hb dX5_check_41 (by decide) ?_
    refine lv_iadd hx hb dX5_check_42 ?_
    refine xe_top (nI_1 _) ?_
    refine va_put (D := (dC, dI)) (ci := 5) (v := .int (nI (z 4 + 1))) (ty := .int) (C := RX5) (T := TX5) (N := 25) hx hb hts hinX5 tyX5 tyX5_ok nmX5 hown hK hP hD hS 0 rfl rfl 23 (by decide) hfl145 (fun _ h9 => h9) rfl (by decide +kernel) rfl rfl (Nat.le_of_ble_eq_true rfl) dX5_check_43 (fun H locs hP hD hS => ?_)
    have hP : va_P (dC, dI) vwCl (wM am cI cZ 0 (uu z 4 (z 4 + 1)) v (uu f 16 (upd (f 16) (z 4) (x - 65)))) H := hP
    have hD : va_D A (wM am cI cZ 0 (uu z 4 (z 4 + 1)) v (uu f 16 (upd (f 16) (z 4) (x - 65)))) := hD
    refine lv_aload_n hx hb dX5_check_46 rfl (lv_at hl 0 rfl) ?_
    refine va_get (D := (dC, dI)) (ci := 5) (v := .int (nI (z 4 + 1))) (C := RX5) (T := TX5) (N := 25) hx hb hts hinX5 hown hK hP 0 rfl rfl 23 (by decide) hfl145 (fun _ h9 => h9) rfl dX5_check_47 ?_
    refine lv_bipush (v := 7) hx hb dX5_check_50 (by decide) ?_
    refine lv_icmp_ge (tgt := 57) hx hb dX5_check_52 (by decide) (fun c3 => ?_) (fun c3 => ?_)
    · have c3 : 7 ≤ z 4 + 1 := (nI_leI (a := 7) (b := z 4 + 1) (by omega) (by omega)).mp c3
      rw [if_pos c3] at hF
      refine lv_aload_n hx hb dX5_check_57 rfl (lv_at hl 0 rfl) ?_
      refine lv_iconst (v := 0) hx hb dX5_check_58 (by decide) ?_
      refine va_put (D := (dC, dI)) (ci := 5) (v := .int (nI 0)) (ty := .int) (C := RX5) (T := TX5) (N := 25) hx hb hts hinX5 tyX5 tyX5_ok nmX5 hown hK hP hD hS 0 rfl rfl 23 (by decide) hfl145 (fun _ h9 => h9) rfl (by decide +kernel) rfl rfl (Nat.le_of_ble_eq_true rfl) dX5_check_59 (fun H locs hP hD hS => ?_)
      have hP : va_P (dC, dI) vwCl (wM am cI cZ 0 (uu (uu z 4 (z 4 + 1)) 4 0) v (uu f 16 (upd (f 16) (z 4) (x - 65)))) H := hP
      have hD : va_D A (wM am cI cZ 0 (uu (uu z 4 (z 4 + 1)) 4 0) v (uu f 16 (upd (f 16) (z 4) (x - 65)))) := hD
      refine lv_iconst (v := 0) hx hb dX5_check_62 (by decide) ?_
      refine lv_istore_n (lv' := [(2, .int 0), (0, .ref (am 0)), (1, .int x)]) hx hb dX5_check_63 rfl hl (by decide) rfl (fun ls hl => ?_)
      refine lv_iconst (v := 0) hx hb dX5_check_64 (by decide) ?_
      refine lv_istore_n (lv' := [(3, .int 0), (2, .int 0), (0, .ref (am 0)), (1, .int x)]) hx hb dX5_check_65 rfl hl (by decide) rfl (fun ls hl => ?_)
      refine lv_iconst (v := 0) hx hb dX5_check_66 (by decide) ?_
      refine lv_istore (lv' := [(4, .int 0), (3, .int 0), (2, .int 0), (0, .ref (am 0)), (1, .int x)]) hx hb dX5_check_67 hl (by decide) rfl (fun ls hl => ?_)
      have lp69 : ∀ (n69 : Nat) (nu : Int32) (su : Int32) (k : Nat) (ls : Array Slot), k ≤ 6 → 6 < k + n69 → lv_has ls 5 [(0, .ref (am 0)), (1, .int x), (2, .int nu), (3, .int su), (4, .int (nI k))] → (∀ ls : Array Slot, lv_has ls 5 [(0, .ref (am 0)), (1, .int x), (2, .int ((F_X5_check_L69 z v f x n69 nu su k).1)), (3, .int ((F_X5_check_L69 z v f x n69 nu su k).2))] → W p l e (headSpec wsX5_check ({ frames := 1, cells := 0, slots := 0, locals := 22 })).room s m ([.ref (am 0), .int x] : List Value).toArray below meth c H locs 0 0 Q9 (F0 m 115 ls [])) → W p l e (headSpec wsX5_check ({ frames := 1, cells := 0, slots := 0, locals := 22 })).room s m ([.ref (am 0), .int x] : List Value).toArray below meth c H locs 0 0 Q9 (F0 m 69 ls []) := by
        intro n69
        induction n69 with
        | zero =>
          intro nu su k ls hk69 hn69
          exact absurd hn69 (by omega)
        | succ n69 ih69 =>
          intro nu su k ls hk69 hn69 hl hq69
          generalize hF69 : F_X5_check_L69 z v f x (n69 + 1) nu su k = R69 at hq69
          rw [F_X5_check_L69] at hF69
          refine lv_iload hx hb dX5_check_69 (lv_at hl 4 rfl) ?_
          refine lv_bipush (v := 6) hx hb dX5_check_71 (by decide) ?_
          refine lv_icmp_ge (tgt := 115) hx hb dX5_check_73 (by decide) (fun c4 => ?_) (fun c4 => ?_)
          · have c4 : 6 ≤ k := (nI_leI (a := 6) (b := k) (by omega) (by omega)).mp c4
            rw [if_pos c4] at hF69
            subst hF69
            exact hq69 ls (lv_sub hl [0, 1, 2, 3] rfl)
          · have c4 : ¬ 6 ≤ k := fun h9 => c4 ((nI_leI (a := 6) (b := k) (by omega) (by omega)).mpr h9)
            rw [if_neg c4] at hF69
            refine lv_iload_n hx hb dX5_check_76 rfl (lv_at hl 2 rfl) ?_
            refine lv_aload_n hx hb dX5_check_77 rfl (lv_at hl 0 rfl) ?_
            refine va_get (D := (dC, dI)) (ci := 5) (v := .ref (am 17)) (C := RX5) (T := TX5) (N := 25) hx hb hts hinX5 hown hK hP 0 rfl rfl 22 (by decide) hfl59 (fun _ h9 => h9) rfl dX5_check_78 ?_
            refine lv_iload hx hb dX5_check_81 (lv_at hl 4 rfl) ?_
            refine xa_ild (f := upd (f 16) (z 4) (x - 65)) hx hb hK hP 17 0 rfl rfl (by omega) (by decide) dX5_check_83 ?_
            refine lv_iconst (v := 5) hx hb dX5_check_84 (by decide) ?_
            refine lv_iload hx hb dX5_check_85 (lv_at hl 4 rfl) ?_
            refine lv_isub hx hb dX5_check_87 ?_
            refine xe_top (pk_sub (a := 5) (b := k) (by omega)) ?_
            refine vp_callSi (W.runS (As := [.int (nI (5 - k))]) (rest := [.int ((upd (f 16) (z 4) (x - 65)) k), .int nu]) ⟨hx, hb, hml, hown, hts⟩ (c_X5_power l (nI (5 - k)) (by rw [nI_toInt (by omega)]; omega)) (cwS 1 hts gX5_check_X5_power rfl rfl rfl (by decide +kernel) ⟨Nat.le_of_ble_eq_true rfl, Nat.le_of_ble_eq_true rfl⟩) preT rfl rfl hl.1 rfl (lv_room (Nat.le_of_ble_eq_true rfl)) dX5_check_88 ⟨Nat.zero_le _, Nat.zero_le _⟩) (fun r5 h9 => ?_)
            have hr5 : r5 = F_X5_power (nI (5 - k)) := h9
            try rw [← hr5] at hF
            try rw [← hr5] at hF69
            refine lv_imul hx hb dX5_check_91 ?_
            refine lv_iadd hx hb dX5_check_92 ?_
            refine lv_istore_n (lv' := [(2, .int (nu + (((upd (f 16) (z 4) (x - 65)) k) * r5))), (0, .ref (am 0)), (1, .int x), (3, .int su), (4, .int (nI k))]) hx hb dX5_check_93 rfl hl (by decide) rfl (fun ls hl => ?_)
            refine lv_iload_n hx hb dX5_check_94 rfl (lv_at hl 3 rfl) ?_
            refine lv_iload hx hb dX5_check_95 (lv_at hl 4 rfl) ?_
            refine lv_iconst (v := 1) hx hb dX5_check_97 (by decide) ?_
            refine lv_iadd hx hb dX5_check_98 ?_
            refine xe_top (nI_1 _) ?_
            refine lv_aload_n hx hb dX5_check_99 rfl (lv_at hl 1 rfl) ?_
            refine va_get (D := (dC, dI)) (ci := 5) (v := .ref (am 17)) (C := RX5) (T := TX5) (N := 25) hx hb hts hinX5 hown hK hP 0 rfl rfl 22 (by decide) hfl59 (fun _ h9 => h9) rfl dX5_check_100 ?_
            refine lv_iload hx hb dX5_check_103 (lv_at hl 4 rfl) ?_
            refine xa_ild (f := upd (f 16) (z 4) (x - 65)) hx hb hK hP 17 0 rfl rfl (by omega) (by decide) dX5_check_105 ?_
            refine lv_imul hx hb dX5_check_106 ?_
            refine lv_iadd hx hb dX5_check_107 ?_
            refine lv_istore_n (lv' := [(3, .int (su + ((nI (k + 1)) * ((upd (f 16) (z 4) (x - 65)) k)))), (2, .int (nu + (((upd (f 16) (z 4) (x - 65)) k) * r5))), (0, .ref (am 0)), (1, .int x), (4, .int (nI k))]) hx hb dX5_check_108 rfl hl (by decide) rfl (fun ls hl => ?_)
            refine lv_iinc (v := nI (k + 1)) (lv' := [(4, .int (nI (k + 1))), (3, .int (su + ((nI (k + 1)) * ((upd (f 16) (z 4) (x - 65)) k)))), (2, .int (nu + (((upd (f 16) (z 4) (x - 65)) k) * r5))), (0, .ref (am 0)), (1, .int x)]) hx hb dX5_check_109 hl (k := 4) rfl (xi_inc _) (by decide) rfl (fun ls hl => ?_)
            refine lv_goto (tgt := 69) hx hb dX5_check_112 (by decide) ?_
            exact ih69 (nu + (((upd (f 16) (z 4) (x - 65)) k) * r5)) (su + ((nI (k + 1)) * ((upd (f 16) (z 4) (x - 65)) k))) (k + 1) ls (by omega) (by omega) (lv_sub hl [3, 4, 2, 1, 0] rfl) (by rw [hF69]; exact hq69)
      refine lp69 (6 + 1) 0 0 0 ls (by omega) (by omega) (lv_sub hl [3, 4, 2, 1, 0] rfl) (fun ls hl => ?_)
      obtain ⟨r6, hr6⟩ : ∃ y, y = (F_X5_check_L69 z v f x (6 + 1) 0 0 0) := ⟨_, rfl⟩
      rw [← hr6] at hl
      try rw [← hr6] at hF
      refine lv_iload_n hx hb dX5_check_115 rfl (lv_at hl 2 rfl) ?_
      refine lv_ldc (v := 100000000) hx hb hown hcn148 dX5_check_116 ?_
      refine lv_icmp_ge (tgt := 139) hx hb dX5_check_118 (by decide) (fun c7 => ?_) (fun c7 => ?_)
      · rw [if_pos c7] at hF
        refine lv_iconst (v := 0) hx hb dX5_check_139 (by decide) ?_
        refine lv_istore (lv' := [(4, .int 0), (0, .ref (am 0)), (1, .int x), (2, .int r6.1), (3, .int r6.2)]) hx hb dX5_check_140 hl (by decide) rfl (fun ls hl => ?_)
        refine lv_aload_n hx hb dX5_check_142 rfl (lv_at hl 1 rfl) ?_
        refine lv_iload hx hb dX5_check_143 (lv_at hl 0 rfl) ?_
        refine lv_if_eq (tgt := 152) hx hb dX5_check_145 (by decide) (fun _ => ?_) (fun c9 => absurd c9 (by decide))
        refine lv_aload_n hx hb dX5_check_152 rfl (lv_at hl 1 rfl) ?_
        refine va_get (D := (dC, dI)) (ci := 5) (v := .int (v 2)) (C := RX5) (T := TX5) (N := 25) hx hb hts hinX5 hown hK hP 0 rfl rfl 24 (by decide) hfl62 (fun _ h9 => h9) rfl dX5_check_153 ?_
        refine va_put (D := (dC, dI)) (ci := 5) (v := .int (v 2)) (ty := .int) (C := RX5) (T := TX5) (N := 25) hx hb hts hinX5 tyX5 tyX5_ok nmX5 hown hK hP hD hS 0 rfl rfl 24 (by decide) hfl62 (fun _ h9 => h9) rfl (by decide +kernel) rfl rfl (Nat.le_of_ble_eq_true rfl) dX5_check_156 (fun H locs hP hD hS => ?_)
        have hP : va_P (dC, dI) vwCl (wM am cI cZ 0 (uu (uu z 4 (z 4 + 1)) 4 0) (uu v 2 (v 2)) (uu f 16 (upd (f 16) (z 4) (x - 65)))) H := hP
        have hD : va_D A (wM am cI cZ 0 (uu (uu z 4 (z 4 + 1)) 4 0) (uu v 2 (v 2)) (uu f 16 (upd (f 16) (z 4) (x - 65)))) := hD
        refine lv_iload hx hb dX5_check_159 (lv_at hl 0 rfl) ?_
        refine lv_if_eq (tgt := 168) hx hb dX5_check_161 (by decide) (fun _ => ?_) (fun c9 => absurd c9 (by decide))
        refine lv_iconst (v := (-1)) hx hb dX5_check_168 (by decide) ?_
        subst hF
        subst hQ9
        exact W.iret (v := (-1)) hx hb hr (fun t9 ht hW => ⟨⟨(-1), (), rfl, rfl, by show va_P (dC, dI) vwCl _ t9.heap; rw [ht]; exact hP⟩, hS.F ht⟩) hS.2.2 dX5_check_169
      · rw [if_neg c7] at hF
        refine lv_aload_n hx hb dX5_check_121 rfl (lv_at hl 0 rfl) ?_
        refine va_get (D := (dC, dI)) (ci := 5) (v := .ref (am 17)) (C := RX5) (T := TX5) (N := 25) hx hb hts hinX5 hown hK hP 0 rfl rfl 22 (by decide) hfl59 (fun _ h9 => h9) rfl dX5_check_122 ?_
        refine lv_bipush (v := 6) hx hb dX5_check_125 (by decide) ?_
        refine xa_ild (f := upd (f 16) (z 4) (x - 65)) (k := 6) hx hb hK hP 17 0 rfl rfl (by decide) (by decide) dX5_check_127 ?_
        refine lv_iload_n hx hb dX5_check_128 rfl (lv_at hl 3 rfl) ?_
        refine lv_bipush (v := 23) hx hb dX5_check_129 (by decide) ?_
        refine lv_irem hx hb dX5_check_131 (by decide) ?_
        refine lv_icmp_ne (tgt := 139) hx hb dX5_check_132 (by decide) (fun c8 => ?_) (fun c8 => ?_)
        · rw [if_neg c8] at hF
          refine lv_iconst (v := 0) hx hb dX5_check_139 (by decide) ?_
          refine lv_istore (lv' := [(4, .int 0), (0, .ref (am 0)), (1, .int x), (2, .int r6.1), (3, .int r6.2)]) hx hb dX5_check_140 hl (by decide) rfl (fun ls hl => ?_)
          refine lv_aload_n hx hb dX5_check_142 rfl (lv_at hl 1 rfl) ?_
          refine lv_iload hx hb dX5_check_143 (lv_at hl 0 rfl) ?_
          refine lv_if_eq (tgt := 152) hx hb dX5_check_145 (by decide) (fun _ => ?_) (fun c9 => absurd c9 (by decide))
          refine lv_aload_n hx hb dX5_check_152 rfl (lv_at hl 1 rfl) ?_
          refine va_get (D := (dC, dI)) (ci := 5) (v := .int (v 2)) (C := RX5) (T := TX5) (N := 25) hx hb hts hinX5 hown hK hP 0 rfl rfl 24 (by decide) hfl62 (fun _ h9 => h9) rfl dX5_check_153 ?_
          refine va_put (D := (dC, dI)) (ci := 5) (v := .int (v 2)) (ty := .int) (C := RX5) (T := TX5) (N := 25) hx hb hts hinX5 tyX5 tyX5_ok nmX5 hown hK hP hD hS 0 rfl rfl 24 (by decide) hfl62 (fun _ h9 => h9) rfl (by decide +kernel) rfl rfl (Nat.le_of_ble_eq_true rfl) dX5_check_156 (fun H locs hP hD hS => ?_)
          have hP : va_P (dC, dI) vwCl (wM am cI cZ 0 (uu (uu z 4 (z 4 + 1)) 4 0) (uu v 2 (v 2)) (uu f 16 (upd (f 16) (z 4) (x - 65)))) H := hP
          have hD : va_D A (wM am cI cZ 0 (uu (uu z 4 (z 4 + 1)) 4 0) (uu v 2 (v 2)) (uu f 16 (upd (f 16) (z 4) (x - 65)))) := hD
          refine lv_iload hx hb dX5_check_159 (lv_at hl 0 rfl) ?_
          refine lv_if_eq (tgt := 168) hx hb dX5_check_161 (by decide) (fun _ => ?_) (fun c9 => absurd c9 (by decide))
          refine lv_iconst (v := (-1)) hx hb dX5_check_168 (by decide) ?_
          subst hF
          subst hQ9
          exact W.iret (v := (-1)) hx hb hr (fun t9 ht hW => ⟨⟨(-1), (), rfl, rfl, by show va_P (dC, dI) vwCl _ t9.heap; rw [ht]; exact hP⟩, hS.F ht⟩) hS.2.2 dX5_check_169
        · rw [if_pos c8] at hF
          refine lv_iconst (v := 1) hx hb dX5_check_135 (by decide) ?_
          refine lv_goto (tgt := 140) hx hb dX5_check_136 (by decide) ?_
          refine lv_istore (lv' := [(4, .int 1), (0, .ref (am 0)), (1, .int x), (2, .int r6.1), (3, .int r6.2)]) hx hb dX5_check_140 hl (by decide) rfl (fun ls hl => ?_)
          refine lv_aload_n hx hb dX5_check_142 rfl (lv_at hl 1 rfl) ?_
          refine lv_iload hx hb dX5_check_143 (lv_at hl 0 rfl) ?_
          refine lv_if_eq (tgt := 152) hx hb dX5_check_145 (by decide) (fun c9 => absurd c9 (by decide)) (fun _ => ?_)
          refine lv_iload_n hx hb dX5_check_148 rfl (lv_at hl 3 rfl) ?_
          refine lv_goto (tgt := 156) hx hb dX5_check_149 (by decide) ?_
          refine va_put (D := (dC, dI)) (ci := 5) (v := .int r6.1) (ty := .int) (C := RX5) (T := TX5) (N := 25) hx hb hts hinX5 tyX5 tyX5_ok nmX5 hown hK hP hD hS 0 rfl rfl 24 (by decide) hfl62 (fun _ h9 => h9) rfl (by decide +kernel) rfl rfl (Nat.le_of_ble_eq_true rfl) dX5_check_156 (fun H locs hP hD hS => ?_)
          have hP : va_P (dC, dI) vwCl (wM am cI cZ 0 (uu (uu z 4 (z 4 + 1)) 4 0) (uu v 2 r6.1) (uu f 16 (upd (f 16) (z 4) (x - 65)))) H := hP
          have hD : va_D A (wM am cI cZ 0 (uu (uu z 4 (z 4 + 1)) 4 0) (uu v 2 r6.1) (uu f 16 (upd (f 16) (z 4) (x - 65)))) := hD
          refine lv_iload hx hb dX5_check_159 (lv_at hl 0 rfl) ?_
          refine lv_if_eq (tgt := 168) hx hb dX5_check_161 (by decide) (fun c9 => absurd c9 (by decide)) (fun _ => ?_)
          refine lv_iconst (v := 1) hx hb dX5_check_164 (by decide) ?_
          refine lv_goto (tgt := 169) hx hb dX5_check_165 (by decide) ?_
          subst hF
          subst hQ9
          exact W.iret (v := 1) hx hb hr (fun t9 ht hW => ⟨⟨1, (), rfl, rfl, by show va_P (dC, dI) vwCl _ t9.heap; rw [ht]; exact hP⟩, hS.F ht⟩) hS.2.2 dX5_check_169
    · have c3 : ¬ 7 ≤ z 4 + 1 := fun h9 => c3 ((nI_leI (a := 7) (b := z 4 + 1) (by omega) (by omega)).mpr h9)
      rw [if_neg c3] at hF
      refine lv_iconst (v := 0) hx hb dX5_check_55 (by decide) ?_
      subst hF
      subst hQ9
      exact W.iret (v := 0) hx hb hr (fun t9 ht hW => ⟨⟨0, (), rfl, rfl, by show va_P (dC, dI) vwCl _ t9.heap; rw [ht]; exact hP⟩, hS.F ht⟩) hS.2.2 dX5_check_56
  · rw [if_pos c2] at hF
    have c2f : F_X5_in x 65 90 = 0 := by rw [← hr1]; exact c2
    refine lv_aload_n hx hb dX5_check_16 rfl (lv_at hl 0 rfl) ?_
    refine lv_iconst (v := 0) hx hb dX5_check_17 (by decide) ?_
    refine va_put (D := (dC, dI)) (ci := 5) (v := .int (nI 0)) (ty := .int) (C := RX5) (T := TX5) (N := 25) hx hb hts hinX5 tyX5 tyX5_ok nmX5 hown hK hP hD hS 0 rfl rfl 23 (by decide) hfl145 (fun _ h9 => h9) rfl (by decide +kernel) rfl rfl (Nat.le_of_ble_eq_true rfl) dX5_check_18 (fun H locs hP hD hS => ?_)
    have hP : va_P (dC, dI) vwCl (wM am cI cZ 0 (uu z 4 0) v f) H := hP
    have hD : va_D A (wM am cI cZ 0 (uu z 4 0) v f) := hD
    refine lv_iconst (v := (-1)) hx hb dX5_check_21 (by decide) ?_
    subst hF
    subst hQ9
    exact W.iret (v := (-1)) hx hb hr (fun t9 ht hW => ⟨⟨(-1), (), rfl, rfl, by show va_P (dC, dI) vwCl _ t9.heap; rw [ht]; exact hP⟩, hS.F ht⟩) hS.2.2 dX5_check_22
