def F_X4_answerForAlive (z : Nat → Nat) (v : Nat → Int32) (f : Nat → Nat → Int32) (t a pl day : Int32) : Int32 :=
  if F_X4_holds (F_X4_ownersOf z v f a pl day (F_X4_aliveOn z v f day)) t = 0 then
    if (((F_X4_ownersOf z v f a pl day (F_X4_aliveOn z v f day)) &&& ((F_X4_principalSet z v f t) ||| (F_X0_giversTo z v f t 1 day))) &&& (F_X4_aliveOn z v f day)) = 0 then
      if (((F_X4_ownersOf z v f a pl day (F_X4_aliveOn z v f day)) &&& (F_X0_giversTo z v f t 0 day)) &&& (F_X4_aliveOn z v f day)) = 0 then
        if F_X4_isForbidden z v f t a = 0 then
          if (((F_X4_ownersOf z v f a pl day (F_X4_aliveOn z v f day)) &&& (F_X0_giversTo z v f t 0 day)) &&& (F_X4_aliveOn z v f day)) = 0 then
            if (((F_X4_ownersOf z v f a pl day (F_X4_aliveOn z v f day)) &&& ((F_X4_principalSet z v f t) ||| (F_X0_giversTo z v f t 1 day))) ||| ((F_X4_ownersOf z v f a pl day (F_X4_aliveOn z v f day)) &&& (F_X0_giversTo z v f t 0 day))) = 0 then
              7
            else
              6
          else
            5
        else
          4
      else
        if F_X4_holds (F_X4_ownersOf z v f 0 pl day (F_X4_aliveOn z v f day)) t = 0 then
          if F_X4_isForbidden z v f t a = 0 then
            if (((F_X4_ownersOf z v f a pl day (F_X4_aliveOn z v f day)) &&& (F_X0_giversTo z v f t 0 day)) &&& (F_X4_aliveOn z v f day)) = 0 then
              if (((F_X4_ownersOf z v f a pl day (F_X4_aliveOn z v f day)) &&& ((F_X4_principalSet z v f t) ||| (F_X0_giversTo z v f t 1 day))) ||| ((F_X4_ownersOf z v f a pl day (F_X4_aliveOn z v f day)) &&& (F_X0_giversTo z v f t 0 day))) = 0 then
                7
              else
                6
            else
              5
          else
            4
        else
          0
    else
      0
  else
    0
set_option maxHeartbeats 4000000 in
set_option maxRecDepth 100000 in
theorem c_X4_answerForAlive (l : Launch) (dC : Nat → ClassId) (dI : Nat → Nat → Nat) (ad : Nat → Nat) (cI cZ : ClassId) (z : Nat → Nat) (v : Nat → Int32) (f : Nat → Nat → Int32) (t a pl day : Int32) (hok : okX z v f) (ht : vp_in t 12) : Met l yX4_answerForAlive wsX4_answerForAlive ({ frames := 4, cells := 0, slots := 0, locals := 96 }) (va_Pc [.ref (ad 0), .int t, .int a, .int pl, .int day] (kX dC dI ad cI cZ z v f)) (vp_Si (fun r => r = F_X4_answerForAlive z v f t a pl day)) 0 0 (fun _ => False) := by
  refine Met.ofW (cc := cX4_answerForAlive) (maxL := 9) (ret := (some .int)) (by decide) rfl ?_
  intro p e s m args below meth c s₁ B hml hv
  obtain ⟨rfl, hP, hK, hN⟩ := hv
  have hx := B.exec
  have hb := B.bytes
  have hr := B.returns
  have hts := atoms_spec (ws := wsX4_answerForAlive) B.pre
  have hown : s.vm.findClass RX4 = some m.cls := findClass_of_methodNamed B.named
  have hlocks := B.notSynchronized
  have hok9 := hok
  obtain ⟨hz0, hz1, hz2, hz3, hz4, hbz, hbs⟩ := hok9
  have hfl48 := hts (.fieldLink RX4 48 "TraderRights" "mandates" "LTraderRights$Mandates;") (List.mem_of_getElem? (i := 1) rfl)
  have himX0_giversTo := hts (.instanceMethod yX0_giversTo) (List.mem_of_getElem? (i := 66) rfl)
  have hinX4 : ∀ w ∈ u_ws RX4 TX4 11, w ∈ wsX4_answerForAlive := fun w h => List.mem_cons_of_mem _ (List.mem_append_left _ (List.mem_append_left _ (List.mem_append_left _ (List.mem_append_right _ h))))
  have hiniX0 := hts (.initialized RX0) (List.mem_of_getElem? (i := 67) rfl)
  have hnw217 := hN (.methodLinkNest RX4 217 yX0_giversTo "TraderRights") (by decide +kernel)
  have hseX0_giversTo := hts (.selects RX0 yX0_giversTo yX0_giversTo) (List.mem_of_getElem? (i := 68) rfl)
  have hl := lv_entry ([.ref (ad 0), .int t, .int a, .int pl, .int day]) (n := 9) (Nat.le_of_ble_eq_true rfl)
  rw [lg_entry_eq]
  generalize (lg_sl ([.ref (ad 0), .int t, .int a, .int pl, .int day]) ++ List.replicate (9 - (lg_sl ([.ref (ad 0), .int t, .int a, .int pl, .int day])).length) Slot.unset).toArray = ls at hl ⊢
  have hl : lv_has ls 9 [(0, .ref (ad 0)), (1, .int t), (2, .int a), (3, .int pl), (4, .int day)] := hl
  generalize hF : F_X4_answerForAlive z v f t a pl day = R9
  generalize hQ9 : MQ below (vp_Si (fun r => r = R9)) _ s 0 0 (fun _ => False) = Q9
  rw [F_X4_answerForAlive] at hF
  refine lv_aload_n hx hb dX4_answerForAlive_0 rfl (lv_at hl 0 rfl) ?_
  refine lv_iload hx hb dX4_answerForAlive_1 (lv_at hl 4 rfl) ?_
  refine vp_callSi (W.runV (As := [.int day]) (rest := []) ⟨hx, hb, hml, hown, hts⟩ (c_X4_aliveOn l dC dI ad cI cZ z v f day hok) (cwV 1 hts gX4_answerForAlive_X4_aliveOn rfl rfl rfl (by decide +kernel) ⟨Nat.le_of_ble_eq_true rfl, Nat.le_of_ble_eq_true rfl⟩) (preX (ci := 4) (q0 := 0) hP hK hN rfl rfl rfl) rfl rfl hl.1 rfl (lv_room (Nat.le_of_ble_eq_true rfl)) dX4_answerForAlive_3 ⟨Nat.zero_le _, Nat.zero_le _⟩) (fun r1 h9 => ?_)
  have hr1 : r1 = F_X4_aliveOn z v f day := h9
  try rw [← hr1] at hF
  refine lv_istore (lv' := [(5, .int r1), (0, .ref (ad 0)), (1, .int t), (2, .int a), (3, .int pl), (4, .int day)]) hx hb dX4_answerForAlive_6 hl (by decide) rfl (fun ls hl => ?_)
  refine lv_aload_n hx hb dX4_answerForAlive_8 rfl (lv_at hl 1 rfl) ?_
  refine lv_iload_n hx hb dX4_answerForAlive_9 rfl (lv_at hl 3 rfl) ?_
  refine lv_iload_n hx hb dX4_answerForAlive_10 rfl (lv_at hl 4 rfl) ?_
  refine lv_iload hx hb dX4_answerForAlive_11 (lv_at hl 5 rfl) ?_
  refine lv_iload hx hb dX4_answerForAlive_13 (lv_at hl 0 rfl) ?_
  refine vp_callSi (W.runV (As := [.int a, .int pl, .int day, .int r1]) (rest := []) ⟨hx, hb, hml, hown, hts⟩ (c_X4_ownersOf l dC dI ad cI cZ z v f a pl day r1 hok) (cwV 4 hts gX4_answerForAlive_X4_ownersOf rfl rfl rfl (by decide +kernel) ⟨Nat.le_of_ble_eq_true rfl, Nat.le_of_ble_eq_true rfl⟩) (preX (ci := 4) (q0 := 0) hP hK hN rfl rfl rfl) rfl rfl hl.1 rfl (lv_room (Nat.le_of_ble_eq_true rfl)) dX4_answerForAlive_15 ⟨Nat.zero_le _, Nat.zero_le _⟩) (fun r2 h9 => ?_)
  have hr2 : r2 = F_X4_ownersOf z v f a pl day r1 := h9
  try rw [← hr2] at hF
  refine lv_istore (lv' := [(6, .int r2), (5, .int r1), (0, .ref (ad 0)), (1, .int t), (2, .int a), (3, .int pl), (4, .int day)]) hx hb dX4_answerForAlive_18 hl (by decide) rfl (fun ls hl => ?_)
  refine lv_iload hx hb dX4_answerForAlive_20 (lv_at hl 0 rfl) ?_
  refine lv_iload_n hx hb dX4_answerForAlive_22 rfl (lv_at hl 3 rfl) ?_
  refine vp_callSi (W.runS (As := [.int r2, .int t]) (rest := []) ⟨hx, hb, hml, hown, hts⟩ (c_X4_holds l r2 t) (cwS 2 hts gX4_answerForAlive_X4_holds rfl rfl rfl (by decide +kernel) ⟨Nat.le_of_ble_eq_true rfl, Nat.le_of_ble_eq_true rfl⟩) preT rfl rfl hl.1 rfl (lv_room (Nat.le_of_ble_eq_true rfl)) dX4_answerForAlive_23 ⟨Nat.zero_le _, Nat.zero_le _⟩) (fun r3 h9 => ?_)
  have hr3 : r3 = F_X4_holds r2 t := h9
  try rw [← hr3] at hF
  refine lv_if_eq (tgt := 31) hx hb dX4_answerForAlive_26 (by decide) (fun c4 => ?_) (fun c4 => ?_)
  · rw [if_pos c4] at hF
    have c4f : F_X4_holds r2 t = 0 := by rw [← hr3]; exact c4
    refine lv_iload hx hb dX4_answerForAlive_31 (lv_at hl 0 rfl) ?_
    refine lv_aload_n hx hb dX4_answerForAlive_33 rfl (lv_at hl 2 rfl) ?_
    refine lv_iload_n hx hb dX4_answerForAlive_34 rfl (lv_at hl 3 rfl) ?_
    refine vp_callSi (W.runV (As := [.int t]) (rest := [.int r2]) ⟨hx, hb, hml, hown, hts⟩ (c_X4_principalSet l dC dI ad cI cZ z v f t hok ht) (cwV 1 hts gX4_answerForAlive_X4_principalSet rfl rfl rfl (by decide +kernel) ⟨Nat.le_of_ble_eq_true rfl, Nat.le_of_ble_eq_true rfl⟩) (preX (ci := 4) (q0 := 0) hP hK hN rfl rfl rfl) rfl rfl hl.1 rfl (lv_room (Nat.le_of_ble_eq_true rfl)) dX4_answerForAlive_35 ⟨Nat.zero_le _, Nat.zero_le _⟩) (fun r5 h9 => ?_)
    have hr5 : r5 = F_X4_principalSet z v f t := h9
    try rw [← hr5] at hF
    refine lv_aload_n hx hb dX4_answerForAlive_38 rfl (lv_at hl 2 rfl) ?_
    refine va_get (D := (dC, dI)) (ci := 4) (v := .ref (ad 12)) (C := RX4) (T := TX4) (N := 11) hx hb hts hinX4 hown hK hP 0 rfl rfl 8 (by decide) hfl48 (fun _ h9 => h9) rfl dX4_answerForAlive_39 ?_
    refine lv_iload_n hx hb dX4_answerForAlive_42 rfl (lv_at hl 3 rfl) ?_
    refine lv_iconst (v := 1) hx hb dX4_answerForAlive_43 (by decide) ?_
    refine lv_iload hx hb dX4_answerForAlive_44 (lv_at hl 6 rfl) ?_
    refine vp_callSi (va_Run.run (va_runVN (As := [.int t, .int 1, .int day]) (rest := [.int r5, .int r2]) ⟨hx, hb, hml, hown, hts⟩ (c_X0_giversTo l dC dI ad cI cZ z v f t 1 day hok) ⟨(va_cnB 3 hts gX4_answerForAlive_X0_giversTo_n217 rfl rfl rfl hnw217 hiniX0 (by decide +kernel) ⟨Nat.le_of_ble_eq_true rfl, Nat.le_of_ble_eq_true rfl⟩), himX0_giversTo, hseX0_giversTo⟩ (preX (ci := 0) (q0 := 12) hP hK hN rfl rfl rfl) rfl rfl hl.1 rfl (lv_room (Nat.le_of_ble_eq_true rfl)) dX4_answerForAlive_46 ⟨Nat.zero_le _, Nat.zero_le _⟩)) (fun r6 h9 => ?_)
    have hr6 : r6 = F_X0_giversTo z v f t 1 day := h9
    try rw [← hr6] at hF
    refine lv_ior hx hb dX4_answerForAlive_49 ?_
    refine lv_iand hx hb dX4_answerForAlive_50 ?_
    refine lv_istore (lv' := [(7, .int (r2 &&& (r5 ||| r6))), (6, .int r2), (5, .int r1), (0, .ref (ad 0)), (1, .int t), (2, .int a), (3, .int pl), (4, .int day)]) hx hb dX4_answerForAlive_51 hl (by decide) rfl (fun ls hl => ?_)
    refine lv_iload hx hb dX4_answerForAlive_53 (lv_at hl 1 rfl) ?_
    refine lv_aload_n hx hb dX4_answerForAlive_55 rfl (lv_at hl 3 rfl) ?_
    refine va_get (D := (dC, dI)) (ci := 4) (v := .ref (ad 12)) (C := RX4) (T := TX4) (N := 11) hx hb hts hinX4 hown hK hP 0 rfl rfl 8 (by decide) hfl48 (fun _ h9 => h9) rfl dX4_answerForAlive_56 ?_
    refine lv_iload_n hx hb dX4_answerForAlive_59 rfl (lv_at hl 4 rfl) ?_
    refine lv_iconst (v := 0) hx hb dX4_answerForAlive_60 (by decide) ?_
    refine lv_iload hx hb dX4_answerForAlive_61 (lv_at hl 7 rfl) ?_
    refine vp_callSi (va_Run.run (va_runVN (As := [.int t, .int 0, .int day]) (rest := [.int r2]) ⟨hx, hb, hml, hown, hts⟩ (c_X0_giversTo l dC dI ad cI cZ z v f t 0 day hok) ⟨(va_cnB 3 hts gX4_answerForAlive_X0_giversTo_n217 rfl rfl rfl hnw217 hiniX0 (by decide +kernel) ⟨Nat.le_of_ble_eq_true rfl, Nat.le_of_ble_eq_true rfl⟩), himX0_giversTo, hseX0_giversTo⟩ (preX (ci := 0) (q0 := 12) hP hK hN rfl rfl rfl) rfl rfl hl.1 rfl (lv_room (Nat.le_of_ble_eq_true rfl)) dX4_answerForAlive_63 ⟨Nat.zero_le _, Nat.zero_le _⟩)) (fun r7 h9 => ?_)
    have hr7 : r7 = F_X0_giversTo z v f t 0 day := h9
    try rw [← hr7] at hF
    refine lv_iand hx hb dX4_answerForAlive_66 ?_
    refine lv_istore (lv' := [(8, .int (r2 &&& r7)), (7, .int (r2 &&& (r5 ||| r6))), (6, .int r2), (5, .int r1), (0, .ref (ad 0)), (1, .int t), (2, .int a), (3, .int pl), (4, .int day)]) hx hb dX4_answerForAlive_67 hl (by decide) rfl (fun ls hl => ?_)
    refine lv_iload hx hb dX4_answerForAlive_69 (lv_at hl 1 rfl) ?_
    refine lv_iload hx hb dX4_answerForAlive_71 (lv_at hl 3 rfl) ?_
    refine lv_iand hx hb dX4_answerForAlive_73 ?_
    refine lv_if_eq (tgt := 79) hx hb dX4_answerForAlive_74 (by decide) (fun c8 => ?_) (fun c8 => ?_)
    · rw [if_pos c8] at hF
      refine lv_iload hx hb dX4_answerForAlive_79 (lv_at hl 0 rfl) ?_
      refine lv_iload hx hb dX4_answerForAlive_81 (lv_at hl 3 rfl) ?_
      refine lv_iand hx hb dX4_answerForAlive_83 ?_
      refine lv_if_eq (tgt := 106) hx hb dX4_answerForAlive_84 (by decide) (fun c9 => ?_) (fun c9 => ?_)
      · rw [if_pos c9] at hF
        refine lv_aload_n hx hb dX4_answerForAlive_106 rfl (lv_at hl 4 rfl) ?_
        refine lv_iload_n hx hb dX4_answerForAlive_107 rfl (lv_at hl 5 rfl) ?_
        refine lv_iload_n hx hb dX4_answerForAlive_108 rfl (lv_at hl 6 rfl) ?_
        refine vp_callSi (W.runV (As := [.int t, .int a]) (rest := []) ⟨hx, hb, hml, hown, hts⟩ (c_X4_isForbidden l dC dI ad cI cZ z v f t a hok ht) (cwV 2 hts gX4_answerForAlive_X4_isForbidden rfl rfl rfl (by decide +kernel) ⟨Nat.le_of_ble_eq_true rfl, Nat.le_of_ble_eq_true rfl⟩) (preX (ci := 4) (q0 := 0) hP hK hN rfl rfl rfl) rfl rfl hl.1 rfl (lv_room (Nat.le_of_ble_eq_true rfl)) dX4_answerForAlive_109 ⟨Nat.zero_le _, Nat.zero_le _⟩) (fun r10 h9 => ?_)
        have hr10 : r10 = F_X4_isForbidden z v f t a := h9
        try rw [← hr10] at hF
        refine lv_if_eq (tgt := 117) hx hb dX4_answerForAlive_112 (by decide) (fun c11 => ?_) (fun c11 => ?_)
        · rw [if_pos c11] at hF
          have c11f : F_X4_isForbidden z v f t a = 0 := by rw [← hr10]; exact c11
          refine lv_iload hx hb dX4_answerForAlive_117 (lv_at hl 0 rfl) ?_
          refine lv_iload hx hb dX4_answerForAlive_119 (lv_at hl 3 rfl) ?_
          refine lv_iand hx hb dX4_answerForAlive_121 ?_
          refine lv_if_eq (tgt := 127) hx hb dX4_answerForAlive_122 (by decide) (fun c12 => ?_) (fun c12 => ?_)
          · rw [if_pos c12] at hF
            refine lv_iload hx hb dX4_answerForAlive_127 (lv_at hl 1 rfl) ?_
            refine lv_iload hx hb dX4_answerForAlive_129 (lv_at hl 0 rfl) ?_
            refine lv_ior hx hb dX4_answerForAlive_131 ?_
            refine lv_if_eq (tgt := 140) hx hb dX4_answerForAlive_132 (by decide) (fun c13 => ?_) (fun c13 => ?_)
            · rw [if_pos c13] at hF
              refine lv_bipush (v := 7) hx hb dX4_answerForAlive_140 (by decide) ?_
              subst hQ9
              exact W.iret hx hb hr (fun t ht hW => ⟨_, rfl, hF, ht⟩) (fun q h => by cases h) dX4_answerForAlive_142
            · rw [if_neg c13] at hF
              refine lv_bipush (v := 6) hx hb dX4_answerForAlive_135 (by decide) ?_
              refine lv_goto (tgt := 142) hx hb dX4_answerForAlive_137 (by decide) ?_
              subst hQ9
              exact W.iret hx hb hr (fun t ht hW => ⟨_, rfl, hF, ht⟩) (fun q h => by cases h) dX4_answerForAlive_142
          · rw [if_neg c12] at hF
            refine lv_iconst (v := 5) hx hb dX4_answerForAlive_125 (by decide) ?_
            subst hQ9
            exact W.iret hx hb hr (fun t ht hW => ⟨_, rfl, hF, ht⟩) (fun q h => by cases h) dX4_answerForAlive_126
        · rw [if_neg c11] at hF
          have c11f : ¬ F_X4_isForbidden z v f t a = 0 := by rw [← hr10]; exact c11
          refine lv_iconst (v := 4) hx hb dX4_answerForAlive_115 (by decide) ?_
          subst hQ9
          exact W.iret hx hb hr (fun t ht hW => ⟨_, rfl, hF, ht⟩) (fun q h => by cases h) dX4_answerForAlive_116
      · rw [if_neg c9] at hF
        refine lv_aload_n hx hb dX4_answerForAlive_87 rfl (lv_at hl 4 rfl) ?_
        refine lv_iconst (v := 0) hx hb dX4_answerForAlive_88 (by decide) ?_
        refine lv_iload_n hx hb dX4_answerForAlive_89 rfl (lv_at hl 7 rfl) ?_
        refine lv_iload hx hb dX4_answerForAlive_90 (lv_at hl 8 rfl) ?_
        refine lv_iload hx hb dX4_answerForAlive_92 (lv_at hl 3 rfl) ?_
        refine vp_callSi (W.runV (As := [.int 0, .int pl, .int day, .int r1]) (rest := []) ⟨hx, hb, hml, hown, hts⟩ (c_X4_ownersOf l dC dI ad cI cZ z v f 0 pl day r1 hok) (cwV 4 hts gX4_answerForAlive_X4_ownersOf rfl rfl rfl (by decide +kernel) ⟨Nat.le_of_ble_eq_true rfl, Nat.le_of_ble_eq_true rfl⟩) (preX (ci := 4) (q0 := 0) hP hK hN rfl rfl rfl) rfl rfl hl.1 rfl (lv_room (Nat.le_of_ble_eq_true rfl)) dX4_answerForAlive_94 ⟨Nat.zero_le _, Nat.zero_le _⟩) (fun r14 h9 => ?_)
        have hr14 : r14 = F_X4_ownersOf z v f 0 pl day r1 := h9
        try rw [← hr14] at hF
        refine lv_iload_n hx hb dX4_answerForAlive_97 rfl (lv_at hl 5 rfl) ?_
        refine vp_callSi (W.runS (As := [.int r14, .int t]) (rest := []) ⟨hx, hb, hml, hown, hts⟩ (c_X4_holds l r14 t) (cwS 2 hts gX4_answerForAlive_X4_holds rfl rfl rfl (by decide +kernel) ⟨Nat.le_of_ble_eq_true rfl, Nat.le_of_ble_eq_true rfl⟩) preT rfl rfl hl.1 rfl (lv_room (Nat.le_of_ble_eq_true rfl)) dX4_answerForAlive_98 ⟨Nat.zero_le _, Nat.zero_le _⟩) (fun r15 h9 => ?_)
        have hr15 : r15 = F_X4_holds r14 t := h9
        try rw [← hr15] at hF
        refine lv_if_eq (tgt := 106) hx hb dX4_answerForAlive_101 (by decide) (fun c16 => ?_) (fun c16 => ?_)
        · rw [if_pos c16] at hF
          have c16f : F_X4_holds r14 t = 0 := by rw [← hr15]; exact c16
          refine lv_aload_n hx hb dX4_answerForAlive_106 rfl (lv_at hl 4 rfl) ?_
          refine lv_iload_n hx hb dX4_answerForAlive_107 rfl (lv_at hl 5 rfl) ?_
          refine lv_iload_n hx hb dX4_answerForAlive_108 rfl (lv_at hl 6 rfl) ?_
          refine vp_callSi (W.runV (As := [.int t, .int a]) (rest := []) ⟨hx, hb, hml, hown, hts⟩ (c_X4_isForbidden l dC dI ad cI cZ z v f t a hok ht) (cwV 2 hts gX4_answerForAlive_X4_isForbidden rfl rfl rfl (by decide +kernel) ⟨Nat.le_of_ble_eq_true rfl, Nat.le_of_ble_eq_true rfl⟩) (preX (ci := 4) (q0 := 0) hP hK hN rfl rfl rfl) rfl rfl hl.1 rfl (lv_room (Nat.le_of_ble_eq_true rfl)) dX4_answerForAlive_109 ⟨Nat.zero_le _, Nat.zero_le _⟩) (fun r17 h9 => ?_)
          have hr17 : r17 = F_X4_isForbidden z v f t a := h9
          try rw [← hr17] at hF
          refine lv_if_eq (tgt := 117) hx hb dX4_answerForAlive_112 (by decide) (fun c18 => ?_) (fun c18 => ?_)
          · rw [if_pos c18] at hF
            have c18f : F_X4_isForbidden z v f t a = 0 := by rw [← hr17]; exact c18
            refine lv_iload hx hb dX4_answerForAlive_117 (lv_at hl 0 rfl) ?_
            refine lv_iload hx hb dX4_answerForAlive_119 (lv_at hl 3 rfl) ?_
            refine lv_iand hx hb dX4_answerForAlive_121 ?_
            refine lv_if_eq (tgt := 127) hx hb dX4_answerForAlive_122 (by decide) (fun c19 => ?_) (fun c19 => ?_)
            · rw [if_pos c19] at hF
              refine lv_iload hx hb dX4_answerForAlive_127 (lv_at hl 1 rfl) ?_
              refine lv_iload hx hb dX4_answerForAlive_129 (lv_at hl 0 rfl) ?_
              refine lv_ior hx hb dX4_answerForAlive_131 ?_
              refine lv_if_eq (tgt := 140) hx hb dX4_answerForAlive_132 (by decide) (fun c20 => ?_) (fun c20 => ?_)
              · rw [if_pos c20] at hF
                refine lv_bipush (v := 7) hx hb dX4_answerForAlive_140 (by decide) ?_
                subst hQ9
                exact W.iret hx hb hr (fun t ht hW => ⟨_, rfl, hF, ht⟩) (fun q h => by cases h) dX4_answerForAlive_142
              · rw [if_neg c20] at hF
                refine lv_bipush (v := 6) hx hb dX4_answerForAlive_135 (by decide) ?_
                refine lv_goto (tgt := 142) hx hb dX4_answerForAlive_137 (by decide) ?_
                subst hQ9
                exact W.iret hx hb hr (fun t ht hW => ⟨_, rfl, hF, ht⟩) (fun q h => by cases h) dX4_answerForAlive_142
            · rw [if_neg c19] at hF
              refine lv_iconst (v := 5) hx hb dX4_answerForAlive_125 (by decide) ?_
              subst hQ9
              exact W.iret hx hb hr (fun t ht hW => ⟨_, rfl, hF, ht⟩) (fun q h => by cases h) dX4_answerForAlive_126
          · rw [if_neg c18] at hF
            have c18f : ¬ F_X4_isForbidden z v f t a = 0 := by rw [← hr17]; exact c18
            refine lv_iconst (v := 4) hx hb dX4_answerForAlive_115 (by decide) ?_
            subst hQ9
            exact W.iret hx hb hr (fun t ht hW => ⟨_, rfl, hF, ht⟩) (fun q h => by cases h) dX4_answerForAlive_116
        · rw [if_neg c16] at hF
          have c16f : ¬ F_X4_holds r14 t = 0 := by rw [← hr15]; exact c16
          refine lv_iconst (v := 0) hx hb dX4_answerForAlive_104 (by decide) ?_
          subst hQ9
          exact W.iret hx hb hr (fun t ht hW => ⟨_, rfl, hF, ht⟩) (fun q h => by cases h) dX4_answerForAlive_105
    · rw [if_neg c8] at hF
      refine lv_iconst (v := 0) hx hb dX4_answerForAlive_77 (by decide) ?_
      subst hQ9
      exact W.iret hx hb hr (fun t ht hW => ⟨_, rfl, hF, ht⟩) (fun q h => by cases h) dX4_answerForAlive_78
  · rw [if_neg c4] at hF
    have c4f : ¬ F_X4_holds r2 t = 0 := by rw [← hr3]; exact c4
    refine lv_iconst (v := 0) hx hb dX4_answerForAlive_29 (by decide) ?_
    subst hQ9
    exact W.iret hx hb hr (fun t ht hW => ⟨_, rfl, hF, ht⟩) (fun q h => by cases h) dX4_answerForAlive_30
