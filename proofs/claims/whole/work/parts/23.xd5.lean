def F_X4_done (z : Nat → Nat) (v : Nat → Int32) (f : Nat → Nat → Int32) (a pl day t u : Int32) : Int32 :=
  if F_X4_may z v f t a pl day = 0 then
    if F_X4_needsTwo z v f a = 0 then
      0
    else
      if F_X4_may z v f u a pl day = 0 then
        if t = u then
          3
        else
          if f 2 t.toNatClampNeg = u then
            3
          else
            if f 2 u.toNatClampNeg = t then
              3
            else
              0
      else
        2
  else
    1
set_option maxHeartbeats 4000000 in
set_option maxRecDepth 100000 in
theorem c_X4_done (l : Launch) (dC : Nat → ClassId) (dI : Nat → Nat → Nat) (ad : Nat → Nat) (cI cZ : ClassId) (z : Nat → Nat) (v : Nat → Int32) (f : Nat → Nat → Int32) (a pl day t u : Int32) (hok : okX z v f) : Met l yX4_done wsX4_done ({ frames := 6, cells := 0, slots := 0, locals := 148 }) (va_Pc [.ref (ad 0), .int a, .int pl, .int day, .int t, .int u] (kX dC dI ad cI cZ z v f)) (vp_Si (fun r => r = F_X4_done z v f a pl day t u)) 0 0 (fun _ => False) := by
  refine Met.ofW (cc := cX4_done) (maxL := 6) (ret := (some .int)) (by decide) rfl ?_
  intro p e s m args below meth c s₁ B hml hv
  obtain ⟨rfl, hP, hK, hN⟩ := hv
  have hx := B.exec
  have hb := B.bytes
  have hr := B.returns
  have hts := atoms_spec (ws := wsX4_done) B.pre
  have hown : s.vm.findClass RX4 = some m.cls := findClass_of_methodNamed B.named
  have hlocks := B.notSynchronized
  have hok9 := hok
  obtain ⟨hz0, hz1, hz2, hz3, hz4, hbz, hbs⟩ := hok9
  have hfl23 := hts (.fieldLink RX4 23 "TraderRights" "deputies" "[I") (List.mem_of_getElem? (i := 1) rfl)
  have hinX4 : ∀ w ∈ u_ws RX4 TX4 11, w ∈ wsX4_done := fun w h => List.mem_cons_of_mem _ (List.mem_append_left _ (List.mem_append_left _ (List.mem_append_left _ (List.mem_append_right _ h))))
  have hl := lv_entry ([.ref (ad 0), .int a, .int pl, .int day, .int t, .int u]) (n := 6) (Nat.le_of_ble_eq_true rfl)
  rw [lg_entry_eq]
  generalize (lg_sl ([.ref (ad 0), .int a, .int pl, .int day, .int t, .int u]) ++ List.replicate (6 - (lg_sl ([.ref (ad 0), .int a, .int pl, .int day, .int t, .int u])).length) Slot.unset).toArray = ls at hl ⊢
  have hl : lv_has ls 6 [(0, .ref (ad 0)), (1, .int a), (2, .int pl), (3, .int day), (4, .int t), (5, .int u)] := hl
  generalize hF : F_X4_done z v f a pl day t u = R9
  generalize hQ9 : MQ below (vp_Si (fun r => r = R9)) _ s 0 0 (fun _ => False) = Q9
  rw [F_X4_done] at hF
  refine lv_aload_n hx hb dX4_done_0 rfl (lv_at hl 0 rfl) ?_
  refine lv_iload hx hb dX4_done_1 (lv_at hl 4 rfl) ?_
  refine lv_iload_n hx hb dX4_done_3 rfl (lv_at hl 1 rfl) ?_
  refine lv_iload_n hx hb dX4_done_4 rfl (lv_at hl 2 rfl) ?_
  refine lv_iload_n hx hb dX4_done_5 rfl (lv_at hl 3 rfl) ?_
  refine vp_callSi (W.runV (As := [.int t, .int a, .int pl, .int day]) (rest := []) ⟨hx, hb, hml, hown, hts⟩ (c_X4_may l dC dI ad cI cZ z v f t a pl day hok) (cwV 4 hts gX4_done_X4_may rfl rfl rfl (by decide +kernel) ⟨Nat.le_of_ble_eq_true rfl, Nat.le_of_ble_eq_true rfl⟩) (preX (ci := 4) (q0 := 0) hP hK hN rfl rfl rfl) rfl rfl hl.1 rfl (lv_room (Nat.le_of_ble_eq_true rfl)) dX4_done_6 ⟨Nat.zero_le _, Nat.zero_le _⟩) (fun r1 h9 => ?_)
  have hr1 : r1 = F_X4_may z v f t a pl day := h9
  try rw [← hr1] at hF
  refine lv_if_eq (tgt := 14) hx hb dX4_done_9 (by decide) (fun c2 => ?_) (fun c2 => ?_)
  · rw [if_pos c2] at hF
    have c2f : F_X4_may z v f t a pl day = 0 := by rw [← hr1]; exact c2
    refine lv_aload_n hx hb dX4_done_14 rfl (lv_at hl 0 rfl) ?_
    refine lv_iload_n hx hb dX4_done_15 rfl (lv_at hl 1 rfl) ?_
    refine vp_callSi (W.runV (As := [.int a]) (rest := []) ⟨hx, hb, hml, hown, hts⟩ (c_X4_needsTwo l dC dI ad cI cZ z v f a hok) (cwV 1 hts gX4_done_X4_needsTwo rfl rfl rfl (by decide +kernel) ⟨Nat.le_of_ble_eq_true rfl, Nat.le_of_ble_eq_true rfl⟩) (preX (ci := 4) (q0 := 0) hP hK hN rfl rfl rfl) rfl rfl hl.1 rfl (lv_room (Nat.le_of_ble_eq_true rfl)) dX4_done_16 ⟨Nat.zero_le _, Nat.zero_le _⟩) (fun r3 h9 => ?_)
    have hr3 : r3 = F_X4_needsTwo z v f a := h9
    try rw [← hr3] at hF
    refine lv_if_ne (tgt := 24) hx hb dX4_done_19 (by decide) (fun c4 => ?_) (fun c4 => ?_)
    · rw [if_neg c4] at hF
      have c4f : ¬ F_X4_needsTwo z v f a = 0 := by rw [← hr3]; exact c4
      refine lv_aload_n hx hb dX4_done_24 rfl (lv_at hl 0 rfl) ?_
      refine lv_iload hx hb dX4_done_25 (lv_at hl 5 rfl) ?_
      refine lv_iload_n hx hb dX4_done_27 rfl (lv_at hl 1 rfl) ?_
      refine lv_iload_n hx hb dX4_done_28 rfl (lv_at hl 2 rfl) ?_
      refine lv_iload_n hx hb dX4_done_29 rfl (lv_at hl 3 rfl) ?_
      refine vp_callSi (W.runV (As := [.int u, .int a, .int pl, .int day]) (rest := []) ⟨hx, hb, hml, hown, hts⟩ (c_X4_may l dC dI ad cI cZ z v f u a pl day hok) (cwV 4 hts gX4_done_X4_may rfl rfl rfl (by decide +kernel) ⟨Nat.le_of_ble_eq_true rfl, Nat.le_of_ble_eq_true rfl⟩) (preX (ci := 4) (q0 := 0) hP hK hN rfl rfl rfl) rfl rfl hl.1 rfl (lv_room (Nat.le_of_ble_eq_true rfl)) dX4_done_30 ⟨Nat.zero_le _, Nat.zero_le _⟩) (fun r5 h9 => ?_)
      have hr5 : r5 = F_X4_may z v f u a pl day := h9
      try rw [← hr5] at hF
      refine lv_if_eq (tgt := 38) hx hb dX4_done_33 (by decide) (fun c6 => ?_) (fun c6 => ?_)
      · rw [if_pos c6] at hF
        have c6f : F_X4_may z v f u a pl day = 0 := by rw [← hr5]; exact c6
        refine lv_iload hx hb dX4_done_38 (lv_at hl 4 rfl) ?_
        refine lv_iload hx hb dX4_done_40 (lv_at hl 5 rfl) ?_
        refine lv_icmp_eq (tgt := 69) hx hb dX4_done_42 (by decide) (fun c7 => ?_) (fun c7 => ?_)
        · rw [if_pos c7] at hF
          refine lv_iconst (v := 3) hx hb dX4_done_69 (by decide) ?_
          subst hQ9
          exact W.iret hx hb hr (fun t ht hW => ⟨_, rfl, hF, ht⟩) (fun q h => by cases h) dX4_done_70
        · rw [if_neg c7] at hF
          refine lv_aload_n hx hb dX4_done_45 rfl (lv_at hl 0 rfl) ?_
          refine va_get (D := (dC, dI)) (ci := 4) (v := .ref (ad 3)) (C := RX4) (T := TX4) (N := 11) hx hb hts hinX4 hown hK hP 0 rfl rfl 4 (by decide) hfl23 (fun _ h9 => h9) rfl dX4_done_46 ?_
          refine lv_iload hx hb dX4_done_49 (lv_at hl 4 rfl) ?_
          refine va_iald hx hb hK hP 3 0 rfl rfl (in_mayX hok c2f) dX4_done_51 ?_
          refine lv_iload hx hb dX4_done_52 (lv_at hl 5 rfl) ?_
          refine lv_icmp_eq (tgt := 69) hx hb dX4_done_54 (by decide) (fun c8 => ?_) (fun c8 => ?_)
          · rw [if_pos c8] at hF
            refine lv_iconst (v := 3) hx hb dX4_done_69 (by decide) ?_
            subst hQ9
            exact W.iret hx hb hr (fun t ht hW => ⟨_, rfl, hF, ht⟩) (fun q h => by cases h) dX4_done_70
          · rw [if_neg c8] at hF
            refine lv_aload_n hx hb dX4_done_57 rfl (lv_at hl 0 rfl) ?_
            refine va_get (D := (dC, dI)) (ci := 4) (v := .ref (ad 3)) (C := RX4) (T := TX4) (N := 11) hx hb hts hinX4 hown hK hP 0 rfl rfl 4 (by decide) hfl23 (fun _ h9 => h9) rfl dX4_done_58 ?_
            refine lv_iload hx hb dX4_done_61 (lv_at hl 5 rfl) ?_
            refine va_iald hx hb hK hP 3 0 rfl rfl (in_mayX hok c6f) dX4_done_63 ?_
            refine lv_iload hx hb dX4_done_64 (lv_at hl 4 rfl) ?_
            refine lv_icmp_ne (tgt := 71) hx hb dX4_done_66 (by decide) (fun c9 => ?_) (fun c9 => ?_)
            · rw [if_neg c9] at hF
              refine lv_iconst (v := 0) hx hb dX4_done_71 (by decide) ?_
              subst hQ9
              exact W.iret hx hb hr (fun t ht hW => ⟨_, rfl, hF, ht⟩) (fun q h => by cases h) dX4_done_72
            · rw [if_pos c9] at hF
              refine lv_iconst (v := 3) hx hb dX4_done_69 (by decide) ?_
              subst hQ9
              exact W.iret hx hb hr (fun t ht hW => ⟨_, rfl, hF, ht⟩) (fun q h => by cases h) dX4_done_70
      · rw [if_neg c6] at hF
        have c6f : ¬ F_X4_may z v f u a pl day = 0 := by rw [← hr5]; exact c6
        refine lv_iconst (v := 2) hx hb dX4_done_36 (by decide) ?_
        subst hQ9
        exact W.iret hx hb hr (fun t ht hW => ⟨_, rfl, hF, ht⟩) (fun q h => by cases h) dX4_done_37
    · rw [if_pos c4] at hF
      have c4f : F_X4_needsTwo z v f a = 0 := by rw [← hr3]; exact c4
      refine lv_iconst (v := 0) hx hb dX4_done_22 (by decide) ?_
      subst hQ9
      exact W.iret hx hb hr (fun t ht hW => ⟨_, rfl, hF, ht⟩) (fun q h => by cases h) dX4_done_23
  · rw [if_neg c2] at hF
    have c2f : ¬ F_X4_may z v f t a pl day = 0 := by rw [← hr1]; exact c2
    refine lv_iconst (v := 1) hx hb dX4_done_12 (by decide) ?_
    subst hQ9
    exact W.iret hx hb hr (fun t ht hW => ⟨_, rfl, hF, ht⟩) (fun q h => by cases h) dX4_done_13
